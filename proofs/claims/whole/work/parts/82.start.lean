/-! ===== both made anew agree ===== -/
theorem GN_0 : GN (fin emp) (zA 15) := by
  refine ⟨⟨fun t ht => ?_, fun t ht => ?_⟩, fun c hc => absurd hc (Nat.not_lt_zero c), ⟨0, by decide, rfl⟩, ⟨0, by decide, rfl⟩⟩
  · exact absurd (show bt (0 : Int32) t = true from ht) (by rw [b_0]; decide)
  · exact absurd (show bt (0 : Int32) t = true from ht) (by rw [b_0]; decide)
theorem CI_0 : CI (wldL (wB 80 94 (-1) 0 0 z0) S0 A0 wL) (-1) z0 (fin emp) (zA 15) 0 (zA 16) 0 (zA 37) (zA 39) (upd z0 18 (-1)) zA := by
  refine ⟨80, 94, 0, 0, S0, A0, rfl, rfl, rfl, Or.inl ⟨rfl, rfl⟩, ⟨⟨fin_WB emp_WR, ⟨rfl, rfl, rfl, rfl, rfl⟩, fun t ht => absurd ht (Nat.not_lt_zero t), fun t ht => absurd ht (Nat.not_lt_zero t), fun t ht => absurd ht (Nat.not_lt_zero t), fun t ht => absurd ht (Nat.not_lt_zero t), fun t m ht hm => ?_⟩, fun t ht => absurd ht (Nat.not_lt_zero t)⟩, fin_WX emp_WR, ⟨⟨rfl, rfl, rfl, rfl⟩, fun c hc => absurd hc (Nat.not_lt_zero c), fun c _ hc => ?_, 0, 0, by decide, by decide, rfl, rfl, rfl, fun i hi => absurd hi (Nat.not_lt_zero i)⟩, GN_0, ⟨rfl, by decide, rfl, fun i hi => absurd hi (Nat.not_lt_zero i)⟩, ⟨rfl, Or.inl rfl⟩, ⟨rfl, Or.inl rfl⟩, ⟨0, by decide, by decide, rfl, rfl, fun i hi => absurd hi (Nat.not_lt_zero i)⟩, fun j hj => ⟨Or.inl rfl, fun z => absurd (show (0 : Int32) = 1 from z) (by decide)⟩⟩
  · show fa_fill (fun _ => (-1 : Int32)) z0 72 (t * 6 + m) = -1
    rw [fa_fill_in (by omega)]
  · show fa_fill (fun _ => (-1 : Int32)) z0 24 c = -1
    rw [fa_fill_in hc]
theorem LI_0 : LI (wldL (wB 80 94 (-1) 0 0 z0) S0 A0 wL) := LI.of CI_0 rfl rfl rfl rfl rfl rfl ⟨fin_WB emp_WR, ⟨rfl, rfl, rfl, rfl⟩, fun t ht => absurd ht (Nat.not_lt_zero t), fun t ht => absurd ht (Nat.not_lt_zero t), fun t ht => absurd ht (Nat.not_lt_zero t), fun t ht => absurd ht (Nat.not_lt_zero t)⟩ rfl rfl
