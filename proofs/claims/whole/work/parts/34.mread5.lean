theorem cnS_m {p : Pg} {i : Nat} (n : Nat) : i < n → sK p i = 1 → cnS p i < cnS p n := by
  induction n with
  | zero => intro h; omega
  | succ n ih =>
    intro h hi
    show _ < (if sK p n = 1 then cnS p n + 1 else cnS p n)
    by_cases e : i = n
    · subst e
      rw [if_pos hi]; omega
    · have := ih (by omega) hi
      by_cases e2 : sK p n = 1
      · rw [if_pos e2]; omega
      · rw [if_neg e2]; exact this
theorem csF_at {p : Pg} {i : Nat} (n : Nat) : i < n → sK p i = 1 → csF p n (cnS p i) = i := by
  induction n with
  | zero => intro h; omega
  | succ n ih =>
    intro h hi
    show (if sK p n = 1 ∧ cnS p i = cnS p n then n else csF p n (cnS p i)) = i
    by_cases e : i = n
    · subst e
      rw [if_pos ⟨hi, rfl⟩]
    · have := cnS_m n (by omega) hi
      rw [if_neg (fun z => by omega)]
      exact ih (by omega) hi
theorem va_w {A : Nat → Nat → Int32} {k j : Nat} {r : Nat → Int32} {x : Int32} : va_up (va_up A k r) k (upd (va_up A k r k) j x) = va_up A k (upd r j x) := by
  funext i
  unfold va_up
  by_cases e : i = k
  · simp [e]
  · simp [e]
/-- the state at the beginning -/
def nw0 (j : Nat) : Int32 := if 2 ≤ j ∧ j ≤ 25 then -1 else 0
theorem in_nw : ∀ i, i < 45 → decide ((2 : Int64) ≤ (nI i).toInt64 ∧ (nI i).toInt64 ≤ 25) = decide (2 ≤ i ∧ i ≤ 25) := by decide
section mread5
variable {g : mG} {h : mH} {sz u md : Nat} {p : Pg} {S f : Nat → Int32} {A q : Nat → Nat → Int32}
set_option maxRecDepth 20000 in
set_option maxHeartbeats 1000000 in
theorem e_tr4 {x1 x2 x3 : Value} : V g 1 m_MD_takeRead (Pn (blkW 7 h md S (va_up A 15 (fl 45 nw0 (A 15))))) sz u 328 [.ref md, x1, x2, x3] [] (blkW 7 h md S A) sz u := by
  refine V_iconst (v := 0) rfl (by decide) ?_
  refine V_is1 rfl (by first | rfl | assumption) ?_
  refine V_for2 45 (fun i => [.ref md, .int (nI i), x2, x3]) (fun i => blkW 7 h md S (va_up A 15 (fl i nw0 (A 15)))) rfl (by rw [fl_0, va_self]) (fun i hi ih => ?_) ?_
  · refine V_iload_n rfl rfl ?_
    refine V_bipush (v := 45) rfl (by decide) ?_
    refine V_icmp_geF rfl (nI_ge (b := 45) hi (by decide)) ?_
    refine V_aload_n rfl rfl ?_
    refine V_getfield rfl rfl (by first | assumption | exact blkW_0 | exact bAt_0 (by assumption) | rfl) (by rfl) ?_
    refine V_iload_n rfl rfl ?_
    refine V_iload_n rfl rfl ?_
    refine V_i2l rfl ?_
    refine V_ldc2 rfl rfl ?_
    refine V_ldc2 rfl rfl ?_
    refine V_callSi rfl rfl (Or.inl rfl) m_MD_in_w m_MD_in_x rfl rfl (s_in _ _ _) (by decide) rfl (Nat.le_of_ble_eq_true rfl) ?_
    rw [in_nw i hi]
    by_cases e : 2 ≤ i ∧ i ≤ 25
    · rw [decide_eq_true e]
      refine V_if_eqF rfl (by decide) ?_
      refine V_iconst (v := (-1)) rfl (by decide) ?_
      refine V_goto rfl ?_
      first | refine V_past rfl rfl rfl rfl (by first | with_reducible rfl | exact nI_add 2 _ | exact nI_add 26 _ | exact ix45 _ _ | exact ixm45 _ | exact ix25 _ | exact fa_lit _ | assumption) (by first | omega | assumption | decide) (by first | decide | omega | assumption) ?_ | refine V_bast rfl rfl rfl (by first | with_reducible rfl | exact nI_add 2 _ | exact nI_add 26 _ | exact ix45 _ _ | exact ixm45 _ | exact ix25 _ | exact fa_lit _ | assumption) (by first | omega | assumption | decide) (by first | decide | omega | assumption) ?_ | refine V_iastore rfl (by first | assumption | exact blkW_i rfl rfl | exact blkW_z rfl rfl | exact bAt_i (by assumption) rfl rfl | exact bAt_z (by assumption) rfl rfl | rfl) (by first | with_reducible rfl | exact nI_add 2 _ | exact nI_add 26 _ | exact ix45 _ _ | exact ixm45 _ | exact ix25 _ | exact fa_lit _ | assumption) (by first | omega | assumption | decide) (by first | decide | omega | assumption) ?_
      rw [va_w, fl_u (show (-1 : Int32) = nw0 i by unfold nw0; rw [if_pos e])]
      refine V_inc1 rfl (by first | exact mInc _ | rfl) (by first | rfl | assumption) ?_
      refine V_goto rfl ?_
      exact ih
    · rw [decide_eq_false e]
      refine V_if_eqT rfl (rfl) ?_
      refine V_iconst (v := 0) rfl (by decide) ?_
      first | refine V_past rfl rfl rfl rfl (by first | with_reducible rfl | exact nI_add 2 _ | exact nI_add 26 _ | exact ix45 _ _ | exact ixm45 _ | exact ix25 _ | exact fa_lit _ | assumption) (by first | omega | assumption | decide) (by first | decide | omega | assumption) ?_ | refine V_bast rfl rfl rfl (by first | with_reducible rfl | exact nI_add 2 _ | exact nI_add 26 _ | exact ix45 _ _ | exact ixm45 _ | exact ix25 _ | exact fa_lit _ | assumption) (by first | omega | assumption | decide) (by first | decide | omega | assumption) ?_ | refine V_iastore rfl (by first | assumption | exact blkW_i rfl rfl | exact blkW_z rfl rfl | exact bAt_i (by assumption) rfl rfl | exact bAt_z (by assumption) rfl rfl | rfl) (by first | with_reducible rfl | exact nI_add 2 _ | exact nI_add 26 _ | exact ix45 _ _ | exact ixm45 _ | exact ix25 _ | exact fa_lit _ | assumption) (by first | omega | assumption | decide) (by first | decide | omega | assumption) ?_
      rw [va_w, fl_u (show (0 : Int32) = nw0 i by unfold nw0; rw [if_neg e])]
      refine V_inc1 rfl (by first | exact mInc _ | rfl) (by first | rfl | assumption) ?_
      refine V_goto rfl ?_
      exact ih
  · refine V_iload_n rfl rfl ?_
    refine V_bipush (v := 45) rfl (by decide) ?_
    refine V_icmp_geT rfl (nI_le (a := 45) (Nat.le_refl _) (by decide)) ?_
    refine V_return rfl rfl ?_
    exact ⟨rfl, rfl⟩
end mread5
