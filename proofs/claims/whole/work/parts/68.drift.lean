theorem GN_stB {p : Pg} {N : Nat → Int32} {how v : Nat} (hw : WB p) (hx : WX p) (h0 : 0 < nT p) (h : GN p N) : GN p (stB p N how v) := by
  have hC := hw.1.2.2.2
  unfold stB
  split
  · split
    · exact h
    · exact GN_ld hw hx (Nat.mod_lt _ h0) h
  · split
    · split
      · exact GN_root h
      · exact h
    · split
      · split
        · rename_i hc
          split
          · rename_i hcb
            exact GN_bnd hw h (Nat.mod_lt _ hc) hcb
          · exact h
        · exact h
      · split
        · rename_i hc
          have := Nat.mod_lt v hc
          exact GN_free (by omega) h
        · exact h
section drift
variable {g : mG} {h : mH} {sz u pl sp : Nat} {fp : Int32} {p : Pg} {psc ss N js : Nat → Int32} {par_ sa ja : Nat → Nat → Int32}
set_option maxRecDepth 20000 in
set_option maxHeartbeats 1000000 in
theorem w_dOnce (E1 : ∀ ss sa js ja, scW h 4 ss sa js ja 1 = ebO pl sp fp) (E3 : ∀ ss sa js ja, bAt 3 (scW h 4 ss sa js ja) pl psc par_) (hp : CP p psc par_) (hx : WX p) (hG : GN p N) (hSR : SR (nC p) N ss (sa 5) js ja) (h0 : 0 < nT p) {lot : Nat} (hlot : lot < 2 ^ 31) : Mt g 5 m_EB_driftOnce [.ref 1, .int (nI lot)] (scW h 4 ss sa js ja) sz u (PS h (nC p) (stB p N (lot % 4) (lot / 4)) none) sz u := by
  have hq := hp.1
  obtain ⟨hT, hB, hS, hC⟩ := hp.1.1.1
  have h1 := E1 ss sa js ja
  have hP := E3 ss sa js ja
  have hN : bAt 5 (scW h 4 ss sa js ja) 4 ss sa := blkW_at
  have hL := hSR.1.1
  have hR := hSR.1.2.1
  have m1 : lot / 4 % nT p < nT p := Nat.mod_lt _ h0
  refine Mt.of m_EB_driftOnce_w m_EB_driftOnce_x m_EB_driftOnce_c rfl rfl (ls := [.ref 1, .int (nI lot)]) rfl ?_
  refine V_iload_n rfl rfl ?_
  refine V_iconst (v := 4) rfl (by decide) ?_
  refine V_remN (a := lot) (b := 4) rfl hlot (by decide) (by decide) ?_
  have h4 : lot % 4 = 0 ∨ lot % 4 = 1 ∨ lot % 4 = 2 ∨ lot % 4 = 3 := by omega
  generalize lot % 4 = how at h4
  rcases h4 with rfl | rfl | rfl | rfl
  · have hd : stB p N 0 (lot / 4) = if bt (N 0) (lot / 4 % nT p) then N else ldF p N (lot / 4 % nT p) (nC p) := rfl
    have hd2 : stB p N 0 (lot / 4) = ldF p N (lot / 4 % nT p) (nC p) := by
      rw [hd]
      by_cases hb : bt (N 0) (lot / 4 % nT p) = true
      · rw [if_pos hb, ldF_id hq.1 hG hb (nC p) (Nat.le_refl _)]
      · rw [if_neg hb]
    rw [hd2]
    refine V_tabIn (off := 25) (tg := 28) rfl (by decide) (by decide) (by decide) (by decide) ?_
    refine V_aload_n rfl rfl ?_
    refine V_iload_n rfl rfl ?_
    refine V_aload_n rfl rfl ?_
    refine V_getfield rfl rfl (by first | assumption | exact blkW_0 | exact bAt_0 (by assumption) | exact bAt_0 (hA _ _) | rfl) (by rfl) ?_
    refine V_getI rfl rfl (by first | assumption | exact blkW_0 | exact bAt_0 (by assumption) | exact bAt_0 (hA _ _) | rfl) (by rfl) (by first | exact cq_nT (by assumption) | rfl) ?_
    refine V_callSi rfl rfl (Or.inl rfl) m_EB_pick_w m_EB_pick_x rfl rfl (s_pick hlot (by omega)) (by decide) rfl (Nat.le_of_ble_eq_true rfl) ?_
    rw [if_pos h0]
    refine V_callV rfl rfl m_EB_loadWithAbove_w m_EB_loadWithAbove_x rfl (by decide) rfl (w_lwa E1 E3 hp hx hG hSR m1) (by decide) rfl (by first | assumption | exact blkW_0 | exact bAt_0 (by assumption) | exact bAt_0 (hA _ _) | rfl) (Nat.le_of_ble_eq_true rfl) (by first | exact Nat.le_refl _ | omega | decide) (by first | exact Nat.le_refl _ | omega | decide) (fun r hh1 hP => ?_)
    obtain ⟨rfl, ss2, sa2, js2, ja2, rfl, hSR2⟩ := hP
    refine V_pop rfl rfl ?_
    refine V_goto rfl ?_
    refine V_return rfl rfl ?_
    exact ⟨rfl, ss2, sa2, js2, ja2, rfl, hSR2⟩
  · have hd : stB p N 1 (lot / 4) = if 0 < nB p then upd N 1 (N 1 ^^^ bI (lot / 4 % nB p)) else N := rfl
    rw [hd]
    refine V_tabIn (off := 44) (tg := 47) rfl (by decide) (by decide) (by decide) (by decide) ?_
    refine V_aload_n rfl rfl ?_
    refine V_getfield rfl rfl (by first | assumption | exact blkW_0 | exact bAt_0 (by assumption) | exact bAt_0 (hA _ _) | rfl) (by rfl) ?_
    refine V_dup rfl rfl ?_
    refine V_getI rfl rfl (by first | assumption | exact blkW_0 | exact bAt_0 (by assumption) | exact bAt_0 (hA _ _) | rfl) (by rfl) (by first | exact (by assumption) | rfl) ?_
    refine V_iload_n rfl rfl ?_
    refine V_aload_n rfl rfl ?_
    refine V_getfield rfl rfl (by first | assumption | exact blkW_0 | exact bAt_0 (by assumption) | exact bAt_0 (hA _ _) | rfl) (by rfl) ?_
    refine V_getI rfl rfl (by first | assumption | exact blkW_0 | exact bAt_0 (by assumption) | exact bAt_0 (hA _ _) | rfl) (by rfl) (by first | exact cq_nB (by assumption) | rfl) ?_
    refine V_callSi rfl rfl (Or.inl rfl) m_EB_pick_w m_EB_pick_x rfl rfl (s_pick hlot (by omega)) (by decide) rfl (Nat.le_of_ble_eq_true rfl) ?_
    by_cases hb : 0 < nB p
    · have m2 : lot / 4 % nB p < nB p := Nat.mod_lt _ hb
      rw [if_pos hb, if_pos hb]
      refine V_callSi rfl rfl (Or.inl rfl) m_EB_bit_w m_EB_bit_x rfl rfl (s_bitv _ (by first | exact bitV_b (by first | omega | assumption) | exact bitV_m1 | rfl)) (by decide) rfl (Nat.le_of_ble_eq_true rfl) ?_
      refine V_ixor rfl ?_
      first | refine V_pput rfl rfl rfl rfl rfl ?_ | refine V_bput rfl rfl rfl rfl rfl rfl ?_ | refine V_bputZ rfl rfl rfl rfl rfl rfl (by decide) ?_ | refine V_put rfl rfl (by first | assumption | rfl) (by decide) (fun _ hty => by cases hty; exact ⟨rfl, rfl⟩) (by first | exact Or.inl rfl | exact Or.inr ⟨rfl, rfl⟩) rfl ?_
      refine V_goto rfl ?_
      refine V_return rfl rfl ?_
      exact ⟨rfl, _, sa, js, ja, rfl, SR_root hSR⟩
    · rw [if_neg hb, if_neg hb]
      refine V_callSi rfl rfl (Or.inl rfl) m_EB_bit_w m_EB_bit_x rfl rfl (s_bitv _ (by first | exact bitV_b (by first | omega | assumption) | exact bitV_m1 | rfl)) (by decide) rfl (Nat.le_of_ble_eq_true rfl) ?_
      refine V_ixor rfl ?_
      first | refine V_pput rfl rfl rfl rfl rfl ?_ | refine V_bput rfl rfl rfl rfl rfl rfl ?_ | refine V_bputZ rfl rfl rfl rfl rfl rfl (by decide) ?_ | refine V_put rfl rfl (by first | assumption | rfl) (by decide) (fun _ hty => by cases hty; exact ⟨rfl, rfl⟩) (by first | exact Or.inl rfl | exact Or.inr ⟨rfl, rfl⟩) rfl ?_
      refine V_goto rfl ?_
      refine V_return rfl rfl ?_
      refine ⟨rfl, _, sa, js, ja, rfl, ?_⟩
      rw [fa_upd_same (by rw [Int32.xor_zero]; exact hR)]
      exact hSR
  · have hd : stB p N 2 (lot / 4) = if 0 < nC p then (if canB p N (lot / 4 % nC p) then bndF p N (lot / 4 % nC p) else N) else N := rfl
    rw [hd]
    refine V_tabIn (off := 73) (tg := 76) rfl (by decide) (by decide) (by decide) (by decide) ?_
    refine V_aload_n rfl rfl ?_
    refine V_iload_n rfl rfl ?_
    refine V_aload_n rfl rfl ?_
    refine V_getfield rfl rfl (by first | assumption | exact blkW_0 | exact bAt_0 (by assumption) | exact bAt_0 (hA _ _) | rfl) (by rfl) ?_
    refine V_getI rfl rfl (by first | assumption | exact blkW_0 | exact bAt_0 (by assumption) | exact bAt_0 (hA _ _) | rfl) (by rfl) (by first | exact cq_nC (by assumption) | rfl) ?_
    refine V_callSi rfl rfl (Or.inl rfl) m_EB_pick_w m_EB_pick_x rfl rfl (s_pick hlot (by omega)) (by decide) rfl (Nat.le_of_ble_eq_true rfl) ?_
    by_cases hb : 0 < nC p
    · have m2 : lot / 4 % nC p < nC p := Nat.mod_lt _ hb
      rw [if_pos hb, if_pos hb]
      refine V_callV rfl rfl m_EB_driftBind_w m_EB_driftBind_x rfl (by decide) rfl (w_dBind E1 E3 hp hx hG hSR m2) (by decide) rfl (by first | assumption | exact blkW_0 | exact bAt_0 (by assumption) | exact bAt_0 (hA _ _) | rfl) (Nat.le_of_ble_eq_true rfl) (by first | exact Nat.le_refl _ | omega | decide) (by first | exact Nat.le_refl _ | omega | decide) (fun r hh1 hP => ?_)
      obtain ⟨rfl, ss2, sa2, js2, ja2, rfl, hSR2⟩ := hP
      refine V_goto rfl ?_
      refine V_return rfl rfl ?_
      exact ⟨rfl, ss2, sa2, js2, ja2, rfl, hSR2⟩
    · rw [if_neg hb, if_neg hb]
      refine V_callVn rfl rfl m_EB_driftBind_w m_EB_driftBind_x rfl (by decide) rfl (w_dBind0 E1 E3 hp) (by decide) rfl (by first | assumption | exact blkW_0 | exact bAt_0 (by assumption) | exact bAt_0 (hA _ _) | rfl) (Nat.le_of_ble_eq_true rfl) ?_
      refine V_goto rfl ?_
      refine V_return rfl rfl ?_
      exact ⟨rfl, ss, sa, js, ja, rfl, hSR⟩
  · have hd : stB p N 3 (lot / 4) = if 0 < nC p then upd N (2 + lot / 4 % nC p) (-1) else N := rfl
    rw [hd]
    refine V_tabOut (tg := 94) rfl (by decide) (by decide) ?_
    refine V_aload_n rfl rfl ?_
    refine V_getfield rfl rfl (by first | assumption | exact blkW_0 | exact bAt_0 (by assumption) | exact bAt_0 (hA _ _) | rfl) (by rfl) ?_
    refine V_iload_n rfl rfl ?_
    refine V_aload_n rfl rfl ?_
    refine V_getfield rfl rfl (by first | assumption | exact blkW_0 | exact bAt_0 (by assumption) | exact bAt_0 (hA _ _) | rfl) (by rfl) ?_
    refine V_getI rfl rfl (by first | assumption | exact blkW_0 | exact bAt_0 (by assumption) | exact bAt_0 (hA _ _) | rfl) (by rfl) (by first | exact cq_nC (by assumption) | rfl) ?_
    refine V_callSi rfl rfl (Or.inl rfl) m_EB_pick_w m_EB_pick_x rfl rfl (s_pick hlot (by omega)) (by decide) rfl (Nat.le_of_ble_eq_true rfl) ?_
    by_cases hb : 0 < nC p
    · have m2 : lot / 4 % nC p < nC p := Nat.mod_lt _ hb
      rw [if_pos hb, if_pos hb]
      refine V_callVn rfl rfl m_Scen_setFree_w m_Scen_setFree_x rfl (by decide) rfl (w_setFree (show lot / 4 % nC p < 24 by omega)) (by decide) rfl (by first | assumption | exact blkW_0 | exact bAt_0 (by assumption) | exact bAt_0 (hA _ _) | rfl) (Nat.le_of_ble_eq_true rfl) ?_
      refine V_return rfl rfl ?_
      exact ⟨rfl, ss, _, js, ja, rfl, by simp only [va_up, if_pos]; exact SR_free m2 hC hSR⟩
    · rw [if_neg hb, if_neg hb]
      refine V_callVn rfl rfl m_Scen_setFree_w m_Scen_setFree_x rfl (by decide) rfl (w_setFree0) (by decide) rfl (by first | assumption | exact blkW_0 | exact bAt_0 (by assumption) | exact bAt_0 (hA _ _) | rfl) (Nat.le_of_ble_eq_true rfl) ?_
      refine V_return rfl rfl ?_
      exact ⟨rfl, ss, sa, js, ja, rfl, hSR⟩
end drift
