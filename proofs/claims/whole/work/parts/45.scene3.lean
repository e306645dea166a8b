theorem blkU_f {ci : Nat} {h : mH} {b : Nat} {sc : Nat → Int32} {ar : Nat → Nat → Int32} {o kd k N : Nat} {F : Nat → Int32} (ho : Nat.ble 1 o = true) (hk : arT ci o = some (kd, k, N)) : va_up (blkW ci h b sc ar) (b + o) (.inl (kd, N, F)) = blkW ci h b sc (va_up ar k F) := by
  have ho1 := Nat.le_of_ble_eq_true ho
  funext a
  by_cases h1 : a = b + o
  · subst h1
    rw [blkW_a ho (show arC ci o (va_up ar k F) = some (.inl (kd, N, F)) by unfold arC; rw [hk]; simp [va_up])]
    simp only [va_up, if_pos]
  · simp only [va_up, if_neg h1]
    by_cases h2 : a = b
    · subst h2; rw [blkW_0, blkW_0]
    · by_cases h3 : b ≤ a
      · unfold blkW
        rw [if_neg h2, if_pos h3, if_neg h2, if_pos h3]
        unfold arC
        cases hc : arT ci (a - b) with
        | none => rfl
        | some q =>
          have hq : q.2.1 ≠ k := fun e => h1 (by have := arT_inj hc hk e; omega)
          simp only [Option.map_some, va_up, if_neg hq]
      · rw [blkW_out h2 (Or.inl (by omega)), blkW_out h2 (Or.inl (by omega))]
section jour2
variable {g : mG} {h : mH} {sz u jb jb2 : Nat} {N js js2 : Nat → Int32} {ja ja2 : Nat → Nat → Int32}
set_option maxRecDepth 20000 in
set_option maxHeartbeats 1000000 in
theorem w_jclear : Mt g 0 m_Jour_clear [.ref jb] (blkW 1 h jb js ja) sz u (Pn (blkW 1 h jb (upd (upd js 0 0) 1 0) ja)) sz u := by
  refine Mt.of m_Jour_clear_w m_Jour_clear_x m_Jour_clear_c rfl rfl (ls := [.ref jb]) rfl ?_
  refine V_aload_n rfl rfl ?_
  refine V_iconst (v := 0) rfl (by decide) ?_
  first | refine V_pput rfl rfl rfl rfl rfl ?_ | refine V_bput rfl rfl rfl rfl rfl rfl ?_ | refine V_bputZ rfl rfl rfl rfl rfl rfl (by decide) ?_ | refine V_put rfl rfl (by first | assumption | rfl) (by decide) (fun _ hty => by cases hty; exact ⟨rfl, rfl⟩) (by first | exact Or.inl rfl | exact Or.inr ⟨rfl, rfl⟩) rfl ?_
  refine V_aload_n rfl rfl ?_
  refine V_iconst (v := 0) rfl (by decide) ?_
  first | refine V_pput rfl rfl rfl rfl rfl ?_ | refine V_bput rfl rfl rfl rfl rfl rfl ?_ | refine V_bputZ rfl rfl rfl rfl rfl rfl (by decide) ?_ | refine V_put rfl rfl (by first | assumption | rfl) (by decide) (fun _ hty => by cases hty; exact ⟨rfl, rfl⟩) (by first | exact Or.inl rfl | exact Or.inr ⟨rfl, rfl⟩) rfl ?_
  refine V_return rfl rfl ?_
  exact ⟨rfl, rfl⟩
set_option maxRecDepth 20000 in
set_option maxHeartbeats 1000000 in
theorem w_jbecome (hO : ∀ js ja, bAt 1 (blkW 1 h jb js ja) jb2 js2 ja2) : Mt g 1 m_Jour_become [.ref jb, .ref jb2] (blkW 1 h jb js ja) sz u (fun r h' => r = none ∧ ∃ js' ja', h' = blkW 1 h jb js' ja' ∧ ∀ N, JR N js2 ja2 → JR N js' ja') sz u := by
  refine Mt.of m_Jour_become_w m_Jour_become_x m_Jour_become_c rfl rfl (ls := [.ref jb, .ref jb2]) rfl ?_
  refine V_aload_n rfl rfl ?_
  refine V_aload_n rfl rfl ?_
  refine V_getI rfl rfl (bAt_0 (hO _ _)) (by rfl) rfl ?_
  first | refine V_pput rfl rfl rfl rfl rfl ?_ | refine V_bput rfl rfl rfl rfl rfl rfl ?_ | refine V_bputZ rfl rfl rfl rfl rfl rfl (by decide) ?_ | refine V_put rfl rfl (by first | assumption | rfl) (by decide) (fun _ hty => by cases hty; exact ⟨rfl, rfl⟩) (by first | exact Or.inl rfl | exact Or.inr ⟨rfl, rfl⟩) rfl ?_
  refine V_aload_n rfl rfl ?_
  refine V_aload_n rfl rfl ?_
  refine V_getI rfl rfl (bAt_0 (hO _ _)) (by rfl) rfl ?_
  first | refine V_pput rfl rfl rfl rfl rfl ?_ | refine V_bput rfl rfl rfl rfl rfl rfl ?_ | refine V_bputZ rfl rfl rfl rfl rfl rfl (by decide) ?_ | refine V_put rfl rfl (by first | assumption | rfl) (by decide) (fun _ hty => by cases hty; exact ⟨rfl, rfl⟩) (by first | exact Or.inl rfl | exact Or.inr ⟨rfl, rfl⟩) rfl ?_
  refine V_aload_n rfl rfl ?_
  refine V_getfield rfl rfl (bAt_0 (hO _ _)) (by rfl) ?_
  refine V_iconst (v := 0) rfl (by decide) ?_
  refine V_aload_n rfl rfl ?_
  refine V_getfield rfl rfl (by first | assumption | exact blkW_0 | exact bAt_0 (by assumption) | exact bAt_0 (hA _ _) | rfl) (by rfl) ?_
  refine V_iconst (v := 0) rfl (by decide) ?_
  refine V_bipush (v := 16) rfl (by decide) ?_
  refine V_copy (k := 16) (dp := 0) (sp := 0) rfl rfl (bAt_i (hO _ _) rfl rfl) (blkW_i rfl rfl) (by decide) (by decide) (by decide) (by decide) (by decide) (by decide) (by decide) ?_
  rw [blkU_f rfl rfl]
  refine V_aload_n rfl rfl ?_
  refine V_getfield rfl rfl (bAt_0 (hO _ _)) (by rfl) ?_
  refine V_iconst (v := 0) rfl (by decide) ?_
  refine V_aload_n rfl rfl ?_
  refine V_getfield rfl rfl (by first | assumption | exact blkW_0 | exact bAt_0 (by assumption) | exact bAt_0 (hA _ _) | rfl) (by rfl) ?_
  refine V_iconst (v := 0) rfl (by decide) ?_
  refine V_bipush (v := 16) rfl (by decide) ?_
  refine V_copy (k := 16) (dp := 0) (sp := 0) rfl rfl (bAt_i (hO _ _) rfl rfl) (blkW_i rfl rfl) (by decide) (by decide) (by decide) (by decide) (by decide) (by decide) (by decide) ?_
  rw [blkU_f rfl rfl]
  refine V_aload_n rfl rfl ?_
  refine V_getfield rfl rfl (bAt_0 (hO _ _)) (by rfl) ?_
  refine V_iconst (v := 0) rfl (by decide) ?_
  refine V_aload_n rfl rfl ?_
  refine V_getfield rfl rfl (by first | assumption | exact blkW_0 | exact bAt_0 (by assumption) | exact bAt_0 (hA _ _) | rfl) (by rfl) ?_
  refine V_iconst (v := 0) rfl (by decide) ?_
  refine V_bipush (v := 16) rfl (by decide) ?_
  refine V_copy (k := 16) (dp := 0) (sp := 0) rfl rfl (bAt_i (hO _ _) rfl rfl) (blkW_i rfl rfl) (by decide) (by decide) (by decide) (by decide) (by decide) (by decide) (by decide) ?_
  rw [blkU_f rfl rfl]
  refine V_return rfl rfl ?_
  refine ⟨rfl, _, _, rfl, fun N hJ => ?_⟩
  obtain ⟨e, l, h1, h2, h3, h4, h5, h6⟩ := hJ
  refine ⟨e, l, h1, h2, (pk_un (by decide)).trans (pk_us.trans h3), pk_us.trans h4, h5, fun i hi => ?_⟩
  obtain ⟨c, b, s, a1, a2, a3, a4, a5, a6, a7⟩ := h6 i hi
  have hl : (l + 16 - i) % 16 < 16 := Nat.mod_lt _ (by decide)
  refine ⟨c, b, s, a1, a2, a3, ?_, ?_, ?_, a7⟩
  · rw [va_n (by decide), va_n (by decide), va_g, pk_cpy_in (by omega) (by omega), Nat.zero_add, Nat.sub_zero]; exact a4
  · rw [va_n (by decide), va_g, pk_cpy_in (by omega) (by omega), Nat.zero_add, Nat.sub_zero]; exact a5
  · rw [va_g, pk_cpy_in (by omega) (by omega), Nat.zero_add, Nat.sub_zero]; exact a6
set_option maxRecDepth 20000 in
set_option maxHeartbeats 1000000 in
theorem s_jentry (hA : bAt 1 h jb js ja) (hJ : JR N js ja) {e w : Nat} (he : N 42 = nI e) (he2 : e ≤ 16) (hw : w < 3) (i : Int32) : Mt g 1 m_Jour_entry [.ref jb, .int i, .int (nI w)] h sz u (Pi (if inN i e then jouV (N (26 + i.toNatClampNeg)) w else -1) h) sz u := by
  obtain ⟨e', l, h1, h2, h3, h4, h5, h6⟩ := hJ
  have ee : e' = e := (nI_eq (by omega) (by omega)).mp (h5.symm.trans he)
  subst ee
  refine Mt.of m_Jour_entry_w m_Jour_entry_x m_Jour_entry_c rfl rfl (ls := [.ref jb, .int i, .int (nI w), .retAddr 0]) rfl ?_
  refine V_iload_n rfl rfl ?_
  refine V_if_lt rfl (fun c1 => ?_) (fun c1 => ?_)
  · rw [inN_no1 c1]
    refine V_iconst (v := (-1)) rfl (by decide) ?_
    refine V_ireturn rfl rfl (by first | rfl | exact b2_nar _ | assumption | decide) ?_
    exact P_ret rfl rfl
  · refine V_iload_n rfl rfl ?_
    refine V_aload_n rfl rfl ?_
    refine V_getI rfl rfl (bAt_0 hA) (by rfl) h3 ?_
    by_cases c2 : i < nI e'
    · have hin : inN i e' = true := decide_eq_true ⟨fa_of_nlt c1, c2⟩
      obtain ⟨k, hk, rfl⟩ := inN_t (by omega) hin
      rw [hin, if_pos rfl, nI_clamp (by omega)]
      obtain ⟨c, b, s, a1, a2, a3, a4, a5, a6, a7⟩ := h6 k hk
      have hl : (l + 16 - k) % 16 < 16 := Nat.mod_lt _ (by decide)
      rw [a7]
      refine V_icmp_ltT rfl (c2) ?_
      refine V_aload_n rfl rfl ?_
      refine V_getI rfl rfl (bAt_0 hA) (by rfl) h4 ?_
      refine V_iload_n rfl rfl ?_
      refine V_isub rfl ?_
      refine V_bipush (v := 16) rfl (by decide) ?_
      refine V_callSi rfl rfl (Or.inl rfl) m_Mat_floorMod_w m_Mat_floorMod_x rfl rfl (s_fm _ _ (by decide)) (by decide) rfl (Nat.le_of_ble_eq_true rfl) ?_
      rw [fm16 l h2 k (by omega)]
      refine V_is3 rfl (by first | rfl | assumption) ?_
      refine V_iload_n rfl rfl ?_
      rcases (show w = 0 ∨ w = 1 ∨ w = 2 by omega) with rfl | rfl | rfl
      · refine V_if_neF rfl (rfl) ?_
        refine V_aload_n rfl rfl ?_
        refine V_getfield rfl rfl (by first | assumption | exact blkW_0 | exact bAt_0 (by assumption) | exact bAt_0 (hA _ _) | rfl) (by rfl) ?_
        refine V_goto rfl ?_
        refine V_iload_n rfl rfl ?_
        refine V_callSi rfl rfl (Or.inr rfl) m_EB_at_w m_EB_at_x rfl rfl (s_atv (bAt_i hA rfl rfl) (by decide) _ ((atV_in hl (by decide)).trans a4)) (by decide) rfl (Nat.le_of_ble_eq_true rfl) ?_
        refine V_ireturn rfl rfl (by first | rfl | exact b2_nar _ | assumption | decide) ?_
        refine P_ret ?_ rfl
        show nI c = nI (100 * c + 2 * b + s) / nI 100
        rw [pk_div (by omega) (by decide) (by decide), show (100 * c + 2 * b + s) / 100 = c by omega]
      · refine V_if_neT rfl (by decide) ?_
        refine V_iload_n rfl rfl ?_
        refine V_iconst (v := 1) rfl (by decide) ?_
        refine V_icmp_neF rfl (rfl) ?_
        refine V_aload_n rfl rfl ?_
        refine V_getfield rfl rfl (by first | assumption | exact blkW_0 | exact bAt_0 (by assumption) | exact bAt_0 (hA _ _) | rfl) (by rfl) ?_
        refine V_goto rfl ?_
        refine V_iload_n rfl rfl ?_
        refine V_callSi rfl rfl (Or.inr rfl) m_EB_at_w m_EB_at_x rfl rfl (s_atv (bAt_i hA rfl rfl) (by decide) _ ((atV_in hl (by decide)).trans a5)) (by decide) rfl (Nat.le_of_ble_eq_true rfl) ?_
        refine V_ireturn rfl rfl (by first | rfl | exact b2_nar _ | assumption | decide) ?_
        refine P_ret ?_ rfl
        show nI s = nI (100 * c + 2 * b + s) - nI (100 * c + 2 * b + s) / nI 2 * nI 2
        rw [pk_rem (by omega) (by decide) (by decide), show (100 * c + 2 * b + s) % 2 = s by omega]
      · refine V_if_neT rfl (by decide) ?_
        refine V_iload_n rfl rfl ?_
        refine V_iconst (v := 1) rfl (by decide) ?_
        refine V_icmp_neT rfl (by decide) ?_
        refine V_aload_n rfl rfl ?_
        refine V_getfield rfl rfl (by first | assumption | exact blkW_0 | exact bAt_0 (by assumption) | exact bAt_0 (hA _ _) | rfl) (by rfl) ?_
        refine V_iload_n rfl rfl ?_
        refine V_callSi rfl rfl (Or.inr rfl) m_EB_at_w m_EB_at_x rfl rfl (s_atv (bAt_i hA rfl rfl) (by decide) _ ((atV_in hl (by decide)).trans a6)) (by decide) rfl (Nat.le_of_ble_eq_true rfl) ?_
        refine V_ireturn rfl rfl (by first | rfl | exact b2_nar _ | assumption | decide) ?_
        refine P_ret ?_ rfl
        show nI b = (nI (100 * c + 2 * b + s) - nI (100 * c + 2 * b + s) / nI 100 * nI 100) / nI 2
        rw [pk_rem (by omega) (by decide) (by decide), pk_div (by omega) (by decide) (by decide), show (100 * c + 2 * b + s) % 100 / 2 = b by omega]
    · rw [inN_no2 (fa_of_nlt c2)]
      refine V_icmp_ltF rfl (c2) ?_
      refine V_iconst (v := (-1)) rfl (by decide) ?_
      refine V_ireturn rfl rfl (by first | rfl | exact b2_nar _ | assumption | decide) ?_
      exact P_ret rfl rfl
end jour2
section scene4
variable {g : mG} {h : mH} {sz u b b2 : Nat} {N ss js ss2 js2 : Nat → Int32} {sa ja sa2 ja2 : Nat → Nat → Int32}
set_option maxRecDepth 20000 in
set_option maxHeartbeats 1000000 in
theorem w_sclear : Mt g 1 m_Scen_clear [.ref b] (scW h b ss sa js ja) sz u (fun r h' => r = none ∧ ∃ ss' sa' js' ja', h' = scW h b ss' sa' js' ja' ∧ ∀ (n : Nat) (N : Nat → Int32), n ≤ 24 → (∀ k, k < 45 → N k = nw0 k) → SR n N ss' (sa' 5) js' ja') sz u := by
  refine Mt.of m_Scen_clear_w m_Scen_clear_x m_Scen_clear_c rfl rfl (ls := [.ref b]) rfl ?_
  refine V_aload_n rfl rfl ?_
  refine V_iconst (v := 0) rfl (by decide) ?_
  first | refine V_pput rfl rfl rfl rfl rfl ?_ | refine V_bput rfl rfl rfl rfl rfl rfl ?_ | refine V_bputZ rfl rfl rfl rfl rfl rfl (by decide) ?_ | refine V_put rfl rfl (by first | assumption | rfl) (by decide) (fun _ hty => by cases hty; exact ⟨rfl, rfl⟩) (by first | exact Or.inl rfl | exact Or.inr ⟨rfl, rfl⟩) rfl ?_
  refine V_aload_n rfl rfl ?_
  refine V_iconst (v := 0) rfl (by decide) ?_
  first | refine V_pput rfl rfl rfl rfl rfl ?_ | refine V_bput rfl rfl rfl rfl rfl rfl ?_ | refine V_bputZ rfl rfl rfl rfl rfl rfl (by decide) ?_ | refine V_put rfl rfl (by first | assumption | rfl) (by decide) (fun _ hty => by cases hty; exact ⟨rfl, rfl⟩) (by first | exact Or.inl rfl | exact Or.inr ⟨rfl, rfl⟩) rfl ?_
  refine V_aload_n rfl rfl ?_
  refine V_iconst (v := 0) rfl (by decide) ?_
  first | refine V_pput rfl rfl rfl rfl rfl ?_ | refine V_bput rfl rfl rfl rfl rfl rfl ?_ | refine V_bputZ rfl rfl rfl rfl rfl rfl (by decide) ?_ | refine V_put rfl rfl (by first | assumption | rfl) (by decide) (fun _ hty => by cases hty; exact ⟨rfl, rfl⟩) (by first | exact Or.inl rfl | exact Or.inr ⟨rfl, rfl⟩) rfl ?_
  refine V_aload_n rfl rfl ?_
  refine V_iconst (v := 0) rfl (by decide) ?_
  first | refine V_pput rfl rfl rfl rfl rfl ?_ | refine V_bput rfl rfl rfl rfl rfl rfl ?_ | refine V_bputZ rfl rfl rfl rfl rfl rfl (by decide) ?_ | refine V_put rfl rfl (by first | assumption | rfl) (by decide) (fun _ hty => by cases hty; exact ⟨rfl, rfl⟩) (by first | exact Or.inl rfl | exact Or.inr ⟨rfl, rfl⟩) rfl ?_
  refine V_aload_n rfl rfl ?_
  refine V_getfield rfl rfl (by first | assumption | exact blkW_0 | exact bAt_0 (by assumption) | exact bAt_0 (hA _ _) | rfl) (by rfl) ?_
  rw [scW_u]
  refine V_callVn rfl rfl m_Jour_clear_w m_Jour_clear_x rfl (by decide) rfl (w_jclear) (by decide) rfl (by first | assumption | exact blkW_0 | exact bAt_0 (by assumption) | exact bAt_0 (hA _ _) | rfl) (Nat.le_of_ble_eq_true rfl) ?_
  rw [← scW_u]
  refine V_aload_n rfl rfl ?_
  refine V_getfield rfl rfl (by first | assumption | exact blkW_0 | exact bAt_0 (by assumption) | exact bAt_0 (hA _ _) | rfl) (by rfl) ?_
  refine V_iconst (v := (-1)) rfl (by decide) ?_
  refine V_callSn rfl rfl (Or.inl rfl) m_Arr_fill_w m_Arr_fill_x rfl rfl (s_fill (blkW_i rfl rfl) (by decide) _) (by decide) rfl (Nat.le_of_ble_eq_true rfl) ?_
  rw [blkU_f rfl rfl]
  refine V_return rfl rfl ?_
  refine ⟨rfl, _, _, _, _, rfl, fun n N hn hN => ⟨⟨?_, ?_, ?_, ?_⟩, ?_, ?_, ?_⟩⟩
  · rw [hN 0 (by decide), pk_un (by decide), pk_un (by decide), pk_un (by decide), pk_us]; rfl
  · rw [hN 1 (by decide), pk_un (by decide), pk_un (by decide), pk_us]; rfl
  · rw [hN 43 (by decide), pk_un (by decide), pk_us]; rfl
  · rw [hN 44 (by decide), pk_us]; rfl
  · intro c hc
    rw [hN (2 + c) (by omega), va_g, fa_fill_in (by omega)]
    unfold nw0
    rw [if_pos (by omega)]
  · intro c hc1 hc2
    rw [va_g, fa_fill_in hc2]
  · refine ⟨0, 0, by decide, by decide, (pk_un (by decide)).trans pk_us, pk_us, hN 42 (by decide), fun i hi => by omega⟩
set_option maxRecDepth 20000 in
set_option maxHeartbeats 1000000 in
theorem w_sbecome (hO : ∀ ss sa js ja, bAt 5 (scW h b ss sa js ja) b2 ss2 sa2) (hO2 : ∀ ss sa js ja, bAt 1 (scW h b ss sa js ja) (b2 + 1) js2 ja2) : Mt g 2 m_Scen_become [.ref b, .ref b2] (scW h b ss sa js ja) sz u (fun r h' => r = none ∧ ∃ ss' sa' js' ja', h' = scW h b ss' sa' js' ja' ∧ ∀ n N, n ≤ 24 → SR n N ss2 (sa2 5) js2 ja2 → SR n N ss' (sa' 5) js' ja') sz u := by
  refine Mt.of m_Scen_become_w m_Scen_become_x m_Scen_become_c rfl rfl (ls := [.ref b, .ref b2]) rfl ?_
  refine V_aload_n rfl rfl ?_
  refine V_aload_n rfl rfl ?_
  refine V_getI rfl rfl (bAt_0 (hO _ _ _ _)) (by rfl) rfl ?_
  first | refine V_pput rfl rfl rfl rfl rfl ?_ | refine V_bput rfl rfl rfl rfl rfl rfl ?_ | refine V_bputZ rfl rfl rfl rfl rfl rfl (by decide) ?_ | refine V_put rfl rfl (by first | assumption | rfl) (by decide) (fun _ hty => by cases hty; exact ⟨rfl, rfl⟩) (by first | exact Or.inl rfl | exact Or.inr ⟨rfl, rfl⟩) rfl ?_
  refine V_aload_n rfl rfl ?_
  refine V_aload_n rfl rfl ?_
  refine V_getI rfl rfl (bAt_0 (hO _ _ _ _)) (by rfl) rfl ?_
  first | refine V_pput rfl rfl rfl rfl rfl ?_ | refine V_bput rfl rfl rfl rfl rfl rfl ?_ | refine V_bputZ rfl rfl rfl rfl rfl rfl (by decide) ?_ | refine V_put rfl rfl (by first | assumption | rfl) (by decide) (fun _ hty => by cases hty; exact ⟨rfl, rfl⟩) (by first | exact Or.inl rfl | exact Or.inr ⟨rfl, rfl⟩) rfl ?_
  refine V_aload_n rfl rfl ?_
  refine V_aload_n rfl rfl ?_
  refine V_getI rfl rfl (bAt_0 (hO _ _ _ _)) (by rfl) rfl ?_
  first | refine V_pput rfl rfl rfl rfl rfl ?_ | refine V_bput rfl rfl rfl rfl rfl rfl ?_ | refine V_bputZ rfl rfl rfl rfl rfl rfl (by decide) ?_ | refine V_put rfl rfl (by first | assumption | rfl) (by decide) (fun _ hty => by cases hty; exact ⟨rfl, rfl⟩) (by first | exact Or.inl rfl | exact Or.inr ⟨rfl, rfl⟩) rfl ?_
  refine V_aload_n rfl rfl ?_
  refine V_aload_n rfl rfl ?_
  refine V_getI rfl rfl (bAt_0 (hO _ _ _ _)) (by rfl) rfl ?_
  first | refine V_pput rfl rfl rfl rfl rfl ?_ | refine V_bput rfl rfl rfl rfl rfl rfl ?_ | refine V_bputZ rfl rfl rfl rfl rfl rfl (by decide) ?_ | refine V_put rfl rfl (by first | assumption | rfl) (by decide) (fun _ hty => by cases hty; exact ⟨rfl, rfl⟩) (by first | exact Or.inl rfl | exact Or.inr ⟨rfl, rfl⟩) rfl ?_
  refine V_aload_n rfl rfl ?_
  refine V_getfield rfl rfl (by first | assumption | exact blkW_0 | exact bAt_0 (by assumption) | exact bAt_0 (hA _ _) | rfl) (by rfl) ?_
  refine V_aload_n rfl rfl ?_
  refine V_getfield rfl rfl (bAt_0 (hO _ _ _ _)) (by rfl) ?_
  rw [scW_u]
  refine V_callV rfl rfl m_Jour_become_w m_Jour_become_x rfl (by decide) rfl (w_jbecome (fun js ja => by have := hO2 (upd (upd (upd (upd ss 0 (ss2 0)) 1 (ss2 1)) 2 (ss2 2)) 3 (ss2 3)) sa js ja; rw [scW_c] at this; exact this)) (by decide) rfl (by first | assumption | exact blkW_0 | exact bAt_0 (by assumption) | exact bAt_0 (hA _ _) | rfl) (Nat.le_of_ble_eq_true rfl) (by first | exact Nat.le_refl _ | omega | decide) (by first | exact Nat.le_refl _ | omega | decide) (fun r hh1 hP => ?_)
  obtain ⟨rfl, js', ja', rfl, hJ⟩ := hP
  rw [← scW_u]
  refine V_aload_n rfl rfl ?_
  refine V_getfield rfl rfl (bAt_0 (hO _ _ _ _)) (by rfl) ?_
  refine V_iconst (v := 0) rfl (by decide) ?_
  refine V_aload_n rfl rfl ?_
  refine V_getfield rfl rfl (by first | assumption | exact blkW_0 | exact bAt_0 (by assumption) | exact bAt_0 (hA _ _) | rfl) (by rfl) ?_
  refine V_iconst (v := 0) rfl (by decide) ?_
  refine V_bipush (v := 24) rfl (by decide) ?_
  refine V_copy (k := 24) (dp := 0) (sp := 0) rfl rfl (bAt_i (hO _ _ _ _) rfl rfl) (blkW_i rfl rfl) (by decide) (by decide) (by decide) (by decide) (by decide) (by decide) (by decide) ?_
  rw [blkU_f rfl rfl]
  refine V_return rfl rfl ?_
  refine ⟨rfl, _, _, js', ja', rfl, fun n N hn hS => ⟨⟨?_, ?_, ?_, ?_⟩, ?_, ?_, hJ N hS.2.2.2⟩⟩
  · exact ((pk_un (by decide)).trans ((pk_un (by decide)).trans ((pk_un (by decide)).trans pk_us))).trans hS.1.1
  · exact ((pk_un (by decide)).trans ((pk_un (by decide)).trans pk_us)).trans hS.1.2.1
  · exact ((pk_un (by decide)).trans pk_us).trans hS.1.2.2.1
  · exact pk_us.trans hS.1.2.2.2
  · intro c hc
    rw [va_g, pk_cpy_in (by omega) (by omega), Nat.zero_add, Nat.sub_zero]
    exact hS.2.1 c hc
  · intro c hc1 hc2
    rw [va_g, pk_cpy_in (by omega) (by omega), Nat.zero_add, Nat.sub_zero]
    exact hS.2.2.1 c hc1 hc2
end scene4
