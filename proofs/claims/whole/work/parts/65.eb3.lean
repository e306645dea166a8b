section eb3
variable {g : mG} {h : mH} {sz u pl sp : Nat} {fp : Int32} {p : Pg} {psc ss N fsc : Nat → Int32} {par_ sa far : Nat → Nat → Int32}
theorem c_above (hE : EW h pl sp fp psc par_ ss sa) (hp : CP p psc par_) (hx : WX p) (hF : FO p false fsc far) (t : Int32) : Mt g 2 m_EB_above [.ref 1, .int t] (blkW 0 h 74 fsc far) sz u (PE (A_above p t) h p) sz u := by
  have hq := hp.1
  obtain ⟨hT, hB, hS, hC⟩ := hp.1.1.1
  have h1 := hE.1 fsc far
  have hP := hE.2.1 fsc far
  have hN := hE.2.2 fsc far
  unfold A_above
  refine Mt.of m_EB_above_w m_EB_above_x m_EB_above_c rfl rfl (ls := [.ref 1, .int t]) rfl ?_
  refine V_aload_n rfl rfl ?_
  refine V_iload_n rfl rfl ?_
  refine V_callVi rfl rfl m_EB_isType_w m_EB_isType_x rfl (by decide) rfl (s_eT (by assumption) (by assumption) (by assumption) _) (by decide) rfl (by first | assumption | exact blkW_0 | exact bAt_0 (by assumption) | exact bAt_0 (hA _ _) | rfl) (Nat.le_of_ble_eq_true rfl) ?_
  cases ho : inN t (nT p)
  · rw [if_neg (by decide)]
    refine V_if_neF rfl (rfl) ?_
    refine V_ldc rfl rfl ?_
    refine V_ireturn rfl rfl (by first | rfl | exact b2_nar _ | assumption | decide) ?_
    exact PE_r hF rfl
  · rw [if_pos rfl]
    refine V_if_neT rfl (by decide) ?_
    obtain ⟨t, ht, rfl⟩ := inN_t (by omega) ho
    rw [nI_clamp (by omega)]
    refine V_aload_n rfl rfl ?_
    refine V_getfield rfl rfl (by first | assumption | exact blkW_0 | exact bAt_0 (by assumption) | exact bAt_0 (hA _ _) | rfl) (by rfl) ?_
    refine V_iload_n rfl rfl ?_
    refine V_callVi rfl rfl m_Plan_isClass_w m_Plan_isClass_x rfl (by decide) rfl (s_isCl (by first | assumption | exact hA _ _) (by assumption) (by first | omega | assumption)) (by decide) rfl (by first | assumption | exact blkW_0 | exact bAt_0 (by assumption) | exact bAt_0 (hA _ _) | rfl) (Nat.le_of_ble_eq_true rfl) ?_
    cases hc : isC p t
    · rw [if_neg (by decide)]
      refine V_if_eqT rfl (rfl) ?_
      refine V_ldc rfl rfl ?_
      refine V_ireturn rfl rfl (by first | rfl | exact b2_nar _ | assumption | decide) ?_
      exact PE_r hF rfl
    · rw [if_pos rfl]
      refine V_if_eqF rfl (by decide) ?_
      refine V_aload_n rfl rfl ?_
      refine V_getfield rfl rfl (by first | assumption | exact blkW_0 | exact bAt_0 (by assumption) | exact bAt_0 (hA _ _) | rfl) (by rfl) ?_
      refine V_getfield rfl rfl (by first | assumption | exact blkW_0 | exact bAt_0 (by assumption) | exact bAt_0 (hA _ _) | rfl) (by rfl) ?_
      refine V_iload_n rfl rfl ?_
      refine V_callSi rfl rfl (Or.inl rfl) m_EB_at_w m_EB_at_x rfl rfl (s_atv (by first | assumption | exact blkW_i rfl rfl | exact bAt_i (by assumption) rfl rfl | exact bAt_i (hA _ _) rfl rfl) (by decide) _ (by first | exact (atV_in (by first | omega | assumption) (by decide)).trans (cq_par (by assumption) (by first | omega | assumption)) | exact (atV_in (by first | omega | assumption) (by decide)).trans (cq_abv (by assumption) (by first | omega | assumption)) | exact (atV_in (by first | omega | assumption) (by decide)).trans (cq_bel (by assumption) (by first | omega | assumption)) | exact (atV_in (by first | omega | assumption) (by decide)).trans (cq_dep (by assumption) (by first | omega | assumption)) | exact (atV_in (by first | omega | assumption) (by decide)).trans (cq_bT (by assumption) (by first | omega | assumption)) | exact (atV_in (by first | omega | assumption) (by decide)).trans (cq_bM (by assumption) (by first | omega | assumption)) | exact (atV_in (by first | omega | assumption) (by decide)).trans (cq_sK (by assumption) (by first | omega | assumption)) | exact (atV_in (by first | omega | assumption) (by decide)).trans (cq_sB (by assumption) (by first | omega | assumption)) | exact (atV_in (by first | omega | assumption) (by decide)).trans (cq_sT (by assumption) (by first | omega | assumption)) | exact (atV_in (by first | omega | assumption) (by decide)).trans (cq_sM (by assumption) (by first | omega | assumption)) | exact (atV_in (by first | omega | assumption) (by decide)).trans (cq_cS (by assumption) (by first | omega | assumption)) | exact atV_in (by first | omega | assumption) (by decide) | exact atV_m1 | rfl)) (by decide) rfl (Nat.le_of_ble_eq_true rfl) ?_
      refine V_goto rfl ?_
      refine V_ireturn rfl rfl (by first | rfl | exact b2_nar _ | assumption | decide) ?_
      exact PE_r hF rfl
theorem c_users (hE : EW h pl sp fp psc par_ ss sa) (hp : CP p psc par_) (hx : WX p) (hF : FO p false fsc far) (t : Int32) : Mt g 2 m_EB_users [.ref 1, .int t] (blkW 0 h 74 fsc far) sz u (PE (A_users p t) h p) sz u := by
  have hq := hp.1
  obtain ⟨hT, hB, hS, hC⟩ := hp.1.1.1
  have h1 := hE.1 fsc far
  have hP := hE.2.1 fsc far
  have hN := hE.2.2 fsc far
  unfold A_users
  refine Mt.of m_EB_users_w m_EB_users_x m_EB_users_c rfl rfl (ls := [.ref 1, .int t]) rfl ?_
  refine V_aload_n rfl rfl ?_
  refine V_iload_n rfl rfl ?_
  refine V_callVi rfl rfl m_EB_isType_w m_EB_isType_x rfl (by decide) rfl (s_eT (by assumption) (by assumption) (by assumption) _) (by decide) rfl (by first | assumption | exact blkW_0 | exact bAt_0 (by assumption) | exact bAt_0 (hA _ _) | rfl) (Nat.le_of_ble_eq_true rfl) ?_
  cases ho : inN t (nT p)
  · rw [if_neg (by decide)]
    refine V_if_neF rfl (rfl) ?_
    refine V_ldc rfl rfl ?_
    refine V_ireturn rfl rfl (by first | rfl | exact b2_nar _ | assumption | decide) ?_
    exact PE_r hF rfl
  · rw [if_pos rfl]
    refine V_if_neT rfl (by decide) ?_
    obtain ⟨t, ht, rfl⟩ := inN_t (by omega) ho
    rw [nI_clamp (by omega)]
    refine V_aload_n rfl rfl ?_
    refine V_getfield rfl rfl (by first | assumption | exact blkW_0 | exact bAt_0 (by assumption) | exact bAt_0 (hA _ _) | rfl) (by rfl) ?_
    refine V_iload_n rfl rfl ?_
    refine V_callVi rfl rfl m_Plan_isClass_w m_Plan_isClass_x rfl (by decide) rfl (s_isCl (by first | assumption | exact hA _ _) (by assumption) (by first | omega | assumption)) (by decide) rfl (by first | assumption | exact blkW_0 | exact bAt_0 (by assumption) | exact bAt_0 (hA _ _) | rfl) (Nat.le_of_ble_eq_true rfl) ?_
    cases hc : isC p t
    · rw [if_neg (by decide)]
      refine V_if_eqT rfl (rfl) ?_
      refine V_aload_n rfl rfl ?_
      refine V_getfield rfl rfl (by first | assumption | exact blkW_0 | exact bAt_0 (by assumption) | exact bAt_0 (hA _ _) | rfl) (by rfl) ?_
      refine V_getfield rfl rfl (by first | assumption | exact blkW_0 | exact bAt_0 (by assumption) | exact bAt_0 (hA _ _) | rfl) (by rfl) ?_
      refine V_iload_n rfl rfl ?_
      refine V_callSi rfl rfl (Or.inl rfl) m_EB_at_w m_EB_at_x rfl rfl (s_atv (by first | assumption | exact blkW_i rfl rfl | exact bAt_i (by assumption) rfl rfl | exact bAt_i (hA _ _) rfl rfl) (by decide) _ (by first | exact (atV_in (by first | omega | assumption) (by decide)).trans (cq_par (by assumption) (by first | omega | assumption)) | exact (atV_in (by first | omega | assumption) (by decide)).trans (cq_abv (by assumption) (by first | omega | assumption)) | exact (atV_in (by first | omega | assumption) (by decide)).trans (cq_bel (by assumption) (by first | omega | assumption)) | exact (atV_in (by first | omega | assumption) (by decide)).trans (cq_dep (by assumption) (by first | omega | assumption)) | exact (atV_in (by first | omega | assumption) (by decide)).trans (cq_bT (by assumption) (by first | omega | assumption)) | exact (atV_in (by first | omega | assumption) (by decide)).trans (cq_bM (by assumption) (by first | omega | assumption)) | exact (atV_in (by first | omega | assumption) (by decide)).trans (cq_sK (by assumption) (by first | omega | assumption)) | exact (atV_in (by first | omega | assumption) (by decide)).trans (cq_sB (by assumption) (by first | omega | assumption)) | exact (atV_in (by first | omega | assumption) (by decide)).trans (cq_sT (by assumption) (by first | omega | assumption)) | exact (atV_in (by first | omega | assumption) (by decide)).trans (cq_sM (by assumption) (by first | omega | assumption)) | exact (atV_in (by first | omega | assumption) (by decide)).trans (cq_cS (by assumption) (by first | omega | assumption)) | exact atV_in (by first | omega | assumption) (by decide) | exact atV_m1 | rfl)) (by decide) rfl (Nat.le_of_ble_eq_true rfl) ?_
      refine V_aload_n rfl rfl ?_
      refine V_getfield rfl rfl (by first | assumption | exact blkW_0 | exact bAt_0 (by assumption) | exact bAt_0 (hA _ _) | rfl) (by rfl) ?_
      refine V_getI rfl rfl (by first | assumption | exact blkW_0 | exact bAt_0 (by assumption) | exact bAt_0 (hA _ _) | rfl) (by rfl) (by first | exact cq_cl (by assumption) | rfl) ?_
      refine V_iand rfl ?_
      refine V_callSi rfl rfl (Or.inl rfl) m_Int_bitCount_w m_Int_bitCount_x rfl rfl (s_bc _) (by decide) rfl (Nat.le_of_ble_eq_true rfl) ?_
      refine V_ireturn rfl rfl (by first | rfl | exact b2_nar _ | assumption | decide) ?_
      refine PE_r hF ?_
      exact pcV_12 hT fun i hi => by
        rw [b_and, Bool.and_eq_true] at hi
        exact ((bt_setF (by omega)).mp hi.1).1
    · rw [if_pos rfl]
      refine V_if_eqF rfl (by decide) ?_
      refine V_ldc rfl rfl ?_
      refine V_goto rfl ?_
      refine V_ireturn rfl rfl (by first | rfl | exact b2_nar _ | assumption | decide) ?_
      exact PE_r hF rfl
theorem c_makers (hE : EW h pl sp fp psc par_ ss sa) (hp : CP p psc par_) (hx : WX p) (hF : FO p false fsc far) (t : Int32) : Mt g 3 m_EB_makers [.ref 1, .int t] (blkW 0 h 74 fsc far) sz u (PE (A_makers p t) h p) sz u := by
  have hq := hp.1
  obtain ⟨hT, hB, hS, hC⟩ := hp.1.1.1
  have h1 := hE.1 fsc far
  have hP := hE.2.1 fsc far
  have hN := hE.2.2 fsc far
  unfold A_makers
  refine Mt.of m_EB_makers_w m_EB_makers_x m_EB_makers_c rfl rfl (ls := [.ref 1, .int t]) rfl ?_
  refine V_aload_n rfl rfl ?_
  refine V_iload_n rfl rfl ?_
  refine V_callVi rfl rfl m_EB_isType_w m_EB_isType_x rfl (by decide) rfl (s_eT (by assumption) (by assumption) (by assumption) _) (by decide) rfl (by first | assumption | exact blkW_0 | exact bAt_0 (by assumption) | exact bAt_0 (hA _ _) | rfl) (Nat.le_of_ble_eq_true rfl) ?_
  cases ho : inN t (nT p)
  · rw [if_neg (by decide)]
    refine V_if_neF rfl (rfl) ?_
    refine V_ldc rfl rfl ?_
    refine V_ireturn rfl rfl (by first | rfl | exact b2_nar _ | assumption | decide) ?_
    exact PE_r hF rfl
  · rw [if_pos rfl]
    refine V_if_neT rfl (by decide) ?_
    obtain ⟨t, ht, rfl⟩ := inN_t (by omega) ho
    rw [nI_clamp (by omega)]
    refine V_aload_n rfl rfl ?_
    refine V_getfield rfl rfl (by first | assumption | exact blkW_0 | exact bAt_0 (by assumption) | exact bAt_0 (hA _ _) | rfl) (by rfl) ?_
    refine V_iload_n rfl rfl ?_
    refine V_callVi rfl rfl m_Plan_isClass_w m_Plan_isClass_x rfl (by decide) rfl (s_isCl (by first | assumption | exact hA _ _) (by assumption) (by first | omega | assumption)) (by decide) rfl (by first | assumption | exact blkW_0 | exact bAt_0 (by assumption) | exact bAt_0 (hA _ _) | rfl) (Nat.le_of_ble_eq_true rfl) ?_
    cases hc : isC p t
    · rw [if_neg (by decide)]
      refine V_if_eqT rfl (rfl) ?_
      refine V_ldc rfl rfl ?_
      refine V_ireturn rfl rfl (by first | rfl | exact b2_nar _ | assumption | decide) ?_
      exact PE_r hF rfl
    · rw [if_pos rfl]
      refine V_if_eqF rfl (by decide) ?_
      refine V_aload_n rfl rfl ?_
      refine V_getfield rfl rfl (by first | assumption | exact blkW_0 | exact bAt_0 (by assumption) | exact bAt_0 (hA _ _) | rfl) (by rfl) ?_
      refine V_iload_n rfl rfl ?_
      refine V_callVi rfl rfl m_Plan_bodiesThatMake_w m_Plan_bodiesThatMake_x rfl (by decide) rfl (s_btm (by first | assumption | exact hA _ _) (by assumption) (by first | omega | assumption)) (by decide) rfl (by first | assumption | exact blkW_0 | exact bAt_0 (by assumption) | exact bAt_0 (hA _ _) | rfl) (Nat.le_of_ble_eq_true rfl) ?_
      refine V_goto rfl ?_
      refine V_ireturn rfl rfl (by first | rfl | exact b2_nar _ | assumption | decide) ?_
      exact PE_r hF rfl
theorem c_isBelow (hE : EW h pl sp fp psc par_ ss sa) (hp : CP p psc par_) (hx : WX p) (hF : FO p false fsc far) (t x : Int32) : Mt g 1 m_EB_isBelow [.ref 1, .int t, .int x] (blkW 0 h 74 fsc far) sz u (PE (A_isBelow p t x) h p) sz u := by
  have hq := hp.1
  obtain ⟨hT, hB, hS, hC⟩ := hp.1.1.1
  have h1 := hE.1 fsc far
  have hP := hE.2.1 fsc far
  have hN := hE.2.2 fsc far
  unfold A_isBelow
  refine Mt.of m_EB_isBelow_w m_EB_isBelow_x m_EB_isBelow_c rfl rfl (ls := [.ref 1, .int t, .int x]) rfl ?_
  refine V_aload_n rfl rfl ?_
  refine V_iload_n rfl rfl ?_
  refine V_callVi rfl rfl m_EB_isType_w m_EB_isType_x rfl (by decide) rfl (s_eT (by assumption) (by assumption) (by assumption) _) (by decide) rfl (by first | assumption | exact blkW_0 | exact bAt_0 (by assumption) | exact bAt_0 (hA _ _) | rfl) (Nat.le_of_ble_eq_true rfl) ?_
  cases h2 : inN t (nT p)
  · refine V_if_eqT rfl (rfl) ?_
    refine V_ldc rfl rfl ?_
    refine V_ireturn rfl rfl (by first | rfl | exact b2_nar _ | assumption | decide) ?_
    exact PE_r hF rfl
  · refine V_if_eqF rfl (by decide) ?_
    obtain ⟨j, hj, rfl⟩ := inN_t (by omega) h2
    refine V_aload_n rfl rfl ?_
    refine V_iload_n rfl rfl ?_
    refine V_callVi rfl rfl m_EB_isType_w m_EB_isType_x rfl (by decide) rfl (s_eT (by assumption) (by assumption) (by assumption) _) (by decide) rfl (by first | assumption | exact blkW_0 | exact bAt_0 (by assumption) | exact bAt_0 (hA _ _) | rfl) (Nat.le_of_ble_eq_true rfl) ?_
    cases h3 : inN x (nT p)
    · refine V_if_eqT rfl (rfl) ?_
      refine V_ldc rfl rfl ?_
      refine V_ireturn rfl rfl (by first | rfl | exact b2_nar _ | assumption | decide) ?_
      exact PE_r hF rfl
    · refine V_if_eqF rfl (by decide) ?_
      obtain ⟨k, hk, rfl⟩ := inN_t (by omega) h3
      rw [nI_clamp (n := j) (by omega), nI_clamp (n := k) (by omega)]
      refine V_iload_n rfl rfl ?_
      refine V_iload_n rfl rfl ?_
      by_cases e : nI j = nI k
      · refine V_icmp_neF rfl (e) ?_
        refine V_ldc rfl rfl ?_
        refine V_ireturn rfl rfl (by first | rfl | exact b2_nar _ | assumption | decide) ?_
        exact PE_r hF (by simp [e, UNK])
      · refine V_icmp_neT rfl (e) ?_
        rw [decide_eq_false e]
        refine V_aload_n rfl rfl ?_
        refine V_getfield rfl rfl (by first | assumption | exact blkW_0 | exact bAt_0 (by assumption) | exact bAt_0 (hA _ _) | rfl) (by rfl) ?_
        refine V_getfield rfl rfl (by first | assumption | exact blkW_0 | exact bAt_0 (by assumption) | exact bAt_0 (hA _ _) | rfl) (by rfl) ?_
        refine V_iload_n rfl rfl ?_
        refine V_callSi rfl rfl (Or.inl rfl) m_EB_at_w m_EB_at_x rfl rfl (s_atv (by first | assumption | exact blkW_i rfl rfl | exact bAt_i (by assumption) rfl rfl | exact bAt_i (hA _ _) rfl rfl) (by decide) _ (by first | exact (atV_in (by first | omega | assumption) (by decide)).trans (cq_par (by assumption) (by first | omega | assumption)) | exact (atV_in (by first | omega | assumption) (by decide)).trans (cq_abv (by assumption) (by first | omega | assumption)) | exact (atV_in (by first | omega | assumption) (by decide)).trans (cq_bel (by assumption) (by first | omega | assumption)) | exact (atV_in (by first | omega | assumption) (by decide)).trans (cq_dep (by assumption) (by first | omega | assumption)) | exact (atV_in (by first | omega | assumption) (by decide)).trans (cq_bT (by assumption) (by first | omega | assumption)) | exact (atV_in (by first | omega | assumption) (by decide)).trans (cq_bM (by assumption) (by first | omega | assumption)) | exact (atV_in (by first | omega | assumption) (by decide)).trans (cq_sK (by assumption) (by first | omega | assumption)) | exact (atV_in (by first | omega | assumption) (by decide)).trans (cq_sB (by assumption) (by first | omega | assumption)) | exact (atV_in (by first | omega | assumption) (by decide)).trans (cq_sT (by assumption) (by first | omega | assumption)) | exact (atV_in (by first | omega | assumption) (by decide)).trans (cq_sM (by assumption) (by first | omega | assumption)) | exact (atV_in (by first | omega | assumption) (by decide)).trans (cq_cS (by assumption) (by first | omega | assumption)) | exact atV_in (by first | omega | assumption) (by decide) | exact atV_m1 | rfl)) (by decide) rfl (Nat.le_of_ble_eq_true rfl) ?_
        refine V_iload_n rfl rfl ?_
        refine V_callSi rfl rfl (Or.inl rfl) m_EB_has_w m_EB_has_x rfl rfl (s_hasv _ _ (by first | exact hasV_b (by first | omega | assumption) _ | exact hasV_m1 _ | rfl)) (by decide) rfl (Nat.le_of_ble_eq_true rfl) ?_
        cases hb : bt (abv p j) k
        · refine V_if_eqT rfl (rfl) ?_
          refine V_iconst (v := 0) rfl (by decide) ?_
          refine V_ireturn rfl rfl (by first | rfl | exact b2_nar _ | assumption | decide) ?_
          exact PE_r hF rfl
        · refine V_if_eqF rfl (by decide) ?_
          refine V_iconst (v := 1) rfl (by decide) ?_
          refine V_goto rfl ?_
          refine V_ireturn rfl rfl (by first | rfl | exact b2_nar _ | assumption | decide) ?_
          exact PE_r hF rfl
theorem c_common (hE : EW h pl sp fp psc par_ ss sa) (hp : CP p psc par_) (hx : WX p) (hF : FO p false fsc far) (t x : Int32) : Mt g 2 m_EB_common [.ref 1, .int t, .int x] (blkW 0 h 74 fsc far) sz u (PE (A_common p t x) h p) sz u := by
  have hq := hp.1
  obtain ⟨hT, hB, hS, hC⟩ := hp.1.1.1
  have h1 := hE.1 fsc far
  have hP := hE.2.1 fsc far
  have hN := hE.2.2 fsc far
  unfold A_common
  refine Mt.of m_EB_common_w m_EB_common_x m_EB_common_c rfl rfl (ls := [.ref 1, .int t, .int x]) rfl ?_
  refine V_aload_n rfl rfl ?_
  refine V_iload_n rfl rfl ?_
  refine V_callVi rfl rfl m_EB_isType_w m_EB_isType_x rfl (by decide) rfl (s_eT (by assumption) (by assumption) (by assumption) _) (by decide) rfl (by first | assumption | exact blkW_0 | exact bAt_0 (by assumption) | exact bAt_0 (hA _ _) | rfl) (Nat.le_of_ble_eq_true rfl) ?_
  cases h2 : inN t (nT p)
  · refine V_if_eqT rfl (rfl) ?_
    refine V_ldc rfl rfl ?_
    refine V_ireturn rfl rfl (by first | rfl | exact b2_nar _ | assumption | decide) ?_
    exact PE_r hF rfl
  · refine V_if_eqF rfl (by decide) ?_
    obtain ⟨j, hj, rfl⟩ := inN_t (by omega) h2
    refine V_aload_n rfl rfl ?_
    refine V_iload_n rfl rfl ?_
    refine V_callVi rfl rfl m_EB_isType_w m_EB_isType_x rfl (by decide) rfl (s_eT (by assumption) (by assumption) (by assumption) _) (by decide) rfl (by first | assumption | exact blkW_0 | exact bAt_0 (by assumption) | exact bAt_0 (hA _ _) | rfl) (Nat.le_of_ble_eq_true rfl) ?_
    cases h3 : inN x (nT p)
    · refine V_if_eqT rfl (rfl) ?_
      refine V_ldc rfl rfl ?_
      refine V_ireturn rfl rfl (by first | rfl | exact b2_nar _ | assumption | decide) ?_
      exact PE_r hF rfl
    · refine V_if_eqF rfl (by decide) ?_
      obtain ⟨k, hk, rfl⟩ := inN_t (by omega) h3
      rw [nI_clamp (n := j) (by omega), nI_clamp (n := k) (by omega)]
      refine V_iload_n rfl rfl ?_
      refine V_iload_n rfl rfl ?_
      by_cases e : nI j = nI k
      · refine V_icmp_neF rfl (e) ?_
        refine V_ldc rfl rfl ?_
        refine V_ireturn rfl rfl (by first | rfl | exact b2_nar _ | assumption | decide) ?_
        exact PE_r hF (by simp [e, UNK])
      · refine V_icmp_neT rfl (e) ?_
        rw [decide_eq_false e]
        refine V_aload_n rfl rfl ?_
        refine V_getfield rfl rfl (by first | assumption | exact blkW_0 | exact bAt_0 (by assumption) | exact bAt_0 (hA _ _) | rfl) (by rfl) ?_
        refine V_iload_n rfl rfl ?_
        refine V_callVi rfl rfl m_Plan_isClass_w m_Plan_isClass_x rfl (by decide) rfl (s_isCl (by first | assumption | exact hA _ _) (by assumption) (by first | omega | assumption)) (by decide) rfl (by first | assumption | exact blkW_0 | exact bAt_0 (by assumption) | exact bAt_0 (hA _ _) | rfl) (Nat.le_of_ble_eq_true rfl) ?_
        cases hc1 : isC p j
        · refine V_if_eqT rfl (rfl) ?_
          refine V_ldc rfl rfl ?_
          refine V_ireturn rfl rfl (by first | rfl | exact b2_nar _ | assumption | decide) ?_
          exact PE_r hF rfl
        · refine V_if_eqF rfl (by decide) ?_
          refine V_aload_n rfl rfl ?_
          refine V_getfield rfl rfl (by first | assumption | exact blkW_0 | exact bAt_0 (by assumption) | exact bAt_0 (hA _ _) | rfl) (by rfl) ?_
          refine V_iload_n rfl rfl ?_
          refine V_callVi rfl rfl m_Plan_isClass_w m_Plan_isClass_x rfl (by decide) rfl (s_isCl (by first | assumption | exact hA _ _) (by assumption) (by first | omega | assumption)) (by decide) rfl (by first | assumption | exact blkW_0 | exact bAt_0 (by assumption) | exact bAt_0 (hA _ _) | rfl) (Nat.le_of_ble_eq_true rfl) ?_
          cases hc2 : isC p k
          · refine V_if_neF rfl (rfl) ?_
            refine V_ldc rfl rfl ?_
            refine V_ireturn rfl rfl (by first | rfl | exact b2_nar _ | assumption | decide) ?_
            exact PE_r hF rfl
          · refine V_if_neT rfl (by decide) ?_
            refine V_aload_n rfl rfl ?_
            refine V_getfield rfl rfl (by first | assumption | exact blkW_0 | exact bAt_0 (by assumption) | exact bAt_0 (hA _ _) | rfl) (by rfl) ?_
            refine V_iload_n rfl rfl ?_
            refine V_iload_n rfl rfl ?_
            refine V_callVi rfl rfl m_Plan_firstShared_w m_Plan_firstShared_x rfl (by decide) rfl (s_fsh (by first | assumption | exact hA _ _) (by assumption) (by first | omega | assumption) (by first | omega | assumption)) (by decide) rfl (by first | assumption | exact blkW_0 | exact bAt_0 (by assumption) | exact bAt_0 (hA _ _) | rfl) (Nat.le_of_ble_eq_true rfl) ?_
            refine V_ireturn rfl rfl (by first | rfl | exact b2_nar _ | assumption | decide) ?_
            exact PE_r hF rfl
theorem c_found (hE : EW h pl sp fp psc par_ ss sa) (hp : CP p psc par_) (hx : WX p) (hF : FO p false fsc far) (t x : Int32) : Mt g 2 m_EB_found [.ref 1, .int t, .int x] (blkW 0 h 74 fsc far) sz u (PE (A_found p t x) h p) sz u := by
  have hq := hp.1
  obtain ⟨hT, hB, hS, hC⟩ := hp.1.1.1
  have h1 := hE.1 fsc far
  have hP := hE.2.1 fsc far
  have hN := hE.2.2 fsc far
  unfold A_found
  refine Mt.of m_EB_found_w m_EB_found_x m_EB_found_c rfl rfl (ls := [.ref 1, .int t, .int x]) rfl ?_
  refine V_aload_n rfl rfl ?_
  refine V_iload_n rfl rfl ?_
  refine V_callVi rfl rfl m_EB_isType_w m_EB_isType_x rfl (by decide) rfl (s_eT (by assumption) (by assumption) (by assumption) _) (by decide) rfl (by first | assumption | exact blkW_0 | exact bAt_0 (by assumption) | exact bAt_0 (hA _ _) | rfl) (Nat.le_of_ble_eq_true rfl) ?_
  cases h2 : inN t (nT p)
  · refine V_if_eqT rfl (rfl) ?_
    refine V_ldc rfl rfl ?_
    refine V_ireturn rfl rfl (by first | rfl | exact b2_nar _ | assumption | decide) ?_
    exact PE_r hF rfl
  · refine V_if_eqF rfl (by decide) ?_
    obtain ⟨j, hj, rfl⟩ := inN_t (by omega) h2
    refine V_iload_n rfl rfl ?_
    refine V_if_lt rfl (fun c9 => ?_) (fun c9 => ?_)
    · rw [inN_no1 c9]
      refine V_ldc rfl rfl ?_
      refine V_ireturn rfl rfl (by first | rfl | exact b2_nar _ | assumption | decide) ?_
      exact PE_r hF rfl
    · refine V_iload_n rfl rfl ?_
      refine V_bipush (v := 6) rfl (by decide) ?_
      by_cases c15 : x < 6
      · rw [show inN x 6 = true from decide_eq_true ⟨fa_of_nlt c9, c15⟩]
        refine V_icmp_ltT rfl (c15) ?_
        obtain ⟨k, hk, rfl⟩ := inN_t (x := x) (n := 6) (by decide) (decide_eq_true ⟨fa_of_nlt c9, c15⟩)
        rw [nI_clamp (n := j) (by omega), nI_clamp (n := k) (by omega)]
        refine V_aload_n rfl rfl ?_
        refine V_getfield rfl rfl (by first | assumption | exact blkW_0 | exact bAt_0 (by assumption) | exact bAt_0 (hA _ _) | rfl) (by rfl) ?_
        refine V_iload_n rfl rfl ?_
        refine V_callVi rfl rfl m_Plan_isClass_w m_Plan_isClass_x rfl (by decide) rfl (s_isCl (by first | assumption | exact hA _ _) (by assumption) (by first | omega | assumption)) (by decide) rfl (by first | assumption | exact blkW_0 | exact bAt_0 (by assumption) | exact bAt_0 (hA _ _) | rfl) (Nat.le_of_ble_eq_true rfl) ?_
        cases hc : isC p j
        · refine V_if_eqT rfl (rfl) ?_
          refine V_ldc rfl rfl ?_
          refine V_ireturn rfl rfl (by first | rfl | exact b2_nar _ | assumption | decide) ?_
          exact PE_r hF rfl
        · refine V_if_eqF rfl (by decide) ?_
          refine V_aload_n rfl rfl ?_
          refine V_getfield rfl rfl (by first | assumption | exact blkW_0 | exact bAt_0 (by assumption) | exact bAt_0 (hA _ _) | rfl) (by rfl) ?_
          refine V_iload_n rfl rfl ?_
          refine V_iload_n rfl rfl ?_
          refine V_callVi rfl rfl m_Plan_foundFor_w m_Plan_foundFor_x rfl (by decide) rfl (s_fdF (by first | assumption | exact hA _ _) (by assumption) (by first | omega | assumption) (by first | omega | assumption) (by assumption)) (by decide) rfl (by first | assumption | exact blkW_0 | exact bAt_0 (by assumption) | exact bAt_0 (hA _ _) | rfl) (Nat.le_of_ble_eq_true rfl) ?_
          refine V_goto rfl ?_
          refine V_ireturn rfl rfl (by first | rfl | exact b2_nar _ | assumption | decide) ?_
          exact PE_r hF rfl
      · rw [inN_no2 (n := 6) (fa_of_nlt c15)]
        refine V_icmp_ltF rfl (c15) ?_
        refine V_ldc rfl rfl ?_
        refine V_ireturn rfl rfl (by first | rfl | exact b2_nar _ | assumption | decide) ?_
        exact PE_r hF rfl
theorem c_type (hE : EW h pl sp fp psc par_ ss sa) (hp : CP p psc par_) (hx : WX p) (hF : FO p false fsc far) (hL : ss 0 = N 0) (hR : ss 1 = N 1) (hb : ∀ c, c < nC p → sa 5 c = N (2 + c)) (hG : GN p N) (t w : Int32) : Mt g 5 m_EB_type [.ref 1, .int t, .int w] (blkW 0 h 74 fsc far) sz u (PE (A_type p N t w) h p) sz u := by
  have hq := hp.1
  obtain ⟨hT, hB, hS, hC⟩ := hp.1.1.1
  have h1 := hE.1 fsc far
  have hP := hE.2.1 fsc far
  have hN := hE.2.2 fsc far
  have hBN := GN_BN hq.1 hG
  unfold A_type
  refine Mt.of m_EB_type_w m_EB_type_x m_EB_type_c rfl rfl (ls := [.ref 1, .int t, .int w]) rfl ?_
  refine V_aload_n rfl rfl ?_
  refine V_iload_n rfl rfl ?_
  refine V_callVi rfl rfl m_EB_isType_w m_EB_isType_x rfl (by decide) rfl (s_eT (by assumption) (by assumption) (by assumption) _) (by decide) rfl (by first | assumption | exact blkW_0 | exact bAt_0 (by assumption) | exact bAt_0 (hA _ _) | rfl) (Nat.le_of_ble_eq_true rfl) ?_
  cases ho : inN t (nT p)
  · rw [if_neg (by decide)]
    refine V_if_neF rfl (rfl) ?_
    refine V_ldc rfl rfl ?_
    refine V_ireturn rfl rfl (by first | rfl | exact b2_nar _ | assumption | decide) ?_
    exact PE_r hF rfl
  · rw [if_pos rfl]
    refine V_if_neT rfl (by decide) ?_
    obtain ⟨t, ht, rfl⟩ := inN_t (by omega) ho
    rw [nI_clamp (by omega)]
    refine V_iload_n rfl rfl ?_
    cases hw : inN w 6
    · rw [if_neg (by decide)]
      refine V_tabOut (tg := 123) rfl (inN_sw hw (by decide)) (by decide) ?_
      refine V_ldc rfl rfl ?_
      refine V_ireturn rfl rfl (by first | rfl | exact b2_nar _ | assumption | decide) ?_
      exact PE_r hF rfl
    · obtain ⟨j, hj, rfl⟩ := inN_t (by decide) hw
      rw [if_pos rfl, nI_clamp (by omega)]
      rcases (show j = 0 ∨ j = 1 ∨ j = 2 ∨ j = 3 ∨ j = 4 ∨ j = 5 by omega) with rfl | rfl | rfl | rfl | rfl | rfl
      · refine V_tabIn (off := 40) (tg := 52) rfl (by decide) (by decide) (by decide) (by decide) ?_
        refine V_aload_n rfl rfl ?_
        refine V_getfield rfl rfl (by first | assumption | exact blkW_0 | exact bAt_0 (by assumption) | exact bAt_0 (hA _ _) | rfl) (by rfl) ?_
        refine V_iload_n rfl rfl ?_
        refine V_callVi rfl rfl m_Plan_isClass_w m_Plan_isClass_x rfl (by decide) rfl (s_isCl (by first | assumption | exact hA _ _) (by assumption) (by first | omega | assumption)) (by decide) rfl (by first | assumption | exact blkW_0 | exact bAt_0 (by assumption) | exact bAt_0 (hA _ _) | rfl) (Nat.le_of_ble_eq_true rfl) ?_
        show V g _ m_EB_type (PE (b2 (isC p t)) h p) _ _ _ _ _ _ _ _
        cases hc : isC p t
        · refine V_if_eqT rfl (rfl) ?_
          refine V_iconst (v := 0) rfl (by decide) ?_
          refine V_ireturn rfl rfl (by first | rfl | exact b2_nar _ | assumption | decide) ?_
          exact PE_r hF rfl
        · refine V_if_eqF rfl (by decide) ?_
          refine V_iconst (v := 1) rfl (by decide) ?_
          refine V_goto rfl ?_
          refine V_ireturn rfl rfl (by first | rfl | exact b2_nar _ | assumption | decide) ?_
          exact PE_r hF rfl
      · refine V_tabIn (off := 57) (tg := 69) rfl (by decide) (by decide) (by decide) (by decide) ?_
        refine V_aload_n rfl rfl ?_
        refine V_getfield rfl rfl (by first | assumption | exact blkW_0 | exact bAt_0 (by assumption) | exact bAt_0 (hA _ _) | rfl) (by rfl) ?_
        refine V_getfield rfl rfl (by first | assumption | exact blkW_0 | exact bAt_0 (by assumption) | exact bAt_0 (hA _ _) | rfl) (by rfl) ?_
        refine V_iload_n rfl rfl ?_
        refine V_callSi rfl rfl (Or.inl rfl) m_EB_at_w m_EB_at_x rfl rfl (s_atv (by first | assumption | exact blkW_i rfl rfl | exact bAt_i (by assumption) rfl rfl | exact bAt_i (hA _ _) rfl rfl) (by decide) _ (by first | exact (atV_in (by first | omega | assumption) (by decide)).trans (cq_par (by assumption) (by first | omega | assumption)) | exact (atV_in (by first | omega | assumption) (by decide)).trans (cq_abv (by assumption) (by first | omega | assumption)) | exact (atV_in (by first | omega | assumption) (by decide)).trans (cq_bel (by assumption) (by first | omega | assumption)) | exact (atV_in (by first | omega | assumption) (by decide)).trans (cq_dep (by assumption) (by first | omega | assumption)) | exact (atV_in (by first | omega | assumption) (by decide)).trans (cq_bT (by assumption) (by first | omega | assumption)) | exact (atV_in (by first | omega | assumption) (by decide)).trans (cq_bM (by assumption) (by first | omega | assumption)) | exact (atV_in (by first | omega | assumption) (by decide)).trans (cq_sK (by assumption) (by first | omega | assumption)) | exact (atV_in (by first | omega | assumption) (by decide)).trans (cq_sB (by assumption) (by first | omega | assumption)) | exact (atV_in (by first | omega | assumption) (by decide)).trans (cq_sT (by assumption) (by first | omega | assumption)) | exact (atV_in (by first | omega | assumption) (by decide)).trans (cq_sM (by assumption) (by first | omega | assumption)) | exact (atV_in (by first | omega | assumption) (by decide)).trans (cq_cS (by assumption) (by first | omega | assumption)) | exact atV_in (by first | omega | assumption) (by decide) | exact atV_m1 | rfl)) (by decide) rfl (Nat.le_of_ble_eq_true rfl) ?_
        refine V_ireturn rfl rfl (by first | rfl | exact b2_nar _ | assumption | decide) ?_
        exact PE_r hF rfl
      · refine V_tabIn (off := 69) (tg := 81) rfl (by decide) (by decide) (by decide) (by decide) ?_
        refine V_aload_n rfl rfl ?_
        refine V_getfield rfl rfl (by first | assumption | exact blkW_0 | exact bAt_0 (by assumption) | exact bAt_0 (hA _ _) | rfl) (by rfl) ?_
        refine V_getfield rfl rfl (by first | assumption | exact blkW_0 | exact bAt_0 (by assumption) | exact bAt_0 (hA _ _) | rfl) (by rfl) ?_
        refine V_iload_n rfl rfl ?_
        refine V_callSi rfl rfl (Or.inl rfl) m_EB_at_w m_EB_at_x rfl rfl (s_atv (by first | assumption | exact blkW_i rfl rfl | exact bAt_i (by assumption) rfl rfl | exact bAt_i (hA _ _) rfl rfl) (by decide) _ (by first | exact (atV_in (by first | omega | assumption) (by decide)).trans (cq_par (by assumption) (by first | omega | assumption)) | exact (atV_in (by first | omega | assumption) (by decide)).trans (cq_abv (by assumption) (by first | omega | assumption)) | exact (atV_in (by first | omega | assumption) (by decide)).trans (cq_bel (by assumption) (by first | omega | assumption)) | exact (atV_in (by first | omega | assumption) (by decide)).trans (cq_dep (by assumption) (by first | omega | assumption)) | exact (atV_in (by first | omega | assumption) (by decide)).trans (cq_bT (by assumption) (by first | omega | assumption)) | exact (atV_in (by first | omega | assumption) (by decide)).trans (cq_bM (by assumption) (by first | omega | assumption)) | exact (atV_in (by first | omega | assumption) (by decide)).trans (cq_sK (by assumption) (by first | omega | assumption)) | exact (atV_in (by first | omega | assumption) (by decide)).trans (cq_sB (by assumption) (by first | omega | assumption)) | exact (atV_in (by first | omega | assumption) (by decide)).trans (cq_sT (by assumption) (by first | omega | assumption)) | exact (atV_in (by first | omega | assumption) (by decide)).trans (cq_sM (by assumption) (by first | omega | assumption)) | exact (atV_in (by first | omega | assumption) (by decide)).trans (cq_cS (by assumption) (by first | omega | assumption)) | exact atV_in (by first | omega | assumption) (by decide) | exact atV_m1 | rfl)) (by decide) rfl (Nat.le_of_ble_eq_true rfl) ?_
        refine V_ireturn rfl rfl (by first | rfl | exact b2_nar _ | assumption | decide) ?_
        exact PE_r hF rfl
      · refine V_tabIn (off := 81) (tg := 93) rfl (by decide) (by decide) (by decide) (by decide) ?_
        refine V_aload_n rfl rfl ?_
        refine V_getfield rfl rfl (by first | assumption | exact blkW_0 | exact bAt_0 (by assumption) | exact bAt_0 (hA _ _) | rfl) (by rfl) ?_
        refine V_getfield rfl rfl (by first | assumption | exact blkW_0 | exact bAt_0 (by assumption) | exact bAt_0 (hA _ _) | rfl) (by rfl) ?_
        refine V_iload_n rfl rfl ?_
        refine V_callSi rfl rfl (Or.inl rfl) m_EB_at_w m_EB_at_x rfl rfl (s_atv (by first | assumption | exact blkW_i rfl rfl | exact bAt_i (by assumption) rfl rfl | exact bAt_i (hA _ _) rfl rfl) (by decide) _ (by first | exact (atV_in (by first | omega | assumption) (by decide)).trans (cq_par (by assumption) (by first | omega | assumption)) | exact (atV_in (by first | omega | assumption) (by decide)).trans (cq_abv (by assumption) (by first | omega | assumption)) | exact (atV_in (by first | omega | assumption) (by decide)).trans (cq_bel (by assumption) (by first | omega | assumption)) | exact (atV_in (by first | omega | assumption) (by decide)).trans (cq_dep (by assumption) (by first | omega | assumption)) | exact (atV_in (by first | omega | assumption) (by decide)).trans (cq_bT (by assumption) (by first | omega | assumption)) | exact (atV_in (by first | omega | assumption) (by decide)).trans (cq_bM (by assumption) (by first | omega | assumption)) | exact (atV_in (by first | omega | assumption) (by decide)).trans (cq_sK (by assumption) (by first | omega | assumption)) | exact (atV_in (by first | omega | assumption) (by decide)).trans (cq_sB (by assumption) (by first | omega | assumption)) | exact (atV_in (by first | omega | assumption) (by decide)).trans (cq_sT (by assumption) (by first | omega | assumption)) | exact (atV_in (by first | omega | assumption) (by decide)).trans (cq_sM (by assumption) (by first | omega | assumption)) | exact (atV_in (by first | omega | assumption) (by decide)).trans (cq_cS (by assumption) (by first | omega | assumption)) | exact atV_in (by first | omega | assumption) (by decide) | exact atV_m1 | rfl)) (by decide) rfl (Nat.le_of_ble_eq_true rfl) ?_
        refine V_ireturn rfl rfl (by first | rfl | exact b2_nar _ | assumption | decide) ?_
        exact PE_r hF rfl
      · refine V_tabIn (off := 93) (tg := 105) rfl (by decide) (by decide) (by decide) (by decide) ?_
        refine V_aload_n rfl rfl ?_
        refine V_getfield rfl rfl (by first | assumption | exact blkW_0 | exact bAt_0 (by assumption) | exact bAt_0 (hA _ _) | rfl) (by rfl) ?_
        refine V_iload_n rfl rfl ?_
        refine V_callSi rfl rfl (Or.inl rfl) m_EB_bit_w m_EB_bit_x rfl rfl (s_bitv _ (by first | exact bitV_b (by first | omega | assumption) | exact bitV_m1 | rfl)) (by decide) rfl (Nat.le_of_ble_eq_true rfl) ?_
        refine V_callVi rfl rfl m_Plan_bodiesOf_w m_Plan_bodiesOf_x rfl (by decide) rfl (s_boS (by first | assumption | exact hA _ _) (by assumption) _) (by decide) rfl (by first | assumption | exact blkW_0 | exact bAt_0 (by assumption) | exact bAt_0 (hA _ _) | rfl) (Nat.le_of_ble_eq_true rfl) ?_
        refine V_ireturn rfl rfl (by first | rfl | exact b2_nar _ | assumption | decide) ?_
        refine PE_r hF (setF_cong fun k hk => ?_)
        have hbk := (hq.1.2.2.1 k hk).1
        rw [bt_bI (by omega) (by omega), Bool.eq_iff_iff, decide_eq_true_eq, beq_iff_eq]
      · refine V_tabIn (off := 105) (tg := 117) rfl (by decide) (by decide) (by decide) (by decide) ?_
        refine V_aload_n rfl rfl ?_
        refine V_iload_n rfl rfl ?_
        refine V_callVi rfl rfl m_EB_callsHurtBy_w m_EB_callsHurtBy_x rfl (by decide) rfl (s_chb (by assumption) (by assumption) (by assumption) (by assumption) (by assumption) (by assumption) (by assumption) (by assumption) (by first | omega | assumption)) (by decide) rfl (by first | assumption | exact blkW_0 | exact bAt_0 (by assumption) | exact bAt_0 (hA _ _) | rfl) (Nat.le_of_ble_eq_true rfl) ?_
        refine V_ireturn rfl rfl (by first | rfl | exact b2_nar _ | assumption | decide) ?_
        exact PE_r hF (hrt_eq hq.1 hG)
theorem c_callers (hE : EW h pl sp fp psc par_ ss sa) (hp : CP p psc par_) (hx : WX p) (hF : FO p false fsc far) (hL : ss 0 = N 0) (hR : ss 1 = N 1) (b : Int32) : Mt g 5 m_EB_callers [.ref 1, .int b] (blkW 0 h 74 fsc far) sz u (PE (A_callers p N b) h p) sz u := by
  have hq := hp.1
  obtain ⟨hT, hB, hS, hC⟩ := hp.1.1.1
  have h1 := hE.1 fsc far
  have hP := hE.2.1 fsc far
  have hN := hE.2.2 fsc far
  unfold A_callers
  refine Mt.of m_EB_callers_w m_EB_callers_x m_EB_callers_c rfl rfl (ls := [.ref 1, .int b]) rfl ?_
  refine V_aload_n rfl rfl ?_
  refine V_iload_n rfl rfl ?_
  refine V_callVi rfl rfl m_EB_isBody_w m_EB_isBody_x rfl (by decide) rfl (s_eB (by assumption) (by assumption) (by assumption) _) (by decide) rfl (by first | assumption | exact blkW_0 | exact bAt_0 (by assumption) | exact bAt_0 (hA _ _) | rfl) (Nat.le_of_ble_eq_true rfl) ?_
  cases ho : inN b (nB p)
  · rw [if_neg (by decide)]
    refine V_if_eqT rfl (rfl) ?_
    refine V_ldc rfl rfl ?_
    refine V_ireturn rfl rfl (by first | rfl | exact b2_nar _ | assumption | decide) ?_
    exact PE_r hF rfl
  · rw [if_pos rfl]
    refine V_if_eqF rfl (by decide) ?_
    obtain ⟨b, hb, rfl⟩ := inN_t (by omega) ho
    rw [nI_clamp (by omega)]
    refine V_aload_n rfl rfl ?_
    refine V_callV rfl rfl m_EB_flowNow_w m_EB_flowNow_x rfl (by decide) rfl (w_flowNow hE hp hx hF hL hR) (by decide) rfl (by first | assumption | exact blkW_0 | exact bAt_0 (by assumption) | exact bAt_0 (hA _ _) | rfl) (Nat.le_of_ble_eq_true rfl) (by first | exact Nat.le_refl _ | omega | decide) (by first | exact Nat.le_refl _ | omega | decide) (fun r hh1 hP => ?_)
    obtain ⟨rfl, fsc', far', rfl, hFF⟩ := hP
    refine V_iload_n rfl rfl ?_
    refine V_callSi rfl rfl (Or.inl rfl) m_EB_bit_w m_EB_bit_x rfl rfl (s_bitv _ (by first | exact bitV_b (by first | omega | assumption) | exact bitV_m1 | rfl)) (by decide) rfl (Nat.le_of_ble_eq_true rfl) ?_
    refine V_callVi rfl rfl m_Flow_whoCalls_w m_Flow_whoCalls_x rfl (by decide) rfl (s_who blkW_at _) (by decide) rfl (by first | assumption | exact blkW_0 | exact bAt_0 (by assumption) | exact bAt_0 (hA _ _) | rfl) (Nat.le_of_ble_eq_true rfl) ?_
    refine V_goto rfl ?_
    refine V_ireturn rfl rfl (by first | rfl | exact b2_nar _ | assumption | decide) ?_
    refine PE_r hFF.1 (b_ext2 fun i hi => ?_)
    rw [bt_setF (by decide), bt_setF (by omega), Bool.not_eq_true', decide_eq_false_iff_not, and_ne0]
    constructor
    · rintro ⟨i1, x, x1, x2⟩
      rw [bt_bI (by omega) (bt_lt x2), decide_eq_true_eq] at x2
      subst x2
      rw [FF_2 hFF i1] at x1
      refine ⟨?_, x1⟩
      unfold clB at x1
      by_cases q : bt (rch p N 0).1 i = true
      · exact (rch_sub hq.1 N (sub_0 (nT p))).1 i q
      · rw [if_neg q, b_0] at x1; cases x1
    · rintro ⟨i1, i2⟩
      exact ⟨by omega, b, by rw [FF_2 hFF (by omega)]; exact i2, by rw [bt_bI (by omega) (by omega), decide_eq_true rfl]⟩
theorem cbS_rg {p : Pg} {N fsc : Nat → Int32} {far : Nat → Nat → Int32} (hw : WB p) (hFF : FF p N fsc far) : cbS (far 2) = rgS p (rch p N 0).1 (rch p N 0).2 := by
  have hB := hw.1.2.1
  funext X
  refine b_ext2 fun i hi => ?_
  unfold cbS rgS
  rw [bt_orA, bt_orA]
  constructor
  · rintro (z | ⟨k, k1, k2⟩)
    · exact Or.inl z
    · rw [bt_cnd, Bool.and_eq_true, FF_2 hFF k1] at k2
      refine Or.inr ⟨k, ?_, by rw [bt_cnd, k2.1, k2.2]; rfl⟩
      have x1 := k2.2
      unfold clB at x1
      by_cases q : bt (rch p N 0).1 k = true
      · exact (rch_sub hw N (sub_0 (nT p))).1 k q
      · rw [if_neg q, b_0] at x1; cases x1
  · rintro (z | ⟨k, k1, k2⟩)
    · exact Or.inl z
    · exact Or.inr ⟨k, by omega, by rw [FF_2 hFF (by omega)]; exact k2⟩
theorem c_body (hE : EW h pl sp fp psc par_ ss sa) (hp : CP p psc par_) (hx : WX p) (hF : FO p false fsc far) (hL : ss 0 = N 0) (hR : ss 1 = N 1) (b w : Int32) : Mt g 5 m_EB_body [.ref 1, .int b, .int w] (blkW 0 h 74 fsc far) sz u (PE (A_body p N b w) h p) sz u := by
  have hq := hp.1
  obtain ⟨hT, hB, hS, hC⟩ := hp.1.1.1
  have h1 := hE.1 fsc far
  have hP := hE.2.1 fsc far
  have hN := hE.2.2 fsc far
  unfold A_body
  refine Mt.of m_EB_body_w m_EB_body_x m_EB_body_c rfl rfl (ls := [.ref 1, .int b, .int w]) rfl ?_
  refine V_aload_n rfl rfl ?_
  refine V_iload_n rfl rfl ?_
  refine V_callVi rfl rfl m_EB_isBody_w m_EB_isBody_x rfl (by decide) rfl (s_eB (by assumption) (by assumption) (by assumption) _) (by decide) rfl (by first | assumption | exact blkW_0 | exact bAt_0 (by assumption) | exact bAt_0 (hA _ _) | rfl) (Nat.le_of_ble_eq_true rfl) ?_
  cases ho : inN b (nB p)
  · rw [if_neg (by decide)]
    refine V_if_neF rfl (rfl) ?_
    refine V_ldc rfl rfl ?_
    refine V_ireturn rfl rfl (by first | rfl | exact b2_nar _ | assumption | decide) ?_
    exact PE_r hF rfl
  · rw [if_pos rfl]
    refine V_if_neT rfl (by decide) ?_
    obtain ⟨b, hb, rfl⟩ := inN_t (by omega) ho
    rw [nI_clamp (by omega)]
    refine V_iload_n rfl rfl ?_
    cases hw : inN w 7
    · rw [if_neg (by decide)]
      refine V_tabOut (tg := 147) rfl (inN_sw hw (by decide)) (by decide) ?_
      refine V_ldc rfl rfl ?_
      refine V_ireturn rfl rfl (by first | rfl | exact b2_nar _ | assumption | decide) ?_
      exact PE_r hF rfl
    · obtain ⟨j, hj, rfl⟩ := inN_t (by decide) hw
      rw [if_pos rfl, nI_clamp (by omega)]
      rcases (show j = 0 ∨ j = 1 ∨ j = 2 ∨ j = 3 ∨ j = 4 ∨ j = 5 ∨ j = 6 by omega) with rfl | rfl | rfl | rfl | rfl | rfl | rfl
      · refine V_tabIn (off := 44) (tg := 56) rfl (by decide) (by decide) (by decide) (by decide) ?_
        refine V_aload_n rfl rfl ?_
        refine V_getfield rfl rfl (by first | assumption | exact blkW_0 | exact bAt_0 (by assumption) | exact bAt_0 (hA _ _) | rfl) (by rfl) ?_
        refine V_getfield rfl rfl (by first | assumption | exact blkW_0 | exact bAt_0 (by assumption) | exact bAt_0 (hA _ _) | rfl) (by rfl) ?_
        refine V_iload_n rfl rfl ?_
        refine V_callSi rfl rfl (Or.inl rfl) m_EB_at_w m_EB_at_x rfl rfl (s_atv (by first | assumption | exact blkW_i rfl rfl | exact bAt_i (by assumption) rfl rfl | exact bAt_i (hA _ _) rfl rfl) (by decide) _ (by first | exact (atV_in (by first | omega | assumption) (by decide)).trans (cq_par (by assumption) (by first | omega | assumption)) | exact (atV_in (by first | omega | assumption) (by decide)).trans (cq_abv (by assumption) (by first | omega | assumption)) | exact (atV_in (by first | omega | assumption) (by decide)).trans (cq_bel (by assumption) (by first | omega | assumption)) | exact (atV_in (by first | omega | assumption) (by decide)).trans (cq_dep (by assumption) (by first | omega | assumption)) | exact (atV_in (by first | omega | assumption) (by decide)).trans (cq_bT (by assumption) (by first | omega | assumption)) | exact (atV_in (by first | omega | assumption) (by decide)).trans (cq_bM (by assumption) (by first | omega | assumption)) | exact (atV_in (by first | omega | assumption) (by decide)).trans (cq_sK (by assumption) (by first | omega | assumption)) | exact (atV_in (by first | omega | assumption) (by decide)).trans (cq_sB (by assumption) (by first | omega | assumption)) | exact (atV_in (by first | omega | assumption) (by decide)).trans (cq_sT (by assumption) (by first | omega | assumption)) | exact (atV_in (by first | omega | assumption) (by decide)).trans (cq_sM (by assumption) (by first | omega | assumption)) | exact (atV_in (by first | omega | assumption) (by decide)).trans (cq_cS (by assumption) (by first | omega | assumption)) | exact atV_in (by first | omega | assumption) (by decide) | exact atV_m1 | rfl)) (by decide) rfl (Nat.le_of_ble_eq_true rfl) ?_
        refine V_ireturn rfl rfl (by first | rfl | exact b2_nar _ | assumption | decide) ?_
        exact PE_r hF rfl
      · refine V_tabIn (off := 56) (tg := 68) rfl (by decide) (by decide) (by decide) (by decide) ?_
        refine V_aload_n rfl rfl ?_
        refine V_getfield rfl rfl (by first | assumption | exact blkW_0 | exact bAt_0 (by assumption) | exact bAt_0 (hA _ _) | rfl) (by rfl) ?_
        refine V_getfield rfl rfl (by first | assumption | exact blkW_0 | exact bAt_0 (by assumption) | exact bAt_0 (hA _ _) | rfl) (by rfl) ?_
        refine V_iload_n rfl rfl ?_
        refine V_callSi rfl rfl (Or.inl rfl) m_EB_at_w m_EB_at_x rfl rfl (s_atv (by first | assumption | exact blkW_i rfl rfl | exact bAt_i (by assumption) rfl rfl | exact bAt_i (hA _ _) rfl rfl) (by decide) _ (by first | exact (atV_in (by first | omega | assumption) (by decide)).trans (cq_par (by assumption) (by first | omega | assumption)) | exact (atV_in (by first | omega | assumption) (by decide)).trans (cq_abv (by assumption) (by first | omega | assumption)) | exact (atV_in (by first | omega | assumption) (by decide)).trans (cq_bel (by assumption) (by first | omega | assumption)) | exact (atV_in (by first | omega | assumption) (by decide)).trans (cq_dep (by assumption) (by first | omega | assumption)) | exact (atV_in (by first | omega | assumption) (by decide)).trans (cq_bT (by assumption) (by first | omega | assumption)) | exact (atV_in (by first | omega | assumption) (by decide)).trans (cq_bM (by assumption) (by first | omega | assumption)) | exact (atV_in (by first | omega | assumption) (by decide)).trans (cq_sK (by assumption) (by first | omega | assumption)) | exact (atV_in (by first | omega | assumption) (by decide)).trans (cq_sB (by assumption) (by first | omega | assumption)) | exact (atV_in (by first | omega | assumption) (by decide)).trans (cq_sT (by assumption) (by first | omega | assumption)) | exact (atV_in (by first | omega | assumption) (by decide)).trans (cq_sM (by assumption) (by first | omega | assumption)) | exact (atV_in (by first | omega | assumption) (by decide)).trans (cq_cS (by assumption) (by first | omega | assumption)) | exact atV_in (by first | omega | assumption) (by decide) | exact atV_m1 | rfl)) (by decide) rfl (Nat.le_of_ble_eq_true rfl) ?_
        refine V_ireturn rfl rfl (by first | rfl | exact b2_nar _ | assumption | decide) ?_
        exact PE_r hF rfl
      · refine V_tabIn (off := 68) (tg := 80) rfl (by decide) (by decide) (by decide) (by decide) ?_
        refine V_aload_n rfl rfl ?_
        refine V_getfield rfl rfl (by first | assumption | exact blkW_0 | exact bAt_0 (by assumption) | exact bAt_0 (hA _ _) | rfl) (by rfl) ?_
        refine V_iload_n rfl rfl ?_
        refine V_callVi rfl rfl m_Plan_stepsOf_w m_Plan_stepsOf_x rfl (by decide) rfl (s_cso (by first | assumption | exact hA _ _) (by assumption) (by first | omega | assumption)) (by decide) rfl (by first | assumption | exact blkW_0 | exact bAt_0 (by assumption) | exact bAt_0 (hA _ _) | rfl) (Nat.le_of_ble_eq_true rfl) ?_
        refine V_ireturn rfl rfl (by first | rfl | exact b2_nar _ | assumption | decide) ?_
        exact PE_r hF rfl
      · refine V_tabIn (off := 77) (tg := 89) rfl (by decide) (by decide) (by decide) (by decide) ?_
        refine V_aload_n rfl rfl ?_
        refine V_callV rfl rfl m_EB_flowNow_w m_EB_flowNow_x rfl (by decide) rfl (w_flowNow hE hp hx hF hL hR) (by decide) rfl (by first | assumption | exact blkW_0 | exact bAt_0 (by assumption) | exact bAt_0 (hA _ _) | rfl) (Nat.le_of_ble_eq_true rfl) (by first | exact Nat.le_refl _ | omega | decide) (by first | exact Nat.le_refl _ | omega | decide) (fun r hh1 hP => ?_)
        obtain ⟨rfl, fsc', far', rfl, hFF⟩ := hP
        have e0 := FF_0 hFF
        refine V_getI rfl rfl blkW_0 (by rfl) e0 ?_
        refine V_iload_n rfl rfl ?_
        refine V_callSi rfl rfl (Or.inl rfl) m_EB_has_w m_EB_has_x rfl rfl (s_hasv _ _ (by first | exact hasV_b (by first | omega | assumption) _ | exact hasV_m1 _ | rfl)) (by decide) rfl (Nat.le_of_ble_eq_true rfl) ?_
        show V g _ m_EB_body (PE (b2 (bt (rch p N 0).1 b)) h p) _ _ _ _ _ _ _ _
        cases hc : bt (rch p N 0).1 b
        · refine V_if_eqT rfl (rfl) ?_
          refine V_iconst (v := 0) rfl (by decide) ?_
          refine V_ireturn rfl rfl (by first | rfl | exact b2_nar _ | assumption | decide) ?_
          exact PE_r hFF.1 rfl
        · refine V_if_eqF rfl (by decide) ?_
          refine V_iconst (v := 1) rfl (by decide) ?_
          refine V_goto rfl ?_
          refine V_ireturn rfl rfl (by first | rfl | exact b2_nar _ | assumption | decide) ?_
          exact PE_r hFF.1 rfl
      · refine V_tabIn (off := 97) (tg := 109) rfl (by decide) (by decide) (by decide) (by decide) ?_
        refine V_aload_n rfl rfl ?_
        refine V_callV rfl rfl m_EB_flowNow_w m_EB_flowNow_x rfl (by decide) rfl (w_flowNow hE hp hx hF hL hR) (by decide) rfl (by first | assumption | exact blkW_0 | exact bAt_0 (by assumption) | exact bAt_0 (hA _ _) | rfl) (Nat.le_of_ble_eq_true rfl) (by first | exact Nat.le_refl _ | omega | decide) (by first | exact Nat.le_refl _ | omega | decide) (fun r hh1 hP => ?_)
        obtain ⟨rfl, fsc', far', rfl, hFF⟩ := hP
        refine V_iload_n rfl rfl ?_
        refine V_callVi rfl rfl m_Flow_comesBack_w m_Flow_comesBack_x rfl (by decide) rfl (s_cmB blkW_at (show b < 20 by omega)) (by decide) rfl (by first | assumption | exact blkW_0 | exact bAt_0 (by assumption) | exact bAt_0 (hA _ _) | rfl) (Nat.le_of_ble_eq_true rfl) ?_
        rw [cbS_rg hq.1 hFF, FF_2 hFF (by omega)]
        show V g _ m_EB_body (PE (b2 (rng p (rch p N 0).1 (rch p N 0).2 b)) h p) _ _ _ _ _ _ _ _
        unfold rng
        cases hc : bt (itF (rgS p (rch p N 0).1 (rch p N 0).2) 20 (clB p (rch p N 0).1 (rch p N 0).2 b)) b
        · refine V_if_eqT rfl (rfl) ?_
          refine V_iconst (v := 0) rfl (by decide) ?_
          refine V_ireturn rfl rfl (by first | rfl | exact b2_nar _ | assumption | decide) ?_
          exact PE_r hFF.1 rfl
        · refine V_if_eqF rfl (by decide) ?_
          refine V_iconst (v := 1) rfl (by decide) ?_
          refine V_goto rfl ?_
          refine V_ireturn rfl rfl (by first | rfl | exact b2_nar _ | assumption | decide) ?_
          exact PE_r hFF.1 rfl
      · refine V_tabIn (off := 114) (tg := 126) rfl (by decide) (by decide) (by decide) (by decide) ?_
        refine V_aload_n rfl rfl ?_
        refine V_getfield rfl rfl (by first | assumption | exact blkW_0 | exact bAt_0 (by assumption) | exact bAt_0 (hA _ _) | rfl) (by rfl) ?_
        refine V_iload_n rfl rfl ?_
        refine V_callVi rfl rfl m_Plan_foundOver_w m_Plan_foundOver_x rfl (by decide) rfl (s_fOv (by first | assumption | exact hA _ _) (by assumption) (by assumption) (by first | omega | assumption)) (by decide) rfl (by first | assumption | exact blkW_0 | exact bAt_0 (by assumption) | exact bAt_0 (hA _ _) | rfl) (Nat.le_of_ble_eq_true rfl) ?_
        refine V_ireturn rfl rfl (by first | rfl | exact b2_nar _ | assumption | decide) ?_
        exact PE_r hF rfl
      · refine V_tabIn (off := 123) (tg := 135) rfl (by decide) (by decide) (by decide) (by decide) ?_
        refine V_aload_n rfl rfl ?_
        refine V_callV rfl rfl m_EB_flowNow_w m_EB_flowNow_x rfl (by decide) rfl (w_flowNow hE hp hx hF hL hR) (by decide) rfl (by first | assumption | exact blkW_0 | exact bAt_0 (by assumption) | exact bAt_0 (hA _ _) | rfl) (Nat.le_of_ble_eq_true rfl) (by first | exact Nat.le_refl _ | omega | decide) (by first | exact Nat.le_refl _ | omega | decide) (fun r hh1 hP => ?_)
        obtain ⟨rfl, fsc', far', rfl, hFF⟩ := hP
        refine V_getfield rfl rfl (by first | assumption | exact blkW_0 | exact bAt_0 (by assumption) | exact bAt_0 (hA _ _) | rfl) (by rfl) ?_
        refine V_iload_n rfl rfl ?_
        refine V_callSi rfl rfl (Or.inl rfl) m_EB_at_w m_EB_at_x rfl rfl (s_atv (blkW_i rfl rfl) (by decide) _ ((atV_in (show b < 20 by omega) (by decide)).trans (FF_2 hFF (by omega)))) (by decide) rfl (Nat.le_of_ble_eq_true rfl) ?_
        refine V_ireturn rfl rfl (by first | rfl | exact b2_nar _ | assumption | decide) ?_
        exact PE_r hFF.1 rfl
theorem c_call (hE : EW h pl sp fp psc par_ ss sa) (hp : CP p psc par_) (hx : WX p) (hF : FO p false fsc far) (hL : ss 0 = N 0) (hR : ss 1 = N 1) (hb : ∀ c, c < nC p → sa 5 c = N (2 + c)) (hG : GN p N) (c w : Int32) : Mt g 6 m_EB_call [.ref 1, .int c, .int w] (blkW 0 h 74 fsc far) sz u (PE (A_call p N c w) h p) sz u := by
  have hq := hp.1
  obtain ⟨hT, hB, hS, hC⟩ := hp.1.1.1
  have h1 := hE.1 fsc far
  have hP := hE.2.1 fsc far
  have hN := hE.2.2 fsc far
  have hBN := GN_BN hq.1 hG
  unfold A_call
  refine Mt.of m_EB_call_w m_EB_call_x m_EB_call_c rfl rfl (ls := [.ref 1, .int c, .int w, .retAddr 0]) rfl ?_
  refine V_aload_n rfl rfl ?_
  refine V_iload_n rfl rfl ?_
  refine V_callVi rfl rfl m_EB_isCall_w m_EB_isCall_x rfl (by decide) rfl (s_eC (by assumption) (by assumption) (by assumption) _) (by decide) rfl (by first | assumption | exact blkW_0 | exact bAt_0 (by assumption) | exact bAt_0 (hA _ _) | rfl) (Nat.le_of_ble_eq_true rfl) ?_
  cases ho : inN c (nC p)
  · rw [if_neg (by decide)]
    refine V_if_neF rfl (rfl) ?_
    refine V_ldc rfl rfl ?_
    refine V_ireturn rfl rfl (by first | rfl | exact b2_nar _ | assumption | decide) ?_
    exact PE_r hF rfl
  · rw [if_pos rfl]
    refine V_if_neT rfl (by decide) ?_
    obtain ⟨c, hc, rfl⟩ := inN_t (by omega) ho
    rw [nI_clamp (by omega)]
    have hcs := hq.1.2.2.2.2 c hc
    have hcs1 := hcs.1
    have hws := hq.1.2.2.2.1 (cS p c) hcs1
    have eT : stT p (cS p c) = nI (sT p (cS p c)) := by unfold stT; rw [if_neg (by omega)]
    have eM : stM p (cS p c) = nI (sM p (cS p c)) := by unfold stM; rw [if_neg (by omega)]
    refine V_aload_n rfl rfl ?_
    refine V_getfield rfl rfl (by first | assumption | exact blkW_0 | exact bAt_0 (by assumption) | exact bAt_0 (hA _ _) | rfl) (by rfl) ?_
    refine V_getfield rfl rfl (by first | assumption | exact blkW_0 | exact bAt_0 (by assumption) | exact bAt_0 (hA _ _) | rfl) (by rfl) ?_
    refine V_iload_n rfl rfl ?_
    refine V_callSi rfl rfl (Or.inl rfl) m_EB_at_w m_EB_at_x rfl rfl (s_atv (by first | assumption | exact blkW_i rfl rfl | exact bAt_i (by assumption) rfl rfl | exact bAt_i (hA _ _) rfl rfl) (by decide) _ (by first | exact (atV_in (by first | omega | assumption) (by decide)).trans (cq_par (by assumption) (by first | omega | assumption)) | exact (atV_in (by first | omega | assumption) (by decide)).trans (cq_abv (by assumption) (by first | omega | assumption)) | exact (atV_in (by first | omega | assumption) (by decide)).trans (cq_bel (by assumption) (by first | omega | assumption)) | exact (atV_in (by first | omega | assumption) (by decide)).trans (cq_dep (by assumption) (by first | omega | assumption)) | exact (atV_in (by first | omega | assumption) (by decide)).trans (cq_bT (by assumption) (by first | omega | assumption)) | exact (atV_in (by first | omega | assumption) (by decide)).trans (cq_bM (by assumption) (by first | omega | assumption)) | exact (atV_in (by first | omega | assumption) (by decide)).trans (cq_sK (by assumption) (by first | omega | assumption)) | exact (atV_in (by first | omega | assumption) (by decide)).trans (cq_sB (by assumption) (by first | omega | assumption)) | exact (atV_in (by first | omega | assumption) (by decide)).trans (cq_sT (by assumption) (by first | omega | assumption)) | exact (atV_in (by first | omega | assumption) (by decide)).trans (cq_sM (by assumption) (by first | omega | assumption)) | exact (atV_in (by first | omega | assumption) (by decide)).trans (cq_cS (by assumption) (by first | omega | assumption)) | exact atV_in (by first | omega | assumption) (by decide) | exact atV_m1 | rfl)) (by decide) rfl (Nat.le_of_ble_eq_true rfl) ?_
    refine V_is3 rfl (by first | rfl | assumption) ?_
    refine V_iload_n rfl rfl ?_
    cases hw : inN w 7
    · rw [if_neg (by decide)]
      refine V_tabOut (tg := 141) rfl (inN_sw hw (by decide)) (by decide) ?_
      refine V_ldc rfl rfl ?_
      refine V_ireturn rfl rfl (by first | rfl | exact b2_nar _ | assumption | decide) ?_
      exact PE_r hF rfl
    · obtain ⟨j, hj, rfl⟩ := inN_t (by decide) hw
      rw [if_pos rfl, nI_clamp (by omega)]
      rcases (show j = 0 ∨ j = 1 ∨ j = 2 ∨ j = 3 ∨ j = 4 ∨ j = 5 ∨ j = 6 by omega) with rfl | rfl | rfl | rfl | rfl | rfl | rfl
      · refine V_tabIn (off := 44) (tg := 68) rfl (by decide) (by decide) (by decide) (by decide) ?_
        refine V_aload_n rfl rfl ?_
        refine V_getfield rfl rfl (by first | assumption | exact blkW_0 | exact bAt_0 (by assumption) | exact bAt_0 (hA _ _) | rfl) (by rfl) ?_
        refine V_getfield rfl rfl (by first | assumption | exact blkW_0 | exact bAt_0 (by assumption) | exact bAt_0 (hA _ _) | rfl) (by rfl) ?_
        refine V_iload_n rfl rfl ?_
        refine V_callSi rfl rfl (Or.inl rfl) m_EB_at_w m_EB_at_x rfl rfl (s_atv (by first | assumption | exact blkW_i rfl rfl | exact bAt_i (by assumption) rfl rfl | exact bAt_i (hA _ _) rfl rfl) (by decide) _ (by first | exact (atV_in (by first | omega | assumption) (by decide)).trans (cq_par (by assumption) (by first | omega | assumption)) | exact (atV_in (by first | omega | assumption) (by decide)).trans (cq_abv (by assumption) (by first | omega | assumption)) | exact (atV_in (by first | omega | assumption) (by decide)).trans (cq_bel (by assumption) (by first | omega | assumption)) | exact (atV_in (by first | omega | assumption) (by decide)).trans (cq_dep (by assumption) (by first | omega | assumption)) | exact (atV_in (by first | omega | assumption) (by decide)).trans (cq_bT (by assumption) (by first | omega | assumption)) | exact (atV_in (by first | omega | assumption) (by decide)).trans (cq_bM (by assumption) (by first | omega | assumption)) | exact (atV_in (by first | omega | assumption) (by decide)).trans (cq_sK (by assumption) (by first | omega | assumption)) | exact (atV_in (by first | omega | assumption) (by decide)).trans (cq_sB (by assumption) (by first | omega | assumption)) | exact (atV_in (by first | omega | assumption) (by decide)).trans (cq_sT (by assumption) (by first | omega | assumption)) | exact (atV_in (by first | omega | assumption) (by decide)).trans (cq_sM (by assumption) (by first | omega | assumption)) | exact (atV_in (by first | omega | assumption) (by decide)).trans (cq_cS (by assumption) (by first | omega | assumption)) | exact atV_in (by first | omega | assumption) (by decide) | exact atV_m1 | rfl)) (by decide) rfl (Nat.le_of_ble_eq_true rfl) ?_
        refine V_ireturn rfl rfl (by first | rfl | exact b2_nar _ | assumption | decide) ?_
        exact PE_r hF rfl
      · refine V_tabIn (off := 56) (tg := 80) rfl (by decide) (by decide) (by decide) (by decide) ?_
        refine V_aload_n rfl rfl ?_
        refine V_getfield rfl rfl (by first | assumption | exact blkW_0 | exact bAt_0 (by assumption) | exact bAt_0 (hA _ _) | rfl) (by rfl) ?_
        refine V_getfield rfl rfl (by first | assumption | exact blkW_0 | exact bAt_0 (by assumption) | exact bAt_0 (hA _ _) | rfl) (by rfl) ?_
        refine V_iload_n rfl rfl ?_
        refine V_callSi rfl rfl (Or.inl rfl) m_EB_at_w m_EB_at_x rfl rfl (s_atv (by first | assumption | exact blkW_i rfl rfl | exact bAt_i (by assumption) rfl rfl | exact bAt_i (hA _ _) rfl rfl) (by decide) _ (by first | exact (atV_in (by first | omega | assumption) (by decide)).trans (cq_par (by assumption) (by first | omega | assumption)) | exact (atV_in (by first | omega | assumption) (by decide)).trans (cq_abv (by assumption) (by first | omega | assumption)) | exact (atV_in (by first | omega | assumption) (by decide)).trans (cq_bel (by assumption) (by first | omega | assumption)) | exact (atV_in (by first | omega | assumption) (by decide)).trans (cq_dep (by assumption) (by first | omega | assumption)) | exact (atV_in (by first | omega | assumption) (by decide)).trans (cq_bT (by assumption) (by first | omega | assumption)) | exact (atV_in (by first | omega | assumption) (by decide)).trans (cq_bM (by assumption) (by first | omega | assumption)) | exact (atV_in (by first | omega | assumption) (by decide)).trans (cq_sK (by assumption) (by first | omega | assumption)) | exact (atV_in (by first | omega | assumption) (by decide)).trans (cq_sB (by assumption) (by first | omega | assumption)) | exact (atV_in (by first | omega | assumption) (by decide)).trans (cq_sT (by assumption) (by first | omega | assumption)) | exact (atV_in (by first | omega | assumption) (by decide)).trans (cq_sM (by assumption) (by first | omega | assumption)) | exact (atV_in (by first | omega | assumption) (by decide)).trans (cq_cS (by assumption) (by first | omega | assumption)) | exact atV_in (by first | omega | assumption) (by decide) | exact atV_m1 | rfl)) (by decide) rfl (Nat.le_of_ble_eq_true rfl) ?_
        refine V_ireturn rfl rfl (by first | rfl | exact b2_nar _ | assumption | decide) ?_
        exact PE_r hF eT
      · refine V_tabIn (off := 68) (tg := 92) rfl (by decide) (by decide) (by decide) (by decide) ?_
        refine V_aload_n rfl rfl ?_
        refine V_getfield rfl rfl (by first | assumption | exact blkW_0 | exact bAt_0 (by assumption) | exact bAt_0 (hA _ _) | rfl) (by rfl) ?_
        refine V_getfield rfl rfl (by first | assumption | exact blkW_0 | exact bAt_0 (by assumption) | exact bAt_0 (hA _ _) | rfl) (by rfl) ?_
        refine V_iload_n rfl rfl ?_
        refine V_callSi rfl rfl (Or.inl rfl) m_EB_at_w m_EB_at_x rfl rfl (s_atv (by first | assumption | exact blkW_i rfl rfl | exact bAt_i (by assumption) rfl rfl | exact bAt_i (hA _ _) rfl rfl) (by decide) _ (by first | exact (atV_in (by first | omega | assumption) (by decide)).trans (cq_par (by assumption) (by first | omega | assumption)) | exact (atV_in (by first | omega | assumption) (by decide)).trans (cq_abv (by assumption) (by first | omega | assumption)) | exact (atV_in (by first | omega | assumption) (by decide)).trans (cq_bel (by assumption) (by first | omega | assumption)) | exact (atV_in (by first | omega | assumption) (by decide)).trans (cq_dep (by assumption) (by first | omega | assumption)) | exact (atV_in (by first | omega | assumption) (by decide)).trans (cq_bT (by assumption) (by first | omega | assumption)) | exact (atV_in (by first | omega | assumption) (by decide)).trans (cq_bM (by assumption) (by first | omega | assumption)) | exact (atV_in (by first | omega | assumption) (by decide)).trans (cq_sK (by assumption) (by first | omega | assumption)) | exact (atV_in (by first | omega | assumption) (by decide)).trans (cq_sB (by assumption) (by first | omega | assumption)) | exact (atV_in (by first | omega | assumption) (by decide)).trans (cq_sT (by assumption) (by first | omega | assumption)) | exact (atV_in (by first | omega | assumption) (by decide)).trans (cq_sM (by assumption) (by first | omega | assumption)) | exact (atV_in (by first | omega | assumption) (by decide)).trans (cq_cS (by assumption) (by first | omega | assumption)) | exact atV_in (by first | omega | assumption) (by decide) | exact atV_m1 | rfl)) (by decide) rfl (Nat.le_of_ble_eq_true rfl) ?_
        refine V_ireturn rfl rfl (by first | rfl | exact b2_nar _ | assumption | decide) ?_
        exact PE_r hF eM
      · refine V_tabIn (off := 80) (tg := 104) rfl (by decide) (by decide) (by decide) (by decide) ?_
        refine V_aload_n rfl rfl ?_
        refine V_getfield rfl rfl (by first | assumption | exact blkW_0 | exact bAt_0 (by assumption) | exact bAt_0 (hA _ _) | rfl) (by rfl) ?_
        refine V_iload_n rfl rfl ?_
        refine V_aload_n rfl rfl ?_
        refine V_getfield rfl rfl (by first | assumption | exact blkW_0 | exact bAt_0 (by assumption) | exact bAt_0 (hA _ _) | rfl) (by rfl) ?_
        refine V_getI rfl rfl (by first | assumption | exact blkW_0 | exact bAt_0 (by assumption) | exact bAt_0 (hA _ _) | rfl) (by rfl) (by first | exact (by assumption) | rfl) ?_
        refine V_callVi rfl rfl m_Plan_mayOf_w m_Plan_mayOf_x rfl (by decide) rfl (s_cmay (by first | assumption | exact hA _ _) (by assumption) (by assumption) (by first | omega | assumption) _) (by decide) rfl (by first | assumption | exact blkW_0 | exact bAt_0 (by assumption) | exact bAt_0 (hA _ _) | rfl) (Nat.le_of_ble_eq_true rfl) ?_
        refine V_ireturn rfl rfl (by first | rfl | exact b2_nar _ | assumption | decide) ?_
        exact PE_r hF rfl
      · refine V_tabIn (off := 96) (tg := 120) rfl (by decide) (by decide) (by decide) (by decide) ?_
        refine V_aload_n rfl rfl ?_
        refine V_iload_n rfl rfl ?_
        refine V_callV rfl rfl m_EB_whatItDoes_w m_EB_whatItDoes_x rfl (by decide) rfl (w_wid hE hp hx hF hL hR hc) (by decide) rfl (by first | assumption | exact blkW_0 | exact bAt_0 (by assumption) | exact bAt_0 (hA _ _) | rfl) (Nat.le_of_ble_eq_true rfl) (by first | exact Nat.le_refl _ | omega | decide) (by first | exact Nat.le_refl _ | omega | decide) (fun r hh1 hP => ?_)
        obtain ⟨rfl, fsc', far', rfl, hF2⟩ := hP
        refine V_ireturn rfl rfl (by first | rfl | exact b2_nar _ | assumption | decide) ?_
        exact PE_r hF2 rfl
      · refine V_tabIn (off := 102) (tg := 126) rfl (by decide) (by decide) (by decide) (by decide) ?_
        refine V_aload_n rfl rfl ?_
        refine V_getfield rfl rfl (by first | assumption | exact blkW_0 | exact bAt_0 (by assumption) | exact bAt_0 (hA _ _) | rfl) (by rfl) ?_
        refine V_iload_n rfl rfl ?_
        refine V_callVi rfl rfl m_Scen_boundBody_w m_Scen_boundBody_x rfl (by decide) rfl (s_bdB (by assumption) (by first | omega | assumption)) (by decide) rfl (by first | assumption | exact blkW_0 | exact bAt_0 (by assumption) | exact bAt_0 (hA _ _) | rfl) (Nat.le_of_ble_eq_true rfl) ?_
        refine V_ireturn rfl rfl (by first | rfl | exact b2_nar _ | assumption | decide) ?_
        exact PE_r hF (hb c hc)
      · refine V_tabIn (off := 111) (tg := 135) rfl (by decide) (by decide) (by decide) (by decide) ?_
        refine V_aload_n rfl rfl ?_
        refine V_iload_n rfl rfl ?_
        refine V_callVi rfl rfl m_EB_typesThatBreak_w m_EB_typesThatBreak_x rfl (by decide) rfl (s_ttb (by assumption) (by assumption) (by assumption) (by assumption) (by assumption) (by assumption) (by assumption) (by assumption) (by first | omega | assumption)) (by decide) rfl (by first | assumption | exact blkW_0 | exact bAt_0 (by assumption) | exact bAt_0 (hA _ _) | rfl) (Nat.le_of_ble_eq_true rfl) ?_
        refine V_ireturn rfl rfl (by first | rfl | exact b2_nar _ | assumption | decide) ?_
        exact PE_r hF rfl
theorem c_holds (hE : EW h pl sp fp psc par_ ss sa) (hp : CP p psc par_) (hx : WX p) (hF : FO p false fsc far) (hL : ss 0 = N 0) (hR : ss 1 = N 1) (hb : ∀ c, c < nC p → sa 5 c = N (2 + c)) (hG : GN p N) (c : Int32) : Mt g 6 m_EB_holds [.ref 1, .int c] (blkW 0 h 74 fsc far) sz u (PE (A_holds p N c) h p) sz u := by
  have hq := hp.1
  obtain ⟨hT, hB, hS, hC⟩ := hp.1.1.1
  have h1 := hE.1 fsc far
  have hP := hE.2.1 fsc far
  have hN := hE.2.2 fsc far
  have hBN := GN_BN hq.1 hG
  unfold A_holds
  refine Mt.of m_EB_holds_w m_EB_holds_x m_EB_holds_c rfl rfl (ls := [.ref 1, .int c, .retAddr 0]) rfl ?_
  refine V_aload_n rfl rfl ?_
  refine V_iload_n rfl rfl ?_
  refine V_callVi rfl rfl m_EB_isCall_w m_EB_isCall_x rfl (by decide) rfl (s_eC (by assumption) (by assumption) (by assumption) _) (by decide) rfl (by first | assumption | exact blkW_0 | exact bAt_0 (by assumption) | exact bAt_0 (hA _ _) | rfl) (Nat.le_of_ble_eq_true rfl) ?_
  cases ho : inN c (nC p)
  · rw [if_neg (by decide)]
    refine V_if_neF rfl (rfl) ?_
    refine V_ldc rfl rfl ?_
    refine V_ireturn rfl rfl (by first | rfl | exact b2_nar _ | assumption | decide) ?_
    exact PE_r hF rfl
  · rw [if_pos rfl]
    refine V_if_neT rfl (by decide) ?_
    obtain ⟨c, hc, rfl⟩ := inN_t (by omega) ho
    rw [nI_clamp (by omega)]
    have hlt := BN_lt hBN hc
    refine V_aload_n rfl rfl ?_
    refine V_getfield rfl rfl (by first | assumption | exact blkW_0 | exact bAt_0 (by assumption) | exact bAt_0 (hA _ _) | rfl) (by rfl) ?_
    refine V_iload_n rfl rfl ?_
    refine V_callVi rfl rfl m_Scen_boundBody_w m_Scen_boundBody_x rfl (by decide) rfl (s_bdB (by assumption) (by first | omega | assumption)) (by decide) rfl (by first | assumption | exact blkW_0 | exact bAt_0 (by assumption) | exact bAt_0 (hA _ _) | rfl) (Nat.le_of_ble_eq_true rfl) ?_
    rw [hb c hc]
    refine V_is2 rfl (by first | rfl | assumption) ?_
    refine V_iload_n rfl rfl ?_
    refine V_iconst (v := (-1)) rfl (by decide) ?_
    by_cases e : N (2 + c) = -1
    · rw [if_pos (hlt.mpr e)]
      refine V_icmp_neF rfl (e) ?_
      refine V_ldc rfl rfl ?_
      refine V_ireturn rfl rfl (by first | rfl | exact b2_nar _ | assumption | decide) ?_
      exact PE_r hF rfl
    · rw [if_neg (fun z => e (hlt.mp z))]
      obtain ⟨b, hb20, eb⟩ := (hBN c hc).resolve_left e
      rw [eb]
      refine V_icmp_neT rfl (nI_m1 (by omega)) ?_
      refine V_aload_n rfl rfl ?_
      refine V_iload_n rfl rfl ?_
      refine V_callV rfl rfl m_EB_whatItDoes_w m_EB_whatItDoes_x rfl (by decide) rfl (w_wid hE hp hx hF hL hR hc) (by decide) rfl (by first | assumption | exact blkW_0 | exact bAt_0 (by assumption) | exact bAt_0 (hA _ _) | rfl) (Nat.le_of_ble_eq_true rfl) (by first | exact Nat.le_refl _ | omega | decide) (by first | exact Nat.le_refl _ | omega | decide) (fun r hh1 hP => ?_)
      obtain ⟨rfl, fsc', far', rfl, hF2⟩ := hP
      refine V_iload_n rfl rfl ?_
      refine V_callSi rfl rfl (Or.inl rfl) m_EB_bit_w m_EB_bit_x rfl rfl (s_bitv _ (by first | exact bitV_b (by first | omega | assumption) | exact bitV_m1 | rfl)) (by decide) rfl (Nat.le_of_ble_eq_true rfl) ?_
      refine V_iconst (v := (-1)) rfl (by decide) ?_
      refine V_ixor rfl ?_
      refine V_iand rfl ?_
      by_cases e2 : dos p (rch p N 0).1 (rch p N 0).2 c &&& (bI b ^^^ -1) = 0
      · refine V_if_neF rfl (e2) ?_
        refine V_iconst (v := 1) rfl (by decide) ?_
        refine V_goto rfl ?_
        refine V_ireturn rfl rfl (by first | rfl | exact b2_nar _ | assumption | decide) ?_
        exact PE_r hF2 (by rw [show ((1 : Int32) <<< (nI b &&& 31)) = bI b from rfl, decide_eq_true e2]; rfl)
      · refine V_if_neT rfl (e2) ?_
        refine V_iconst (v := 0) rfl (by decide) ?_
        refine V_ireturn rfl rfl (by first | rfl | exact b2_nar _ | assumption | decide) ?_
        exact PE_r hF2 (by rw [show ((1 : Int32) <<< (nI b &&& 31)) = bI b from rfl, decide_eq_false e2]; rfl)
theorem c_way (hE : EW h pl sp fp psc par_ ss sa) (hp : CP p psc par_) (hx : WX p) (hF : FO p false fsc far) (hL : ss 0 = N 0) (hR : ss 1 = N 1) (hU : upC p (N 0)) (b k : Int32) : Mt g 5 m_EB_way [.ref 1, .int b, .int k] (blkW 0 h 74 fsc far) sz u (PE (A_way p N b k) h p) sz u := by
  have hq := hp.1
  obtain ⟨hT, hB, hS, hC⟩ := hp.1.1.1
  have h1 := hE.1 fsc far
  have hP := hE.2.1 fsc far
  have hN := hE.2.2 fsc far
  unfold A_way
  refine Mt.of m_EB_way_w m_EB_way_x m_EB_way_c rfl rfl (ls := [.ref 1, .int b, .int k]) rfl ?_
  refine V_aload_n rfl rfl ?_
  refine V_iload_n rfl rfl ?_
  refine V_callVi rfl rfl m_EB_isBody_w m_EB_isBody_x rfl (by decide) rfl (s_eB (by assumption) (by assumption) (by assumption) _) (by decide) rfl (by first | assumption | exact blkW_0 | exact bAt_0 (by assumption) | exact bAt_0 (hA _ _) | rfl) (Nat.le_of_ble_eq_true rfl) ?_
  cases ho : inN b (nB p)
  · rw [if_neg (by decide)]
    refine V_if_neF rfl (rfl) ?_
    refine V_ldc rfl rfl ?_
    refine V_ireturn rfl rfl (by first | rfl | exact b2_nar _ | assumption | decide) ?_
    exact PE_r hF rfl
  · rw [if_pos rfl]
    refine V_if_neT rfl (by decide) ?_
    obtain ⟨b, hb, rfl⟩ := inN_t (by omega) ho
    rw [nI_clamp (by omega)]
    refine V_iload_n rfl rfl ?_
    refine V_iconst (v := (-1)) rfl (by decide) ?_
    by_cases hk : k < -1
    · rw [if_pos hk]
      refine V_icmp_geF rfl (fun q => fa_of_nlt2 q hk) ?_
      refine V_ldc rfl rfl ?_
      refine V_ireturn rfl rfl (by first | rfl | exact b2_nar _ | assumption | decide) ?_
      exact PE_r hF rfl
    · rw [if_neg hk]
      refine V_icmp_geT rfl (fa_of_nlt hk) ?_
      refine V_aload_n rfl rfl ?_
      refine V_callV rfl rfl m_EB_flowNow_w m_EB_flowNow_x rfl (by decide) rfl (w_flowNow hE hp hx hF hL hR) (by decide) rfl (by first | assumption | exact blkW_0 | exact bAt_0 (by assumption) | exact bAt_0 (hA _ _) | rfl) (Nat.le_of_ble_eq_true rfl) (by first | exact Nat.le_refl _ | omega | decide) (by first | exact Nat.le_refl _ | omega | decide) (fun r hh1 hP => ?_)
      obtain ⟨rfl, fsc', far', rfl, hFF⟩ := hP
      refine V_iload_n rfl rfl ?_
      refine V_iload_n rfl rfl ?_
      refine V_callV rfl rfl m_Flow_wayTo_w m_Flow_wayTo_x rfl (by decide) rfl (w_wayTo hFF.2.2.2 hq.1 hx (by rw [hFF.2.1]; exact hU) hFF.2.1.symm hFF.2.2.1.symm hb k hk) (by decide) rfl (by first | assumption | exact blkW_0 | exact bAt_0 (by assumption) | exact bAt_0 (hA _ _) | rfl) (Nat.le_of_ble_eq_true rfl) (by first | exact Nat.le_refl _ | omega | decide) (by first | exact Nat.le_refl _ | omega | decide) (fun r hh1 hP => ?_)
      obtain ⟨rfl, row, rfl⟩ := hP
      refine V_ireturn rfl rfl (by first | rfl | exact b2_nar _ | assumption | decide) ?_
      refine PE_r ⟨hFF.1.1, hFF.1.2.imp id fun z => ⟨z.1, z.2.1, fun x hx => ?_⟩⟩ rfl
      rw [va_n (by decide)]
      exact z.2.2 x hx
end eb3
