section rbody
variable {g : mG} {h : mH} {sz u rd pl n : Nat} {p : Pg} {psc : Nat → Int32} {rar par_ : Nat → Nat → Int32}
set_option maxRecDepth 20000 in
set_option maxHeartbeats 1000000 in
theorem e_rb57 (hd : djN (4, rd) (3, pl)) (hq : CQ (fin p) psc par_) (hw : WR p) (hn : n ≤ 240) (hl : ltr (rar 0) n) {f : Option (Nat × Nat)} {a : Nat} {x2 x3 : Int32} {rsc : Nat → Int32} (hS : ST (rar 0) n rsc f a) (Z : Rs (Pg × Nat)) (hZ : f = none → ∃ t m, x2 = nI t ∧ x3 = nI m ∧ t < nT p ∧ m < 6 ∧ hasB p t m = false ∧ nB p < 20 ∧ Z = if hv (rar 0) n a = 59 then .inr (addB p t m, skp (rar 0) n a + 1) else .inl (1, skp (rar 0) n a)) : V g 3 m_Read_readBody (RZ h rd pl n rar (Zf f Z)) sz u 57 [.ref rd, .ref pl, .int x2, .int x3] [] (rpW h rd pl rsc rar psc par_) sz u := by
  have hA := rp_A (h := h) (psc := psc) (par_ := par_) hd
  have hsg := sgn_c (T := rar 0) (n := n) (a := a) (c := 59) (by decide) (by decide)
  refine V_aload_n rfl rfl ?_
  refine V_callV rfl rfl m_Read_isEnded_w m_Read_isEnded_x rfl (by decide) rfl (w_isEnded hS hn hl) (by decide) rfl (by first | assumption | exact blkW_0 | exact bAt_0 (by assumption) | exact bAt_0 (hA _ _) | rfl) (Nat.le_of_ble_eq_true rfl) (by first | exact Nat.le_refl _ | omega | decide) (by first | exact Nat.le_refl _ | omega | decide) (fun r hh1 hP => ?_)
  obtain ⟨rfl, rsc', rfl, hS2⟩ := hP
  cases f with
  | none =>
    obtain ⟨t, m, rfl, rfl, ht, hm, hh, hB, rfl⟩ := hZ rfl
    by_cases e : hv (rar 0) n a = 59
    · rw [if_pos (hsg.mpr e)] at hS2 ⊢
      rw [if_pos e]
      rw [nxt_c e (by decide) (by decide)] at hS2
      refine V_if_eqF rfl (by decide) ?_
      refine V_aload_n rfl rfl ?_
      refine V_iload_n rfl rfl ?_
      refine V_iload_n rfl rfl ?_
      rw [rp_u hd]
      refine V_callV rfl rfl m_Plan_addBody_w m_Plan_addBody_x rfl (by decide) rfl (w_addBody hq (addB_WR hw hB ht hm) ht hm hh) (by decide) rfl (by first | assumption | exact blkW_0 | exact bAt_0 (by assumption) | exact bAt_0 (hA _ _) | rfl) (Nat.le_of_ble_eq_true rfl) (by first | exact Nat.le_refl _ | omega | decide) (by first | exact Nat.le_refl _ | omega | decide) (fun r hh1 hP => ?_)
      obtain ⟨rfl, psc', par', rfl, hq2⟩ := hP
      refine V_return rfl rfl ?_
      exact ⟨rfl, rsc', psc', par', (rp_u hd).symm, hS2, hq2⟩
    · rw [if_neg (fun z => e (hsg.mp z))] at hS2 ⊢
      rw [if_neg e]
      refine V_if_eqT rfl (rfl) ?_
      refine V_return rfl rfl ?_
      exact ⟨rfl, rsc', psc, par_, rfl, _, hS2⟩
  | some y =>
    have e : (if sgn (rar 0) n a = 59 then some y else fo (some y) (1, skp (rar 0) n a)) = some y := by split <;> rfl
    rw [e] at hS2 ⊢
    refine V_if_eqT rfl (rfl) ?_
    refine V_return rfl rfl ?_
    exact ⟨rfl, rsc', psc, par_, rfl, _, hS2⟩
set_option maxRecDepth 20000 in
set_option maxHeartbeats 1000000 in
theorem e_rb37 (hd : djN (4, rd) (3, pl)) (hq : CQ (fin p) psc par_) (hw : WR p) (hn : n ≤ 240) (hl : ltr (rar 0) n) {y : Nat × Nat} {a : Nat} {x2 x3 : Int32} {rsc : Nat → Int32} (hS : ST (rar 0) n rsc (some y) a) : V g 3 m_Read_readBody (RZ h rd pl n rar (.inl y)) sz u 37 [.ref rd, .ref pl, .int x2, .int x3] [] (rpW h rd pl rsc rar psc par_) sz u := by
  have hA := rp_A (h := h) (psc := psc) (par_ := par_) hd
  refine V_aload_n rfl rfl ?_
  refine V_iload_n rfl rfl ?_
  refine V_iload_n rfl rfl ?_
  refine V_callVi rfl rfl m_Plan_ownBody_w m_Plan_ownBody_x rfl (by decide) rfl (s_ownR (hA _ _) _ _) (by decide) rfl (by first | assumption | exact blkW_0 | exact bAt_0 (by assumption) | exact bAt_0 (hA _ _) | rfl) (Nat.le_of_ble_eq_true rfl) ?_
  refine V_iconst (v := (-1)) rfl (by decide) ?_
  refine V_icmp_eq rfl (fun c44 => ?_) (fun c44 => ?_)
  · exact e_rb57 hd hq hw hn hl hS (.inl y) (fun z => by cases z)
  · skip
    refine V_aload_n rfl rfl ?_
    refine V_aload_n rfl rfl ?_
    refine V_getI rfl rfl blkW_0 (by rfl) rfl ?_
    refine V_iconst (v := 4) rfl (by decide) ?_
    refine V_callV rfl rfl m_Read_fail_w m_Read_fail_x rfl (by decide) rfl (w_failS hS (k := 4) (s := 0) _ (fun z => by cases z) (by decide) rfl) (by decide) rfl (by first | assumption | exact blkW_0 | exact bAt_0 (by assumption) | exact bAt_0 (hA _ _) | rfl) (Nat.le_of_ble_eq_true rfl) (by first | exact Nat.le_refl _ | omega | decide) (by first | exact Nat.le_refl _ | omega | decide) (fun r hh1 hP => ?_)
    obtain ⟨rfl, rsc', rfl, hS2, -⟩ := hP
    refine V_pop rfl rfl ?_
    exact e_rb57 hd hq hw hn hl hS2 (.inl y) (fun z => by cases z)
set_option maxRecDepth 20000 in
set_option maxHeartbeats 1000000 in
theorem w_readBody (hd : djN (4, rd) (3, pl)) (hq : CQ (fin p) psc par_) (hw : WR p) (hn : n ≤ 240) (hl : ltr (rar 0) n) {rsc : Nat → Int32} {a : Nat} (hS : ST (rar 0) n rsc none a) (hc : hv (rar 0) n a = 109) : Mt g 3 m_Read_readBody [.ref rd, .ref pl] (rpW h rd pl rsc rar psc par_) sz u (RZ h rd pl n rar (pClause p (rar 0) n a)) sz u := by
  have hA := rp_A (h := h) (psc := psc) (par_ := par_) hd
  have hT := hw.1.1
  have hB := hw.1.2.1
  have h0 : psc 0 = nI (nT p) := cq_nT (p := fin p) hq
  have h2 : psc 2 = nI (nB p) := cq_nB (p := fin p) hq
  refine Mt.of m_Read_readBody_w m_Read_readBody_x m_Read_readBody_c rfl rfl (ls := [.ref rd, .ref pl, .retAddr 0, .retAddr 0]) rfl ?_
  have key : ∀ b : Bool, b = decide (nB p < 20) → V g 3 m_Read_readBody (RZ h rd pl n rar (pClause p (rar 0) n a)) sz u 15 [.ref rd, .ref pl, .retAddr 0, .retAddr 0] [.int (b2 b), .ref rd] (rpW h rd pl rsc rar psc par_) sz u := by
    intro b hb
    refine V_callV rfl rfl m_Read_takeWord_w m_Read_takeWord_x rfl (by decide) rfl (w_takeWord hS hn hl b) (by decide) rfl (by first | assumption | exact blkW_0 | exact bAt_0 (by assumption) | exact bAt_0 (hA _ _) | rfl) (Nat.le_of_ble_eq_true rfl) (by first | exact Nat.le_refl _ | omega | decide) (by first | exact Nat.le_refl _ | omega | decide) (fun r hh1 hP => ?_)
    obtain ⟨rfl, rsc1, rfl, hS1⟩ := hP
    have hZ : pClause p (rar 0) n a = Zf (if b then none else fo none (3, skp (rar 0) n a)) (pEnd (rar 0) n (pOne p (rar 0) n (skp (rar 0) n a + 1) 2)) := by
      rw [pClause_k (k := 2) (by rw [hc]; decide) (by decide)]
      rw [show full p 2 = decide (nB p = 20) from rfl]
      cases b
      · have := of_decide_eq_false hb.symm
        rw [decide_eq_true (show nB p = 20 by omega)]
        rfl
      · have := of_decide_eq_true hb.symm
        rw [decide_eq_false (show ¬ nB p = 20 by omega)]
        rfl
    have hW0 : (if b then none else fo none (3, skp (rar 0) n a)) = none → nB p < 20 := fun z => by
      cases b
      · cases z
      · exact of_decide_eq_true hb.symm
    generalize (if b then none else fo none (3, skp (rar 0) n a)) = f1 at hS1 hZ hW0
    rw [nxt_c hc (by decide) (by decide)] at hS1
    rw [hZ, show pOne p (rar 0) n (skp (rar 0) n a + 1) 2 = pBody p (rar 0) n (skp (rar 0) n a + 1) from rfl]
    generalize skp (rar 0) n a + 1 = a1 at hS1
    clear hZ hS
    refine V_pop rfl rfl ?_
    refine V_aload_n rfl rfl ?_
    refine V_aload_n rfl rfl ?_
    refine V_getI rfl rfl (bAt_0 (hA _ _)) (by rfl) h0 ?_
    refine V_iconst (v := (-1)) rfl (by decide) ?_
    refine V_callV rfl rfl m_Read_takeNumber_w m_Read_takeNumber_x rfl (by decide) rfl (w_takeNum hS1 hn hl (show nT p ≤ 100 by omega) rfl) (by decide) rfl (by first | assumption | exact blkW_0 | exact bAt_0 (by assumption) | exact bAt_0 (hA _ _) | rfl) (Nat.le_of_ble_eq_true rfl) (by first | exact Nat.le_refl _ | omega | decide) (by first | exact Nat.le_refl _ | omega | decide) (fun r hh1 hP => ?_)
    obtain ⟨v1, rsc2, rfl, rfl, hN⟩ := hP
    rw [pNb_m1] at hN
    unfold pBody
    generalize hX : pNum (rar 0) n a1 (nT p) = X at hN
    rcases X with y | ⟨t, e, s⟩
    · obtain ⟨rfl, a2, hS2⟩ := hN
      refine V_is2 rfl (by first | rfl | assumption) ?_
      refine V_aload_n rfl rfl ?_
      refine V_bipush (v := 6) rfl (by decide) ?_
      refine V_iconst (v := (-1)) rfl (by decide) ?_
      refine V_callV rfl rfl m_Read_takeNumber_w m_Read_takeNumber_x rfl (by decide) rfl (w_takeNum (m := 6) hS2 hn hl (by decide) (by decide)) (by decide) rfl (by first | assumption | exact blkW_0 | exact bAt_0 (by assumption) | exact bAt_0 (hA _ _) | rfl) (Nat.le_of_ble_eq_true rfl) (by first | exact Nat.le_refl _ | omega | decide) (by first | exact Nat.le_refl _ | omega | decide) (fun r hh1 hP => ?_)
      obtain ⟨v2, rsc3, rfl, rfl, hN⟩ := hP
      obtain ⟨a3, hS3⟩ : ∃ a3, ST (rar 0) n rsc3 (fo f1 y) a3 := by
        generalize pNb (rar 0) n a2 6 (-1) = X at hN
        rcases X with y2 | z
        · obtain ⟨-, a3, h3⟩ := hN
          rw [fo_fo] at h3
          exact ⟨a3, h3⟩
        · exact ⟨_, hN.2.1⟩
      refine V_is3 rfl (by first | rfl | assumption) ?_
      show V g _ m_Read_readBody (RZ h rd pl n rar (Zf f1 (.inl y))) _ _ _ _ _ _ _ _
      rw [← Zf_fo (Z := .inl y)]
      generalize hfe : fo f1 y = f2 at hS3
      cases f2 with
      | none => exact absurd hfe fo_some
      | some y2 => exact e_rb37 hd hq hw hn hl hS3
    · obtain ⟨rfl, hS2, -⟩ := hN
      obtain ⟨p1, p2, p3, p4⟩ := pNum_ok hX
      have hS2 : ST (rar 0) n rsc2 f1 e := hS2
      refine V_is2 rfl (by first | rfl | assumption) ?_
      refine V_aload_n rfl rfl ?_
      refine V_bipush (v := 6) rfl (by decide) ?_
      refine V_iconst (v := (-1)) rfl (by decide) ?_
      refine V_callV rfl rfl m_Read_takeNumber_w m_Read_takeNumber_x rfl (by decide) rfl (w_takeNum (m := 6) hS2 hn hl (by decide) (by decide)) (by decide) rfl (by first | assumption | exact blkW_0 | exact bAt_0 (by assumption) | exact bAt_0 (hA _ _) | rfl) (Nat.le_of_ble_eq_true rfl) (by first | exact Nat.le_refl _ | omega | decide) (by first | exact Nat.le_refl _ | omega | decide) (fun r hh1 hP => ?_)
      obtain ⟨v2, rsc3, rfl, rfl, hN⟩ := hP
      rw [pNb_m1] at hN
      dsimp only
      generalize hY : pNum (rar 0) n e 6 = Y at hN
      rcases Y with y | ⟨m, e2, s2⟩
      · obtain ⟨rfl, a3, hS3⟩ := hN
        refine V_is3 rfl (by first | rfl | assumption) ?_
        show V g _ m_Read_readBody (RZ h rd pl n rar (Zf f1 (.inl y))) _ _ _ _ _ _ _ _
        rw [← Zf_fo (Z := .inl y)]
        generalize hfe : fo f1 y = f2 at hS3
        cases f2 with
        | none => exact absurd hfe fo_some
        | some y2 => exact e_rb37 hd hq hw hn hl hS3
      · obtain ⟨rfl, hS3, h9⟩ := hN
        obtain ⟨m1, m2, m3, m4⟩ := pNum_ok hY
        have hS3 : ST (rar 0) n rsc3 f1 e2 := hS3
        have h9 : rsc3 9 = nI s2 := h9
        have hbm := bodyOf_m1 (p := p) (t := t) (m := m) hB
        refine V_is3 rfl (by first | rfl | assumption) ?_
        refine V_aload_n rfl rfl ?_
        refine V_iload_n rfl rfl ?_
        refine V_iload_n rfl rfl ?_
        refine V_callVi rfl rfl m_Plan_ownBody_w m_Plan_ownBody_x rfl (by decide) rfl (s_own (p := fin p) (hA _ _) hq (show t < 12 by omega) m1) (by decide) rfl (by first | assumption | exact blkW_0 | exact bAt_0 (by assumption) | exact bAt_0 (hA _ _) | rfl) (Nat.le_of_ble_eq_true rfl) ?_
        rw [show bodyOf (fin p) t m = bodyOf p t m from rfl]
        refine V_iconst (v := (-1)) rfl (by decide) ?_
        dsimp only
        cases hh : hasB p t m
        · rw [hh] at hbm
          refine V_icmp_eqT rfl (Classical.byContradiction fun z => absurd (hbm.mp z) (by decide)) ?_
          refine e_rb57 hd hq hw hn hl hS3 _ (fun z => ⟨t, m, rfl, rfl, p1, m1, hh, hW0 z, ?_⟩)
          rfl
        · rw [hh] at hbm
          refine V_icmp_eqF rfl (hbm.mpr rfl) ?_
          refine V_aload_n rfl rfl ?_
          refine V_aload_n rfl rfl ?_
          refine V_getI rfl rfl blkW_0 (by rfl) h9 ?_
          refine V_iconst (v := 4) rfl (by decide) ?_
          refine V_callV rfl rfl m_Read_fail_w m_Read_fail_x rfl (by decide) rfl (w_failS hS3 (k := 4) (s := s2) _ (fun _ => rfl) (by decide) rfl) (by decide) rfl (by first | assumption | exact blkW_0 | exact bAt_0 (by assumption) | exact bAt_0 (hA _ _) | rfl) (Nat.le_of_ble_eq_true rfl) (by first | exact Nat.le_refl _ | omega | decide) (by first | exact Nat.le_refl _ | omega | decide) (fun r hh1 hP => ?_)
          obtain ⟨rfl, rsc4, rfl, hS4, -⟩ := hP
          refine V_pop rfl rfl ?_
          show V g _ m_Read_readBody (RZ h rd pl n rar (Zf f1 (.inl (4, s2)))) _ _ _ _ _ _ _ _
          rw [← Zf_fo (Z := .inl (4, s2))]
          exact e_rb57 hd hq hw hn hl hS4 _ (fun z => absurd z fo_some)
  refine V_aload_n rfl rfl ?_
  refine V_aload_n rfl rfl ?_
  refine V_getI rfl rfl (bAt_0 (hA _ _)) (by rfl) h2 ?_
  refine V_bipush (v := 20) rfl (by decide) ?_
  by_cases e : nB p < 20
  · refine V_icmp_geF rfl (nI_ge (b := 20) e (by decide)) ?_
    refine V_iconst (v := 1) rfl (by decide) ?_
    refine V_goto rfl ?_
    exact key true (by rw [decide_eq_true e])
  · refine V_icmp_geT rfl (nI_le (a := 20) (by omega) (by omega)) ?_
    refine V_iconst (v := 0) rfl (by decide) ?_
    exact key false (by rw [decide_eq_false e])
end rbody
