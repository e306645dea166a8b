section rstep
variable {g : mG} {h : mH} {sz u rd pl n : Nat} {p : Pg} {psc : Nat → Int32} {rar par_ : Nat → Nat → Int32}
set_option maxRecDepth 20000 in
set_option maxHeartbeats 1000000 in
theorem e_rs112 (hd : djN (4, rd) (3, pl)) (hq : CQ (fin p) psc par_) (hw : WR p) (hn : n ≤ 240) (hl : ltr (rar 0) n) {f : Option (Nat × Nat)} {a k : Nat} (hk : k < 3) {x2 x3 x5 x6 : Int32} {rsc : Nat → Int32} (hS : ST (rar 0) n rsc f a) (Z : Rs (Pg × Nat)) (hZ : f = none → ∃ b t m, x3 = nI b ∧ x5 = (if k = 2 then par p (bT p b) else nI t) ∧ x6 = (if k = 0 then -1 else nI m) ∧ WR (addS p k b t m) ∧ Z = if hv (rar 0) n a = 59 then .inr (addS p k b t m, skp (rar 0) n a + 1) else .inl (1, skp (rar 0) n a)) : V g 3 m_Read_readStep (RZ h rd pl n rar (Zf f Z)) sz u 112 [.ref rd, .ref pl, .int x2, .int x3, .int (nI k), .int x5, .int x6] [] (rpW h rd pl rsc rar psc par_) sz u := by
  have hA := rp_A (h := h) (psc := psc) (par_ := par_) hd
  have hsg := sgn_c (T := rar 0) (n := n) (a := a) (c := 59) (by decide) (by decide)
  refine V_aload_n rfl rfl ?_
  refine V_callV rfl rfl m_Read_isEnded_w m_Read_isEnded_x rfl (by decide) rfl (w_isEnded hS hn hl) (by decide) rfl (by first | assumption | exact blkW_0 | exact bAt_0 (by assumption) | exact bAt_0 (hA _ _) | rfl) (Nat.le_of_ble_eq_true rfl) (by first | exact Nat.le_refl _ | omega | decide) (by first | exact Nat.le_refl _ | omega | decide) (fun r hh1 hP => ?_)
  obtain ⟨rfl, rsc', rfl, hS2⟩ := hP
  cases f with
  | none =>
    obtain ⟨b, t, m, rfl, h5, h6, hW, rfl⟩ := hZ rfl
    by_cases e : hv (rar 0) n a = 59
    · rw [if_pos (hsg.mpr e)] at hS2 ⊢
      rw [if_pos e]
      rw [nxt_c e (by decide) (by decide)] at hS2
      refine V_if_eqF rfl (by decide) ?_
      refine V_aload_n rfl rfl ?_
      refine V_iload rfl rfl ?_
      refine V_iload_n rfl rfl ?_
      refine V_iload rfl rfl ?_
      refine V_iload rfl rfl ?_
      rw [rp_u hd]
      refine V_callV rfl rfl m_Plan_addStep_w m_Plan_addStep_x rfl (by decide) rfl (w_addStep hq hW hk h5 h6) (by decide) rfl (by first | assumption | exact blkW_0 | exact bAt_0 (by assumption) | exact bAt_0 (hA _ _) | rfl) (Nat.le_of_ble_eq_true rfl) (by first | exact Nat.le_refl _ | omega | decide) (by first | exact Nat.le_refl _ | omega | decide) (fun r hh1 hP => ?_)
      obtain ⟨rfl, psc', par', rfl, hq2⟩ := hP
      refine V_return rfl rfl ?_
      exact ⟨rfl, rsc', psc', par', (rp_u hd).symm, hS2, hq2⟩
    · rw [if_neg (fun z => e (hsg.mp z))] at hS2 ⊢
      rw [if_neg e]
      refine V_if_eqT rfl (rfl) ?_
      refine V_return rfl rfl ?_
      exact ⟨rfl, rsc', psc, par_, rfl, _, hS2⟩
  | some y =>
    have e : (if sgn (rar 0) n a = 59 then some y else fo (some y) (1, skp (rar 0) n a)) = some y := by split <;> rfl
    rw [e] at hS2 ⊢
    refine V_if_eqT rfl (rfl) ?_
    refine V_return rfl rfl ?_
    exact ⟨rfl, rsc', psc, par_, rfl, _, hS2⟩
theorem NP_some {T : Nat → Int32} {y : Nat × Nat} {X : Rs (Nat × Nat × Nat)} {v : Int32} {sc : Nat → Int32} (h : NP T n (some y) X v sc) : ∃ a, ST T n sc (some y) a := by
  rcases X with z | z
  · obtain ⟨-, a, h⟩ := h
    exact ⟨a, h⟩
  · exact ⟨_, h.2.1⟩
set_option maxRecDepth 20000 in
set_option maxHeartbeats 1000000 in
theorem e_rs94 (hd : djN (4, rd) (3, pl)) (hq : CQ (fin p) psc par_) (hw : WR p) (hn : n ≤ 240) (hl : ltr (rar 0) n) {y : Nat × Nat} {a k : Nat} (hk : k < 3) {x2 x3 x5 : Int32} {rsc : Nat → Int32} (hS : ST (rar 0) n rsc (some y) a) : V g 3 m_Read_readStep (RZ h rd pl n rar (.inl y)) sz u 94 [.ref rd, .ref pl, .int x2, .int x3, .int (nI k), .int x5, .retAddr 0] [] (rpW h rd pl rsc rar psc par_) sz u := by
  refine V_iload rfl rfl ?_
  by_cases e : k = 0
  · refine V_if_neF rfl (by rw [e]; rfl) ?_
    refine V_iconst (v := (-1)) rfl (by decide) ?_
    refine V_goto rfl ?_
    refine V_is6 rfl (by first | rfl | assumption) ?_
    exact e_rs112 hd hq hw hn hl hk hS (.inl y) (fun z => by cases z)
  · refine V_if_neT rfl (nI_ne0 (by omega) (by omega)) ?_
    refine V_aload_n rfl rfl ?_
    refine V_bipush (v := 6) rfl (by decide) ?_
    refine V_iconst (v := (-1)) rfl (by decide) ?_
    refine V_callV rfl rfl m_Read_takeNumber_w m_Read_takeNumber_x rfl (by decide) rfl (w_takeNum (m := 6) hS hn hl (by decide) (by decide)) (by decide) rfl (by first | assumption | exact blkW_0 | exact bAt_0 (by assumption) | exact bAt_0 (hA _ _) | rfl) (Nat.le_of_ble_eq_true rfl) (by first | exact Nat.le_refl _ | omega | decide) (by first | exact Nat.le_refl _ | omega | decide) (fun r hh1 hP => ?_)
    obtain ⟨v2, rsc3, rfl, rfl, hN⟩ := hP
    obtain ⟨a3, hS3⟩ := NP_some hN
    refine V_is6 rfl (by first | rfl | assumption) ?_
    exact e_rs112 hd hq hw hn hl hk hS3 (.inl y) (fun z => by cases z)
set_option maxRecDepth 20000 in
set_option maxHeartbeats 1000000 in
theorem e_rs80 (hd : djN (4, rd) (3, pl)) (hq : CQ (fin p) psc par_) (hw : WR p) (hn : n ≤ 240) (hl : ltr (rar 0) n) {y : Nat × Nat} {a k : Nat} (hk : k < 3) {x2 x3 x5 : Int32} {rsc : Nat → Int32} (hS : ST (rar 0) n rsc (some y) a) : V g 3 m_Read_readStep (RZ h rd pl n rar (.inl y)) sz u 80 [.ref rd, .ref pl, .int x2, .int x3, .int (nI k), .int x5, .retAddr 0] [] (rpW h rd pl rsc rar psc par_) sz u := by
  have hA := rp_A (h := h) (psc := psc) (par_ := par_) hd
  refine V_iload rfl rfl ?_
  by_cases e : k = 0
  · refine V_if_neF rfl (by rw [e]; rfl) ?_
    refine V_aload_n rfl rfl ?_
    refine V_aload_n rfl rfl ?_
    refine V_iload rfl rfl ?_
    refine V_iconst (v := 1) rfl (by decide) ?_
    refine V_callV rfl rfl m_Read_wantSort_w m_Read_wantSort_x rfl (by decide) rfl (w_wantSort hA hS (s := 0) (fun z => by cases z) x5 true) (by decide) rfl (by first | assumption | exact blkW_0 | exact bAt_0 (by assumption) | exact bAt_0 (hA _ _) | rfl) (Nat.le_of_ble_eq_true rfl) (by first | exact Nat.le_refl _ | omega | decide) (by first | exact Nat.le_refl _ | omega | decide) (fun r hh1 hP => ?_)
    obtain ⟨v2, rsc3, rfl, rfl, -, hN⟩ := hP
    have hS3 : ST (rar 0) n rsc3 (some y) a := by
      by_cases c : hasV (psc 1) x5 = b2 true
      · rw [if_pos c] at hN; exact hN.2
      · rw [if_neg c] at hN; exact hN.2
    refine V_pop rfl rfl ?_
    exact e_rs94 hd hq hw hn hl hk hS3
  · refine V_if_neT rfl (nI_ne0 (by omega) (by omega)) ?_
    exact e_rs94 hd hq hw hn hl hk hS
set_option maxRecDepth 20000 in
set_option maxHeartbeats 1000000 in
theorem e_rs52 (hd : djN (4, rd) (3, pl)) (hq : CQ (fin p) psc par_) (hw : WR p) (hn : n ≤ 240) (hl : ltr (rar 0) n) {y : Nat × Nat} {a k : Nat} (hk : k < 3) {x2 x3 : Int32} {rsc : Nat → Int32} (hS : ST (rar 0) n rsc (some y) a) : V g 3 m_Read_readStep (RZ h rd pl n rar (.inl y)) sz u 52 [.ref rd, .ref pl, .int x2, .int x3, .int (nI k), .retAddr 0, .retAddr 0] [] (rpW h rd pl rsc rar psc par_) sz u := by
  have hA := rp_A (h := h) (psc := psc) (par_ := par_) hd
  have hT := hw.1.1
  have h0 : psc 0 = nI (nT p) := cq_nT (p := fin p) hq
  refine V_iload rfl rfl ?_
  refine V_iconst (v := 2) rfl (by decide) ?_
  by_cases e : k = 2
  · refine V_icmp_neF rfl (by rw [e]; rfl) ?_
    refine V_aload_n rfl rfl ?_
    refine V_aload_n rfl rfl ?_
    refine V_iload_n rfl rfl ?_
    refine V_callV rfl rfl m_Read_wantParentOf_w m_Read_wantParentOf_x rfl (by decide) rfl (w_wantPar hA hS (s := 0) (fun z => by cases z) x3) (by decide) rfl (by first | assumption | exact blkW_0 | exact bAt_0 (by assumption) | exact bAt_0 (hA _ _) | rfl) (Nat.le_of_ble_eq_true rfl) (by first | exact Nat.le_refl _ | omega | decide) (by first | exact Nat.le_refl _ | omega | decide) (fun r hh1 hP => ?_)
    obtain ⟨rfl, rsc3, rfl, hS3⟩ := hP
    have e3 : (if atV 12 (par_ 5) (atV 20 (par_ 9) x3) = -1 then fo (some y) (4, 0) else some y) = some y := by split <;> rfl
    rw [e3] at hS3
    refine V_is5 rfl (by first | rfl | assumption) ?_
    refine V_goto rfl ?_
    exact e_rs80 hd hq hw hn hl hk hS3
  · refine V_icmp_neT rfl (fun z => e ((nI_eq (b := 2) (by omega) (by decide)).mp z)) ?_
    refine V_aload_n rfl rfl ?_
    refine V_aload_n rfl rfl ?_
    refine V_getI rfl rfl (bAt_0 (hA _ _)) (by rfl) h0 ?_
    refine V_iconst (v := (-1)) rfl (by decide) ?_
    refine V_callV rfl rfl m_Read_takeNumber_w m_Read_takeNumber_x rfl (by decide) rfl (w_takeNum hS hn hl (show nT p ≤ 100 by omega) rfl) (by decide) rfl (by first | assumption | exact blkW_0 | exact bAt_0 (by assumption) | exact bAt_0 (hA _ _) | rfl) (Nat.le_of_ble_eq_true rfl) (by first | exact Nat.le_refl _ | omega | decide) (by first | exact Nat.le_refl _ | omega | decide) (fun r hh1 hP => ?_)
    obtain ⟨v2, rsc3, rfl, rfl, hN⟩ := hP
    obtain ⟨a3, hS3⟩ := NP_some hN
    refine V_is5 rfl (by first | rfl | assumption) ?_
    exact e_rs80 hd hq hw hn hl hk hS3
set_option maxRecDepth 20000 in
set_option maxHeartbeats 1000000 in
theorem w_readStep (hd : djN (4, rd) (3, pl)) (hq : CQ (fin p) psc par_) (hw : WR p) (hn : n ≤ 240) (hl : ltr (rar 0) n) {rsc : Nat → Int32} {a k : Nat} (hk : k < 3) (hS : ST (rar 0) n rsc none a) {c : Int32} (hc : hv (rar 0) n a = c) (hck : k = 0 ∧ c = 110 ∨ k = 1 ∧ c = 118 ∨ k = 2 ∧ c = 115) : Mt g 3 m_Read_readStep [.ref rd, .ref pl] (rpW h rd pl rsc rar psc par_) sz u (RZ h rd pl n rar (pClause p (rar 0) n a)) sz u := by
  have hA := rp_A (h := h) (psc := psc) (par_ := par_) hd
  have hT := hw.1.1
  have hB := hw.1.2.1
  have hSt := hw.1.2.2
  have h0 : psc 0 = nI (nT p) := cq_nT (p := fin p) hq
  have h2 : psc 2 = nI (nB p) := cq_nB (p := fin p) hq
  have h3 : psc 3 = nI (nS p) := cq_nS (p := fin p) hq
  have hkd : kd (hv (rar 0) n a) = k + 3 := by
    rw [hc]
    rcases hck with ⟨rfl, rfl⟩ | ⟨rfl, rfl⟩ | ⟨rfl, rfl⟩ <;> decide
  have hfl : full p (k + 3) = decide (nS p = 24) := by
    unfold full
    rw [if_neg (by omega), if_neg (by omega)]
  have hcd : isD c = false ∧ ¬ c = -2 ∧ ¬ c = -1 := by rcases hck with ⟨rfl, rfl⟩ | ⟨rfl, rfl⟩ | ⟨rfl, rfl⟩ <;> decide
  have hsg : sgn (rar 0) n a = c := (sgn_c hcd.1 hcd.2.1).mpr hc
  refine Mt.of m_Read_readStep_w m_Read_readStep_x m_Read_readStep_c rfl rfl (ls := [.ref rd, .ref pl, .retAddr 0, .retAddr 0, .retAddr 0, .retAddr 0, .retAddr 0]) rfl ?_
  have key : ∀ b : Bool, b = decide (nS p < 24) → V g 3 m_Read_readStep (RZ h rd pl n rar (pClause p (rar 0) n a)) sz u 15 [.ref rd, .ref pl, .retAddr 0, .retAddr 0, .retAddr 0, .retAddr 0, .retAddr 0] [.int (b2 b), .ref rd] (rpW h rd pl rsc rar psc par_) sz u := by
    intro b hb
    refine V_callV rfl rfl m_Read_takeWord_w m_Read_takeWord_x rfl (by decide) rfl (w_takeWord hS hn hl b) (by decide) rfl (by first | assumption | exact blkW_0 | exact bAt_0 (by assumption) | exact bAt_0 (hA _ _) | rfl) (Nat.le_of_ble_eq_true rfl) (by first | exact Nat.le_refl _ | omega | decide) (by first | exact Nat.le_refl _ | omega | decide) (fun r hh1 hP => ?_)
    obtain ⟨rfl, rsc1, rfl, hS1⟩ := hP
    have hZ : pClause p (rar 0) n a = Zf (if b then none else fo none (3, skp (rar 0) n a)) (pEnd (rar 0) n (pOne p (rar 0) n (skp (rar 0) n a + 1) (k + 3))) := by
      rw [pClause_k hkd (by omega), hfl]
      cases b
      · have := of_decide_eq_false hb.symm
        rw [decide_eq_true (show nS p = 24 by omega)]
        rfl
      · have := of_decide_eq_true hb.symm
        rw [decide_eq_false (show ¬ nS p = 24 by omega)]
        rfl
    have hW0 : (if b then none else fo none (3, skp (rar 0) n a)) = none → nS p < 24 := fun z => by
      cases b
      · cases z
      · exact of_decide_eq_true hb.symm
    generalize (if b then none else fo none (3, skp (rar 0) n a)) = f1 at hS1 hZ hW0
    rw [nxt_c hc hcd.1 hcd.2.2] at hS1
    rw [hZ, hsg, show pOne p (rar 0) n (skp (rar 0) n a + 1) (k + 3) = pStep p (rar 0) n (skp (rar 0) n a + 1) k from by unfold pOne; rw [if_neg (by omega), if_neg (by omega), if_neg (by omega), Nat.add_sub_cancel]]
    generalize skp (rar 0) n a + 1 = a1 at hS1
    clear hZ hS hsg hkd hfl hcd
    have k29 : ∀ (x3 : Int32) (hh1 : mH), (V g 3 m_Read_readStep (RZ h rd pl n rar (Zf f1 (pEnd (rar 0) n (pStep p (rar 0) n a1 k)))) sz u 52 [.ref rd, .ref pl, .int c, .int x3, .int (nI k), .retAddr 0, .retAddr 0] [] hh1 sz u) → V g 3 m_Read_readStep (RZ h rd pl n rar (Zf f1 (pEnd (rar 0) n (pStep p (rar 0) n a1 k)))) sz u 29 [.ref rd, .ref pl, .int c, .int x3, .retAddr 0, .retAddr 0, .retAddr 0] [] hh1 sz u := by
      intro x3 hh1 hv52
      rcases hck with ⟨rfl, rfl⟩ | ⟨rfl, rfl⟩ | ⟨rfl, rfl⟩
      · refine V_iload_n rfl rfl ?_
        refine V_bipush (v := 110) rfl (by decide) ?_
        refine V_icmp_neF rfl (rfl) ?_
        refine V_iconst (v := 0) rfl (by decide) ?_
        refine V_goto rfl ?_
        refine V_is4 rfl (by first | rfl | assumption) ?_
        exact hv52
      · refine V_iload_n rfl rfl ?_
        refine V_bipush (v := 110) rfl (by decide) ?_
        refine V_icmp_neT rfl (by decide) ?_
        refine V_iload_n rfl rfl ?_
        refine V_bipush (v := 118) rfl (by decide) ?_
        refine V_icmp_neF rfl (rfl) ?_
        refine V_iconst (v := 1) rfl (by decide) ?_
        refine V_goto rfl ?_
        refine V_is4 rfl (by first | rfl | assumption) ?_
        exact hv52
      · refine V_iload_n rfl rfl ?_
        refine V_bipush (v := 110) rfl (by decide) ?_
        refine V_icmp_neT rfl (by decide) ?_
        refine V_iload_n rfl rfl ?_
        refine V_bipush (v := 118) rfl (by decide) ?_
        refine V_icmp_neT rfl (by decide) ?_
        refine V_iconst (v := 2) rfl (by decide) ?_
        refine V_is4 rfl (by first | rfl | assumption) ?_
        exact hv52
    clear hck
    refine V_is2 rfl (by first | rfl | assumption) ?_
    refine V_aload_n rfl rfl ?_
    refine V_aload_n rfl rfl ?_
    refine V_getI rfl rfl (bAt_0 (hA _ _)) (by rfl) h2 ?_
    refine V_iconst (v := (-1)) rfl (by decide) ?_
    refine V_callV rfl rfl m_Read_takeNumber_w m_Read_takeNumber_x rfl (by decide) rfl (w_takeNum hS1 hn hl (show nB p ≤ 100 by omega) rfl) (by decide) rfl (by first | assumption | exact blkW_0 | exact bAt_0 (by assumption) | exact bAt_0 (hA _ _) | rfl) (Nat.le_of_ble_eq_true rfl) (by first | exact Nat.le_refl _ | omega | decide) (by first | exact Nat.le_refl _ | omega | decide) (fun r hh1 hP => ?_)
    obtain ⟨v1, rsc2, rfl, rfl, hN⟩ := hP
    rw [pNb_m1] at hN
    refine V_is3 rfl (by first | rfl | assumption) ?_
    refine k29 _ _ ?_
    clear k29
    unfold pStep
    generalize hX : pNum (rar 0) n a1 (nB p) = X at hN
    rcases X with y | ⟨bd, e, s⟩
    · obtain ⟨rfl, a2, hS2⟩ := hN
      show V g _ m_Read_readStep (RZ h rd pl n rar (Zf f1 (.inl y))) _ _ _ _ _ _ _ _
      rw [← Zf_fo (Z := .inl y)]
      generalize hfe : fo f1 y = f2 at hS2
      cases f2 with
      | none => exact absurd hfe fo_some
      | some y2 => exact e_rs52 hd hq hw hn hl hk hS2
    · obtain ⟨rfl, hS2, h9⟩ := hN
      obtain ⟨p1, p2, p3, p4⟩ := pNum_ok hX
      have hS2 : ST (rar 0) n rsc2 f1 e := hS2
      have h9 : rsc2 9 = nI s := h9
      have hbt := hw.2.2.1 bd p1
      dsimp only
      by_cases k2 : k = 2
      · subst k2
        simp only [if_pos]
        have hpar : atV 12 (par_ 5) (atV 20 (par_ 9) (nI bd)) = par p (bT p bd) := by
          have e1 : atV 20 (par_ 9) (nI bd) = nI (bT p bd) := (atV_in (by omega) (by decide)).trans (cq_bT (p := fin p) hq p1)
          rw [e1]
          exact (atV_in (by omega) (by decide)).trans (cq_par (p := fin p) hq hbt.1)
        refine V_iload rfl rfl ?_
        refine V_iconst (v := 2) rfl (by decide) ?_
        refine V_icmp_neF rfl (rfl) ?_
        refine V_aload_n rfl rfl ?_
        refine V_aload_n rfl rfl ?_
        refine V_iload_n rfl rfl ?_
        refine V_callV rfl rfl m_Read_wantParentOf_w m_Read_wantParentOf_x rfl (by decide) rfl (w_wantPar hA hS2 (s := s) (fun _ => h9) (nI bd)) (by decide) rfl (by first | assumption | exact blkW_0 | exact bAt_0 (by assumption) | exact bAt_0 (hA _ _) | rfl) (Nat.le_of_ble_eq_true rfl) (by first | exact Nat.le_refl _ | omega | decide) (by first | exact Nat.le_refl _ | omega | decide) (fun r hh1 hP => ?_)
        obtain ⟨rfl, rsc3, rfl, hS3⟩ := hP
        rw [hpar] at hS3 ⊢
        refine V_is5 rfl (by first | rfl | assumption) ?_
        refine V_goto rfl ?_
        by_cases hp : par p (bT p bd) < 0
        · have hm1 : par p (bT p bd) = -1 := by
            rcases hw.2.1 _ hbt.1 with z | ⟨q, q1, -, q3⟩
            · exact z
            · rw [q3] at hp
              exact absurd hp (nI_pos (by omega))
          rw [if_pos hm1] at hS3
          rw [if_pos hp]
          show V g _ m_Read_readStep (RZ h rd pl n rar (Zf f1 (.inl (4, s)))) _ _ _ _ _ _ _ _
          rw [← Zf_fo (Z := .inl (4, s))]
          generalize hfe : fo f1 (4, s) = f2 at hS3
          cases f2 with
          | none => exact absurd hfe fo_some
          | some y2 => exact e_rs80 hd hq hw hn hl hk hS3
        · have hm1 : ¬ par p (bT p bd) = -1 := fun z => hp (by rw [z]; decide)
          rw [if_neg hm1] at hS3
          rw [if_neg hp]
          refine V_iload rfl rfl ?_
          refine V_if_neT rfl (by decide) ?_
          refine V_iload rfl rfl ?_
          refine V_if_neT rfl (by decide) ?_
          refine V_aload_n rfl rfl ?_
          refine V_bipush (v := 6) rfl (by decide) ?_
          refine V_iconst (v := (-1)) rfl (by decide) ?_
          refine V_callV rfl rfl m_Read_takeNumber_w m_Read_takeNumber_x rfl (by decide) rfl (w_takeNum (m := 6) hS3 hn hl (by decide) (by decide)) (by decide) rfl (by first | assumption | exact blkW_0 | exact bAt_0 (by assumption) | exact bAt_0 (hA _ _) | rfl) (Nat.le_of_ble_eq_true rfl) (by first | exact Nat.le_refl _ | omega | decide) (by first | exact Nat.le_refl _ | omega | decide) (fun r hh1 hP => ?_)
          obtain ⟨v2, rsc4, rfl, rfl, hN⟩ := hP
          rw [pNb_m1] at hN
          refine V_is6 rfl (by first | rfl | assumption) ?_
          generalize hY : pNum (rar 0) n e 6 = Y at hN
          rcases Y with y | ⟨m, e2, s2⟩
          · obtain ⟨rfl, a3, hS4⟩ := hN
            show V g _ m_Read_readStep (RZ h rd pl n rar (Zf f1 (.inl y))) _ _ _ _ _ _ _ _
            rw [← Zf_fo (Z := .inl y)]
            exact e_rs112 hd hq hw hn hl hk hS4 _ (fun z => absurd z fo_some)
          · obtain ⟨rfl, hS4, -⟩ := hN
            obtain ⟨m1, m2, m3, m4⟩ := pNum_ok hY
            refine e_rs112 hd hq hw hn hl hk hS4 _ (fun z => ⟨bd, 0, m, rfl, rfl, rfl, addS_WR hw (hW0 z) (by decide) p1 (by omega) m1 (fun _ => hp) (fun z => by cases z), rfl⟩)
      · rw [if_neg k2]
        refine V_iload rfl rfl ?_
        refine V_iconst (v := 2) rfl (by decide) ?_
        refine V_icmp_neT rfl (fun z => k2 ((nI_eq (b := 2) (by omega) (by decide)).mp z)) ?_
        refine V_aload_n rfl rfl ?_
        refine V_aload_n rfl rfl ?_
        refine V_getI rfl rfl (bAt_0 (hA _ _)) (by rfl) h0 ?_
        refine V_iconst (v := (-1)) rfl (by decide) ?_
        refine V_callV rfl rfl m_Read_takeNumber_w m_Read_takeNumber_x rfl (by decide) rfl (w_takeNum hS2 hn hl (show nT p ≤ 100 by omega) rfl) (by decide) rfl (by first | assumption | exact blkW_0 | exact bAt_0 (by assumption) | exact bAt_0 (hA _ _) | rfl) (Nat.le_of_ble_eq_true rfl) (by first | exact Nat.le_refl _ | omega | decide) (by first | exact Nat.le_refl _ | omega | decide) (fun r hh1 hP => ?_)
        obtain ⟨v2, rsc3, rfl, rfl, hN⟩ := hP
        rw [pNb_m1] at hN
        refine V_is5 rfl (by first | rfl | assumption) ?_
        generalize hY : pNum (rar 0) n e (nT p) = Y at hN
        rcases Y with y | ⟨t, e2, s2⟩
        · obtain ⟨rfl, a3, hS3⟩ := hN
          show V g _ m_Read_readStep (RZ h rd pl n rar (Zf f1 (.inl y))) _ _ _ _ _ _ _ _
          rw [← Zf_fo (Z := .inl y)]
          generalize hfe : fo f1 y = f2 at hS3
          cases f2 with
          | none => exact absurd hfe fo_some
          | some y2 => exact e_rs80 hd hq hw hn hl hk hS3
        · obtain ⟨rfl, hS3, h93⟩ := hN
          obtain ⟨t1, t2, t3, t4⟩ := pNum_ok hY
          have hS3 : ST (rar 0) n rsc3 f1 e2 := hS3
          have h93 : rsc3 9 = nI s2 := h93
          dsimp only
          refine V_iload rfl rfl ?_
          by_cases k0 : k = 0
          · subst k0
            rw [if_pos rfl]
            refine V_if_neF rfl (rfl) ?_
            refine V_aload_n rfl rfl ?_
            refine V_aload_n rfl rfl ?_
            refine V_iload rfl rfl ?_
            refine V_iconst (v := 1) rfl (by decide) ?_
            refine V_callV rfl rfl m_Read_wantSort_w m_Read_wantSort_x rfl (by decide) rfl (w_wantSort hA hS3 (s := s2) (fun _ => h93) (nI t) true) (by decide) rfl (by first | assumption | exact blkW_0 | exact bAt_0 (by assumption) | exact bAt_0 (hA _ _) | rfl) (Nat.le_of_ble_eq_true rfl) (by first | exact Nat.le_refl _ | omega | decide) (by first | exact Nat.le_refl _ | omega | decide) (fun r hh1 hP => ?_)
            obtain ⟨v3, rsc4, rfl, rfl, -, hN⟩ := hP
            rw [hasV_cls hq t1, show isC (fin p) t = isC p t from rfl] at hN
            refine V_pop rfl rfl ?_
            cases hC : isC p t
            · rw [hC, if_neg (by decide)] at hN
              obtain ⟨-, hS4⟩ := hN
              rw [if_neg (by decide)]
              show V g _ m_Read_readStep (RZ h rd pl n rar (Zf f1 (.inl (4, s2)))) _ _ _ _ _ _ _ _
              rw [← Zf_fo (Z := .inl (4, s2))]
              generalize hfe : fo f1 (4, s2) = f2 at hS4
              cases f2 with
              | none => exact absurd hfe fo_some
              | some y2 => exact e_rs94 hd hq hw hn hl hk hS4
            · rw [hC, if_pos rfl] at hN
              obtain ⟨-, hS4⟩ := hN
              rw [if_pos rfl]
              refine V_iload rfl rfl ?_
              refine V_if_neF rfl (rfl) ?_
              refine V_iconst (v := (-1)) rfl (by decide) ?_
              refine V_goto rfl ?_
              refine V_is6 rfl (by first | rfl | assumption) ?_
              refine e_rs112 hd hq hw hn hl hk hS4 _ (fun z => ⟨bd, t, 0, rfl, rfl, rfl, addS_WR hw (hW0 z) (by decide) p1 t1 (by decide) (fun z => by cases z) (fun _ => hC), rfl⟩)
          · have k1 : k = 1 := by omega
            subst k1
            rw [if_neg (by decide)]
            refine V_if_neT rfl (by decide) ?_
            refine V_iload rfl rfl ?_
            refine V_if_neT rfl (by decide) ?_
            refine V_aload_n rfl rfl ?_
            refine V_bipush (v := 6) rfl (by decide) ?_
            refine V_iconst (v := (-1)) rfl (by decide) ?_
            refine V_callV rfl rfl m_Read_takeNumber_w m_Read_takeNumber_x rfl (by decide) rfl (w_takeNum (m := 6) hS3 hn hl (by decide) (by decide)) (by decide) rfl (by first | assumption | exact blkW_0 | exact bAt_0 (by assumption) | exact bAt_0 (hA _ _) | rfl) (Nat.le_of_ble_eq_true rfl) (by first | exact Nat.le_refl _ | omega | decide) (by first | exact Nat.le_refl _ | omega | decide) (fun r hh1 hP => ?_)
            obtain ⟨v3, rsc4, rfl, rfl, hN⟩ := hP
            rw [pNb_m1] at hN
            refine V_is6 rfl (by first | rfl | assumption) ?_
            generalize hU : pNum (rar 0) n e2 6 = U at hN
            rcases U with y | ⟨m, e3, s3⟩
            · obtain ⟨rfl, a3, hS4⟩ := hN
              show V g _ m_Read_readStep (RZ h rd pl n rar (Zf f1 (.inl y))) _ _ _ _ _ _ _ _
              rw [← Zf_fo (Z := .inl y)]
              exact e_rs112 hd hq hw hn hl hk hS4 _ (fun z => absurd z fo_some)
            · obtain ⟨rfl, hS4, -⟩ := hN
              obtain ⟨m1, m2, m3, m4⟩ := pNum_ok hU
              refine e_rs112 hd hq hw hn hl hk hS4 _ (fun z => ⟨bd, t, m, rfl, rfl, rfl, addS_WR hw (hW0 z) (by decide) p1 t1 m1 (fun z => by cases z) (fun z => by cases z), rfl⟩)
  refine V_aload_n rfl rfl ?_
  refine V_aload_n rfl rfl ?_
  refine V_getI rfl rfl (bAt_0 (hA _ _)) (by rfl) h3 ?_
  refine V_bipush (v := 24) rfl (by decide) ?_
  by_cases e : nS p < 24
  · refine V_icmp_geF rfl (nI_ge (b := 24) e (by decide)) ?_
    refine V_iconst (v := 1) rfl (by decide) ?_
    refine V_goto rfl ?_
    exact key true (by rw [decide_eq_true e])
  · refine V_icmp_geT rfl (nI_le (a := 24) (by omega) (by omega)) ?_
    refine V_iconst (v := 0) rfl (by decide) ?_
    exact key false (by rw [decide_eq_false e])
end rstep
