/-! ===== the class's Reader: numbers of types, against the plan so far ===== -/
theorem hasV_cls {q : Pg} {psc : Nat → Int32} {ar_ : Nat → Nat → Int32} (hq : CQ q psc ar_) {v : Nat} (hv : v < nT q) : hasV (psc 1) (nI v) = b2 (isC q v) := by
  have hT := hq.1.1.1
  rw [cq_cl hq, hasV_b (by omega), bt_cls hT hv]
def pPar (q : Pg) (T : Nat → Int32) (n a : Nat) : Rs (Int32 × Nat) := match pNb T n a (nT q) 99 with
  | .inl y => .inl y
  | .inr z => if z.1 = 99 then .inr (-1, z.2.1) else if isC q z.1 then .inr (nI z.1, z.2.1) else .inl (4, z.2.2)
theorem fo_fo {f : Option (Nat × Nat)} {y z : Nat × Nat} : fo (fo f y) z = fo f y := by cases f <;> rfl
theorem fo_some {f : Option (Nat × Nat)} {y : Nat × Nat} : ¬ fo f y = none := by cases f <;> exact fun h => by cases h
section read3
variable {g : mG} {h : mH} {sz u rd pl n a : Nat} {sc psc : Nat → Int32} {ar par_ : Nat → Nat → Int32} {f : Option (Nat × Nat)} {q : Pg}
set_option maxRecDepth 20000 in
set_option maxHeartbeats 1000000 in
theorem s_isClR (hA : bAt 3 h pl psc par_) (t : Int32) : Mt g 1 m_Plan_isClass [.ref pl, .int t] h sz u (Pi (hasV (psc 1) t) h) sz u := by
  refine Mt.of m_Plan_isClass_w m_Plan_isClass_x m_Plan_isClass_c rfl rfl (ls := [.ref pl, .int t]) rfl ?_
  refine V_aload_n rfl rfl ?_
  refine V_getI rfl rfl (bAt_0 hA) (by rfl) rfl ?_
  refine V_iload_n rfl rfl ?_
  refine V_callSi rfl rfl (Or.inr rfl) m_EB_has_w m_EB_has_x rfl rfl (s_has _ _) (by decide) rfl (Nat.le_of_ble_eq_true rfl) ?_
  have h01 : hasV (psc 1) t = 0 ∨ hasV (psc 1) t = 1 := by
    unfold hasV
    repeat' split
    all_goals decide
  have hnar : narrow .boolean (.int (hasV (psc 1) t)) = .int (hasV (psc 1) t) := by
    rcases h01 with e | e <;> rw [e] <;> rfl
  refine V_ireturn rfl rfl (by first | rfl | exact b2_nar _ | assumption | decide) ?_
  exact P_ret rfl rfl
set_option maxRecDepth 20000 in
set_option maxHeartbeats 1000000 in
theorem s_ownR (hA : bAt 3 h pl psc par_) (t m : Int32) : Mt g 1 m_Plan_ownBody [.ref pl, .int t, .int m] h sz u (Pi (atV 72 (par_ 16) (keyV t m)) h) sz u := by
  refine Mt.of m_Plan_ownBody_w m_Plan_ownBody_x m_Plan_ownBody_c rfl rfl (ls := [.ref pl, .int t, .int m]) rfl ?_
  refine V_aload_n rfl rfl ?_
  refine V_getfield rfl rfl (by first | assumption | exact blkW_0 | exact bAt_0 (by assumption) | exact bAt_0 (hA _ _) | rfl) (by rfl) ?_
  refine V_iload_n rfl rfl ?_
  refine V_iload_n rfl rfl ?_
  refine V_callSi rfl rfl (Or.inl rfl) m_Plan_key_w m_Plan_key_x rfl rfl (s_keyR _ _) (by decide) rfl (Nat.le_of_ble_eq_true rfl) ?_
  refine V_callSi rfl rfl (Or.inr rfl) m_EB_at_w m_EB_at_x rfl rfl (s_at (bAt_i hA rfl rfl) (by decide) _) (by decide) rfl (Nat.le_of_ble_eq_true rfl) ?_
  refine V_ireturn rfl rfl (by first | rfl | exact b2_nar _ | assumption | decide) ?_
  exact P_ret rfl rfl
set_option maxRecDepth 20000 in
set_option maxHeartbeats 1000000 in
theorem w_wantSort (hA : ∀ sc ar, bAt 3 (blkW 4 h rd sc ar) pl psc par_) (hS : ST (ar 0) n sc f a) {s : Nat} (h9 : f = none → sc 9 = nI s) (t : Int32) (b : Bool) : Mt g 2 m_Read_wantSort [.ref rd, .ref pl, .int t, .int (b2 b)] (blkW 4 h rd sc ar) sz u (fun r h' => ∃ v sc', r = some (.int v) ∧ h' = blkW 4 h rd sc' ar ∧ sc' 9 = sc 9 ∧ (if hasV (psc 1) t = b2 b then v = t ∧ ST (ar 0) n sc' f a else v = -1 ∧ ST (ar 0) n sc' (fo f (4, s)) a)) sz u := by
  refine Mt.of m_Read_wantSort_w m_Read_wantSort_x m_Read_wantSort_c rfl rfl (ls := [.ref rd, .ref pl, .int t, .int (b2 b)]) rfl ?_
  refine V_aload_n rfl rfl ?_
  refine V_iload_n rfl rfl ?_
  refine V_callVi rfl rfl m_Plan_isClass_w m_Plan_isClass_x rfl (by decide) rfl (s_isClR (hA _ _) _) (by decide) rfl (by first | assumption | exact blkW_0 | exact bAt_0 (by assumption) | exact bAt_0 (hA _ _) | rfl) (Nat.le_of_ble_eq_true rfl) ?_
  refine V_iload_n rfl rfl ?_
  by_cases e : hasV (psc 1) t = b2 b
  · simp only [if_pos e]
    refine V_icmp_neF rfl (e) ?_
    refine V_iload_n rfl rfl ?_
    refine V_goto rfl ?_
    refine V_ireturn rfl rfl (by first | rfl | exact b2_nar _ | assumption | decide) ?_
    exact ⟨t, sc, rfl, rfl, rfl, rfl, hS⟩
  · simp only [if_neg e]
    refine V_icmp_neT rfl (e) ?_
    refine V_aload_n rfl rfl ?_
    refine V_aload_n rfl rfl ?_
    refine V_getI rfl rfl blkW_0 (by rfl) rfl ?_
    refine V_iconst (v := 4) rfl (by decide) ?_
    refine V_callV rfl rfl m_Read_fail_w m_Read_fail_x rfl (by decide) rfl (w_failS hS (k := 4) (s := s) _ h9 (by decide) rfl) (by decide) rfl (by first | assumption | exact blkW_0 | exact bAt_0 (by assumption) | exact bAt_0 (hA _ _) | rfl) (Nat.le_of_ble_eq_true rfl) (by first | exact Nat.le_refl _ | omega | decide) (by first | exact Nat.le_refl _ | omega | decide) (fun r hh1 hP => ?_)
    obtain ⟨rfl, sc', rfl, h3, h4⟩ := hP
    refine V_ireturn rfl rfl (by first | rfl | exact b2_nar _ | assumption | decide) ?_
    exact ⟨_, sc', rfl, rfl, h4, rfl, h3⟩
set_option maxRecDepth 20000 in
set_option maxHeartbeats 1000000 in
theorem w_wantPar (hA : ∀ sc ar, bAt 3 (blkW 4 h rd sc ar) pl psc par_) (hS : ST (ar 0) n sc f a) {s : Nat} (h9 : f = none → sc 9 = nI s) (t : Int32) : Mt g 1 m_Read_wantParentOf [.ref rd, .ref pl, .int t] (blkW 4 h rd sc ar) sz u (fun r h' => r = some (.int (atV 12 (par_ 5) (atV 20 (par_ 9) t))) ∧ ∃ sc', h' = blkW 4 h rd sc' ar ∧ ST (ar 0) n sc' (if atV 12 (par_ 5) (atV 20 (par_ 9) t) = -1 then fo f (4, s) else f) a) sz u := by
  refine Mt.of m_Read_wantParentOf_w m_Read_wantParentOf_x m_Read_wantParentOf_c rfl rfl (ls := [.ref rd, .ref pl, .int t, .retAddr 0]) rfl ?_
  refine V_aload_n rfl rfl ?_
  refine V_getfield rfl rfl (by first | assumption | exact blkW_0 | exact bAt_0 (by assumption) | exact bAt_0 (hA _ _) | rfl) (by rfl) ?_
  refine V_aload_n rfl rfl ?_
  refine V_getfield rfl rfl (by first | assumption | exact blkW_0 | exact bAt_0 (by assumption) | exact bAt_0 (hA _ _) | rfl) (by rfl) ?_
  refine V_iload_n rfl rfl ?_
  refine V_callSi rfl rfl (Or.inr rfl) m_EB_at_w m_EB_at_x rfl rfl (s_at (bAt_i (hA _ _) rfl rfl) (by decide) _) (by decide) rfl (Nat.le_of_ble_eq_true rfl) ?_
  refine V_callSi rfl rfl (Or.inr rfl) m_EB_at_w m_EB_at_x rfl rfl (s_at (bAt_i (hA _ _) rfl rfl) (by decide) _) (by decide) rfl (Nat.le_of_ble_eq_true rfl) ?_
  refine V_is3 rfl (by first | rfl | assumption) ?_
  refine V_iload_n rfl rfl ?_
  refine V_iconst (v := (-1)) rfl (by decide) ?_
  by_cases e : atV 12 (par_ 5) (atV 20 (par_ 9) t) = -1
  · rw [if_pos e]
    refine V_icmp_neF rfl (e) ?_
    refine V_aload_n rfl rfl ?_
    refine V_aload_n rfl rfl ?_
    refine V_getI rfl rfl blkW_0 (by rfl) rfl ?_
    refine V_iconst (v := 4) rfl (by decide) ?_
    refine V_callV rfl rfl m_Read_fail_w m_Read_fail_x rfl (by decide) rfl (w_failS hS (k := 4) (s := s) _ h9 (by decide) rfl) (by decide) rfl (by first | assumption | exact blkW_0 | exact bAt_0 (by assumption) | exact bAt_0 (hA _ _) | rfl) (Nat.le_of_ble_eq_true rfl) (by first | exact Nat.le_refl _ | omega | decide) (by first | exact Nat.le_refl _ | omega | decide) (fun r hh1 hP => ?_)
    obtain ⟨rfl, sc', rfl, h3, h4⟩ := hP
    refine V_goto rfl ?_
    refine V_ireturn rfl rfl (by first | rfl | exact b2_nar _ | assumption | decide) ?_
    exact ⟨by rw [e], sc', rfl, h3⟩
  · rw [if_neg e]
    refine V_icmp_neT rfl (e) ?_
    refine V_iload_n rfl rfl ?_
    refine V_ireturn rfl rfl (by first | rfl | exact b2_nar _ | assumption | decide) ?_
    exact ⟨rfl, sc, rfl, hS⟩
set_option maxRecDepth 20000 in
set_option maxHeartbeats 1000000 in
theorem w_readParent (hA : ∀ sc ar, bAt 3 (blkW 4 h rd sc ar) pl psc par_) (hq : CQ q psc par_) (hS : ST (ar 0) n sc f a) (hn : n ≤ 240) (hl : ltr (ar 0) n) : Mt g 3 m_Read_readParent [.ref rd, .ref pl] (blkW 4 h rd sc ar) sz u (fun r h' => ∃ v sc', r = some (.int v) ∧ h' = blkW 4 h rd sc' ar ∧ (match pPar q (ar 0) n a with
    | .inl y => ∃ a', ST (ar 0) n sc' (fo f y) a'
    | .inr z => v = z.1 ∧ ST (ar 0) n sc' f z.2)) sz u := by
  have hT := hq.1.1.1
  refine Mt.of m_Read_readParent_w m_Read_readParent_x m_Read_readParent_c rfl rfl (ls := [.ref rd, .ref pl, .retAddr 0]) rfl ?_
  refine V_aload_n rfl rfl ?_
  refine V_aload_n rfl rfl ?_
  refine V_getI rfl rfl (by first | assumption | exact blkW_0 | exact bAt_0 (by assumption) | exact bAt_0 (hA _ _) | rfl) (by rfl) (by first | exact cq_nT (by assumption) | rfl) ?_
  refine V_bipush (v := 99) rfl (by decide) ?_
  refine V_callV rfl rfl m_Read_takeNumber_w m_Read_takeNumber_x rfl (by decide) rfl (w_takeNum hS hn hl (show nT q ≤ 100 by omega) rfl) (by decide) rfl (by first | assumption | exact blkW_0 | exact bAt_0 (by assumption) | exact bAt_0 (hA _ _) | rfl) (Nat.le_of_ble_eq_true rfl) (by first | exact Nat.le_refl _ | omega | decide) (by first | exact Nat.le_refl _ | omega | decide) (fun r hh1 hP => ?_)
  obtain ⟨v, sc1, rfl, rfl, hN⟩ := hP
  unfold pPar
  have hve : ∀ z, pNb (ar 0) n a (nT q) 99 = .inr z → z.1 < nT q ∨ z.1 = 99 := fun z hz => by
    unfold pNb at hz
    cases hM : isNm (ar 0) n a
    · rw [hM] at hz; cases hz
    · rw [hM, if_pos rfl] at hz
      by_cases c : dgn (ar 0) n a ≤ 2 ∧ (vN (ar 0) (skp (ar 0) n a) (dgn (ar 0) n a) < nT q ∨ nI (vN (ar 0) (skp (ar 0) n a) (dgn (ar 0) n a)) = 99)
      · rw [if_pos c] at hz
        have hb := vN_b hM c.1
        rw [← Sum.inr.inj hz]
        exact c.2.imp id fun w => (nI_eq (b := 99) (by omega) (by decide)).mp w
      · rw [if_neg c] at hz; cases hz
  generalize hX : pNb (ar 0) n a (nT q) 99 = X at hN hve
  rcases X with y | ⟨w, e, s⟩
  · obtain ⟨rfl, a1, h1⟩ := hN
    have hm1 : ¬ hasV (psc 1) (-1) = b2 true := by rw [hasV_m1]; decide
    refine V_is2 rfl (by first | rfl | assumption) ?_
    refine V_iload_n rfl rfl ?_
    refine V_bipush (v := 99) rfl (by decide) ?_
    refine V_icmp_neT rfl (by decide) ?_
    refine V_aload_n rfl rfl ?_
    refine V_aload_n rfl rfl ?_
    refine V_iload_n rfl rfl ?_
    refine V_iconst (v := 1) rfl (by decide) ?_
    refine V_callV rfl rfl m_Read_wantSort_w m_Read_wantSort_x rfl (by decide) rfl (w_wantSort hA h1 (s := 0) (fun z => absurd z fo_some) (-1) true) (by decide) rfl (by first | assumption | exact blkW_0 | exact bAt_0 (by assumption) | exact bAt_0 (hA _ _) | rfl) (Nat.le_of_ble_eq_true rfl) (by first | exact Nat.le_refl _ | omega | decide) (by first | exact Nat.le_refl _ | omega | decide) (fun r hh1 hP => ?_)
    obtain ⟨v2, sc2, rfl, rfl, -, h2⟩ := hP
    rw [if_neg hm1, fo_fo] at h2
    refine V_ireturn rfl rfl (by first | rfl | exact b2_nar _ | assumption | decide) ?_
    exact ⟨v2, sc2, rfl, rfl, a1, h2.2⟩
  · obtain ⟨rfl, h1, h9⟩ := hN
    have hv := hve _ rfl
    have hv : w < nT q ∨ w = 99 := hv
    have h9 : sc1 9 = nI s := h9
    refine V_is2 rfl (by first | rfl | assumption) ?_
    refine V_iload_n rfl rfl ?_
    refine V_bipush (v := 99) rfl (by decide) ?_
    by_cases e99 : w = 99
    · subst e99
      refine V_icmp_neF rfl (rfl) ?_
      refine V_iconst (v := (-1)) rfl (by decide) ?_
      refine V_ireturn rfl rfl (by first | rfl | exact b2_nar _ | assumption | decide) ?_
      exact ⟨_, sc1, rfl, rfl, rfl, h1⟩
    · have hv := hv.resolve_right e99
      refine V_icmp_neT rfl (fun z => e99 ((nI_eq (b := 99) (by omega) (by decide)).mp z)) ?_
      refine V_aload_n rfl rfl ?_
      refine V_aload_n rfl rfl ?_
      refine V_iload_n rfl rfl ?_
      refine V_iconst (v := 1) rfl (by decide) ?_
      refine V_callV rfl rfl m_Read_wantSort_w m_Read_wantSort_x rfl (by decide) rfl (w_wantSort hA h1 (s := s) (fun _ => h9) (nI w) true) (by decide) rfl (by first | assumption | exact blkW_0 | exact bAt_0 (by assumption) | exact bAt_0 (hA _ _) | rfl) (Nat.le_of_ble_eq_true rfl) (by first | exact Nat.le_refl _ | omega | decide) (by first | exact Nat.le_refl _ | omega | decide) (fun r hh1 hP => ?_)
      obtain ⟨v2, sc2, rfl, rfl, -, h2⟩ := hP
      rw [hasV_cls hq hv] at h2
      refine V_ireturn rfl rfl (by first | rfl | exact b2_nar _ | assumption | decide) ?_
      refine ⟨v2, sc2, rfl, rfl, ?_⟩
      dsimp only
      rw [if_neg e99]
      cases hc : isC q w
      · rw [hc, if_neg (by decide)] at h2
        rw [if_neg (by decide)]
        exact ⟨_, h2.2⟩
      · rw [hc, if_pos rfl] at h2
        rw [if_pos rfl]
        exact h2
set_option maxRecDepth 20000 in
set_option maxHeartbeats 1000000 in
theorem w_readIf (hA : ∀ sc ar, bAt 3 (blkW 4 h rd sc ar) pl psc par_) (hq : CQ q psc par_) (hS : ST (ar 0) n sc f a) (hn : n ≤ 240) (hl : ltr (ar 0) n) (F : Int32) : Mt g 3 m_Read_readInterface [.ref rd, .ref pl, .int F] (blkW 4 h rd sc ar) sz u (fun r h' => ∃ v sc', r = some (.int v) ∧ h' = blkW 4 h rd sc' ar ∧ (match pFace (isC q) (ar 0) n a (nT q) F with
    | .inl y => ∃ a', ST (ar 0) n sc' (fo f y) a'
    | .inr z => z.1 = F ||| bitV v ∧ ST (ar 0) n sc' f z.2)) sz u := by
  have hT := hq.1.1.1
  refine Mt.of m_Read_readInterface_w m_Read_readInterface_x m_Read_readInterface_c rfl rfl (ls := [.ref rd, .ref pl, .int F, .retAddr 0]) rfl ?_
  refine V_aload_n rfl rfl ?_
  refine V_aload_n rfl rfl ?_
  refine V_aload_n rfl rfl ?_
  refine V_aload_n rfl rfl ?_
  refine V_getI rfl rfl (by first | assumption | exact blkW_0 | exact bAt_0 (by assumption) | exact bAt_0 (hA _ _) | rfl) (by rfl) (by first | exact cq_nT (by assumption) | rfl) ?_
  refine V_iconst (v := (-1)) rfl (by decide) ?_
  refine V_callV rfl rfl m_Read_takeNumber_w m_Read_takeNumber_x rfl (by decide) rfl (w_takeNum hS hn hl (show nT q ≤ 100 by omega) rfl) (by decide) rfl (by first | assumption | exact blkW_0 | exact bAt_0 (by assumption) | exact bAt_0 (hA _ _) | rfl) (Nat.le_of_ble_eq_true rfl) (by first | exact Nat.le_refl _ | omega | decide) (by first | exact Nat.le_refl _ | omega | decide) (fun r hh1 hP => ?_)
  obtain ⟨v, sc1, rfl, rfl, hN⟩ := hP
  rw [pNb_m1] at hN
  unfold pFace
  generalize hX : pNum (ar 0) n a (nT q) = X at hN
  rcases X with y | ⟨w, e, s⟩
  · obtain ⟨rfl, a1, h1⟩ := hN
    have hm1 : hasV (psc 1) (-1) = b2 false := by rw [hasV_m1]; rfl
    refine V_iconst (v := 0) rfl (by decide) ?_
    refine V_callV rfl rfl m_Read_wantSort_w m_Read_wantSort_x rfl (by decide) rfl (w_wantSort hA h1 (s := 0) (fun z => absurd z fo_some) (-1) false) (by decide) rfl (by first | assumption | exact blkW_0 | exact bAt_0 (by assumption) | exact bAt_0 (hA _ _) | rfl) (Nat.le_of_ble_eq_true rfl) (by first | exact Nat.le_refl _ | omega | decide) (by first | exact Nat.le_refl _ | omega | decide) (fun r hh1 hP => ?_)
    obtain ⟨v2, sc2, rfl, rfl, -, h2⟩ := hP
    rw [if_pos hm1] at h2
    obtain ⟨rfl, h2⟩ := h2
    refine V_is3 rfl (by first | rfl | assumption) ?_
    refine V_iload_n rfl rfl ?_
    refine V_iload_n rfl rfl ?_
    refine V_callSi rfl rfl (Or.inr rfl) m_EB_has_w m_EB_has_x rfl rfl (s_hasv _ _ (by first | exact hasV_b (by first | omega | assumption) _ | exact hasV_m1 _ | rfl)) (by decide) rfl (Nat.le_of_ble_eq_true rfl) ?_
    refine V_if_eqT rfl (rfl) ?_
    refine V_iload_n rfl rfl ?_
    refine V_ireturn rfl rfl (by first | rfl | exact b2_nar _ | assumption | decide) ?_
    exact ⟨_, sc2, rfl, rfl, a1, h2⟩
  · obtain ⟨rfl, h1, h9⟩ := hN
    obtain ⟨p1, p2, p3, p4⟩ := pNum_ok hX
    have h9 : sc1 9 = nI s := h9
    refine V_iconst (v := 0) rfl (by decide) ?_
    refine V_callV rfl rfl m_Read_wantSort_w m_Read_wantSort_x rfl (by decide) rfl (w_wantSort hA h1 (s := s) (fun _ => h9) (nI w) false) (by decide) rfl (by first | assumption | exact blkW_0 | exact bAt_0 (by assumption) | exact bAt_0 (hA _ _) | rfl) (Nat.le_of_ble_eq_true rfl) (by first | exact Nat.le_refl _ | omega | decide) (by first | exact Nat.le_refl _ | omega | decide) (fun r hh1 hP => ?_)
    obtain ⟨v2, sc2, rfl, rfl, h92, h2⟩ := hP
    rw [hasV_cls hq p1] at h2
    cases hc : isC q w
    · rw [hc, if_pos rfl] at h2
      obtain ⟨rfl, h2⟩ := h2
      refine V_is3 rfl (by first | rfl | assumption) ?_
      refine V_iload_n rfl rfl ?_
      refine V_iload_n rfl rfl ?_
      refine V_callSi rfl rfl (Or.inr rfl) m_EB_has_w m_EB_has_x rfl rfl (s_hasv _ _ (by first | exact hasV_b (by first | omega | assumption) _ | exact hasV_m1 _ | rfl)) (by decide) rfl (Nat.le_of_ble_eq_true rfl) ?_
      cases hb : bt F w
      · refine V_if_eqT rfl (rfl) ?_
        refine V_iload_n rfl rfl ?_
        refine V_ireturn rfl rfl (by first | rfl | exact b2_nar _ | assumption | decide) ?_
        refine ⟨_, sc2, rfl, rfl, ?_⟩
        dsimp only
        rw [hc, hb, if_neg (by decide)]
        exact ⟨by rw [bitV_b (by omega)], h2⟩
      · refine V_if_eqF rfl (by decide) ?_
        refine V_aload_n rfl rfl ?_
        refine V_aload_n rfl rfl ?_
        refine V_getI rfl rfl blkW_0 (by rfl) rfl ?_
        refine V_iconst (v := 4) rfl (by decide) ?_
        refine V_callV rfl rfl m_Read_fail_w m_Read_fail_x rfl (by decide) rfl (w_failS h2 (k := 4) (s := s) _ (fun _ => h92.trans h9) (by decide) rfl) (by decide) rfl (by first | assumption | exact blkW_0 | exact bAt_0 (by assumption) | exact bAt_0 (hA _ _) | rfl) (Nat.le_of_ble_eq_true rfl) (by first | exact Nat.le_refl _ | omega | decide) (by first | exact Nat.le_refl _ | omega | decide) (fun r hh1 hP => ?_)
        obtain ⟨rfl, sc3, rfl, h3, -⟩ := hP
        refine V_goto rfl ?_
        refine V_ireturn rfl rfl (by first | rfl | exact b2_nar _ | assumption | decide) ?_
        refine ⟨_, sc3, rfl, rfl, ?_⟩
        dsimp only
        rw [hc, hb, Bool.false_or, if_pos rfl]
        exact ⟨_, h3⟩
    · rw [hc, if_neg (by decide)] at h2
      obtain ⟨rfl, h2⟩ := h2
      refine V_is3 rfl (by first | rfl | assumption) ?_
      refine V_iload_n rfl rfl ?_
      refine V_iload_n rfl rfl ?_
      refine V_callSi rfl rfl (Or.inr rfl) m_EB_has_w m_EB_has_x rfl rfl (s_hasv _ _ (by first | exact hasV_b (by first | omega | assumption) _ | exact hasV_m1 _ | rfl)) (by decide) rfl (Nat.le_of_ble_eq_true rfl) ?_
      refine V_if_eqT rfl (rfl) ?_
      refine V_iload_n rfl rfl ?_
      refine V_ireturn rfl rfl (by first | rfl | exact b2_nar _ | assumption | decide) ?_
      refine ⟨_, sc2, rfl, rfl, ?_⟩
      dsimp only
      rw [hc, Bool.true_or, if_pos rfl]
      exact ⟨_, h2⟩
end read3
