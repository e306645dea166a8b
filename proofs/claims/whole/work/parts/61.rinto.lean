/-! ===== the class's Reader: the whole text ===== -/
def RQ (h : mH) (rd pl : Nat) (rar : Nat → Nat → Int32) (X : Rs Pg) : Option Value → mH → Prop := fun r h' => ∃ rsc psc par_, h' = rpW h rd pl rsc rar psc par_ ∧ rsc 1 = 0 ∧ (match X with
  | .inl y => (1 ≤ y.1 ∧ y.1 ≤ 4) ∧ r = some (.int (nI y.1)) ∧ rsc 2 = nI y.2
  | .inr p2 => r = some (.int 0) ∧ rsc 2 = -1 ∧ CQ (fin p2) psc par_ ∧ WR p2)
section rinto
variable {g : mG} {h : mH} {sz u rd pl n : Nat} {rar : Nat → Nat → Int32}
set_option maxRecDepth 20000 in
set_option maxHeartbeats 1000000 in
theorem e_ri184 {rsc psc : Nat → Int32} {par_ : Nat → Nat → Int32} {f : Option (Nat × Nat)} {a : Nat} {x2 : Int32} (hS : ST (rar 0) n rsc f a) (X : Rs Pg) (hX : match f with
    | none => ∃ p, X = .inr p ∧ CQ (fin p) psc par_ ∧ WR p
    | some y => X = .inl y) : V g 5 m_Read_readInto (RQ h rd pl rar X) sz u 184 [.ref rd, .ref pl, .int x2] [] (rpW h rd pl rsc rar psc par_) sz u := by
  cases f with
  | none =>
    obtain ⟨p, rfl, hq, hw⟩ := hX
    have h3 : rsc 3 = 0 := hS.2.2.2.2.2.2.2.2
    refine V_aload_n rfl rfl ?_
    refine V_iconst (v := 0) rfl (by decide) ?_
    first | refine V_pput rfl rfl rfl rfl rfl ?_ | refine V_bput rfl rfl rfl rfl rfl rfl ?_ | refine V_bputZ rfl rfl rfl rfl rfl rfl (by decide) ?_ | refine V_put rfl rfl (by first | assumption | rfl) (by decide) (fun _ hty => by cases hty; exact ⟨rfl, rfl⟩) (by first | exact Or.inl rfl | exact Or.inr ⟨rfl, rfl⟩) rfl ?_
    refine V_aload_n rfl rfl ?_
    refine V_getI rfl rfl blkW_0 (by rfl) ((pk_un (by decide)).trans h3) ?_
    refine V_ireturn rfl rfl (by first | rfl | exact b2_nar _ | assumption | decide) ?_
    exact ⟨_, psc, par_, rfl, pk_us, rfl, (pk_un (by decide)).trans hS.2.2.2.2.2.2.2.1, hq, hw⟩
  | some y =>
    have hX : X = .inl y := hX
    subst hX
    obtain ⟨h2, h3, h4⟩ := hS.2.2.2.2.2.2.2
    refine V_aload_n rfl rfl ?_
    refine V_iconst (v := 0) rfl (by decide) ?_
    first | refine V_pput rfl rfl rfl rfl rfl ?_ | refine V_bput rfl rfl rfl rfl rfl rfl ?_ | refine V_bputZ rfl rfl rfl rfl rfl rfl (by decide) ?_ | refine V_put rfl rfl (by first | assumption | rfl) (by decide) (fun _ hty => by cases hty; exact ⟨rfl, rfl⟩) (by first | exact Or.inl rfl | exact Or.inr ⟨rfl, rfl⟩) rfl ?_
    refine V_aload_n rfl rfl ?_
    refine V_getI rfl rfl blkW_0 (by rfl) ((pk_un (by decide)).trans h3) ?_
    refine V_ireturn rfl rfl (by first | rfl | exact b2_nar _ | assumption | decide) ?_
    exact ⟨_, psc, par_, rfl, pk_us, h4, rfl, (pk_un (by decide)).trans h2⟩
set_option maxRecDepth 20000 in
set_option maxHeartbeats 1000000 in
theorem e_ri25F {rsc psc : Nat → Int32} {par_ : Nat → Nat → Int32} {y : Nat × Nat} {a : Nat} {x2 : Int32} (hS : ST (rar 0) n rsc (some y) a) : V g 5 m_Read_readInto (RQ h rd pl rar (.inl y)) sz u 25 [.ref rd, .ref pl, .int x2] [] (rpW h rd pl rsc rar psc par_) sz u := by
  obtain ⟨h2, h3, h4⟩ := hS.2.2.2.2.2.2.2
  refine V_iload_n rfl rfl ?_
  refine V_sipush (v := 240) rfl (by decide) ?_
  refine V_icmp_gt rfl (fun c29 => ?_) (fun c29 => ?_)
  · exact e_ri184 hS _ rfl
  · refine V_aload_n rfl rfl ?_
    refine V_getI rfl rfl (by first | assumption | exact blkW_0 | exact bAt_0 (by assumption) | exact bAt_0 (hA _ _) | rfl) (by rfl) (by first | exact (by assumption) | rfl) ?_
    refine V_if_neT rfl ((nk_pos h4).2.1) ?_
    exact e_ri184 hS _ rfl
set_option maxRecDepth 20000 in
set_option maxHeartbeats 1000000 in
theorem e_ri25 (hd : djN (4, rd) (3, pl)) (hn : n ≤ 240) (hl : ltr (rar 0) n) (k : Nat) : k ≤ 241 → ∀ (p : Pg) (a : Nat) (rsc psc : Nat → Int32) (par_ : Nat → Nat → Int32), ST (rar 0) n rsc none a → CQ (fin p) psc par_ → WR p → V g 5 m_Read_readInto (RQ h rd pl rar (pAll (rar 0) n k p a)) sz u 25 [.ref rd, .ref pl, .int (nI (241 - k))] [] (rpW h rd pl rsc rar psc par_) sz u := by
  induction k with
  | zero =>
    intro hk p a rsc psc par_ hS hq hw
    refine V_iload_n rfl rfl ?_
    refine V_sipush (v := 240) rfl (by decide) ?_
    refine V_icmp_gtT rfl (by decide) ?_
    exact e_ri184 hS _ ⟨p, rfl, hq, hw⟩
  | succ k ih =>
    intro hk p a rsc psc par_ hS hq hw
    have hpe : pAll (rar 0) n (k + 1) p a = if hv (rar 0) n a < 0 then .inr p else match pClause p (rar 0) n a with
      | .inl x => .inl x
      | .inr z => pAll (rar 0) n k z.1 z.2 := rfl
    have h0 := hS.1
    have h5 := hS.2.2.2.1
    have h6 := hS.2.2.2.2.1
    have h3 : rsc 3 = 0 := hS.2.2.2.2.2.2.2.2
    have hm1 := hv_m1 (a := a) hl
    have hsm1 : sgn (rar 0) n a = -1 ↔ hv (rar 0) n a = -1 := sgn_c (by decide) (by decide)
    refine V_iload_n rfl rfl ?_
    refine V_sipush (v := 240) rfl (by decide) ?_
    refine V_icmp_gtF rfl (nI_nlt (a := 240) (show 241 - (k + 1) ≤ 240 by omega) (by decide)) ?_
    refine V_aload_n rfl rfl ?_
    refine V_getI rfl rfl (by first | assumption | exact blkW_0 | exact bAt_0 (by assumption) | exact bAt_0 (hA _ _) | rfl) (by rfl) (by first | exact (by assumption) | rfl) ?_
    refine V_if_neF rfl (rfl) ?_
    refine V_aload_n rfl rfl ?_
    refine V_getI rfl rfl (by first | assumption | exact blkW_0 | exact bAt_0 (by assumption) | exact bAt_0 (hA _ _) | rfl) (by rfl) (by first | exact rS_5 | exact (by assumption) | rfl) ?_
    refine V_iconst (v := (-1)) rfl (by decide) ?_
    by_cases e1 : hv (rar 0) n a = -1
    · rw [if_pos (by rw [e1]; decide)] at hpe
      rw [hpe]
      refine V_icmp_eqT rfl (hsm1.mpr e1) ?_
      exact e_ri184 hS _ ⟨p, rfl, hq, hw⟩
    · have hlt : skp (rar 0) n a < n := Classical.byContradiction fun z => e1 (hm1.mpr z)
      obtain ⟨c0, c1, c2⟩ := hl _ hlt
      have hve : hv (rar 0) n a = nI c0 := by unfold hv; rw [if_pos hlt]; exact c2
      rw [if_neg (by rw [hve]; exact nI_pos (by omega))] at hpe
      rw [hpe]
      have tl : ∀ h2, RZ h rd pl n rar (pClause p (rar 0) n a) none h2 → V g 5 m_Read_readInto (RQ h rd pl rar (match pClause p (rar 0) n a with
        | .inl x => .inl x
        | .inr z => pAll (rar 0) n k z.1 z.2)) sz u 178 [.ref rd, .ref pl, .int (nI (241 - (k + 1)))] [] h2 sz u := by
        intro h2 hR
        obtain ⟨-, rsc2, psc2, par2, rfl, hZ⟩ := hR
        generalize hN : pClause p (rar 0) n a = Z at hZ
        refine V_inc2 rfl (by first | exact mInc _ | rfl) (by first | rfl | assumption) ?_
        rw [show 241 - (k + 1) + 1 = 241 - k by omega]
        refine V_goto rfl ?_
        rcases Z with y | ⟨p2, e⟩
        · obtain ⟨a2, hS2⟩ := hZ
          exact e_ri25F hS2
        · obtain ⟨o1, o2, o3⟩ := pClause_ok hN (by omega) hn hw
          exact ih (by omega) p2 e rsc2 psc2 par2 hZ.1 hZ.2 o3
      refine V_icmp_eqF rfl (fun z => e1 (hsm1.mp z)) ?_
      refine V_aload_n rfl rfl ?_
      refine V_getI rfl rfl (by first | assumption | exact blkW_0 | exact bAt_0 (by assumption) | exact bAt_0 (hA _ _) | rfl) (by rfl) (by first | exact rS_5 | exact (by assumption) | rfl) ?_
      have dflt : pClause p (rar 0) n a = .inl (1, skp (rar 0) n a) → V g 5 m_Read_readInto (RQ h rd pl rar (match pClause p (rar 0) n a with
        | .inl x => .inl x
        | .inr z => pAll (rar 0) n k z.1 z.2)) sz u 168 [.ref rd, .ref pl, .int (nI (241 - (k + 1)))] [] (rpW h rd pl rsc rar psc par_) sz u := by
        intro hcl
        refine V_aload_n rfl rfl ?_
        refine V_aload_n rfl rfl ?_
        refine V_getI rfl rfl (by first | assumption | exact blkW_0 | exact bAt_0 (by assumption) | exact bAt_0 (hA _ _) | rfl) (by rfl) (by first | exact rS_6 | exact (by assumption) | rfl) ?_
        refine V_iconst (v := 1) rfl (by decide) ?_
        refine V_callV rfl rfl m_Read_fail_w m_Read_fail_x rfl (by decide) rfl (w_failS hS (k := 1) (s := skp (rar 0) n a) _ (fun _ => rfl) (by decide) rfl) (by decide) rfl (by first | assumption | exact blkW_0 | exact bAt_0 (by assumption) | exact bAt_0 (hA _ _) | rfl) (Nat.le_of_ble_eq_true rfl) (by first | exact Nat.le_refl _ | omega | decide) (by first | exact Nat.le_refl _ | omega | decide) (fun r hh1 hP => ?_)
        obtain ⟨rfl, rsc2, rfl, hS2, -⟩ := hP
        refine V_pop rfl rfl ?_
        exact tl _ ⟨rfl, rsc2, psc, par_, rfl, by rw [hcl]; exact ⟨a, hS2⟩⟩
      have hk6 : kd (hv (rar 0) n a) = 6 → pClause p (rar 0) n a = .inl (1, skp (rar 0) n a) := fun z => by unfold pClause; rw [if_pos z]
      cases hN : isNm (rar 0) n a
      · have hsg : sgn (rar 0) n a = nI c0 := by unfold sgn; rw [hN]; exact hve
        rw [hsg]
        by_cases r1 : 99 ≤ c0 ∧ c0 ≤ 118
        · rcases (show c0 = 99 ∨ c0 = 100 ∨ c0 = 101 ∨ c0 = 102 ∨ c0 = 103 ∨ c0 = 104 ∨ c0 = 105 ∨ c0 = 106 ∨ c0 = 107 ∨ c0 = 108 ∨ c0 = 109 ∨ c0 = 110 ∨ c0 = 111 ∨ c0 = 112 ∨ c0 = 113 ∨ c0 = 114 ∨ c0 = 115 ∨ c0 = 116 ∨ c0 = 117 ∨ c0 = 118 by omega) with rfl | rfl | rfl | rfl | rfl | rfl | rfl | rfl | rfl | rfl | rfl | rfl | rfl | rfl | rfl | rfl | rfl | rfl | rfl | rfl
          · refine V_tabIn (off := 93) (tg := 144) rfl (by decide) (by decide) (by decide) (by decide) ?_
            refine V_aload_n rfl rfl ?_
            refine V_aload_n rfl rfl ?_
            refine V_callV rfl rfl m_Read_readType_w m_Read_readType_x rfl (by decide) rfl (w_readType hd hq hw hn hl hS (Or.inl hve)) (by decide) rfl (by first | assumption | exact blkW_0 | exact bAt_0 (by assumption) | exact bAt_0 (hA _ _) | rfl) (Nat.le_of_ble_eq_true rfl) (by first | exact Nat.le_refl _ | omega | decide) (by first | exact Nat.le_refl _ | omega | decide) (fun r hh1 hP => ?_)
            have hr : r = none := hP.1
            subst hr
            refine V_goto rfl ?_
            exact tl _ hP
          · refine V_tabIn (off := 117) (tg := 168) rfl (by decide) (by decide) (by decide) (by decide) ?_
            exact dflt (hk6 (by rw [hve]; decide))
          · refine V_tabIn (off := 117) (tg := 168) rfl (by decide) (by decide) (by decide) (by decide) ?_
            exact dflt (hk6 (by rw [hve]; decide))
          · refine V_tabIn (off := 117) (tg := 168) rfl (by decide) (by decide) (by decide) (by decide) ?_
            exact dflt (hk6 (by rw [hve]; decide))
          · refine V_tabIn (off := 117) (tg := 168) rfl (by decide) (by decide) (by decide) (by decide) ?_
            exact dflt (hk6 (by rw [hve]; decide))
          · refine V_tabIn (off := 117) (tg := 168) rfl (by decide) (by decide) (by decide) (by decide) ?_
            exact dflt (hk6 (by rw [hve]; decide))
          · refine V_tabIn (off := 93) (tg := 144) rfl (by decide) (by decide) (by decide) (by decide) ?_
            refine V_aload_n rfl rfl ?_
            refine V_aload_n rfl rfl ?_
            refine V_callV rfl rfl m_Read_readType_w m_Read_readType_x rfl (by decide) rfl (w_readType hd hq hw hn hl hS (Or.inr hve)) (by decide) rfl (by first | assumption | exact blkW_0 | exact bAt_0 (by assumption) | exact bAt_0 (hA _ _) | rfl) (Nat.le_of_ble_eq_true rfl) (by first | exact Nat.le_refl _ | omega | decide) (by first | exact Nat.le_refl _ | omega | decide) (fun r hh1 hP => ?_)
            have hr : r = none := hP.1
            subst hr
            refine V_goto rfl ?_
            exact tl _ hP
          · refine V_tabIn (off := 117) (tg := 168) rfl (by decide) (by decide) (by decide) (by decide) ?_
            exact dflt (hk6 (by rw [hve]; decide))
          · refine V_tabIn (off := 117) (tg := 168) rfl (by decide) (by decide) (by decide) (by decide) ?_
            exact dflt (hk6 (by rw [hve]; decide))
          · refine V_tabIn (off := 117) (tg := 168) rfl (by decide) (by decide) (by decide) (by decide) ?_
            exact dflt (hk6 (by rw [hve]; decide))
          · refine V_tabIn (off := 101) (tg := 152) rfl (by decide) (by decide) (by decide) (by decide) ?_
            refine V_aload_n rfl rfl ?_
            refine V_aload_n rfl rfl ?_
            refine V_callV rfl rfl m_Read_readBody_w m_Read_readBody_x rfl (by decide) rfl (w_readBody hd hq hw hn hl hS hve) (by decide) rfl (by first | assumption | exact blkW_0 | exact bAt_0 (by assumption) | exact bAt_0 (hA _ _) | rfl) (Nat.le_of_ble_eq_true rfl) (by first | exact Nat.le_refl _ | omega | decide) (by first | exact Nat.le_refl _ | omega | decide) (fun r hh1 hP => ?_)
            have hr : r = none := hP.1
            subst hr
            refine V_goto rfl ?_
            exact tl _ hP
          · refine V_tabIn (off := 109) (tg := 160) rfl (by decide) (by decide) (by decide) (by decide) ?_
            refine V_aload_n rfl rfl ?_
            refine V_aload_n rfl rfl ?_
            refine V_callV rfl rfl m_Read_readStep_w m_Read_readStep_x rfl (by decide) rfl (w_readStep (k := 0) (c := 110) hd hq hw hn hl (by decide) hS hve (by decide)) (by decide) rfl (by first | assumption | exact blkW_0 | exact bAt_0 (by assumption) | exact bAt_0 (hA _ _) | rfl) (Nat.le_of_ble_eq_true rfl) (by first | exact Nat.le_refl _ | omega | decide) (by first | exact Nat.le_refl _ | omega | decide) (fun r hh1 hP => ?_)
            have hr : r = none := hP.1
            subst hr
            refine V_goto rfl ?_
            exact tl _ hP
          · refine V_tabIn (off := 117) (tg := 168) rfl (by decide) (by decide) (by decide) (by decide) ?_
            exact dflt (hk6 (by rw [hve]; decide))
          · refine V_tabIn (off := 117) (tg := 168) rfl (by decide) (by decide) (by decide) (by decide) ?_
            exact dflt (hk6 (by rw [hve]; decide))
          · refine V_tabIn (off := 117) (tg := 168) rfl (by decide) (by decide) (by decide) (by decide) ?_
            exact dflt (hk6 (by rw [hve]; decide))
          · refine V_tabIn (off := 117) (tg := 168) rfl (by decide) (by decide) (by decide) (by decide) ?_
            exact dflt (hk6 (by rw [hve]; decide))
          · refine V_tabIn (off := 109) (tg := 160) rfl (by decide) (by decide) (by decide) (by decide) ?_
            refine V_aload_n rfl rfl ?_
            refine V_aload_n rfl rfl ?_
            refine V_callV rfl rfl m_Read_readStep_w m_Read_readStep_x rfl (by decide) rfl (w_readStep (k := 2) (c := 115) hd hq hw hn hl (by decide) hS hve (by decide)) (by decide) rfl (by first | assumption | exact blkW_0 | exact bAt_0 (by assumption) | exact bAt_0 (hA _ _) | rfl) (Nat.le_of_ble_eq_true rfl) (by first | exact Nat.le_refl _ | omega | decide) (by first | exact Nat.le_refl _ | omega | decide) (fun r hh1 hP => ?_)
            have hr : r = none := hP.1
            subst hr
            refine V_goto rfl ?_
            exact tl _ hP
          · refine V_tabIn (off := 117) (tg := 168) rfl (by decide) (by decide) (by decide) (by decide) ?_
            exact dflt (hk6 (by rw [hve]; decide))
          · refine V_tabIn (off := 117) (tg := 168) rfl (by decide) (by decide) (by decide) (by decide) ?_
            exact dflt (hk6 (by rw [hve]; decide))
          · refine V_tabIn (off := 109) (tg := 160) rfl (by decide) (by decide) (by decide) (by decide) ?_
            refine V_aload_n rfl rfl ?_
            refine V_aload_n rfl rfl ?_
            refine V_callV rfl rfl m_Read_readStep_w m_Read_readStep_x rfl (by decide) rfl (w_readStep (k := 1) (c := 118) hd hq hw hn hl (by decide) hS hve (by decide)) (by decide) rfl (by first | assumption | exact blkW_0 | exact bAt_0 (by assumption) | exact bAt_0 (hA _ _) | rfl) (Nat.le_of_ble_eq_true rfl) (by first | exact Nat.le_refl _ | omega | decide) (by first | exact Nat.le_refl _ | omega | decide) (fun r hh1 hP => ?_)
            have hr : r = none := hP.1
            subst hr
            refine V_goto rfl ?_
            exact tl _ hP
        · refine V_tabOut (tg := 168) rfl (by rw [nI_toInt (by omega)]; omega) (by decide) ?_
          refine dflt (hk6 ?_)
          have hne : ∀ d : Nat, d < 256 → (d < 99 ∨ 118 < d ∨ d ≠ c0) → True := fun _ _ _ => trivial
          rw [hve]
          unfold kd
          rw [if_neg (fun z => by have := (nI_eq (b := 99) (by omega) (by decide)).mp z; omega), if_neg (fun z => by have := (nI_eq (b := 105) (by omega) (by decide)).mp z; omega), if_neg (fun z => by have := (nI_eq (b := 109) (by omega) (by decide)).mp z; omega), if_neg (fun z => by have := (nI_eq (b := 110) (by omega) (by decide)).mp z; omega), if_neg (fun z => by have := (nI_eq (b := 118) (by omega) (by decide)).mp z; omega), if_neg (fun z => by have := (nI_eq (b := 115) (by omega) (by decide)).mp z; omega)]
      · have hsg : sgn (rar 0) n a = -2 := by unfold sgn; rw [hN]; rfl
        rw [hsg]
        refine V_tabOut (tg := 168) rfl (by decide) (by decide) ?_
        refine dflt (hk6 ?_)
        have hD := (isNm_iff.mp hN).2
        obtain ⟨d, d1, d2, d3⟩ := isD_nat hD
        have ed : d = c0 := (nI_eq (by omega) (by omega)).mp (d3.symm.trans c2)
        rw [hve]
        unfold kd
        rw [if_neg (fun z => by have := (nI_eq (b := 99) (by omega) (by decide)).mp z; omega), if_neg (fun z => by have := (nI_eq (b := 105) (by omega) (by decide)).mp z; omega), if_neg (fun z => by have := (nI_eq (b := 109) (by omega) (by decide)).mp z; omega), if_neg (fun z => by have := (nI_eq (b := 110) (by omega) (by decide)).mp z; omega), if_neg (fun z => by have := (nI_eq (b := 118) (by omega) (by decide)).mp z; omega), if_neg (fun z => by have := (nI_eq (b := 115) (by omega) (by decide)).mp z; omega)]
set_option maxRecDepth 20000 in
set_option maxHeartbeats 1000000 in
theorem w_readInto (hd : djN (4, rd) (3, pl)) {rsc psc : Nat → Int32} {par_ : Nat → Nat → Int32} (h1 : rsc 1 = nI n) (hn : n ≤ 240) (hl : ltr (rar 0) n) : Mt g 5 m_Read_readInto [.ref rd, .ref pl] (rpW h rd pl rsc rar psc par_) sz u (RQ h rd pl rar (pAll (rar 0) n 241 emp 0)) sz u := by
  refine Mt.of m_Read_readInto_w m_Read_readInto_x m_Read_readInto_c rfl rfl (ls := [.ref rd, .ref pl, .retAddr 0]) rfl ?_
  rw [show rpW h rd pl rsc rar psc par_ = blkW 3 (blkW 4 h rd rsc rar) pl psc par_ from rp_u hd]
  refine V_aload_n rfl rfl ?_
  refine V_callV rfl rfl m_Plan_clear_w m_Plan_clear_x rfl (by decide) rfl (w_pclear) (by decide) rfl (by first | assumption | exact blkW_0 | exact bAt_0 (by assumption) | exact bAt_0 (hA _ _) | rfl) (Nat.le_of_ble_eq_true rfl) (by first | exact Nat.le_refl _ | omega | decide) (by first | exact Nat.le_refl _ | omega | decide) (fun r hh1 hP => ?_)
  obtain ⟨rfl, psc1, par1, rfl, hq⟩ := hP
  rw [← rp_u hd]
  refine V_aload_n rfl rfl ?_
  refine V_iconst (v := 0) rfl (by decide) ?_
  first | refine V_pput rfl rfl rfl rfl rfl ?_ | refine V_bput rfl rfl rfl rfl rfl rfl ?_ | refine V_bputZ rfl rfl rfl rfl rfl rfl (by decide) ?_ | refine V_put rfl rfl (by first | assumption | rfl) (by decide) (fun _ hty => by cases hty; exact ⟨rfl, rfl⟩) (by first | exact Or.inl rfl | exact Or.inr ⟨rfl, rfl⟩) rfl ?_
  refine V_aload_n rfl rfl ?_
  refine V_iconst (v := (-1)) rfl (by decide) ?_
  first | refine V_pput rfl rfl rfl rfl rfl ?_ | refine V_bput rfl rfl rfl rfl rfl rfl ?_ | refine V_bputZ rfl rfl rfl rfl rfl rfl (by decide) ?_ | refine V_put rfl rfl (by first | assumption | rfl) (by decide) (fun _ hty => by cases hty; exact ⟨rfl, rfl⟩) (by first | exact Or.inl rfl | exact Or.inr ⟨rfl, rfl⟩) rfl ?_
  refine V_aload_n rfl rfl ?_
  refine V_iconst (v := 0) rfl (by decide) ?_
  first | refine V_pput rfl rfl rfl rfl rfl ?_ | refine V_bput rfl rfl rfl rfl rfl rfl ?_ | refine V_bputZ rfl rfl rfl rfl rfl rfl (by decide) ?_ | refine V_put rfl rfl (by first | assumption | rfl) (by decide) (fun _ hty => by cases hty; exact ⟨rfl, rfl⟩) (by first | exact Or.inl rfl | exact Or.inr ⟨rfl, rfl⟩) rfl ?_
  refine V_aload_n rfl rfl ?_
  refine V_callV rfl rfl m_Read_advance_w m_Read_advance_x rfl (by decide) rfl (w_advance (f := none) (n := n) (a := 0) ((pk_un (by decide)).trans ((pk_un (by decide)).trans ((pk_un (by decide)).trans h1))) hn pk_us (Nat.zero_le _) hl ⟨(pk_un (by decide)).trans pk_us, (pk_un (by decide)).trans ((pk_un (by decide)).trans pk_us)⟩) (by decide) rfl (by first | assumption | exact blkW_0 | exact bAt_0 (by assumption) | exact bAt_0 (hA _ _) | rfl) (Nat.le_of_ble_eq_true rfl) (by first | exact Nat.le_refl _ | omega | decide) (by first | exact Nat.le_refl _ | omega | decide) (fun r hh1 hP => ?_)
  obtain ⟨rfl, rsc1, rfl, hS, -⟩ := hP
  refine V_iconst (v := 0) rfl (by decide) ?_
  refine V_is2 rfl (by first | rfl | assumption) ?_
  exact e_ri25 hd hn hl 241 (by omega) emp 0 rsc1 psc1 par1 hS hq emp_WR
set_option maxRecDepth 20000 in
set_option maxHeartbeats 1000000 in
theorem w_takeLetter {sc : Nat → Int32} (h1 : sc 1 = nI n) (hn : n ≤ 240) (c : Int32) : Mt g 0 m_Read_takeLetter [.ref rd, .int c] (blkW 4 h rd sc rar) sz u (Pi (b2 (decide (n < 240))) (if n < 240 then blkW 4 h rd (upd sc 1 (nI (n + 1))) (va_up rar 0 (upd (rar 0) n c)) else blkW 4 h rd sc rar)) sz u := by
  refine Mt.of m_Read_takeLetter_w m_Read_takeLetter_x m_Read_takeLetter_c rfl rfl (ls := [.ref rd, .int c]) rfl ?_
  refine V_aload_n rfl rfl ?_
  refine V_getI rfl rfl (by first | assumption | exact blkW_0 | exact bAt_0 (by assumption) | exact bAt_0 (hA _ _) | rfl) (by rfl) (by first | exact (rS_o rfl).trans (by assumption) | exact (by assumption) | rfl) ?_
  refine V_if_ltF rfl (nI_pos (by omega)) ?_
  refine V_aload_n rfl rfl ?_
  refine V_getI rfl rfl (by first | assumption | exact blkW_0 | exact bAt_0 (by assumption) | exact bAt_0 (hA _ _) | rfl) (by rfl) (by first | exact (rS_o rfl).trans (by assumption) | exact (by assumption) | rfl) ?_
  refine V_sipush (v := 240) rfl (by decide) ?_
  by_cases e : n < 240
  · rw [decide_eq_true e, if_pos e]
    refine V_icmp_ltT rfl (nI_lt (b := 240) e (by decide)) ?_
    refine V_aload_n rfl rfl ?_
    refine V_getfield rfl rfl (by first | assumption | exact blkW_0 | exact bAt_0 (by assumption) | exact bAt_0 (hA _ _) | rfl) (by rfl) ?_
    refine V_aload_n rfl rfl ?_
    refine V_getI rfl rfl (by first | assumption | exact blkW_0 | exact bAt_0 (by assumption) | exact bAt_0 (hA _ _) | rfl) (by rfl) (by first | exact (rS_o rfl).trans (by assumption) | exact (by assumption) | rfl) ?_
    refine V_iload_n rfl rfl ?_
    first | refine V_past rfl rfl rfl rfl (by first | with_reducible rfl | exact nI_add 2 _ | exact nI_add 26 _ | exact ix45 _ _ | exact ixm45 _ | exact ix25 _ | exact fa_lit _ | assumption) (by first | omega | assumption | decide) (by first | decide | omega | assumption) ?_ | refine V_bast rfl rfl rfl (by first | with_reducible rfl | exact nI_add 2 _ | exact nI_add 26 _ | exact ix45 _ _ | exact ixm45 _ | exact ix25 _ | exact fa_lit _ | assumption) (by first | omega | assumption | decide) (by first | decide | omega | assumption) ?_ | refine V_iastore rfl (by first | assumption | exact blkW_i rfl rfl | exact blkW_z rfl rfl | exact bAt_i (by assumption) rfl rfl | exact bAt_z (by assumption) rfl rfl | rfl) (by first | with_reducible rfl | exact nI_add 2 _ | exact nI_add 26 _ | exact ix45 _ _ | exact ixm45 _ | exact ix25 _ | exact fa_lit _ | assumption) (by first | omega | assumption | decide) (by first | decide | omega | assumption) ?_
    refine V_aload_n rfl rfl ?_
    refine V_dup rfl rfl ?_
    refine V_getI rfl rfl (by first | assumption | exact blkW_0 | exact bAt_0 (by assumption) | exact bAt_0 (hA _ _) | rfl) (by rfl) (by first | exact (rS_o rfl).trans (by assumption) | exact (by assumption) | rfl) ?_
    refine V_iconst (v := 1) rfl (by decide) ?_
    refine V_iadd rfl ?_
    rw [show nI n + 1 = nI (n + 1) from nI_1 n]
    first | refine V_pput rfl rfl rfl rfl rfl ?_ | refine V_bput rfl rfl rfl rfl rfl rfl ?_ | refine V_bputZ rfl rfl rfl rfl rfl rfl (by decide) ?_ | refine V_put rfl rfl (by first | assumption | rfl) (by decide) (fun _ hty => by cases hty; exact ⟨rfl, rfl⟩) (by first | exact Or.inl rfl | exact Or.inr ⟨rfl, rfl⟩) rfl ?_
    refine V_iconst (v := 1) rfl (by decide) ?_
    refine V_ireturn rfl rfl (by first | rfl | exact b2_nar _ | assumption | decide) ?_
    exact P_ret rfl rfl
  · rw [decide_eq_false e, if_neg e]
    refine V_icmp_ltF rfl (nI_nlt (b := 240) (by omega) (by omega)) ?_
    refine V_iconst (v := 0) rfl (by decide) ?_
    refine V_ireturn rfl rfl (by first | rfl | exact b2_nar _ | assumption | decide) ?_
    exact P_ret rfl rfl
end rinto
