section padd
variable {g : mG} {h : mH} {sz u pl : Nat} {p : Pg} {sc : Nat → Int32} {ar : Nat → Nat → Int32}
set_option maxRecDepth 20000 in
set_option maxHeartbeats 1000000 in
theorem w_addType (hq : CQ (fin p) sc ar) (hw : WR p) {c : Bool} {pa F : Int32} (hw2 : WR (addT p c pa F)) : Mt g 1 m_Plan_addType [.ref pl, .int (b2 c), .int pa, .int F] (blkW 3 h pl sc ar) sz u (fun r h' => r = none ∧ ∃ sc' ar', h' = blkW 3 h pl sc' ar' ∧ CQ (fin (addT p c pa F)) sc' ar') sz u := by
  have hT : nT p + 1 ≤ 12 := hw2.1.1
  have h0 : sc 0 = nI (nT p) := cq_nT (p := fin p) hq
  have h1 : sc 1 = setF (nT p) (isC p) := cq_cl (p := fin p) hq
  refine Mt.of m_Plan_addType_w m_Plan_addType_x m_Plan_addType_c rfl rfl (ls := [.ref pl, .int (b2 c), .int pa, .int F, .retAddr 0, .retAddr 0]) rfl ?_
  have key : ∀ sc2 : Nat → Int32, sc2 0 = nI (nT p + 1) → sc2 1 = setF (nT p) (isC p) ||| cnd c (bI (nT p)) → sc2 2 = sc 2 → sc2 3 = sc 3 → sc2 4 = sc 4 → V g 1 m_Plan_addType (fun r h' => r = none ∧ ∃ sc' ar', h' = blkW 3 h pl sc' ar' ∧ CQ (fin (addT p c pa F)) sc' ar') sz u 44 [.ref pl, .int (b2 c), .int pa, .int F, .int (nI (nT p)), .retAddr 0] [] (blkW 3 h pl sc2 ar) sz u := by
    intro sc2 s0 s1 s2 s3 s4
    rw [show blkW 3 h pl sc2 ar = blkW 3 h pl sc2 (tR ar (nT p) (ar 5 (nT p)) (ar 6 (nT p)) (ar 7 (nT p)) (ar 8 (nT p))) from congrArg _ tR_i]
    refine V_aload_n rfl rfl ?_
    refine V_getfield rfl rfl (by first | assumption | exact blkW_0 | exact bAt_0 (by assumption) | exact bAt_0 (hA _ _) | rfl) (by rfl) ?_
    refine V_iload rfl rfl ?_
    refine V_iload_n rfl rfl ?_
    first | refine V_past rfl rfl rfl rfl (by first | with_reducible rfl | exact nI_add 2 _ | exact nI_add 26 _ | exact ix45 _ _ | exact ixm45 _ | exact ix25 _ | exact fa_lit _ | assumption) (by first | omega | assumption | decide) (by first | decide | omega | assumption) ?_ | refine V_bast rfl rfl rfl (by first | with_reducible rfl | exact nI_add 2 _ | exact nI_add 26 _ | exact ix45 _ _ | exact ixm45 _ | exact ix25 _ | exact fa_lit _ | assumption) (by first | omega | assumption | decide) (by first | decide | omega | assumption) ?_ | refine V_iastore rfl (by first | assumption | exact blkW_i rfl rfl | exact blkW_z rfl rfl | exact bAt_i (by assumption) rfl rfl | exact bAt_z (by assumption) rfl rfl | rfl) (by first | with_reducible rfl | exact nI_add 2 _ | exact nI_add 26 _ | exact ix45 _ _ | exact ixm45 _ | exact ix25 _ | exact fa_lit _ | assumption) (by first | omega | assumption | decide) (by first | decide | omega | assumption) ?_
    rw [tR_u5]
    refine V_aload_n rfl rfl ?_
    refine V_getfield rfl rfl (by first | assumption | exact blkW_0 | exact bAt_0 (by assumption) | exact bAt_0 (hA _ _) | rfl) (by rfl) ?_
    refine V_iload rfl rfl ?_
    refine V_iload rfl rfl ?_
    refine V_callSi rfl rfl (Or.inr rfl) m_EB_bit_w m_EB_bit_x rfl rfl (s_bitv _ (by first | exact bitV_b (by first | omega | assumption) | exact bitV_m1 | rfl)) (by decide) rfl (Nat.le_of_ble_eq_true rfl) ?_
    first | refine V_past rfl rfl rfl rfl (by first | with_reducible rfl | exact nI_add 2 _ | exact nI_add 26 _ | exact ix45 _ _ | exact ixm45 _ | exact ix25 _ | exact fa_lit _ | assumption) (by first | omega | assumption | decide) (by first | decide | omega | assumption) ?_ | refine V_bast rfl rfl rfl (by first | with_reducible rfl | exact nI_add 2 _ | exact nI_add 26 _ | exact ix45 _ _ | exact ixm45 _ | exact ix25 _ | exact fa_lit _ | assumption) (by first | omega | assumption | decide) (by first | decide | omega | assumption) ?_ | refine V_iastore rfl (by first | assumption | exact blkW_i rfl rfl | exact blkW_z rfl rfl | exact bAt_i (by assumption) rfl rfl | exact bAt_z (by assumption) rfl rfl | rfl) (by first | with_reducible rfl | exact nI_add 2 _ | exact nI_add 26 _ | exact ix45 _ _ | exact ixm45 _ | exact ix25 _ | exact fa_lit _ | assumption) (by first | omega | assumption | decide) (by first | decide | omega | assumption) ?_
    rw [tR_u6]
    refine V_aload_n rfl rfl ?_
    refine V_getfield rfl rfl (by first | assumption | exact blkW_0 | exact bAt_0 (by assumption) | exact bAt_0 (hA _ _) | rfl) (by rfl) ?_
    refine V_iload rfl rfl ?_
    refine V_iconst (v := 0) rfl (by decide) ?_
    first | refine V_past rfl rfl rfl rfl (by first | with_reducible rfl | exact nI_add 2 _ | exact nI_add 26 _ | exact ix45 _ _ | exact ixm45 _ | exact ix25 _ | exact fa_lit _ | assumption) (by first | omega | assumption | decide) (by first | decide | omega | assumption) ?_ | refine V_bast rfl rfl rfl (by first | with_reducible rfl | exact nI_add 2 _ | exact nI_add 26 _ | exact ix45 _ _ | exact ixm45 _ | exact ix25 _ | exact fa_lit _ | assumption) (by first | omega | assumption | decide) (by first | decide | omega | assumption) ?_ | refine V_iastore rfl (by first | assumption | exact blkW_i rfl rfl | exact blkW_z rfl rfl | exact bAt_i (by assumption) rfl rfl | exact bAt_z (by assumption) rfl rfl | rfl) (by first | with_reducible rfl | exact nI_add 2 _ | exact nI_add 26 _ | exact ix45 _ _ | exact ixm45 _ | exact ix25 _ | exact fa_lit _ | assumption) (by first | omega | assumption | decide) (by first | decide | omega | assumption) ?_
    rw [tR_u7]
    refine V_aload_n rfl rfl ?_
    refine V_getfield rfl rfl (by first | assumption | exact blkW_0 | exact bAt_0 (by assumption) | exact bAt_0 (hA _ _) | rfl) (by rfl) ?_
    refine V_iload rfl rfl ?_
    refine V_iconst (v := 1) rfl (by decide) ?_
    first | refine V_past rfl rfl rfl rfl (by first | with_reducible rfl | exact nI_add 2 _ | exact nI_add 26 _ | exact ix45 _ _ | exact ixm45 _ | exact ix25 _ | exact fa_lit _ | assumption) (by first | omega | assumption | decide) (by first | decide | omega | assumption) ?_ | refine V_bast rfl rfl rfl (by first | with_reducible rfl | exact nI_add 2 _ | exact nI_add 26 _ | exact ix45 _ _ | exact ixm45 _ | exact ix25 _ | exact fa_lit _ | assumption) (by first | omega | assumption | decide) (by first | decide | omega | assumption) ?_ | refine V_iastore rfl (by first | assumption | exact blkW_i rfl rfl | exact blkW_z rfl rfl | exact bAt_i (by assumption) rfl rfl | exact bAt_z (by assumption) rfl rfl | rfl) (by first | with_reducible rfl | exact nI_add 2 _ | exact nI_add 26 _ | exact ix45 _ _ | exact ixm45 _ | exact ix25 _ | exact fa_lit _ | assumption) (by first | omega | assumption | decide) (by first | decide | omega | assumption) ?_
    rw [tR_u8]
    refine V_iconst (v := 0) rfl (by decide) ?_
    refine V_is5 rfl (by first | rfl | assumption) ?_
    have hstr : ∀ w, str (addT p c pa F) (nT p) w = (decide (nI w = pa) || bt F w) := fun w => by
      show (decide (nI w = (if nT p = nT p then pa else par p (nT p))) || bt (if nT p = nT p then F else abv p (nT p)) w) = _
      rw [if_pos rfl, if_pos rfl]
    refine V_for2 (nT p) (fun i => [.ref pl, .int (b2 c), .int pa, .int F, .int (nI (nT p)), .int (nI i)]) (fun i => blkW 3 h pl sc2 (tR ar (nT p) pa (aAcc (addT p c pa F) (abF p) (nT p) i) 0 (dAcc (addT p c pa F) (dpF p) (nT p) i))) rfl rfl (fun i hi ih => ?_) ?_
    · have a6 : ar 6 i = abF p i := cq_abv (p := fin p) hq hi
      have a8 : ar 8 i = dpF p i := cq_dep (p := fin p) hq hi
      have es : aAcc (addT p c pa F) (abF p) (nT p) (i + 1) = aAcc (addT p c pa F) (abF p) (nT p) i ||| cnd (str (addT p c pa F) (nT p) i) (abF p i) := rfl
      have ed : dAcc (addT p c pa F) (dpF p) (nT p) (i + 1) = if str (addT p c pa F) (nT p) i = true ∧ dAcc (addT p c pa F) (dpF p) (nT p) i < dpF p i + 1 then dpF p i + 1 else dAcc (addT p c pa F) (dpF p) (nT p) i := rfl
      have k105 : str (addT p c pa F) (nT p) i = true → V g 1 m_Plan_addType (fun r h' => r = none ∧ ∃ sc' ar', h' = blkW 3 h pl sc' ar' ∧ CQ (fin (addT p c pa F)) sc' ar') sz u 105 [.ref pl, .int (b2 c), .int pa, .int F, .int (nI (nT p)), .int (nI i)] [] (blkW 3 h pl sc2 (tR ar (nT p) pa (aAcc (addT p c pa F) (abF p) (nT p) i) 0 (dAcc (addT p c pa F) (dpF p) (nT p) i))) sz u := by
        intro hs
        rw [hs] at es ed
        refine V_aload_n rfl rfl ?_
        refine V_getfield rfl rfl (by first | assumption | exact blkW_0 | exact bAt_0 (by assumption) | exact bAt_0 (hA _ _) | rfl) (by rfl) ?_
        refine V_iload rfl rfl ?_
        refine V_dup2 rfl rfl rfl ?_
        refine V_iald rfl (blkW_i rfl rfl) rfl (by omega) (by decide) tR_6 ?_
        refine V_aload_n rfl rfl ?_
        refine V_getfield rfl rfl (by first | assumption | exact blkW_0 | exact bAt_0 (by assumption) | exact bAt_0 (hA _ _) | rfl) (by rfl) ?_
        refine V_iload rfl rfl ?_
        refine V_iald rfl (blkW_i rfl rfl) rfl (by omega) (by decide) ((tR_n (by omega)).trans a6) ?_
        refine V_ior rfl ?_
        first | refine V_past rfl rfl rfl rfl (by first | with_reducible rfl | exact nI_add 2 _ | exact nI_add 26 _ | exact ix45 _ _ | exact ixm45 _ | exact ix25 _ | exact fa_lit _ | assumption) (by first | omega | assumption | decide) (by first | decide | omega | assumption) ?_ | refine V_bast rfl rfl rfl (by first | with_reducible rfl | exact nI_add 2 _ | exact nI_add 26 _ | exact ix45 _ _ | exact ixm45 _ | exact ix25 _ | exact fa_lit _ | assumption) (by first | omega | assumption | decide) (by first | decide | omega | assumption) ?_ | refine V_iastore rfl (by first | assumption | exact blkW_i rfl rfl | exact blkW_z rfl rfl | exact bAt_i (by assumption) rfl rfl | exact bAt_z (by assumption) rfl rfl | rfl) (by first | with_reducible rfl | exact nI_add 2 _ | exact nI_add 26 _ | exact ix45 _ _ | exact ixm45 _ | exact ix25 _ | exact fa_lit _ | assumption) (by first | omega | assumption | decide) (by first | decide | omega | assumption) ?_
        rw [tR_u6]
        refine V_aload_n rfl rfl ?_
        refine V_getfield rfl rfl (by first | assumption | exact blkW_0 | exact bAt_0 (by assumption) | exact bAt_0 (hA _ _) | rfl) (by rfl) ?_
        refine V_iload rfl rfl ?_
        refine V_aload_n rfl rfl ?_
        refine V_getfield rfl rfl (by first | assumption | exact blkW_0 | exact bAt_0 (by assumption) | exact bAt_0 (hA _ _) | rfl) (by rfl) ?_
        refine V_iload rfl rfl ?_
        refine V_iald rfl (blkW_i rfl rfl) rfl (by omega) (by decide) tR_8 ?_
        refine V_aload_n rfl rfl ?_
        refine V_getfield rfl rfl (by first | assumption | exact blkW_0 | exact bAt_0 (by assumption) | exact bAt_0 (hA _ _) | rfl) (by rfl) ?_
        refine V_iload rfl rfl ?_
        refine V_iald rfl (blkW_i rfl rfl) rfl (by omega) (by decide) ((tR_n (by omega)).trans a8) ?_
        refine V_iconst (v := 1) rfl (by decide) ?_
        refine V_iadd rfl ?_
        refine V_callSi rfl rfl (Or.inl rfl) m_Mat_max_w m_Mat_max_x rfl rfl (s_max _ _) (by decide) rfl (Nat.le_of_ble_eq_true rfl) ?_
        first | refine V_past rfl rfl rfl rfl (by first | with_reducible rfl | exact nI_add 2 _ | exact nI_add 26 _ | exact ix45 _ _ | exact ixm45 _ | exact ix25 _ | exact fa_lit _ | assumption) (by first | omega | assumption | decide) (by first | decide | omega | assumption) ?_ | refine V_bast rfl rfl rfl (by first | with_reducible rfl | exact nI_add 2 _ | exact nI_add 26 _ | exact ix45 _ _ | exact ixm45 _ | exact ix25 _ | exact fa_lit _ | assumption) (by first | omega | assumption | decide) (by first | decide | omega | assumption) ?_ | refine V_iastore rfl (by first | assumption | exact blkW_i rfl rfl | exact blkW_z rfl rfl | exact bAt_i (by assumption) rfl rfl | exact bAt_z (by assumption) rfl rfl | rfl) (by first | with_reducible rfl | exact nI_add 2 _ | exact nI_add 26 _ | exact ix45 _ _ | exact ixm45 _ | exact ix25 _ | exact fa_lit _ | assumption) (by first | omega | assumption | decide) (by first | decide | omega | assumption) ?_
        rw [tR_u8]
        refine V_inc5 rfl (by first | exact mInc _ | rfl) (by first | rfl | assumption) ?_
        refine V_goto rfl ?_
        refine V_wkh ih (by simp [mWk]) ?_
        rw [es, ed]
        simp [cnd]
      refine V_iload rfl rfl ?_
      refine V_iload rfl rfl ?_
      refine V_icmp_geF rfl (nI_ge hi (by omega)) ?_
      refine V_iload rfl rfl ?_
      refine V_iload_n rfl rfl ?_
      by_cases e1 : nI i = pa
      · refine V_icmp_eqT rfl (e1) ?_
        exact k105 (by rw [hstr, decide_eq_true e1]; rfl)
      · refine V_icmp_eqF rfl (e1) ?_
        refine V_iload_n rfl rfl ?_
        refine V_iload rfl rfl ?_
        refine V_callSi rfl rfl (Or.inr rfl) m_EB_has_w m_EB_has_x rfl rfl (s_hasv _ _ (by first | exact hasV_b (by first | omega | assumption) _ | exact hasV_m1 _ | rfl)) (by decide) rfl (Nat.le_of_ble_eq_true rfl) ?_
        cases e2 : bt F i
        · have hs : str (addT p c pa F) (nT p) i = false := by rw [hstr, decide_eq_false e1, e2]; rfl
          rw [hs] at es ed
          refine V_if_eqT rfl (rfl) ?_
          refine V_inc5 rfl (by first | exact mInc _ | rfl) (by first | rfl | assumption) ?_
          refine V_goto rfl ?_
          refine V_wkh ih (by simp [mWk]) ?_
          rw [es, ed]
          simp [cnd]
        · refine V_if_eqF rfl (by decide) ?_
          exact k105 (by rw [hstr, e2, Bool.or_true])
    · have hsA : ∀ t w, t < nT p → str (addT p c pa F) t w = str p t w := fun t w ht => by
        show (decide (nI w = (if t = nT p then pa else par p t)) || bt (if t = nT p then F else abv p t) w) = _
        rw [if_neg (by omega), if_neg (by omega)]
        rfl
      have eA : aAcc (addT p c pa F) (abF p) (nT p) (nT p) = abF (addT p c pa F) (nT p) := by
        rw [abF_e (addT p c pa F)]
        exact aAcc_c _ fun w hw => (abF_c hsA w hw).symm
      have eD : dAcc (addT p c pa F) (dpF p) (nT p) (nT p) = dpF (addT p c pa F) (nT p) := by
        rw [dpF_e (addT p c pa F)]
        exact dAcc_c _ fun w hw => (dpF_c hsA w hw).symm
      rw [eA, eD]
      have hfin := CQ_addT (sc2 := sc2) (D := dpF (addT p c pa F) (nT p)) (B := 0) (r7 := tR ar (nT p) pa (abF (addT p c pa F) (nT p)) 0 (dpF (addT p c pa F) (nT p)) 7) hq hw hw2 s0 s1 s2 s3 s4 rfl (fun x hx => tR_n (by omega)) tR_7
      generalize hX : tR ar (nT p) pa (abF (addT p c pa F) (nT p)) 0 (dpF (addT p c pa F) (nT p)) = X at hfin
      have hX6 : X 6 (nT p) = abF (addT p c pa F) (nT p) := by rw [← hX]; exact tR_6
      refine V_iload rfl rfl ?_
      refine V_iload rfl rfl ?_
      refine V_icmp_geT rfl (nI_le (Nat.le_refl _) (by omega)) ?_
      refine V_iconst (v := 0) rfl (by decide) ?_
      refine V_is5 rfl (by first | rfl | assumption) ?_
      refine V_for2 (nT p + 1) (fun i => [.ref pl, .int (b2 c), .int pa, .int F, .int (nI (nT p)), .int (nI i)]) (fun i => blkW 3 h pl sc2 (va_up X 7 (blw (X 7) (abF (addT p c pa F) (nT p)) (nT p) i))) rfl (by rw [blw_0, va_self]) (fun i hi ih => ?_) ?_
      · refine V_iload rfl rfl ?_
        refine V_iload rfl rfl ?_
        refine V_icmp_gtF rfl (nI_nlt (show i ≤ nT p by omega) (by omega)) ?_
        refine V_aload_n rfl rfl ?_
        refine V_getfield rfl rfl (by first | assumption | exact blkW_0 | exact bAt_0 (by assumption) | exact bAt_0 (hA _ _) | rfl) (by rfl) ?_
        refine V_iload rfl rfl ?_
        refine V_iald rfl (blkW_i rfl rfl) rfl (by omega) (by decide) ((va_n (by decide)).trans hX6) ?_
        refine V_iload rfl rfl ?_
        refine V_callSi rfl rfl (Or.inr rfl) m_EB_has_w m_EB_has_x rfl rfl (s_hasv _ _ (by first | exact hasV_b (by first | omega | assumption) _ | exact hasV_m1 _ | rfl)) (by decide) rfl (Nat.le_of_ble_eq_true rfl) ?_
        cases e : bt (abF (addT p c pa F) (nT p)) i
        · rw [← blw_n e] at ih
          refine V_if_eqT rfl (rfl) ?_
          refine V_inc5 rfl (by first | exact mInc _ | rfl) (by first | rfl | assumption) ?_
          refine V_goto rfl ?_
          exact ih
        · rw [← blw_y e] at ih
          refine V_if_eqF rfl (by decide) ?_
          refine V_aload_n rfl rfl ?_
          refine V_getfield rfl rfl (by first | assumption | exact blkW_0 | exact bAt_0 (by assumption) | exact bAt_0 (hA _ _) | rfl) (by rfl) ?_
          refine V_iload rfl rfl ?_
          refine V_dup2 rfl rfl rfl ?_
          refine V_iald rfl (blkW_i rfl rfl) rfl (by omega) (by decide) va_g ?_
          refine V_iload rfl rfl ?_
          refine V_callSi rfl rfl (Or.inr rfl) m_EB_bit_w m_EB_bit_x rfl rfl (s_bitv _ (by first | exact bitV_b (by first | omega | assumption) | exact bitV_m1 | rfl)) (by decide) rfl (Nat.le_of_ble_eq_true rfl) ?_
          refine V_ior rfl ?_
          first | refine V_past rfl rfl rfl rfl (by first | with_reducible rfl | exact nI_add 2 _ | exact nI_add 26 _ | exact ix45 _ _ | exact ixm45 _ | exact ix25 _ | exact fa_lit _ | assumption) (by first | omega | assumption | decide) (by first | decide | omega | assumption) ?_ | refine V_bast rfl rfl rfl (by first | with_reducible rfl | exact nI_add 2 _ | exact nI_add 26 _ | exact ix45 _ _ | exact ixm45 _ | exact ix25 _ | exact fa_lit _ | assumption) (by first | omega | assumption | decide) (by first | decide | omega | assumption) ?_ | refine V_iastore rfl (by first | assumption | exact blkW_i rfl rfl | exact blkW_z rfl rfl | exact bAt_i (by assumption) rfl rfl | exact bAt_z (by assumption) rfl rfl | rfl) (by first | with_reducible rfl | exact nI_add 2 _ | exact nI_add 26 _ | exact ix45 _ _ | exact ixm45 _ | exact ix25 _ | exact fa_lit _ | assumption) (by first | omega | assumption | decide) (by first | decide | omega | assumption) ?_
          rw [va_w]
          refine V_inc5 rfl (by first | exact mInc _ | rfl) (by first | rfl | assumption) ?_
          refine V_goto rfl ?_
          exact ih
      · refine V_iload rfl rfl ?_
        refine V_iload rfl rfl ?_
        refine V_icmp_gtT rfl (nI_lt (by omega) (by omega)) ?_
        refine V_return rfl rfl ?_
        exact ⟨rfl, _, _, rfl, hfin⟩
  refine V_aload_n rfl rfl ?_
  refine V_getI rfl rfl blkW_0 (by rfl) h0 ?_
  refine V_bipush (v := 12) rfl (by decide) ?_
  refine V_icmp_ltT rfl (nI_lt (b := 12) (by omega) (by decide)) ?_
  refine V_aload_n rfl rfl ?_
  refine V_getI rfl rfl blkW_0 (by rfl) h0 ?_
  refine V_is4 rfl (by first | rfl | assumption) ?_
  refine V_aload_n rfl rfl ?_
  refine V_dup rfl rfl ?_
  refine V_getI rfl rfl blkW_0 (by rfl) h0 ?_
  refine V_iconst (v := 1) rfl (by decide) ?_
  refine V_iadd rfl ?_
  first | refine V_pput rfl rfl rfl rfl rfl ?_ | refine V_bput rfl rfl rfl rfl rfl rfl ?_ | refine V_bputZ rfl rfl rfl rfl rfl rfl (by decide) ?_ | refine V_put rfl rfl (by first | assumption | rfl) (by decide) (fun _ hty => by cases hty; exact ⟨rfl, rfl⟩) (by first | exact Or.inl rfl | exact Or.inr ⟨rfl, rfl⟩) rfl ?_
  refine V_iload_n rfl rfl ?_
  rw [show nI (nT p) + 1 = nI (nT p + 1) from nI_1 _]
  cases c
  · refine V_if_eqT rfl (rfl) ?_
    exact key _ pk_us (by rw [pk_un (by decide), h1]; simp [cnd]) (pk_un (by decide)) (pk_un (by decide)) (pk_un (by decide))
  · refine V_if_eqF rfl (by decide) ?_
    refine V_aload_n rfl rfl ?_
    refine V_dup rfl rfl ?_
    refine V_getI rfl rfl blkW_0 (by rfl) ((pk_un (by decide)).trans h1) ?_
    refine V_iload rfl rfl ?_
    refine V_callSi rfl rfl (Or.inr rfl) m_EB_bit_w m_EB_bit_x rfl rfl (s_bitv _ (by first | exact bitV_b (by first | omega | assumption) | exact bitV_m1 | rfl)) (by decide) rfl (Nat.le_of_ble_eq_true rfl) ?_
    refine V_ior rfl ?_
    first | refine V_pput rfl rfl rfl rfl rfl ?_ | refine V_bput rfl rfl rfl rfl rfl rfl ?_ | refine V_bputZ rfl rfl rfl rfl rfl rfl (by decide) ?_ | refine V_put rfl rfl (by first | assumption | rfl) (by decide) (fun _ hty => by cases hty; exact ⟨rfl, rfl⟩) (by first | exact Or.inl rfl | exact Or.inr ⟨rfl, rfl⟩) rfl ?_
    exact key _ ((pk_un (by decide)).trans pk_us) pk_us ((pk_un (by decide)).trans (pk_un (by decide))) ((pk_un (by decide)).trans (pk_un (by decide))) ((pk_un (by decide)).trans (pk_un (by decide)))
end padd
theorem fBod_add {p : Pg} {t m x y : Nat} : fBod (addB p t m) x y = if fBod p x y < nB p then fBod p x y else if t = x ∧ m = y then nB p else nB p + 1 := by
  have e : fBod (addB p t m) x y = fa_first (fun b => (if b = nB p then t else bT p b) == x && (if b = nB p then m else bM p b) == y) (nB p + 1) := rfl
  have e2 : fa_first (fun b => (if b = nB p then t else bT p b) == x && (if b = nB p then m else bM p b) == y) (nB p) = fBod p x y := by
    refine first_cong fun k hk => ?_
    rw [if_neg (by omega), if_neg (by omega)]
  have e3 : fa_first (fun b => (if b = nB p then t else bT p b) == x && (if b = nB p then m else bM p b) == y) (nB p + 1) = (if fa_first (fun b => (if b = nB p then t else bT p b) == x && (if b = nB p then m else bM p b) == y) (nB p) < nB p then fa_first (fun b => (if b = nB p then t else bT p b) == x && (if b = nB p then m else bM p b) == y) (nB p) else if ((if nB p = nB p then t else bT p (nB p)) == x && (if nB p = nB p then m else bM p (nB p)) == y) = true then nB p else nB p + 1) := rfl
  rw [e, e3, e2, if_pos rfl, if_pos rfl]
  simp only [Bool.and_eq_true, beq_iff_eq]
/-- rows with one place written each -/
def w3 (ar : Nat → Nat → Int32) (k1 k2 k3 j1 j2 j3 : Nat) (v1 v2 v3 : Int32) : Nat → Nat → Int32 := va_up (va_up (va_up ar k1 (upd (ar k1) j1 v1)) k2 (upd (va_up ar k1 (upd (ar k1) j1 v1) k2) j2 v2)) k3 (upd (va_up (va_up ar k1 (upd (ar k1) j1 v1)) k2 (upd (va_up ar k1 (upd (ar k1) j1 v1) k2) j2 v2) k3) j3 v3)
theorem CQ_addB {p : Pg} {sc sc2 : Nat → Int32} {ar : Nat → Nat → Int32} {t m : Nat} (hq : CQ (fin p) sc ar) (hw2 : WR (addB p t m)) (ht : t < nT p) (hm : m < 6) (hh : hasB p t m = false) (s0 : sc2 0 = sc 0) (s1 : sc2 1 = sc 1) (s2 : sc2 2 = nI (nB p + 1)) (s3 : sc2 3 = sc 3) (s4 : sc2 4 = sc 4) : CQ (fin (addB p t m)) sc2 (w3 ar 9 10 16 (nB p) (nB p) (t * 6 + m) (nI t) (nI m) (nI (nB p))) := by
  have hB : nB p + 1 ≤ 20 := hw2.1.2.1
  have hT : nT p ≤ 12 := hw2.1.1
  have hk : ∀ k j, k ≠ 9 → k ≠ 10 → k ≠ 16 → w3 ar 9 10 16 (nB p) (nB p) (t * 6 + m) (nI t) (nI m) (nI (nB p)) k j = ar k j := fun k j a b c => by
    unfold w3
    rw [va_n c, va_n b, va_n a]
  have h9 : ∀ j, w3 ar 9 10 16 (nB p) (nB p) (t * 6 + m) (nI t) (nI m) (nI (nB p)) 9 j = if j = nB p then nI t else ar 9 j := fun j => by
    unfold w3
    rw [va_n (by decide), va_n (by decide), va_g]
    rfl
  have h10 : ∀ j, w3 ar 9 10 16 (nB p) (nB p) (t * 6 + m) (nI t) (nI m) (nI (nB p)) 10 j = if j = nB p then nI m else ar 10 j := fun j => by
    unfold w3
    rw [va_n (by decide), va_g]
    unfold upd
    rw [va_n (by decide)]
  have h16 : ∀ j, w3 ar 9 10 16 (nB p) (nB p) (t * 6 + m) (nI t) (nI m) (nI (nB p)) 16 j = if j = t * 6 + m then nI (nB p) else ar 16 j := fun j => by
    unfold w3
    rw [va_g]
    unfold upd
    rw [va_n (by decide), va_n (by decide)]
  obtain ⟨q1, q2, q3, q4, q5, q6, q7⟩ := hq
  have hab : ∀ x, abF (addB p t m) x = abF p x := fun x => abF_c (p := addB p t m) (q := p) (n := x + 1) (fun _ _ _ => rfl) x (by omega)
  have hdp : ∀ x, dpF (addB p t m) x = dpF p x := fun x => dpF_c (p := addB p t m) (q := p) (n := x + 1) (fun _ _ _ => rfl) x (by omega)
  have hcn : cnS (addB p t m) (nS p) = cnS p (nS p) := cnS_c fun s _ => rfl
  refine ⟨fin_WB hw2, ⟨s0.trans q2.1, s1.trans q2.2.1, s2, s3.trans q2.2.2.2.1, s4.trans (q2.2.2.2.2.trans (show nI (cnS p (nS p)) = nI (cnS (addB p t m) (nS p)) by rw [hcn]))⟩, fun x hx => ?_, fun b hb => ?_, fun s hs => ?_, fun x hx => ?_, fun x y hx hy => ?_⟩
  · rw [hk _ _ (by decide) (by decide) (by decide), hk _ _ (by decide) (by decide) (by decide), hk _ _ (by decide) (by decide) (by decide), hk _ _ (by decide) (by decide) (by decide)]
    obtain ⟨a1, a2, a3, a4⟩ := q3 x hx
    refine ⟨a1, a2.trans (hab x).symm, a3.trans ?_, a4.trans (hdp x).symm⟩
    show setF (nT p) (fun y => bt (abF p y) x) = setF (nT p) (fun y => bt (abF (addB p t m) y) x)
    exact setF_cong fun k hk => by rw [hab]
  · have hb : b < nB p + 1 := hb
    rw [h9, h10]
    show _ = nI (if b = nB p then t else bT p b) ∧ _ = nI (if b = nB p then m else bM p b)
    by_cases e : b = nB p
    · rw [if_pos e, if_pos e, if_pos e, if_pos e]; exact ⟨rfl, rfl⟩
    · rw [if_neg e, if_neg e, if_neg e, if_neg e]; exact q4 b (show b < nB p by omega)
  · rw [hk _ _ (by decide) (by decide) (by decide), hk _ _ (by decide) (by decide) (by decide), hk _ _ (by decide) (by decide) (by decide), hk _ _ (by decide) (by decide) (by decide)]
    obtain ⟨a1, a2, a3, a4⟩ := q5 s hs
    refine ⟨a1, a2, a3.trans ?_, a4⟩
    have hs : s < nS p := hs
    have hsb : sB p s < nB p := (q1.2.2.2.1 s hs).2.1
    show (if sK p s = 2 then par p (bT p (sB p s)) else nI (sT p s)) = (if sK p s = 2 then par p (if sB p s = nB p then t else bT p (sB p s)) else nI (sT p s))
    rw [if_neg (show ¬ sB p s = nB p by omega)]
  · have hx : x < cnS (addB p t m) (nS p) := hx
    rw [hcn] at hx
    rw [hk _ _ (by decide) (by decide) (by decide)]
    refine (q6 x hx).trans ?_
    show nI (csF p (nS p) x) = nI (csF (addB p t m) (nS p) x)
    rw [csF_c (p := addB p t m) (q := p) fun s _ => rfl]
  · rw [h16]
    have hq7 : ar 16 (x * 6 + y) = bodyOf p x y := q7 x y hx hy
    show _ = oB (nB p + 1) (fBod (addB p t m) x y)
    rw [fBod_add]
    have hno : ¬ fBod p t m < nB p := of_decide_eq_false hh
    by_cases e : t = x ∧ m = y
    · obtain ⟨rfl, rfl⟩ := e
      rw [if_pos rfl, if_neg hno, if_pos ⟨rfl, rfl⟩]
      unfold oB
      rw [if_pos (by omega)]
    · rw [if_neg (fun z => e (by omega)), hq7, if_neg e]
      unfold bodyOf oB
      by_cases l : fBod p x y < nB p
      · rw [if_pos l, if_pos l, if_pos (by omega)]
      · rw [if_neg l, if_neg l, if_neg (by omega)]
section padd2
variable {g : mG} {h : mH} {sz u pl : Nat} {p : Pg} {sc : Nat → Int32} {ar : Nat → Nat → Int32}
set_option maxRecDepth 20000 in
set_option maxHeartbeats 1000000 in
theorem w_addBody (hq : CQ (fin p) sc ar) {t m : Nat} (hw2 : WR (addB p t m)) (ht : t < nT p) (hm : m < 6) (hh : hasB p t m = false) : Mt g 1 m_Plan_addBody [.ref pl, .int (nI t), .int (nI m)] (blkW 3 h pl sc ar) sz u (fun r h' => r = none ∧ ∃ sc' ar', h' = blkW 3 h pl sc' ar' ∧ CQ (fin (addB p t m)) sc' ar') sz u := by
  have hB : nB p + 1 ≤ 20 := hw2.1.2.1
  have hT : nT p ≤ 12 := hw2.1.1
  have h2 : sc 2 = nI (nB p) := cq_nB (p := fin p) hq
  refine Mt.of m_Plan_addBody_w m_Plan_addBody_x m_Plan_addBody_c rfl rfl (ls := [.ref pl, .int (nI t), .int (nI m), .retAddr 0]) rfl ?_
  refine V_iload_n rfl rfl ?_
  refine V_iload_n rfl rfl ?_
  refine V_callSi rfl rfl (Or.inl rfl) m_Plan_key_w m_Plan_key_x rfl rfl (s_keyv _ _ (by first | exact keyV_in (by first | omega | assumption) (by first | omega | assumption) | rfl)) (by decide) rfl (Nat.le_of_ble_eq_true rfl) ?_
  refine V_is3 rfl (by first | rfl | assumption) ?_
  refine V_iload_n rfl rfl ?_
  refine V_iconst (v := (-1)) rfl (by decide) ?_
  refine V_icmp_eqF rfl (nI_m1 (by omega)) ?_
  refine V_aload_n rfl rfl ?_
  refine V_getI rfl rfl blkW_0 (by rfl) h2 ?_
  refine V_bipush (v := 20) rfl (by decide) ?_
  refine V_icmp_ltT rfl (nI_lt (b := 20) (by omega) (by decide)) ?_
  refine V_aload_n rfl rfl ?_
  refine V_getfield rfl rfl (by first | assumption | exact blkW_0 | exact bAt_0 (by assumption) | exact bAt_0 (hA _ _) | rfl) (by rfl) ?_
  refine V_aload_n rfl rfl ?_
  refine V_getI rfl rfl blkW_0 (by rfl) h2 ?_
  refine V_iload_n rfl rfl ?_
  first | refine V_past rfl rfl rfl rfl (by first | with_reducible rfl | exact nI_add 2 _ | exact nI_add 26 _ | exact ix45 _ _ | exact ixm45 _ | exact ix25 _ | exact fa_lit _ | assumption) (by first | omega | assumption | decide) (by first | decide | omega | assumption) ?_ | refine V_bast rfl rfl rfl (by first | with_reducible rfl | exact nI_add 2 _ | exact nI_add 26 _ | exact ix45 _ _ | exact ixm45 _ | exact ix25 _ | exact fa_lit _ | assumption) (by first | omega | assumption | decide) (by first | decide | omega | assumption) ?_ | refine V_iastore rfl (by first | assumption | exact blkW_i rfl rfl | exact blkW_z rfl rfl | exact bAt_i (by assumption) rfl rfl | exact bAt_z (by assumption) rfl rfl | rfl) (by first | with_reducible rfl | exact nI_add 2 _ | exact nI_add 26 _ | exact ix45 _ _ | exact ixm45 _ | exact ix25 _ | exact fa_lit _ | assumption) (by first | omega | assumption | decide) (by first | decide | omega | assumption) ?_
  refine V_aload_n rfl rfl ?_
  refine V_getfield rfl rfl (by first | assumption | exact blkW_0 | exact bAt_0 (by assumption) | exact bAt_0 (hA _ _) | rfl) (by rfl) ?_
  refine V_aload_n rfl rfl ?_
  refine V_getI rfl rfl blkW_0 (by rfl) h2 ?_
  refine V_iload_n rfl rfl ?_
  first | refine V_past rfl rfl rfl rfl (by first | with_reducible rfl | exact nI_add 2 _ | exact nI_add 26 _ | exact ix45 _ _ | exact ixm45 _ | exact ix25 _ | exact fa_lit _ | assumption) (by first | omega | assumption | decide) (by first | decide | omega | assumption) ?_ | refine V_bast rfl rfl rfl (by first | with_reducible rfl | exact nI_add 2 _ | exact nI_add 26 _ | exact ix45 _ _ | exact ixm45 _ | exact ix25 _ | exact fa_lit _ | assumption) (by first | omega | assumption | decide) (by first | decide | omega | assumption) ?_ | refine V_iastore rfl (by first | assumption | exact blkW_i rfl rfl | exact blkW_z rfl rfl | exact bAt_i (by assumption) rfl rfl | exact bAt_z (by assumption) rfl rfl | rfl) (by first | with_reducible rfl | exact nI_add 2 _ | exact nI_add 26 _ | exact ix45 _ _ | exact ixm45 _ | exact ix25 _ | exact fa_lit _ | assumption) (by first | omega | assumption | decide) (by first | decide | omega | assumption) ?_
  refine V_aload_n rfl rfl ?_
  refine V_getfield rfl rfl (by first | assumption | exact blkW_0 | exact bAt_0 (by assumption) | exact bAt_0 (hA _ _) | rfl) (by rfl) ?_
  refine V_iload_n rfl rfl ?_
  refine V_aload_n rfl rfl ?_
  refine V_getI rfl rfl blkW_0 (by rfl) h2 ?_
  first | refine V_past rfl rfl rfl rfl (by first | with_reducible rfl | exact nI_add 2 _ | exact nI_add 26 _ | exact ix45 _ _ | exact ixm45 _ | exact ix25 _ | exact fa_lit _ | assumption) (by first | omega | assumption | decide) (by first | decide | omega | assumption) ?_ | refine V_bast rfl rfl rfl (by first | with_reducible rfl | exact nI_add 2 _ | exact nI_add 26 _ | exact ix45 _ _ | exact ixm45 _ | exact ix25 _ | exact fa_lit _ | assumption) (by first | omega | assumption | decide) (by first | decide | omega | assumption) ?_ | refine V_iastore rfl (by first | assumption | exact blkW_i rfl rfl | exact blkW_z rfl rfl | exact bAt_i (by assumption) rfl rfl | exact bAt_z (by assumption) rfl rfl | rfl) (by first | with_reducible rfl | exact nI_add 2 _ | exact nI_add 26 _ | exact ix45 _ _ | exact ixm45 _ | exact ix25 _ | exact fa_lit _ | assumption) (by first | omega | assumption | decide) (by first | decide | omega | assumption) ?_
  refine V_aload_n rfl rfl ?_
  refine V_dup rfl rfl ?_
  refine V_getI rfl rfl blkW_0 (by rfl) h2 ?_
  refine V_iconst (v := 1) rfl (by decide) ?_
  refine V_iadd rfl ?_
  first | refine V_pput rfl rfl rfl rfl rfl ?_ | refine V_bput rfl rfl rfl rfl rfl rfl ?_ | refine V_bputZ rfl rfl rfl rfl rfl rfl (by decide) ?_ | refine V_put rfl rfl (by first | assumption | rfl) (by decide) (fun _ hty => by cases hty; exact ⟨rfl, rfl⟩) (by first | exact Or.inl rfl | exact Or.inr ⟨rfl, rfl⟩) rfl ?_
  refine V_return rfl rfl ?_
  exact ⟨rfl, _, _, rfl, CQ_addB hq hw2 ht hm hh (pk_un (by decide)) (pk_un (by decide)) (pk_us.trans (nI_1 _)) (pk_un (by decide)) (pk_un (by decide))⟩
end padd2
