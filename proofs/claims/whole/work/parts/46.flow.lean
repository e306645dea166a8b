/-! ===== the class's Flow ===== -/
def fS (sc : Nat → Int32) (x : Int32 × Int32) : Nat → Int32 := upd (upd sc 0 x.1) 1 x.2
theorem fS_0 {sc : Nat → Int32} {x : Int32 × Int32} : fS sc x 0 = x.1 := rfl
theorem fS_1 {sc : Nat → Int32} {x : Int32 × Int32} : fS sc x 1 = x.2 := rfl
theorem fS_o {sc : Nat → Int32} {x : Int32 × Int32} {k : Nat} (hk : (Nat.beq k 0 || Nat.beq k 1) = false) : fS sc x k = sc k := by
  rw [Bool.or_eq_false_iff] at hk
  have h1 : k ≠ 0 := fun e => by rw [e] at hk; exact absurd hk.1 (by decide)
  have h2 : k ≠ 1 := fun e => by rw [e] at hk; exact absurd hk.2 (by decide)
  unfold fS
  rw [pk_un h2, pk_un h1]
theorem fS_u0 {sc : Nat → Int32} {x : Int32 × Int32} {v : Int32} : upd (fS sc x) 0 v = fS sc (v, x.2) := by
  unfold fS
  rw [fa_upd_swap _ (by decide), fa_upd_twice]
theorem fS_u1 {sc : Nat → Int32} {x : Int32 × Int32} {v : Int32} : upd (fS sc x) 1 v = fS sc (x.1, v) := by
  unfold fS
  rw [fa_upd_twice]
theorem fS_id (sc : Nat → Int32) : fS sc (sc 0, sc 1) = sc := by
  unfold fS
  rw [fa_upd_same (f := sc) rfl, fa_upd_same rfl]
theorem mk_and {p : Pg} {L : Int32} {s : Nat} (h : sT p s < 32) : cnd (sK p s == 0) (bI (sT p s)) &&& L = mkS p L s := b_ext fun i hi => by
  unfold mkS
  rw [b_and, bt_cnd, bt_cnd, bt_bI h hi]
  by_cases e : i = sT p s
  · subst e
    rw [decide_eq_true rfl, Bool.and_true, Bool.and_true]
  · rw [decide_eq_false e, Bool.and_false, Bool.and_false, Bool.false_and]
/-- what goes where, i steps on -/
def lkF (p : Pg) (R M : Int32) (r : Nat → Int32) (i : Nat) : Nat → Int32 := fun b => if b < 20 then (if bt R b then orF i (fun s => cnd (sB p s == b) (dnB p s M)) else 0) else r b
theorem lkF_s {p : Pg} {R M : Int32} {r : Nat → Int32} {i : Nat} (hb : sB p i < 20) : lkF p R M r (i + 1) = if bt R (sB p i) then upd (lkF p R M r i) (sB p i) (lkF p R M r i (sB p i) ||| dnB p i M) else lkF p R M r i := by
  funext b
  by_cases hR : bt R (sB p i) = true
  · rw [if_pos hR]
    unfold upd
    by_cases e : b = sB p i
    · subst e
      unfold lkF
      rw [if_pos rfl, if_pos hb, if_pos hb, hR, orF_s]
      simp [cnd]
    · rw [if_neg e]
      unfold lkF
      by_cases hb2 : b < 20
      · rw [if_pos hb2, if_pos hb2]
        by_cases hR2 : bt R b = true
        · rw [if_pos hR2, if_pos hR2, orF_s, cnd_f (by simp [Ne.symm e]), Int32.or_zero]
        · rw [if_neg hR2, if_neg hR2]
      · rw [if_neg hb2, if_neg hb2]
  · rw [if_neg hR]
    unfold lkF
    by_cases hb2 : b < 20
    · rw [if_pos hb2, if_pos hb2]
      by_cases hR2 : bt R b = true
      · have e : b ≠ sB p i := fun z => hR (by rw [← z]; exact hR2)
        rw [if_pos hR2, if_pos hR2, orF_s, cnd_f (by simp [Ne.symm e]), Int32.or_zero]
      · rw [if_neg hR2, if_neg hR2]
    · rw [if_neg hb2, if_neg hb2]
section flow
variable {g : mG} {h : mH} {sz u fl pl : Nat} {p : Pg} {sc psc : Nat → Int32} {ar par_ : Nat → Nat → Int32}
set_option maxRecDepth 20000 in
set_option maxHeartbeats 1000000 in
theorem w_spread (hA : ∀ sc ar, bAt 3 (blkW 0 h fl sc ar) pl psc par_) (hp : CP p psc par_) (hx : WX p) : Mt g 2 m_Flow_spread [.ref fl, .ref pl] (blkW 0 h fl sc ar) sz u (Pn (blkW 0 h fl (fS sc (itF (sweep p (sc 6)) 33 (sc 0, sc 1))) ar)) sz u := by
  have hq := hp.1
  obtain ⟨hT, hB, hS, hC⟩ := hq.1.1
  rw [show blkW 0 h fl sc ar = blkW 0 h fl (fS sc (sc 0, sc 1)) ar by rw [fS_id]]
  refine Mt.of m_Flow_spread_w m_Flow_spread_x m_Flow_spread_c rfl rfl (ls := [.ref fl, .ref pl, .retAddr 0, .retAddr 0, .retAddr 0, .retAddr 0]) rfl ?_
  refine V_iconst (v := 0) rfl (by decide) ?_
  refine V_is2 rfl (by first | rfl | assumption) ?_
  have key : ∀ (k : Nat), k ≤ 33 → ∀ x : Int32 × Int32, V g 2 m_Flow_spread (Pn (blkW 0 h fl (fS sc (itF (sweep p (sc 6)) k x)) ar)) sz u 2 [.ref fl, .ref pl, .int (nI (33 - k)), .retAddr 0, .retAddr 0, .retAddr 0] [] (blkW 0 h fl (fS sc x) ar) sz u := by
    intro k
    induction k with
    | zero =>
      intro hk x
      refine V_iload_n rfl rfl ?_
      refine V_bipush (v := 32) rfl (by decide) ?_
      refine V_icmp_gtT rfl (by decide) ?_
      refine V_return rfl rfl ?_
      exact ⟨rfl, rfl⟩
    | succ k ihk =>
      intro hk x
      refine V_iload_n rfl rfl ?_
      refine V_bipush (v := 32) rfl (by decide) ?_
      refine V_icmp_gtF rfl (nI_nlt (a := 32) (show 33 - (k + 1) ≤ 32 by omega) (by decide)) ?_
      refine V_aload_n rfl rfl ?_
      refine V_getI rfl rfl (by first | assumption | exact blkW_0 | exact bAt_0 (by assumption) | exact bAt_0 (hA _ _) | rfl) (by rfl) (by first | exact fS_0 | rfl) ?_
      refine V_is3 rfl (by first | rfl | assumption) ?_
      refine V_aload_n rfl rfl ?_
      refine V_getI rfl rfl (by first | assumption | exact blkW_0 | exact bAt_0 (by assumption) | exact bAt_0 (hA _ _) | rfl) (by rfl) (by first | exact fS_1 | rfl) ?_
      refine V_is4 rfl (by first | rfl | assumption) ?_
      refine V_iconst (v := 0) rfl (by decide) ?_
      refine V_is5 rfl (by first | rfl | assumption) ?_
      refine V_for2 (nS p) (fun i => [.ref fl, .ref pl, .int (nI (33 - (k + 1))), .int x.1, .int x.2, .int (nI i)]) (fun i => blkW 0 h fl (fS sc (swp p (sc 6) x i)) ar) rfl rfl (fun i hi ih => ?_) ?_
      · have hw := hq.1.2.2.2.1 i hi
        have hl := swp_s p (sc 6) x i
        refine V_iload rfl rfl ?_
        refine V_aload_n rfl rfl ?_
        refine V_getI rfl rfl (by first | assumption | exact blkW_0 | exact bAt_0 (by assumption) | exact bAt_0 (hA _ _) | rfl) (by rfl) (by first | exact cq_nS (by assumption) | rfl) ?_
        refine V_icmp_geF rfl (nI_ge hi (by omega)) ?_
        refine V_aload_n rfl rfl ?_
        refine V_getI rfl rfl (by first | assumption | exact blkW_0 | exact bAt_0 (by assumption) | exact bAt_0 (hA _ _) | rfl) (by rfl) (by first | exact fS_0 | rfl) ?_
        refine V_aload_n rfl rfl ?_
        refine V_getfield rfl rfl (by first | assumption | exact blkW_0 | exact bAt_0 (by assumption) | exact bAt_0 (hA _ _) | rfl) (by rfl) ?_
        refine V_iload rfl rfl ?_
        refine V_callSi rfl rfl (Or.inr rfl) m_EB_at_w m_EB_at_x rfl rfl (s_atv (by first | assumption | exact blkW_i rfl rfl | exact bAt_i (by assumption) rfl rfl | exact bAt_i (hA _ _) rfl rfl) (by decide) _ (by first | exact (atV_in (by first | omega | assumption) (by decide)).trans (cq_par (by assumption) (by first | omega | assumption)) | exact (atV_in (by first | omega | assumption) (by decide)).trans (cq_abv (by assumption) (by first | omega | assumption)) | exact (atV_in (by first | omega | assumption) (by decide)).trans (cq_bel (by assumption) (by first | omega | assumption)) | exact (atV_in (by first | omega | assumption) (by decide)).trans (cq_dep (by assumption) (by first | omega | assumption)) | exact (atV_in (by first | omega | assumption) (by decide)).trans (cq_bT (by assumption) (by first | omega | assumption)) | exact (atV_in (by first | omega | assumption) (by decide)).trans (cq_bM (by assumption) (by first | omega | assumption)) | exact (atV_in (by first | omega | assumption) (by decide)).trans (cq_sK (by assumption) (by first | omega | assumption)) | exact (atV_in (by first | omega | assumption) (by decide)).trans (cq_sB (by assumption) (by first | omega | assumption)) | exact (atV_in (by first | omega | assumption) (by decide)).trans (cq_sT (by assumption) (by first | omega | assumption)) | exact (atV_in (by first | omega | assumption) (by decide)).trans (cq_sM (by assumption) (by first | omega | assumption)) | exact (atV_in (by first | omega | assumption) (by decide)).trans (cq_cS (by assumption) (by first | omega | assumption)) | exact atV_in (by first | omega | assumption) (by decide) | exact atV_m1 | rfl)) (by decide) rfl (Nat.le_of_ble_eq_true rfl) ?_
        refine V_callSi rfl rfl (Or.inr rfl) m_EB_has_w m_EB_has_x rfl rfl (s_hasv _ _ (by first | exact hasV_b (by first | omega | assumption) _ | exact hasV_m1 _ | rfl)) (by decide) rfl (Nat.le_of_ble_eq_true rfl) ?_
        cases hb : bt (swp p (sc 6) x i).1 (sB p i)
        · rw [hb, if_neg (by decide)] at hl
          rw [hl] at ih
          refine V_if_eqT rfl (rfl) ?_
          refine V_inc5 rfl (by first | exact mInc _ | rfl) (by first | rfl | assumption) ?_
          refine V_goto rfl ?_
          exact ih
        · rw [hb, if_pos rfl] at hl
          rw [hl] at ih
          refine V_if_eqF rfl (by decide) ?_
          refine V_aload_n rfl rfl ?_
          refine V_dup rfl rfl ?_
          refine V_getI rfl rfl (by first | assumption | exact blkW_0 | exact bAt_0 (by assumption) | exact bAt_0 (hA _ _) | rfl) (by rfl) (by first | exact fS_1 | rfl) ?_
          refine V_aload_n rfl rfl ?_
          refine V_iload rfl rfl ?_
          refine V_callVi rfl rfl m_Plan_madeBy_w m_Plan_madeBy_x rfl (by decide) rfl (s_mdB (by first | assumption | exact hA _ _) (by assumption) (by first | omega | assumption)) (by decide) rfl (by first | assumption | exact blkW_0 | exact bAt_0 (by assumption) | exact bAt_0 (hA _ _) | rfl) (Nat.le_of_ble_eq_true rfl) ?_
          refine V_aload_n rfl rfl ?_
          refine V_getI rfl rfl (by first | assumption | exact blkW_0 | exact bAt_0 (by assumption) | exact bAt_0 (hA _ _) | rfl) (by rfl) (by first | exact fS_o rfl | rfl) ?_
          refine V_iand rfl ?_
          rw [mk_and (by omega)]
          refine V_ior rfl ?_
          first | refine V_pput rfl rfl rfl rfl rfl ?_ | refine V_bput rfl rfl rfl rfl rfl rfl ?_ | refine V_bputZ rfl rfl rfl rfl rfl rfl (by decide) ?_ | refine V_put rfl rfl (by first | assumption | rfl) (by decide) (fun _ hty => by cases hty; exact ⟨rfl, rfl⟩) (by first | exact Or.inl rfl | exact Or.inr ⟨rfl, rfl⟩) rfl ?_
          rw [fS_u1]
          refine V_aload_n rfl rfl ?_
          refine V_dup rfl rfl ?_
          refine V_getI rfl rfl (by first | assumption | exact blkW_0 | exact bAt_0 (by assumption) | exact bAt_0 (hA _ _) | rfl) (by rfl) (by first | exact fS_0 | rfl) ?_
          refine V_aload_n rfl rfl ?_
          refine V_iload rfl rfl ?_
          refine V_aload_n rfl rfl ?_
          refine V_getI rfl rfl (by first | assumption | exact blkW_0 | exact bAt_0 (by assumption) | exact bAt_0 (hA _ _) | rfl) (by rfl) (by first | exact fS_1 | rfl) ?_
          refine V_callVi rfl rfl m_Plan_calledBy_w m_Plan_calledBy_x rfl (by decide) rfl (s_ccB (by first | assumption | exact hA _ _) (by assumption) (by assumption) (by first | omega | assumption) _) (by decide) rfl (by first | assumption | exact blkW_0 | exact bAt_0 (by assumption) | exact bAt_0 (hA _ _) | rfl) (Nat.le_of_ble_eq_true rfl) ?_
          refine V_ior rfl ?_
          first | refine V_pput rfl rfl rfl rfl rfl ?_ | refine V_bput rfl rfl rfl rfl rfl rfl ?_ | refine V_bputZ rfl rfl rfl rfl rfl rfl (by decide) ?_ | refine V_put rfl rfl (by first | assumption | rfl) (by decide) (fun _ hty => by cases hty; exact ⟨rfl, rfl⟩) (by first | exact Or.inl rfl | exact Or.inr ⟨rfl, rfl⟩) rfl ?_
          rw [fS_u0]
          refine V_inc5 rfl (by first | exact mInc _ | rfl) (by first | rfl | assumption) ?_
          refine V_goto rfl ?_
          exact ih
      · refine V_iload rfl rfl ?_
        refine V_aload_n rfl rfl ?_
        refine V_getI rfl rfl (by first | assumption | exact blkW_0 | exact bAt_0 (by assumption) | exact bAt_0 (hA _ _) | rfl) (by rfl) (by first | exact cq_nS (by assumption) | rfl) ?_
        refine V_icmp_geT rfl (nI_le (Nat.le_refl _) (by omega)) ?_
        have ih2 := ihk (by omega) (sweep p (sc 6) x)
        show V g _ m_Flow_spread _ _ _ 95 _ _ (blkW 0 h fl (fS sc (sweep p (sc 6) x)) ar) sz u
        by_cases e1 : (sweep p (sc 6) x).1 = x.1
        · refine V_aload_n rfl rfl ?_
          refine V_getI rfl rfl (by first | assumption | exact blkW_0 | exact bAt_0 (by assumption) | exact bAt_0 (hA _ _) | rfl) (by rfl) (by first | exact fS_0 | rfl) ?_
          refine V_iload_n rfl rfl ?_
          refine V_icmp_neF rfl (e1) ?_
          refine V_aload_n rfl rfl ?_
          refine V_getI rfl rfl (by first | assumption | exact blkW_0 | exact bAt_0 (by assumption) | exact bAt_0 (hA _ _) | rfl) (by rfl) (by first | exact fS_1 | rfl) ?_
          refine V_iload rfl rfl ?_
          by_cases e2 : (sweep p (sc 6) x).2 = x.2
          · have e3 : sweep p (sc 6) x = x := Prod.ext e1 e2
            refine V_icmp_neF rfl (e2) ?_
            refine V_return rfl rfl ?_
            refine ⟨rfl, ?_⟩
            rw [show itF (sweep p (sc 6)) (k + 1) x = x from itF_stay e3 _, e3]
          · refine V_icmp_neT rfl (e2) ?_
            refine V_inc2 rfl (by first | exact mInc _ | rfl) (by first | rfl | assumption) ?_
            rw [show 33 - (k + 1) + 1 = 33 - k by omega]
            refine V_goto rfl ?_
            exact V_wk ih2 (by simp [mWk])
        · refine V_aload_n rfl rfl ?_
          refine V_getI rfl rfl (by first | assumption | exact blkW_0 | exact bAt_0 (by assumption) | exact bAt_0 (hA _ _) | rfl) (by rfl) (by first | exact fS_0 | rfl) ?_
          refine V_iload_n rfl rfl ?_
          refine V_icmp_neT rfl (e1) ?_
          refine V_inc2 rfl (by first | exact mInc _ | rfl) (by first | rfl | assumption) ?_
          rw [show 33 - (k + 1) + 1 = 33 - k by omega]
          refine V_goto rfl ?_
          exact V_wk ih2 (by simp [mWk])
  exact key 33 (by omega) _
set_option maxRecDepth 20000 in
set_option maxHeartbeats 1000000 in
theorem w_link (hA : ∀ sc ar, bAt 3 (blkW 0 h fl sc ar) pl psc par_) (hp : CP p psc par_) (hx : WX p) : Mt g 2 m_Flow_link [.ref fl, .ref pl] (blkW 0 h fl sc ar) sz u (Pn (blkW 0 h fl sc (va_up ar 2 (lkF p (sc 0) (sc 1) (ar 2) (nS p))))) sz u := by
  have hq := hp.1
  obtain ⟨hT, hB, hS, hC⟩ := hq.1.1
  refine Mt.of m_Flow_link_w m_Flow_link_x m_Flow_link_c rfl rfl (ls := [.ref fl, .ref pl, .retAddr 0, .retAddr 0]) rfl ?_
  refine V_aload_n rfl rfl ?_
  refine V_getfield rfl rfl (by first | assumption | exact blkW_0 | exact bAt_0 (by assumption) | exact bAt_0 (hA _ _) | rfl) (by rfl) ?_
  refine V_iconst (v := 0) rfl (by decide) ?_
  refine V_callSn rfl rfl (Or.inl rfl) m_Arr_fill_w m_Arr_fill_x rfl rfl (s_fill (blkW_i rfl rfl) (by decide) _) (by decide) rfl (Nat.le_of_ble_eq_true rfl) ?_
  rw [blkU_f rfl rfl, show fa_fill (fun _ => (0 : Int32)) (ar 2) 20 = lkF p (sc 0) (sc 1) (ar 2) 0 by funext b; unfold fa_fill lkF; rw [orF_0, ite_self]]
  refine V_iconst (v := 0) rfl (by decide) ?_
  refine V_is2 rfl (by first | rfl | assumption) ?_
  refine V_for2 (nS p) (fun i => [.ref fl, .ref pl, .int (nI i), .retAddr 0]) (fun i => blkW 0 h fl sc (va_up ar 2 (lkF p (sc 0) (sc 1) (ar 2) i))) rfl rfl (fun i hi ih => ?_) ?_
  · have hw := hq.1.2.2.2.1 i hi
    have hl := lkF_s (p := p) (R := sc 0) (M := sc 1) (r := ar 2) (i := i) (by omega)
    refine V_iload_n rfl rfl ?_
    refine V_aload_n rfl rfl ?_
    refine V_getI rfl rfl (by first | assumption | exact blkW_0 | exact bAt_0 (by assumption) | exact bAt_0 (hA _ _) | rfl) (by rfl) (by first | exact cq_nS (by assumption) | rfl) ?_
    refine V_icmp_geF rfl (nI_ge hi (by omega)) ?_
    refine V_aload_n rfl rfl ?_
    refine V_getfield rfl rfl (by first | assumption | exact blkW_0 | exact bAt_0 (by assumption) | exact bAt_0 (hA _ _) | rfl) (by rfl) ?_
    refine V_iload_n rfl rfl ?_
    refine V_callSi rfl rfl (Or.inr rfl) m_EB_at_w m_EB_at_x rfl rfl (s_atv (by first | assumption | exact blkW_i rfl rfl | exact bAt_i (by assumption) rfl rfl | exact bAt_i (hA _ _) rfl rfl) (by decide) _ (by first | exact (atV_in (by first | omega | assumption) (by decide)).trans (cq_par (by assumption) (by first | omega | assumption)) | exact (atV_in (by first | omega | assumption) (by decide)).trans (cq_abv (by assumption) (by first | omega | assumption)) | exact (atV_in (by first | omega | assumption) (by decide)).trans (cq_bel (by assumption) (by first | omega | assumption)) | exact (atV_in (by first | omega | assumption) (by decide)).trans (cq_dep (by assumption) (by first | omega | assumption)) | exact (atV_in (by first | omega | assumption) (by decide)).trans (cq_bT (by assumption) (by first | omega | assumption)) | exact (atV_in (by first | omega | assumption) (by decide)).trans (cq_bM (by assumption) (by first | omega | assumption)) | exact (atV_in (by first | omega | assumption) (by decide)).trans (cq_sK (by assumption) (by first | omega | assumption)) | exact (atV_in (by first | omega | assumption) (by decide)).trans (cq_sB (by assumption) (by first | omega | assumption)) | exact (atV_in (by first | omega | assumption) (by decide)).trans (cq_sT (by assumption) (by first | omega | assumption)) | exact (atV_in (by first | omega | assumption) (by decide)).trans (cq_sM (by assumption) (by first | omega | assumption)) | exact (atV_in (by first | omega | assumption) (by decide)).trans (cq_cS (by assumption) (by first | omega | assumption)) | exact atV_in (by first | omega | assumption) (by decide) | exact atV_m1 | rfl)) (by decide) rfl (Nat.le_of_ble_eq_true rfl) ?_
    refine V_is3 rfl (by first | rfl | assumption) ?_
    refine V_aload_n rfl rfl ?_
    refine V_getI rfl rfl (by first | assumption | exact blkW_0 | exact bAt_0 (by assumption) | exact bAt_0 (hA _ _) | rfl) (by rfl) (by first | exact fS_0 | rfl) ?_
    refine V_iload_n rfl rfl ?_
    refine V_callSi rfl rfl (Or.inr rfl) m_EB_has_w m_EB_has_x rfl rfl (s_hasv _ _ (by first | exact hasV_b (by first | omega | assumption) _ | exact hasV_m1 _ | rfl)) (by decide) rfl (Nat.le_of_ble_eq_true rfl) ?_
    cases hb : bt (sc 0) (sB p i)
    · rw [hb, if_neg (by decide)] at hl
      rw [hl] at ih
      refine V_if_eqT rfl (rfl) ?_
      refine V_inc2 rfl (by first | exact mInc _ | rfl) (by first | rfl | assumption) ?_
      refine V_goto rfl ?_
      exact V_wk ih (by simp [mWk])
    · rw [hb, if_pos rfl] at hl
      refine V_if_eqF rfl (by decide) ?_
      refine V_iload_n rfl rfl ?_
      refine V_if_ltF rfl (nI_pos (by omega)) ?_
      refine V_iload_n rfl rfl ?_
      refine V_bipush (v := 20) rfl (by decide) ?_
      refine V_icmp_geF rfl (nI_ge (b := 20) (show sB p i < 20 by omega) (by decide)) ?_
      refine V_aload_n rfl rfl ?_
      refine V_getfield rfl rfl (by first | assumption | exact blkW_0 | exact bAt_0 (by assumption) | exact bAt_0 (hA _ _) | rfl) (by rfl) ?_
      refine V_iload_n rfl rfl ?_
      refine V_dup2 rfl rfl rfl ?_
      refine V_iald rfl (by first | assumption | exact blkW_i rfl rfl | exact blkW_z rfl rfl | exact bAt_i (by assumption) rfl rfl | exact bAt_z (by assumption) rfl rfl | exact bAt_i (hA _ _) rfl rfl | rfl) (by first | with_reducible rfl | exact nI_add 2 _ | exact nI_add 26 _ | exact ix45 _ _ | exact ixm45 _ | exact ix25 _ | exact fa_lit _ | assumption) (by first | omega | assumption | decide) (by first | decide | omega | assumption) (by first | exact (arS_g rfl).trans qF_g | exact (arS_g rfl).trans ((qF_o rfl).trans (rd_C (by assumption) (by first | omega | assumption))) | exact (arS_g rfl).trans ((qF_o rfl).trans (rd_P (by assumption) (by first | omega | assumption))) | exact (arS_g rfl).trans ((qF_o rfl).trans (rd_bT (by assumption) (by first | omega | assumption))) | exact (arS_g rfl).trans (rd_C (by assumption) (by first | omega | assumption)) | exact (arS_g rfl).trans (rd_P (by assumption) (by first | omega | assumption)) | exact (arS_g rfl).trans (rd_bT (by assumption) (by first | omega | assumption)) | exact (arS_g rfl).trans (rd_bM (by assumption) (by first | omega | assumption)) | exact arS_o rfl | exact arS_g rfl | exact mp_isC (by first | assumption | exact MP_rcS (by assumption) | exact MP_ar rfl (by assumption) | exact MP_sc rfl (by assumption)) (by first | omega | assumption) | exact mp_par (by first | assumption | exact MP_rcS (by assumption) | exact MP_ar rfl (by assumption) | exact MP_sc rfl (by assumption)) (by first | omega | assumption) | exact mp_abv (by first | assumption | exact MP_rcS (by assumption) | exact MP_ar rfl (by assumption) | exact MP_sc rfl (by assumption)) (by first | omega | assumption) | exact mp_dep (by first | assumption | exact MP_rcS (by assumption) | exact MP_ar rfl (by assumption) | exact MP_sc rfl (by assumption)) (by first | omega | assumption) | exact mp_bT (by first | assumption | exact MP_rcS (by assumption) | exact MP_ar rfl (by assumption) | exact MP_sc rfl (by assumption)) (by first | omega | assumption) | exact mp_bM (by first | assumption | exact MP_rcS (by assumption) | exact MP_ar rfl (by assumption) | exact MP_sc rfl (by assumption)) (by first | omega | assumption) | exact mp_sK (by first | assumption | exact MP_rcS (by assumption) | exact MP_ar rfl (by assumption) | exact MP_sc rfl (by assumption)) (by first | omega | assumption) | exact mp_sB (by first | assumption | exact MP_rcS (by assumption) | exact MP_ar rfl (by assumption) | exact MP_sc rfl (by assumption)) (by first | omega | assumption) | exact mp_sT (by first | assumption | exact MP_rcS (by assumption) | exact MP_ar rfl (by assumption) | exact MP_sc rfl (by assumption)) (by first | omega | assumption) | exact mp_sM (by first | assumption | exact MP_rcS (by assumption) | exact MP_ar rfl (by assumption) | exact MP_sc rfl (by assumption)) (by first | omega | assumption) | exact mp_cS (by first | assumption | exact MP_rcS (by assumption) | exact MP_ar rfl (by assumption) | exact MP_sc rfl (by assumption)) (by first | omega | assumption) | exact va_g | exact va_n (by decide) | rfl) ?_
      refine V_aload_n rfl rfl ?_
      refine V_iload_n rfl rfl ?_
      refine V_aload_n rfl rfl ?_
      refine V_getI rfl rfl (by first | assumption | exact blkW_0 | exact bAt_0 (by assumption) | exact bAt_0 (hA _ _) | rfl) (by rfl) (by first | exact fS_1 | rfl) ?_
      refine V_callVi rfl rfl m_Plan_calledBy_w m_Plan_calledBy_x rfl (by decide) rfl (s_ccB (by first | assumption | exact hA _ _) (by assumption) (by assumption) (by first | omega | assumption) _) (by decide) rfl (by first | assumption | exact blkW_0 | exact bAt_0 (by assumption) | exact bAt_0 (hA _ _) | rfl) (Nat.le_of_ble_eq_true rfl) ?_
      refine V_ior rfl ?_
      first | refine V_past rfl rfl rfl rfl (by first | with_reducible rfl | exact nI_add 2 _ | exact nI_add 26 _ | exact ix45 _ _ | exact ixm45 _ | exact ix25 _ | exact fa_lit _ | assumption) (by first | omega | assumption | decide) (by first | decide | omega | assumption) ?_ | refine V_bast rfl rfl rfl (by first | with_reducible rfl | exact nI_add 2 _ | exact nI_add 26 _ | exact ix45 _ _ | exact ixm45 _ | exact ix25 _ | exact fa_lit _ | assumption) (by first | omega | assumption | decide) (by first | decide | omega | assumption) ?_ | refine V_iastore rfl (by first | assumption | exact blkW_i rfl rfl | exact blkW_z rfl rfl | exact bAt_i (by assumption) rfl rfl | exact bAt_z (by assumption) rfl rfl | rfl) (by first | with_reducible rfl | exact nI_add 2 _ | exact nI_add 26 _ | exact ix45 _ _ | exact ixm45 _ | exact ix25 _ | exact fa_lit _ | assumption) (by first | omega | assumption | decide) (by first | decide | omega | assumption) ?_
      refine V_inc2 rfl (by first | exact mInc _ | rfl) (by first | rfl | assumption) ?_
      refine V_goto rfl ?_
      refine V_wkh ih (by simp [mWk]) ?_
      rw [va_w, hl]
  · refine V_iload_n rfl rfl ?_
    refine V_aload_n rfl rfl ?_
    refine V_getI rfl rfl (by first | assumption | exact blkW_0 | exact bAt_0 (by assumption) | exact bAt_0 (hA _ _) | rfl) (by rfl) (by first | exact cq_nS (by assumption) | rfl) ?_
    refine V_icmp_geT rfl (nI_le (Nat.le_refl _) (by omega)) ?_
    refine V_return rfl rfl ?_
    exact ⟨rfl, rfl⟩
set_option maxRecDepth 20000 in
set_option maxHeartbeats 1000000 in
theorem s_who (hA : bAt 0 h fl sc ar) (X : Int32) : Mt g 1 m_Flow_whoCalls [.ref fl, .int X] h sz u (Pi (setF 20 fun b => !decide (ar 2 b &&& X = 0)) h) sz u := by
  refine Mt.of m_Flow_whoCalls_w m_Flow_whoCalls_x m_Flow_whoCalls_c rfl rfl (ls := [.ref fl, .int X, .retAddr 0, .retAddr 0]) rfl ?_
  refine V_iconst (v := 0) rfl (by decide) ?_
  refine V_is2 rfl (by first | rfl | assumption) ?_
  refine V_iconst (v := 0) rfl (by decide) ?_
  refine V_is3 rfl (by first | rfl | assumption) ?_
  refine V_for2 20 (fun i => [.ref fl, .int X, .int (setF i fun b => !decide (ar 2 b &&& X = 0)), .int (nI i)]) (fun _ => h) rfl rfl (fun i hi ih => ?_) ?_
  · refine V_iload_n rfl rfl ?_
    refine V_bipush (v := 20) rfl (by decide) ?_
    refine V_icmp_geF rfl (nI_ge (b := 20) hi (by decide)) ?_
    refine V_aload_n rfl rfl ?_
    refine V_getfield rfl rfl (by first | assumption | exact blkW_0 | exact bAt_0 (by assumption) | exact bAt_0 (hA _ _) | rfl) (by rfl) ?_
    refine V_iload_n rfl rfl ?_
    refine V_iald rfl (by first | assumption | exact blkW_i rfl rfl | exact blkW_z rfl rfl | exact bAt_i (by assumption) rfl rfl | exact bAt_z (by assumption) rfl rfl | exact bAt_i (hA _ _) rfl rfl | rfl) (by first | with_reducible rfl | exact nI_add 2 _ | exact nI_add 26 _ | exact ix45 _ _ | exact ixm45 _ | exact ix25 _ | exact fa_lit _ | assumption) (by first | omega | assumption | decide) (by first | decide | omega | assumption) (by first | exact (arS_g rfl).trans qF_g | exact (arS_g rfl).trans ((qF_o rfl).trans (rd_C (by assumption) (by first | omega | assumption))) | exact (arS_g rfl).trans ((qF_o rfl).trans (rd_P (by assumption) (by first | omega | assumption))) | exact (arS_g rfl).trans ((qF_o rfl).trans (rd_bT (by assumption) (by first | omega | assumption))) | exact (arS_g rfl).trans (rd_C (by assumption) (by first | omega | assumption)) | exact (arS_g rfl).trans (rd_P (by assumption) (by first | omega | assumption)) | exact (arS_g rfl).trans (rd_bT (by assumption) (by first | omega | assumption)) | exact (arS_g rfl).trans (rd_bM (by assumption) (by first | omega | assumption)) | exact arS_o rfl | exact arS_g rfl | exact mp_isC (by first | assumption | exact MP_rcS (by assumption) | exact MP_ar rfl (by assumption) | exact MP_sc rfl (by assumption)) (by first | omega | assumption) | exact mp_par (by first | assumption | exact MP_rcS (by assumption) | exact MP_ar rfl (by assumption) | exact MP_sc rfl (by assumption)) (by first | omega | assumption) | exact mp_abv (by first | assumption | exact MP_rcS (by assumption) | exact MP_ar rfl (by assumption) | exact MP_sc rfl (by assumption)) (by first | omega | assumption) | exact mp_dep (by first | assumption | exact MP_rcS (by assumption) | exact MP_ar rfl (by assumption) | exact MP_sc rfl (by assumption)) (by first | omega | assumption) | exact mp_bT (by first | assumption | exact MP_rcS (by assumption) | exact MP_ar rfl (by assumption) | exact MP_sc rfl (by assumption)) (by first | omega | assumption) | exact mp_bM (by first | assumption | exact MP_rcS (by assumption) | exact MP_ar rfl (by assumption) | exact MP_sc rfl (by assumption)) (by first | omega | assumption) | exact mp_sK (by first | assumption | exact MP_rcS (by assumption) | exact MP_ar rfl (by assumption) | exact MP_sc rfl (by assumption)) (by first | omega | assumption) | exact mp_sB (by first | assumption | exact MP_rcS (by assumption) | exact MP_ar rfl (by assumption) | exact MP_sc rfl (by assumption)) (by first | omega | assumption) | exact mp_sT (by first | assumption | exact MP_rcS (by assumption) | exact MP_ar rfl (by assumption) | exact MP_sc rfl (by assumption)) (by first | omega | assumption) | exact mp_sM (by first | assumption | exact MP_rcS (by assumption) | exact MP_ar rfl (by assumption) | exact MP_sc rfl (by assumption)) (by first | omega | assumption) | exact mp_cS (by first | assumption | exact MP_rcS (by assumption) | exact MP_ar rfl (by assumption) | exact MP_sc rfl (by assumption)) (by first | omega | assumption) | exact va_g | exact va_n (by decide) | rfl) ?_
    refine V_iload_n rfl rfl ?_
    refine V_iand rfl ?_
    first | refine V_ifb_eq rfl (fun h18 => ?_) (fun h18 => ?_) | refine V_if_eq rfl (fun h18 => ?_) (fun h18 => ?_)
    · refine V_inc3 rfl (by first | exact mInc _ | rfl) (by first | rfl | assumption) ?_
      refine V_goto rfl ?_
      exact V_wk ih (by simp [mWk, setF_s, cnd, *])
    · refine V_iload_n rfl rfl ?_
      refine V_iload_n rfl rfl ?_
      refine V_callSi rfl rfl (Or.inr rfl) m_EB_bit_w m_EB_bit_x rfl rfl (s_bitv _ (by first | exact bitV_b (by first | omega | assumption) | exact bitV_m1 | rfl)) (by decide) rfl (Nat.le_of_ble_eq_true rfl) ?_
      refine V_ior rfl ?_
      refine V_is2 rfl (by first | rfl | assumption) ?_
      refine V_inc3 rfl (by first | exact mInc _ | rfl) (by first | rfl | assumption) ?_
      refine V_goto rfl ?_
      exact V_wk ih (by simp [mWk, setF_s, cnd, *])
  · refine V_iload_n rfl rfl ?_
    refine V_bipush (v := 20) rfl (by decide) ?_
    refine V_icmp_geT rfl (nI_le (a := 20) (Nat.le_refl _) (by decide)) ?_
    refine V_iload_n rfl rfl ?_
    refine V_ireturn rfl rfl (by first | rfl | exact b2_nar _ | assumption | decide) ?_
    exact P_ret rfl rfl
def cbS (r : Nat → Int32) (X : Int32) : Int32 := orA X 20 fun x => cnd (bt X x) (r x)
set_option maxRecDepth 20000 in
set_option maxHeartbeats 1000000 in
theorem s_cmB (hA : bAt 0 h fl sc ar) {b : Nat} (hb : b < 20) : Mt g 1 m_Flow_comesBack [.ref fl, .int (nI b)] h sz u (Pi (b2 (bt (itF (cbS (ar 2)) 20 (ar 2 b)) b)) h) sz u := by
  refine Mt.of m_Flow_comesBack_w m_Flow_comesBack_x m_Flow_comesBack_c rfl rfl (ls := [.ref fl, .int (nI b), .retAddr 0, .retAddr 0, .retAddr 0, .retAddr 0]) rfl ?_
  refine V_aload_n rfl rfl ?_
  refine V_getfield rfl rfl (by first | assumption | exact blkW_0 | exact bAt_0 (by assumption) | exact bAt_0 (hA _ _) | rfl) (by rfl) ?_
  refine V_iload_n rfl rfl ?_
  refine V_callSi rfl rfl (Or.inr rfl) m_EB_at_w m_EB_at_x rfl rfl (s_atv (by first | assumption | exact blkW_i rfl rfl | exact bAt_i (by assumption) rfl rfl | exact bAt_i (hA _ _) rfl rfl) (by decide) _ (by first | exact (atV_in (by first | omega | assumption) (by decide)).trans (cq_par (by assumption) (by first | omega | assumption)) | exact (atV_in (by first | omega | assumption) (by decide)).trans (cq_abv (by assumption) (by first | omega | assumption)) | exact (atV_in (by first | omega | assumption) (by decide)).trans (cq_bel (by assumption) (by first | omega | assumption)) | exact (atV_in (by first | omega | assumption) (by decide)).trans (cq_dep (by assumption) (by first | omega | assumption)) | exact (atV_in (by first | omega | assumption) (by decide)).trans (cq_bT (by assumption) (by first | omega | assumption)) | exact (atV_in (by first | omega | assumption) (by decide)).trans (cq_bM (by assumption) (by first | omega | assumption)) | exact (atV_in (by first | omega | assumption) (by decide)).trans (cq_sK (by assumption) (by first | omega | assumption)) | exact (atV_in (by first | omega | assumption) (by decide)).trans (cq_sB (by assumption) (by first | omega | assumption)) | exact (atV_in (by first | omega | assumption) (by decide)).trans (cq_sT (by assumption) (by first | omega | assumption)) | exact (atV_in (by first | omega | assumption) (by decide)).trans (cq_sM (by assumption) (by first | omega | assumption)) | exact (atV_in (by first | omega | assumption) (by decide)).trans (cq_cS (by assumption) (by first | omega | assumption)) | exact atV_in (by first | omega | assumption) (by decide) | exact atV_m1 | rfl)) (by decide) rfl (Nat.le_of_ble_eq_true rfl) ?_
  refine V_is2 rfl (by first | rfl | assumption) ?_
  refine V_iconst (v := 0) rfl (by decide) ?_
  refine V_is3 rfl (by first | rfl | assumption) ?_
  have key : ∀ (k : Nat), k ≤ 20 → ∀ X : Int32, V g 1 m_Flow_comesBack (Pi (b2 (bt (itF (cbS (ar 2)) k X) b)) h) sz u 11 [.ref fl, .int (nI b), .int X, .int (nI (20 - k)), .retAddr 0, .retAddr 0] [] h sz u := by
    intro k
    induction k with
    | zero =>
      intro hk X
      refine V_iload_n rfl rfl ?_
      refine V_bipush (v := 20) rfl (by decide) ?_
      refine V_icmp_geT rfl (by decide) ?_
      refine V_iload_n rfl rfl ?_
      refine V_iload_n rfl rfl ?_
      refine V_callSi rfl rfl (Or.inr rfl) m_EB_has_w m_EB_has_x rfl rfl (s_hasv _ _ (by first | exact hasV_b (by first | omega | assumption) _ | exact hasV_m1 _ | rfl)) (by decide) rfl (Nat.le_of_ble_eq_true rfl) ?_
      refine V_ireturn rfl rfl (by first | rfl | exact b2_nar _ | assumption | decide) ?_
      exact P_ret rfl rfl
    | succ k ihk =>
      intro hk X
      refine V_iload_n rfl rfl ?_
      refine V_bipush (v := 20) rfl (by decide) ?_
      refine V_icmp_geF rfl (nI_ge (b := 20) (show 20 - (k + 1) < 20 by omega) (by decide)) ?_
      refine V_iload_n rfl rfl ?_
      refine V_is4 rfl (by first | rfl | assumption) ?_
      refine V_iconst (v := 0) rfl (by decide) ?_
      refine V_is5 rfl (by first | rfl | assumption) ?_
      refine V_for2 20 (fun i => [.ref fl, .int (nI b), .int X, .int (nI (20 - (k + 1))), .int (orA X i fun x => cnd (bt X x) (ar 2 x)), .int (nI i)]) (fun _ => h) rfl rfl (fun i hi ih => ?_) ?_
      · refine V_iload rfl rfl ?_
        refine V_bipush (v := 20) rfl (by decide) ?_
        refine V_icmp_geF rfl (nI_ge (b := 20) hi (by decide)) ?_
        refine V_iload_n rfl rfl ?_
        refine V_iload rfl rfl ?_
        refine V_callSi rfl rfl (Or.inr rfl) m_EB_has_w m_EB_has_x rfl rfl (s_hasv _ _ (by first | exact hasV_b (by first | omega | assumption) _ | exact hasV_m1 _ | rfl)) (by decide) rfl (Nat.le_of_ble_eq_true rfl) ?_
        first | refine V_ifb_eq rfl (fun h36 => ?_) (fun h36 => ?_) | refine V_if_eq rfl (fun h36 => ?_) (fun h36 => ?_)
        · refine V_inc5 rfl (by first | exact mInc _ | rfl) (by first | rfl | assumption) ?_
          refine V_goto rfl ?_
          exact V_wk ih (by simp [mWk, orA_s, cnd, *])
        · refine V_iload rfl rfl ?_
          refine V_aload_n rfl rfl ?_
          refine V_getfield rfl rfl (by first | assumption | exact blkW_0 | exact bAt_0 (by assumption) | exact bAt_0 (hA _ _) | rfl) (by rfl) ?_
          refine V_iload rfl rfl ?_
          refine V_iald rfl (by first | assumption | exact blkW_i rfl rfl | exact blkW_z rfl rfl | exact bAt_i (by assumption) rfl rfl | exact bAt_z (by assumption) rfl rfl | exact bAt_i (hA _ _) rfl rfl | rfl) (by first | with_reducible rfl | exact nI_add 2 _ | exact nI_add 26 _ | exact ix45 _ _ | exact ixm45 _ | exact ix25 _ | exact fa_lit _ | assumption) (by first | omega | assumption | decide) (by first | decide | omega | assumption) (by first | exact (arS_g rfl).trans qF_g | exact (arS_g rfl).trans ((qF_o rfl).trans (rd_C (by assumption) (by first | omega | assumption))) | exact (arS_g rfl).trans ((qF_o rfl).trans (rd_P (by assumption) (by first | omega | assumption))) | exact (arS_g rfl).trans ((qF_o rfl).trans (rd_bT (by assumption) (by first | omega | assumption))) | exact (arS_g rfl).trans (rd_C (by assumption) (by first | omega | assumption)) | exact (arS_g rfl).trans (rd_P (by assumption) (by first | omega | assumption)) | exact (arS_g rfl).trans (rd_bT (by assumption) (by first | omega | assumption)) | exact (arS_g rfl).trans (rd_bM (by assumption) (by first | omega | assumption)) | exact arS_o rfl | exact arS_g rfl | exact mp_isC (by first | assumption | exact MP_rcS (by assumption) | exact MP_ar rfl (by assumption) | exact MP_sc rfl (by assumption)) (by first | omega | assumption) | exact mp_par (by first | assumption | exact MP_rcS (by assumption) | exact MP_ar rfl (by assumption) | exact MP_sc rfl (by assumption)) (by first | omega | assumption) | exact mp_abv (by first | assumption | exact MP_rcS (by assumption) | exact MP_ar rfl (by assumption) | exact MP_sc rfl (by assumption)) (by first | omega | assumption) | exact mp_dep (by first | assumption | exact MP_rcS (by assumption) | exact MP_ar rfl (by assumption) | exact MP_sc rfl (by assumption)) (by first | omega | assumption) | exact mp_bT (by first | assumption | exact MP_rcS (by assumption) | exact MP_ar rfl (by assumption) | exact MP_sc rfl (by assumption)) (by first | omega | assumption) | exact mp_bM (by first | assumption | exact MP_rcS (by assumption) | exact MP_ar rfl (by assumption) | exact MP_sc rfl (by assumption)) (by first | omega | assumption) | exact mp_sK (by first | assumption | exact MP_rcS (by assumption) | exact MP_ar rfl (by assumption) | exact MP_sc rfl (by assumption)) (by first | omega | assumption) | exact mp_sB (by first | assumption | exact MP_rcS (by assumption) | exact MP_ar rfl (by assumption) | exact MP_sc rfl (by assumption)) (by first | omega | assumption) | exact mp_sT (by first | assumption | exact MP_rcS (by assumption) | exact MP_ar rfl (by assumption) | exact MP_sc rfl (by assumption)) (by first | omega | assumption) | exact mp_sM (by first | assumption | exact MP_rcS (by assumption) | exact MP_ar rfl (by assumption) | exact MP_sc rfl (by assumption)) (by first | omega | assumption) | exact mp_cS (by first | assumption | exact MP_rcS (by assumption) | exact MP_ar rfl (by assumption) | exact MP_sc rfl (by assumption)) (by first | omega | assumption) | exact va_g | exact va_n (by decide) | rfl) ?_
          refine V_ior rfl ?_
          refine V_is4 rfl (by first | rfl | assumption) ?_
          refine V_inc5 rfl (by first | exact mInc _ | rfl) (by first | rfl | assumption) ?_
          refine V_goto rfl ?_
          exact V_wk ih (by simp [mWk, orA_s, cnd, *])
      · refine V_iload rfl rfl ?_
        refine V_bipush (v := 20) rfl (by decide) ?_
        refine V_icmp_geT rfl (nI_le (a := 20) (Nat.le_refl _) (by decide)) ?_
        show V g _ m_Flow_comesBack _ _ _ 57 [.ref fl, .int (nI b), .int X, .int (nI (20 - (k + 1))), .int (cbS (ar 2) X), .int (nI 20)] [] h sz u
        refine V_iload rfl rfl ?_
        refine V_iload_n rfl rfl ?_
        by_cases e : cbS (ar 2) X = X
        · refine V_icmp_neF rfl (e) ?_
          rw [show itF (cbS (ar 2)) (k + 1) X = X from itF_stay e _]
          refine V_goto rfl ?_
          refine V_iload_n rfl rfl ?_
          refine V_iload_n rfl rfl ?_
          refine V_callSi rfl rfl (Or.inr rfl) m_EB_has_w m_EB_has_x rfl rfl (s_hasv _ _ (by first | exact hasV_b (by first | omega | assumption) _ | exact hasV_m1 _ | rfl)) (by decide) rfl (Nat.le_of_ble_eq_true rfl) ?_
          refine V_ireturn rfl rfl (by first | rfl | exact b2_nar _ | assumption | decide) ?_
          exact P_ret rfl rfl
        · refine V_icmp_neT rfl (e) ?_
          refine V_iload rfl rfl ?_
          refine V_is2 rfl (by first | rfl | assumption) ?_
          refine V_inc3 rfl (by first | exact mInc _ | rfl) (by first | rfl | assumption) ?_
          rw [show 20 - (k + 1) + 1 = 20 - k by omega]
          refine V_goto rfl ?_
          exact V_wk (ihk (by omega) (cbS (ar 2) X)) (by simp [mWk])
  exact key 20 (by omega) _
end flow
