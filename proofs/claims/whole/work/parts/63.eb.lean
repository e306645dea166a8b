/-! ===== EarlyBinder: what its calls are made of ===== -/
abbrev ebO (pl sp : Nat) (fp : Int32) : mC := cO 6 [.ref 2, .ref 4, .ref 10, .ref 23, .ref 24, .ref 74, .ref 77, .ref pl, .ref sp, .int fp]
/-- each call is bound to a body or to none -/
def BN (n : Nat) (N : Nat → Int32) : Prop := ∀ c, c < n → N (2 + c) = -1 ∨ ∃ b, b < 20 ∧ N (2 + c) = nI b
theorem BN_lt {n : Nat} {N : Nat → Int32} (h : BN n N) {c : Nat} (hc : c < n) : N (2 + c) < 0 ↔ N (2 + c) = -1 := by
  rcases h c hc with e | ⟨b, hb, e⟩
  · rw [e]; exact ⟨fun _ => rfl, fun _ => by decide⟩
  · rw [e]; exact ⟨fun z => absurd z (nI_pos (by omega)), fun z => absurd z (nI_m1 (by omega))⟩
theorem wG_is {n : Nat} {N : Nat → Int32} (h : BN n N) {c : Nat} (hc : c < n) {m : Int32} : wG m (N (2 + c)) = (!decide (N (2 + c) = -1) && !decide (m = bitV (N (2 + c)))) := by
  unfold wG
  rcases h c hc with e | ⟨b, hb, e⟩
  · rw [e]
    rfl
  · rw [e, bitV_b (by omega), decide_eq_false (nI_pos (by omega)), decide_eq_false (nI_m1 (by omega))]
    rfl
section eb
variable {g : mG} {h : mH} {sz u pl sp : Nat} {fp : Int32} {p : Pg} {psc ss N : Nat → Int32} {par_ sa : Nat → Nat → Int32}
set_option maxRecDepth 20000 in
set_option maxHeartbeats 1000000 in
theorem s_eT (h1 : h 1 = ebO pl sp fp) (hP : bAt 3 h pl psc par_) (hq : CQ p psc par_) (x : Int32) : Mt g 0 m_EB_isType [.ref 1, .int x] h sz u (Pi (b2 (inN x (nT p))) h) sz u := by
  obtain ⟨hT, hB, hS, hC⟩ := hq.1.1
  refine Mt.of m_EB_isType_w m_EB_isType_x m_EB_isType_c rfl rfl (ls := [.ref 1, .int x]) rfl ?_
  refine V_iload_n rfl rfl ?_
  refine V_if_lt rfl (fun c1 => ?_) (fun c1 => ?_)
  · refine V_iconst (v := 0) rfl (by decide) ?_
    refine V_ireturn rfl rfl (by first | rfl | exact b2_nar _ | assumption | decide) ?_
    exact P_ret (by rw [inN_no1 c1]; rfl) rfl
  · refine V_iload_n rfl rfl ?_
    refine V_aload_n rfl rfl ?_
    refine V_getfield rfl rfl (by first | assumption | exact blkW_0 | exact bAt_0 (by assumption) | exact bAt_0 (hA _ _) | rfl) (by rfl) ?_
    refine V_getI rfl rfl (by first | assumption | exact blkW_0 | exact bAt_0 (by assumption) | exact bAt_0 (hA _ _) | rfl) (by rfl) (by first | exact cq_nT (by assumption) | rfl) ?_
    refine V_icmp_ge rfl (fun c2 => ?_) (fun c2 => ?_)
    · refine V_iconst (v := 0) rfl (by decide) ?_
      refine V_ireturn rfl rfl (by first | rfl | exact b2_nar _ | assumption | decide) ?_
      exact P_ret (by rw [inN_no2 c2]; rfl) rfl
    · refine V_iconst (v := 1) rfl (by decide) ?_
      refine V_goto rfl ?_
      refine V_ireturn rfl rfl (by first | rfl | exact b2_nar _ | assumption | decide) ?_
      exact P_ret (by rw [inN_yes c1 c2]; rfl) rfl
set_option maxRecDepth 20000 in
set_option maxHeartbeats 1000000 in
theorem s_eB (h1 : h 1 = ebO pl sp fp) (hP : bAt 3 h pl psc par_) (hq : CQ p psc par_) (x : Int32) : Mt g 0 m_EB_isBody [.ref 1, .int x] h sz u (Pi (b2 (inN x (nB p))) h) sz u := by
  obtain ⟨hT, hB, hS, hC⟩ := hq.1.1
  refine Mt.of m_EB_isBody_w m_EB_isBody_x m_EB_isBody_c rfl rfl (ls := [.ref 1, .int x]) rfl ?_
  refine V_iload_n rfl rfl ?_
  refine V_if_lt rfl (fun c1 => ?_) (fun c1 => ?_)
  · refine V_iconst (v := 0) rfl (by decide) ?_
    refine V_ireturn rfl rfl (by first | rfl | exact b2_nar _ | assumption | decide) ?_
    exact P_ret (by rw [inN_no1 c1]; rfl) rfl
  · refine V_iload_n rfl rfl ?_
    refine V_aload_n rfl rfl ?_
    refine V_getfield rfl rfl (by first | assumption | exact blkW_0 | exact bAt_0 (by assumption) | exact bAt_0 (hA _ _) | rfl) (by rfl) ?_
    refine V_getI rfl rfl (by first | assumption | exact blkW_0 | exact bAt_0 (by assumption) | exact bAt_0 (hA _ _) | rfl) (by rfl) (by first | exact cq_nB (by assumption) | rfl) ?_
    refine V_icmp_ge rfl (fun c2 => ?_) (fun c2 => ?_)
    · refine V_iconst (v := 0) rfl (by decide) ?_
      refine V_ireturn rfl rfl (by first | rfl | exact b2_nar _ | assumption | decide) ?_
      exact P_ret (by rw [inN_no2 c2]; rfl) rfl
    · refine V_iconst (v := 1) rfl (by decide) ?_
      refine V_goto rfl ?_
      refine V_ireturn rfl rfl (by first | rfl | exact b2_nar _ | assumption | decide) ?_
      exact P_ret (by rw [inN_yes c1 c2]; rfl) rfl
set_option maxRecDepth 20000 in
set_option maxHeartbeats 1000000 in
theorem s_eC (h1 : h 1 = ebO pl sp fp) (hP : bAt 3 h pl psc par_) (hq : CQ p psc par_) (x : Int32) : Mt g 0 m_EB_isCall [.ref 1, .int x] h sz u (Pi (b2 (inN x (nC p))) h) sz u := by
  obtain ⟨hT, hB, hS, hC⟩ := hq.1.1
  refine Mt.of m_EB_isCall_w m_EB_isCall_x m_EB_isCall_c rfl rfl (ls := [.ref 1, .int x]) rfl ?_
  refine V_iload_n rfl rfl ?_
  refine V_if_lt rfl (fun c1 => ?_) (fun c1 => ?_)
  · refine V_iconst (v := 0) rfl (by decide) ?_
    refine V_ireturn rfl rfl (by first | rfl | exact b2_nar _ | assumption | decide) ?_
    exact P_ret (by rw [inN_no1 c1]; rfl) rfl
  · refine V_iload_n rfl rfl ?_
    refine V_aload_n rfl rfl ?_
    refine V_getfield rfl rfl (by first | assumption | exact blkW_0 | exact bAt_0 (by assumption) | exact bAt_0 (hA _ _) | rfl) (by rfl) ?_
    refine V_getI rfl rfl (by first | assumption | exact blkW_0 | exact bAt_0 (by assumption) | exact bAt_0 (hA _ _) | rfl) (by rfl) (by first | exact cq_nC (by assumption) | rfl) ?_
    refine V_icmp_ge rfl (fun c2 => ?_) (fun c2 => ?_)
    · refine V_iconst (v := 0) rfl (by decide) ?_
      refine V_ireturn rfl rfl (by first | rfl | exact b2_nar _ | assumption | decide) ?_
      exact P_ret (by rw [inN_no2 c2]; rfl) rfl
    · refine V_iconst (v := 1) rfl (by decide) ?_
      refine V_goto rfl ?_
      refine V_ireturn rfl rfl (by first | rfl | exact b2_nar _ | assumption | decide) ?_
      exact P_ret (by rw [inN_yes c1 c2]; rfl) rfl
set_option maxRecDepth 20000 in
set_option maxHeartbeats 1000000 in
theorem s_isIm (x : Int32) : Mt g 0 m_EB_isImage [.int x] h sz u (Pi (b2 (inN x 2)) h) sz u := by
  refine Mt.of m_EB_isImage_w m_EB_isImage_x m_EB_isImage_c rfl rfl (ls := [.int x]) rfl ?_
  refine V_iload_n rfl rfl ?_
  refine V_if_lt rfl (fun c1 => ?_) (fun c1 => ?_)
  · refine V_iconst (v := 0) rfl (by decide) ?_
    refine V_ireturn rfl rfl (by first | rfl | exact b2_nar _ | assumption | decide) ?_
    exact P_ret (by rw [inN_no1 c1]; rfl) rfl
  · refine V_iload_n rfl rfl ?_
    refine V_iconst (v := 2) rfl (by decide) ?_
    refine V_icmp_ge rfl (fun c2 => ?_) (fun c2 => ?_)
    · refine V_iconst (v := 0) rfl (by decide) ?_
      refine V_ireturn rfl rfl (by first | rfl | exact b2_nar _ | assumption | decide) ?_
      exact P_ret (by rw [inN_no2 (n := 2) c2]; rfl) rfl
    · refine V_iconst (v := 1) rfl (by decide) ?_
      refine V_goto rfl ?_
      refine V_ireturn rfl rfl (by first | rfl | exact b2_nar _ | assumption | decide) ?_
      exact P_ret (by rw [inN_yes (n := 2) c1 c2]; rfl) rfl
set_option maxRecDepth 20000 in
set_option maxHeartbeats 1000000 in
theorem s_brkn (h1 : h 1 = ebO pl sp fp) (hP : bAt 3 h pl psc par_) (hp : CP p psc par_) (hx : WX p) (hN : bAt 5 h 4 ss sa) (hb : ∀ c, c < nC p → sa 5 c = N (2 + c)) (hBN : BN (nC p) N) {c : Nat} (hc : c < nC p) (L : Int32) : Mt g 3 m_EB_isBroken [.ref 1, .int (nI c), .int L] h sz u (Pi (b2 (wG (may p c L) (N (2 + c)))) h) sz u := by
  obtain ⟨hT, hB, hS, hC⟩ := hp.1.1.1
  rw [wG_is hBN hc]
  refine Mt.of m_EB_isBroken_w m_EB_isBroken_x m_EB_isBroken_c rfl rfl (ls := [.ref 1, .int (nI c), .int L, .retAddr 0]) rfl ?_
  refine V_aload_n rfl rfl ?_
  refine V_getfield rfl rfl (by first | assumption | exact blkW_0 | exact bAt_0 (by assumption) | exact bAt_0 (hA _ _) | rfl) (by rfl) ?_
  refine V_iload_n rfl rfl ?_
  refine V_callVi rfl rfl m_Scen_boundBody_w m_Scen_boundBody_x rfl (by decide) rfl (s_bdB (by assumption) (by first | omega | assumption)) (by decide) rfl (by first | assumption | exact blkW_0 | exact bAt_0 (by assumption) | exact bAt_0 (hA _ _) | rfl) (Nat.le_of_ble_eq_true rfl) ?_
  rw [hb c hc]
  refine V_is3 rfl (by first | rfl | assumption) ?_
  refine V_iload_n rfl rfl ?_
  refine V_iconst (v := (-1)) rfl (by decide) ?_
  by_cases e : N (2 + c) = -1
  · rw [decide_eq_true e]
    refine V_icmp_eqT rfl (e) ?_
    refine V_iconst (v := 0) rfl (by decide) ?_
    refine V_ireturn rfl rfl (by first | rfl | exact b2_nar _ | assumption | decide) ?_
    exact P_ret rfl rfl
  · rw [decide_eq_false e]
    refine V_icmp_eqF rfl (e) ?_
    refine V_aload_n rfl rfl ?_
    refine V_getfield rfl rfl (by first | assumption | exact blkW_0 | exact bAt_0 (by assumption) | exact bAt_0 (hA _ _) | rfl) (by rfl) ?_
    refine V_iload_n rfl rfl ?_
    refine V_iload_n rfl rfl ?_
    refine V_callVi rfl rfl m_Plan_mayOf_w m_Plan_mayOf_x rfl (by decide) rfl (s_cmay (by first | assumption | exact hA _ _) (by assumption) (by assumption) (by first | omega | assumption) _) (by decide) rfl (by first | assumption | exact blkW_0 | exact bAt_0 (by assumption) | exact bAt_0 (hA _ _) | rfl) (Nat.le_of_ble_eq_true rfl) ?_
    refine V_iload_n rfl rfl ?_
    refine V_callSi rfl rfl (Or.inl rfl) m_EB_bit_w m_EB_bit_x rfl rfl (s_bit _) (by decide) rfl (Nat.le_of_ble_eq_true rfl) ?_
    by_cases e2 : may p c L = bitV (N (2 + c))
    · rw [decide_eq_true e2]
      refine V_icmp_eqT rfl (e2) ?_
      refine V_iconst (v := 0) rfl (by decide) ?_
      refine V_ireturn rfl rfl (by first | rfl | exact b2_nar _ | assumption | decide) ?_
      exact P_ret rfl rfl
    · rw [decide_eq_false e2]
      refine V_icmp_eqF rfl (e2) ?_
      refine V_iconst (v := 1) rfl (by decide) ?_
      refine V_goto rfl ?_
      refine V_ireturn rfl rfl (by first | rfl | exact b2_nar _ | assumption | decide) ?_
      exact P_ret rfl rfl
set_option maxRecDepth 20000 in
set_option maxHeartbeats 1000000 in
theorem s_chb (h1 : h 1 = ebO pl sp fp) (hP : bAt 3 h pl psc par_) (hp : CP p psc par_) (hx : WX p) (hN : bAt 5 h 4 ss sa) (hb : ∀ c, c < nC p → sa 5 c = N (2 + c)) (hBN : BN (nC p) N) (hL : ss 0 = N 0) {t : Nat} (ht : t < nT p) : Mt g 4 m_EB_callsHurtBy [.ref 1, .int (nI t)] h sz u (Pi (setF (nC p) fun c => wG (may p c (N 0 ||| abv p t)) (N (2 + c))) h) sz u := by
  have hq := hp.1
  obtain ⟨hT, hB, hS, hC⟩ := hp.1.1.1
  refine Mt.of m_EB_callsHurtBy_w m_EB_callsHurtBy_x m_EB_callsHurtBy_c rfl rfl (ls := [.ref 1, .int (nI t), .retAddr 0, .retAddr 0, .retAddr 0]) rfl ?_
  refine V_aload_n rfl rfl ?_
  refine V_getfield rfl rfl (by first | assumption | exact blkW_0 | exact bAt_0 (by assumption) | exact bAt_0 (hA _ _) | rfl) (by rfl) ?_
  refine V_getI rfl rfl (by first | assumption | exact blkW_0 | exact bAt_0 (by assumption) | exact bAt_0 (hA _ _) | rfl) (by rfl) (by first | exact (by assumption) | rfl) ?_
  refine V_aload_n rfl rfl ?_
  refine V_getfield rfl rfl (by first | assumption | exact blkW_0 | exact bAt_0 (by assumption) | exact bAt_0 (hA _ _) | rfl) (by rfl) ?_
  refine V_getfield rfl rfl (by first | assumption | exact blkW_0 | exact bAt_0 (by assumption) | exact bAt_0 (hA _ _) | rfl) (by rfl) ?_
  refine V_iload_n rfl rfl ?_
  refine V_callSi rfl rfl (Or.inl rfl) m_EB_at_w m_EB_at_x rfl rfl (s_atv (by first | assumption | exact blkW_i rfl rfl | exact bAt_i (by assumption) rfl rfl | exact bAt_i (hA _ _) rfl rfl) (by decide) _ (by first | exact (atV_in (by first | omega | assumption) (by decide)).trans (cq_par (by assumption) (by first | omega | assumption)) | exact (atV_in (by first | omega | assumption) (by decide)).trans (cq_abv (by assumption) (by first | omega | assumption)) | exact (atV_in (by first | omega | assumption) (by decide)).trans (cq_bel (by assumption) (by first | omega | assumption)) | exact (atV_in (by first | omega | assumption) (by decide)).trans (cq_dep (by assumption) (by first | omega | assumption)) | exact (atV_in (by first | omega | assumption) (by decide)).trans (cq_bT (by assumption) (by first | omega | assumption)) | exact (atV_in (by first | omega | assumption) (by decide)).trans (cq_bM (by assumption) (by first | omega | assumption)) | exact (atV_in (by first | omega | assumption) (by decide)).trans (cq_sK (by assumption) (by first | omega | assumption)) | exact (atV_in (by first | omega | assumption) (by decide)).trans (cq_sB (by assumption) (by first | omega | assumption)) | exact (atV_in (by first | omega | assumption) (by decide)).trans (cq_sT (by assumption) (by first | omega | assumption)) | exact (atV_in (by first | omega | assumption) (by decide)).trans (cq_sM (by assumption) (by first | omega | assumption)) | exact (atV_in (by first | omega | assumption) (by decide)).trans (cq_cS (by assumption) (by first | omega | assumption)) | exact atV_in (by first | omega | assumption) (by decide) | exact atV_m1 | rfl)) (by decide) rfl (Nat.le_of_ble_eq_true rfl) ?_
  refine V_ior rfl ?_
  refine V_is2 rfl (by first | rfl | assumption) ?_
  refine V_iconst (v := 0) rfl (by decide) ?_
  refine V_is3 rfl (by first | rfl | assumption) ?_
  refine V_iconst (v := 0) rfl (by decide) ?_
  refine V_is4 rfl (by first | rfl | assumption) ?_
  refine V_for2 (nC p) (fun i => [.ref 1, .int (nI t), .int (N 0 ||| abv p t), .int (setF i fun c => wG (may p c (N 0 ||| abv p t)) (N (2 + c))), .int (nI i)]) (fun _ => h) rfl rfl (fun i hi ih => ?_) ?_
  · refine V_iload rfl rfl ?_
    refine V_aload_n rfl rfl ?_
    refine V_getfield rfl rfl (by first | assumption | exact blkW_0 | exact bAt_0 (by assumption) | exact bAt_0 (hA _ _) | rfl) (by rfl) ?_
    refine V_getI rfl rfl (by first | assumption | exact blkW_0 | exact bAt_0 (by assumption) | exact bAt_0 (hA _ _) | rfl) (by rfl) (by first | exact cq_nC (by assumption) | rfl) ?_
    refine V_icmp_geF rfl (nI_ge hi (by omega)) ?_
    refine V_aload_n rfl rfl ?_
    refine V_iload rfl rfl ?_
    refine V_iload_n rfl rfl ?_
    refine V_callVi rfl rfl m_EB_isBroken_w m_EB_isBroken_x rfl (by decide) rfl (s_brkn (by assumption) (by assumption) (by assumption) (by assumption) (by assumption) (by assumption) (by assumption) (by first | omega | assumption) _) (by decide) rfl (by first | assumption | exact blkW_0 | exact bAt_0 (by assumption) | exact bAt_0 (hA _ _) | rfl) (Nat.le_of_ble_eq_true rfl) ?_
    first | refine V_ifb_eq rfl (fun h44 => ?_) (fun h44 => ?_) | refine V_if_eq rfl (fun h44 => ?_) (fun h44 => ?_)
    · refine V_inc4 rfl (by first | exact mInc _ | rfl) (by first | rfl | assumption) ?_
      refine V_goto rfl ?_
      exact V_wk ih (by simp [mWk, setF_s, cnd, *])
    · refine V_iload_n rfl rfl ?_
      refine V_iload rfl rfl ?_
      refine V_callSi rfl rfl (Or.inl rfl) m_EB_bit_w m_EB_bit_x rfl rfl (s_bitv _ (by first | exact bitV_b (by first | omega | assumption) | exact bitV_m1 | rfl)) (by decide) rfl (Nat.le_of_ble_eq_true rfl) ?_
      refine V_ior rfl ?_
      refine V_is3 rfl (by first | rfl | assumption) ?_
      refine V_inc4 rfl (by first | exact mInc _ | rfl) (by first | rfl | assumption) ?_
      refine V_goto rfl ?_
      exact V_wk ih (by simp [mWk, setF_s, cnd, *])
  · refine V_iload rfl rfl ?_
    refine V_aload_n rfl rfl ?_
    refine V_getfield rfl rfl (by first | assumption | exact blkW_0 | exact bAt_0 (by assumption) | exact bAt_0 (hA _ _) | rfl) (by rfl) ?_
    refine V_getI rfl rfl (by first | assumption | exact blkW_0 | exact bAt_0 (by assumption) | exact bAt_0 (hA _ _) | rfl) (by rfl) (by first | exact cq_nC (by assumption) | rfl) ?_
    refine V_icmp_geT rfl (nI_le (Nat.le_refl _) (by omega)) ?_
    refine V_iload_n rfl rfl ?_
    refine V_ireturn rfl rfl (by first | rfl | exact b2_nar _ | assumption | decide) ?_
    exact P_ret rfl rfl
set_option maxRecDepth 20000 in
set_option maxHeartbeats 1000000 in
theorem s_ttb (h1 : h 1 = ebO pl sp fp) (hP : bAt 3 h pl psc par_) (hp : CP p psc par_) (hx : WX p) (hN : bAt 5 h 4 ss sa) (hb : ∀ c, c < nC p → sa 5 c = N (2 + c)) (hBN : BN (nC p) N) (hL : ss 0 = N 0) {c : Nat} (hc : c < nC p) : Mt g 4 m_EB_typesThatBreak [.ref 1, .int (nI c)] h sz u (Pi (brk p N c) h) sz u := by
  have hq := hp.1
  obtain ⟨hT, hB, hS, hC⟩ := hp.1.1.1
  refine Mt.of m_EB_typesThatBreak_w m_EB_typesThatBreak_x m_EB_typesThatBreak_c rfl rfl (ls := [.ref 1, .int (nI c), .retAddr 0, .retAddr 0]) rfl ?_
  refine V_iconst (v := 0) rfl (by decide) ?_
  refine V_is2 rfl (by first | rfl | assumption) ?_
  refine V_iconst (v := 0) rfl (by decide) ?_
  refine V_is3 rfl (by first | rfl | assumption) ?_
  refine V_for2 (nT p) (fun i => [.ref 1, .int (nI c), .int (setF i fun t => !bt (N 0) t && wG (may p c (N 0 ||| abv p t)) (N (2 + c))), .int (nI i)]) (fun _ => h) rfl rfl (fun i hi ih => ?_) ?_
  · refine V_iload_n rfl rfl ?_
    refine V_aload_n rfl rfl ?_
    refine V_getfield rfl rfl (by first | assumption | exact blkW_0 | exact bAt_0 (by assumption) | exact bAt_0 (hA _ _) | rfl) (by rfl) ?_
    refine V_getI rfl rfl (by first | assumption | exact blkW_0 | exact bAt_0 (by assumption) | exact bAt_0 (hA _ _) | rfl) (by rfl) (by first | exact cq_nT (by assumption) | rfl) ?_
    refine V_icmp_geF rfl (nI_ge hi (by omega)) ?_
    refine V_aload_n rfl rfl ?_
    refine V_getfield rfl rfl (by first | assumption | exact blkW_0 | exact bAt_0 (by assumption) | exact bAt_0 (hA _ _) | rfl) (by rfl) ?_
    refine V_getI rfl rfl (by first | assumption | exact blkW_0 | exact bAt_0 (by assumption) | exact bAt_0 (hA _ _) | rfl) (by rfl) (by first | exact (by assumption) | rfl) ?_
    refine V_iload_n rfl rfl ?_
    refine V_callSi rfl rfl (Or.inl rfl) m_EB_has_w m_EB_has_x rfl rfl (s_hasv _ _ (by first | exact hasV_b (by first | omega | assumption) _ | exact hasV_m1 _ | rfl)) (by decide) rfl (Nat.le_of_ble_eq_true rfl) ?_
    first | refine V_ifb_ne rfl (fun h26 => ?_) (fun h26 => ?_) | refine V_if_ne rfl (fun h26 => ?_) (fun h26 => ?_)
    · refine V_inc3 rfl (by first | exact mInc _ | rfl) (by first | rfl | assumption) ?_
      refine V_goto rfl ?_
      exact V_wk ih (by simp [mWk, setF_s, cnd, *])
    · refine V_aload_n rfl rfl ?_
      refine V_iload_n rfl rfl ?_
      refine V_aload_n rfl rfl ?_
      refine V_getfield rfl rfl (by first | assumption | exact blkW_0 | exact bAt_0 (by assumption) | exact bAt_0 (hA _ _) | rfl) (by rfl) ?_
      refine V_getI rfl rfl (by first | assumption | exact blkW_0 | exact bAt_0 (by assumption) | exact bAt_0 (hA _ _) | rfl) (by rfl) (by first | exact (by assumption) | rfl) ?_
      refine V_aload_n rfl rfl ?_
      refine V_getfield rfl rfl (by first | assumption | exact blkW_0 | exact bAt_0 (by assumption) | exact bAt_0 (hA _ _) | rfl) (by rfl) ?_
      refine V_getfield rfl rfl (by first | assumption | exact blkW_0 | exact bAt_0 (by assumption) | exact bAt_0 (hA _ _) | rfl) (by rfl) ?_
      refine V_iload_n rfl rfl ?_
      refine V_callSi rfl rfl (Or.inl rfl) m_EB_at_w m_EB_at_x rfl rfl (s_atv (by first | assumption | exact blkW_i rfl rfl | exact bAt_i (by assumption) rfl rfl | exact bAt_i (hA _ _) rfl rfl) (by decide) _ (by first | exact (atV_in (by first | omega | assumption) (by decide)).trans (cq_par (by assumption) (by first | omega | assumption)) | exact (atV_in (by first | omega | assumption) (by decide)).trans (cq_abv (by assumption) (by first | omega | assumption)) | exact (atV_in (by first | omega | assumption) (by decide)).trans (cq_bel (by assumption) (by first | omega | assumption)) | exact (atV_in (by first | omega | assumption) (by decide)).trans (cq_dep (by assumption) (by first | omega | assumption)) | exact (atV_in (by first | omega | assumption) (by decide)).trans (cq_bT (by assumption) (by first | omega | assumption)) | exact (atV_in (by first | omega | assumption) (by decide)).trans (cq_bM (by assumption) (by first | omega | assumption)) | exact (atV_in (by first | omega | assumption) (by decide)).trans (cq_sK (by assumption) (by first | omega | assumption)) | exact (atV_in (by first | omega | assumption) (by decide)).trans (cq_sB (by assumption) (by first | omega | assumption)) | exact (atV_in (by first | omega | assumption) (by decide)).trans (cq_sT (by assumption) (by first | omega | assumption)) | exact (atV_in (by first | omega | assumption) (by decide)).trans (cq_sM (by assumption) (by first | omega | assumption)) | exact (atV_in (by first | omega | assumption) (by decide)).trans (cq_cS (by assumption) (by first | omega | assumption)) | exact atV_in (by first | omega | assumption) (by decide) | exact atV_m1 | rfl)) (by decide) rfl (Nat.le_of_ble_eq_true rfl) ?_
      refine V_ior rfl ?_
      refine V_callVi rfl rfl m_EB_isBroken_w m_EB_isBroken_x rfl (by decide) rfl (s_brkn (by assumption) (by assumption) (by assumption) (by assumption) (by assumption) (by assumption) (by assumption) (by first | omega | assumption) _) (by decide) rfl (by first | assumption | exact blkW_0 | exact bAt_0 (by assumption) | exact bAt_0 (hA _ _) | rfl) (Nat.le_of_ble_eq_true rfl) ?_
      first | refine V_ifb_eq rfl (fun h53 => ?_) (fun h53 => ?_) | refine V_if_eq rfl (fun h53 => ?_) (fun h53 => ?_)
      · refine V_inc3 rfl (by first | exact mInc _ | rfl) (by first | rfl | assumption) ?_
        refine V_goto rfl ?_
        exact V_wk ih (by simp [mWk, setF_s, cnd, *])
      · refine V_iload_n rfl rfl ?_
        refine V_iload_n rfl rfl ?_
        refine V_callSi rfl rfl (Or.inl rfl) m_EB_bit_w m_EB_bit_x rfl rfl (s_bitv _ (by first | exact bitV_b (by first | omega | assumption) | exact bitV_m1 | rfl)) (by decide) rfl (Nat.le_of_ble_eq_true rfl) ?_
        refine V_ior rfl ?_
        refine V_is2 rfl (by first | rfl | assumption) ?_
        refine V_inc3 rfl (by first | exact mInc _ | rfl) (by first | rfl | assumption) ?_
        refine V_goto rfl ?_
        exact V_wk ih (by simp [mWk, setF_s, cnd, *])
  · refine V_iload_n rfl rfl ?_
    refine V_aload_n rfl rfl ?_
    refine V_getfield rfl rfl (by first | assumption | exact blkW_0 | exact bAt_0 (by assumption) | exact bAt_0 (hA _ _) | rfl) (by rfl) ?_
    refine V_getI rfl rfl (by first | assumption | exact blkW_0 | exact bAt_0 (by assumption) | exact bAt_0 (hA _ _) | rfl) (by rfl) (by first | exact cq_nT (by assumption) | rfl) ?_
    refine V_icmp_geT rfl (nI_le (Nat.le_refl _) (by omega)) ?_
    refine V_iload_n rfl rfl ?_
    refine V_ireturn rfl rfl (by first | rfl | exact b2_nar _ | assumption | decide) ?_
    exact P_ret rfl rfl
set_option maxRecDepth 20000 in
set_option maxHeartbeats 1000000 in
theorem s_btb (h1 : h 1 = ebO pl sp fp) (hP : bAt 3 h pl psc par_) (hp : CP p psc par_) (hx : WX p) (hN : bAt 5 h 4 ss sa) (hb : ∀ c, c < nC p → sa 5 c = N (2 + c)) (hBN : BN (nC p) N) (hL : ss 0 = N 0) {c : Nat} (hc : c < nC p) : Mt g 3 m_EB_bodyToBind [.ref 1, .int (nI c)] h sz u (Pi (if canB p N c then nI (low (may p c (N 0))) else -1) h) sz u := by
  have hq := hp.1
  obtain ⟨hT, hB, hS, hC⟩ := hp.1.1.1
  have hlt := BN_lt hBN hc
  have hcb : canB p N c = (decide (N (2 + c) < 0) && oneB (may p c (N 0))) := rfl
  rw [hcb]
  refine Mt.of m_EB_bodyToBind_w m_EB_bodyToBind_x m_EB_bodyToBind_c rfl rfl (ls := [.ref 1, .int (nI c), .retAddr 0]) rfl ?_
  refine V_aload_n rfl rfl ?_
  refine V_getfield rfl rfl (by first | assumption | exact blkW_0 | exact bAt_0 (by assumption) | exact bAt_0 (hA _ _) | rfl) (by rfl) ?_
  refine V_iload_n rfl rfl ?_
  refine V_aload_n rfl rfl ?_
  refine V_getfield rfl rfl (by first | assumption | exact blkW_0 | exact bAt_0 (by assumption) | exact bAt_0 (hA _ _) | rfl) (by rfl) ?_
  refine V_getI rfl rfl (by first | assumption | exact blkW_0 | exact bAt_0 (by assumption) | exact bAt_0 (hA _ _) | rfl) (by rfl) (by first | exact (by assumption) | rfl) ?_
  refine V_callVi rfl rfl m_Plan_mayOf_w m_Plan_mayOf_x rfl (by decide) rfl (s_cmay (by first | assumption | exact hA _ _) (by assumption) (by assumption) (by first | omega | assumption) _) (by decide) rfl (by first | assumption | exact blkW_0 | exact bAt_0 (by assumption) | exact bAt_0 (hA _ _) | rfl) (Nat.le_of_ble_eq_true rfl) ?_
  refine V_is2 rfl (by first | rfl | assumption) ?_
  refine V_aload_n rfl rfl ?_
  refine V_getfield rfl rfl (by first | assumption | exact blkW_0 | exact bAt_0 (by assumption) | exact bAt_0 (hA _ _) | rfl) (by rfl) ?_
  refine V_iload_n rfl rfl ?_
  refine V_callVi rfl rfl m_Scen_boundBody_w m_Scen_boundBody_x rfl (by decide) rfl (s_bdB (by assumption) (by first | omega | assumption)) (by decide) rfl (by first | assumption | exact blkW_0 | exact bAt_0 (by assumption) | exact bAt_0 (hA _ _) | rfl) (Nat.le_of_ble_eq_true rfl) ?_
  rw [hb c hc]
  refine V_iconst (v := (-1)) rfl (by decide) ?_
  by_cases e : N (2 + c) = -1
  · rw [decide_eq_true (hlt.mpr e)]
    refine V_icmp_neF rfl (e) ?_
    refine V_iload_n rfl rfl ?_
    refine V_callSi rfl rfl (Or.inl rfl) m_Int_bitCount_w m_Int_bitCount_x rfl rfl (s_bc _) (by decide) rfl (Nat.le_of_ble_eq_true rfl) ?_
    refine V_iconst (v := 1) rfl (by decide) ?_
    by_cases ho : oneB (may p c (N 0)) = true
    · rw [ho, Bool.true_and, if_pos rfl]
      refine V_icmp_neF rfl ((pcV_1 _).mpr ho) ?_
      refine V_iload_n rfl rfl ?_
      refine V_callSi rfl rfl (Or.inl rfl) m_EB_least_w m_EB_least_x rfl rfl (s_least _) (by decide) rfl (Nat.le_of_ble_eq_true rfl) ?_
      refine V_goto rfl ?_
      refine V_ireturn rfl rfl (by first | rfl | exact b2_nar _ | assumption | decide) ?_
      exact P_ret (leastV_1 ho) rfl
    · rw [show oneB (may p c (N 0)) = false by cases hz : oneB (may p c (N 0)); rfl; exact absurd hz ho]
      refine V_icmp_neT rfl (fun z => ho ((pcV_1 _).mp z)) ?_
      refine V_iconst (v := (-1)) rfl (by decide) ?_
      refine V_ireturn rfl rfl (by first | rfl | exact b2_nar _ | assumption | decide) ?_
      exact P_ret rfl rfl
  · rw [decide_eq_false (fun z => e (hlt.mp z))]
    refine V_icmp_neT rfl (e) ?_
    refine V_iconst (v := (-1)) rfl (by decide) ?_
    refine V_ireturn rfl rfl (by first | rfl | exact b2_nar _ | assumption | decide) ?_
    exact P_ret rfl rfl
set_option maxRecDepth 20000 in
set_option maxHeartbeats 1000000 in
theorem s_pick {lot m : Nat} (hl : lot < 2 ^ 31) (hm : m < 2 ^ 31) : Mt g 0 m_EB_pick [.int (nI lot), .int (nI m)] h sz u (Pi (if 0 < m then nI (lot / 4 % m) else -1) h) sz u := by
  refine Mt.of m_EB_pick_w m_EB_pick_x m_EB_pick_c rfl rfl (ls := [.int (nI lot), .int (nI m)]) rfl ?_
  refine V_iload_n rfl rfl ?_
  by_cases e : 0 < m
  · rw [if_pos e]
    refine V_if_leF rfl (nI_nle e hm) ?_
    refine V_iload_n rfl rfl ?_
    refine V_iconst (v := 4) rfl (by decide) ?_
    refine V_idiv rfl (by decide) ?_
    rw [show nI lot / 4 = nI (lot / 4) from pk_div (d := 4) hl (by decide) (by decide)]
    refine V_iload_n rfl rfl ?_
    first | refine V_remN rfl (by omega) (by omega) (by omega) ?_ | refine V_irem rfl (by first | decide | exact nI_ne0 (by omega) (by omega)) ?_
    refine V_goto rfl ?_
    refine V_ireturn rfl rfl (by first | rfl | exact b2_nar _ | assumption | decide) ?_
    exact P_ret rfl rfl
  · have : m = 0 := by omega
    subst this
    refine V_if_leT rfl (by decide) ?_
    refine V_iconst (v := (-1)) rfl (by decide) ?_
    refine V_ireturn rfl rfl (by first | rfl | exact b2_nar _ | assumption | decide) ?_
    exact P_ret rfl rfl
end eb
