section mread3
variable {g : mG} {h : mH} {sz u md : Nat} {p : Pg} {sc : Nat → Int32} {ar : Nat → Nat → Int32}
theorem bitB_nn {b : Int32} (h : 0 ≤ b) : bitB b = (1 : Int32) <<< (b &&& 31) := by unfold bitB; rw [if_neg (fa_of_nlt2 h)]
theorem bitB_n {b : Int32} (h : ¬ 0 ≤ b) : bitB b = 0 := by unfold bitB; rw [if_pos (fa_of_nle h)]
theorem bitB_m1 : bitB (-1) = 0 := by decide
theorem orF_s2 {n : Nat} {f : Nat → Int32} {v : Int32} (h : f n = v) : orF (n + 1) f = orF n f ||| v := by rw [orF_s, h]
set_option maxRecDepth 20000 in
set_option maxHeartbeats 1000000 in
theorem s_mlb (hA : bAt 7 h md sc ar) (hm : MP p sc ar)  : Mt g 1 m_MD_loadedBodies [.ref md] h sz u (Pi (setF (nB p) fun b => bt (ar 15 0) (bT p b)) h) sz u := by
  obtain ⟨hT, hB, hS, hC⟩ := hm.1.1
  refine Mt.of m_MD_loadedBodies_w m_MD_loadedBodies_x m_MD_loadedBodies_c rfl rfl (ls := [.ref md, .retAddr 0, .retAddr 0]) rfl ?_
  refine V_iconst (v := 0) rfl (by decide) ?_
  refine V_is1 rfl (by first | rfl | assumption) ?_
  refine V_iconst (v := 0) rfl (by decide) ?_
  refine V_is2 rfl (by first | rfl | assumption) ?_
  refine V_for2 (nB p) (fun i => [.ref md, .int (setF i fun b => bt (ar 15 0) (bT p b)), .int (nI i)]) (fun _ => h) rfl rfl (fun i hi ih => ?_) ?_
  · refine V_iload_n rfl rfl ?_
    refine V_aload_n rfl rfl ?_
    refine V_getI rfl rfl (by first | assumption | exact blkW_0 | exact bAt_0 (by assumption) | rfl) (by rfl) (by first | exact mp_nB (by assumption) | rfl) ?_
    refine V_icmp_geF rfl (nI_ge hi (by omega)) ?_
    have hw := hm.1.2.2.1 i hi
    refine V_iload_n rfl rfl ?_
    refine V_aload_n rfl rfl ?_
    refine V_getfield rfl rfl (by first | assumption | exact blkW_0 | exact bAt_0 (by assumption) | rfl) (by rfl) ?_
    refine V_iconst (v := 0) rfl (by decide) ?_
    refine V_iald rfl (by first | assumption | exact blkW_i rfl rfl | exact blkW_z rfl rfl | exact bAt_i (by assumption) rfl rfl | exact bAt_z (by assumption) rfl rfl | rfl) (by first | with_reducible rfl | exact nI_add 2 _ | exact nI_add 26 _ | exact fa_lit _ | assumption) (by first | omega | assumption | decide) (by first | decide | omega | assumption) (by first | exact mp_isC (by assumption) (by first | omega | assumption) | exact mp_par (by assumption) (by first | omega | assumption) | exact mp_abv (by assumption) (by first | omega | assumption) | exact mp_dep (by assumption) (by first | omega | assumption) | exact mp_bT (by assumption) (by first | omega | assumption) | exact mp_bM (by assumption) (by first | omega | assumption) | exact mp_sK (by assumption) (by first | omega | assumption) | exact mp_sB (by assumption) (by first | omega | assumption) | exact mp_sT (by assumption) (by first | omega | assumption) | exact mp_sM (by assumption) (by first | omega | assumption) | exact mp_cS (by assumption) (by first | omega | assumption) | rfl) ?_
    refine V_aload_n rfl rfl ?_
    refine V_getfield rfl rfl (by first | assumption | exact blkW_0 | exact bAt_0 (by assumption) | rfl) (by rfl) ?_
    refine V_iload_n rfl rfl ?_
    refine V_iald rfl (by first | assumption | exact blkW_i rfl rfl | exact blkW_z rfl rfl | exact bAt_i (by assumption) rfl rfl | exact bAt_z (by assumption) rfl rfl | rfl) (by first | with_reducible rfl | exact nI_add 2 _ | exact nI_add 26 _ | exact fa_lit _ | assumption) (by first | omega | assumption | decide) (by first | decide | omega | assumption) (by first | exact mp_isC (by assumption) (by first | omega | assumption) | exact mp_par (by assumption) (by first | omega | assumption) | exact mp_abv (by assumption) (by first | omega | assumption) | exact mp_dep (by assumption) (by first | omega | assumption) | exact mp_bT (by assumption) (by first | omega | assumption) | exact mp_bM (by assumption) (by first | omega | assumption) | exact mp_sK (by assumption) (by first | omega | assumption) | exact mp_sB (by assumption) (by first | omega | assumption) | exact mp_sT (by assumption) (by first | omega | assumption) | exact mp_sM (by assumption) (by first | omega | assumption) | exact mp_cS (by assumption) (by first | omega | assumption) | rfl) ?_
    refine V_callSi rfl rfl (Or.inl rfl) m_MD_has_w m_MD_has_x rfl rfl (s_mhas _ (by first | omega | assumption)) (by decide) rfl (Nat.le_of_ble_eq_true rfl) ?_
    first | refine V_ifb_eq rfl (fun h28 => ?_) (fun h28 => ?_) | refine V_if_eq rfl (fun h28 => ?_) (fun h28 => ?_)
    · refine V_iconst (v := 0) rfl (by decide) ?_
      refine V_ior rfl ?_
      refine V_is1 rfl (by first | rfl | assumption) ?_
      refine V_inc2 rfl (by first | exact mInc _ | exact mDcr _ | rfl) (by first | rfl | assumption) ?_
      refine V_goto rfl ?_
      exact V_wk ih (by simp [mWk, setF_s, cnd, bI, *])
    · refine V_iconst (v := 1) rfl (by decide) ?_
      refine V_iload_n rfl rfl ?_
      refine V_ishl rfl ?_
      refine V_goto rfl ?_
      refine V_ior rfl ?_
      refine V_is1 rfl (by first | rfl | assumption) ?_
      refine V_inc2 rfl (by first | exact mInc _ | exact mDcr _ | rfl) (by first | rfl | assumption) ?_
      refine V_goto rfl ?_
      exact V_wk ih (by simp [mWk, setF_s, cnd, bI, *])
  · refine V_iload_n rfl rfl ?_
    refine V_aload_n rfl rfl ?_
    refine V_getI rfl rfl (by first | assumption | exact blkW_0 | exact bAt_0 (by assumption) | rfl) (by rfl) (by first | exact mp_nB (by assumption) | rfl) ?_
    refine V_icmp_geT rfl (nI_le (Nat.le_refl _) (by omega)) ?_
    refine V_iload_n rfl rfl ?_
    refine V_ireturn rfl rfl (by first | rfl | exact b2_nar _ | assumption | decide) ?_
    exact P_ret rfl rfl
set_option maxRecDepth 20000 in
set_option maxHeartbeats 1000000 in
theorem s_bo (hA : bAt 7 h md sc ar) (hm : MP p sc ar)  : Mt g 0 m_MD_boundOnes [.ref md] h sz u (Pi (setF (nC p) fun c => !decide (ar 15 (2 + c) < 0)) h) sz u := by
  obtain ⟨hT, hB, hS, hC⟩ := hm.1.1
  refine Mt.of m_MD_boundOnes_w m_MD_boundOnes_x m_MD_boundOnes_c rfl rfl (ls := [.ref md, .retAddr 0, .retAddr 0]) rfl ?_
  refine V_iconst (v := 0) rfl (by decide) ?_
  refine V_is1 rfl (by first | rfl | assumption) ?_
  refine V_iconst (v := 0) rfl (by decide) ?_
  refine V_is2 rfl (by first | rfl | assumption) ?_
  refine V_for2 (nC p) (fun i => [.ref md, .int (setF i fun c => !decide (ar 15 (2 + c) < 0)), .int (nI i)]) (fun _ => h) rfl rfl (fun i hi ih => ?_) ?_
  · refine V_iload_n rfl rfl ?_
    refine V_aload_n rfl rfl ?_
    refine V_getI rfl rfl (by first | assumption | exact blkW_0 | exact bAt_0 (by assumption) | rfl) (by rfl) (by first | exact mp_nC (by assumption) | rfl) ?_
    refine V_icmp_geF rfl (nI_ge hi (by omega)) ?_
    refine V_iload_n rfl rfl ?_
    refine V_aload_n rfl rfl ?_
    refine V_getfield rfl rfl (by first | assumption | exact blkW_0 | exact bAt_0 (by assumption) | rfl) (by rfl) ?_
    refine V_iconst (v := 2) rfl (by decide) ?_
    refine V_iload_n rfl rfl ?_
    refine V_iadd rfl ?_
    refine V_iald rfl (by first | assumption | exact blkW_i rfl rfl | exact blkW_z rfl rfl | exact bAt_i (by assumption) rfl rfl | exact bAt_z (by assumption) rfl rfl | rfl) (by first | with_reducible rfl | exact nI_add 2 _ | exact nI_add 26 _ | exact fa_lit _ | assumption) (by first | omega | assumption | decide) (by first | decide | omega | assumption) (by first | exact mp_isC (by assumption) (by first | omega | assumption) | exact mp_par (by assumption) (by first | omega | assumption) | exact mp_abv (by assumption) (by first | omega | assumption) | exact mp_dep (by assumption) (by first | omega | assumption) | exact mp_bT (by assumption) (by first | omega | assumption) | exact mp_bM (by assumption) (by first | omega | assumption) | exact mp_sK (by assumption) (by first | omega | assumption) | exact mp_sB (by assumption) (by first | omega | assumption) | exact mp_sT (by assumption) (by first | omega | assumption) | exact mp_sM (by assumption) (by first | omega | assumption) | exact mp_cS (by assumption) (by first | omega | assumption) | rfl) ?_
    refine V_if_lt rfl (fun h21 => ?_) (fun h21 => ?_)
    · refine V_iconst (v := 0) rfl (by decide) ?_
      refine V_ior rfl ?_
      refine V_is1 rfl (by first | rfl | assumption) ?_
      refine V_inc2 rfl (by first | exact mInc _ | exact mDcr _ | rfl) (by first | rfl | assumption) ?_
      refine V_goto rfl ?_
      exact V_wk ih (by simp [mWk, setF_s, cnd, bI, *])
    · refine V_iconst (v := 1) rfl (by decide) ?_
      refine V_iload_n rfl rfl ?_
      refine V_ishl rfl ?_
      refine V_goto rfl ?_
      refine V_ior rfl ?_
      refine V_is1 rfl (by first | rfl | assumption) ?_
      refine V_inc2 rfl (by first | exact mInc _ | exact mDcr _ | rfl) (by first | rfl | assumption) ?_
      refine V_goto rfl ?_
      exact V_wk ih (by simp [mWk, setF_s, cnd, bI, *])
  · refine V_iload_n rfl rfl ?_
    refine V_aload_n rfl rfl ?_
    refine V_getI rfl rfl (by first | assumption | exact blkW_0 | exact bAt_0 (by assumption) | rfl) (by rfl) (by first | exact mp_nC (by assumption) | rfl) ?_
    refine V_icmp_geT rfl (nI_le (Nat.le_refl _) (by omega)) ?_
    refine V_iload_n rfl rfl ?_
    refine V_ireturn rfl rfl (by first | rfl | exact b2_nar _ | assumption | decide) ?_
    exact P_ret rfl rfl
set_option maxRecDepth 20000 in
set_option maxHeartbeats 1000000 in
theorem s_mbo (hA : bAt 7 h md sc ar) (hm : MP p sc ar) (t : Nat) (ht : t < 2 ^ 31) : Mt g 0 m_MD_bodiesOf [.ref md, .int (nI t)] h sz u (Pi (setF (nB p) fun b => bT p b == t) h) sz u := by
  obtain ⟨hT, hB, hS, hC⟩ := hm.1.1
  refine Mt.of m_MD_bodiesOf_w m_MD_bodiesOf_x m_MD_bodiesOf_c rfl rfl (ls := [.ref md, .int (nI t), .retAddr 0, .retAddr 0]) rfl ?_
  refine V_iconst (v := 0) rfl (by decide) ?_
  refine V_is2 rfl (by first | rfl | assumption) ?_
  refine V_iconst (v := 0) rfl (by decide) ?_
  refine V_is3 rfl (by first | rfl | assumption) ?_
  refine V_for2 (nB p) (fun i => [.ref md, .int (nI t), .int (setF i fun b => bT p b == t), .int (nI i)]) (fun _ => h) rfl rfl (fun i hi ih => ?_) ?_
  · refine V_iload_n rfl rfl ?_
    refine V_aload_n rfl rfl ?_
    refine V_getI rfl rfl (by first | assumption | exact blkW_0 | exact bAt_0 (by assumption) | rfl) (by rfl) (by first | exact mp_nB (by assumption) | rfl) ?_
    refine V_icmp_geF rfl (nI_ge hi (by omega)) ?_
    have hw := hm.1.2.2.1 i hi
    refine V_iload_n rfl rfl ?_
    refine V_aload_n rfl rfl ?_
    refine V_getfield rfl rfl (by first | assumption | exact blkW_0 | exact bAt_0 (by assumption) | rfl) (by rfl) ?_
    refine V_iload_n rfl rfl ?_
    refine V_iald rfl (by first | assumption | exact blkW_i rfl rfl | exact blkW_z rfl rfl | exact bAt_i (by assumption) rfl rfl | exact bAt_z (by assumption) rfl rfl | rfl) (by first | with_reducible rfl | exact nI_add 2 _ | exact nI_add 26 _ | exact fa_lit _ | assumption) (by first | omega | assumption | decide) (by first | decide | omega | assumption) (by first | exact mp_isC (by assumption) (by first | omega | assumption) | exact mp_par (by assumption) (by first | omega | assumption) | exact mp_abv (by assumption) (by first | omega | assumption) | exact mp_dep (by assumption) (by first | omega | assumption) | exact mp_bT (by assumption) (by first | omega | assumption) | exact mp_bM (by assumption) (by first | omega | assumption) | exact mp_sK (by assumption) (by first | omega | assumption) | exact mp_sB (by assumption) (by first | omega | assumption) | exact mp_sT (by assumption) (by first | omega | assumption) | exact mp_sM (by assumption) (by first | omega | assumption) | exact mp_cS (by assumption) (by first | omega | assumption) | rfl) ?_
    refine V_iload_n rfl rfl ?_
    refine V_icmp_ne rfl (fun h20 => ?_) (fun h20 => ?_)
    · refine V_iconst (v := 0) rfl (by decide) ?_
      refine V_ior rfl ?_
      refine V_is2 rfl (by first | rfl | assumption) ?_
      refine V_inc3 rfl (by first | exact mInc _ | exact mDcr _ | rfl) (by first | rfl | assumption) ?_
      refine V_goto rfl ?_
      rw [nI_eq (by omega) (by omega)] at h20
      exact V_wk ih (by simp [mWk, setF_s, cnd, bI, *])
    · refine V_iconst (v := 1) rfl (by decide) ?_
      refine V_iload_n rfl rfl ?_
      refine V_ishl rfl ?_
      refine V_goto rfl ?_
      refine V_ior rfl ?_
      refine V_is2 rfl (by first | rfl | assumption) ?_
      refine V_inc3 rfl (by first | exact mInc _ | exact mDcr _ | rfl) (by first | rfl | assumption) ?_
      refine V_goto rfl ?_
      rw [nI_eq (by omega) (by omega)] at h20
      exact V_wk ih (by simp [mWk, setF_s, cnd, bI, *])
  · refine V_iload_n rfl rfl ?_
    refine V_aload_n rfl rfl ?_
    refine V_getI rfl rfl (by first | assumption | exact blkW_0 | exact bAt_0 (by assumption) | rfl) (by rfl) (by first | exact mp_nB (by assumption) | rfl) ?_
    refine V_icmp_geT rfl (nI_le (Nat.le_refl _) (by omega)) ?_
    refine V_iload_n rfl rfl ?_
    refine V_ireturn rfl rfl (by first | rfl | exact b2_nar _ | assumption | decide) ?_
    exact P_ret rfl rfl
set_option maxRecDepth 20000 in
set_option maxHeartbeats 1000000 in
theorem s_mso (hA : bAt 7 h md sc ar) (hm : MP p sc ar) (b : Nat) (hb : b < 2 ^ 31) : Mt g 0 m_MD_stepsOf [.ref md, .int (nI b)] h sz u (Pi (cnF (nS p) fun s => sB p s == b) h) sz u := by
  obtain ⟨hT, hB, hS, hC⟩ := hm.1.1
  refine Mt.of m_MD_stepsOf_w m_MD_stepsOf_x m_MD_stepsOf_c rfl rfl (ls := [.ref md, .int (nI b), .retAddr 0, .retAddr 0]) rfl ?_
  refine V_iconst (v := 0) rfl (by decide) ?_
  refine V_is2 rfl (by first | rfl | assumption) ?_
  refine V_iconst (v := 0) rfl (by decide) ?_
  refine V_is3 rfl (by first | rfl | assumption) ?_
  refine V_for2 (nS p) (fun i => [.ref md, .int (nI b), .int (cnF i fun s => sB p s == b), .int (nI i)]) (fun _ => h) rfl rfl (fun i hi ih => ?_) ?_
  · refine V_iload_n rfl rfl ?_
    refine V_aload_n rfl rfl ?_
    refine V_getI rfl rfl (by first | assumption | exact blkW_0 | exact bAt_0 (by assumption) | rfl) (by rfl) (by first | exact mp_nS (by assumption) | rfl) ?_
    refine V_icmp_geF rfl (nI_ge hi (by omega)) ?_
    have hw := hm.1.2.2.2.1 i hi
    refine V_iload_n rfl rfl ?_
    refine V_aload_n rfl rfl ?_
    refine V_getfield rfl rfl (by first | assumption | exact blkW_0 | exact bAt_0 (by assumption) | rfl) (by rfl) ?_
    refine V_iload_n rfl rfl ?_
    refine V_iald rfl (by first | assumption | exact blkW_i rfl rfl | exact blkW_z rfl rfl | exact bAt_i (by assumption) rfl rfl | exact bAt_z (by assumption) rfl rfl | rfl) (by first | with_reducible rfl | exact nI_add 2 _ | exact nI_add 26 _ | exact fa_lit _ | assumption) (by first | omega | assumption | decide) (by first | decide | omega | assumption) (by first | exact mp_isC (by assumption) (by first | omega | assumption) | exact mp_par (by assumption) (by first | omega | assumption) | exact mp_abv (by assumption) (by first | omega | assumption) | exact mp_dep (by assumption) (by first | omega | assumption) | exact mp_bT (by assumption) (by first | omega | assumption) | exact mp_bM (by assumption) (by first | omega | assumption) | exact mp_sK (by assumption) (by first | omega | assumption) | exact mp_sB (by assumption) (by first | omega | assumption) | exact mp_sT (by assumption) (by first | omega | assumption) | exact mp_sM (by assumption) (by first | omega | assumption) | exact mp_cS (by assumption) (by first | omega | assumption) | rfl) ?_
    refine V_iload_n rfl rfl ?_
    refine V_icmp_ne rfl (fun h20 => ?_) (fun h20 => ?_)
    · refine V_iconst (v := 0) rfl (by decide) ?_
      refine V_iadd rfl ?_
      refine V_is2 rfl (by first | rfl | assumption) ?_
      refine V_inc3 rfl (by first | exact mInc _ | exact mDcr _ | rfl) (by first | rfl | assumption) ?_
      refine V_goto rfl ?_
      rw [nI_eq (by omega) (by omega)] at h20
      exact V_wk ih (by simp [mWk, cnF_s, b2, *])
    · refine V_iconst (v := 1) rfl (by decide) ?_
      refine V_goto rfl ?_
      refine V_iadd rfl ?_
      refine V_is2 rfl (by first | rfl | assumption) ?_
      refine V_inc3 rfl (by first | exact mInc _ | exact mDcr _ | rfl) (by first | rfl | assumption) ?_
      refine V_goto rfl ?_
      rw [nI_eq (by omega) (by omega)] at h20
      exact V_wk ih (by simp [mWk, cnF_s, b2, *])
  · refine V_iload_n rfl rfl ?_
    refine V_aload_n rfl rfl ?_
    refine V_getI rfl rfl (by first | assumption | exact blkW_0 | exact bAt_0 (by assumption) | rfl) (by rfl) (by first | exact mp_nS (by assumption) | rfl) ?_
    refine V_icmp_geT rfl (nI_le (Nat.le_refl _) (by omega)) ?_
    refine V_iload_n rfl rfl ?_
    refine V_ireturn rfl rfl (by first | rfl | exact b2_nar _ | assumption | decide) ?_
    exact P_ret rfl rfl
set_option maxRecDepth 20000 in
set_option maxHeartbeats 1000000 in
theorem s_bits (S : Int32) : Mt g 0 m_MD_bits [.int S] h sz u (Pi (cnF 12 (bt S)) h) sz u := by
  refine Mt.of m_MD_bits_w m_MD_bits_x m_MD_bits_c rfl rfl (ls := [.int S, .retAddr 0, .retAddr 0]) rfl ?_
  refine V_iconst (v := 0) rfl (by decide) ?_
  refine V_is1 rfl (by first | rfl | assumption) ?_
  refine V_iconst (v := 0) rfl (by decide) ?_
  refine V_is2 rfl (by first | rfl | assumption) ?_
  refine V_for2 12 (fun i => [.int S, .int (cnF i (bt S)), .int (nI i)]) (fun _ => h) rfl rfl (fun i hi ih => ?_) ?_
  · refine V_iload_n rfl rfl ?_
    refine V_bipush (v := 12) rfl (by decide) ?_
    refine V_icmp_geF rfl (nI_ge (b := 12) hi (by decide)) ?_
    refine V_iload_n rfl rfl ?_
    refine V_iload_n rfl rfl ?_
    refine V_iload_n rfl rfl ?_
    refine V_ishr rfl ?_
    refine V_iconst (v := 1) rfl (by decide) ?_
    refine V_iand rfl ?_
    rw [has1 (by omega)]
    refine V_iadd rfl ?_
    refine V_is1 rfl (by first | rfl | assumption) ?_
    refine V_inc2 rfl (by first | exact mInc _ | exact mDcr _ | rfl) (by first | rfl | assumption) ?_
    refine V_goto rfl ?_
    exact ih
  · refine V_iload_n rfl rfl ?_
    refine V_bipush (v := 12) rfl (by decide) ?_
    refine V_icmp_geT rfl (nI_le (Nat.le_refl 12) (by decide)) ?_
    refine V_iload_n rfl rfl ?_
    refine V_ireturn rfl rfl (by first | rfl | exact b2_nar _ | assumption | decide) ?_
    exact P_ret rfl rfl
set_option maxRecDepth 20000 in
set_option maxHeartbeats 1000000 in
theorem s_dnB (hA : bAt 7 h md sc ar) (hm : MP p sc ar) (s : Nat) (hs : s < nS p) : Mt g 5 m_MD_doneBy [.ref md, .int (nI s)] h sz u (Pi (dnB p s (sc 35)) h) sz u := by
  obtain ⟨hT, hB, hS, hC⟩ := hm.1.1
  have hw := hm.1.2.2.2.1 s hs
  have hw2 := hm.1.2.2.1 (sB p s) hw.2.1
  refine Mt.of m_MD_doneBy_w m_MD_doneBy_x m_MD_doneBy_c rfl rfl (ls := [.ref md, .int (nI s), .retAddr 0, .retAddr 0, .retAddr 0, .retAddr 0]) rfl ?_
  refine V_aload_n rfl rfl ?_
  refine V_getfield rfl rfl (by first | assumption | exact blkW_0 | exact bAt_0 (by assumption) | rfl) (by rfl) ?_
  refine V_iload_n rfl rfl ?_
  refine V_iald rfl (by first | assumption | exact blkW_i rfl rfl | exact blkW_z rfl rfl | exact bAt_i (by assumption) rfl rfl | exact bAt_z (by assumption) rfl rfl | rfl) (by first | with_reducible rfl | exact nI_add 2 _ | exact nI_add 26 _ | exact fa_lit _ | assumption) (by first | omega | assumption | decide) (by first | decide | omega | assumption) (by first | exact mp_isC (by assumption) (by first | omega | assumption) | exact mp_par (by assumption) (by first | omega | assumption) | exact mp_abv (by assumption) (by first | omega | assumption) | exact mp_dep (by assumption) (by first | omega | assumption) | exact mp_bT (by assumption) (by first | omega | assumption) | exact mp_bM (by assumption) (by first | omega | assumption) | exact mp_sK (by assumption) (by first | omega | assumption) | exact mp_sB (by assumption) (by first | omega | assumption) | exact mp_sT (by assumption) (by first | omega | assumption) | exact mp_sM (by assumption) (by first | omega | assumption) | exact mp_cS (by assumption) (by first | omega | assumption) | rfl) ?_
  refine V_if_ne rfl (fun h6 => ?_) (fun h6 => ?_)
  · have h6 : ¬ sK p s = 0 := fun q => h6 (by rw [q]; rfl)
    refine V_aload_n rfl rfl ?_
    refine V_getfield rfl rfl (by first | assumption | exact blkW_0 | exact bAt_0 (by assumption) | rfl) (by rfl) ?_
    refine V_iload_n rfl rfl ?_
    refine V_iald rfl (by first | assumption | exact blkW_i rfl rfl | exact blkW_z rfl rfl | exact bAt_i (by assumption) rfl rfl | exact bAt_z (by assumption) rfl rfl | rfl) (by first | with_reducible rfl | exact nI_add 2 _ | exact nI_add 26 _ | exact fa_lit _ | assumption) (by first | omega | assumption | decide) (by first | decide | omega | assumption) (by first | exact mp_isC (by assumption) (by first | omega | assumption) | exact mp_par (by assumption) (by first | omega | assumption) | exact mp_abv (by assumption) (by first | omega | assumption) | exact mp_dep (by assumption) (by first | omega | assumption) | exact mp_bT (by assumption) (by first | omega | assumption) | exact mp_bM (by assumption) (by first | omega | assumption) | exact mp_sK (by assumption) (by first | omega | assumption) | exact mp_sB (by assumption) (by first | omega | assumption) | exact mp_sT (by assumption) (by first | omega | assumption) | exact mp_sM (by assumption) (by first | omega | assumption) | exact mp_cS (by assumption) (by first | omega | assumption) | rfl) ?_
    refine V_iconst (v := 2) rfl (by decide) ?_
    refine V_icmp_ne rfl (fun h18 => ?_) (fun h18 => ?_)
    · have h18 : ¬ sK p s = 2 := fun q => h18 (by rw [q]; rfl)
      have hd : dnB p s (sc 35) = clT p s (sc 35) := by unfold dnB; rw [if_neg h6, if_neg h18]
      rw [hd]
      refine V_iconst (v := 0) rfl (by decide) ?_
      refine V_is2 rfl (by first | rfl | assumption) ?_
      refine V_iconst (v := 0) rfl (by decide) ?_
      refine V_is3 rfl (by first | rfl | assumption) ?_
      refine V_for2 (nT p) (fun i => [.ref md, .int (nI s), .int (orF i fun t => cnd (isC p t && bt (sc 35) t && bt (abv p t) (sT p s)) (bitB (fnd p t (sM p s)))), .int (nI i), .retAddr 0, .retAddr 0]) (fun _ => h) rfl rfl (fun i hi ih => ?_) ?_
      · refine V_iload_n rfl rfl ?_
        refine V_aload_n rfl rfl ?_
        refine V_getI rfl rfl (by first | assumption | exact blkW_0 | exact bAt_0 (by assumption) | rfl) (by rfl) (by first | exact mp_nT (by assumption) | rfl) ?_
        refine V_icmp_geF rfl (nI_ge hi (by omega)) ?_
        refine V_aload_n rfl rfl ?_
        refine V_getfield rfl rfl (by first | assumption | exact blkW_0 | exact bAt_0 (by assumption) | rfl) (by rfl) ?_
        refine V_iload_n rfl rfl ?_
        have key : ∀ b : Bool, b = (isC p i && bt (sc 35) i && bt (abv p i) (sT p s)) → V g 5 m_MD_doneBy (Pi (clT p s (sc 35)) h) sz u 117 [.ref md, .int (nI s), .int (orF i fun t => cnd (isC p t && bt (sc 35) t && bt (abv p t) (sT p s)) (bitB (fnd p t (sM p s)))), .int (nI i), .int (b2 b), .retAddr 0] [] h sz u := by
          intro b hb
          refine V_iload rfl rfl ?_
          cases b
          · refine V_if_eqT rfl (rfl) ?_
            refine V_iconst (v := (-1)) rfl (by decide) ?_
            refine V_is5 rfl (by first | rfl | assumption) ?_
            refine V_iload_n rfl rfl ?_
            refine V_iload rfl rfl ?_
            refine V_if_geF rfl (by decide) ?_
            refine V_iconst (v := 0) rfl (by decide) ?_
            refine V_goto rfl ?_
            refine V_ior rfl ?_
            refine V_is2 rfl (by first | rfl | assumption) ?_
            refine V_inc3 rfl (by first | exact mInc _ | exact mDcr _ | rfl) (by first | rfl | assumption) ?_
            refine V_goto rfl ?_
            exact V_wk ih (by simp only [orF_s]; simp [mWk, cnd, ← hb])
          · refine V_if_eqF rfl (by decide) ?_
            refine V_aload_n rfl rfl ?_
            refine V_iload_n rfl rfl ?_
            refine V_aload_n rfl rfl ?_
            refine V_getfield rfl rfl (by first | assumption | exact blkW_0 | exact bAt_0 (by assumption) | rfl) (by rfl) ?_
            refine V_iload_n rfl rfl ?_
            refine V_iald rfl (by first | assumption | exact blkW_i rfl rfl | exact blkW_z rfl rfl | exact bAt_i (by assumption) rfl rfl | exact bAt_z (by assumption) rfl rfl | rfl) (by first | with_reducible rfl | exact nI_add 2 _ | exact nI_add 26 _ | exact fa_lit _ | assumption) (by first | omega | assumption | decide) (by first | decide | omega | assumption) (by first | exact mp_isC (by assumption) (by first | omega | assumption) | exact mp_par (by assumption) (by first | omega | assumption) | exact mp_abv (by assumption) (by first | omega | assumption) | exact mp_dep (by assumption) (by first | omega | assumption) | exact mp_bT (by assumption) (by first | omega | assumption) | exact mp_bM (by assumption) (by first | omega | assumption) | exact mp_sK (by assumption) (by first | omega | assumption) | exact mp_sB (by assumption) (by first | omega | assumption) | exact mp_sT (by assumption) (by first | omega | assumption) | exact mp_sM (by assumption) (by first | omega | assumption) | exact mp_cS (by assumption) (by first | omega | assumption) | rfl) ?_
            refine V_callVi rfl rfl m_MD_foundFor_w m_MD_foundFor_x rfl (by decide) rfl (s_fnd (by first | assumption | exact blkW_at) (by assumption) _ _ (by first | omega | assumption) (by first | omega | assumption)) (by decide) rfl (by first | assumption | exact blkW_0 | exact bAt_0 (by assumption) | rfl) (Nat.le_of_ble_eq_true rfl) ?_
            refine V_goto rfl ?_
            refine V_is5 rfl (by first | rfl | assumption) ?_
            refine V_iload_n rfl rfl ?_
            refine V_iload rfl rfl ?_
            refine V_if_ge rfl (fun h142 => ?_) (fun h142 => ?_)
            · refine V_iconst (v := 1) rfl (by decide) ?_
              refine V_iload rfl rfl ?_
              refine V_ishl rfl ?_
              refine V_ior rfl ?_
              refine V_is2 rfl (by first | rfl | assumption) ?_
              refine V_inc3 rfl (by first | exact mInc _ | exact mDcr _ | rfl) (by first | rfl | assumption) ?_
              refine V_goto rfl ?_
              exact V_wk ih (by simp only [orF_s]; simp [mWk, cnd, ← hb, bitB_nn h142])
            · refine V_iconst (v := 0) rfl (by decide) ?_
              refine V_goto rfl ?_
              refine V_ior rfl ?_
              refine V_is2 rfl (by first | rfl | assumption) ?_
              refine V_inc3 rfl (by first | exact mInc _ | exact mDcr _ | rfl) (by first | rfl | assumption) ?_
              refine V_goto rfl ?_
              exact V_wk ih (by simp only [orF_s]; simp [mWk, cnd, ← hb, bitB_n h142])
        refine V_bald rfl (by first | assumption | exact blkW_i rfl rfl | exact blkW_z rfl rfl | exact bAt_i (by assumption) rfl rfl | exact bAt_z (by assumption) rfl rfl | rfl) (by first | with_reducible rfl | exact nI_add 2 _ | exact nI_add 26 _ | exact fa_lit _ | assumption) (by first | omega | assumption | decide) (by first | decide | omega | assumption) (by first | exact mp_isC (by assumption) (by first | omega | assumption) | exact mp_par (by assumption) (by first | omega | assumption) | exact mp_abv (by assumption) (by first | omega | assumption) | exact mp_dep (by assumption) (by first | omega | assumption) | exact mp_bT (by assumption) (by first | omega | assumption) | exact mp_bM (by assumption) (by first | omega | assumption) | exact mp_sK (by assumption) (by first | omega | assumption) | exact mp_sB (by assumption) (by first | omega | assumption) | exact mp_sT (by assumption) (by first | omega | assumption) | exact mp_sM (by assumption) (by first | omega | assumption) | exact mp_cS (by assumption) (by first | omega | assumption) | rfl) ?_
        first | refine V_ifb_eq rfl (fun h78 => ?_) (fun h78 => ?_) | refine V_if_eq rfl (fun h78 => ?_) (fun h78 => ?_)
        · refine V_iconst (v := 0) rfl (by decide) ?_
          refine V_is4 rfl (by first | rfl | assumption) ?_
          exact V_wk (key _ rfl) (by simp [mWk, b2, *])
        · refine V_aload_n rfl rfl ?_
          refine V_getI rfl rfl (by first | assumption | exact blkW_0 | exact bAt_0 (by assumption) | rfl) (by rfl) (by first | rfl) ?_
          refine V_iload_n rfl rfl ?_
          refine V_callSi rfl rfl (Or.inl rfl) m_MD_has_w m_MD_has_x rfl rfl (s_mhas _ (by first | omega | assumption)) (by decide) rfl (Nat.le_of_ble_eq_true rfl) ?_
          first | refine V_ifb_eq rfl (fun h89 => ?_) (fun h89 => ?_) | refine V_if_eq rfl (fun h89 => ?_) (fun h89 => ?_)
          · refine V_iconst (v := 0) rfl (by decide) ?_
            refine V_is4 rfl (by first | rfl | assumption) ?_
            exact V_wk (key _ rfl) (by simp [mWk, b2, *])
          · refine V_aload_n rfl rfl ?_
            refine V_getfield rfl rfl (by first | assumption | exact blkW_0 | exact bAt_0 (by assumption) | rfl) (by rfl) ?_
            refine V_iload_n rfl rfl ?_
            refine V_iald rfl (by first | assumption | exact blkW_i rfl rfl | exact blkW_z rfl rfl | exact bAt_i (by assumption) rfl rfl | exact bAt_z (by assumption) rfl rfl | rfl) (by first | with_reducible rfl | exact nI_add 2 _ | exact nI_add 26 _ | exact fa_lit _ | assumption) (by first | omega | assumption | decide) (by first | decide | omega | assumption) (by first | exact mp_isC (by assumption) (by first | omega | assumption) | exact mp_par (by assumption) (by first | omega | assumption) | exact mp_abv (by assumption) (by first | omega | assumption) | exact mp_dep (by assumption) (by first | omega | assumption) | exact mp_bT (by assumption) (by first | omega | assumption) | exact mp_bM (by assumption) (by first | omega | assumption) | exact mp_sK (by assumption) (by first | omega | assumption) | exact mp_sB (by assumption) (by first | omega | assumption) | exact mp_sT (by assumption) (by first | omega | assumption) | exact mp_sM (by assumption) (by first | omega | assumption) | exact mp_cS (by assumption) (by first | omega | assumption) | rfl) ?_
            refine V_aload_n rfl rfl ?_
            refine V_getfield rfl rfl (by first | assumption | exact blkW_0 | exact bAt_0 (by assumption) | rfl) (by rfl) ?_
            refine V_iload_n rfl rfl ?_
            refine V_iald rfl (by first | assumption | exact blkW_i rfl rfl | exact blkW_z rfl rfl | exact bAt_i (by assumption) rfl rfl | exact bAt_z (by assumption) rfl rfl | rfl) (by first | with_reducible rfl | exact nI_add 2 _ | exact nI_add 26 _ | exact fa_lit _ | assumption) (by first | omega | assumption | decide) (by first | decide | omega | assumption) (by first | exact mp_isC (by assumption) (by first | omega | assumption) | exact mp_par (by assumption) (by first | omega | assumption) | exact mp_abv (by assumption) (by first | omega | assumption) | exact mp_dep (by assumption) (by first | omega | assumption) | exact mp_bT (by assumption) (by first | omega | assumption) | exact mp_bM (by assumption) (by first | omega | assumption) | exact mp_sK (by assumption) (by first | omega | assumption) | exact mp_sB (by assumption) (by first | omega | assumption) | exact mp_sT (by assumption) (by first | omega | assumption) | exact mp_sM (by assumption) (by first | omega | assumption) | exact mp_cS (by assumption) (by first | omega | assumption) | rfl) ?_
            refine V_callSi rfl rfl (Or.inl rfl) m_MD_has_w m_MD_has_x rfl rfl (s_mhas _ (by first | omega | assumption)) (by decide) rfl (Nat.le_of_ble_eq_true rfl) ?_
            first | refine V_ifb_eq rfl (fun h107 => ?_) (fun h107 => ?_) | refine V_if_eq rfl (fun h107 => ?_) (fun h107 => ?_)
            · refine V_iconst (v := 0) rfl (by decide) ?_
              refine V_is4 rfl (by first | rfl | assumption) ?_
              exact V_wk (key _ rfl) (by simp [mWk, b2, *])
            · refine V_iconst (v := 1) rfl (by decide) ?_
              refine V_goto rfl ?_
              refine V_is4 rfl (by first | rfl | assumption) ?_
              exact V_wk (key _ rfl) (by simp [mWk, b2, *])
      · refine V_iload_n rfl rfl ?_
        refine V_aload_n rfl rfl ?_
        refine V_getI rfl rfl (by first | assumption | exact blkW_0 | exact bAt_0 (by assumption) | rfl) (by rfl) (by first | exact mp_nT (by assumption) | rfl) ?_
        refine V_icmp_geT rfl (nI_le (Nat.le_refl _) (by omega)) ?_
        refine V_iload_n rfl rfl ?_
        refine V_ireturn rfl rfl (by first | rfl | exact b2_nar _ | assumption | decide) ?_
        exact P_ret rfl rfl
    · have h18 : sK p s = 2 := (nI_eq (by omega) (by omega)).mp h18
      obtain ⟨q, q1, q2⟩ := hw.2.2.2.2 h18
      have hd : dnB p s (sc 35) = bitB (fnd p q (sM p s)) := by unfold dnB; rw [if_neg h6, if_pos h18, q2, nI_clamp (by omega)]
      rw [hd]
      refine V_aload_n rfl rfl ?_
      refine V_aload_n rfl rfl ?_
      refine V_getfield rfl rfl (by first | assumption | exact blkW_0 | exact bAt_0 (by assumption) | rfl) (by rfl) ?_
      refine V_aload_n rfl rfl ?_
      refine V_getfield rfl rfl (by first | assumption | exact blkW_0 | exact bAt_0 (by assumption) | rfl) (by rfl) ?_
      refine V_aload_n rfl rfl ?_
      refine V_getfield rfl rfl (by first | assumption | exact blkW_0 | exact bAt_0 (by assumption) | rfl) (by rfl) ?_
      refine V_iload_n rfl rfl ?_
      refine V_iald rfl (by first | assumption | exact blkW_i rfl rfl | exact blkW_z rfl rfl | exact bAt_i (by assumption) rfl rfl | exact bAt_z (by assumption) rfl rfl | rfl) (by first | with_reducible rfl | exact nI_add 2 _ | exact nI_add 26 _ | exact fa_lit _ | assumption) (by first | omega | assumption | decide) (by first | decide | omega | assumption) (by first | exact mp_isC (by assumption) (by first | omega | assumption) | exact mp_par (by assumption) (by first | omega | assumption) | exact mp_abv (by assumption) (by first | omega | assumption) | exact mp_dep (by assumption) (by first | omega | assumption) | exact mp_bT (by assumption) (by first | omega | assumption) | exact mp_bM (by assumption) (by first | omega | assumption) | exact mp_sK (by assumption) (by first | omega | assumption) | exact mp_sB (by assumption) (by first | omega | assumption) | exact mp_sT (by assumption) (by first | omega | assumption) | exact mp_sM (by assumption) (by first | omega | assumption) | exact mp_cS (by assumption) (by first | omega | assumption) | rfl) ?_
      refine V_iald rfl (by first | assumption | exact blkW_i rfl rfl | exact blkW_z rfl rfl | exact bAt_i (by assumption) rfl rfl | exact bAt_z (by assumption) rfl rfl | rfl) (by first | with_reducible rfl | exact nI_add 2 _ | exact nI_add 26 _ | exact fa_lit _ | assumption) (by first | omega | assumption | decide) (by first | decide | omega | assumption) (by first | exact mp_isC (by assumption) (by first | omega | assumption) | exact mp_par (by assumption) (by first | omega | assumption) | exact mp_abv (by assumption) (by first | omega | assumption) | exact mp_dep (by assumption) (by first | omega | assumption) | exact mp_bT (by assumption) (by first | omega | assumption) | exact mp_bM (by assumption) (by first | omega | assumption) | exact mp_sK (by assumption) (by first | omega | assumption) | exact mp_sB (by assumption) (by first | omega | assumption) | exact mp_sT (by assumption) (by first | omega | assumption) | exact mp_sM (by assumption) (by first | omega | assumption) | exact mp_cS (by assumption) (by first | omega | assumption) | rfl) ?_
      refine V_iald rfl (by first | assumption | exact blkW_i rfl rfl | exact blkW_z rfl rfl | exact bAt_i (by assumption) rfl rfl | exact bAt_z (by assumption) rfl rfl | rfl) (by first | with_reducible rfl | exact nI_add 2 _ | exact nI_add 26 _ | exact fa_lit _ | assumption) (by first | omega | assumption | decide) (by first | decide | omega | assumption) (by first | exact mp_isC (by assumption) (by first | omega | assumption) | exact mp_par (by assumption) (by first | omega | assumption) | exact mp_abv (by assumption) (by first | omega | assumption) | exact mp_dep (by assumption) (by first | omega | assumption) | exact mp_bT (by assumption) (by first | omega | assumption) | exact mp_bM (by assumption) (by first | omega | assumption) | exact mp_sK (by assumption) (by first | omega | assumption) | exact mp_sB (by assumption) (by first | omega | assumption) | exact mp_sT (by assumption) (by first | omega | assumption) | exact mp_sM (by assumption) (by first | omega | assumption) | exact mp_cS (by assumption) (by first | omega | assumption) | rfl) ?_
      rw [q2]
      refine V_aload_n rfl rfl ?_
      refine V_getfield rfl rfl (by first | assumption | exact blkW_0 | exact bAt_0 (by assumption) | rfl) (by rfl) ?_
      refine V_iload_n rfl rfl ?_
      refine V_iald rfl (by first | assumption | exact blkW_i rfl rfl | exact blkW_z rfl rfl | exact bAt_i (by assumption) rfl rfl | exact bAt_z (by assumption) rfl rfl | rfl) (by first | with_reducible rfl | exact nI_add 2 _ | exact nI_add 26 _ | exact fa_lit _ | assumption) (by first | omega | assumption | decide) (by first | decide | omega | assumption) (by first | exact mp_isC (by assumption) (by first | omega | assumption) | exact mp_par (by assumption) (by first | omega | assumption) | exact mp_abv (by assumption) (by first | omega | assumption) | exact mp_dep (by assumption) (by first | omega | assumption) | exact mp_bT (by assumption) (by first | omega | assumption) | exact mp_bM (by assumption) (by first | omega | assumption) | exact mp_sK (by assumption) (by first | omega | assumption) | exact mp_sB (by assumption) (by first | omega | assumption) | exact mp_sT (by assumption) (by first | omega | assumption) | exact mp_sM (by assumption) (by first | omega | assumption) | exact mp_cS (by assumption) (by first | omega | assumption) | rfl) ?_
      refine V_callVi rfl rfl m_MD_foundFor_w m_MD_foundFor_x rfl (by decide) rfl (s_fnd (by first | assumption | exact blkW_at) (by assumption) _ _ (by first | omega | assumption) (by first | omega | assumption)) (by decide) rfl (by first | assumption | exact blkW_0 | exact bAt_0 (by assumption) | rfl) (Nat.le_of_ble_eq_true rfl) ?_
      refine V_is2 rfl (by first | rfl | assumption) ?_
      refine V_iload_n rfl rfl ?_
      refine V_if_ge rfl (fun h49 => ?_) (fun h49 => ?_)
      · refine V_iconst (v := 1) rfl (by decide) ?_
        refine V_iload_n rfl rfl ?_
        refine V_ishl rfl ?_
        refine V_ireturn rfl rfl (by first | rfl | exact b2_nar _ | assumption | decide) ?_
        exact P_ret (bitB_nn h49).symm rfl
      · refine V_iconst (v := 0) rfl (by decide) ?_
        refine V_goto rfl ?_
        refine V_ireturn rfl rfl (by first | rfl | exact b2_nar _ | assumption | decide) ?_
        exact P_ret (bitB_n h49).symm rfl
  · have h6 : sK p s = 0 := (nI_eq (by omega) (by omega)).mp h6
    refine V_iconst (v := 0) rfl (by decide) ?_
    refine V_ireturn rfl rfl (by first | rfl | exact b2_nar _ | assumption | decide) ?_
    exact P_ret (by unfold dnB; rw [if_pos h6]) rfl
set_option maxRecDepth 20000 in
set_option maxHeartbeats 1000000 in
theorem s_may (hA : bAt 7 h md sc ar) (hm : MP p sc ar) (c : Nat) (S : Int32) (hc : c < nC p) : Mt g 5 m_MD_mayOf [.ref md, .int (nI c), .int S] h sz u (Pi (may p c S) h) sz u := by
  obtain ⟨hT, hB, hS, hC⟩ := hm.1.1
  have hcs := hm.1.2.2.2.2 c hc
  have hs := hcs.1
  have hw := hm.1.2.2.2.1 (cS p c) hs
  refine Mt.of m_MD_mayOf_w m_MD_mayOf_x m_MD_mayOf_c rfl rfl (ls := [.ref md, .int (nI c), .int S, .retAddr 0, .retAddr 0, .retAddr 0, .retAddr 0, .retAddr 0]) rfl ?_
  refine V_aload_n rfl rfl ?_
  refine V_getfield rfl rfl (by first | assumption | exact blkW_0 | exact bAt_0 (by assumption) | rfl) (by rfl) ?_
  refine V_iload_n rfl rfl ?_
  refine V_iald rfl (by first | assumption | exact blkW_i rfl rfl | exact blkW_z rfl rfl | exact bAt_i (by assumption) rfl rfl | exact bAt_z (by assumption) rfl rfl | rfl) (by first | with_reducible rfl | exact nI_add 2 _ | exact nI_add 26 _ | exact fa_lit _ | assumption) (by first | omega | assumption | decide) (by first | decide | omega | assumption) (by first | exact mp_isC (by assumption) (by first | omega | assumption) | exact mp_par (by assumption) (by first | omega | assumption) | exact mp_abv (by assumption) (by first | omega | assumption) | exact mp_dep (by assumption) (by first | omega | assumption) | exact mp_bT (by assumption) (by first | omega | assumption) | exact mp_bM (by assumption) (by first | omega | assumption) | exact mp_sK (by assumption) (by first | omega | assumption) | exact mp_sB (by assumption) (by first | omega | assumption) | exact mp_sT (by assumption) (by first | omega | assumption) | exact mp_sM (by assumption) (by first | omega | assumption) | exact mp_cS (by assumption) (by first | omega | assumption) | rfl) ?_
  refine V_is3 rfl (by first | rfl | assumption) ?_
  refine V_iconst (v := 0) rfl (by decide) ?_
  refine V_is4 rfl (by first | rfl | assumption) ?_
  refine V_iconst (v := 0) rfl (by decide) ?_
  refine V_is5 rfl (by first | rfl | assumption) ?_
  refine V_for2 (nT p) (fun i => [.ref md, .int (nI c), .int S, .int (nI (cS p c)), .int (orF i fun t => cnd (isC p t && bt S t && bt (abv p t) (sT p (cS p c))) (bitB (fnd p t (sM p (cS p c))))), .int (nI i), .retAddr 0, .retAddr 0]) (fun _ => h) rfl rfl (fun i hi ih => ?_) ?_
  · refine V_iload rfl rfl ?_
    refine V_aload_n rfl rfl ?_
    refine V_getI rfl rfl (by first | assumption | exact blkW_0 | exact bAt_0 (by assumption) | rfl) (by rfl) (by first | exact mp_nT (by assumption) | rfl) ?_
    refine V_icmp_geF rfl (nI_ge hi (by omega)) ?_
    have key : ∀ b : Bool, b = (isC p i && bt S i && bt (abv p i) (sT p (cS p c))) → V g 5 m_MD_mayOf (Pi (may p c S) h) sz u 67 [.ref md, .int (nI c), .int S, .int (nI (cS p c)), .int (orF i fun t => cnd (isC p t && bt S t && bt (abv p t) (sT p (cS p c))) (bitB (fnd p t (sM p (cS p c))))), .int (nI i), .int (b2 b), .retAddr 0] [] h sz u := by
      intro b hb
      refine V_iload rfl rfl ?_
      cases b
      · refine V_if_eqT rfl (rfl) ?_
        refine V_iconst (v := (-1)) rfl (by decide) ?_
        refine V_is7 rfl (by first | rfl | assumption) ?_
        refine V_iload rfl rfl ?_
        refine V_iload rfl rfl ?_
        refine V_if_geF rfl (by decide) ?_
        refine V_iconst (v := 0) rfl (by decide) ?_
        refine V_goto rfl ?_
        refine V_ior rfl ?_
        refine V_is4 rfl (by first | rfl | assumption) ?_
        refine V_inc5 rfl (by first | exact mInc _ | exact mDcr _ | rfl) (by first | rfl | assumption) ?_
        refine V_goto rfl ?_
        exact V_wk ih (by simp only [orF_s]; simp [mWk, cnd, ← hb])
      · refine V_if_eqF rfl (by decide) ?_
        refine V_aload_n rfl rfl ?_
        refine V_iload rfl rfl ?_
        refine V_aload_n rfl rfl ?_
        refine V_getfield rfl rfl (by first | assumption | exact blkW_0 | exact bAt_0 (by assumption) | rfl) (by rfl) ?_
        refine V_iload_n rfl rfl ?_
        refine V_iald rfl (by first | assumption | exact blkW_i rfl rfl | exact blkW_z rfl rfl | exact bAt_i (by assumption) rfl rfl | exact bAt_z (by assumption) rfl rfl | rfl) (by first | with_reducible rfl | exact nI_add 2 _ | exact nI_add 26 _ | exact fa_lit _ | assumption) (by first | omega | assumption | decide) (by first | decide | omega | assumption) (by first | exact mp_isC (by assumption) (by first | omega | assumption) | exact mp_par (by assumption) (by first | omega | assumption) | exact mp_abv (by assumption) (by first | omega | assumption) | exact mp_dep (by assumption) (by first | omega | assumption) | exact mp_bT (by assumption) (by first | omega | assumption) | exact mp_bM (by assumption) (by first | omega | assumption) | exact mp_sK (by assumption) (by first | omega | assumption) | exact mp_sB (by assumption) (by first | omega | assumption) | exact mp_sT (by assumption) (by first | omega | assumption) | exact mp_sM (by assumption) (by first | omega | assumption) | exact mp_cS (by assumption) (by first | omega | assumption) | rfl) ?_
        refine V_callVi rfl rfl m_MD_foundFor_w m_MD_foundFor_x rfl (by decide) rfl (s_fnd (by first | assumption | exact blkW_at) (by assumption) _ _ (by first | omega | assumption) (by first | omega | assumption)) (by decide) rfl (by first | assumption | exact blkW_0 | exact bAt_0 (by assumption) | rfl) (Nat.le_of_ble_eq_true rfl) ?_
        refine V_goto rfl ?_
        refine V_is7 rfl (by first | rfl | assumption) ?_
        refine V_iload rfl rfl ?_
        refine V_iload rfl rfl ?_
        refine V_if_ge rfl (fun h94 => ?_) (fun h94 => ?_)
        · refine V_iconst (v := 1) rfl (by decide) ?_
          refine V_iload rfl rfl ?_
          refine V_ishl rfl ?_
          refine V_ior rfl ?_
          refine V_is4 rfl (by first | rfl | assumption) ?_
          refine V_inc5 rfl (by first | exact mInc _ | exact mDcr _ | rfl) (by first | rfl | assumption) ?_
          refine V_goto rfl ?_
          exact V_wk ih (by simp only [orF_s]; simp [mWk, cnd, ← hb, bitB_nn h94])
        · refine V_iconst (v := 0) rfl (by decide) ?_
          refine V_goto rfl ?_
          refine V_ior rfl ?_
          refine V_is4 rfl (by first | rfl | assumption) ?_
          refine V_inc5 rfl (by first | exact mInc _ | exact mDcr _ | rfl) (by first | rfl | assumption) ?_
          refine V_goto rfl ?_
          exact V_wk ih (by simp only [orF_s]; simp [mWk, cnd, ← hb, bitB_n h94])
    refine V_aload_n rfl rfl ?_
    refine V_getfield rfl rfl (by first | assumption | exact blkW_0 | exact bAt_0 (by assumption) | rfl) (by rfl) ?_
    refine V_iload rfl rfl ?_
    refine V_bald rfl (by first | assumption | exact blkW_i rfl rfl | exact blkW_z rfl rfl | exact bAt_i (by assumption) rfl rfl | exact bAt_z (by assumption) rfl rfl | rfl) (by first | with_reducible rfl | exact nI_add 2 _ | exact nI_add 26 _ | exact fa_lit _ | assumption) (by first | omega | assumption | decide) (by first | decide | omega | assumption) (by first | exact mp_isC (by assumption) (by first | omega | assumption) | exact mp_par (by assumption) (by first | omega | assumption) | exact mp_abv (by assumption) (by first | omega | assumption) | exact mp_dep (by assumption) (by first | omega | assumption) | exact mp_bT (by assumption) (by first | omega | assumption) | exact mp_bM (by assumption) (by first | omega | assumption) | exact mp_sK (by assumption) (by first | omega | assumption) | exact mp_sB (by assumption) (by first | omega | assumption) | exact mp_sT (by assumption) (by first | omega | assumption) | exact mp_sM (by assumption) (by first | omega | assumption) | exact mp_cS (by assumption) (by first | omega | assumption) | rfl) ?_
    first | refine V_ifb_eq rfl (fun h29 => ?_) (fun h29 => ?_) | refine V_if_eq rfl (fun h29 => ?_) (fun h29 => ?_)
    · refine V_iconst (v := 0) rfl (by decide) ?_
      refine V_is6 rfl (by first | rfl | assumption) ?_
      exact V_wk (key _ rfl) (by simp [mWk, b2, *])
    · refine V_iload_n rfl rfl ?_
      refine V_iload rfl rfl ?_
      refine V_callSi rfl rfl (Or.inl rfl) m_MD_has_w m_MD_has_x rfl rfl (s_mhas _ (by first | omega | assumption)) (by decide) rfl (Nat.le_of_ble_eq_true rfl) ?_
      first | refine V_ifb_eq rfl (fun h38 => ?_) (fun h38 => ?_) | refine V_if_eq rfl (fun h38 => ?_) (fun h38 => ?_)
      · refine V_iconst (v := 0) rfl (by decide) ?_
        refine V_is6 rfl (by first | rfl | assumption) ?_
        exact V_wk (key _ rfl) (by simp [mWk, b2, *])
      · refine V_aload_n rfl rfl ?_
        refine V_getfield rfl rfl (by first | assumption | exact blkW_0 | exact bAt_0 (by assumption) | rfl) (by rfl) ?_
        refine V_iload rfl rfl ?_
        refine V_iald rfl (by first | assumption | exact blkW_i rfl rfl | exact blkW_z rfl rfl | exact bAt_i (by assumption) rfl rfl | exact bAt_z (by assumption) rfl rfl | rfl) (by first | with_reducible rfl | exact nI_add 2 _ | exact nI_add 26 _ | exact fa_lit _ | assumption) (by first | omega | assumption | decide) (by first | decide | omega | assumption) (by first | exact mp_isC (by assumption) (by first | omega | assumption) | exact mp_par (by assumption) (by first | omega | assumption) | exact mp_abv (by assumption) (by first | omega | assumption) | exact mp_dep (by assumption) (by first | omega | assumption) | exact mp_bT (by assumption) (by first | omega | assumption) | exact mp_bM (by assumption) (by first | omega | assumption) | exact mp_sK (by assumption) (by first | omega | assumption) | exact mp_sB (by assumption) (by first | omega | assumption) | exact mp_sT (by assumption) (by first | omega | assumption) | exact mp_sM (by assumption) (by first | omega | assumption) | exact mp_cS (by assumption) (by first | omega | assumption) | rfl) ?_
        refine V_aload_n rfl rfl ?_
        refine V_getfield rfl rfl (by first | assumption | exact blkW_0 | exact bAt_0 (by assumption) | rfl) (by rfl) ?_
        refine V_iload_n rfl rfl ?_
        refine V_iald rfl (by first | assumption | exact blkW_i rfl rfl | exact blkW_z rfl rfl | exact bAt_i (by assumption) rfl rfl | exact bAt_z (by assumption) rfl rfl | rfl) (by first | with_reducible rfl | exact nI_add 2 _ | exact nI_add 26 _ | exact fa_lit _ | assumption) (by first | omega | assumption | decide) (by first | decide | omega | assumption) (by first | exact mp_isC (by assumption) (by first | omega | assumption) | exact mp_par (by assumption) (by first | omega | assumption) | exact mp_abv (by assumption) (by first | omega | assumption) | exact mp_dep (by assumption) (by first | omega | assumption) | exact mp_bT (by assumption) (by first | omega | assumption) | exact mp_bM (by assumption) (by first | omega | assumption) | exact mp_sK (by assumption) (by first | omega | assumption) | exact mp_sB (by assumption) (by first | omega | assumption) | exact mp_sT (by assumption) (by first | omega | assumption) | exact mp_sM (by assumption) (by first | omega | assumption) | exact mp_cS (by assumption) (by first | omega | assumption) | rfl) ?_
        refine V_callSi rfl rfl (Or.inl rfl) m_MD_has_w m_MD_has_x rfl rfl (s_mhas _ (by first | omega | assumption)) (by decide) rfl (Nat.le_of_ble_eq_true rfl) ?_
        first | refine V_ifb_eq rfl (fun h57 => ?_) (fun h57 => ?_) | refine V_if_eq rfl (fun h57 => ?_) (fun h57 => ?_)
        · refine V_iconst (v := 0) rfl (by decide) ?_
          refine V_is6 rfl (by first | rfl | assumption) ?_
          exact V_wk (key _ rfl) (by simp [mWk, b2, *])
        · refine V_iconst (v := 1) rfl (by decide) ?_
          refine V_goto rfl ?_
          refine V_is6 rfl (by first | rfl | assumption) ?_
          exact V_wk (key _ rfl) (by simp [mWk, b2, *])
  · refine V_iload rfl rfl ?_
    refine V_aload_n rfl rfl ?_
    refine V_getI rfl rfl (by first | assumption | exact blkW_0 | exact bAt_0 (by assumption) | rfl) (by rfl) (by first | exact mp_nT (by assumption) | rfl) ?_
    refine V_icmp_geT rfl (nI_le (Nat.le_refl _) (by omega)) ?_
    refine V_iload rfl rfl ?_
    refine V_ireturn rfl rfl (by first | rfl | exact b2_nar _ | assumption | decide) ?_
    exact P_ret rfl rfl
set_option maxRecDepth 20000 in
set_option maxHeartbeats 1000000 in
theorem s_clB (hA : bAt 7 h md sc ar) (hm : MP p sc ar) (b : Nat) (hb : b < 32) : Mt g 6 m_MD_calledBy [.ref md, .int (nI b)] h sz u (Pi (clB p (sc 34) (sc 35) b) h) sz u := by
  obtain ⟨hT, hB, hS, hC⟩ := hm.1.1
  refine Mt.of m_MD_calledBy_w m_MD_calledBy_x m_MD_calledBy_c rfl rfl (ls := [.ref md, .int (nI b), .retAddr 0, .retAddr 0]) rfl ?_
  refine V_iconst (v := 0) rfl (by decide) ?_
  refine V_is2 rfl (by first | rfl | assumption) ?_
  refine V_iconst (v := 0) rfl (by decide) ?_
  refine V_is3 rfl (by first | rfl | assumption) ?_
  cases ho : bt (sc 34) b
  · refine V_iload_n rfl rfl ?_
    refine V_aload_n rfl rfl ?_
    refine V_getI rfl rfl (by first | assumption | exact blkW_0 | exact bAt_0 (by assumption) | rfl) (by rfl) (by first | exact mp_nS (by assumption) | rfl) ?_
    refine V_icmp_ge rfl (fun h9 => ?_) (fun h9 => ?_)
    · refine V_iload_n rfl rfl ?_
      refine V_ireturn rfl rfl (by first | rfl | exact b2_nar _ | assumption | decide) ?_
      exact P_ret (by unfold clB; rw [ho]; rfl) rfl
    · refine V_aload_n rfl rfl ?_
      refine V_getI rfl rfl (by first | assumption | exact blkW_0 | exact bAt_0 (by assumption) | rfl) (by rfl) (by first | rfl) ?_
      refine V_iload_n rfl rfl ?_
      refine V_callSi rfl rfl (Or.inl rfl) m_MD_has_w m_MD_has_x rfl rfl (s_mhas _ (by first | omega | assumption)) (by decide) rfl (Nat.le_of_ble_eq_true rfl) ?_
      refine V_if_eqT rfl (b2_f ho) ?_
      refine V_iload_n rfl rfl ?_
      refine V_ireturn rfl rfl (by first | rfl | exact b2_nar _ | assumption | decide) ?_
      exact P_ret (by unfold clB; rw [ho]; rfl) rfl
  · have hd : clB p (sc 34) (sc 35) b = orF (nS p) fun s => cnd (sB p s == b) (dnB p s (sc 35)) := by unfold clB; rw [ho]; rfl
    rw [hd]
    refine V_for2 (nS p) (fun i => [.ref md, .int (nI b), .int (orF i fun s => cnd (sB p s == b) (dnB p s (sc 35))), .int (nI i)]) (fun _ => h) rfl rfl (fun i hi ih => ?_) ?_
    · have hw := hm.1.2.2.2.1 i hi
      refine V_iload_n rfl rfl ?_
      refine V_aload_n rfl rfl ?_
      refine V_getI rfl rfl (by first | assumption | exact blkW_0 | exact bAt_0 (by assumption) | rfl) (by rfl) (by first | exact mp_nS (by assumption) | rfl) ?_
      refine V_icmp_geF rfl (nI_ge hi (by omega)) ?_
      refine V_aload_n rfl rfl ?_
      refine V_getI rfl rfl (by first | assumption | exact blkW_0 | exact bAt_0 (by assumption) | rfl) (by rfl) (by first | rfl) ?_
      refine V_iload_n rfl rfl ?_
      refine V_callSi rfl rfl (Or.inl rfl) m_MD_has_w m_MD_has_x rfl rfl (s_mhas _ (by first | omega | assumption)) (by decide) rfl (Nat.le_of_ble_eq_true rfl) ?_
      refine V_if_eqF rfl (b2_ne0.mpr ho) ?_
      refine V_iload_n rfl rfl ?_
      refine V_aload_n rfl rfl ?_
      refine V_getfield rfl rfl (by first | assumption | exact blkW_0 | exact bAt_0 (by assumption) | rfl) (by rfl) ?_
      refine V_iload_n rfl rfl ?_
      refine V_iald rfl (by first | assumption | exact blkW_i rfl rfl | exact blkW_z rfl rfl | exact bAt_i (by assumption) rfl rfl | exact bAt_z (by assumption) rfl rfl | rfl) (by first | with_reducible rfl | exact nI_add 2 _ | exact nI_add 26 _ | exact fa_lit _ | assumption) (by first | omega | assumption | decide) (by first | decide | omega | assumption) (by first | exact mp_isC (by assumption) (by first | omega | assumption) | exact mp_par (by assumption) (by first | omega | assumption) | exact mp_abv (by assumption) (by first | omega | assumption) | exact mp_dep (by assumption) (by first | omega | assumption) | exact mp_bT (by assumption) (by first | omega | assumption) | exact mp_bM (by assumption) (by first | omega | assumption) | exact mp_sK (by assumption) (by first | omega | assumption) | exact mp_sB (by assumption) (by first | omega | assumption) | exact mp_sT (by assumption) (by first | omega | assumption) | exact mp_sM (by assumption) (by first | omega | assumption) | exact mp_cS (by assumption) (by first | omega | assumption) | rfl) ?_
      refine V_iload_n rfl rfl ?_
      refine V_icmp_ne rfl (fun h31 => ?_) (fun h31 => ?_)
      · refine V_iconst (v := 0) rfl (by decide) ?_
        refine V_ior rfl ?_
        refine V_is2 rfl (by first | rfl | assumption) ?_
        refine V_inc3 rfl (by first | exact mInc _ | exact mDcr _ | rfl) (by first | rfl | assumption) ?_
        refine V_goto rfl ?_
        rw [nI_eq (by omega) (by omega)] at h31
        exact V_wk ih (by simp only [orF_s]; simp [mWk, cnd, *])
      · refine V_aload_n rfl rfl ?_
        refine V_iload_n rfl rfl ?_
        refine V_callVi rfl rfl m_MD_doneBy_w m_MD_doneBy_x rfl (by decide) rfl (s_dnB (by first | assumption | exact blkW_at) (by assumption) _ (by first | omega | assumption)) (by decide) rfl (by first | assumption | exact blkW_0 | exact bAt_0 (by assumption) | rfl) (Nat.le_of_ble_eq_true rfl) ?_
        refine V_goto rfl ?_
        refine V_ior rfl ?_
        refine V_is2 rfl (by first | rfl | assumption) ?_
        refine V_inc3 rfl (by first | exact mInc _ | exact mDcr _ | rfl) (by first | rfl | assumption) ?_
        refine V_goto rfl ?_
        rw [nI_eq (by omega) (by omega)] at h31
        exact V_wk ih (by simp only [orF_s]; simp [mWk, cnd, *])
    · refine V_iload_n rfl rfl ?_
      refine V_aload_n rfl rfl ?_
      refine V_getI rfl rfl (by first | assumption | exact blkW_0 | exact bAt_0 (by assumption) | rfl) (by rfl) (by first | exact mp_nS (by assumption) | rfl) ?_
      refine V_icmp_geT rfl (nI_le (Nat.le_refl _) (by omega)) ?_
      refine V_iload_n rfl rfl ?_
      refine V_ireturn rfl rfl (by first | rfl | exact b2_nar _ | assumption | decide) ?_
      exact P_ret rfl rfl
set_option maxRecDepth 20000 in
set_option maxHeartbeats 1000000 in
theorem s_wG (hA : bAt 7 h md sc ar) (hm : MP p sc ar) (c : Nat) (S : Int32) (hc : c < nC p) : Mt g 6 m_MD_wouldGo [.ref md, .int (nI c), .int S] h sz u (Pi (b2 (wG (may p c S) (ar 15 (2 + c)))) h) sz u := by
  obtain ⟨hT, hB, hS, hC⟩ := hm.1.1
  refine Mt.of m_MD_wouldGo_w m_MD_wouldGo_x m_MD_wouldGo_c rfl rfl (ls := [.ref md, .int (nI c), .int S, .retAddr 0]) rfl ?_
  refine V_aload_n rfl rfl ?_
  refine V_getfield rfl rfl (by first | assumption | exact blkW_0 | exact bAt_0 (by assumption) | rfl) (by rfl) ?_
  refine V_iconst (v := 2) rfl (by decide) ?_
  refine V_iload_n rfl rfl ?_
  refine V_iadd rfl ?_
  refine V_iald rfl (by first | assumption | exact blkW_i rfl rfl | exact blkW_z rfl rfl | exact bAt_i (by assumption) rfl rfl | exact bAt_z (by assumption) rfl rfl | rfl) (by first | with_reducible rfl | exact nI_add 2 _ | exact nI_add 26 _ | exact fa_lit _ | assumption) (by first | omega | assumption | decide) (by first | decide | omega | assumption) (by first | exact mp_isC (by assumption) (by first | omega | assumption) | exact mp_par (by assumption) (by first | omega | assumption) | exact mp_abv (by assumption) (by first | omega | assumption) | exact mp_dep (by assumption) (by first | omega | assumption) | exact mp_bT (by assumption) (by first | omega | assumption) | exact mp_bM (by assumption) (by first | omega | assumption) | exact mp_sK (by assumption) (by first | omega | assumption) | exact mp_sB (by assumption) (by first | omega | assumption) | exact mp_sT (by assumption) (by first | omega | assumption) | exact mp_sM (by assumption) (by first | omega | assumption) | exact mp_cS (by assumption) (by first | omega | assumption) | rfl) ?_
  refine V_is3 rfl (by first | rfl | assumption) ?_
  refine V_iload_n rfl rfl ?_
  refine V_if_lt rfl (fun h10 => ?_) (fun h10 => ?_)
  · refine V_iconst (v := 0) rfl (by decide) ?_
    refine V_ireturn rfl rfl (by first | rfl | exact b2_nar _ | assumption | decide) ?_
    refine P_ret ?_ rfl
    simp [wG, b2, *]
  · refine V_aload_n rfl rfl ?_
    refine V_iload_n rfl rfl ?_
    refine V_iload_n rfl rfl ?_
    refine V_callVi rfl rfl m_MD_mayOf_w m_MD_mayOf_x rfl (by decide) rfl (s_may (by first | assumption | exact blkW_at) (by assumption) _ _ (by first | omega | assumption)) (by decide) rfl (by first | assumption | exact blkW_0 | exact bAt_0 (by assumption) | rfl) (Nat.le_of_ble_eq_true rfl) ?_
    refine V_iconst (v := 1) rfl (by decide) ?_
    refine V_iload_n rfl rfl ?_
    refine V_ishl rfl ?_
    refine V_icmp_eq rfl (fun h22 => ?_) (fun h22 => ?_)
    · refine V_iconst (v := 0) rfl (by decide) ?_
      refine V_ireturn rfl rfl (by first | rfl | exact b2_nar _ | assumption | decide) ?_
      refine P_ret ?_ rfl
      simp [wG, b2, *]
    · refine V_iconst (v := 1) rfl (by decide) ?_
      refine V_goto rfl ?_
      refine V_ireturn rfl rfl (by first | rfl | exact b2_nar _ | assumption | decide) ?_
      refine P_ret ?_ rfl
      simp [wG, b2, *]
set_option maxRecDepth 20000 in
set_option maxHeartbeats 1000000 in
theorem s_hrt (hA : bAt 7 h md sc ar) (hm : MP p sc ar) (t : Nat) (ht : t < nT p) : Mt g 7 m_MD_hurts [.ref md, .int (nI t)] h sz u (Pi (hrt p (ar 15) t) h) sz u := by
  obtain ⟨hT, hB, hS, hC⟩ := hm.1.1
  refine Mt.of m_MD_hurts_w m_MD_hurts_x m_MD_hurts_c rfl rfl (ls := [.ref md, .int (nI t), .retAddr 0, .retAddr 0]) rfl ?_
  refine V_iconst (v := 0) rfl (by decide) ?_
  refine V_is2 rfl (by first | rfl | assumption) ?_
  refine V_iconst (v := 0) rfl (by decide) ?_
  refine V_is3 rfl (by first | rfl | assumption) ?_
  cases ho : bt (ar 15 0) t
  · have hd : hrt p (ar 15) t = setF (nC p) fun c => wG (may p c (ar 15 0 ||| abv p t)) (ar 15 (2 + c)) := by unfold hrt; rw [ho]; rfl
    rw [hd]
    refine V_for2 (nC p) (fun i => [.ref md, .int (nI t), .int (setF i fun c => wG (may p c (ar 15 0 ||| abv p t)) (ar 15 (2 + c))), .int (nI i)]) (fun _ => h) rfl rfl (fun i hi ih => ?_) ?_
    · refine V_iload_n rfl rfl ?_
      refine V_aload_n rfl rfl ?_
      refine V_getI rfl rfl (by first | assumption | exact blkW_0 | exact bAt_0 (by assumption) | rfl) (by rfl) (by first | exact mp_nC (by assumption) | rfl) ?_
      refine V_icmp_geF rfl (nI_ge hi (by omega)) ?_
      refine V_aload_n rfl rfl ?_
      refine V_getfield rfl rfl (by first | assumption | exact blkW_0 | exact bAt_0 (by assumption) | rfl) (by rfl) ?_
      refine V_iconst (v := 0) rfl (by decide) ?_
      refine V_iald rfl (by first | assumption | exact blkW_i rfl rfl | exact blkW_z rfl rfl | exact bAt_i (by assumption) rfl rfl | exact bAt_z (by assumption) rfl rfl | rfl) (by first | with_reducible rfl | exact nI_add 2 _ | exact nI_add 26 _ | exact fa_lit _ | assumption) (by first | omega | assumption | decide) (by first | decide | omega | assumption) (by first | exact mp_isC (by assumption) (by first | omega | assumption) | exact mp_par (by assumption) (by first | omega | assumption) | exact mp_abv (by assumption) (by first | omega | assumption) | exact mp_dep (by assumption) (by first | omega | assumption) | exact mp_bT (by assumption) (by first | omega | assumption) | exact mp_bM (by assumption) (by first | omega | assumption) | exact mp_sK (by assumption) (by first | omega | assumption) | exact mp_sB (by assumption) (by first | omega | assumption) | exact mp_sT (by assumption) (by first | omega | assumption) | exact mp_sM (by assumption) (by first | omega | assumption) | exact mp_cS (by assumption) (by first | omega | assumption) | rfl) ?_
      refine V_iload_n rfl rfl ?_
      refine V_callSi rfl rfl (Or.inl rfl) m_MD_has_w m_MD_has_x rfl rfl (s_mhas _ (by first | omega | assumption)) (by decide) rfl (Nat.le_of_ble_eq_true rfl) ?_
      refine V_if_neF rfl (b2_f ho) ?_
      refine V_iload_n rfl rfl ?_
      refine V_aload_n rfl rfl ?_
      refine V_iload_n rfl rfl ?_
      refine V_aload_n rfl rfl ?_
      refine V_getfield rfl rfl (by first | assumption | exact blkW_0 | exact bAt_0 (by assumption) | rfl) (by rfl) ?_
      refine V_iconst (v := 0) rfl (by decide) ?_
      refine V_iald rfl (by first | assumption | exact blkW_i rfl rfl | exact blkW_z rfl rfl | exact bAt_i (by assumption) rfl rfl | exact bAt_z (by assumption) rfl rfl | rfl) (by first | with_reducible rfl | exact nI_add 2 _ | exact nI_add 26 _ | exact fa_lit _ | assumption) (by first | omega | assumption | decide) (by first | decide | omega | assumption) (by first | exact mp_isC (by assumption) (by first | omega | assumption) | exact mp_par (by assumption) (by first | omega | assumption) | exact mp_abv (by assumption) (by first | omega | assumption) | exact mp_dep (by assumption) (by first | omega | assumption) | exact mp_bT (by assumption) (by first | omega | assumption) | exact mp_bM (by assumption) (by first | omega | assumption) | exact mp_sK (by assumption) (by first | omega | assumption) | exact mp_sB (by assumption) (by first | omega | assumption) | exact mp_sT (by assumption) (by first | omega | assumption) | exact mp_sM (by assumption) (by first | omega | assumption) | exact mp_cS (by assumption) (by first | omega | assumption) | rfl) ?_
      refine V_aload_n rfl rfl ?_
      refine V_getfield rfl rfl (by first | assumption | exact blkW_0 | exact bAt_0 (by assumption) | rfl) (by rfl) ?_
      refine V_iload_n rfl rfl ?_
      refine V_iald rfl (by first | assumption | exact blkW_i rfl rfl | exact blkW_z rfl rfl | exact bAt_i (by assumption) rfl rfl | exact bAt_z (by assumption) rfl rfl | rfl) (by first | with_reducible rfl | exact nI_add 2 _ | exact nI_add 26 _ | exact fa_lit _ | assumption) (by first | omega | assumption | decide) (by first | decide | omega | assumption) (by first | exact mp_isC (by assumption) (by first | omega | assumption) | exact mp_par (by assumption) (by first | omega | assumption) | exact mp_abv (by assumption) (by first | omega | assumption) | exact mp_dep (by assumption) (by first | omega | assumption) | exact mp_bT (by assumption) (by first | omega | assumption) | exact mp_bM (by assumption) (by first | omega | assumption) | exact mp_sK (by assumption) (by first | omega | assumption) | exact mp_sB (by assumption) (by first | omega | assumption) | exact mp_sT (by assumption) (by first | omega | assumption) | exact mp_sM (by assumption) (by first | omega | assumption) | exact mp_cS (by assumption) (by first | omega | assumption) | rfl) ?_
      refine V_ior rfl ?_
      refine V_callVi rfl rfl m_MD_wouldGo_w m_MD_wouldGo_x rfl (by decide) rfl (s_wG (by first | assumption | exact blkW_at) (by assumption) _ _ (by first | omega | assumption)) (by decide) rfl (by first | assumption | exact blkW_0 | exact bAt_0 (by assumption) | rfl) (Nat.le_of_ble_eq_true rfl) ?_
      first | refine V_ifb_eq rfl (fun h44 => ?_) (fun h44 => ?_) | refine V_if_eq rfl (fun h44 => ?_) (fun h44 => ?_)
      · refine V_iconst (v := 0) rfl (by decide) ?_
        refine V_ior rfl ?_
        refine V_is2 rfl (by first | rfl | assumption) ?_
        refine V_inc3 rfl (by first | exact mInc _ | exact mDcr _ | rfl) (by first | rfl | assumption) ?_
        refine V_goto rfl ?_
        exact V_wk ih (by simp [mWk, setF_s, cnd, bI, *])
      · refine V_iconst (v := 1) rfl (by decide) ?_
        refine V_iload_n rfl rfl ?_
        refine V_ishl rfl ?_
        refine V_goto rfl ?_
        refine V_ior rfl ?_
        refine V_is2 rfl (by first | rfl | assumption) ?_
        refine V_inc3 rfl (by first | exact mInc _ | exact mDcr _ | rfl) (by first | rfl | assumption) ?_
        refine V_goto rfl ?_
        exact V_wk ih (by simp [mWk, setF_s, cnd, bI, *])
    · refine V_iload_n rfl rfl ?_
      refine V_aload_n rfl rfl ?_
      refine V_getI rfl rfl (by first | assumption | exact blkW_0 | exact bAt_0 (by assumption) | rfl) (by rfl) (by first | exact mp_nC (by assumption) | rfl) ?_
      refine V_icmp_geT rfl (nI_le (Nat.le_refl _) (by omega)) ?_
      refine V_iload_n rfl rfl ?_
      refine V_ireturn rfl rfl (by first | rfl | exact b2_nar _ | assumption | decide) ?_
      exact P_ret rfl rfl
  · refine V_iload_n rfl rfl ?_
    refine V_aload_n rfl rfl ?_
    refine V_getI rfl rfl (by first | assumption | exact blkW_0 | exact bAt_0 (by assumption) | rfl) (by rfl) (by first | exact mp_nC (by assumption) | rfl) ?_
    refine V_icmp_ge rfl (fun h9 => ?_) (fun h9 => ?_)
    · refine V_iload_n rfl rfl ?_
      refine V_ireturn rfl rfl (by first | rfl | exact b2_nar _ | assumption | decide) ?_
      exact P_ret (by unfold hrt; rw [ho]; rfl) rfl
    · refine V_aload_n rfl rfl ?_
      refine V_getfield rfl rfl (by first | assumption | exact blkW_0 | exact bAt_0 (by assumption) | rfl) (by rfl) ?_
      refine V_iconst (v := 0) rfl (by decide) ?_
      refine V_iald rfl (by first | assumption | exact blkW_i rfl rfl | exact blkW_z rfl rfl | exact bAt_i (by assumption) rfl rfl | exact bAt_z (by assumption) rfl rfl | rfl) (by first | with_reducible rfl | exact nI_add 2 _ | exact nI_add 26 _ | exact fa_lit _ | assumption) (by first | omega | assumption | decide) (by first | decide | omega | assumption) (by first | exact mp_isC (by assumption) (by first | omega | assumption) | exact mp_par (by assumption) (by first | omega | assumption) | exact mp_abv (by assumption) (by first | omega | assumption) | exact mp_dep (by assumption) (by first | omega | assumption) | exact mp_bT (by assumption) (by first | omega | assumption) | exact mp_bM (by assumption) (by first | omega | assumption) | exact mp_sK (by assumption) (by first | omega | assumption) | exact mp_sB (by assumption) (by first | omega | assumption) | exact mp_sT (by assumption) (by first | omega | assumption) | exact mp_sM (by assumption) (by first | omega | assumption) | exact mp_cS (by assumption) (by first | omega | assumption) | rfl) ?_
      refine V_iload_n rfl rfl ?_
      refine V_callSi rfl rfl (Or.inl rfl) m_MD_has_w m_MD_has_x rfl rfl (s_mhas _ (by first | omega | assumption)) (by decide) rfl (Nat.le_of_ble_eq_true rfl) ?_
      refine V_if_neT rfl (b2_ne0.mpr ho) ?_
      refine V_iload_n rfl rfl ?_
      refine V_ireturn rfl rfl (by first | rfl | exact b2_nar _ | assumption | decide) ?_
      exact P_ret (by unfold hrt; rw [ho]; rfl) rfl
set_option maxRecDepth 20000 in
set_option maxHeartbeats 1000000 in
theorem s_brk (hA : bAt 7 h md sc ar) (hm : MP p sc ar) (c : Nat) (hc : c < nC p) : Mt g 7 m_MD_breaks [.ref md, .int (nI c)] h sz u (Pi (brk p (ar 15) c) h) sz u := by
  obtain ⟨hT, hB, hS, hC⟩ := hm.1.1
  refine Mt.of m_MD_breaks_w m_MD_breaks_x m_MD_breaks_c rfl rfl (ls := [.ref md, .int (nI c), .retAddr 0, .retAddr 0]) rfl ?_
  refine V_iconst (v := 0) rfl (by decide) ?_
  refine V_is2 rfl (by first | rfl | assumption) ?_
  refine V_iconst (v := 0) rfl (by decide) ?_
  refine V_is3 rfl (by first | rfl | assumption) ?_
  refine V_for2 (nT p) (fun i => [.ref md, .int (nI c), .int (setF i fun t => !bt (ar 15 0) t && wG (may p c (ar 15 0 ||| abv p t)) (ar 15 (2 + c))), .int (nI i)]) (fun _ => h) rfl rfl (fun i hi ih => ?_) ?_
  · refine V_iload_n rfl rfl ?_
    refine V_aload_n rfl rfl ?_
    refine V_getI rfl rfl (by first | assumption | exact blkW_0 | exact bAt_0 (by assumption) | rfl) (by rfl) (by first | exact mp_nT (by assumption) | rfl) ?_
    refine V_icmp_geF rfl (nI_ge hi (by omega)) ?_
    refine V_iload_n rfl rfl ?_
    refine V_aload_n rfl rfl ?_
    refine V_getfield rfl rfl (by first | assumption | exact blkW_0 | exact bAt_0 (by assumption) | rfl) (by rfl) ?_
    refine V_iconst (v := 0) rfl (by decide) ?_
    refine V_iald rfl (by first | assumption | exact blkW_i rfl rfl | exact blkW_z rfl rfl | exact bAt_i (by assumption) rfl rfl | exact bAt_z (by assumption) rfl rfl | rfl) (by first | with_reducible rfl | exact nI_add 2 _ | exact nI_add 26 _ | exact fa_lit _ | assumption) (by first | omega | assumption | decide) (by first | decide | omega | assumption) (by first | exact mp_isC (by assumption) (by first | omega | assumption) | exact mp_par (by assumption) (by first | omega | assumption) | exact mp_abv (by assumption) (by first | omega | assumption) | exact mp_dep (by assumption) (by first | omega | assumption) | exact mp_bT (by assumption) (by first | omega | assumption) | exact mp_bM (by assumption) (by first | omega | assumption) | exact mp_sK (by assumption) (by first | omega | assumption) | exact mp_sB (by assumption) (by first | omega | assumption) | exact mp_sT (by assumption) (by first | omega | assumption) | exact mp_sM (by assumption) (by first | omega | assumption) | exact mp_cS (by assumption) (by first | omega | assumption) | rfl) ?_
    refine V_iload_n rfl rfl ?_
    refine V_callSi rfl rfl (Or.inl rfl) m_MD_has_w m_MD_has_x rfl rfl (s_mhas _ (by first | omega | assumption)) (by decide) rfl (Nat.le_of_ble_eq_true rfl) ?_
    first | refine V_ifb_ne rfl (fun h23 => ?_) (fun h23 => ?_) | refine V_if_ne rfl (fun h23 => ?_) (fun h23 => ?_)
    · refine V_iconst (v := 0) rfl (by decide) ?_
      refine V_ior rfl ?_
      refine V_is2 rfl (by first | rfl | assumption) ?_
      refine V_inc3 rfl (by first | exact mInc _ | exact mDcr _ | rfl) (by first | rfl | assumption) ?_
      refine V_goto rfl ?_
      exact V_wk ih (by simp [mWk, setF_s, cnd, bI, *])
    · refine V_aload_n rfl rfl ?_
      refine V_iload_n rfl rfl ?_
      refine V_aload_n rfl rfl ?_
      refine V_getfield rfl rfl (by first | assumption | exact blkW_0 | exact bAt_0 (by assumption) | rfl) (by rfl) ?_
      refine V_iconst (v := 0) rfl (by decide) ?_
      refine V_iald rfl (by first | assumption | exact blkW_i rfl rfl | exact blkW_z rfl rfl | exact bAt_i (by assumption) rfl rfl | exact bAt_z (by assumption) rfl rfl | rfl) (by first | with_reducible rfl | exact nI_add 2 _ | exact nI_add 26 _ | exact fa_lit _ | assumption) (by first | omega | assumption | decide) (by first | decide | omega | assumption) (by first | exact mp_isC (by assumption) (by first | omega | assumption) | exact mp_par (by assumption) (by first | omega | assumption) | exact mp_abv (by assumption) (by first | omega | assumption) | exact mp_dep (by assumption) (by first | omega | assumption) | exact mp_bT (by assumption) (by first | omega | assumption) | exact mp_bM (by assumption) (by first | omega | assumption) | exact mp_sK (by assumption) (by first | omega | assumption) | exact mp_sB (by assumption) (by first | omega | assumption) | exact mp_sT (by assumption) (by first | omega | assumption) | exact mp_sM (by assumption) (by first | omega | assumption) | exact mp_cS (by assumption) (by first | omega | assumption) | rfl) ?_
      refine V_aload_n rfl rfl ?_
      refine V_getfield rfl rfl (by first | assumption | exact blkW_0 | exact bAt_0 (by assumption) | rfl) (by rfl) ?_
      refine V_iload_n rfl rfl ?_
      refine V_iald rfl (by first | assumption | exact blkW_i rfl rfl | exact blkW_z rfl rfl | exact bAt_i (by assumption) rfl rfl | exact bAt_z (by assumption) rfl rfl | rfl) (by first | with_reducible rfl | exact nI_add 2 _ | exact nI_add 26 _ | exact fa_lit _ | assumption) (by first | omega | assumption | decide) (by first | decide | omega | assumption) (by first | exact mp_isC (by assumption) (by first | omega | assumption) | exact mp_par (by assumption) (by first | omega | assumption) | exact mp_abv (by assumption) (by first | omega | assumption) | exact mp_dep (by assumption) (by first | omega | assumption) | exact mp_bT (by assumption) (by first | omega | assumption) | exact mp_bM (by assumption) (by first | omega | assumption) | exact mp_sK (by assumption) (by first | omega | assumption) | exact mp_sB (by assumption) (by first | omega | assumption) | exact mp_sT (by assumption) (by first | omega | assumption) | exact mp_sM (by assumption) (by first | omega | assumption) | exact mp_cS (by assumption) (by first | omega | assumption) | rfl) ?_
      refine V_ior rfl ?_
      refine V_callVi rfl rfl m_MD_wouldGo_w m_MD_wouldGo_x rfl (by decide) rfl (s_wG (by first | assumption | exact blkW_at) (by assumption) _ _ (by first | omega | assumption)) (by decide) rfl (by first | assumption | exact blkW_0 | exact bAt_0 (by assumption) | rfl) (Nat.le_of_ble_eq_true rfl) ?_
      first | refine V_ifb_eq rfl (fun h44 => ?_) (fun h44 => ?_) | refine V_if_eq rfl (fun h44 => ?_) (fun h44 => ?_)
      · refine V_iconst (v := 0) rfl (by decide) ?_
        refine V_ior rfl ?_
        refine V_is2 rfl (by first | rfl | assumption) ?_
        refine V_inc3 rfl (by first | exact mInc _ | exact mDcr _ | rfl) (by first | rfl | assumption) ?_
        refine V_goto rfl ?_
        exact V_wk ih (by simp [mWk, setF_s, cnd, bI, *])
      · refine V_iconst (v := 1) rfl (by decide) ?_
        refine V_iload_n rfl rfl ?_
        refine V_ishl rfl ?_
        refine V_goto rfl ?_
        refine V_ior rfl ?_
        refine V_is2 rfl (by first | rfl | assumption) ?_
        refine V_inc3 rfl (by first | exact mInc _ | exact mDcr _ | rfl) (by first | rfl | assumption) ?_
        refine V_goto rfl ?_
        exact V_wk ih (by simp [mWk, setF_s, cnd, bI, *])
  · refine V_iload_n rfl rfl ?_
    refine V_aload_n rfl rfl ?_
    refine V_getI rfl rfl (by first | assumption | exact blkW_0 | exact bAt_0 (by assumption) | rfl) (by rfl) (by first | exact mp_nT (by assumption) | rfl) ?_
    refine V_icmp_geT rfl (nI_le (Nat.le_refl _) (by omega)) ?_
    refine V_iload_n rfl rfl ?_
    refine V_ireturn rfl rfl (by first | rfl | exact b2_nar _ | assumption | decide) ?_
    exact P_ret rfl rfl
set_option maxRecDepth 20000 in
set_option maxHeartbeats 1000000 in
theorem s_ovr (hA : bAt 7 h md sc ar) (hm : MP p sc ar) (b : Nat) (hb : b < nB p) : Mt g 4 m_MD_over [.ref md, .int (nI b)] h sz u (Pi (ovr p b) h) sz u := by
  obtain ⟨hT, hB, hS, hC⟩ := hm.1.1
  refine Mt.of m_MD_over_w m_MD_over_x m_MD_over_c rfl rfl (ls := [.ref md, .int (nI b), .retAddr 0]) rfl ?_
  have hw := hm.1.2.2.1 b hb
  have hx : par p (bT p b) = -1 ∨ ∃ q, q < nT p ∧ par p (bT p b) = nI q := by
    rcases par_nI hm.1 hw.1 with e | ⟨q, q1, q2, q3⟩
    · exact Or.inl e
    · exact Or.inr ⟨q, q2, q3⟩
  refine V_aload_n rfl rfl ?_
  refine V_getfield rfl rfl (by first | assumption | exact blkW_0 | exact bAt_0 (by assumption) | rfl) (by rfl) ?_
  refine V_iload_n rfl rfl ?_
  refine V_iald rfl (by first | assumption | exact blkW_i rfl rfl | exact blkW_z rfl rfl | exact bAt_i (by assumption) rfl rfl | exact bAt_z (by assumption) rfl rfl | rfl) (by first | with_reducible rfl | exact nI_add 2 _ | exact nI_add 26 _ | exact fa_lit _ | assumption) (by first | omega | assumption | decide) (by first | decide | omega | assumption) (by first | exact mp_isC (by assumption) (by first | omega | assumption) | exact mp_par (by assumption) (by first | omega | assumption) | exact mp_abv (by assumption) (by first | omega | assumption) | exact mp_dep (by assumption) (by first | omega | assumption) | exact mp_bT (by assumption) (by first | omega | assumption) | exact mp_bM (by assumption) (by first | omega | assumption) | exact mp_sK (by assumption) (by first | omega | assumption) | exact mp_sB (by assumption) (by first | omega | assumption) | exact mp_sT (by assumption) (by first | omega | assumption) | exact mp_sM (by assumption) (by first | omega | assumption) | exact mp_cS (by assumption) (by first | omega | assumption) | rfl) ?_
  refine V_is2 rfl (by first | rfl | assumption) ?_
  refine V_aload_n rfl rfl ?_
  refine V_getfield rfl rfl (by first | assumption | exact blkW_0 | exact bAt_0 (by assumption) | rfl) (by rfl) ?_
  refine V_iload_n rfl rfl ?_
  refine V_bald rfl (by first | assumption | exact blkW_i rfl rfl | exact blkW_z rfl rfl | exact bAt_i (by assumption) rfl rfl | exact bAt_z (by assumption) rfl rfl | rfl) (by first | with_reducible rfl | exact nI_add 2 _ | exact nI_add 26 _ | exact fa_lit _ | assumption) (by first | omega | assumption | decide) (by first | decide | omega | assumption) (by first | exact mp_isC (by assumption) (by first | omega | assumption) | exact mp_par (by assumption) (by first | omega | assumption) | exact mp_abv (by assumption) (by first | omega | assumption) | exact mp_dep (by assumption) (by first | omega | assumption) | exact mp_bT (by assumption) (by first | omega | assumption) | exact mp_bM (by assumption) (by first | omega | assumption) | exact mp_sK (by assumption) (by first | omega | assumption) | exact mp_sB (by assumption) (by first | omega | assumption) | exact mp_sT (by assumption) (by first | omega | assumption) | exact mp_sM (by assumption) (by first | omega | assumption) | exact mp_cS (by assumption) (by first | omega | assumption) | rfl) ?_
  first | refine V_ifb_eq rfl (fun h13 => ?_) (fun h13 => ?_) | refine V_if_eq rfl (fun h13 => ?_) (fun h13 => ?_)
  · refine V_iconst (v := (-1)) rfl (by decide) ?_
    refine V_ireturn rfl rfl (by first | rfl | exact b2_nar _ | assumption | decide) ?_
    refine P_ret ?_ rfl
    simp [ovr, *]
  · refine V_aload_n rfl rfl ?_
    refine V_iload_n rfl rfl ?_
    refine V_aload_n rfl rfl ?_
    refine V_getfield rfl rfl (by first | assumption | exact blkW_0 | exact bAt_0 (by assumption) | rfl) (by rfl) ?_
    refine V_iload_n rfl rfl ?_
    refine V_iald rfl (by first | assumption | exact blkW_i rfl rfl | exact blkW_z rfl rfl | exact bAt_i (by assumption) rfl rfl | exact bAt_z (by assumption) rfl rfl | rfl) (by first | with_reducible rfl | exact nI_add 2 _ | exact nI_add 26 _ | exact fa_lit _ | assumption) (by first | omega | assumption | decide) (by first | decide | omega | assumption) (by first | exact mp_isC (by assumption) (by first | omega | assumption) | exact mp_par (by assumption) (by first | omega | assumption) | exact mp_abv (by assumption) (by first | omega | assumption) | exact mp_dep (by assumption) (by first | omega | assumption) | exact mp_bT (by assumption) (by first | omega | assumption) | exact mp_bM (by assumption) (by first | omega | assumption) | exact mp_sK (by assumption) (by first | omega | assumption) | exact mp_sB (by assumption) (by first | omega | assumption) | exact mp_sT (by assumption) (by first | omega | assumption) | exact mp_sM (by assumption) (by first | omega | assumption) | exact mp_cS (by assumption) (by first | omega | assumption) | rfl) ?_
    refine V_aload_n rfl rfl ?_
    refine V_getfield rfl rfl (by first | assumption | exact blkW_0 | exact bAt_0 (by assumption) | rfl) (by rfl) ?_
    refine V_iload_n rfl rfl ?_
    refine V_iald rfl (by first | assumption | exact blkW_i rfl rfl | exact blkW_z rfl rfl | exact bAt_i (by assumption) rfl rfl | exact bAt_z (by assumption) rfl rfl | rfl) (by first | with_reducible rfl | exact nI_add 2 _ | exact nI_add 26 _ | exact fa_lit _ | assumption) (by first | omega | assumption | decide) (by first | decide | omega | assumption) (by first | exact mp_isC (by assumption) (by first | omega | assumption) | exact mp_par (by assumption) (by first | omega | assumption) | exact mp_abv (by assumption) (by first | omega | assumption) | exact mp_dep (by assumption) (by first | omega | assumption) | exact mp_bT (by assumption) (by first | omega | assumption) | exact mp_bM (by assumption) (by first | omega | assumption) | exact mp_sK (by assumption) (by first | omega | assumption) | exact mp_sB (by assumption) (by first | omega | assumption) | exact mp_sT (by assumption) (by first | omega | assumption) | exact mp_sM (by assumption) (by first | omega | assumption) | exact mp_cS (by assumption) (by first | omega | assumption) | rfl) ?_
    refine V_callVi rfl rfl m_MD_foundFrom_w m_MD_foundFrom_x rfl (by decide) rfl (s_fndU (by first | assumption | exact blkW_at) (by assumption) _ _ (by first | omega | assumption) (by first | omega | assumption) _ (by assumption)) (by decide) rfl (by first | assumption | exact blkW_0 | exact bAt_0 (by assumption) | rfl) (Nat.le_of_ble_eq_true rfl) ?_
    refine V_goto rfl ?_
    refine V_ireturn rfl rfl (by first | rfl | exact b2_nar _ | assumption | decide) ?_
    refine P_ret ?_ rfl
    simp [ovr, *]
set_option maxRecDepth 20000 in
set_option maxHeartbeats 1000000 in
theorem s_dos (hA : bAt 7 h md sc ar) (hm : MP p sc ar) (c : Nat) (hc : c < nC p) : Mt g 6 m_MD_does [.ref md, .int (nI c)] h sz u (Pi (dos p (sc 34) (sc 35) c) h) sz u := by
  obtain ⟨hT, hB, hS, hC⟩ := hm.1.1
  refine Mt.of m_MD_does_w m_MD_does_x m_MD_does_c rfl rfl (ls := [.ref md, .int (nI c)]) rfl ?_
  have hcs := (hm.1.2.2.2.2 c hc).1
  have hw := hm.1.2.2.2.1 (cS p c) hcs
  refine V_aload_n rfl rfl ?_
  refine V_getI rfl rfl (by first | assumption | exact blkW_0 | exact bAt_0 (by assumption) | rfl) (by rfl) (by first | rfl) ?_
  refine V_aload_n rfl rfl ?_
  refine V_getfield rfl rfl (by first | assumption | exact blkW_0 | exact bAt_0 (by assumption) | rfl) (by rfl) ?_
  refine V_aload_n rfl rfl ?_
  refine V_getfield rfl rfl (by first | assumption | exact blkW_0 | exact bAt_0 (by assumption) | rfl) (by rfl) ?_
  refine V_iload_n rfl rfl ?_
  refine V_iald rfl (by first | assumption | exact blkW_i rfl rfl | exact blkW_z rfl rfl | exact bAt_i (by assumption) rfl rfl | exact bAt_z (by assumption) rfl rfl | rfl) (by first | with_reducible rfl | exact nI_add 2 _ | exact nI_add 26 _ | exact fa_lit _ | assumption) (by first | omega | assumption | decide) (by first | decide | omega | assumption) (by first | exact mp_isC (by assumption) (by first | omega | assumption) | exact mp_par (by assumption) (by first | omega | assumption) | exact mp_abv (by assumption) (by first | omega | assumption) | exact mp_dep (by assumption) (by first | omega | assumption) | exact mp_bT (by assumption) (by first | omega | assumption) | exact mp_bM (by assumption) (by first | omega | assumption) | exact mp_sK (by assumption) (by first | omega | assumption) | exact mp_sB (by assumption) (by first | omega | assumption) | exact mp_sT (by assumption) (by first | omega | assumption) | exact mp_sM (by assumption) (by first | omega | assumption) | exact mp_cS (by assumption) (by first | omega | assumption) | rfl) ?_
  refine V_iald rfl (by first | assumption | exact blkW_i rfl rfl | exact blkW_z rfl rfl | exact bAt_i (by assumption) rfl rfl | exact bAt_z (by assumption) rfl rfl | rfl) (by first | with_reducible rfl | exact nI_add 2 _ | exact nI_add 26 _ | exact fa_lit _ | assumption) (by first | omega | assumption | decide) (by first | decide | omega | assumption) (by first | exact mp_isC (by assumption) (by first | omega | assumption) | exact mp_par (by assumption) (by first | omega | assumption) | exact mp_abv (by assumption) (by first | omega | assumption) | exact mp_dep (by assumption) (by first | omega | assumption) | exact mp_bT (by assumption) (by first | omega | assumption) | exact mp_bM (by assumption) (by first | omega | assumption) | exact mp_sK (by assumption) (by first | omega | assumption) | exact mp_sB (by assumption) (by first | omega | assumption) | exact mp_sT (by assumption) (by first | omega | assumption) | exact mp_sM (by assumption) (by first | omega | assumption) | exact mp_cS (by assumption) (by first | omega | assumption) | rfl) ?_
  refine V_callSi rfl rfl (Or.inl rfl) m_MD_has_w m_MD_has_x rfl rfl (s_mhas _ (by first | omega | assumption)) (by decide) rfl (Nat.le_of_ble_eq_true rfl) ?_
  first | refine V_ifb_eq rfl (fun h18 => ?_) (fun h18 => ?_) | refine V_if_eq rfl (fun h18 => ?_) (fun h18 => ?_)
  · refine V_iconst (v := 0) rfl (by decide) ?_
    refine V_ireturn rfl rfl (by first | rfl | exact b2_nar _ | assumption | decide) ?_
    refine P_ret ?_ rfl
    simp [dos, *]
  · refine V_aload_n rfl rfl ?_
    refine V_aload_n rfl rfl ?_
    refine V_getfield rfl rfl (by first | assumption | exact blkW_0 | exact bAt_0 (by assumption) | rfl) (by rfl) ?_
    refine V_iload_n rfl rfl ?_
    refine V_iald rfl (by first | assumption | exact blkW_i rfl rfl | exact blkW_z rfl rfl | exact bAt_i (by assumption) rfl rfl | exact bAt_z (by assumption) rfl rfl | rfl) (by first | with_reducible rfl | exact nI_add 2 _ | exact nI_add 26 _ | exact fa_lit _ | assumption) (by first | omega | assumption | decide) (by first | decide | omega | assumption) (by first | exact mp_isC (by assumption) (by first | omega | assumption) | exact mp_par (by assumption) (by first | omega | assumption) | exact mp_abv (by assumption) (by first | omega | assumption) | exact mp_dep (by assumption) (by first | omega | assumption) | exact mp_bT (by assumption) (by first | omega | assumption) | exact mp_bM (by assumption) (by first | omega | assumption) | exact mp_sK (by assumption) (by first | omega | assumption) | exact mp_sB (by assumption) (by first | omega | assumption) | exact mp_sT (by assumption) (by first | omega | assumption) | exact mp_sM (by assumption) (by first | omega | assumption) | exact mp_cS (by assumption) (by first | omega | assumption) | rfl) ?_
    refine V_callVi rfl rfl m_MD_doneBy_w m_MD_doneBy_x rfl (by decide) rfl (s_dnB (by first | assumption | exact blkW_at) (by assumption) _ (by first | omega | assumption)) (by decide) rfl (by first | assumption | exact blkW_0 | exact bAt_0 (by assumption) | rfl) (Nat.le_of_ble_eq_true rfl) ?_
    refine V_goto rfl ?_
    refine V_ireturn rfl rfl (by first | rfl | exact b2_nar _ | assumption | decide) ?_
    refine P_ret ?_ rfl
    simp [dos, *]
set_option maxRecDepth 20000 in
set_option maxHeartbeats 1000000 in
theorem s_cof (hA : bAt 7 h md sc ar) (hm : MP p sc ar) (b : Nat) (hb : b < 32) : Mt g 7 m_MD_callersOf [.ref md, .int (nI b)] h sz u (Pi (setF (nB p) fun x => bt (clB p (sc 34) (sc 35) x) b) h) sz u := by
  obtain ⟨hT, hB, hS, hC⟩ := hm.1.1
  refine Mt.of m_MD_callersOf_w m_MD_callersOf_x m_MD_callersOf_c rfl rfl (ls := [.ref md, .int (nI b), .retAddr 0, .retAddr 0]) rfl ?_
  refine V_iconst (v := 0) rfl (by decide) ?_
  refine V_is2 rfl (by first | rfl | assumption) ?_
  refine V_iconst (v := 0) rfl (by decide) ?_
  refine V_is3 rfl (by first | rfl | assumption) ?_
  refine V_for2 (nB p) (fun i => [.ref md, .int (nI b), .int (setF i fun x => bt (clB p (sc 34) (sc 35) x) b), .int (nI i)]) (fun _ => h) rfl rfl (fun i hi ih => ?_) ?_
  · refine V_iload_n rfl rfl ?_
    refine V_aload_n rfl rfl ?_
    refine V_getI rfl rfl (by first | assumption | exact blkW_0 | exact bAt_0 (by assumption) | rfl) (by rfl) (by first | exact mp_nB (by assumption) | rfl) ?_
    refine V_icmp_geF rfl (nI_ge hi (by omega)) ?_
    refine V_iload_n rfl rfl ?_
    refine V_aload_n rfl rfl ?_
    refine V_iload_n rfl rfl ?_
    refine V_callVi rfl rfl m_MD_calledBy_w m_MD_calledBy_x rfl (by decide) rfl (s_clB (by first | assumption | exact blkW_at) (by assumption) _ (by first | omega | assumption)) (by decide) rfl (by first | assumption | exact blkW_0 | exact bAt_0 (by assumption) | rfl) (Nat.le_of_ble_eq_true rfl) ?_
    refine V_iload_n rfl rfl ?_
    refine V_callSi rfl rfl (Or.inl rfl) m_MD_has_w m_MD_has_x rfl rfl (s_mhas _ (by first | omega | assumption)) (by decide) rfl (Nat.le_of_ble_eq_true rfl) ?_
    first | refine V_ifb_eq rfl (fun h22 => ?_) (fun h22 => ?_) | refine V_if_eq rfl (fun h22 => ?_) (fun h22 => ?_)
    · refine V_iconst (v := 0) rfl (by decide) ?_
      refine V_ior rfl ?_
      refine V_is2 rfl (by first | rfl | assumption) ?_
      refine V_inc3 rfl (by first | exact mInc _ | exact mDcr _ | rfl) (by first | rfl | assumption) ?_
      refine V_goto rfl ?_
      exact V_wk ih (by simp [mWk, setF_s, cnd, bI, *])
    · refine V_iconst (v := 1) rfl (by decide) ?_
      refine V_iload_n rfl rfl ?_
      refine V_ishl rfl ?_
      refine V_goto rfl ?_
      refine V_ior rfl ?_
      refine V_is2 rfl (by first | rfl | assumption) ?_
      refine V_inc3 rfl (by first | exact mInc _ | exact mDcr _ | rfl) (by first | rfl | assumption) ?_
      refine V_goto rfl ?_
      exact V_wk ih (by simp [mWk, setF_s, cnd, bI, *])
  · refine V_iload_n rfl rfl ?_
    refine V_aload_n rfl rfl ?_
    refine V_getI rfl rfl (by first | assumption | exact blkW_0 | exact bAt_0 (by assumption) | rfl) (by rfl) (by first | exact mp_nB (by assumption) | rfl) ?_
    refine V_icmp_geT rfl (nI_le (Nat.le_refl _) (by omega)) ?_
    refine V_iload_n rfl rfl ?_
    refine V_ireturn rfl rfl (by first | rfl | exact b2_nar _ | assumption | decide) ?_
    exact P_ret rfl rfl
set_option maxRecDepth 20000 in
set_option maxHeartbeats 1000000 in
theorem s_canB (hA : bAt 7 h md sc ar) (hm : MP p sc ar) (c : Nat) (hc : c < nC p) : Mt g 6 m_MD_canBind [.ref md, .int (nI c)] h sz u (Pi (b2 (decide (ar 15 (2 + c) < 0) && oneB (may p c (ar 15 0)))) h) sz u := by
  obtain ⟨hT, hB, hS, hC⟩ := hm.1.1
  refine Mt.of m_MD_canBind_w m_MD_canBind_x m_MD_canBind_c rfl rfl (ls := [.ref md, .int (nI c)]) rfl ?_
  refine V_aload_n rfl rfl ?_
  refine V_getfield rfl rfl (by first | assumption | exact blkW_0 | exact bAt_0 (by assumption) | rfl) (by rfl) ?_
  refine V_iconst (v := 2) rfl (by decide) ?_
  refine V_iload_n rfl rfl ?_
  refine V_iadd rfl ?_
  refine V_iald rfl (by first | assumption | exact blkW_i rfl rfl | exact blkW_z rfl rfl | exact bAt_i (by assumption) rfl rfl | exact bAt_z (by assumption) rfl rfl | rfl) (by first | with_reducible rfl | exact nI_add 2 _ | exact nI_add 26 _ | exact fa_lit _ | assumption) (by first | omega | assumption | decide) (by first | decide | omega | assumption) (by first | exact mp_isC (by assumption) (by first | omega | assumption) | exact mp_par (by assumption) (by first | omega | assumption) | exact mp_abv (by assumption) (by first | omega | assumption) | exact mp_dep (by assumption) (by first | omega | assumption) | exact mp_bT (by assumption) (by first | omega | assumption) | exact mp_bM (by assumption) (by first | omega | assumption) | exact mp_sK (by assumption) (by first | omega | assumption) | exact mp_sB (by assumption) (by first | omega | assumption) | exact mp_sT (by assumption) (by first | omega | assumption) | exact mp_sM (by assumption) (by first | omega | assumption) | exact mp_cS (by assumption) (by first | omega | assumption) | rfl) ?_
  refine V_if_ge rfl (fun h8 => ?_) (fun h8 => ?_)
  · refine V_iconst (v := 0) rfl (by decide) ?_
    refine V_ireturn rfl rfl (by first | rfl | exact b2_nar _ | assumption | decide) ?_
    refine P_ret ?_ rfl
    first | (have h9 := fa_of_nlt2 h8; simp [b2, h9]; done) | simp_all [b2]
  · refine V_aload_n rfl rfl ?_
    refine V_iload_n rfl rfl ?_
    refine V_aload_n rfl rfl ?_
    refine V_getfield rfl rfl (by first | assumption | exact blkW_0 | exact bAt_0 (by assumption) | rfl) (by rfl) ?_
    refine V_iconst (v := 0) rfl (by decide) ?_
    refine V_iald rfl (by first | assumption | exact blkW_i rfl rfl | exact blkW_z rfl rfl | exact bAt_i (by assumption) rfl rfl | exact bAt_z (by assumption) rfl rfl | rfl) (by first | with_reducible rfl | exact nI_add 2 _ | exact nI_add 26 _ | exact fa_lit _ | assumption) (by first | omega | assumption | decide) (by first | decide | omega | assumption) (by first | exact mp_isC (by assumption) (by first | omega | assumption) | exact mp_par (by assumption) (by first | omega | assumption) | exact mp_abv (by assumption) (by first | omega | assumption) | exact mp_dep (by assumption) (by first | omega | assumption) | exact mp_bT (by assumption) (by first | omega | assumption) | exact mp_bM (by assumption) (by first | omega | assumption) | exact mp_sK (by assumption) (by first | omega | assumption) | exact mp_sB (by assumption) (by first | omega | assumption) | exact mp_sT (by assumption) (by first | omega | assumption) | exact mp_sM (by assumption) (by first | omega | assumption) | exact mp_cS (by assumption) (by first | omega | assumption) | rfl) ?_
    refine V_callVi rfl rfl m_MD_mayOf_w m_MD_mayOf_x rfl (by decide) rfl (s_may (by first | assumption | exact blkW_at) (by assumption) _ _ (by first | omega | assumption)) (by decide) rfl (by first | assumption | exact blkW_0 | exact bAt_0 (by assumption) | rfl) (Nat.le_of_ble_eq_true rfl) ?_
    refine V_callSi rfl rfl (Or.inl rfl) m_MD_isOne_w m_MD_isOne_x rfl rfl (s_isOne _) (by decide) rfl (Nat.le_of_ble_eq_true rfl) ?_
    first | refine V_ifb_eq rfl (fun h25 => ?_) (fun h25 => ?_) | refine V_if_eq rfl (fun h25 => ?_) (fun h25 => ?_)
    · refine V_iconst (v := 0) rfl (by decide) ?_
      refine V_ireturn rfl rfl (by first | rfl | exact b2_nar _ | assumption | decide) ?_
      refine P_ret ?_ rfl
      first | (have h9 := fa_of_nlt2 h8; simp [b2, h9]; done) | simp_all [b2]
    · refine V_iconst (v := 1) rfl (by decide) ?_
      refine V_goto rfl ?_
      refine V_ireturn rfl rfl (by first | rfl | exact b2_nar _ | assumption | decide) ?_
      refine P_ret ?_ rfl
      first | (have h9 := fa_of_nlt2 h8; simp [b2, h9]; done) | simp_all [b2]
end mread3
