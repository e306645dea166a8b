def Pk (v : Int32) (h : mH) (md : Nat) (sc : Nat → Int32) (ar : Nat → Nat → Int32) : Option Value → mH → Prop := fun r h' => r = some (.int v) ∧ ∃ y f, h' = blkW 7 h md (rcS sc y) (va_up ar 38 f)
theorem Pk_ret {v v2 : Int32} {h h0 : mH} {md : Nat} {sc : Nat → Int32} {ar : Nat → Nat → Int32} {y : Int32 × Int32} {f : Nat → Int32} (e : v = v2) (e2 : h0 = blkW 7 h md (rcS sc y) (va_up ar 38 f)) : Pk v2 h md sc ar (some (.int v)) h0 := ⟨by rw [e], y, f, e2⟩
theorem Pk_ret1 {v v2 : Int32} {h : mH} {md : Nat} {sc : Nat → Int32} {ar : Nat → Nat → Int32} {y : Int32 × Int32} (e : v = v2) : Pk v2 h md sc ar (some (.int v)) (blkW 7 h md (rcS sc y) ar) := ⟨by rw [e], y, ar 38, by rw [va_self]⟩
theorem Pk_ret0 {v v2 : Int32} {h : mH} {md : Nat} {sc : Nat → Int32} {ar : Nat → Nat → Int32} (e : v = v2) : Pk v2 h md sc ar (some (.int v)) (blkW 7 h md sc ar) := ⟨by rw [e], (sc 34, sc 35), ar 38, by rw [rcS_id, va_self]⟩
theorem fst1_is (p : Pg) (f : Nat → Int32) (S n : Int32) : fst1 p f S n = -1 ∨ ∃ j, j < nB p ∧ fst1 p f S n = nI j := by
  unfold fst1 oB
  split
  · rename_i h; exact Or.inr ⟨_, h, rfl⟩
  · exact Or.inl rfl
theorem pthF_is (p : Pg) (R S : Int32) (f : Nat → Int32) (rt l : Int32) : ∀ i, pthF p R S f rt l i = -1 ∨ ∃ j, j < nB p ∧ pthF p R S f rt l i = nI j
  | 0 => fst1_is p f rt l
  | i + 1 => fst1_is p f _ _
theorem lstF_le (f : Nat → Int32) (S : Int32) : ∀ n, (lstF f S n).toInt ≤ 1000
  | 0 => by show (1000 : Int32).toInt ≤ 1000; decide
  | n + 1 => by
    have ih := lstF_le f S n
    unfold lstF
    split
    · rename_i h
      have := (fa_lt _ _).mp h.2
      omega
    · exact ih
theorem has_m1 (S : Int32) : (S >>> ((-1 : Int32) &&& 31)) &&& 1 = b2 (bt S 31) := has1 (k := 31) (by decide) S
section mway3
variable {g : mG} {h : mH} {sz u md : Nat} {p : Pg} {sc : Nat → Int32} {ar : Nat → Nat → Int32}
set_option maxRecDepth 20000 in
set_option maxHeartbeats 1000000 in
theorem s_mhasm1 (S : Int32) : Mt g 0 m_MD_has [.int S, .int (-1)] h sz u (Pi (b2 (bt S 31)) h) sz u := by
  refine Mt.of m_MD_has_w m_MD_has_x m_MD_has_c rfl rfl (ls := [.int S, .int (-1)]) rfl ?_
  refine V_iload_n rfl rfl ?_
  refine V_iload_n rfl rfl ?_
  refine V_ishr rfl ?_
  refine V_iconst (v := 1) rfl (by decide) ?_
  refine V_iand rfl ?_
  refine V_iconst (v := 1) rfl (by decide) ?_
  rw [has_m1]
  refine V_icmp_ne rfl (fun h6 => ?_) (fun h6 => ?_)
  · refine V_iconst (v := 0) rfl (by decide) ?_
    refine V_ireturn rfl rfl (by first | rfl | exact b2_nar _ | assumption | decide) ?_
    refine P_ret ?_ rfl
    cases hb : bt S 31
    · rfl
    · rw [hb] at h6; exact absurd rfl h6
  · refine V_iconst (v := 1) rfl (by decide) ?_
    refine V_goto rfl ?_
    refine V_ireturn rfl rfl (by first | rfl | exact b2_nar _ | assumption | decide) ?_
    exact P_ret h6.symm rfl
set_option maxRecDepth 20000 in
set_option maxHeartbeats 1000000 in
theorem s_clX (hA : bAt 7 h md sc ar) (hm : MP p sc ar) (x : Int32) (hx : x = -1 ∨ ∃ j, j < nB p ∧ x = nI j) (hR : sub (nB p) (sc 34)) : Mt g 6 m_MD_calledBy [.ref md, .int x] h sz u (Pi (clX p (sc 34) (sc 35) x) h) sz u := by
  obtain ⟨hT, hB, hS, hC⟩ := hm.1.1
  rcases hx with rfl | ⟨j, hj, rfl⟩
  · refine Mt.of m_MD_calledBy_w m_MD_calledBy_x m_MD_calledBy_c rfl rfl (ls := [.ref md, .int (-1), .retAddr 0, .retAddr 0]) rfl ?_
    have hb : bt (sc 34) 31 = false := by
      cases hb : bt (sc 34) 31
      · rfl
      · have := hR 31 hb; omega
    refine V_iconst (v := 0) rfl (by decide) ?_
    refine V_is2 rfl (by first | rfl | assumption) ?_
    refine V_iconst (v := 0) rfl (by decide) ?_
    refine V_is3 rfl (by first | rfl | assumption) ?_
    refine V_iload_n rfl rfl ?_
    refine V_aload_n rfl rfl ?_
    refine V_getI rfl rfl (by first | assumption | exact blkW_0 | exact bAt_0 (by assumption) | rfl) (by rfl) (by first | exact mp_nS (by first | assumption | exact MP_rcS (by assumption) | exact MP_ar rfl (by assumption) | exact MP_sc rfl (by assumption)) | rfl) ?_
    refine V_icmp_ge rfl (fun h9 => ?_) (fun h9 => ?_)
    · refine V_iload_n rfl rfl ?_
      refine V_ireturn rfl rfl (by first | rfl | exact b2_nar _ | assumption | decide) ?_
      exact P_ret rfl rfl
    · refine V_aload_n rfl rfl ?_
      refine V_getI rfl rfl (by first | assumption | exact blkW_0 | exact bAt_0 (by assumption) | rfl) (by rfl) (by first | exact rcS_g34 | rfl) ?_
      refine V_iload_n rfl rfl ?_
      refine V_callSi rfl rfl (Or.inl rfl) m_MD_has_w m_MD_has_x rfl rfl (s_mhasm1 _) (by decide) rfl (Nat.le_of_ble_eq_true rfl) ?_
      refine V_if_eqT rfl (b2_f hb) ?_
      refine V_iload_n rfl rfl ?_
      refine V_ireturn rfl rfl (by first | rfl | exact b2_nar _ | assumption | decide) ?_
      exact P_ret rfl rfl
  · have e : clX p (sc 34) (sc 35) (nI j) = clB p (sc 34) (sc 35) j := by unfold clX; rw [if_neg (nI_pos (by omega)), nI_clamp (by omega)]
    rw [e]
    exact s_clB hA hm j (by omega)
theorem rch_sub {p : Pg} (hw : WB p) (N : Nat → Int32) {S0 : Int32} (hS : sub (nT p) S0) : sub (nB p) (rch p N S0).1 ∧ sub (nT p) (rch p N S0).2 := by
  have h1 : ∀ x : Int32 × Int32, (sub (nB p) x.1 ∧ sub (nT p) x.2) → sub (nB p) (sweep p (N 0) x).1 ∧ sub (nT p) (sweep p (N 0) x).2 := fun x hx => (swp_ok hw (N 0) hx (nS p) (Nat.le_refl _)).1
  have h2 := itF_inv (f := sweep p (N 0)) (fun x => sub (nB p) x.1 ∧ sub (nT p) x.2) h1 33 (rt0 p N, S0) ⟨sub_setF (Nat.le_refl _) (by have := hw.1.2.1; omega), hS⟩
  unfold rch
  exact h2
set_option maxRecDepth 20000 in
set_option maxHeartbeats 1000000 in
theorem w_way (hm : MP p sc ar) (b k : Int32) : Mt g 8 m_MD_way [.ref md, .int b, .int k] (blkW 7 h md sc ar) sz u (Pk (A_way p (ar 15) b k) h md sc ar) sz u := by
  obtain ⟨hT, hB, hS, hC⟩ := hm.1.1
  unfold A_way
  refine Mt.of m_MD_way_w m_MD_way_x m_MD_way_c rfl rfl (ls := [.ref md, .int b, .int k, .retAddr 0, .retAddr 0, .retAddr 0, .retAddr 0]) rfl ?_
  refine V_aload_n rfl rfl ?_
  refine V_iload_n rfl rfl ?_
  refine V_callVi rfl rfl m_MD_isBody_w m_MD_isBody_x rfl (by decide) rfl (s_mIsB (by first | assumption | exact blkW_at) (by first | assumption | exact MP_rcS (by assumption) | exact MP_ar rfl (by assumption) | exact MP_sc rfl (by assumption)) _) (by decide) rfl (by first | assumption | exact blkW_0 | exact bAt_0 (by assumption) | rfl) (Nat.le_of_ble_eq_true rfl) ?_
  cases ho : inN b (nB p)
  · rw [if_neg (by decide)]
    refine V_if_neF rfl (rfl) ?_
    refine V_ldc rfl rfl ?_
    refine V_ireturn rfl rfl (by first | rfl | exact b2_nar _ | assumption | decide) ?_
    exact Pk_ret0 rfl
  · rw [if_pos rfl]
    refine V_if_neT rfl (by decide) ?_
    obtain ⟨j, hj, rfl⟩ := inN_t (by omega) ho
    rw [nI_clamp (n := j) (by omega)]
    refine V_iload_n rfl rfl ?_
    refine V_iconst (v := (-1)) rfl (by decide) ?_
    by_cases hk : k < -1
    · rw [if_pos hk]
      refine V_icmp_geF rfl (fun q => fa_of_nlt2 q hk) ?_
      refine V_ldc rfl rfl ?_
      refine V_ireturn rfl rfl (by first | rfl | exact b2_nar _ | assumption | decide) ?_
      exact Pk_ret0 rfl
    · rw [if_neg hk]
      refine V_icmp_geT rfl (fa_of_nlt hk) ?_
      unfold wayM
      have hR := (rch_sub hm.1 (ar 15) (sub_0 (nT p))).1
      generalize hx : rch p (ar 15) 0 = x at hR
      refine V_aload_n rfl rfl ?_
      refine V_callVn rfl rfl m_MD_reach_w m_MD_reach_x rfl (by decide) rfl (w_reach (by first | assumption | exact MP_rcS (by assumption) | exact MP_ar rfl (by assumption) | exact MP_sc rfl (by assumption))) (by decide) rfl (by first | assumption | exact blkW_0 | exact bAt_0 (by assumption) | rfl) (Nat.le_of_ble_eq_true rfl) ?_
      rw [hx]
      refine V_aload_n rfl rfl ?_
      refine V_getI rfl rfl (by first | assumption | exact blkW_0 | exact bAt_0 (by assumption) | rfl) (by rfl) (by first | exact rcS_g34 | rfl) ?_
      refine V_iload_n rfl rfl ?_
      refine V_callSi rfl rfl (Or.inl rfl) m_MD_has_w m_MD_has_x rfl rfl (s_mhas _ (by first | omega | assumption)) (by decide) rfl (Nat.le_of_ble_eq_true rfl) ?_
      cases hb : bt x.1 j
      · rw [if_neg (by decide)]
        refine V_if_neF rfl (rfl) ?_
        refine V_iconst (v := (-1)) rfl (by decide) ?_
        refine V_ireturn rfl rfl (by first | rfl | exact b2_nar _ | assumption | decide) ?_
        exact Pk_ret1 rfl
      · rw [if_pos rfl]
        refine V_if_neT rfl (by decide) ?_
        refine V_aload_n rfl rfl ?_
        refine V_iload_n rfl rfl ?_
        refine V_callVn rfl rfl m_MD_layLeft_w m_MD_layLeft_x rfl (by decide) rfl (w_layLeft (by first | assumption | exact MP_rcS (by assumption) | exact MP_ar rfl (by assumption) | exact MP_sc rfl (by assumption)) _ (by first | omega | assumption)) (by decide) rfl (by first | assumption | exact blkW_0 | exact bAt_0 (by assumption) | rfl) (Nat.le_of_ble_eq_true rfl) ?_
        rw [rcS_g34, rcS_g35]
        have hF : ∀ q, q < nB p → fa_fill (lay p x.1 x.2 j (nB p)) (ar 38) (nB p) q = lay p x.1 x.2 j (nB p) q := fun q hq => fa_fill_in hq
        generalize hFe : fa_fill (lay p x.1 x.2 j (nB p)) (ar 38) (nB p) = F at hF
        refine V_aload_n rfl rfl ?_
        refine V_getfield rfl rfl (by first | assumption | exact blkW_0 | exact bAt_0 (by assumption) | rfl) (by rfl) ?_
        refine V_iconst (v := 1) rfl (by decide) ?_
        refine V_iald rfl (by first | assumption | exact blkW_i rfl rfl | exact blkW_z rfl rfl | exact bAt_i (by assumption) rfl rfl | exact bAt_z (by assumption) rfl rfl | rfl) (by first | with_reducible rfl | exact nI_add 2 _ | exact nI_add 26 _ | exact ix45 _ _ | exact ixm45 _ | exact ix25 _ | exact fa_lit _ | assumption) (by first | omega | assumption | decide) (by first | decide | omega | assumption) (by first | exact arS_o rfl | exact arS_g rfl | exact mp_isC (by first | assumption | exact MP_rcS (by assumption) | exact MP_ar rfl (by assumption) | exact MP_sc rfl (by assumption)) (by first | omega | assumption) | exact mp_par (by first | assumption | exact MP_rcS (by assumption) | exact MP_ar rfl (by assumption) | exact MP_sc rfl (by assumption)) (by first | omega | assumption) | exact mp_abv (by first | assumption | exact MP_rcS (by assumption) | exact MP_ar rfl (by assumption) | exact MP_sc rfl (by assumption)) (by first | omega | assumption) | exact mp_dep (by first | assumption | exact MP_rcS (by assumption) | exact MP_ar rfl (by assumption) | exact MP_sc rfl (by assumption)) (by first | omega | assumption) | exact mp_bT (by first | assumption | exact MP_rcS (by assumption) | exact MP_ar rfl (by assumption) | exact MP_sc rfl (by assumption)) (by first | omega | assumption) | exact mp_bM (by first | assumption | exact MP_rcS (by assumption) | exact MP_ar rfl (by assumption) | exact MP_sc rfl (by assumption)) (by first | omega | assumption) | exact mp_sK (by first | assumption | exact MP_rcS (by assumption) | exact MP_ar rfl (by assumption) | exact MP_sc rfl (by assumption)) (by first | omega | assumption) | exact mp_sB (by first | assumption | exact MP_rcS (by assumption) | exact MP_ar rfl (by assumption) | exact MP_sc rfl (by assumption)) (by first | omega | assumption) | exact mp_sT (by first | assumption | exact MP_rcS (by assumption) | exact MP_ar rfl (by assumption) | exact MP_sc rfl (by assumption)) (by first | omega | assumption) | exact mp_sM (by first | assumption | exact MP_rcS (by assumption) | exact MP_ar rfl (by assumption) | exact MP_sc rfl (by assumption)) (by first | omega | assumption) | exact mp_cS (by first | assumption | exact MP_rcS (by assumption) | exact MP_ar rfl (by assumption) | exact MP_sc rfl (by assumption)) (by first | omega | assumption) | exact va_g | exact va_n (by decide) | rfl) ?_
        refine V_aload_n rfl rfl ?_
        refine V_callVi rfl rfl m_MD_loadedBodies_w m_MD_loadedBodies_x rfl (by decide) rfl (s_mlb (by first | assumption | exact blkW_at) (by first | assumption | exact MP_rcS (by assumption) | exact MP_ar rfl (by assumption) | exact MP_sc rfl (by assumption))) (by decide) rfl (by first | assumption | exact blkW_0 | exact bAt_0 (by assumption) | rfl) (Nat.le_of_ble_eq_true rfl) ?_
        refine V_iand rfl ?_
        refine V_is3 rfl (by first | rfl | assumption) ?_
        rw [show va_up ar 38 F 15 = ar 15 from by simp [va_up]]
        generalize hrt : (ar 15 1 &&& setF (nB p) fun b => bt (ar 15 0) (bT p b)) = rt
        refine V_sipush (v := 1000) rfl (by decide) ?_
        refine V_is4 rfl (by first | rfl | assumption) ?_
        refine V_iconst (v := 0) rfl (by decide) ?_
        refine V_is5 rfl (by first | rfl | assumption) ?_
        refine V_for2 (nB p) (fun i => [.ref md, .int (nI j), .int k, .int rt, .int (lstF F rt i), .int (nI i), .retAddr 0]) (fun _ => blkW 7 h md (rcS sc x) (va_up ar 38 F)) rfl rfl (fun i hi ih => ?_) ?_
        · have hl : lstF F rt (i + 1) = if bt rt i = true ∧ F i < lstF F rt i then F i else lstF F rt i := rfl
          refine V_iload rfl rfl ?_
          refine V_aload_n rfl rfl ?_
          refine V_getI rfl rfl (by first | assumption | exact blkW_0 | exact bAt_0 (by assumption) | rfl) (by rfl) (by first | exact mp_nB (by first | assumption | exact MP_rcS (by assumption) | exact MP_ar rfl (by assumption) | exact MP_sc rfl (by assumption)) | rfl) ?_
          refine V_icmp_geF rfl (nI_ge hi (by omega)) ?_
          refine V_iload_n rfl rfl ?_
          refine V_iload rfl rfl ?_
          refine V_callSi rfl rfl (Or.inl rfl) m_MD_has_w m_MD_has_x rfl rfl (s_mhas _ (by first | omega | assumption)) (by decide) rfl (Nat.le_of_ble_eq_true rfl) ?_
          first | refine V_ifb_eq rfl (fun h76 => ?_) (fun h76 => ?_) | refine V_if_eq rfl (fun h76 => ?_) (fun h76 => ?_)
          · refine V_iload rfl rfl ?_
            refine V_is4 rfl (by first | rfl | assumption) ?_
            refine V_inc5 rfl (by first | exact mInc _ | rfl) (by first | rfl | assumption) ?_
            refine V_goto rfl ?_
            exact V_wk ih (by rw [hl]; first | (have h89 := fa_of_nlt2 h88; simp [mWk, h76, h89]; done) | (have h89 := fa_of_nle h88; simp [mWk, h76, h89]; done) | (simp [mWk, h76]; done))
          · refine V_aload_n rfl rfl ?_
            refine V_getfield rfl rfl (by first | assumption | exact blkW_0 | exact bAt_0 (by assumption) | rfl) (by rfl) ?_
            refine V_iload rfl rfl ?_
            refine V_iald rfl (by first | assumption | exact blkW_i rfl rfl | exact blkW_z rfl rfl | exact bAt_i (by assumption) rfl rfl | exact bAt_z (by assumption) rfl rfl | rfl) (by first | with_reducible rfl | exact nI_add 2 _ | exact nI_add 26 _ | exact ix45 _ _ | exact ixm45 _ | exact ix25 _ | exact fa_lit _ | assumption) (by first | omega | assumption | decide) (by first | decide | omega | assumption) (by first | exact arS_o rfl | exact arS_g rfl | exact mp_isC (by first | assumption | exact MP_rcS (by assumption) | exact MP_ar rfl (by assumption) | exact MP_sc rfl (by assumption)) (by first | omega | assumption) | exact mp_par (by first | assumption | exact MP_rcS (by assumption) | exact MP_ar rfl (by assumption) | exact MP_sc rfl (by assumption)) (by first | omega | assumption) | exact mp_abv (by first | assumption | exact MP_rcS (by assumption) | exact MP_ar rfl (by assumption) | exact MP_sc rfl (by assumption)) (by first | omega | assumption) | exact mp_dep (by first | assumption | exact MP_rcS (by assumption) | exact MP_ar rfl (by assumption) | exact MP_sc rfl (by assumption)) (by first | omega | assumption) | exact mp_bT (by first | assumption | exact MP_rcS (by assumption) | exact MP_ar rfl (by assumption) | exact MP_sc rfl (by assumption)) (by first | omega | assumption) | exact mp_bM (by first | assumption | exact MP_rcS (by assumption) | exact MP_ar rfl (by assumption) | exact MP_sc rfl (by assumption)) (by first | omega | assumption) | exact mp_sK (by first | assumption | exact MP_rcS (by assumption) | exact MP_ar rfl (by assumption) | exact MP_sc rfl (by assumption)) (by first | omega | assumption) | exact mp_sB (by first | assumption | exact MP_rcS (by assumption) | exact MP_ar rfl (by assumption) | exact MP_sc rfl (by assumption)) (by first | omega | assumption) | exact mp_sT (by first | assumption | exact MP_rcS (by assumption) | exact MP_ar rfl (by assumption) | exact MP_sc rfl (by assumption)) (by first | omega | assumption) | exact mp_sM (by first | assumption | exact MP_rcS (by assumption) | exact MP_ar rfl (by assumption) | exact MP_sc rfl (by assumption)) (by first | omega | assumption) | exact mp_cS (by first | assumption | exact MP_rcS (by assumption) | exact MP_ar rfl (by assumption) | exact MP_sc rfl (by assumption)) (by first | omega | assumption) | exact va_g | exact va_n (by decide) | rfl) ?_
            refine V_iload rfl rfl ?_
            refine V_icmp_ge rfl (fun h88 => ?_) (fun h88 => ?_)
            · refine V_iload rfl rfl ?_
              refine V_is4 rfl (by first | rfl | assumption) ?_
              refine V_inc5 rfl (by first | exact mInc _ | rfl) (by first | rfl | assumption) ?_
              refine V_goto rfl ?_
              exact V_wk ih (by rw [hl]; first | (have h89 := fa_of_nlt2 h88; simp [mWk, h76, h89]; done) | (have h89 := fa_of_nle h88; simp [mWk, h76, h89]; done) | (simp [mWk, h76]; done))
            · refine V_aload_n rfl rfl ?_
              refine V_getfield rfl rfl (by first | assumption | exact blkW_0 | exact bAt_0 (by assumption) | rfl) (by rfl) ?_
              refine V_iload rfl rfl ?_
              refine V_iald rfl (by first | assumption | exact blkW_i rfl rfl | exact blkW_z rfl rfl | exact bAt_i (by assumption) rfl rfl | exact bAt_z (by assumption) rfl rfl | rfl) (by first | with_reducible rfl | exact nI_add 2 _ | exact nI_add 26 _ | exact ix45 _ _ | exact ixm45 _ | exact ix25 _ | exact fa_lit _ | assumption) (by first | omega | assumption | decide) (by first | decide | omega | assumption) (by first | exact arS_o rfl | exact arS_g rfl | exact mp_isC (by first | assumption | exact MP_rcS (by assumption) | exact MP_ar rfl (by assumption) | exact MP_sc rfl (by assumption)) (by first | omega | assumption) | exact mp_par (by first | assumption | exact MP_rcS (by assumption) | exact MP_ar rfl (by assumption) | exact MP_sc rfl (by assumption)) (by first | omega | assumption) | exact mp_abv (by first | assumption | exact MP_rcS (by assumption) | exact MP_ar rfl (by assumption) | exact MP_sc rfl (by assumption)) (by first | omega | assumption) | exact mp_dep (by first | assumption | exact MP_rcS (by assumption) | exact MP_ar rfl (by assumption) | exact MP_sc rfl (by assumption)) (by first | omega | assumption) | exact mp_bT (by first | assumption | exact MP_rcS (by assumption) | exact MP_ar rfl (by assumption) | exact MP_sc rfl (by assumption)) (by first | omega | assumption) | exact mp_bM (by first | assumption | exact MP_rcS (by assumption) | exact MP_ar rfl (by assumption) | exact MP_sc rfl (by assumption)) (by first | omega | assumption) | exact mp_sK (by first | assumption | exact MP_rcS (by assumption) | exact MP_ar rfl (by assumption) | exact MP_sc rfl (by assumption)) (by first | omega | assumption) | exact mp_sB (by first | assumption | exact MP_rcS (by assumption) | exact MP_ar rfl (by assumption) | exact MP_sc rfl (by assumption)) (by first | omega | assumption) | exact mp_sT (by first | assumption | exact MP_rcS (by assumption) | exact MP_ar rfl (by assumption) | exact MP_sc rfl (by assumption)) (by first | omega | assumption) | exact mp_sM (by first | assumption | exact MP_rcS (by assumption) | exact MP_ar rfl (by assumption) | exact MP_sc rfl (by assumption)) (by first | omega | assumption) | exact mp_cS (by first | assumption | exact MP_rcS (by assumption) | exact MP_ar rfl (by assumption) | exact MP_sc rfl (by assumption)) (by first | omega | assumption) | exact va_g | exact va_n (by decide) | rfl) ?_
              refine V_goto rfl ?_
              refine V_is4 rfl (by first | rfl | assumption) ?_
              refine V_inc5 rfl (by first | exact mInc _ | rfl) (by first | rfl | assumption) ?_
              refine V_goto rfl ?_
              exact V_wk ih (by rw [hl]; first | (have h89 := fa_of_nlt2 h88; simp [mWk, h76, h89]; done) | (have h89 := fa_of_nle h88; simp [mWk, h76, h89]; done) | (simp [mWk, h76]; done))
        · refine V_iload rfl rfl ?_
          refine V_aload_n rfl rfl ?_
          refine V_getI rfl rfl (by first | assumption | exact blkW_0 | exact bAt_0 (by assumption) | rfl) (by rfl) (by first | exact mp_nB (by first | assumption | exact MP_rcS (by assumption) | exact MP_ar rfl (by assumption) | exact MP_sc rfl (by assumption)) | rfl) ?_
          refine V_icmp_geT rfl (nI_le (Nat.le_refl _) (by omega)) ?_
          have el : lstF F rt (nB p) = lstF (lay p x.1 x.2 j (nB p)) rt (nB p) := lstF_cong hF
          rw [← el]
          have hl1000 := lstF_le F rt (nB p)
          generalize hle : lstF F rt (nB p) = l at hl1000
          by_cases ek : k = -1
          · rw [if_pos ek]
            refine V_iload_n rfl rfl ?_
            refine V_iconst (v := (-1)) rfl (by decide) ?_
            refine V_icmp_eqT rfl (ek) ?_
            refine V_iload_n rfl rfl ?_
            refine V_iconst (v := (-1)) rfl (by decide) ?_
            refine V_icmp_neF rfl (ek) ?_
            refine V_iload rfl rfl ?_
            refine V_goto rfl ?_
            refine V_ireturn rfl rfl (by first | rfl | exact b2_nar _ | assumption | decide) ?_
            exact Pk_ret rfl rfl
          · rw [if_neg ek]
            refine V_iload_n rfl rfl ?_
            refine V_iconst (v := (-1)) rfl (by decide) ?_
            refine V_icmp_eqF rfl (ek) ?_
            refine V_iload_n rfl rfl ?_
            refine V_iload rfl rfl ?_
            by_cases hkl : l < k
            · rw [if_pos hkl]
              refine V_icmp_leF rfl (fun q => fa_of_nlt2 q hkl) ?_
              refine V_iload_n rfl rfl ?_
              refine V_iconst (v := (-1)) rfl (by decide) ?_
              refine V_icmp_neT rfl (ek) ?_
              refine V_iconst (v := (-1)) rfl (by decide) ?_
              refine V_ireturn rfl rfl (by first | rfl | exact b2_nar _ | assumption | decide) ?_
              exact Pk_ret rfl rfl
            · rw [if_neg hkl]
              refine V_icmp_leT rfl (fa_of_nlt hkl) ?_
              obtain ⟨K, hK31, hK⟩ : ∃ K : Nat, K < 2 ^ 31 ∧ k = nI K := nI_of (x := k) (fun q => by
                rw [fa_lt] at q
                rw [fa_lt] at hk
                have e0 : (0 : Int32).toInt = 0 := rfl
                have e1 : (-1 : Int32).toInt = -1 := rfl
                exact ek (Int32.toInt_inj.mp (by omega)))
              subst hK
              have hK2 : K ≤ 1000 := by
                rw [fa_lt, nI_toInt hK31] at hkl
                omega
              rw [nI_clamp hK31, ← pthF_cong hF]
              refine V_aload_n rfl rfl ?_
              refine V_iload_n rfl rfl ?_
              refine V_iload rfl rfl ?_
              refine V_callVi rfl rfl m_MD_firstOf_w m_MD_firstOf_x rfl (by decide) rfl (s_first (by first | assumption | exact blkW_at) (by first | assumption | exact MP_rcS (by assumption) | exact MP_ar rfl (by assumption) | exact MP_sc rfl (by assumption)) _ _) (by decide) rfl (by first | assumption | exact blkW_0 | exact bAt_0 (by assumption) | rfl) (Nat.le_of_ble_eq_true rfl) ?_
              refine V_is5 rfl (by first | rfl | assumption) ?_
              refine V_iconst (v := 1) rfl (by decide) ?_
              refine V_is6 rfl (by first | rfl | assumption) ?_
              rw [show va_up ar 38 F 38 = F from by simp [va_up]]
              refine V_for2 K (fun i => [.ref md, .int (nI j), .int (nI K), .int rt, .int l, .int (pthF p x.1 x.2 F rt l i), .int (nI (i + 1))]) (fun _ => blkW 7 h md (rcS sc x) (va_up ar 38 F)) rfl rfl (fun i hi ih => ?_) ?_
              · have hR2 : sub (nB p) (rcS sc x 34) := hR
                refine V_iload rfl rfl ?_
                refine V_iload_n rfl rfl ?_
                refine V_icmp_gtF rfl (fun q => absurd q (nI_nlt (by omega) (by omega))) ?_
                refine V_aload_n rfl rfl ?_
                refine V_aload_n rfl rfl ?_
                refine V_iload rfl rfl ?_
                refine V_callVi rfl rfl m_MD_calledBy_w m_MD_calledBy_x rfl (by decide) rfl (s_clX blkW_at (MP_ar rfl (MP_rcS hm)) _ (pthF_is _ _ _ _ _ _ _) hR2) (by decide) rfl blkW_0 (Nat.le_of_ble_eq_true rfl) ?_
                refine V_iload rfl rfl ?_
                refine V_iload rfl rfl ?_
                refine V_isub rfl ?_
                refine V_callVi rfl rfl m_MD_firstOf_w m_MD_firstOf_x rfl (by decide) rfl (s_first (by first | assumption | exact blkW_at) (by first | assumption | exact MP_rcS (by assumption) | exact MP_ar rfl (by assumption) | exact MP_sc rfl (by assumption)) _ _) (by decide) rfl (by first | assumption | exact blkW_0 | exact bAt_0 (by assumption) | rfl) (Nat.le_of_ble_eq_true rfl) ?_
                refine V_is5 rfl (by first | rfl | assumption) ?_
                rw [show va_up ar 38 F 38 = F from by simp [va_up], rcS_g34, rcS_g35]
                refine V_inc6 rfl (by first | exact mInc _ | rfl) (by first | rfl | assumption) ?_
                refine V_goto rfl ?_
                exact ih
              · refine V_iload rfl rfl ?_
                refine V_iload_n rfl rfl ?_
                refine V_icmp_gtT rfl (nI_lt (by omega) (by omega)) ?_
                refine V_iload rfl rfl ?_
                refine V_ireturn rfl rfl (by first | rfl | exact b2_nar _ | assumption | decide) ?_
                exact Pk_ret rfl rfl
end mway3
