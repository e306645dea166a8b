section mread2
variable {g : mG} {h : mH} {sz u md : Nat} {p : Pg} {sc : Nat → Int32} {ar : Nat → Nat → Int32}
theorem hasB_lt {p : Pg} {t m : Nat} (hB : nB p ≤ 20) : (¬ bodyOf p t m < 0) ↔ hasB p t m = true := by
  unfold bodyOf hasB oB
  by_cases hk : fBod p t m < nB p
  · rw [if_pos hk, decide_eq_true hk]
    exact ⟨fun _ => rfl, fun _ => nI_pos (by omega)⟩
  · rw [if_neg hk, decide_eq_false hk]
    exact ⟨fun q => absurd (by decide) q, fun q => by cases q⟩
theorem low_lt {S : Int32} (h : oneB S = true) : ∃ k, k < 32 ∧ bt S k = true := by
  unfold oneB at h
  rw [Bool.and_eq_true, decide_eq_true_eq] at h
  refine Classical.byContradiction fun q => h.1 ?_
  apply b_ext
  intro i hi
  rw [b_0]
  cases hb : bt S i
  · rfl
  · exact absurd ⟨i, hi, hb⟩ q
theorem low_in {S : Int32} (h : ∃ k, k < 32 ∧ bt S k = true) : low S < 32 ∧ bt S (low S) = true := by
  have hl : low S < 32 := by
    obtain ⟨k, hk, hb⟩ := h
    rcases Nat.lt_or_ge (low S) 32 with q | q
    · exact q
    · have := fa_first_no (bt S) 32 k (by unfold low at q; omega)
      rw [hb] at this; cases this
  exact ⟨hl, fa_first_yes (bt S) 32 hl⟩
theorem s_byFaces (hA : bAt 7 h md sc ar) (hm : MP p sc ar) (t m : Nat) (ht : t < nT p) (hm6 : m < 2 ^ 31) : Mt g 2 m_MD_byFaces [.ref md, .int (nI t), .int (nI m)] h sz u (Pi (byF p t m) h) sz u := by
  obtain ⟨hT, hB, hS, hC⟩ := hm.1.1
  refine Mt.of m_MD_byFaces_w m_MD_byFaces_x m_MD_byFaces_c rfl rfl (ls := [.ref md, .int (nI t), .int (nI m), .retAddr 0, .retAddr 0, .retAddr 0]) rfl ?_
  refine V_iconst (v := 0) rfl (by decide) ?_
  refine V_is3 rfl (by first | rfl | assumption) ?_
  refine V_iconst (v := 0) rfl (by decide) ?_
  refine V_is4 rfl (by first | rfl | assumption) ?_
  refine V_for2 (nT p) (fun i => [.ref md, .int (nI t), .int (nI m), .int (setF i fun u => !isC p u && bt (abv p t) u && hasB p u m), .int (nI i), .retAddr 0]) (fun _ => h) rfl rfl (fun i hi ih => ?_) ?_
  · refine V_iload rfl rfl ?_
    refine V_aload_n rfl rfl ?_
    refine V_getI rfl rfl (by first | assumption | exact blkW_0 | exact bAt_0 (by assumption) | rfl) (by rfl) (by first | exact mp_nT (by assumption) | rfl) ?_
    refine V_icmp_geF rfl (nI_ge hi (by omega)) ?_
    refine V_iload_n rfl rfl ?_
    refine V_aload_n rfl rfl ?_
    refine V_getfield rfl rfl (by first | assumption | exact blkW_0 | exact bAt_0 (by assumption) | rfl) (by rfl) ?_
    refine V_iload rfl rfl ?_
    refine V_bald rfl (by first | assumption | exact blkW_i rfl rfl | exact blkW_z rfl rfl | exact bAt_i (by assumption) rfl rfl | exact bAt_z (by assumption) rfl rfl | rfl) (by first | exact fa_lit _ | exact nI_add 2 _ | exact nI_add 26 _ | rfl | assumption) (by first | omega | assumption | decide) (by first | decide | omega | assumption) (by first | exact mp_isC (by assumption) (by first | omega | assumption) | exact mp_par (by assumption) (by first | omega | assumption) | exact mp_abv (by assumption) (by first | omega | assumption) | exact mp_dep (by assumption) (by first | omega | assumption) | exact mp_bT (by assumption) (by first | omega | assumption) | exact mp_bM (by assumption) (by first | omega | assumption) | exact mp_sK (by assumption) (by first | omega | assumption) | exact mp_sB (by assumption) (by first | omega | assumption) | exact mp_sT (by assumption) (by first | omega | assumption) | exact mp_sM (by assumption) (by first | omega | assumption) | exact mp_cS (by assumption) (by first | omega | assumption) | rfl) ?_
    first | refine V_ifb_ne rfl (fun h22 => ?_) (fun h22 => ?_) | refine V_if_ne rfl (fun h22 => ?_) (fun h22 => ?_)
    · refine V_iconst (v := 0) rfl (by decide) ?_
      refine V_ior rfl ?_
      refine V_is3 rfl (by first | rfl | assumption) ?_
      refine V_inc4 rfl (by first | exact mInc _ | exact mDcr _ | rfl) (by first | rfl | assumption) ?_
      refine V_goto rfl ?_
      try rw [hasB_lt hB] at h46
      try rw [show (bodyOf p i m < 0) = ¬ ¬ (bodyOf p i m < 0) from propext Classical.not_not.symm, hasB_lt hB] at h46
      exact V_wk ih (by simp [mWk, setF_s, cnd, bI, *])
    · refine V_aload_n rfl rfl ?_
      refine V_getfield rfl rfl (by first | assumption | exact blkW_0 | exact bAt_0 (by assumption) | rfl) (by rfl) ?_
      refine V_iload_n rfl rfl ?_
      refine V_iald rfl (by first | assumption | exact blkW_i rfl rfl | exact blkW_z rfl rfl | exact bAt_i (by assumption) rfl rfl | exact bAt_z (by assumption) rfl rfl | rfl) (by first | exact fa_lit _ | exact nI_add 2 _ | exact nI_add 26 _ | rfl | assumption) (by first | omega | assumption | decide) (by first | decide | omega | assumption) (by first | exact mp_isC (by assumption) (by first | omega | assumption) | exact mp_par (by assumption) (by first | omega | assumption) | exact mp_abv (by assumption) (by first | omega | assumption) | exact mp_dep (by assumption) (by first | omega | assumption) | exact mp_bT (by assumption) (by first | omega | assumption) | exact mp_bM (by assumption) (by first | omega | assumption) | exact mp_sK (by assumption) (by first | omega | assumption) | exact mp_sB (by assumption) (by first | omega | assumption) | exact mp_sT (by assumption) (by first | omega | assumption) | exact mp_sM (by assumption) (by first | omega | assumption) | exact mp_cS (by assumption) (by first | omega | assumption) | rfl) ?_
      refine V_iload rfl rfl ?_
      refine V_callSi rfl rfl (Or.inl rfl) m_MD_has_w m_MD_has_x rfl rfl (s_mhas _ (by first | omega | assumption)) (by decide) rfl (Nat.le_of_ble_eq_true rfl) ?_
      first | refine V_ifb_eq rfl (fun h36 => ?_) (fun h36 => ?_) | refine V_if_eq rfl (fun h36 => ?_) (fun h36 => ?_)
      · refine V_iconst (v := 0) rfl (by decide) ?_
        refine V_ior rfl ?_
        refine V_is3 rfl (by first | rfl | assumption) ?_
        refine V_inc4 rfl (by first | exact mInc _ | exact mDcr _ | rfl) (by first | rfl | assumption) ?_
        refine V_goto rfl ?_
        try rw [hasB_lt hB] at h46
        try rw [show (bodyOf p i m < 0) = ¬ ¬ (bodyOf p i m < 0) from propext Classical.not_not.symm, hasB_lt hB] at h46
        exact V_wk ih (by simp [mWk, setF_s, cnd, bI, *])
      · refine V_aload_n rfl rfl ?_
        refine V_iload rfl rfl ?_
        refine V_iload_n rfl rfl ?_
        refine V_callVi rfl rfl m_MD_bodyOf_w m_MD_bodyOf_x rfl (by decide) rfl (s_bodyOf (by first | assumption | exact blkW_at) (by assumption) _ _ (by first | omega | assumption) (by first | omega | assumption)) (by decide) rfl (by first | assumption | exact blkW_0 | exact bAt_0 (by assumption) | rfl) (Nat.le_of_ble_eq_true rfl) ?_
        refine V_if_lt rfl (fun h46 => ?_) (fun h46 => ?_)
        · refine V_iconst (v := 0) rfl (by decide) ?_
          refine V_ior rfl ?_
          refine V_is3 rfl (by first | rfl | assumption) ?_
          refine V_inc4 rfl (by first | exact mInc _ | exact mDcr _ | rfl) (by first | rfl | assumption) ?_
          refine V_goto rfl ?_
          try rw [hasB_lt hB] at h46
          try rw [show (bodyOf p i m < 0) = ¬ ¬ (bodyOf p i m < 0) from propext Classical.not_not.symm, hasB_lt hB] at h46
          exact V_wk ih (by simp [mWk, setF_s, cnd, bI, *])
        · refine V_iconst (v := 1) rfl (by decide) ?_
          refine V_iload rfl rfl ?_
          refine V_ishl rfl ?_
          refine V_goto rfl ?_
          refine V_ior rfl ?_
          refine V_is3 rfl (by first | rfl | assumption) ?_
          refine V_inc4 rfl (by first | exact mInc _ | exact mDcr _ | rfl) (by first | rfl | assumption) ?_
          refine V_goto rfl ?_
          try rw [hasB_lt hB] at h46
          try rw [show (bodyOf p i m < 0) = ¬ ¬ (bodyOf p i m < 0) from propext Classical.not_not.symm, hasB_lt hB] at h46
          exact V_wk ih (by simp [mWk, setF_s, cnd, bI, *])
  · refine V_iload rfl rfl ?_
    refine V_aload_n rfl rfl ?_
    refine V_getI rfl rfl (by first | assumption | exact blkW_0 | exact bAt_0 (by assumption) | rfl) (by rfl) (by first | exact mp_nT (by assumption) | rfl) ?_
    refine V_icmp_geT rfl (nI_le (Nat.le_refl _) (by omega)) ?_
    refine V_iconst (v := 0) rfl (by decide) ?_
    refine V_is4 rfl (by first | rfl | assumption) ?_
    refine V_iconst (v := 0) rfl (by decide) ?_
    refine V_is5 rfl (by first | rfl | assumption) ?_
    refine V_for2 (nT p) (fun i => [.ref md, .int (nI t), .int (nI m), .int (haveS p t m), .int (setF i fun u => bt (haveS p t m) u && !isOv p u (haveS p t m) (nT p)), .int (nI i)]) (fun _ => h) rfl rfl (fun i hi ih => ?_) ?_
    · refine V_iload rfl rfl ?_
      refine V_aload_n rfl rfl ?_
      refine V_getI rfl rfl (by first | assumption | exact blkW_0 | exact bAt_0 (by assumption) | rfl) (by rfl) (by first | exact mp_nT (by assumption) | rfl) ?_
      refine V_icmp_geF rfl (nI_ge hi (by omega)) ?_
      refine V_iload rfl rfl ?_
      refine V_iload_n rfl rfl ?_
      refine V_iload rfl rfl ?_
      refine V_callSi rfl rfl (Or.inl rfl) m_MD_has_w m_MD_has_x rfl rfl (s_mhas _ (by first | omega | assumption)) (by decide) rfl (Nat.le_of_ble_eq_true rfl) ?_
      first | refine V_ifb_eq rfl (fun h88 => ?_) (fun h88 => ?_) | refine V_if_eq rfl (fun h88 => ?_) (fun h88 => ?_)
      · refine V_iconst (v := 0) rfl (by decide) ?_
        refine V_ior rfl ?_
        refine V_is4 rfl (by first | rfl | assumption) ?_
        refine V_inc5 rfl (by first | exact mInc _ | exact mDcr _ | rfl) (by first | rfl | assumption) ?_
        refine V_goto rfl ?_
        exact V_wk ih (by simp [mWk, setF_s, cnd, bI, *])
      · refine V_aload_n rfl rfl ?_
        refine V_iload rfl rfl ?_
        refine V_iload_n rfl rfl ?_
        refine V_callVi rfl rfl m_MD_isOver_w m_MD_isOver_x rfl (by decide) rfl (s_isOver (by first | assumption | exact blkW_at) (by assumption) _ _ (by first | omega | assumption)) (by decide) rfl (by first | assumption | exact blkW_0 | exact bAt_0 (by assumption) | rfl) (Nat.le_of_ble_eq_true rfl) ?_
        first | refine V_ifb_ne rfl (fun h98 => ?_) (fun h98 => ?_) | refine V_if_ne rfl (fun h98 => ?_) (fun h98 => ?_)
        · refine V_iconst (v := 0) rfl (by decide) ?_
          refine V_ior rfl ?_
          refine V_is4 rfl (by first | rfl | assumption) ?_
          refine V_inc5 rfl (by first | exact mInc _ | exact mDcr _ | rfl) (by first | rfl | assumption) ?_
          refine V_goto rfl ?_
          exact V_wk ih (by simp [mWk, setF_s, cnd, bI, *])
        · refine V_iconst (v := 1) rfl (by decide) ?_
          refine V_iload rfl rfl ?_
          refine V_ishl rfl ?_
          refine V_goto rfl ?_
          refine V_ior rfl ?_
          refine V_is4 rfl (by first | rfl | assumption) ?_
          refine V_inc5 rfl (by first | exact mInc _ | exact mDcr _ | rfl) (by first | rfl | assumption) ?_
          refine V_goto rfl ?_
          exact V_wk ih (by simp [mWk, setF_s, cnd, bI, *])
    · refine V_iload rfl rfl ?_
      refine V_aload_n rfl rfl ?_
      refine V_getI rfl rfl (by first | assumption | exact blkW_0 | exact bAt_0 (by assumption) | rfl) (by rfl) (by first | exact mp_nT (by assumption) | rfl) ?_
      refine V_icmp_geT rfl (nI_le (Nat.le_refl _) (by omega)) ?_
      show V g _ m_MD_byFaces _ _ _ 118 [.ref md, .int (nI t), .int (nI m), .int (haveS p t m), .int (leftS p t m), .int (nI (nT p))] [] h sz u
      have hbe : byF p t m = if oneB (leftS p t m) then bodyOf p (low (leftS p t m)) m else -1 := rfl
      refine V_iload rfl rfl ?_
      refine V_callSi rfl rfl (Or.inl rfl) m_MD_isOne_w m_MD_isOne_x rfl rfl (s_isOne _) (by decide) rfl (Nat.le_of_ble_eq_true rfl) ?_
      cases ho : oneB (leftS p t m)
      · rw [ho] at hbe
        refine V_if_eqT rfl (rfl) ?_
        refine V_iconst (v := (-1)) rfl (by decide) ?_
        refine V_ireturn rfl rfl (by first | rfl | exact b2_nar _ | assumption | decide) ?_
        exact P_ret hbe.symm rfl
      · rw [ho] at hbe
        have hx := low_lt ho
        have hx2 := (low_in hx).1
        refine V_if_eqF rfl (by decide) ?_
        refine V_aload_n rfl rfl ?_
        refine V_iload rfl rfl ?_
        refine V_callSi rfl rfl (Or.inl rfl) m_MD_lowest_w m_MD_lowest_x rfl rfl (s_lowest _ (by assumption)) (by decide) rfl (Nat.le_of_ble_eq_true rfl) ?_
        refine V_iload_n rfl rfl ?_
        refine V_callVi rfl rfl m_MD_bodyOf_w m_MD_bodyOf_x rfl (by decide) rfl (s_bodyOf (by first | assumption | exact blkW_at) (by assumption) _ _ (by first | omega | assumption) (by first | omega | assumption)) (by decide) rfl (by first | assumption | exact blkW_0 | exact bAt_0 (by assumption) | rfl) (Nat.le_of_ble_eq_true rfl) ?_
        refine V_goto rfl ?_
        refine V_ireturn rfl rfl (by first | rfl | exact b2_nar _ | assumption | decide) ?_
        exact P_ret hbe.symm rfl
theorem par_nI {p : Pg} (hw : WB p) {t : Nat} (ht : t < nT p) : par p t = -1 ∨ ∃ q, q < t ∧ q < nT p ∧ par p t = nI q := by
  rcases hw.2.1 t ht with h | ⟨q, h1, h2⟩
  · exact Or.inl h
  · exact Or.inr ⟨q, h1, by omega, h2⟩
theorem s_fndU (hA : bAt 7 h md sc ar) (hm : MP p sc ar) (t m : Nat) (ht : t < nT p) (hm6 : m < 2 ^ 31) (x : Int32) (hx : x = -1 ∨ ∃ q, q < nT p ∧ x = nI q) : Mt g 3 m_MD_foundFrom [.ref md, .int (nI t), .int (nI m), .int x] h sz u (Pi (fndU p t m 12 x) h) sz u := by
  obtain ⟨hT, hB, hS, hC⟩ := hm.1.1
  refine Mt.of m_MD_foundFrom_w m_MD_foundFrom_x m_MD_foundFrom_c rfl rfl (ls := [.ref md, .int (nI t), .int (nI m), .int x, .retAddr 0]) rfl ?_
  refine V_iload_n rfl rfl ?_
  refine V_is4 rfl (by first | rfl | assumption) ?_
  have key : ∀ (k : Nat) (x : Int32) (x0 : Value), x0.category = 1 → (x = -1 ∨ ∃ q, q < k ∧ q < nT p ∧ x = nI q) → V g 3 m_MD_foundFrom (Pi (fndU p t m k x) h) sz u 3 [.ref md, .int (nI t), .int (nI m), x0, .int x] [] h sz u := by
    intro k
    induction k with
    | zero =>
      intro x x0 hc hx
      have e : x = -1 := by
        rcases hx with e | ⟨q, h1, -⟩
        · exact e
        · omega
      subst e
      refine V_iload rfl rfl ?_
      refine V_if_ltT rfl (by decide) ?_
      refine V_iload rfl rfl ?_
      refine V_if_ltT rfl (by decide) ?_
      refine V_aload_n rfl rfl ?_
      refine V_iload_n rfl rfl ?_
      refine V_iload_n rfl rfl ?_
      refine V_callVi rfl rfl m_MD_byFaces_w m_MD_byFaces_x rfl (by decide) rfl (s_byFaces (by first | assumption | exact blkW_at) (by assumption) _ _ (by first | omega | assumption) (by first | omega | assumption)) (by decide) rfl (by first | assumption | exact blkW_0 | exact bAt_0 (by assumption) | rfl) (Nat.le_of_ble_eq_true rfl) ?_
      refine V_ireturn rfl rfl (by first | rfl | exact b2_nar _ | assumption | decide) ?_
      exact P_ret rfl rfl
    | succ k ih =>
      intro x x0 hc hx
      rcases hx with e | ⟨q, h1, h2, e⟩
      · subst e
        refine V_iload rfl rfl ?_
        refine V_if_ltT rfl (by decide) ?_
        refine V_iload rfl rfl ?_
        refine V_if_ltT rfl (by decide) ?_
        refine V_aload_n rfl rfl ?_
        refine V_iload_n rfl rfl ?_
        refine V_iload_n rfl rfl ?_
        refine V_callVi rfl rfl m_MD_byFaces_w m_MD_byFaces_x rfl (by decide) rfl (s_byFaces (by first | assumption | exact blkW_at) (by assumption) _ _ (by first | omega | assumption) (by first | omega | assumption)) (by decide) rfl (by first | assumption | exact blkW_0 | exact bAt_0 (by assumption) | rfl) (Nat.le_of_ble_eq_true rfl) ?_
        refine V_ireturn rfl rfl (by first | rfl | exact b2_nar _ | assumption | decide) ?_
        exact P_ret rfl rfl
      · subst e
        have hb := hasB_lt (p := p) (t := q) (m := m) hB
        have e1 : fndU p t m (k + 1) (nI q) = if hasB p q m then bodyOf p q m else fndU p t m k (par p q) := by
          show (if nI q < 0 then _ else _) = _
          rw [if_neg (nI_pos (by omega)), nI_clamp (by omega)]
        refine V_iload rfl rfl ?_
        refine V_if_ltF rfl (nI_pos (by omega)) ?_
        refine V_aload_n rfl rfl ?_
        refine V_iload rfl rfl ?_
        refine V_iload_n rfl rfl ?_
        refine V_callVi rfl rfl m_MD_bodyOf_w m_MD_bodyOf_x rfl (by decide) rfl (s_bodyOf (by first | assumption | exact blkW_at) (by assumption) _ _ (by first | omega | assumption) (by first | omega | assumption)) (by decide) rfl (by first | assumption | exact blkW_0 | exact bAt_0 (by assumption) | rfl) (Nat.le_of_ble_eq_true rfl) ?_
        cases ho : hasB p q m
        · rw [ho] at e1 hb
          refine V_if_geF rfl (fun z => absurd (hb.mp (fa_of_nlt2 z)) (by decide)) ?_
          refine V_aload_n rfl rfl ?_
          refine V_getfield rfl rfl (by first | assumption | exact blkW_0 | exact bAt_0 (by assumption) | rfl) (by rfl) ?_
          refine V_iload rfl rfl ?_
          refine V_iald rfl (by first | assumption | exact blkW_i rfl rfl | exact blkW_z rfl rfl | exact bAt_i (by assumption) rfl rfl | exact bAt_z (by assumption) rfl rfl | rfl) (by first | exact fa_lit _ | exact nI_add 2 _ | exact nI_add 26 _ | rfl | assumption) (by first | omega | assumption | decide) (by first | decide | omega | assumption) (by first | exact mp_isC (by assumption) (by first | omega | assumption) | exact mp_par (by assumption) (by first | omega | assumption) | exact mp_abv (by assumption) (by first | omega | assumption) | exact mp_dep (by assumption) (by first | omega | assumption) | exact mp_bT (by assumption) (by first | omega | assumption) | exact mp_bM (by assumption) (by first | omega | assumption) | exact mp_sK (by assumption) (by first | omega | assumption) | exact mp_sB (by assumption) (by first | omega | assumption) | exact mp_sT (by assumption) (by first | omega | assumption) | exact mp_sM (by assumption) (by first | omega | assumption) | exact mp_cS (by assumption) (by first | omega | assumption) | rfl) ?_
          refine V_is4 rfl (by first | rfl | assumption) ?_
          refine V_goto rfl ?_
          rw [e1]
          refine ih (par p q) x0 hc ?_
          rcases par_nI hm.1 h2 with e | ⟨r, r1, r2, r3⟩
          · exact Or.inl e
          · exact Or.inr ⟨r, by omega, r2, r3⟩
        · rw [ho] at e1 hb
          refine V_if_geT rfl (fa_of_nlt (hb.mpr rfl)) ?_
          refine V_iload rfl rfl ?_
          refine V_if_ltF rfl (nI_pos (by omega)) ?_
          refine V_aload_n rfl rfl ?_
          refine V_iload rfl rfl ?_
          refine V_iload_n rfl rfl ?_
          refine V_callVi rfl rfl m_MD_bodyOf_w m_MD_bodyOf_x rfl (by decide) rfl (s_bodyOf (by first | assumption | exact blkW_at) (by assumption) _ _ (by first | omega | assumption) (by first | omega | assumption)) (by decide) rfl (by first | assumption | exact blkW_0 | exact bAt_0 (by assumption) | rfl) (Nat.le_of_ble_eq_true rfl) ?_
          refine V_goto rfl ?_
          refine V_ireturn rfl rfl (by first | rfl | exact b2_nar _ | assumption | decide) ?_
          exact P_ret e1.symm rfl
  refine key 12 x _ rfl ?_
  rcases hx with e | ⟨q, h1, h2⟩
  · exact Or.inl e
  · exact Or.inr ⟨q, by omega, h1, h2⟩
theorem s_fnd (hA : bAt 7 h md sc ar) (hm : MP p sc ar) (t m : Nat) (ht : t < nT p) (hm6 : m < 2 ^ 31) : Mt g 4 m_MD_foundFor [.ref md, .int (nI t), .int (nI m)] h sz u (Pi (fnd p t m) h) sz u := by
  obtain ⟨hT, hB, hS, hC⟩ := hm.1.1
  have hx : nI t = -1 ∨ ∃ q, q < nT p ∧ nI t = nI q := Or.inr ⟨t, ht, rfl⟩
  refine Mt.of m_MD_foundFor_w m_MD_foundFor_x m_MD_foundFor_c rfl rfl (ls := [.ref md, .int (nI t), .int (nI m)]) rfl ?_
  refine V_aload_n rfl rfl ?_
  refine V_iload_n rfl rfl ?_
  refine V_iload_n rfl rfl ?_
  refine V_iload_n rfl rfl ?_
  refine V_callVi rfl rfl m_MD_foundFrom_w m_MD_foundFrom_x rfl (by decide) rfl (s_fndU (by first | assumption | exact blkW_at) (by assumption) _ _ (by first | omega | assumption) (by first | omega | assumption) _ (by assumption)) (by decide) rfl (by first | assumption | exact blkW_0 | exact bAt_0 (by assumption) | rfl) (Nat.le_of_ble_eq_true rfl) ?_
  refine V_ireturn rfl rfl (by first | rfl | exact b2_nar _ | assumption | decide) ?_
  exact P_ret rfl rfl
theorem s_mbelow (hA : bAt 7 h md sc ar) (hm : MP p sc ar) (t : Nat) (ht : t < 32) : Mt g 1 m_MD_belowOf [.ref md, .int (nI t)] h sz u (Pi (setF (nT p) fun x => bt (abv p x) t) h) sz u := by
  obtain ⟨hT, hB, hS, hC⟩ := hm.1.1
  refine Mt.of m_MD_belowOf_w m_MD_belowOf_x m_MD_belowOf_c rfl rfl (ls := [.ref md, .int (nI t), .retAddr 0, .retAddr 0]) rfl ?_
  refine V_iconst (v := 0) rfl (by decide) ?_
  refine V_is2 rfl (by first | rfl | assumption) ?_
  refine V_iconst (v := 0) rfl (by decide) ?_
  refine V_is3 rfl (by first | rfl | assumption) ?_
  refine V_for2 (nT p) (fun i => [.ref md, .int (nI t), .int (setF i fun x => bt (abv p x) t), .int (nI i)]) (fun _ => h) rfl rfl (fun i hi ih => ?_) ?_
  · refine V_iload_n rfl rfl ?_
    refine V_aload_n rfl rfl ?_
    refine V_getI rfl rfl (by first | assumption | exact blkW_0 | exact bAt_0 (by assumption) | rfl) (by rfl) (by first | exact mp_nT (by assumption) | rfl) ?_
    refine V_icmp_geF rfl (nI_ge hi (by omega)) ?_
    refine V_iload_n rfl rfl ?_
    refine V_aload_n rfl rfl ?_
    refine V_getfield rfl rfl (by first | assumption | exact blkW_0 | exact bAt_0 (by assumption) | rfl) (by rfl) ?_
    refine V_iload_n rfl rfl ?_
    refine V_iald rfl (by first | assumption | exact blkW_i rfl rfl | exact blkW_z rfl rfl | exact bAt_i (by assumption) rfl rfl | exact bAt_z (by assumption) rfl rfl | rfl) (by first | exact fa_lit _ | exact nI_add 2 _ | exact nI_add 26 _ | rfl | assumption) (by first | omega | assumption | decide) (by first | decide | omega | assumption) (by first | exact mp_isC (by assumption) (by first | omega | assumption) | exact mp_par (by assumption) (by first | omega | assumption) | exact mp_abv (by assumption) (by first | omega | assumption) | exact mp_dep (by assumption) (by first | omega | assumption) | exact mp_bT (by assumption) (by first | omega | assumption) | exact mp_bM (by assumption) (by first | omega | assumption) | exact mp_sK (by assumption) (by first | omega | assumption) | exact mp_sB (by assumption) (by first | omega | assumption) | exact mp_sT (by assumption) (by first | omega | assumption) | exact mp_sM (by assumption) (by first | omega | assumption) | exact mp_cS (by assumption) (by first | omega | assumption) | rfl) ?_
    refine V_iload_n rfl rfl ?_
    refine V_callSi rfl rfl (Or.inl rfl) m_MD_has_w m_MD_has_x rfl rfl (s_mhas _ (by first | omega | assumption)) (by decide) rfl (Nat.le_of_ble_eq_true rfl) ?_
    first | refine V_ifb_eq rfl (fun h23 => ?_) (fun h23 => ?_) | refine V_if_eq rfl (fun h23 => ?_) (fun h23 => ?_)
    · refine V_iconst (v := 0) rfl (by decide) ?_
      refine V_ior rfl ?_
      refine V_is2 rfl (by first | rfl | assumption) ?_
      refine V_inc3 rfl (by first | exact mInc _ | exact mDcr _ | rfl) (by first | rfl | assumption) ?_
      refine V_goto rfl ?_
      exact V_wk ih (by simp [mWk, setF_s, cnd, bI, *])
    · refine V_iconst (v := 1) rfl (by decide) ?_
      refine V_iload_n rfl rfl ?_
      refine V_ishl rfl ?_
      refine V_goto rfl ?_
      refine V_ior rfl ?_
      refine V_is2 rfl (by first | rfl | assumption) ?_
      refine V_inc3 rfl (by first | exact mInc _ | exact mDcr _ | rfl) (by first | rfl | assumption) ?_
      refine V_goto rfl ?_
      exact V_wk ih (by simp [mWk, setF_s, cnd, bI, *])
  · refine V_iload_n rfl rfl ?_
    refine V_aload_n rfl rfl ?_
    refine V_getI rfl rfl (by first | assumption | exact blkW_0 | exact bAt_0 (by assumption) | rfl) (by rfl) (by first | exact mp_nT (by assumption) | rfl) ?_
    refine V_icmp_geT rfl (nI_le (Nat.le_refl _) (by omega)) ?_
    refine V_iload_n rfl rfl ?_
    refine V_ireturn rfl rfl (by first | rfl | exact b2_nar _ | assumption | decide) ?_
    exact P_ret rfl rfl
theorem s_mclasses (hA : bAt 7 h md sc ar) (hm : MP p sc ar) : Mt g 0 m_MD_classes [.ref md] h sz u (Pi (setF (nT p) fun x => isC p x) h) sz u := by
  obtain ⟨hT, hB, hS, hC⟩ := hm.1.1
  refine Mt.of m_MD_classes_w m_MD_classes_x m_MD_classes_c rfl rfl (ls := [.ref md, .retAddr 0, .retAddr 0]) rfl ?_
  refine V_iconst (v := 0) rfl (by decide) ?_
  refine V_is1 rfl (by first | rfl | assumption) ?_
  refine V_iconst (v := 0) rfl (by decide) ?_
  refine V_is2 rfl (by first | rfl | assumption) ?_
  refine V_for2 (nT p) (fun i => [.ref md, .int (setF i fun x => isC p x), .int (nI i)]) (fun _ => h) rfl rfl (fun i hi ih => ?_) ?_
  · refine V_iload_n rfl rfl ?_
    refine V_aload_n rfl rfl ?_
    refine V_getI rfl rfl (by first | assumption | exact blkW_0 | exact bAt_0 (by assumption) | rfl) (by rfl) (by first | exact mp_nT (by assumption) | rfl) ?_
    refine V_icmp_geF rfl (nI_ge hi (by omega)) ?_
    refine V_iload_n rfl rfl ?_
    refine V_aload_n rfl rfl ?_
    refine V_getfield rfl rfl (by first | assumption | exact blkW_0 | exact bAt_0 (by assumption) | rfl) (by rfl) ?_
    refine V_iload_n rfl rfl ?_
    refine V_bald rfl (by first | assumption | exact blkW_i rfl rfl | exact blkW_z rfl rfl | exact bAt_i (by assumption) rfl rfl | exact bAt_z (by assumption) rfl rfl | rfl) (by first | exact fa_lit _ | exact nI_add 2 _ | exact nI_add 26 _ | rfl | assumption) (by first | omega | assumption | decide) (by first | decide | omega | assumption) (by first | exact mp_isC (by assumption) (by first | omega | assumption) | exact mp_par (by assumption) (by first | omega | assumption) | exact mp_abv (by assumption) (by first | omega | assumption) | exact mp_dep (by assumption) (by first | omega | assumption) | exact mp_bT (by assumption) (by first | omega | assumption) | exact mp_bM (by assumption) (by first | omega | assumption) | exact mp_sK (by assumption) (by first | omega | assumption) | exact mp_sB (by assumption) (by first | omega | assumption) | exact mp_sT (by assumption) (by first | omega | assumption) | exact mp_sM (by assumption) (by first | omega | assumption) | exact mp_cS (by assumption) (by first | omega | assumption) | rfl) ?_
    first | refine V_ifb_eq rfl (fun h19 => ?_) (fun h19 => ?_) | refine V_if_eq rfl (fun h19 => ?_) (fun h19 => ?_)
    · refine V_iconst (v := 0) rfl (by decide) ?_
      refine V_ior rfl ?_
      refine V_is1 rfl (by first | rfl | assumption) ?_
      refine V_inc2 rfl (by first | exact mInc _ | exact mDcr _ | rfl) (by first | rfl | assumption) ?_
      refine V_goto rfl ?_
      exact V_wk ih (by simp [mWk, setF_s, cnd, bI, *])
    · refine V_iconst (v := 1) rfl (by decide) ?_
      refine V_iload_n rfl rfl ?_
      refine V_ishl rfl ?_
      refine V_goto rfl ?_
      refine V_ior rfl ?_
      refine V_is1 rfl (by first | rfl | assumption) ?_
      refine V_inc2 rfl (by first | exact mInc _ | exact mDcr _ | rfl) (by first | rfl | assumption) ?_
      refine V_goto rfl ?_
      exact V_wk ih (by simp [mWk, setF_s, cnd, bI, *])
  · refine V_iload_n rfl rfl ?_
    refine V_aload_n rfl rfl ?_
    refine V_getI rfl rfl (by first | assumption | exact blkW_0 | exact bAt_0 (by assumption) | rfl) (by rfl) (by first | exact mp_nT (by assumption) | rfl) ?_
    refine V_icmp_geT rfl (nI_le (Nat.le_refl _) (by omega)) ?_
    refine V_iload_n rfl rfl ?_
    refine V_ireturn rfl rfl (by first | rfl | exact b2_nar _ | assumption | decide) ?_
    exact P_ret rfl rfl
end mread2
