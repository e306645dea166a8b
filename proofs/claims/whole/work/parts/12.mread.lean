/-! ===== the reference: what it reads ===== -/
/-- the reference's rows hold the tables p -/
def MP (p : Pg) (sc : Nat → Int32) (ar : Nat → Nat → Int32) : Prop := WB p ∧ (sc 0 = nI (nT p) ∧ sc 5 = nI (nB p) ∧ sc 8 = nI (nS p) ∧ sc 13 = nI (nC p)) ∧ (∀ t, t < nT p → ar 1 t = b2 (isC p t) ∧ ar 2 t = par p t ∧ ar 3 t = abv p t ∧ ar 4 t = dep p t) ∧ (∀ b, b < nB p → ar 6 b = nI (bT p b) ∧ ar 7 b = nI (bM p b)) ∧ (∀ s, s < nS p → ar 9 s = nI (sK p s) ∧ ar 10 s = nI (sB p s) ∧ ar 11 s = nI (sT p s) ∧ ar 12 s = nI (sM p s)) ∧ (∀ c, c < nC p → ar 14 c = nI (cS p c))
section mp
variable {p : Pg} {sc : Nat → Int32} {ar : Nat → Nat → Int32} (hm : MP p sc ar)
theorem mp_nT (hm : MP p sc ar) : sc 0 = nI (nT p) := hm.2.1.1
theorem mp_nB (hm : MP p sc ar) : sc 5 = nI (nB p) := hm.2.1.2.1
theorem mp_nS (hm : MP p sc ar) : sc 8 = nI (nS p) := hm.2.1.2.2.1
theorem mp_nC (hm : MP p sc ar) : sc 13 = nI (nC p) := hm.2.1.2.2.2
theorem mp_isC (hm : MP p sc ar) {t : Nat} (h : t < nT p) : ar 1 t = b2 (isC p t) := (hm.2.2.1 t h).1
theorem mp_par (hm : MP p sc ar) {t : Nat} (h : t < nT p) : ar 2 t = par p t := (hm.2.2.1 t h).2.1
theorem mp_abv (hm : MP p sc ar) {t : Nat} (h : t < nT p) : ar 3 t = abv p t := (hm.2.2.1 t h).2.2.1
theorem mp_dep (hm : MP p sc ar) {t : Nat} (h : t < nT p) : ar 4 t = dep p t := (hm.2.2.1 t h).2.2.2
theorem mp_bT (hm : MP p sc ar) {b : Nat} (h : b < nB p) : ar 6 b = nI (bT p b) := (hm.2.2.2.1 b h).1
theorem mp_bM (hm : MP p sc ar) {b : Nat} (h : b < nB p) : ar 7 b = nI (bM p b) := (hm.2.2.2.1 b h).2
theorem mp_sK (hm : MP p sc ar) {s : Nat} (h : s < nS p) : ar 9 s = nI (sK p s) := (hm.2.2.2.2.1 s h).1
theorem mp_sB (hm : MP p sc ar) {s : Nat} (h : s < nS p) : ar 10 s = nI (sB p s) := (hm.2.2.2.2.1 s h).2.1
theorem mp_sT (hm : MP p sc ar) {s : Nat} (h : s < nS p) : ar 11 s = nI (sT p s) := (hm.2.2.2.2.1 s h).2.2.1
theorem mp_sM (hm : MP p sc ar) {s : Nat} (h : s < nS p) : ar 12 s = nI (sM p s) := (hm.2.2.2.2.1 s h).2.2.2
theorem mp_cS (hm : MP p sc ar) {c : Nat} (h : c < nC p) : ar 14 c = nI (cS p c) := hm.2.2.2.2.2 c h
end mp
section mread
variable {g : mG} {h : mH} {sz u md : Nat} {p : Pg} {sc : Nat → Int32} {ar : Nat → Nat → Int32}
theorem s_in (v l m : Int64) : Mt g 0 m_MD_in [.long v, .long l, .long m] h sz u (Pi (b2 (decide (l ≤ v ∧ v ≤ m))) h) sz u := by
  refine Mt.of m_MD_in_w m_MD_in_x m_MD_in_c rfl rfl (ls := [.long v, .retAddr 0, .long l, .retAddr 0, .long m, .retAddr 0]) rfl ?_
  refine V_lload_n rfl rfl ?_
  refine V_lload_n rfl rfl ?_
  refine V_lcmp rfl ?_
  refine V_if_lt rfl (fun h3 => ?_) (fun h3 => ?_)
  · refine V_iconst (v := 0) rfl (by decide) ?_
    refine V_ireturn rfl rfl (by first | rfl | exact b2_nar _ | assumption | decide) ?_
    refine P_ret ?_ rfl
    have h3 := (lg_cmp_lt _ _).mp h3
    rw [decide_eq_false (fun q => absurd q.1 (Int64.not_le.mpr h3))]
    rfl
  · refine V_lload_n rfl rfl ?_
    refine V_lload rfl rfl ?_
    refine V_lcmp rfl ?_
    refine V_if_gt rfl (fun h10 => ?_) (fun h10 => ?_)
    · refine V_iconst (v := 0) rfl (by decide) ?_
      refine V_ireturn rfl rfl (by first | rfl | exact b2_nar _ | assumption | decide) ?_
      refine P_ret ?_ rfl
      have h10 := (lg_cmp_gt _ _).mp h10
      rw [decide_eq_false (fun q => absurd q.2 (Int64.not_le.mpr h10))]
      rfl
    · refine V_iconst (v := 1) rfl (by decide) ?_
      refine V_goto rfl ?_
      refine V_ireturn rfl rfl (by first | rfl | exact b2_nar _ | assumption | decide) ?_
      refine P_ret ?_ rfl
      have h3 : l ≤ v := Int64.not_lt.mp (fun q => h3 ((lg_cmp_lt _ _).mpr q))
      have h10 : v ≤ m := Int64.not_lt.mp (fun q => h10 ((lg_cmp_gt _ _).mpr q))
      rw [decide_eq_true ⟨h3, h10⟩]
      rfl
theorem s_mhas (S : Int32) {k : Nat} (hk : k < 32) : Mt g 0 m_MD_has [.int S, .int (nI k)] h sz u (Pi (b2 (bt S k)) h) sz u := by
  refine Mt.of m_MD_has_w m_MD_has_x m_MD_has_c rfl rfl (ls := [.int S, .int (nI k)]) rfl ?_
  refine V_iload_n rfl rfl ?_
  refine V_iload_n rfl rfl ?_
  refine V_ishr rfl ?_
  refine V_iconst (v := 1) rfl (by decide) ?_
  refine V_iand rfl ?_
  refine V_iconst (v := 1) rfl (by decide) ?_
  rw [has1 hk]
  refine V_icmp_ne rfl (fun h6 => ?_) (fun h6 => ?_)
  · refine V_iconst (v := 0) rfl (by decide) ?_
    refine V_ireturn rfl rfl (by first | rfl | exact b2_nar _ | assumption | decide) ?_
    refine P_ret ?_ rfl
    cases hb : bt S k
    · rfl
    · rw [hb] at h6; exact absurd rfl h6
  · refine V_iconst (v := 1) rfl (by decide) ?_
    refine V_goto rfl ?_
    refine V_ireturn rfl rfl (by first | rfl | exact b2_nar _ | assumption | decide) ?_
    exact P_ret h6.symm rfl
theorem s_isOne (S : Int32) : Mt g 0 m_MD_isOne [.int S] h sz u (Pi (b2 (oneB S)) h) sz u := by
  refine Mt.of m_MD_isOne_w m_MD_isOne_x m_MD_isOne_c rfl rfl (ls := [.int S]) rfl ?_
  refine V_iload_n rfl rfl ?_
  first | refine V_ifb_eq rfl (fun h1 => ?_) (fun h1 => ?_) | refine V_if_eq rfl (fun h1 => ?_) (fun h1 => ?_)
  · refine V_iconst (v := 0) rfl (by decide) ?_
    refine V_ireturn rfl rfl (by first | rfl | exact b2_nar _ | assumption | decide) ?_
    refine P_ret ?_ rfl
    simp [oneB, b2, *]
  · refine V_iload_n rfl rfl ?_
    refine V_iload_n rfl rfl ?_
    refine V_iconst (v := 1) rfl (by decide) ?_
    refine V_isub rfl ?_
    refine V_iand rfl ?_
    first | refine V_ifb_ne rfl (fun h9 => ?_) (fun h9 => ?_) | refine V_if_ne rfl (fun h9 => ?_) (fun h9 => ?_)
    · refine V_iconst (v := 0) rfl (by decide) ?_
      refine V_ireturn rfl rfl (by first | rfl | exact b2_nar _ | assumption | decide) ?_
      refine P_ret ?_ rfl
      simp [oneB, b2, *]
    · refine V_iconst (v := 1) rfl (by decide) ?_
      refine V_goto rfl ?_
      refine V_ireturn rfl rfl (by first | rfl | exact b2_nar _ | assumption | decide) ?_
      refine P_ret ?_ rfl
      simp [oneB, b2, *]
theorem s_lowest (S : Int32) (hS : ∃ k, k < 32 ∧ bt S k = true) : Mt g 1 m_MD_lowest [.int S] h sz u (Pi (nI (low S)) h) sz u := by
  have hl : low S < 32 := by
    obtain ⟨k, hk, hb⟩ := hS
    rcases Nat.lt_or_ge (low S) 32 with q | q
    · exact q
    · have := fa_first_no (bt S) 32 k (by unfold low at q; omega)
      rw [hb] at this; cases this
  have hb : bt S (low S) = true := fa_first_yes (bt S) 32 hl
  refine Mt.of m_MD_lowest_w m_MD_lowest_x m_MD_lowest_c rfl rfl (ls := [.int S, .retAddr 0]) rfl ?_
  refine V_iconst (v := 0) rfl (by decide) ?_
  refine V_is1 rfl (by first | rfl | assumption) ?_
  refine V_for2 (low S) (fun i => [.int S, .int (nI i)]) (fun _ => h) rfl rfl (fun i hi ih => ?_) ?_
  · have hf : bt S i = false := fa_first_no (bt S) 32 i hi
    refine V_iload_n rfl rfl ?_
    refine V_iload_n rfl rfl ?_
    refine V_callSi rfl rfl (Or.inl rfl) m_MD_has_w m_MD_has_x rfl rfl (s_mhas _ (by first | omega | assumption)) (by decide) rfl (Nat.le_of_ble_eq_true rfl) ?_
    refine V_if_neF rfl (b2_f hf) ?_
    refine V_inc1 rfl (by first | exact mInc _ | exact mDcr _ | rfl) (by first | rfl | assumption) ?_
    refine V_goto rfl ?_
    exact ih
  · refine V_iload_n rfl rfl ?_
    refine V_iload_n rfl rfl ?_
    refine V_callSi rfl rfl (Or.inl rfl) m_MD_has_w m_MD_has_x rfl rfl (s_mhas _ (by first | omega | assumption)) (by decide) rfl (Nat.le_of_ble_eq_true rfl) ?_
    refine V_if_neT rfl (b2_ne0.mpr hb) ?_
    refine V_iload_n rfl rfl ?_
    refine V_ireturn rfl rfl (by first | rfl | exact b2_nar _ | assumption | decide) ?_
    exact P_ret rfl rfl
theorem wide_in (x : Int32) (n : Nat) (hn : n < 2 ^ 30) : decide ((0 : Int64) ≤ x.toInt64 ∧ x.toInt64 ≤ (nI n - 1).toInt64) = inN x n := by
  unfold inN
  have e : (nI n - 1).toInt = (n : Int) - 1 := by
    exact pk_sub_toInt (a := n) (b := 1) hn (by omega)
  apply decide_eq_decide.mpr
  rw [show (0 : Int64) = (0 : Int32).toInt64 by rfl, fa_wide_le, fa_wide_le, fa_le, fa_le, fa_lt, e, nI_toInt (by omega)]
  constructor
  · rintro ⟨h1, h2⟩; exact ⟨h1, by omega⟩
  · rintro ⟨h1, h2⟩; exact ⟨h1, by omega⟩
theorem s_mIsT (hA : bAt 7 h md sc ar) (hm : MP p sc ar) (x : Int32) : Mt g 1 m_MD_isType [.ref md, .int x] h sz u (Pi (b2 (inN x (nT p))) h) sz u := by
  obtain ⟨hT, hB, hS, hC⟩ := hm.1.1
  refine Mt.of m_MD_isType_w m_MD_isType_x m_MD_isType_c rfl rfl (ls := [.ref md, .int x]) rfl ?_
  refine V_iload_n rfl rfl ?_
  refine V_i2l rfl ?_
  refine V_lconst rfl rfl ?_
  refine V_aload_n rfl rfl ?_
  refine V_getI rfl rfl (by first | assumption | exact blkW_0 | exact bAt_0 (by assumption) | rfl) (by rfl) (by first | exact mp_nT (by assumption) | rfl) ?_
  refine V_iconst (v := 1) rfl (by decide) ?_
  refine V_isub rfl ?_
  refine V_i2l rfl ?_
  refine V_callSi rfl rfl (Or.inl rfl) m_MD_in_w m_MD_in_x rfl rfl (s_in _ _ _) (by decide) rfl (Nat.le_of_ble_eq_true rfl) ?_
  refine V_ireturn rfl rfl (by first | rfl | exact b2_nar _ | assumption | decide) ?_
  refine P_ret ?_ rfl
  rw [← wide_in x (nT p) (by omega)]
  rfl
theorem s_mIsB (hA : bAt 7 h md sc ar) (hm : MP p sc ar) (x : Int32) : Mt g 1 m_MD_isBody [.ref md, .int x] h sz u (Pi (b2 (inN x (nB p))) h) sz u := by
  obtain ⟨hT, hB, hS, hC⟩ := hm.1.1
  refine Mt.of m_MD_isBody_w m_MD_isBody_x m_MD_isBody_c rfl rfl (ls := [.ref md, .int x]) rfl ?_
  refine V_iload_n rfl rfl ?_
  refine V_i2l rfl ?_
  refine V_lconst rfl rfl ?_
  refine V_aload_n rfl rfl ?_
  refine V_getI rfl rfl (by first | assumption | exact blkW_0 | exact bAt_0 (by assumption) | rfl) (by rfl) (by first | exact mp_nB (by assumption) | rfl) ?_
  refine V_iconst (v := 1) rfl (by decide) ?_
  refine V_isub rfl ?_
  refine V_i2l rfl ?_
  refine V_callSi rfl rfl (Or.inl rfl) m_MD_in_w m_MD_in_x rfl rfl (s_in _ _ _) (by decide) rfl (Nat.le_of_ble_eq_true rfl) ?_
  refine V_ireturn rfl rfl (by first | rfl | exact b2_nar _ | assumption | decide) ?_
  refine P_ret ?_ rfl
  rw [← wide_in x (nB p) (by omega)]
  rfl
theorem s_mIsC (hA : bAt 7 h md sc ar) (hm : MP p sc ar) (x : Int32) : Mt g 1 m_MD_isCall [.ref md, .int x] h sz u (Pi (b2 (inN x (nC p))) h) sz u := by
  obtain ⟨hT, hB, hS, hC⟩ := hm.1.1
  refine Mt.of m_MD_isCall_w m_MD_isCall_x m_MD_isCall_c rfl rfl (ls := [.ref md, .int x]) rfl ?_
  refine V_iload_n rfl rfl ?_
  refine V_i2l rfl ?_
  refine V_lconst rfl rfl ?_
  refine V_aload_n rfl rfl ?_
  refine V_getI rfl rfl (by first | assumption | exact blkW_0 | exact bAt_0 (by assumption) | rfl) (by rfl) (by first | exact mp_nC (by assumption) | rfl) ?_
  refine V_iconst (v := 1) rfl (by decide) ?_
  refine V_isub rfl ?_
  refine V_i2l rfl ?_
  refine V_callSi rfl rfl (Or.inl rfl) m_MD_in_w m_MD_in_x rfl rfl (s_in _ _ _) (by decide) rfl (Nat.le_of_ble_eq_true rfl) ?_
  refine V_ireturn rfl rfl (by first | rfl | exact b2_nar _ | assumption | decide) ?_
  refine P_ret ?_ rfl
  rw [← wide_in x (nC p) (by omega)]
  rfl
theorem s_bodyOf (hA : bAt 7 h md sc ar) (hm : MP p sc ar) (t m : Nat) (ht : t < 2 ^ 31) (hm6 : m < 2 ^ 31) : Mt g 0 m_MD_bodyOf [.ref md, .int (nI t), .int (nI m)] h sz u (Pi (bodyOf p t m) h) sz u := by
  obtain ⟨hT, hB, hS, hC⟩ := hm.1.1
  have hk := fa_first_le (fun b => bT p b == t && bM p b == m) (nB p)
  refine Mt.of m_MD_bodyOf_w m_MD_bodyOf_x m_MD_bodyOf_c rfl rfl (ls := [.ref md, .int (nI t), .int (nI m), .retAddr 0]) rfl ?_
  refine V_iconst (v := 0) rfl (by decide) ?_
  refine V_is3 rfl (by first | rfl | assumption) ?_
  refine V_for2 (fBod p t m) (fun i => [.ref md, .int (nI t), .int (nI m), .int (nI i)]) (fun _ => h) rfl rfl (fun i hi ih => ?_) ?_
  · have hf := fa_first_no (fun b => bT p b == t && bM p b == m) (nB p) i hi
    have hi2 : i < nB p := by unfold fBod at hi; omega
    have hw := hm.1.2.2.1 i hi2
    refine V_iload_n rfl rfl ?_
    refine V_aload_n rfl rfl ?_
    refine V_getI rfl rfl (by first | assumption | exact blkW_0 | exact bAt_0 (by assumption) | rfl) (by rfl) (by first | exact mp_nB (by assumption) | rfl) ?_
    refine V_icmp_geF rfl (nI_ge hi2 (by omega)) ?_
    refine V_aload_n rfl rfl ?_
    refine V_getfield rfl rfl (by first | assumption | exact blkW_0 | exact bAt_0 (by assumption) | rfl) (by rfl) ?_
    refine V_iload_n rfl rfl ?_
    refine V_iald rfl (by first | assumption | exact blkW_i rfl rfl | exact blkW_z rfl rfl | exact bAt_i (by assumption) rfl rfl | exact bAt_z (by assumption) rfl rfl | rfl) (by first | exact fa_lit _ | exact nI_add 2 _ | exact nI_add 26 _ | rfl | assumption) (by first | omega | assumption | decide) (by first | decide | omega | assumption) (by first | exact mp_isC (by assumption) (by first | omega | assumption) | exact mp_par (by assumption) (by first | omega | assumption) | exact mp_abv (by assumption) (by first | omega | assumption) | exact mp_dep (by assumption) (by first | omega | assumption) | exact mp_bT (by assumption) (by first | omega | assumption) | exact mp_bM (by assumption) (by first | omega | assumption) | exact mp_sK (by assumption) (by first | omega | assumption) | exact mp_sB (by assumption) (by first | omega | assumption) | exact mp_sT (by assumption) (by first | omega | assumption) | exact mp_sM (by assumption) (by first | omega | assumption) | exact mp_cS (by assumption) (by first | omega | assumption) | rfl) ?_
    refine V_iload_n rfl rfl ?_
    refine V_icmp_ne rfl (fun h17 => ?_) (fun h17 => ?_)
    · refine V_inc3 rfl (by first | exact mInc _ | exact mDcr _ | rfl) (by first | rfl | assumption) ?_
      refine V_goto rfl ?_
      exact ih
    · refine V_aload_n rfl rfl ?_
      refine V_getfield rfl rfl (by first | assumption | exact blkW_0 | exact bAt_0 (by assumption) | rfl) (by rfl) ?_
      refine V_iload_n rfl rfl ?_
      refine V_iald rfl (by first | assumption | exact blkW_i rfl rfl | exact blkW_z rfl rfl | exact bAt_i (by assumption) rfl rfl | exact bAt_z (by assumption) rfl rfl | rfl) (by first | exact fa_lit _ | exact nI_add 2 _ | exact nI_add 26 _ | rfl | assumption) (by first | omega | assumption | decide) (by first | decide | omega | assumption) (by first | exact mp_isC (by assumption) (by first | omega | assumption) | exact mp_par (by assumption) (by first | omega | assumption) | exact mp_abv (by assumption) (by first | omega | assumption) | exact mp_dep (by assumption) (by first | omega | assumption) | exact mp_bT (by assumption) (by first | omega | assumption) | exact mp_bM (by assumption) (by first | omega | assumption) | exact mp_sK (by assumption) (by first | omega | assumption) | exact mp_sB (by assumption) (by first | omega | assumption) | exact mp_sT (by assumption) (by first | omega | assumption) | exact mp_sM (by assumption) (by first | omega | assumption) | exact mp_cS (by assumption) (by first | omega | assumption) | rfl) ?_
      refine V_iload_n rfl rfl ?_
      refine V_icmp_ne rfl (fun h27 => ?_) (fun h27 => ?_)
      · refine V_inc3 rfl (by first | exact mInc _ | exact mDcr _ | rfl) (by first | rfl | assumption) ?_
        refine V_goto rfl ?_
        exact ih
      · refine V_iload_n rfl rfl ?_
        refine V_ireturn rfl rfl (by first | rfl | exact b2_nar _ | assumption | decide) ?_
        exact absurd hf (by have e1 := (nI_eq (by omega) (by omega)).mp h17; have e2 := (nI_eq (by omega) (by omega)).mp h27; simp [e1, e2])
  · have hbe : bodyOf p t m = oB (nB p) (fBod p t m) := rfl
    refine V_iload_n rfl rfl ?_
    refine V_aload_n rfl rfl ?_
    refine V_getI rfl rfl (by first | assumption | exact blkW_0 | exact bAt_0 (by assumption) | rfl) (by rfl) (by first | exact mp_nB (by assumption) | rfl) ?_
    refine V_icmp_ge rfl (fun h7 => ?_) (fun h7 => ?_)
    · refine V_iconst (v := (-1)) rfl (by decide) ?_
      refine V_ireturn rfl rfl (by first | rfl | exact b2_nar _ | assumption | decide) ?_
      refine P_ret ?_ rfl
      rw [hbe]
      unfold oB
      rw [if_neg (fun q => nI_ge q (by omega) h7)]
    · have hi2 : fBod p t m < nB p := by
        rcases Nat.lt_or_ge (fBod p t m) (nB p) with q | q
        · exact q
        · exact absurd (nI_le q (by unfold fBod; omega)) h7
      have hy := fa_first_yes (fun b => bT p b == t && bM p b == m) (nB p) hi2
      have hy : (bT p (fBod p t m) == t && bM p (fBod p t m) == m) = true := hy
      rw [Bool.and_eq_true, beq_iff_eq, beq_iff_eq] at hy
      refine V_aload_n rfl rfl ?_
      refine V_getfield rfl rfl (by first | assumption | exact blkW_0 | exact bAt_0 (by assumption) | rfl) (by rfl) ?_
      refine V_iload_n rfl rfl ?_
      refine V_iald rfl (by first | assumption | exact blkW_i rfl rfl | exact blkW_z rfl rfl | exact bAt_i (by assumption) rfl rfl | exact bAt_z (by assumption) rfl rfl | rfl) (by first | exact fa_lit _ | exact nI_add 2 _ | exact nI_add 26 _ | rfl | assumption) (by first | omega | assumption | decide) (by first | decide | omega | assumption) (by first | exact mp_isC (by assumption) (by first | omega | assumption) | exact mp_par (by assumption) (by first | omega | assumption) | exact mp_abv (by assumption) (by first | omega | assumption) | exact mp_dep (by assumption) (by first | omega | assumption) | exact mp_bT (by assumption) (by first | omega | assumption) | exact mp_bM (by assumption) (by first | omega | assumption) | exact mp_sK (by assumption) (by first | omega | assumption) | exact mp_sB (by assumption) (by first | omega | assumption) | exact mp_sT (by assumption) (by first | omega | assumption) | exact mp_sM (by assumption) (by first | omega | assumption) | exact mp_cS (by assumption) (by first | omega | assumption) | rfl) ?_
      refine V_iload_n rfl rfl ?_
      refine V_icmp_neF rfl ((by rw [hy.1])) ?_
      refine V_aload_n rfl rfl ?_
      refine V_getfield rfl rfl (by first | assumption | exact blkW_0 | exact bAt_0 (by assumption) | rfl) (by rfl) ?_
      refine V_iload_n rfl rfl ?_
      refine V_iald rfl (by first | assumption | exact blkW_i rfl rfl | exact blkW_z rfl rfl | exact bAt_i (by assumption) rfl rfl | exact bAt_z (by assumption) rfl rfl | rfl) (by first | exact fa_lit _ | exact nI_add 2 _ | exact nI_add 26 _ | rfl | assumption) (by first | omega | assumption | decide) (by first | decide | omega | assumption) (by first | exact mp_isC (by assumption) (by first | omega | assumption) | exact mp_par (by assumption) (by first | omega | assumption) | exact mp_abv (by assumption) (by first | omega | assumption) | exact mp_dep (by assumption) (by first | omega | assumption) | exact mp_bT (by assumption) (by first | omega | assumption) | exact mp_bM (by assumption) (by first | omega | assumption) | exact mp_sK (by assumption) (by first | omega | assumption) | exact mp_sB (by assumption) (by first | omega | assumption) | exact mp_sT (by assumption) (by first | omega | assumption) | exact mp_sM (by assumption) (by first | omega | assumption) | exact mp_cS (by assumption) (by first | omega | assumption) | rfl) ?_
      refine V_iload_n rfl rfl ?_
      refine V_icmp_neF rfl ((by rw [hy.2])) ?_
      refine V_iload_n rfl rfl ?_
      refine V_ireturn rfl rfl (by first | rfl | exact b2_nar _ | assumption | decide) ?_
      refine P_ret ?_ rfl
      rw [hbe]
      unfold oB
      rw [if_pos hi2]
theorem s_isOver (hA : bAt 7 h md sc ar) (hm : MP p sc ar) (x : Nat) (S : Int32) (hx : x < 32) : Mt g 1 m_MD_isOver [.ref md, .int (nI x), .int S] h sz u (Pi (b2 (isOv p x S (nT p))) h) sz u := by
  obtain ⟨hT, hB, hS, hC⟩ := hm.1.1
  refine Mt.of m_MD_isOver_w m_MD_isOver_x m_MD_isOver_c rfl rfl (ls := [.ref md, .int (nI x), .int S, .retAddr 0, .retAddr 0]) rfl ?_
  refine V_iconst (v := 0) rfl (by decide) ?_
  refine V_is3 rfl (by first | rfl | assumption) ?_
  refine V_iconst (v := 0) rfl (by decide) ?_
  refine V_is4 rfl (by first | rfl | assumption) ?_
  refine V_for2 (nT p) (fun i => [.ref md, .int (nI x), .int S, .int (b2 (isOv p x S i)), .int (nI i)]) (fun _ => h) rfl rfl (fun i hi ih => ?_) ?_
  · refine V_iload rfl rfl ?_
    refine V_aload_n rfl rfl ?_
    refine V_getI rfl rfl (by first | assumption | exact blkW_0 | exact bAt_0 (by assumption) | rfl) (by rfl) (by first | exact mp_nT (by assumption) | rfl) ?_
    refine V_icmp_geF rfl (nI_ge hi (by omega)) ?_
    refine V_iload_n rfl rfl ?_
    first | refine V_ifb_ne rfl (fun h15 => ?_) (fun h15 => ?_) | refine V_if_ne rfl (fun h15 => ?_) (fun h15 => ?_)
    · refine V_iconst (v := 1) rfl (by decide) ?_
      refine V_goto rfl ?_
      refine V_is3 rfl (by first | rfl | assumption) ?_
      refine V_inc4 rfl (by first | exact mInc _ | exact mDcr _ | rfl) (by first | rfl | assumption) ?_
      refine V_goto rfl ?_
      exact V_ls ih (by simp only [isOv, nI_eq (show i < 2 ^ 31 by omega) (show x < 2 ^ 31 by omega)] at *; simp_all [b2])
    · refine V_iload rfl rfl ?_
      refine V_iload_n rfl rfl ?_
      refine V_icmp_eq rfl (fun h21 => ?_) (fun h21 => ?_)
      · refine V_iconst (v := 0) rfl (by decide) ?_
        refine V_is3 rfl (by first | rfl | assumption) ?_
        refine V_inc4 rfl (by first | exact mInc _ | exact mDcr _ | rfl) (by first | rfl | assumption) ?_
        refine V_goto rfl ?_
        exact V_ls ih (by simp only [isOv, nI_eq (show i < 2 ^ 31 by omega) (show x < 2 ^ 31 by omega)] at *; simp_all [b2])
      · refine V_iload_n rfl rfl ?_
        refine V_iload rfl rfl ?_
        refine V_callSi rfl rfl (Or.inl rfl) m_MD_has_w m_MD_has_x rfl rfl (s_mhas _ (by first | omega | assumption)) (by decide) rfl (Nat.le_of_ble_eq_true rfl) ?_
        first | refine V_ifb_eq rfl (fun h30 => ?_) (fun h30 => ?_) | refine V_if_eq rfl (fun h30 => ?_) (fun h30 => ?_)
        · refine V_iconst (v := 0) rfl (by decide) ?_
          refine V_is3 rfl (by first | rfl | assumption) ?_
          refine V_inc4 rfl (by first | exact mInc _ | exact mDcr _ | rfl) (by first | rfl | assumption) ?_
          refine V_goto rfl ?_
          exact V_ls ih (by simp only [isOv, nI_eq (show i < 2 ^ 31 by omega) (show x < 2 ^ 31 by omega)] at *; simp_all [b2])
        · refine V_aload_n rfl rfl ?_
          refine V_getfield rfl rfl (by first | assumption | exact blkW_0 | exact bAt_0 (by assumption) | rfl) (by rfl) ?_
          refine V_iload rfl rfl ?_
          refine V_iald rfl (by first | assumption | exact blkW_i rfl rfl | exact blkW_z rfl rfl | exact bAt_i (by assumption) rfl rfl | exact bAt_z (by assumption) rfl rfl | rfl) (by first | exact fa_lit _ | exact nI_add 2 _ | exact nI_add 26 _ | rfl | assumption) (by first | omega | assumption | decide) (by first | decide | omega | assumption) (by first | exact mp_isC (by assumption) (by first | omega | assumption) | exact mp_par (by assumption) (by first | omega | assumption) | exact mp_abv (by assumption) (by first | omega | assumption) | exact mp_dep (by assumption) (by first | omega | assumption) | exact mp_bT (by assumption) (by first | omega | assumption) | exact mp_bM (by assumption) (by first | omega | assumption) | exact mp_sK (by assumption) (by first | omega | assumption) | exact mp_sB (by assumption) (by first | omega | assumption) | exact mp_sT (by assumption) (by first | omega | assumption) | exact mp_sM (by assumption) (by first | omega | assumption) | exact mp_cS (by assumption) (by first | omega | assumption) | rfl) ?_
          refine V_iload_n rfl rfl ?_
          refine V_callSi rfl rfl (Or.inl rfl) m_MD_has_w m_MD_has_x rfl rfl (s_mhas _ (by first | omega | assumption)) (by decide) rfl (Nat.le_of_ble_eq_true rfl) ?_
          first | refine V_ifb_eq rfl (fun h44 => ?_) (fun h44 => ?_) | refine V_if_eq rfl (fun h44 => ?_) (fun h44 => ?_)
          · refine V_iconst (v := 0) rfl (by decide) ?_
            refine V_is3 rfl (by first | rfl | assumption) ?_
            refine V_inc4 rfl (by first | exact mInc _ | exact mDcr _ | rfl) (by first | rfl | assumption) ?_
            refine V_goto rfl ?_
            exact V_ls ih (by simp only [isOv, nI_eq (show i < 2 ^ 31 by omega) (show x < 2 ^ 31 by omega)] at *; simp_all [b2])
          · refine V_iconst (v := 1) rfl (by decide) ?_
            refine V_goto rfl ?_
            refine V_is3 rfl (by first | rfl | assumption) ?_
            refine V_inc4 rfl (by first | exact mInc _ | exact mDcr _ | rfl) (by first | rfl | assumption) ?_
            refine V_goto rfl ?_
            exact V_ls ih (by simp only [isOv, nI_eq (show i < 2 ^ 31 by omega) (show x < 2 ^ 31 by omega)] at *; simp_all [b2])
  · refine V_iload rfl rfl ?_
    refine V_aload_n rfl rfl ?_
    refine V_getI rfl rfl (by first | assumption | exact blkW_0 | exact bAt_0 (by assumption) | rfl) (by rfl) (by first | exact mp_nT (by assumption) | rfl) ?_
    refine V_icmp_geT rfl (nI_le (Nat.le_refl _) (by omega)) ?_
    refine V_iload_n rfl rfl ?_
    refine V_ireturn rfl rfl (by first | rfl | exact b2_nar _ | assumption | decide) ?_
    exact P_ret rfl rfl
end mread
