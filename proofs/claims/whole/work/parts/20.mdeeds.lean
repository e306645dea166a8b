/-! ===== the reference's deeds ===== -/
def stB (p : Pg) (N : Nat → Int32) (how v : Nat) : Nat → Int32 :=
  if how = 0 then (if bt (N 0) (v % nT p) then N else ldF p N (v % nT p) (nC p))
  else if how = 1 then (if 0 < nB p then upd N 1 (N 1 ^^^ bI (v % nB p)) else N)
  else if how = 2 then (if 0 < nC p then (if canB p N (v % nC p) then bndF p N (v % nC p) else N) else N)
  else (if 0 < nC p then upd N (2 + v % nC p) (-1) else N)
def lotN (seed : Nat) : Nat → Nat
  | 0 => seed
  | k + 1 => lotN seed k * 16807 % 2147483647
def drF (p : Pg) (N : Nat → Int32) (seed : Nat) : Nat → Nat → Int32
  | 0 => N
  | k + 1 => stB p (drF p N seed k) (lotN seed (k + 1) % 4) (lotN seed (k + 1) / 4)
def baF (p : Pg) (N : Nat → Int32) : Nat → Nat → Int32
  | 0 => N
  | c + 1 => if canB p (baF p N c) c then bndF p (baF p N c) c else baF p N c
def baN (p : Pg) (N : Nat → Int32) : Nat → Int32
  | 0 => 0
  | c + 1 => baN p N c + b2 (canB p (baF p N c) c)
/-- the reference behind a deed: remembered, then now is N -/
abbrev dW (h : mH) (md : Nat) (sc : Nat → Int32) (ar : Nat → Nat → Int32) (un : Nat) (N : Nat → Int32) : mH := blkW 7 h md (upd sc 36 (nI (rmU un + 1))) (va_up (va_up ar 37 (rmP (ar 15) (ar 37) un)) 15 N)
theorem va_15 {ar : Nat → Nat → Int32} {f : Nat → Int32} : va_up ar 37 f 15 = ar 15 := by simp [va_up]
theorem va_3715 {ar : Nat → Nat → Int32} {f : Nat → Int32} : va_up (va_up ar 37 f) 15 (ar 15) = va_up ar 37 f := by
  have := va_self (va_up ar 37 f) 15
  rw [va_15] at this
  exact this
section mdeeds
variable {g : mG} {h : mH} {sz u md : Nat} {p : Pg} {sc : Nat → Int32} {ar : Nat → Nat → Int32}
set_option maxRecDepth 20000 in
set_option maxHeartbeats 1000000 in
theorem w_load (hm : MP p sc ar) {un : Nat} (hu : sc 36 = nI un) (hun : un ≤ 8) (t : Int32) : Mt g 8 m_MD_load [.ref md, .int t] (blkW 7 h md sc ar) sz u (fun r h' => if inN t (nT p) && !bt (ar 15 0) t.toNatClampNeg then Pi (cnF 12 (bt (ldF p (ar 15) t.toNatClampNeg (nC p) 0)) - cnF 12 (bt (ar 15 0))) (dW h md sc ar un (ldF p (ar 15) t.toNatClampNeg (nC p))) r h' else Pi (if inN t (nT p) then NOTv else UNK) (blkW 7 h md sc ar) r h') sz u := by
  obtain ⟨hT, hB, hS, hC⟩ := hm.1.1
  refine Mt.of m_MD_load_w m_MD_load_x m_MD_load_c rfl rfl (ls := [.ref md, .int t]) rfl ?_
  refine V_aload_n rfl rfl ?_
  refine V_iload_n rfl rfl ?_
  refine V_callVi rfl rfl m_MD_isType_w m_MD_isType_x rfl (by decide) rfl (s_mIsT (by first | assumption | exact blkW_at) (by first | assumption | exact MP_rcS (by assumption) | exact MP_ar rfl (by assumption) | exact MP_sc rfl (by assumption)) _) (by decide) rfl (by first | assumption | exact blkW_0 | exact bAt_0 (by assumption) | rfl) (Nat.le_of_ble_eq_true rfl) ?_
  cases h1 : inN t (nT p)
  · refine V_if_neF rfl (rfl) ?_
    refine V_ldc rfl rfl ?_
    refine V_ireturn rfl rfl (by first | rfl | exact b2_nar _ | assumption | decide) ?_
    exact P_ret rfl rfl
  · refine V_if_neT rfl (by decide) ?_
    obtain ⟨j, hj, rfl⟩ := inN_t (by omega) h1
    rw [nI_clamp (n := j) (by omega)]
    refine V_aload_n rfl rfl ?_
    refine V_getfield rfl rfl (by first | assumption | exact blkW_0 | exact bAt_0 (by assumption) | rfl) (by rfl) ?_
    refine V_iconst (v := 0) rfl (by decide) ?_
    refine V_iald rfl (by first | assumption | exact blkW_i rfl rfl | exact blkW_z rfl rfl | exact bAt_i (by assumption) rfl rfl | exact bAt_z (by assumption) rfl rfl | rfl) (by first | with_reducible rfl | exact nI_add 2 _ | exact nI_add 26 _ | exact ix45 _ _ | exact ixm45 _ | exact ix25 _ | exact fa_lit _ | assumption) (by first | omega | assumption | decide) (by first | decide | omega | assumption) (by first | exact mp_isC (by first | assumption | exact MP_rcS (by assumption) | exact MP_ar rfl (by assumption) | exact MP_sc rfl (by assumption)) (by first | omega | assumption) | exact mp_par (by first | assumption | exact MP_rcS (by assumption) | exact MP_ar rfl (by assumption) | exact MP_sc rfl (by assumption)) (by first | omega | assumption) | exact mp_abv (by first | assumption | exact MP_rcS (by assumption) | exact MP_ar rfl (by assumption) | exact MP_sc rfl (by assumption)) (by first | omega | assumption) | exact mp_dep (by first | assumption | exact MP_rcS (by assumption) | exact MP_ar rfl (by assumption) | exact MP_sc rfl (by assumption)) (by first | omega | assumption) | exact mp_bT (by first | assumption | exact MP_rcS (by assumption) | exact MP_ar rfl (by assumption) | exact MP_sc rfl (by assumption)) (by first | omega | assumption) | exact mp_bM (by first | assumption | exact MP_rcS (by assumption) | exact MP_ar rfl (by assumption) | exact MP_sc rfl (by assumption)) (by first | omega | assumption) | exact mp_sK (by first | assumption | exact MP_rcS (by assumption) | exact MP_ar rfl (by assumption) | exact MP_sc rfl (by assumption)) (by first | omega | assumption) | exact mp_sB (by first | assumption | exact MP_rcS (by assumption) | exact MP_ar rfl (by assumption) | exact MP_sc rfl (by assumption)) (by first | omega | assumption) | exact mp_sT (by first | assumption | exact MP_rcS (by assumption) | exact MP_ar rfl (by assumption) | exact MP_sc rfl (by assumption)) (by first | omega | assumption) | exact mp_sM (by first | assumption | exact MP_rcS (by assumption) | exact MP_ar rfl (by assumption) | exact MP_sc rfl (by assumption)) (by first | omega | assumption) | exact mp_cS (by first | assumption | exact MP_rcS (by assumption) | exact MP_ar rfl (by assumption) | exact MP_sc rfl (by assumption)) (by first | omega | assumption) | exact va_g | exact va_n (by decide) | rfl) ?_
    refine V_iload_n rfl rfl ?_
    refine V_callSi rfl rfl (Or.inl rfl) m_MD_has_w m_MD_has_x rfl rfl (s_mhas _ (by first | omega | assumption)) (by decide) rfl (Nat.le_of_ble_eq_true rfl) ?_
    cases h2 : bt (ar 15 0) j
    · refine V_if_eqT rfl (rfl) ?_
      refine V_aload_n rfl rfl ?_
      refine V_callVn rfl rfl m_MD_remember_w m_MD_remember_x rfl (by decide) rfl (w_remember (by assumption) (by first | omega | assumption)) (by decide) rfl (by first | assumption | exact blkW_0 | exact bAt_0 (by assumption) | rfl) (Nat.le_of_ble_eq_true rfl) ?_
      refine V_aload_n rfl rfl ?_
      refine V_iload_n rfl rfl ?_
      refine V_callVi rfl rfl m_MD_loadNow_w m_MD_loadNow_x rfl (by decide) rfl (w_loadNow (by first | assumption | exact MP_rcS (by assumption) | exact MP_ar rfl (by assumption) | exact MP_sc rfl (by assumption) | exact MP_sc rfl (MP_ar rfl (by assumption))) _ (by first | omega | assumption)) (by decide) rfl (by first | assumption | exact blkW_0 | exact bAt_0 (by assumption) | rfl) (Nat.le_of_ble_eq_true rfl) ?_
      rw [va_15]
      refine V_ireturn rfl rfl (by first | rfl | exact b2_nar _ | assumption | decide) ?_
      exact P_ret rfl rfl
    · refine V_if_eqF rfl (by decide) ?_
      refine V_ldcw rfl rfl ?_
      refine V_ireturn rfl rfl (by first | rfl | exact b2_nar _ | assumption | decide) ?_
      exact P_ret rfl rfl
set_option maxRecDepth 20000 in
set_option maxHeartbeats 1000000 in
theorem w_root (hm : MP p sc ar) {un : Nat} (hu : sc 36 = nI un) (hun : un ≤ 8) (b : Int32) (is : Bool) : Mt g 2 m_MD_root [.ref md, .int b, .int (b2 is)] (blkW 7 h md sc ar) sz u (fun r h' => if inN b (nB p) && (bt (ar 15 1) b.toNatClampNeg ^^ is) then Pi (ar 15 1 ^^^ bI b.toNatClampNeg) (dW h md sc ar un (upd (ar 15) 1 (ar 15 1 ^^^ bI b.toNatClampNeg))) r h' else Pi (if inN b (nB p) then NOTv else UNK) (blkW 7 h md sc ar) r h') sz u := by
  obtain ⟨hT, hB, hS, hC⟩ := hm.1.1
  refine Mt.of m_MD_root_w m_MD_root_x m_MD_root_c rfl rfl (ls := [.ref md, .int b, .int (b2 is)]) rfl ?_
  refine V_aload_n rfl rfl ?_
  refine V_iload_n rfl rfl ?_
  refine V_callVi rfl rfl m_MD_isBody_w m_MD_isBody_x rfl (by decide) rfl (s_mIsB (by first | assumption | exact blkW_at) (by first | assumption | exact MP_rcS (by assumption) | exact MP_ar rfl (by assumption) | exact MP_sc rfl (by assumption)) _) (by decide) rfl (by first | assumption | exact blkW_0 | exact bAt_0 (by assumption) | rfl) (Nat.le_of_ble_eq_true rfl) ?_
  cases h1 : inN b (nB p)
  · refine V_if_neF rfl (rfl) ?_
    refine V_ldc rfl rfl ?_
    refine V_ireturn rfl rfl (by first | rfl | exact b2_nar _ | assumption | decide) ?_
    exact P_ret rfl rfl
  · refine V_if_neT rfl (by decide) ?_
    obtain ⟨j, hj, rfl⟩ := inN_t (by omega) h1
    rw [nI_clamp (n := j) (by omega)]
    refine V_aload_n rfl rfl ?_
    refine V_getfield rfl rfl (by first | assumption | exact blkW_0 | exact bAt_0 (by assumption) | rfl) (by rfl) ?_
    refine V_iconst (v := 1) rfl (by decide) ?_
    refine V_iald rfl (by first | assumption | exact blkW_i rfl rfl | exact blkW_z rfl rfl | exact bAt_i (by assumption) rfl rfl | exact bAt_z (by assumption) rfl rfl | rfl) (by first | with_reducible rfl | exact nI_add 2 _ | exact nI_add 26 _ | exact ix45 _ _ | exact ixm45 _ | exact ix25 _ | exact fa_lit _ | assumption) (by first | omega | assumption | decide) (by first | decide | omega | assumption) (by first | exact mp_isC (by first | assumption | exact MP_rcS (by assumption) | exact MP_ar rfl (by assumption) | exact MP_sc rfl (by assumption)) (by first | omega | assumption) | exact mp_par (by first | assumption | exact MP_rcS (by assumption) | exact MP_ar rfl (by assumption) | exact MP_sc rfl (by assumption)) (by first | omega | assumption) | exact mp_abv (by first | assumption | exact MP_rcS (by assumption) | exact MP_ar rfl (by assumption) | exact MP_sc rfl (by assumption)) (by first | omega | assumption) | exact mp_dep (by first | assumption | exact MP_rcS (by assumption) | exact MP_ar rfl (by assumption) | exact MP_sc rfl (by assumption)) (by first | omega | assumption) | exact mp_bT (by first | assumption | exact MP_rcS (by assumption) | exact MP_ar rfl (by assumption) | exact MP_sc rfl (by assumption)) (by first | omega | assumption) | exact mp_bM (by first | assumption | exact MP_rcS (by assumption) | exact MP_ar rfl (by assumption) | exact MP_sc rfl (by assumption)) (by first | omega | assumption) | exact mp_sK (by first | assumption | exact MP_rcS (by assumption) | exact MP_ar rfl (by assumption) | exact MP_sc rfl (by assumption)) (by first | omega | assumption) | exact mp_sB (by first | assumption | exact MP_rcS (by assumption) | exact MP_ar rfl (by assumption) | exact MP_sc rfl (by assumption)) (by first | omega | assumption) | exact mp_sT (by first | assumption | exact MP_rcS (by assumption) | exact MP_ar rfl (by assumption) | exact MP_sc rfl (by assumption)) (by first | omega | assumption) | exact mp_sM (by first | assumption | exact MP_rcS (by assumption) | exact MP_ar rfl (by assumption) | exact MP_sc rfl (by assumption)) (by first | omega | assumption) | exact mp_cS (by first | assumption | exact MP_rcS (by assumption) | exact MP_ar rfl (by assumption) | exact MP_sc rfl (by assumption)) (by first | omega | assumption) | exact va_g | exact va_n (by decide) | rfl) ?_
    refine V_iload_n rfl rfl ?_
    refine V_callSi rfl rfl (Or.inl rfl) m_MD_has_w m_MD_has_x rfl rfl (s_mhas _ (by first | omega | assumption)) (by decide) rfl (Nat.le_of_ble_eq_true rfl) ?_
    refine V_iload_n rfl rfl ?_
    cases h2 : (bt (ar 15 1) j ^^ is)
    · have e : bt (ar 15 1) j = is := by
        revert h2
        cases bt (ar 15 1) j <;> cases is <;> decide
      refine V_icmp_neF rfl (by rw [e]) ?_
      refine V_ldcw rfl rfl ?_
      refine V_ireturn rfl rfl (by first | rfl | exact b2_nar _ | assumption | decide) ?_
      exact P_ret rfl rfl
    · have e : ¬ b2 (bt (ar 15 1) j) = b2 is := by
        revert h2
        cases bt (ar 15 1) j <;> cases is <;> decide
      refine V_icmp_neT rfl (e) ?_
      refine V_aload_n rfl rfl ?_
      refine V_callVn rfl rfl m_MD_remember_w m_MD_remember_x rfl (by decide) rfl (w_remember (by assumption) (by first | omega | assumption)) (by decide) rfl (by first | assumption | exact blkW_0 | exact bAt_0 (by assumption) | rfl) (Nat.le_of_ble_eq_true rfl) ?_
      refine V_aload_n rfl rfl ?_
      refine V_getfield rfl rfl (by first | assumption | exact blkW_0 | exact bAt_0 (by assumption) | rfl) (by rfl) ?_
      refine V_iconst (v := 1) rfl (by decide) ?_
      refine V_dup2 rfl rfl rfl ?_
      refine V_iald rfl (by first | assumption | exact blkW_i rfl rfl | exact blkW_z rfl rfl | exact bAt_i (by assumption) rfl rfl | exact bAt_z (by assumption) rfl rfl | rfl) (by first | with_reducible rfl | exact nI_add 2 _ | exact nI_add 26 _ | exact ix45 _ _ | exact ixm45 _ | exact ix25 _ | exact fa_lit _ | assumption) (by first | omega | assumption | decide) (by first | decide | omega | assumption) (by first | exact mp_isC (by first | assumption | exact MP_rcS (by assumption) | exact MP_ar rfl (by assumption) | exact MP_sc rfl (by assumption)) (by first | omega | assumption) | exact mp_par (by first | assumption | exact MP_rcS (by assumption) | exact MP_ar rfl (by assumption) | exact MP_sc rfl (by assumption)) (by first | omega | assumption) | exact mp_abv (by first | assumption | exact MP_rcS (by assumption) | exact MP_ar rfl (by assumption) | exact MP_sc rfl (by assumption)) (by first | omega | assumption) | exact mp_dep (by first | assumption | exact MP_rcS (by assumption) | exact MP_ar rfl (by assumption) | exact MP_sc rfl (by assumption)) (by first | omega | assumption) | exact mp_bT (by first | assumption | exact MP_rcS (by assumption) | exact MP_ar rfl (by assumption) | exact MP_sc rfl (by assumption)) (by first | omega | assumption) | exact mp_bM (by first | assumption | exact MP_rcS (by assumption) | exact MP_ar rfl (by assumption) | exact MP_sc rfl (by assumption)) (by first | omega | assumption) | exact mp_sK (by first | assumption | exact MP_rcS (by assumption) | exact MP_ar rfl (by assumption) | exact MP_sc rfl (by assumption)) (by first | omega | assumption) | exact mp_sB (by first | assumption | exact MP_rcS (by assumption) | exact MP_ar rfl (by assumption) | exact MP_sc rfl (by assumption)) (by first | omega | assumption) | exact mp_sT (by first | assumption | exact MP_rcS (by assumption) | exact MP_ar rfl (by assumption) | exact MP_sc rfl (by assumption)) (by first | omega | assumption) | exact mp_sM (by first | assumption | exact MP_rcS (by assumption) | exact MP_ar rfl (by assumption) | exact MP_sc rfl (by assumption)) (by first | omega | assumption) | exact mp_cS (by first | assumption | exact MP_rcS (by assumption) | exact MP_ar rfl (by assumption) | exact MP_sc rfl (by assumption)) (by first | omega | assumption) | exact va_g | exact va_n (by decide) | rfl) ?_
      refine V_iconst (v := 1) rfl (by decide) ?_
      refine V_iload_n rfl rfl ?_
      refine V_ishl rfl ?_
      refine V_ixor rfl ?_
      first | refine V_bast rfl rfl rfl (by first | with_reducible rfl | exact nI_add 2 _ | exact nI_add 26 _ | exact ix45 _ _ | exact ixm45 _ | exact ix25 _ | exact fa_lit _ | assumption) (by first | omega | assumption | decide) (by first | decide | omega | assumption) ?_ | refine V_iastore rfl (by first | assumption | exact blkW_i rfl rfl | exact blkW_z rfl rfl | exact bAt_i (by assumption) rfl rfl | exact bAt_z (by assumption) rfl rfl | rfl) (by first | with_reducible rfl | exact nI_add 2 _ | exact nI_add 26 _ | exact ix45 _ _ | exact ixm45 _ | exact ix25 _ | exact fa_lit _ | assumption) (by first | omega | assumption | decide) (by first | decide | omega | assumption) ?_
      rw [va_15]
      refine V_aload_n rfl rfl ?_
      refine V_getfield rfl rfl (by first | assumption | exact blkW_0 | exact bAt_0 (by assumption) | rfl) (by rfl) ?_
      refine V_iconst (v := 1) rfl (by decide) ?_
      refine V_iald rfl (by first | assumption | exact blkW_i rfl rfl | exact blkW_z rfl rfl | exact bAt_i (by assumption) rfl rfl | exact bAt_z (by assumption) rfl rfl | rfl) (by first | with_reducible rfl | exact nI_add 2 _ | exact nI_add 26 _ | exact ix45 _ _ | exact ixm45 _ | exact ix25 _ | exact fa_lit _ | assumption) (by first | omega | assumption | decide) (by first | decide | omega | assumption) (by first | exact mp_isC (by first | assumption | exact MP_rcS (by assumption) | exact MP_ar rfl (by assumption) | exact MP_sc rfl (by assumption)) (by first | omega | assumption) | exact mp_par (by first | assumption | exact MP_rcS (by assumption) | exact MP_ar rfl (by assumption) | exact MP_sc rfl (by assumption)) (by first | omega | assumption) | exact mp_abv (by first | assumption | exact MP_rcS (by assumption) | exact MP_ar rfl (by assumption) | exact MP_sc rfl (by assumption)) (by first | omega | assumption) | exact mp_dep (by first | assumption | exact MP_rcS (by assumption) | exact MP_ar rfl (by assumption) | exact MP_sc rfl (by assumption)) (by first | omega | assumption) | exact mp_bT (by first | assumption | exact MP_rcS (by assumption) | exact MP_ar rfl (by assumption) | exact MP_sc rfl (by assumption)) (by first | omega | assumption) | exact mp_bM (by first | assumption | exact MP_rcS (by assumption) | exact MP_ar rfl (by assumption) | exact MP_sc rfl (by assumption)) (by first | omega | assumption) | exact mp_sK (by first | assumption | exact MP_rcS (by assumption) | exact MP_ar rfl (by assumption) | exact MP_sc rfl (by assumption)) (by first | omega | assumption) | exact mp_sB (by first | assumption | exact MP_rcS (by assumption) | exact MP_ar rfl (by assumption) | exact MP_sc rfl (by assumption)) (by first | omega | assumption) | exact mp_sT (by first | assumption | exact MP_rcS (by assumption) | exact MP_ar rfl (by assumption) | exact MP_sc rfl (by assumption)) (by first | omega | assumption) | exact mp_sM (by first | assumption | exact MP_rcS (by assumption) | exact MP_ar rfl (by assumption) | exact MP_sc rfl (by assumption)) (by first | omega | assumption) | exact mp_cS (by first | assumption | exact MP_rcS (by assumption) | exact MP_ar rfl (by assumption) | exact MP_sc rfl (by assumption)) (by first | omega | assumption) | exact va_g | exact va_n (by decide) | rfl) ?_
      refine V_ireturn rfl rfl (by first | rfl | exact b2_nar _ | assumption | decide) ?_
      exact P_ret rfl rfl
set_option maxRecDepth 20000 in
set_option maxHeartbeats 1000000 in
theorem w_bind (hm : MP p sc ar) {un : Nat} (hu : sc 36 = nI un) (hun : un ≤ 8) (c : Int32) : Mt g 7 m_MD_bind [.ref md, .int c] (blkW 7 h md sc ar) sz u (fun r h' => if inN c (nC p) && canB p (ar 15) c.toNatClampNeg then Pi (nI (low (may p c.toNatClampNeg (ar 15 0)))) (dW h md sc ar un (bndF p (ar 15) c.toNatClampNeg)) r h' else Pi (if inN c (nC p) then NOTv else UNK) (blkW 7 h md sc ar) r h') sz u := by
  obtain ⟨hT, hB, hS, hC⟩ := hm.1.1
  refine Mt.of m_MD_bind_w m_MD_bind_x m_MD_bind_c rfl rfl (ls := [.ref md, .int c]) rfl ?_
  refine V_aload_n rfl rfl ?_
  refine V_iload_n rfl rfl ?_
  refine V_callVi rfl rfl m_MD_isCall_w m_MD_isCall_x rfl (by decide) rfl (s_mIsC (by first | assumption | exact blkW_at) (by first | assumption | exact MP_rcS (by assumption) | exact MP_ar rfl (by assumption) | exact MP_sc rfl (by assumption)) _) (by decide) rfl (by first | assumption | exact blkW_0 | exact bAt_0 (by assumption) | rfl) (Nat.le_of_ble_eq_true rfl) ?_
  cases h1 : inN c (nC p)
  · refine V_if_neF rfl (rfl) ?_
    refine V_ldc rfl rfl ?_
    refine V_ireturn rfl rfl (by first | rfl | exact b2_nar _ | assumption | decide) ?_
    exact P_ret rfl rfl
  · refine V_if_neT rfl (by decide) ?_
    obtain ⟨j, hj, rfl⟩ := inN_t (by omega) h1
    rw [nI_clamp (n := j) (by omega)]
    refine V_aload_n rfl rfl ?_
    refine V_iload_n rfl rfl ?_
    refine V_callVi rfl rfl m_MD_canBind_w m_MD_canBind_x rfl (by decide) rfl (s_canB (by first | assumption | exact blkW_at) (by first | assumption | exact MP_rcS (by assumption) | exact MP_ar rfl (by assumption) | exact MP_sc rfl (by assumption)) _ (by first | omega | assumption)) (by decide) rfl (by first | assumption | exact blkW_0 | exact bAt_0 (by assumption) | rfl) (Nat.le_of_ble_eq_true rfl) ?_
    cases h2 : canB p (ar 15) j
    · refine V_if_neF rfl (b2_f h2) ?_
      refine V_ldcw rfl rfl ?_
      refine V_ireturn rfl rfl (by first | rfl | exact b2_nar _ | assumption | decide) ?_
      exact P_ret rfl rfl
    · have ho : oneB (may p j (va_up ar 37 (rmP (ar 15) (ar 37) un) 15 0)) = true := by
        rw [va_15]
        unfold canB at h2
        rw [Bool.and_eq_true] at h2
        exact h2.2
      refine V_if_neT rfl (b2_ne0.mpr h2) ?_
      refine V_aload_n rfl rfl ?_
      refine V_callVn rfl rfl m_MD_remember_w m_MD_remember_x rfl (by decide) rfl (w_remember (by assumption) (by first | omega | assumption)) (by decide) rfl (by first | assumption | exact blkW_0 | exact bAt_0 (by assumption) | rfl) (Nat.le_of_ble_eq_true rfl) ?_
      refine V_aload_n rfl rfl ?_
      refine V_iload_n rfl rfl ?_
      refine V_callVi rfl rfl m_MD_bindNow_w m_MD_bindNow_x rfl (by decide) rfl (w_bindNow (by first | assumption | exact MP_rcS (by assumption) | exact MP_ar rfl (by assumption) | exact MP_sc rfl (by assumption) | exact MP_sc rfl (MP_ar rfl (by assumption))) _ (by first | omega | assumption) (by assumption)) (by decide) rfl (by first | assumption | exact blkW_0 | exact bAt_0 (by assumption) | rfl) (Nat.le_of_ble_eq_true rfl) ?_
      refine V_ireturn rfl rfl (by first | rfl | exact b2_nar _ | assumption | decide) ?_
      rw [va_15]
      exact P_ret rfl rfl
set_option maxRecDepth 20000 in
set_option maxHeartbeats 1000000 in
theorem w_loose (hm : MP p sc ar) {un : Nat} (hu : sc 36 = nI un) (hun : un ≤ 8) (c : Int32) : Mt g 2 m_MD_loose [.ref md, .int c] (blkW 7 h md sc ar) sz u (fun r h' => if inN c (nC p) && !decide (ar 15 (2 + c.toNatClampNeg) < 0) then Pi (ar 15 (2 + c.toNatClampNeg)) (dW h md sc ar un (upd (ar 15) (2 + c.toNatClampNeg) (-1))) r h' else Pi (if inN c (nC p) then NOTv else UNK) (blkW 7 h md sc ar) r h') sz u := by
  obtain ⟨hT, hB, hS, hC⟩ := hm.1.1
  refine Mt.of m_MD_loose_w m_MD_loose_x m_MD_loose_c rfl rfl (ls := [.ref md, .int c, .retAddr 0]) rfl ?_
  refine V_aload_n rfl rfl ?_
  refine V_iload_n rfl rfl ?_
  refine V_callVi rfl rfl m_MD_isCall_w m_MD_isCall_x rfl (by decide) rfl (s_mIsC (by first | assumption | exact blkW_at) (by first | assumption | exact MP_rcS (by assumption) | exact MP_ar rfl (by assumption) | exact MP_sc rfl (by assumption)) _) (by decide) rfl (by first | assumption | exact blkW_0 | exact bAt_0 (by assumption) | rfl) (Nat.le_of_ble_eq_true rfl) ?_
  cases h1 : inN c (nC p)
  · refine V_if_neF rfl (rfl) ?_
    refine V_ldc rfl rfl ?_
    refine V_ireturn rfl rfl (by first | rfl | exact b2_nar _ | assumption | decide) ?_
    exact P_ret rfl rfl
  · refine V_if_neT rfl (by decide) ?_
    obtain ⟨j, hj, rfl⟩ := inN_t (by omega) h1
    rw [nI_clamp (n := j) (by omega)]
    refine V_aload_n rfl rfl ?_
    refine V_getfield rfl rfl (by first | assumption | exact blkW_0 | exact bAt_0 (by assumption) | rfl) (by rfl) ?_
    refine V_iconst (v := 2) rfl (by decide) ?_
    refine V_iload_n rfl rfl ?_
    refine V_iadd rfl ?_
    refine V_iald rfl (by first | assumption | exact blkW_i rfl rfl | exact blkW_z rfl rfl | exact bAt_i (by assumption) rfl rfl | exact bAt_z (by assumption) rfl rfl | rfl) (by first | with_reducible rfl | exact nI_add 2 _ | exact nI_add 26 _ | exact ix45 _ _ | exact ixm45 _ | exact ix25 _ | exact fa_lit _ | assumption) (by first | omega | assumption | decide) (by first | decide | omega | assumption) (by first | exact mp_isC (by first | assumption | exact MP_rcS (by assumption) | exact MP_ar rfl (by assumption) | exact MP_sc rfl (by assumption)) (by first | omega | assumption) | exact mp_par (by first | assumption | exact MP_rcS (by assumption) | exact MP_ar rfl (by assumption) | exact MP_sc rfl (by assumption)) (by first | omega | assumption) | exact mp_abv (by first | assumption | exact MP_rcS (by assumption) | exact MP_ar rfl (by assumption) | exact MP_sc rfl (by assumption)) (by first | omega | assumption) | exact mp_dep (by first | assumption | exact MP_rcS (by assumption) | exact MP_ar rfl (by assumption) | exact MP_sc rfl (by assumption)) (by first | omega | assumption) | exact mp_bT (by first | assumption | exact MP_rcS (by assumption) | exact MP_ar rfl (by assumption) | exact MP_sc rfl (by assumption)) (by first | omega | assumption) | exact mp_bM (by first | assumption | exact MP_rcS (by assumption) | exact MP_ar rfl (by assumption) | exact MP_sc rfl (by assumption)) (by first | omega | assumption) | exact mp_sK (by first | assumption | exact MP_rcS (by assumption) | exact MP_ar rfl (by assumption) | exact MP_sc rfl (by assumption)) (by first | omega | assumption) | exact mp_sB (by first | assumption | exact MP_rcS (by assumption) | exact MP_ar rfl (by assumption) | exact MP_sc rfl (by assumption)) (by first | omega | assumption) | exact mp_sT (by first | assumption | exact MP_rcS (by assumption) | exact MP_ar rfl (by assumption) | exact MP_sc rfl (by assumption)) (by first | omega | assumption) | exact mp_sM (by first | assumption | exact MP_rcS (by assumption) | exact MP_ar rfl (by assumption) | exact MP_sc rfl (by assumption)) (by first | omega | assumption) | exact mp_cS (by first | assumption | exact MP_rcS (by assumption) | exact MP_ar rfl (by assumption) | exact MP_sc rfl (by assumption)) (by first | omega | assumption) | exact va_g | exact va_n (by decide) | rfl) ?_
    by_cases h2 : ar 15 (2 + j) < 0
    · rw [decide_eq_true h2]
      refine V_if_geF rfl (fun q => fa_of_nlt2 q h2) ?_
      refine V_ldcw rfl rfl ?_
      refine V_ireturn rfl rfl (by first | rfl | exact b2_nar _ | assumption | decide) ?_
      exact P_ret rfl rfl
    · rw [decide_eq_false h2]
      refine V_if_geT rfl (fa_of_nlt h2) ?_
      refine V_aload_n rfl rfl ?_
      refine V_callVn rfl rfl m_MD_remember_w m_MD_remember_x rfl (by decide) rfl (w_remember (by assumption) (by first | omega | assumption)) (by decide) rfl (by first | assumption | exact blkW_0 | exact bAt_0 (by assumption) | rfl) (Nat.le_of_ble_eq_true rfl) ?_
      refine V_aload_n rfl rfl ?_
      refine V_getfield rfl rfl (by first | assumption | exact blkW_0 | exact bAt_0 (by assumption) | rfl) (by rfl) ?_
      refine V_iconst (v := 2) rfl (by decide) ?_
      refine V_iload_n rfl rfl ?_
      refine V_iadd rfl ?_
      refine V_iald rfl (by first | assumption | exact blkW_i rfl rfl | exact blkW_z rfl rfl | exact bAt_i (by assumption) rfl rfl | exact bAt_z (by assumption) rfl rfl | rfl) (by first | with_reducible rfl | exact nI_add 2 _ | exact nI_add 26 _ | exact ix45 _ _ | exact ixm45 _ | exact ix25 _ | exact fa_lit _ | assumption) (by first | omega | assumption | decide) (by first | decide | omega | assumption) (by first | exact mp_isC (by first | assumption | exact MP_rcS (by assumption) | exact MP_ar rfl (by assumption) | exact MP_sc rfl (by assumption)) (by first | omega | assumption) | exact mp_par (by first | assumption | exact MP_rcS (by assumption) | exact MP_ar rfl (by assumption) | exact MP_sc rfl (by assumption)) (by first | omega | assumption) | exact mp_abv (by first | assumption | exact MP_rcS (by assumption) | exact MP_ar rfl (by assumption) | exact MP_sc rfl (by assumption)) (by first | omega | assumption) | exact mp_dep (by first | assumption | exact MP_rcS (by assumption) | exact MP_ar rfl (by assumption) | exact MP_sc rfl (by assumption)) (by first | omega | assumption) | exact mp_bT (by first | assumption | exact MP_rcS (by assumption) | exact MP_ar rfl (by assumption) | exact MP_sc rfl (by assumption)) (by first | omega | assumption) | exact mp_bM (by first | assumption | exact MP_rcS (by assumption) | exact MP_ar rfl (by assumption) | exact MP_sc rfl (by assumption)) (by first | omega | assumption) | exact mp_sK (by first | assumption | exact MP_rcS (by assumption) | exact MP_ar rfl (by assumption) | exact MP_sc rfl (by assumption)) (by first | omega | assumption) | exact mp_sB (by first | assumption | exact MP_rcS (by assumption) | exact MP_ar rfl (by assumption) | exact MP_sc rfl (by assumption)) (by first | omega | assumption) | exact mp_sT (by first | assumption | exact MP_rcS (by assumption) | exact MP_ar rfl (by assumption) | exact MP_sc rfl (by assumption)) (by first | omega | assumption) | exact mp_sM (by first | assumption | exact MP_rcS (by assumption) | exact MP_ar rfl (by assumption) | exact MP_sc rfl (by assumption)) (by first | omega | assumption) | exact mp_cS (by first | assumption | exact MP_rcS (by assumption) | exact MP_ar rfl (by assumption) | exact MP_sc rfl (by assumption)) (by first | omega | assumption) | exact va_g | exact va_n (by decide) | rfl) ?_
      refine V_is2 rfl (by first | rfl | assumption) ?_
      refine V_aload_n rfl rfl ?_
      refine V_getfield rfl rfl (by first | assumption | exact blkW_0 | exact bAt_0 (by assumption) | rfl) (by rfl) ?_
      refine V_iconst (v := 2) rfl (by decide) ?_
      refine V_iload_n rfl rfl ?_
      refine V_iadd rfl ?_
      refine V_iconst (v := (-1)) rfl (by decide) ?_
      first | refine V_bast rfl rfl rfl (by first | with_reducible rfl | exact nI_add 2 _ | exact nI_add 26 _ | exact ix45 _ _ | exact ixm45 _ | exact ix25 _ | exact fa_lit _ | assumption) (by first | omega | assumption | decide) (by first | decide | omega | assumption) ?_ | refine V_iastore rfl (by first | assumption | exact blkW_i rfl rfl | exact blkW_z rfl rfl | exact bAt_i (by assumption) rfl rfl | exact bAt_z (by assumption) rfl rfl | rfl) (by first | with_reducible rfl | exact nI_add 2 _ | exact nI_add 26 _ | exact ix45 _ _ | exact ixm45 _ | exact ix25 _ | exact fa_lit _ | assumption) (by first | omega | assumption | decide) (by first | decide | omega | assumption) ?_
      refine V_iload_n rfl rfl ?_
      refine V_ireturn rfl rfl (by first | rfl | exact b2_nar _ | assumption | decide) ?_
      rw [va_15]
      exact P_ret rfl rfl
set_option maxRecDepth 20000 in
set_option maxHeartbeats 1000000 in
theorem w_bindAll (hm : MP p sc ar) {un : Nat} (hu : sc 36 = nI un) (hun : un ≤ 8) : Mt g 7 m_MD_bindAll [.ref md] (blkW 7 h md sc ar) sz u (Pi (baN p (ar 15) (nC p)) (dW h md sc ar un (baF p (ar 15) (nC p)))) sz u := by
  obtain ⟨hT, hB, hS, hC⟩ := hm.1.1
  refine Mt.of m_MD_bindAll_w m_MD_bindAll_x m_MD_bindAll_c rfl rfl (ls := [.ref md, .retAddr 0, .retAddr 0]) rfl ?_
  refine V_aload_n rfl rfl ?_
  refine V_callVn rfl rfl m_MD_remember_w m_MD_remember_x rfl (by decide) rfl (w_remember (by assumption) (by first | omega | assumption)) (by decide) rfl (by first | assumption | exact blkW_0 | exact bAt_0 (by assumption) | rfl) (Nat.le_of_ble_eq_true rfl) ?_
  refine V_iconst (v := 0) rfl (by decide) ?_
  refine V_is1 rfl (by first | rfl | assumption) ?_
  refine V_iconst (v := 0) rfl (by decide) ?_
  refine V_is2 rfl (by first | rfl | assumption) ?_
  refine V_for2 (nC p) (fun i => [.ref md, .int (baN p (ar 15) i), .int (nI i)]) (fun i => dW h md sc ar un (baF p (ar 15) i)) rfl (by show blkW _ _ _ _ (va_up (va_up ar 37 _) 15 (ar 15)) = _; rw [va_3715]) (fun i hi ih => ?_) ?_
  · have hm2 : MP p (upd sc 36 (nI (rmU un + 1))) (va_up (va_up ar 37 (rmP (ar 15) (ar 37) un)) 15 (baF p (ar 15) i)) := MP_sc rfl (MP_ar rfl (MP_ar rfl hm))
    have hl : baF p (ar 15) (i + 1) = if canB p (baF p (ar 15) i) i then bndF p (baF p (ar 15) i) i else baF p (ar 15) i := rfl
    have hl2 : baN p (ar 15) (i + 1) = baN p (ar 15) i + b2 (canB p (baF p (ar 15) i) i) := rfl
    have hg : va_up (va_up ar 37 (rmP (ar 15) (ar 37) un)) 15 (baF p (ar 15) i) 15 = baF p (ar 15) i := by simp [va_up]
    refine V_iload_n rfl rfl ?_
    refine V_aload_n rfl rfl ?_
    refine V_getI rfl rfl (by first | assumption | exact blkW_0 | exact bAt_0 (by assumption) | rfl) (by rfl) (by first | exact mp_nC (by first | assumption | exact MP_rcS (by assumption) | exact MP_ar rfl (by assumption) | exact MP_sc rfl (by assumption)) | rfl) ?_
    refine V_icmp_geF rfl (nI_ge hi (by omega)) ?_
    refine V_aload_n rfl rfl ?_
    refine V_iload_n rfl rfl ?_
    refine V_callVi rfl rfl m_MD_canBind_w m_MD_canBind_x rfl (by decide) rfl (s_canB (by first | assumption | exact blkW_at) (by first | assumption | exact MP_rcS (by assumption) | exact MP_ar rfl (by assumption) | exact MP_sc rfl (by assumption)) _ (by first | omega | assumption)) (by decide) rfl (by first | assumption | exact blkW_0 | exact bAt_0 (by assumption) | rfl) (Nat.le_of_ble_eq_true rfl) ?_
    rw [hg]
    cases h2 : canB p (baF p (ar 15) i) i
    · rw [h2] at hl hl2
      refine V_if_eqT rfl (b2_f h2) ?_
      refine V_inc2 rfl (by first | exact mInc _ | rfl) (by first | rfl | assumption) ?_
      refine V_goto rfl ?_
      rw [hl, hl2] at ih
      exact V_wk ih (by simp [mWk, b2])
    · rw [h2] at hl hl2
      have ho : oneB (may p i (va_up (va_up ar 37 (rmP (ar 15) (ar 37) un)) 15 (baF p (ar 15) i) 15 0)) = true := by
        rw [hg]
        unfold canB at h2
        rw [Bool.and_eq_true] at h2
        exact h2.2
      have hx := (low_in (low_lt ho)).1
      refine V_if_eqF rfl (b2_ne0.mpr h2) ?_
      refine V_iload_n rfl rfl ?_
      refine V_aload_n rfl rfl ?_
      refine V_iload_n rfl rfl ?_
      refine V_callVi rfl rfl m_MD_bindNow_w m_MD_bindNow_x rfl (by decide) rfl (w_bindNow (by first | assumption | exact MP_rcS (by assumption) | exact MP_ar rfl (by assumption) | exact MP_sc rfl (by assumption) | exact MP_sc rfl (MP_ar rfl (by assumption))) _ (by first | omega | assumption) (by assumption)) (by decide) rfl (by first | assumption | exact blkW_0 | exact bAt_0 (by assumption) | rfl) (Nat.le_of_ble_eq_true rfl) ?_
      refine V_if_ltF rfl (nI_pos (by omega)) ?_
      refine V_iconst (v := 1) rfl (by decide) ?_
      refine V_goto rfl ?_
      refine V_iadd rfl ?_
      refine V_is1 rfl (by first | rfl | assumption) ?_
      refine V_inc2 rfl (by first | exact mInc _ | rfl) (by first | rfl | assumption) ?_
      refine V_goto rfl ?_
      refine V_wkh ih ?_ ?_
      · rw [hl2]
        simp [mWk, b2]
      · rw [bx_uu, hg, hl]
        rfl
  · have hm2 : MP p (upd sc 36 (nI (rmU un + 1))) (va_up (va_up ar 37 (rmP (ar 15) (ar 37) un)) 15 (baF p (ar 15) (nC p))) := MP_sc rfl (MP_ar rfl (MP_ar rfl hm))
    refine V_iload_n rfl rfl ?_
    refine V_aload_n rfl rfl ?_
    refine V_getI rfl rfl (by first | assumption | exact blkW_0 | exact bAt_0 (by assumption) | rfl) (by rfl) (by first | exact mp_nC (by first | assumption | exact MP_rcS (by assumption) | exact MP_ar rfl (by assumption) | exact MP_sc rfl (by assumption)) | rfl) ?_
    refine V_icmp_geT rfl (nI_le (Nat.le_refl _) (by omega)) ?_
    refine V_iload_n rfl rfl ?_
    refine V_ireturn rfl rfl (by first | rfl | exact b2_nar _ | assumption | decide) ?_
    exact P_ret rfl rfl
set_option maxRecDepth 20000 in
set_option maxHeartbeats 1000000 in
theorem w_undo {un : Nat} (hu : sc 36 = nI un) (hun : un ≤ 8) : Mt g 0 m_MD_undo [.ref md] (blkW 7 h md sc ar) sz u (fun r h' => if un = 0 then Pi NOTv (blkW 7 h md sc ar) r h' else Pi (nI (un - 1)) (blkW 7 h md (upd sc 36 (nI (un - 1))) (va_up ar 15 (fa_fill (fun k => ar 37 (45 * (un - 1) + k)) (ar 15) 45))) r h') sz u := by
  refine Mt.of m_MD_undo_w m_MD_undo_x m_MD_undo_c rfl rfl (ls := [.ref md, .retAddr 0]) rfl ?_
  refine V_aload_n rfl rfl ?_
  refine V_getI rfl rfl (by first | assumption | exact blkW_0 | exact bAt_0 (by assumption) | rfl) (by rfl) (by first | exact pk_us | exact (by assumption) | exact rcS_o rfl | rfl) ?_
  by_cases e : un = 0
  · simp only [if_pos e]
    refine V_if_neF rfl (by rw [e]; rfl) ?_
    refine V_ldcw rfl rfl ?_
    refine V_ireturn rfl rfl (by first | rfl | exact b2_nar _ | assumption | decide) ?_
    exact P_ret rfl rfl
  · obtain ⟨k, rfl⟩ : ∃ k, un = k + 1 := ⟨un - 1, by omega⟩
    simp only [if_neg e, Nat.add_sub_cancel]
    refine V_if_neT rfl (nI_ne0 (by omega) (by omega)) ?_
    refine V_aload_n rfl rfl ?_
    refine V_dup rfl rfl ?_
    refine V_getI rfl rfl (by first | assumption | exact blkW_0 | exact bAt_0 (by assumption) | rfl) (by rfl) (by first | exact pk_us | exact (by assumption) | exact rcS_o rfl | rfl) ?_
    refine V_iconst (v := 1) rfl (by decide) ?_
    refine V_isub rfl ?_
    rw [show nI (k + 1) - 1 = nI k from nI_pred k]
    first | refine V_bput rfl rfl rfl rfl rfl rfl ?_ | refine V_bputZ rfl rfl rfl rfl rfl rfl (by decide) ?_ | refine V_put rfl rfl (by first | assumption | rfl) (by decide) (fun _ hty => by cases hty; exact ⟨rfl, rfl⟩) (by first | exact Or.inl rfl | exact Or.inr ⟨rfl, rfl⟩) rfl ?_
    refine V_iconst (v := 0) rfl (by decide) ?_
    refine V_is1 rfl (by first | rfl | assumption) ?_
    refine V_for2 45 (fun i => [.ref md, .int (nI i)]) (fun i => blkW 7 h md (upd sc 36 (nI k)) (va_up ar 15 (fa_fill (fun j => ar 37 (45 * k + j)) (ar 15) i))) rfl (by rw [fa_fill_0, va_self]) (fun i hi ih => ?_) ?_
    · refine V_iload_n rfl rfl ?_
      refine V_bipush (v := 45) rfl (by decide) ?_
      refine V_icmp_geF rfl (nI_ge (b := 45) hi (by decide)) ?_
      refine V_aload_n rfl rfl ?_
      refine V_getfield rfl rfl (by first | assumption | exact blkW_0 | exact bAt_0 (by assumption) | rfl) (by rfl) ?_
      refine V_iload_n rfl rfl ?_
      refine V_aload_n rfl rfl ?_
      refine V_getfield rfl rfl (by first | assumption | exact blkW_0 | exact bAt_0 (by assumption) | rfl) (by rfl) ?_
      refine V_bipush (v := 45) rfl (by decide) ?_
      refine V_aload_n rfl rfl ?_
      refine V_getI rfl rfl (by first | assumption | exact blkW_0 | exact bAt_0 (by assumption) | rfl) (by rfl) (by first | exact pk_us | exact (by assumption) | exact rcS_o rfl | rfl) ?_
      refine V_imul rfl ?_
      refine V_iload_n rfl rfl ?_
      refine V_iadd rfl ?_
      refine V_iald rfl (by first | assumption | exact blkW_i rfl rfl | exact blkW_z rfl rfl | exact bAt_i (by assumption) rfl rfl | exact bAt_z (by assumption) rfl rfl | rfl) (by first | with_reducible rfl | exact nI_add 2 _ | exact nI_add 26 _ | exact ix45 _ _ | exact ixm45 _ | exact ix25 _ | exact fa_lit _ | assumption) (by first | omega | assumption | decide) (by first | decide | omega | assumption) (by first | exact mp_isC (by first | assumption | exact MP_rcS (by assumption) | exact MP_ar rfl (by assumption) | exact MP_sc rfl (by assumption)) (by first | omega | assumption) | exact mp_par (by first | assumption | exact MP_rcS (by assumption) | exact MP_ar rfl (by assumption) | exact MP_sc rfl (by assumption)) (by first | omega | assumption) | exact mp_abv (by first | assumption | exact MP_rcS (by assumption) | exact MP_ar rfl (by assumption) | exact MP_sc rfl (by assumption)) (by first | omega | assumption) | exact mp_dep (by first | assumption | exact MP_rcS (by assumption) | exact MP_ar rfl (by assumption) | exact MP_sc rfl (by assumption)) (by first | omega | assumption) | exact mp_bT (by first | assumption | exact MP_rcS (by assumption) | exact MP_ar rfl (by assumption) | exact MP_sc rfl (by assumption)) (by first | omega | assumption) | exact mp_bM (by first | assumption | exact MP_rcS (by assumption) | exact MP_ar rfl (by assumption) | exact MP_sc rfl (by assumption)) (by first | omega | assumption) | exact mp_sK (by first | assumption | exact MP_rcS (by assumption) | exact MP_ar rfl (by assumption) | exact MP_sc rfl (by assumption)) (by first | omega | assumption) | exact mp_sB (by first | assumption | exact MP_rcS (by assumption) | exact MP_ar rfl (by assumption) | exact MP_sc rfl (by assumption)) (by first | omega | assumption) | exact mp_sT (by first | assumption | exact MP_rcS (by assumption) | exact MP_ar rfl (by assumption) | exact MP_sc rfl (by assumption)) (by first | omega | assumption) | exact mp_sM (by first | assumption | exact MP_rcS (by assumption) | exact MP_ar rfl (by assumption) | exact MP_sc rfl (by assumption)) (by first | omega | assumption) | exact mp_cS (by first | assumption | exact MP_rcS (by assumption) | exact MP_ar rfl (by assumption) | exact MP_sc rfl (by assumption)) (by first | omega | assumption) | exact va_g | exact va_n (by decide) | rfl) ?_
      first | refine V_bast rfl rfl rfl (by first | with_reducible rfl | exact nI_add 2 _ | exact nI_add 26 _ | exact ix45 _ _ | exact ixm45 _ | exact ix25 _ | exact fa_lit _ | assumption) (by first | omega | assumption | decide) (by first | decide | omega | assumption) ?_ | refine V_iastore rfl (by first | assumption | exact blkW_i rfl rfl | exact blkW_z rfl rfl | exact bAt_i (by assumption) rfl rfl | exact bAt_z (by assumption) rfl rfl | rfl) (by first | with_reducible rfl | exact nI_add 2 _ | exact nI_add 26 _ | exact ix45 _ _ | exact ixm45 _ | exact ix25 _ | exact fa_lit _ | assumption) (by first | omega | assumption | decide) (by first | decide | omega | assumption) ?_
      refine V_inc1 rfl (by first | exact mInc _ | rfl) (by first | rfl | assumption) ?_
      refine V_goto rfl ?_
      refine V_wkh ih (by simp [mWk]) ?_
      rw [va_st, ← fa_fill_succ]
    · refine V_iload_n rfl rfl ?_
      refine V_bipush (v := 45) rfl (by decide) ?_
      refine V_icmp_geT rfl (nI_le (Nat.le_refl 45) (by decide)) ?_
      refine V_aload_n rfl rfl ?_
      refine V_getI rfl rfl (by first | assumption | exact blkW_0 | exact bAt_0 (by assumption) | rfl) (by rfl) (by first | exact pk_us | exact (by assumption) | exact rcS_o rfl | rfl) ?_
      refine V_ireturn rfl rfl (by first | rfl | exact b2_nar _ | assumption | decide) ?_
      exact P_ret rfl rfl
theorem lc0 : Int64.ofNat ((0 : Fin 2) : Nat) = 0 := rfl
theorem lc1 : Int64.ofNat ((1 : Fin 2) : Nat) = 1 := rfl
set_option maxRecDepth 20000 in
set_option maxHeartbeats 1000000 in
theorem w_keep (i : Int32) : Mt g 1 m_MD_keep [.ref md, .int i] (blkW 7 h md sc ar) sz u (fun r h' => if inN i 2 then Pi 1 (blkW 7 h md (upd sc 36 0) (va_up (va_up ar 39 (fb_put (ar 39) (ar 15) (45 * i.toNatClampNeg) 45)) 40 (upd (ar 40) i.toNatClampNeg 1))) r h' else Pi UNK (blkW 7 h md sc ar) r h') sz u := by
  refine Mt.of m_MD_keep_w m_MD_keep_x m_MD_keep_c rfl rfl (ls := [.ref md, .int i, .retAddr 0]) rfl ?_
  refine V_iload_n rfl rfl ?_
  refine V_i2l rfl ?_
  refine V_lconst rfl rfl ?_
  refine V_lconst rfl rfl ?_
  refine V_callSi rfl rfl (Or.inl rfl) m_MD_in_w m_MD_in_x rfl rfl (s_in _ _ _) (by decide) rfl (Nat.le_of_ble_eq_true rfl) ?_
  rw [show b2 (decide (Int64.ofNat ((0 : Fin 2) : Nat) ≤ i.toInt64 ∧ i.toInt64 ≤ Int64.ofNat ((1 : Fin 2) : Nat))) = b2 (inN i 2) by rw [← wide_lit i 2 (by decide) 1 (by decide)]; rfl]
  cases h1 : inN i 2
  · refine V_if_neF rfl (rfl) ?_
    refine V_ldc rfl rfl ?_
    refine V_ireturn rfl rfl (by first | rfl | exact b2_nar _ | assumption | decide) ?_
    exact P_ret rfl rfl
  · refine V_if_neT rfl (by decide) ?_
    obtain ⟨j, hj, rfl⟩ := inN_t (by decide) h1
    rw [nI_clamp (n := j) (by omega)]
    refine V_iconst (v := 0) rfl (by decide) ?_
    refine V_is2 rfl (by first | rfl | assumption) ?_
    refine V_for2 45 (fun i => [.ref md, .int (nI j), .int (nI i)]) (fun i => blkW 7 h md sc (va_up ar 39 (fb_put (ar 39) (ar 15) (45 * j) i))) rfl (by rw [fb_put_0, va_self]) (fun i hi ih => ?_) ?_
    · refine V_iload_n rfl rfl ?_
      refine V_bipush (v := 45) rfl (by decide) ?_
      refine V_icmp_geF rfl (nI_ge (b := 45) hi (by decide)) ?_
      refine V_aload_n rfl rfl ?_
      refine V_getfield rfl rfl (by first | assumption | exact blkW_0 | exact bAt_0 (by assumption) | rfl) (by rfl) ?_
      refine V_bipush (v := 45) rfl (by decide) ?_
      refine V_iload_n rfl rfl ?_
      refine V_imul rfl ?_
      refine V_iload_n rfl rfl ?_
      refine V_iadd rfl ?_
      refine V_aload_n rfl rfl ?_
      refine V_getfield rfl rfl (by first | assumption | exact blkW_0 | exact bAt_0 (by assumption) | rfl) (by rfl) ?_
      refine V_iload_n rfl rfl ?_
      refine V_iald rfl (by first | assumption | exact blkW_i rfl rfl | exact blkW_z rfl rfl | exact bAt_i (by assumption) rfl rfl | exact bAt_z (by assumption) rfl rfl | rfl) (by first | with_reducible rfl | exact nI_add 2 _ | exact nI_add 26 _ | exact ix45 _ _ | exact ixm45 _ | exact ix25 _ | exact fa_lit _ | assumption) (by first | omega | assumption | decide) (by first | decide | omega | assumption) (by first | exact mp_isC (by first | assumption | exact MP_rcS (by assumption) | exact MP_ar rfl (by assumption) | exact MP_sc rfl (by assumption)) (by first | omega | assumption) | exact mp_par (by first | assumption | exact MP_rcS (by assumption) | exact MP_ar rfl (by assumption) | exact MP_sc rfl (by assumption)) (by first | omega | assumption) | exact mp_abv (by first | assumption | exact MP_rcS (by assumption) | exact MP_ar rfl (by assumption) | exact MP_sc rfl (by assumption)) (by first | omega | assumption) | exact mp_dep (by first | assumption | exact MP_rcS (by assumption) | exact MP_ar rfl (by assumption) | exact MP_sc rfl (by assumption)) (by first | omega | assumption) | exact mp_bT (by first | assumption | exact MP_rcS (by assumption) | exact MP_ar rfl (by assumption) | exact MP_sc rfl (by assumption)) (by first | omega | assumption) | exact mp_bM (by first | assumption | exact MP_rcS (by assumption) | exact MP_ar rfl (by assumption) | exact MP_sc rfl (by assumption)) (by first | omega | assumption) | exact mp_sK (by first | assumption | exact MP_rcS (by assumption) | exact MP_ar rfl (by assumption) | exact MP_sc rfl (by assumption)) (by first | omega | assumption) | exact mp_sB (by first | assumption | exact MP_rcS (by assumption) | exact MP_ar rfl (by assumption) | exact MP_sc rfl (by assumption)) (by first | omega | assumption) | exact mp_sT (by first | assumption | exact MP_rcS (by assumption) | exact MP_ar rfl (by assumption) | exact MP_sc rfl (by assumption)) (by first | omega | assumption) | exact mp_sM (by first | assumption | exact MP_rcS (by assumption) | exact MP_ar rfl (by assumption) | exact MP_sc rfl (by assumption)) (by first | omega | assumption) | exact mp_cS (by first | assumption | exact MP_rcS (by assumption) | exact MP_ar rfl (by assumption) | exact MP_sc rfl (by assumption)) (by first | omega | assumption) | exact va_g | exact va_n (by decide) | rfl) ?_
      first | refine V_bast rfl rfl rfl (by first | with_reducible rfl | exact nI_add 2 _ | exact nI_add 26 _ | exact ix45 _ _ | exact ixm45 _ | exact ix25 _ | exact fa_lit _ | assumption) (by first | omega | assumption | decide) (by first | decide | omega | assumption) ?_ | refine V_iastore rfl (by first | assumption | exact blkW_i rfl rfl | exact blkW_z rfl rfl | exact bAt_i (by assumption) rfl rfl | exact bAt_z (by assumption) rfl rfl | rfl) (by first | with_reducible rfl | exact nI_add 2 _ | exact nI_add 26 _ | exact ix45 _ _ | exact ixm45 _ | exact ix25 _ | exact fa_lit _ | assumption) (by first | omega | assumption | decide) (by first | decide | omega | assumption) ?_
      refine V_inc2 rfl (by first | exact mInc _ | rfl) (by first | rfl | assumption) ?_
      refine V_goto rfl ?_
      refine V_wkh ih (by simp [mWk]) ?_
      rw [va_st, ← fb_put_succ]
    · refine V_iload_n rfl rfl ?_
      refine V_bipush (v := 45) rfl (by decide) ?_
      refine V_icmp_geT rfl (nI_le (Nat.le_refl 45) (by decide)) ?_
      refine V_aload_n rfl rfl ?_
      refine V_getfield rfl rfl (by first | assumption | exact blkW_0 | exact bAt_0 (by assumption) | rfl) (by rfl) ?_
      refine V_iload_n rfl rfl ?_
      refine V_iconst (v := 1) rfl (by decide) ?_
      first | refine V_bastZ rfl rfl rfl (by first | with_reducible rfl | exact nI_add 2 _ | exact nI_add 26 _ | exact ix45 _ _ | exact ixm45 _ | exact ix25 _ | exact fa_lit _ | assumption) (by first | omega | assumption | decide) (by first | decide | omega | assumption) (by decide) ?_ | refine V_bastore rfl (by first | assumption | exact blkW_i rfl rfl | exact blkW_z rfl rfl | exact bAt_i (by assumption) rfl rfl | exact bAt_z (by assumption) rfl rfl | rfl) (by first | with_reducible rfl | exact nI_add 2 _ | exact nI_add 26 _ | exact ix45 _ _ | exact ixm45 _ | exact ix25 _ | exact fa_lit _ | assumption) (by first | omega | assumption | decide) (by first | decide | omega | assumption) (by first | rfl | assumption) ?_
      refine V_aload_n rfl rfl ?_
      refine V_iconst (v := 0) rfl (by decide) ?_
      first | refine V_bput rfl rfl rfl rfl rfl rfl ?_ | refine V_bputZ rfl rfl rfl rfl rfl rfl (by decide) ?_ | refine V_put rfl rfl (by first | assumption | rfl) (by decide) (fun _ hty => by cases hty; exact ⟨rfl, rfl⟩) (by first | exact Or.inl rfl | exact Or.inr ⟨rfl, rfl⟩) rfl ?_
      refine V_iconst (v := 1) rfl (by decide) ?_
      refine V_ireturn rfl rfl (by first | rfl | exact b2_nar _ | assumption | decide) ?_
      exact P_ret rfl rfl
set_option maxRecDepth 20000 in
set_option maxHeartbeats 1000000 in
theorem w_goBack (i : Int32) (hk : ∀ j, j < 2 → ar 40 j = 0 ∨ ar 40 j = 1) : Mt g 1 m_MD_goBack [.ref md, .int i] (blkW 7 h md sc ar) sz u (fun r h' => if inN i 2 then (if ar 40 i.toNatClampNeg = 0 then Pi NOTv (blkW 7 h md sc ar) r h' else Pi 1 (blkW 7 h md (upd sc 36 0) (va_up ar 15 (fa_fill (fun k => ar 39 (45 * i.toNatClampNeg + k)) (ar 15) 45))) r h') else Pi UNK (blkW 7 h md sc ar) r h') sz u := by
  refine Mt.of m_MD_goBack_w m_MD_goBack_x m_MD_goBack_c rfl rfl (ls := [.ref md, .int i, .retAddr 0]) rfl ?_
  refine V_iload_n rfl rfl ?_
  refine V_i2l rfl ?_
  refine V_lconst rfl rfl ?_
  refine V_lconst rfl rfl ?_
  refine V_callSi rfl rfl (Or.inl rfl) m_MD_in_w m_MD_in_x rfl rfl (s_in _ _ _) (by decide) rfl (Nat.le_of_ble_eq_true rfl) ?_
  rw [show b2 (decide (Int64.ofNat ((0 : Fin 2) : Nat) ≤ i.toInt64 ∧ i.toInt64 ≤ Int64.ofNat ((1 : Fin 2) : Nat))) = b2 (inN i 2) by rw [← wide_lit i 2 (by decide) 1 (by decide)]; rfl]
  cases h1 : inN i 2
  · refine V_if_neF rfl (rfl) ?_
    refine V_ldc rfl rfl ?_
    refine V_ireturn rfl rfl (by first | rfl | exact b2_nar _ | assumption | decide) ?_
    exact P_ret rfl rfl
  · refine V_if_neT rfl (by decide) ?_
    obtain ⟨j, hj, rfl⟩ := inN_t (by decide) h1
    rw [nI_clamp (n := j) (by omega)]
    refine V_aload_n rfl rfl ?_
    refine V_getfield rfl rfl (by first | assumption | exact blkW_0 | exact bAt_0 (by assumption) | rfl) (by rfl) ?_
    refine V_iload_n rfl rfl ?_
    refine V_bald rfl (by first | assumption | exact blkW_i rfl rfl | exact blkW_z rfl rfl | exact bAt_i (by assumption) rfl rfl | exact bAt_z (by assumption) rfl rfl | rfl) (by first | with_reducible rfl | exact nI_add 2 _ | exact nI_add 26 _ | exact ix45 _ _ | exact ixm45 _ | exact ix25 _ | exact fa_lit _ | assumption) (by first | omega | assumption | decide) (by first | decide | omega | assumption) (by first | exact mp_isC (by first | assumption | exact MP_rcS (by assumption) | exact MP_ar rfl (by assumption) | exact MP_sc rfl (by assumption)) (by first | omega | assumption) | exact mp_par (by first | assumption | exact MP_rcS (by assumption) | exact MP_ar rfl (by assumption) | exact MP_sc rfl (by assumption)) (by first | omega | assumption) | exact mp_abv (by first | assumption | exact MP_rcS (by assumption) | exact MP_ar rfl (by assumption) | exact MP_sc rfl (by assumption)) (by first | omega | assumption) | exact mp_dep (by first | assumption | exact MP_rcS (by assumption) | exact MP_ar rfl (by assumption) | exact MP_sc rfl (by assumption)) (by first | omega | assumption) | exact mp_bT (by first | assumption | exact MP_rcS (by assumption) | exact MP_ar rfl (by assumption) | exact MP_sc rfl (by assumption)) (by first | omega | assumption) | exact mp_bM (by first | assumption | exact MP_rcS (by assumption) | exact MP_ar rfl (by assumption) | exact MP_sc rfl (by assumption)) (by first | omega | assumption) | exact mp_sK (by first | assumption | exact MP_rcS (by assumption) | exact MP_ar rfl (by assumption) | exact MP_sc rfl (by assumption)) (by first | omega | assumption) | exact mp_sB (by first | assumption | exact MP_rcS (by assumption) | exact MP_ar rfl (by assumption) | exact MP_sc rfl (by assumption)) (by first | omega | assumption) | exact mp_sT (by first | assumption | exact MP_rcS (by assumption) | exact MP_ar rfl (by assumption) | exact MP_sc rfl (by assumption)) (by first | omega | assumption) | exact mp_sM (by first | assumption | exact MP_rcS (by assumption) | exact MP_ar rfl (by assumption) | exact MP_sc rfl (by assumption)) (by first | omega | assumption) | exact mp_cS (by first | assumption | exact MP_rcS (by assumption) | exact MP_ar rfl (by assumption) | exact MP_sc rfl (by assumption)) (by first | omega | assumption) | exact va_g | exact va_n (by decide) | rfl) ?_
    by_cases h2 : ar 40 j = 0
    · simp only [if_pos h2]
      refine V_if_neF rfl (h2) ?_
      refine V_ldcw rfl rfl ?_
      refine V_ireturn rfl rfl (by first | rfl | exact b2_nar _ | assumption | decide) ?_
      exact P_ret rfl rfl
    · simp only [if_neg h2]
      refine V_if_neT rfl (h2) ?_
      refine V_iconst (v := 0) rfl (by decide) ?_
      refine V_is2 rfl (by first | rfl | assumption) ?_
      refine V_for2 45 (fun i => [.ref md, .int (nI j), .int (nI i)]) (fun i => blkW 7 h md sc (va_up ar 15 (fa_fill (fun k => ar 39 (45 * j + k)) (ar 15) i))) rfl (by rw [fa_fill_0, va_self]) (fun i hi ih => ?_) ?_
      · refine V_iload_n rfl rfl ?_
        refine V_bipush (v := 45) rfl (by decide) ?_
        refine V_icmp_geF rfl (nI_ge (b := 45) hi (by decide)) ?_
        refine V_aload_n rfl rfl ?_
        refine V_getfield rfl rfl (by first | assumption | exact blkW_0 | exact bAt_0 (by assumption) | rfl) (by rfl) ?_
        refine V_iload_n rfl rfl ?_
        refine V_aload_n rfl rfl ?_
        refine V_getfield rfl rfl (by first | assumption | exact blkW_0 | exact bAt_0 (by assumption) | rfl) (by rfl) ?_
        refine V_bipush (v := 45) rfl (by decide) ?_
        refine V_iload_n rfl rfl ?_
        refine V_imul rfl ?_
        refine V_iload_n rfl rfl ?_
        refine V_iadd rfl ?_
        refine V_iald rfl (by first | assumption | exact blkW_i rfl rfl | exact blkW_z rfl rfl | exact bAt_i (by assumption) rfl rfl | exact bAt_z (by assumption) rfl rfl | rfl) (by first | with_reducible rfl | exact nI_add 2 _ | exact nI_add 26 _ | exact ix45 _ _ | exact ixm45 _ | exact ix25 _ | exact fa_lit _ | assumption) (by first | omega | assumption | decide) (by first | decide | omega | assumption) (by first | exact mp_isC (by first | assumption | exact MP_rcS (by assumption) | exact MP_ar rfl (by assumption) | exact MP_sc rfl (by assumption)) (by first | omega | assumption) | exact mp_par (by first | assumption | exact MP_rcS (by assumption) | exact MP_ar rfl (by assumption) | exact MP_sc rfl (by assumption)) (by first | omega | assumption) | exact mp_abv (by first | assumption | exact MP_rcS (by assumption) | exact MP_ar rfl (by assumption) | exact MP_sc rfl (by assumption)) (by first | omega | assumption) | exact mp_dep (by first | assumption | exact MP_rcS (by assumption) | exact MP_ar rfl (by assumption) | exact MP_sc rfl (by assumption)) (by first | omega | assumption) | exact mp_bT (by first | assumption | exact MP_rcS (by assumption) | exact MP_ar rfl (by assumption) | exact MP_sc rfl (by assumption)) (by first | omega | assumption) | exact mp_bM (by first | assumption | exact MP_rcS (by assumption) | exact MP_ar rfl (by assumption) | exact MP_sc rfl (by assumption)) (by first | omega | assumption) | exact mp_sK (by first | assumption | exact MP_rcS (by assumption) | exact MP_ar rfl (by assumption) | exact MP_sc rfl (by assumption)) (by first | omega | assumption) | exact mp_sB (by first | assumption | exact MP_rcS (by assumption) | exact MP_ar rfl (by assumption) | exact MP_sc rfl (by assumption)) (by first | omega | assumption) | exact mp_sT (by first | assumption | exact MP_rcS (by assumption) | exact MP_ar rfl (by assumption) | exact MP_sc rfl (by assumption)) (by first | omega | assumption) | exact mp_sM (by first | assumption | exact MP_rcS (by assumption) | exact MP_ar rfl (by assumption) | exact MP_sc rfl (by assumption)) (by first | omega | assumption) | exact mp_cS (by first | assumption | exact MP_rcS (by assumption) | exact MP_ar rfl (by assumption) | exact MP_sc rfl (by assumption)) (by first | omega | assumption) | exact va_g | exact va_n (by decide) | rfl) ?_
        first | refine V_bast rfl rfl rfl (by first | with_reducible rfl | exact nI_add 2 _ | exact nI_add 26 _ | exact ix45 _ _ | exact ixm45 _ | exact ix25 _ | exact fa_lit _ | assumption) (by first | omega | assumption | decide) (by first | decide | omega | assumption) ?_ | refine V_iastore rfl (by first | assumption | exact blkW_i rfl rfl | exact blkW_z rfl rfl | exact bAt_i (by assumption) rfl rfl | exact bAt_z (by assumption) rfl rfl | rfl) (by first | with_reducible rfl | exact nI_add 2 _ | exact nI_add 26 _ | exact ix45 _ _ | exact ixm45 _ | exact ix25 _ | exact fa_lit _ | assumption) (by first | omega | assumption | decide) (by first | decide | omega | assumption) ?_
        refine V_inc2 rfl (by first | exact mInc _ | rfl) (by first | rfl | assumption) ?_
        refine V_goto rfl ?_
        refine V_wkh ih (by simp [mWk]) ?_
        rw [va_st, ← fa_fill_succ]
      · refine V_iload_n rfl rfl ?_
        refine V_bipush (v := 45) rfl (by decide) ?_
        refine V_icmp_geT rfl (nI_le (Nat.le_refl 45) (by decide)) ?_
        refine V_aload_n rfl rfl ?_
        refine V_iconst (v := 0) rfl (by decide) ?_
        first | refine V_bput rfl rfl rfl rfl rfl rfl ?_ | refine V_bputZ rfl rfl rfl rfl rfl rfl (by decide) ?_ | refine V_put rfl rfl (by first | assumption | rfl) (by decide) (fun _ hty => by cases hty; exact ⟨rfl, rfl⟩) (by first | exact Or.inl rfl | exact Or.inr ⟨rfl, rfl⟩) rfl ?_
        refine V_iconst (v := 1) rfl (by decide) ?_
        refine V_ireturn rfl rfl (by first | rfl | exact b2_nar _ | assumption | decide) ?_
        exact P_ret rfl rfl
end mdeeds
