theorem V_remN {g : mG} {d : Nat} {M : mM} {P : Option Value → mH → Prop} {sz' u' pc n t : Nat} {ls st : List Value} {h : mH} {sz u a b : Nat} (hf : mF M pc = some (.irem, 1, n, t)) (ha : a < 2 ^ 31) (h0 : 0 < b) (hb : b < 2 ^ 31) (kk : V g d M P sz' u' n ls (.int (nI (a % b)) :: st) h sz u) : V g d M P sz' u' pc ls (.int (nI b) :: .int (nI a) :: st) h sz u :=
  V_irem hf (nI_ne0 h0 hb) (by rw [pk_rem ha h0 hb]; exact kk)
theorem lt1 (a : Nat) : lN a * 16807 = lN (a * 16807) := lN_mul a 16807
theorem lt2 {a : Nat} (h : a < 2 ^ 60) : lN a - lN a / 2147483647 * 2147483647 = lN (a % 2147483647) := pk_lRem (b := 2147483647) (by omega) (by decide) (by decide)
theorem lt3 {a : Nat} (h : a < 2 ^ 60) : lN a - lN a / 4 * 4 = lN (a % 4) := pk_lRem (b := 4) (by omega) (by decide) (by decide)
theorem lt4 {a : Nat} (h : a < 2 ^ 60) : lN a / 4 = lN (a / 4) := pk_lDiv (b := 4) (by omega) (by decide) (by decide)
def drOk (n seed : Int32) : Bool := decide (1 ≤ n ∧ n ≤ 40) && decide (1 ≤ seed ∧ seed ≤ 999999)
theorem lotN_lt (seed : Nat) (h : seed < 2147483647) : ∀ k, lotN seed k < 2147483647
  | 0 => h
  | k + 1 => Nat.mod_lt _ (by decide)
theorem wide_1 (x h : Int32) : decide ((1 : Int64) ≤ x.toInt64 ∧ x.toInt64 ≤ h.toInt64) = decide (1 ≤ x ∧ x ≤ h) := by
  apply decide_eq_decide.mpr
  rw [show (1 : Int64) = (1 : Int32).toInt64 by rfl, fa_wide_le, fa_wide_le]
theorem nI_of1 {x : Int32} {n : Nat} (hn : n < 2 ^ 31) (h1 : 1 ≤ x) (h2 : x ≤ nI n) : ∃ j, 1 ≤ j ∧ j ≤ n ∧ x = nI j := by
  rw [fa_le] at h1 h2
  rw [nI_toInt hn] at h2
  have h0 : (1 : Int32).toInt = 1 := rfl
  rcases pk_ix x (show n + 1 < 2 ^ 31 + 1 by omega |> fun _ => hn) with q | q | ⟨j, q1, q2⟩
  · rw [fa_lt] at q
    have : (0 : Int32).toInt = 0 := rfl
    omega
  · rw [fa_le, nI_toInt hn] at q
    exact ⟨n, by omega, Nat.le_refl _, Int32.toInt_inj.mp (by rw [nI_toInt hn]; omega)⟩
  · subst q2
    rw [nI_toInt (by omega)] at h1
    exact ⟨j, by omega, by omega, rfl⟩
section mdrift
variable {g : mG} {h : mH} {sz u md : Nat} {p : Pg} {sc : Nat → Int32} {ar : Nat → Nat → Int32}
set_option maxRecDepth 20000 in
set_option maxHeartbeats 1000000 in
theorem w_stepBy (hm : MP p sc ar) (hn0 : 0 < nT p) (how v : Nat) (hh : how < 4) (hv : v < 2 ^ 31) : Mt g 8 m_MD_stepBy [.ref md, .int (nI how), .int (nI v)] (blkW 7 h md sc ar) sz u (Pn (blkW 7 h md sc (va_up ar 15 (stB p (ar 15) how v)))) sz u := by
  obtain ⟨hT, hB, hS, hC⟩ := hm.1.1
  have m1 : v % nT p < nT p := Nat.mod_lt _ hn0
  refine Mt.of m_MD_stepBy_w m_MD_stepBy_x m_MD_stepBy_c rfl rfl (ls := [.ref md, .int (nI how), .int (nI v), .retAddr 0]) rfl ?_
  rcases (show how = 0 ∨ how = 1 ∨ how = 2 ∨ how = 3 by omega) with rfl | rfl | rfl | rfl
  · have hd : stB p (ar 15) 0 v = if bt (ar 15 0) (v % nT p) then ar 15 else ldF p (ar 15) (v % nT p) (nC p) := rfl
    refine V_iload_n rfl rfl ?_
    refine V_if_neF rfl (rfl) ?_
    refine V_aload_n rfl rfl ?_
    refine V_getfield rfl rfl (by first | assumption | exact blkW_0 | exact bAt_0 (by assumption) | rfl) (by rfl) ?_
    refine V_iconst (v := 0) rfl (by decide) ?_
    refine V_iald rfl (by first | assumption | exact blkW_i rfl rfl | exact blkW_z rfl rfl | exact bAt_i (by assumption) rfl rfl | exact bAt_z (by assumption) rfl rfl | rfl) (by first | with_reducible rfl | exact nI_add 2 _ | exact nI_add 26 _ | exact ix45 _ _ | exact ixm45 _ | exact ix25 _ | exact fa_lit _ | assumption) (by first | omega | assumption | decide) (by first | decide | omega | assumption) (by first | exact mp_isC (by first | assumption | exact MP_rcS (by assumption) | exact MP_ar rfl (by assumption) | exact MP_sc rfl (by assumption)) (by first | omega | assumption) | exact mp_par (by first | assumption | exact MP_rcS (by assumption) | exact MP_ar rfl (by assumption) | exact MP_sc rfl (by assumption)) (by first | omega | assumption) | exact mp_abv (by first | assumption | exact MP_rcS (by assumption) | exact MP_ar rfl (by assumption) | exact MP_sc rfl (by assumption)) (by first | omega | assumption) | exact mp_dep (by first | assumption | exact MP_rcS (by assumption) | exact MP_ar rfl (by assumption) | exact MP_sc rfl (by assumption)) (by first | omega | assumption) | exact mp_bT (by first | assumption | exact MP_rcS (by assumption) | exact MP_ar rfl (by assumption) | exact MP_sc rfl (by assumption)) (by first | omega | assumption) | exact mp_bM (by first | assumption | exact MP_rcS (by assumption) | exact MP_ar rfl (by assumption) | exact MP_sc rfl (by assumption)) (by first | omega | assumption) | exact mp_sK (by first | assumption | exact MP_rcS (by assumption) | exact MP_ar rfl (by assumption) | exact MP_sc rfl (by assumption)) (by first | omega | assumption) | exact mp_sB (by first | assumption | exact MP_rcS (by assumption) | exact MP_ar rfl (by assumption) | exact MP_sc rfl (by assumption)) (by first | omega | assumption) | exact mp_sT (by first | assumption | exact MP_rcS (by assumption) | exact MP_ar rfl (by assumption) | exact MP_sc rfl (by assumption)) (by first | omega | assumption) | exact mp_sM (by first | assumption | exact MP_rcS (by assumption) | exact MP_ar rfl (by assumption) | exact MP_sc rfl (by assumption)) (by first | omega | assumption) | exact mp_cS (by first | assumption | exact MP_rcS (by assumption) | exact MP_ar rfl (by assumption) | exact MP_sc rfl (by assumption)) (by first | omega | assumption) | exact va_g | exact va_n (by decide) | rfl) ?_
    refine V_iload_n rfl rfl ?_
    refine V_aload_n rfl rfl ?_
    refine V_getI rfl rfl (by first | assumption | exact blkW_0 | exact bAt_0 (by assumption) | rfl) (by rfl) (by first | exact mp_nT (by first | assumption | exact MP_rcS (by assumption) | exact MP_ar rfl (by assumption) | exact MP_sc rfl (by assumption)) | rfl) ?_
    first | refine V_remN rfl (by omega) (by omega) (by omega) ?_ | refine V_irem rfl (by first | decide | exact nI_ne0 (by omega) (by omega)) ?_
    refine V_callSi rfl rfl (Or.inl rfl) m_MD_has_w m_MD_has_x rfl rfl (s_mhas _ (by first | omega | assumption)) (by decide) rfl (Nat.le_of_ble_eq_true rfl) ?_
    cases hb : bt (ar 15 0) (v % nT p)
    · rw [hb] at hd
      refine V_if_neF rfl (rfl) ?_
      refine V_aload_n rfl rfl ?_
      refine V_iload_n rfl rfl ?_
      refine V_aload_n rfl rfl ?_
      refine V_getI rfl rfl (by first | assumption | exact blkW_0 | exact bAt_0 (by assumption) | rfl) (by rfl) (by first | exact mp_nT (by first | assumption | exact MP_rcS (by assumption) | exact MP_ar rfl (by assumption) | exact MP_sc rfl (by assumption)) | rfl) ?_
      first | refine V_remN rfl (by omega) (by omega) (by omega) ?_ | refine V_irem rfl (by first | decide | exact nI_ne0 (by omega) (by omega)) ?_
      refine V_callVi rfl rfl m_MD_loadNow_w m_MD_loadNow_x rfl (by decide) rfl (w_loadNow (by first | assumption | exact MP_rcS (by assumption) | exact MP_ar rfl (by assumption) | exact MP_sc rfl (by assumption) | exact MP_sc rfl (MP_ar rfl (by assumption))) _ (by first | omega | assumption)) (by decide) rfl (by first | assumption | exact blkW_0 | exact bAt_0 (by assumption) | rfl) (Nat.le_of_ble_eq_true rfl) ?_
      refine V_is3 rfl (by first | rfl | assumption) ?_
      refine V_goto rfl ?_
      refine V_return rfl rfl ?_
      exact ⟨rfl, by rw [hd]; rfl⟩
    · rw [hb] at hd
      refine V_if_neT rfl (by decide) ?_
      refine V_iload_n rfl rfl ?_
      refine V_iconst (v := 1) rfl (by decide) ?_
      refine V_icmp_neT rfl (by decide) ?_
      refine V_iload_n rfl rfl ?_
      refine V_iconst (v := 2) rfl (by decide) ?_
      refine V_icmp_neT rfl (by decide) ?_
      refine V_iload_n rfl rfl ?_
      refine V_iconst (v := 3) rfl (by decide) ?_
      refine V_icmp_neT rfl (by decide) ?_
      refine V_return rfl rfl ?_
      refine ⟨rfl, ?_⟩
      rw [hd]
      show _ = blkW 7 h md sc (va_up ar 15 (ar 15))
      rw [va_self]
  · have hd : stB p (ar 15) 1 v = if 0 < nB p then upd (ar 15) 1 (ar 15 1 ^^^ bI (v % nB p)) else ar 15 := rfl
    refine V_iload_n rfl rfl ?_
    refine V_if_neT rfl (by decide) ?_
    refine V_iload_n rfl rfl ?_
    refine V_iconst (v := 1) rfl (by decide) ?_
    refine V_icmp_neF rfl (rfl) ?_
    refine V_aload_n rfl rfl ?_
    refine V_getI rfl rfl (by first | assumption | exact blkW_0 | exact bAt_0 (by assumption) | rfl) (by rfl) (by first | exact mp_nB (by first | assumption | exact MP_rcS (by assumption) | exact MP_ar rfl (by assumption) | exact MP_sc rfl (by assumption)) | rfl) ?_
    by_cases hb : 0 < nB p
    · rw [if_pos hb] at hd
      refine V_if_leF rfl (nI_nle hb (by omega)) ?_
      refine V_aload_n rfl rfl ?_
      refine V_getfield rfl rfl (by first | assumption | exact blkW_0 | exact bAt_0 (by assumption) | rfl) (by rfl) ?_
      refine V_iconst (v := 1) rfl (by decide) ?_
      refine V_dup2 rfl rfl rfl ?_
      refine V_iald rfl (by first | assumption | exact blkW_i rfl rfl | exact blkW_z rfl rfl | exact bAt_i (by assumption) rfl rfl | exact bAt_z (by assumption) rfl rfl | rfl) (by first | with_reducible rfl | exact nI_add 2 _ | exact nI_add 26 _ | exact ix45 _ _ | exact ixm45 _ | exact ix25 _ | exact fa_lit _ | assumption) (by first | omega | assumption | decide) (by first | decide | omega | assumption) (by first | exact mp_isC (by first | assumption | exact MP_rcS (by assumption) | exact MP_ar rfl (by assumption) | exact MP_sc rfl (by assumption)) (by first | omega | assumption) | exact mp_par (by first | assumption | exact MP_rcS (by assumption) | exact MP_ar rfl (by assumption) | exact MP_sc rfl (by assumption)) (by first | omega | assumption) | exact mp_abv (by first | assumption | exact MP_rcS (by assumption) | exact MP_ar rfl (by assumption) | exact MP_sc rfl (by assumption)) (by first | omega | assumption) | exact mp_dep (by first | assumption | exact MP_rcS (by assumption) | exact MP_ar rfl (by assumption) | exact MP_sc rfl (by assumption)) (by first | omega | assumption) | exact mp_bT (by first | assumption | exact MP_rcS (by assumption) | exact MP_ar rfl (by assumption) | exact MP_sc rfl (by assumption)) (by first | omega | assumption) | exact mp_bM (by first | assumption | exact MP_rcS (by assumption) | exact MP_ar rfl (by assumption) | exact MP_sc rfl (by assumption)) (by first | omega | assumption) | exact mp_sK (by first | assumption | exact MP_rcS (by assumption) | exact MP_ar rfl (by assumption) | exact MP_sc rfl (by assumption)) (by first | omega | assumption) | exact mp_sB (by first | assumption | exact MP_rcS (by assumption) | exact MP_ar rfl (by assumption) | exact MP_sc rfl (by assumption)) (by first | omega | assumption) | exact mp_sT (by first | assumption | exact MP_rcS (by assumption) | exact MP_ar rfl (by assumption) | exact MP_sc rfl (by assumption)) (by first | omega | assumption) | exact mp_sM (by first | assumption | exact MP_rcS (by assumption) | exact MP_ar rfl (by assumption) | exact MP_sc rfl (by assumption)) (by first | omega | assumption) | exact mp_cS (by first | assumption | exact MP_rcS (by assumption) | exact MP_ar rfl (by assumption) | exact MP_sc rfl (by assumption)) (by first | omega | assumption) | exact va_g | exact va_n (by decide) | rfl) ?_
      refine V_iconst (v := 1) rfl (by decide) ?_
      refine V_iload_n rfl rfl ?_
      refine V_aload_n rfl rfl ?_
      refine V_getI rfl rfl (by first | assumption | exact blkW_0 | exact bAt_0 (by assumption) | rfl) (by rfl) (by first | exact mp_nB (by first | assumption | exact MP_rcS (by assumption) | exact MP_ar rfl (by assumption) | exact MP_sc rfl (by assumption)) | rfl) ?_
      first | refine V_remN rfl (by omega) (by omega) (by omega) ?_ | refine V_irem rfl (by first | decide | exact nI_ne0 (by omega) (by omega)) ?_
      refine V_ishl rfl ?_
      refine V_ixor rfl ?_
      first | refine V_bast rfl rfl rfl (by first | with_reducible rfl | exact nI_add 2 _ | exact nI_add 26 _ | exact ix45 _ _ | exact ixm45 _ | exact ix25 _ | exact fa_lit _ | assumption) (by first | omega | assumption | decide) (by first | decide | omega | assumption) ?_ | refine V_iastore rfl (by first | assumption | exact blkW_i rfl rfl | exact blkW_z rfl rfl | exact bAt_i (by assumption) rfl rfl | exact bAt_z (by assumption) rfl rfl | rfl) (by first | with_reducible rfl | exact nI_add 2 _ | exact nI_add 26 _ | exact ix45 _ _ | exact ixm45 _ | exact ix25 _ | exact fa_lit _ | assumption) (by first | omega | assumption | decide) (by first | decide | omega | assumption) ?_
      refine V_goto rfl ?_
      refine V_return rfl rfl ?_
      exact ⟨rfl, by rw [hd]; rfl⟩
    · rw [if_neg hb] at hd
      refine V_if_leT rfl (by rw [show nB p = 0 by omega]; decide) ?_
      refine V_iload_n rfl rfl ?_
      refine V_iconst (v := 2) rfl (by decide) ?_
      refine V_icmp_neT rfl (by decide) ?_
      refine V_iload_n rfl rfl ?_
      refine V_iconst (v := 3) rfl (by decide) ?_
      refine V_icmp_neT rfl (by decide) ?_
      refine V_return rfl rfl ?_
      exact ⟨rfl, by rw [hd, va_self]⟩
  · have hd : stB p (ar 15) 2 v = if 0 < nC p then (if canB p (ar 15) (v % nC p) then bndF p (ar 15) (v % nC p) else ar 15) else ar 15 := rfl
    refine V_iload_n rfl rfl ?_
    refine V_if_neT rfl (by decide) ?_
    refine V_iload_n rfl rfl ?_
    refine V_iconst (v := 1) rfl (by decide) ?_
    refine V_icmp_neT rfl (by decide) ?_
    refine V_iload_n rfl rfl ?_
    refine V_iconst (v := 2) rfl (by decide) ?_
    refine V_icmp_neF rfl (rfl) ?_
    refine V_aload_n rfl rfl ?_
    refine V_getI rfl rfl (by first | assumption | exact blkW_0 | exact bAt_0 (by assumption) | rfl) (by rfl) (by first | exact mp_nC (by first | assumption | exact MP_rcS (by assumption) | exact MP_ar rfl (by assumption) | exact MP_sc rfl (by assumption)) | rfl) ?_
    by_cases hb : 0 < nC p
    · have m2 : v % nC p < nC p := Nat.mod_lt _ hb
      rw [if_pos hb] at hd
      refine V_if_leF rfl (nI_nle hb (by omega)) ?_
      refine V_aload_n rfl rfl ?_
      refine V_iload_n rfl rfl ?_
      refine V_aload_n rfl rfl ?_
      refine V_getI rfl rfl (by first | assumption | exact blkW_0 | exact bAt_0 (by assumption) | rfl) (by rfl) (by first | exact mp_nC (by first | assumption | exact MP_rcS (by assumption) | exact MP_ar rfl (by assumption) | exact MP_sc rfl (by assumption)) | rfl) ?_
      first | refine V_remN rfl (by omega) (by omega) (by omega) ?_ | refine V_irem rfl (by first | decide | exact nI_ne0 (by omega) (by omega)) ?_
      refine V_callVi rfl rfl m_MD_canBind_w m_MD_canBind_x rfl (by decide) rfl (s_canB (by first | assumption | exact blkW_at) (by first | assumption | exact MP_rcS (by assumption) | exact MP_ar rfl (by assumption) | exact MP_sc rfl (by assumption)) _ (by first | omega | assumption)) (by decide) rfl (by first | assumption | exact blkW_0 | exact bAt_0 (by assumption) | rfl) (Nat.le_of_ble_eq_true rfl) ?_
      cases hc : canB p (ar 15) (v % nC p)
      · rw [hc] at hd
        refine V_if_eqT rfl (b2_f hc) ?_
        refine V_iload_n rfl rfl ?_
        refine V_iconst (v := 3) rfl (by decide) ?_
        refine V_icmp_neT rfl (by decide) ?_
        refine V_return rfl rfl ?_
        refine ⟨rfl, ?_⟩
        rw [hd]
        show _ = blkW 7 h md sc (va_up ar 15 (ar 15))
        rw [va_self]
      · rw [hc] at hd
        have ho : oneB (may p (v % nC p) (ar 15 0)) = true := by
          unfold canB at hc
          rw [Bool.and_eq_true] at hc
          exact hc.2
        refine V_if_eqF rfl (b2_ne0.mpr hc) ?_
        refine V_aload_n rfl rfl ?_
        refine V_iload_n rfl rfl ?_
        refine V_aload_n rfl rfl ?_
        refine V_getI rfl rfl (by first | assumption | exact blkW_0 | exact bAt_0 (by assumption) | rfl) (by rfl) (by first | exact mp_nC (by first | assumption | exact MP_rcS (by assumption) | exact MP_ar rfl (by assumption) | exact MP_sc rfl (by assumption)) | rfl) ?_
        first | refine V_remN rfl (by omega) (by omega) (by omega) ?_ | refine V_irem rfl (by first | decide | exact nI_ne0 (by omega) (by omega)) ?_
        refine V_callVi rfl rfl m_MD_bindNow_w m_MD_bindNow_x rfl (by decide) rfl (w_bindNow (by first | assumption | exact MP_rcS (by assumption) | exact MP_ar rfl (by assumption) | exact MP_sc rfl (by assumption) | exact MP_sc rfl (MP_ar rfl (by assumption))) _ (by first | omega | assumption) (by assumption)) (by decide) rfl (by first | assumption | exact blkW_0 | exact bAt_0 (by assumption) | rfl) (Nat.le_of_ble_eq_true rfl) ?_
        refine V_is3 rfl (by first | rfl | assumption) ?_
        refine V_goto rfl ?_
        refine V_return rfl rfl ?_
        exact ⟨rfl, by rw [hd]; rfl⟩
    · rw [if_neg hb] at hd
      refine V_if_leT rfl (by rw [show nC p = 0 by omega]; decide) ?_
      refine V_iload_n rfl rfl ?_
      refine V_iconst (v := 3) rfl (by decide) ?_
      refine V_icmp_neT rfl (by decide) ?_
      refine V_return rfl rfl ?_
      exact ⟨rfl, by rw [hd, va_self]⟩
  · have hd : stB p (ar 15) 3 v = if 0 < nC p then upd (ar 15) (2 + v % nC p) (-1) else ar 15 := rfl
    refine V_iload_n rfl rfl ?_
    refine V_if_neT rfl (by decide) ?_
    refine V_iload_n rfl rfl ?_
    refine V_iconst (v := 1) rfl (by decide) ?_
    refine V_icmp_neT rfl (by decide) ?_
    refine V_iload_n rfl rfl ?_
    refine V_iconst (v := 2) rfl (by decide) ?_
    refine V_icmp_neT rfl (by decide) ?_
    refine V_iload_n rfl rfl ?_
    refine V_iconst (v := 3) rfl (by decide) ?_
    refine V_icmp_neF rfl (rfl) ?_
    refine V_aload_n rfl rfl ?_
    refine V_getI rfl rfl (by first | assumption | exact blkW_0 | exact bAt_0 (by assumption) | rfl) (by rfl) (by first | exact mp_nC (by first | assumption | exact MP_rcS (by assumption) | exact MP_ar rfl (by assumption) | exact MP_sc rfl (by assumption)) | rfl) ?_
    by_cases hb : 0 < nC p
    · have m2 : v % nC p < nC p := Nat.mod_lt _ hb
      rw [if_pos hb] at hd
      refine V_if_leF rfl (nI_nle hb (by omega)) ?_
      refine V_aload_n rfl rfl ?_
      refine V_getfield rfl rfl (by first | assumption | exact blkW_0 | exact bAt_0 (by assumption) | rfl) (by rfl) ?_
      refine V_iconst (v := 2) rfl (by decide) ?_
      refine V_iload_n rfl rfl ?_
      refine V_aload_n rfl rfl ?_
      refine V_getI rfl rfl (by first | assumption | exact blkW_0 | exact bAt_0 (by assumption) | rfl) (by rfl) (by first | exact mp_nC (by first | assumption | exact MP_rcS (by assumption) | exact MP_ar rfl (by assumption) | exact MP_sc rfl (by assumption)) | rfl) ?_
      first | refine V_remN rfl (by omega) (by omega) (by omega) ?_ | refine V_irem rfl (by first | decide | exact nI_ne0 (by omega) (by omega)) ?_
      refine V_iadd rfl ?_
      refine V_iconst (v := (-1)) rfl (by decide) ?_
      first | refine V_bast rfl rfl rfl (by first | with_reducible rfl | exact nI_add 2 _ | exact nI_add 26 _ | exact ix45 _ _ | exact ixm45 _ | exact ix25 _ | exact fa_lit _ | assumption) (by first | omega | assumption | decide) (by first | decide | omega | assumption) ?_ | refine V_iastore rfl (by first | assumption | exact blkW_i rfl rfl | exact blkW_z rfl rfl | exact bAt_i (by assumption) rfl rfl | exact bAt_z (by assumption) rfl rfl | rfl) (by first | with_reducible rfl | exact nI_add 2 _ | exact nI_add 26 _ | exact ix45 _ _ | exact ixm45 _ | exact ix25 _ | exact fa_lit _ | assumption) (by first | omega | assumption | decide) (by first | decide | omega | assumption) ?_
      refine V_return rfl rfl ?_
      exact ⟨rfl, by rw [hd]⟩
    · rw [if_neg hb] at hd
      refine V_if_leT rfl (by rw [show nC p = 0 by omega]; decide) ?_
      refine V_return rfl rfl ?_
      exact ⟨rfl, by rw [hd, va_self]⟩
set_option maxRecDepth 20000 in
set_option maxHeartbeats 1000000 in
theorem w_drift (hm : MP p sc ar) {un : Nat} (hu : sc 36 = nI un) (hun : un ≤ 8) (n seed : Int32) : Mt g 9 m_MD_drift [.ref md, .int n, .int seed] (blkW 7 h md sc ar) sz u (fun r h' => if drOk n seed && decide (0 < nT p) then Pi (drF p (ar 15) seed.toNatClampNeg n.toNatClampNeg 0) (dW h md sc ar un (drF p (ar 15) seed.toNatClampNeg n.toNatClampNeg)) r h' else Pi (if drOk n seed then NOTv else OUT) (blkW 7 h md sc ar) r h') sz u := by
  obtain ⟨hT, hB, hS, hC⟩ := hm.1.1
  unfold drOk
  refine Mt.of m_MD_drift_w m_MD_drift_x m_MD_drift_c rfl rfl (ls := [.ref md, .int n, .int seed, .retAddr 0, .retAddr 0, .retAddr 0]) rfl ?_
  refine V_iload_n rfl rfl ?_
  refine V_i2l rfl ?_
  refine V_lconst rfl rfl ?_
  refine V_ldc2 rfl rfl ?_
  refine V_callSi rfl rfl (Or.inl rfl) m_MD_in_w m_MD_in_x rfl rfl (s_in _ _ _) (by decide) rfl (Nat.le_of_ble_eq_true rfl) ?_
  rw [show b2 (decide (Int64.ofNat ((1 : Fin 2) : Nat) ≤ n.toInt64 ∧ n.toInt64 ≤ 40)) = b2 (decide (1 ≤ n ∧ n ≤ 40)) by rw [← wide_1 n 40]; rfl]
  cases h1 : decide (1 ≤ n ∧ n ≤ 40)
  · refine V_if_eqT rfl (rfl) ?_
    refine V_ldc rfl rfl ?_
    refine V_ireturn rfl rfl (by first | rfl | exact b2_nar _ | assumption | decide) ?_
    exact P_ret rfl rfl
  · refine V_if_eqF rfl (by decide) ?_
    refine V_iload_n rfl rfl ?_
    refine V_i2l rfl ?_
    refine V_lconst rfl rfl ?_
    refine V_ldc2 rfl rfl ?_
    refine V_callSi rfl rfl (Or.inl rfl) m_MD_in_w m_MD_in_x rfl rfl (s_in _ _ _) (by decide) rfl (Nat.le_of_ble_eq_true rfl) ?_
    rw [show b2 (decide (Int64.ofNat ((1 : Fin 2) : Nat) ≤ seed.toInt64 ∧ seed.toInt64 ≤ 999999)) = b2 (decide (1 ≤ seed ∧ seed ≤ 999999)) by rw [← wide_1 seed 999999]; rfl]
    cases h2 : decide (1 ≤ seed ∧ seed ≤ 999999)
    · refine V_if_neF rfl (rfl) ?_
      refine V_ldc rfl rfl ?_
      refine V_ireturn rfl rfl (by first | rfl | exact b2_nar _ | assumption | decide) ?_
      exact P_ret rfl rfl
    · refine V_if_neT rfl (by decide) ?_
      have h1 := of_decide_eq_true h1
      have h2 := of_decide_eq_true h2
      obtain ⟨k, k1, k2, rfl⟩ := nI_of1 (n := 40) (by decide) h1.1 h1.2
      obtain ⟨s, s1, s2, rfl⟩ := nI_of1 (n := 999999) (by decide) h2.1 h2.2
      rw [nI_clamp (n := k) (by omega), nI_clamp (n := s) (by omega)]
      refine V_aload_n rfl rfl ?_
      refine V_getI rfl rfl (by first | assumption | exact blkW_0 | exact bAt_0 (by assumption) | rfl) (by rfl) (by first | exact mp_nT (by first | assumption | exact MP_rcS (by assumption) | exact MP_ar rfl (by assumption) | exact MP_sc rfl (by assumption)) | rfl) ?_
      by_cases h0 : 0 < nT p
      · rw [decide_eq_true h0]
        refine V_if_neT rfl (nI_ne0 h0 (by omega)) ?_
        refine V_aload_n rfl rfl ?_
        refine V_callVn rfl rfl m_MD_remember_w m_MD_remember_x rfl (by decide) rfl (w_remember (by assumption) (by first | omega | assumption)) (by decide) rfl (by first | assumption | exact blkW_0 | exact bAt_0 (by assumption) | rfl) (Nat.le_of_ble_eq_true rfl) ?_
        refine V_iload_n rfl rfl ?_
        refine V_i2l rfl ?_
        rw [show (nI s).toInt64 = lN s from nI_l (by omega)]
        refine V_lst3 rfl (by first | rfl | assumption) ?_
        refine V_iconst (v := 0) rfl (by decide) ?_
        refine V_is5 rfl (by first | rfl | assumption) ?_
        refine V_for2 k (fun i => [.ref md, .int (nI k), .int (nI s), .long (lN (lotN s i)), .retAddr 0, .int (nI i)]) (fun i => dW h md sc ar un (drF p (ar 15) s i)) rfl (by show blkW _ _ _ _ (va_up (va_up ar 37 _) 15 (ar 15)) = _; rw [va_3715]) (fun i hi ih => ?_) ?_
        · have hm2 : MP p (upd sc 36 (nI (rmU un + 1))) (va_up (va_up ar 37 (rmP (ar 15) (ar 37) un)) 15 (drF p (ar 15) s i)) := MP_sc rfl (MP_ar rfl (MP_ar rfl hm))
          have hg : va_up (va_up ar 37 (rmP (ar 15) (ar 37) un)) 15 (drF p (ar 15) s i) 15 = drF p (ar 15) s i := by simp [va_up]
          have hl := lotN_lt s (by omega) i
          have hl2 := lotN_lt s (by omega) (i + 1)
          have hs : lotN s (i + 1) = lotN s i * 16807 % 2147483647 := rfl
          have m4 : lotN s (i + 1) % 4 < 4 := Nat.mod_lt _ (by decide)
          refine V_iload rfl rfl ?_
          refine V_iload_n rfl rfl ?_
          refine V_icmp_geF rfl (nI_ge hi (by omega)) ?_
          refine V_lload_n rfl rfl ?_
          refine V_ldc2 rfl rfl ?_
          refine V_lmul rfl ?_
          rw [lt1]
          refine V_ldc2 rfl rfl ?_
          refine V_lrem rfl (by decide) ?_
          rw [lt2 (by omega), ← hs]
          refine V_lst3 rfl (by first | rfl | assumption) ?_
          refine V_aload_n rfl rfl ?_
          refine V_lload_n rfl rfl ?_
          refine V_ldc2 rfl rfl ?_
          refine V_lrem rfl (by decide) ?_
          rw [lt3 (by omega)]
          refine V_l2i rfl ?_
          rw [lN_i]
          refine V_lload_n rfl rfl ?_
          refine V_ldc2 rfl rfl ?_
          refine V_ldiv rfl (by decide) ?_
          rw [lt4 (by omega)]
          refine V_l2i rfl ?_
          rw [lN_i]
          refine V_callVn rfl rfl m_MD_stepBy_w m_MD_stepBy_x rfl (by decide) rfl (w_stepBy (by first | assumption | exact MP_rcS (by assumption) | exact MP_ar rfl (by assumption) | exact MP_sc rfl (by assumption) | exact MP_sc rfl (MP_ar rfl (by assumption))) (by assumption) _ _ (by first | omega | assumption) (by first | omega | assumption)) (by decide) rfl (by first | assumption | exact blkW_0 | exact bAt_0 (by assumption) | rfl) (Nat.le_of_ble_eq_true rfl) ?_
          rw [bx_uu, hg]
          refine V_inc5 rfl (by first | exact mInc _ | rfl) (by first | rfl | assumption) ?_
          refine V_goto rfl ?_
          exact ih
        · refine V_iload rfl rfl ?_
          refine V_iload_n rfl rfl ?_
          refine V_icmp_geT rfl (nI_le (Nat.le_refl _) (by omega)) ?_
          refine V_aload_n rfl rfl ?_
          refine V_getfield rfl rfl (by first | assumption | exact blkW_0 | exact bAt_0 (by assumption) | rfl) (by rfl) ?_
          refine V_iconst (v := 0) rfl (by decide) ?_
          refine V_iald rfl (by first | assumption | exact blkW_i rfl rfl | exact blkW_z rfl rfl | exact bAt_i (by assumption) rfl rfl | exact bAt_z (by assumption) rfl rfl | rfl) (by first | with_reducible rfl | exact nI_add 2 _ | exact nI_add 26 _ | exact ix45 _ _ | exact ixm45 _ | exact ix25 _ | exact fa_lit _ | assumption) (by first | omega | assumption | decide) (by first | decide | omega | assumption) (by first | exact mp_isC (by first | assumption | exact MP_rcS (by assumption) | exact MP_ar rfl (by assumption) | exact MP_sc rfl (by assumption)) (by first | omega | assumption) | exact mp_par (by first | assumption | exact MP_rcS (by assumption) | exact MP_ar rfl (by assumption) | exact MP_sc rfl (by assumption)) (by first | omega | assumption) | exact mp_abv (by first | assumption | exact MP_rcS (by assumption) | exact MP_ar rfl (by assumption) | exact MP_sc rfl (by assumption)) (by first | omega | assumption) | exact mp_dep (by first | assumption | exact MP_rcS (by assumption) | exact MP_ar rfl (by assumption) | exact MP_sc rfl (by assumption)) (by first | omega | assumption) | exact mp_bT (by first | assumption | exact MP_rcS (by assumption) | exact MP_ar rfl (by assumption) | exact MP_sc rfl (by assumption)) (by first | omega | assumption) | exact mp_bM (by first | assumption | exact MP_rcS (by assumption) | exact MP_ar rfl (by assumption) | exact MP_sc rfl (by assumption)) (by first | omega | assumption) | exact mp_sK (by first | assumption | exact MP_rcS (by assumption) | exact MP_ar rfl (by assumption) | exact MP_sc rfl (by assumption)) (by first | omega | assumption) | exact mp_sB (by first | assumption | exact MP_rcS (by assumption) | exact MP_ar rfl (by assumption) | exact MP_sc rfl (by assumption)) (by first | omega | assumption) | exact mp_sT (by first | assumption | exact MP_rcS (by assumption) | exact MP_ar rfl (by assumption) | exact MP_sc rfl (by assumption)) (by first | omega | assumption) | exact mp_sM (by first | assumption | exact MP_rcS (by assumption) | exact MP_ar rfl (by assumption) | exact MP_sc rfl (by assumption)) (by first | omega | assumption) | exact mp_cS (by first | assumption | exact MP_rcS (by assumption) | exact MP_ar rfl (by assumption) | exact MP_sc rfl (by assumption)) (by first | omega | assumption) | exact va_g | exact va_n (by decide) | rfl) ?_
          refine V_ireturn rfl rfl (by first | rfl | exact b2_nar _ | assumption | decide) ?_
          exact P_ret rfl rfl
      · rw [decide_eq_false h0]
        refine V_if_neF rfl (by rw [show nT p = 0 by omega]; rfl) ?_
        refine V_ldcw rfl rfl ?_
        refine V_ireturn rfl rfl (by first | rfl | exact b2_nar _ | assumption | decide) ?_
        exact P_ret rfl rfl
set_option maxRecDepth 20000 in
set_option maxHeartbeats 1000000 in
theorem w_feed {tx : Nat} (htx : sc 17 = nI tx) (htx2 : tx ≤ 240) (c : Int32) : Mt g 1 m_MD_feed [.ref md, .int c] (blkW 7 h md sc ar) sz u (fun r h' => if inN c 256 && decide (tx < 240) then Pi (nI (tx + 1)) (blkW 7 h md (upd sc 17 (nI (tx + 1))) (va_up ar 16 (upd (ar 16) tx c))) r h' else Pi (if inN c 256 then FUL else OUT) (blkW 7 h md sc ar) r h') sz u := by
  refine Mt.of m_MD_feed_w m_MD_feed_x m_MD_feed_c rfl rfl (ls := [.ref md, .int c]) rfl ?_
  refine V_iload_n rfl rfl ?_
  refine V_i2l rfl ?_
  refine V_lconst rfl rfl ?_
  refine V_ldc2 rfl rfl ?_
  refine V_callSi rfl rfl (Or.inl rfl) m_MD_in_w m_MD_in_x rfl rfl (s_in _ _ _) (by decide) rfl (Nat.le_of_ble_eq_true rfl) ?_
  rw [show b2 (decide (Int64.ofNat ((0 : Fin 2) : Nat) ≤ c.toInt64 ∧ c.toInt64 ≤ 255)) = b2 (inN c 256) by rw [← wide_lit c 256 (by decide) 255 (by decide)]; rfl]
  cases h1 : inN c 256
  · refine V_if_neF rfl (rfl) ?_
    refine V_ldc rfl rfl ?_
    refine V_ireturn rfl rfl (by first | rfl | exact b2_nar _ | assumption | decide) ?_
    exact P_ret rfl rfl
  · refine V_if_neT rfl (by decide) ?_
    refine V_aload_n rfl rfl ?_
    refine V_getI rfl rfl (by first | assumption | exact blkW_0 | exact bAt_0 (by assumption) | rfl) (by rfl) (by first | exact pk_us | exact (by assumption) | exact rcS_o rfl | rfl) ?_
    refine V_sipush (v := 240) rfl (by decide) ?_
    by_cases e : tx = 240
    · refine V_icmp_neF rfl (by rw [e]; rfl) ?_
      rw [decide_eq_false (show ¬ tx < 240 by omega)]
      refine V_ldc rfl rfl ?_
      refine V_ireturn rfl rfl (by first | rfl | exact b2_nar _ | assumption | decide) ?_
      exact P_ret rfl rfl
    · refine V_icmp_neT rfl (fun q => e ((nI_eq (b := 240) (by omega) (by decide)).mp q)) ?_
      rw [decide_eq_true (show tx < 240 by omega)]
      refine V_aload_n rfl rfl ?_
      refine V_getfield rfl rfl (by first | assumption | exact blkW_0 | exact bAt_0 (by assumption) | rfl) (by rfl) ?_
      refine V_aload_n rfl rfl ?_
      refine V_getI rfl rfl (by first | assumption | exact blkW_0 | exact bAt_0 (by assumption) | rfl) (by rfl) (by first | exact pk_us | exact (by assumption) | exact rcS_o rfl | rfl) ?_
      refine V_iload_n rfl rfl ?_
      first | refine V_bast rfl rfl rfl (by first | with_reducible rfl | exact nI_add 2 _ | exact nI_add 26 _ | exact ix45 _ _ | exact ixm45 _ | exact ix25 _ | exact fa_lit _ | assumption) (by first | omega | assumption | decide) (by first | decide | omega | assumption) ?_ | refine V_iastore rfl (by first | assumption | exact blkW_i rfl rfl | exact blkW_z rfl rfl | exact bAt_i (by assumption) rfl rfl | exact bAt_z (by assumption) rfl rfl | rfl) (by first | with_reducible rfl | exact nI_add 2 _ | exact nI_add 26 _ | exact ix45 _ _ | exact ixm45 _ | exact ix25 _ | exact fa_lit _ | assumption) (by first | omega | assumption | decide) (by first | decide | omega | assumption) ?_
      refine V_aload_n rfl rfl ?_
      refine V_dup rfl rfl ?_
      refine V_getI rfl rfl (by first | assumption | exact blkW_0 | exact bAt_0 (by assumption) | rfl) (by rfl) (by first | exact pk_us | exact (by assumption) | exact rcS_o rfl | rfl) ?_
      refine V_iconst (v := 1) rfl (by decide) ?_
      refine V_iadd rfl ?_
      rw [show nI tx + 1 = nI (tx + 1) from nI_1 tx]
      first | refine V_bput rfl rfl rfl rfl rfl rfl ?_ | refine V_bputZ rfl rfl rfl rfl rfl rfl (by decide) ?_ | refine V_put rfl rfl (by first | assumption | rfl) (by decide) (fun _ hty => by cases hty; exact ⟨rfl, rfl⟩) (by first | exact Or.inl rfl | exact Or.inr ⟨rfl, rfl⟩) rfl ?_
      refine V_aload_n rfl rfl ?_
      refine V_getI rfl rfl (by first | assumption | exact blkW_0 | exact bAt_0 (by assumption) | rfl) (by rfl) (by first | exact pk_us | exact (by assumption) | exact rcS_o rfl | rfl) ?_
      refine V_ireturn rfl rfl (by first | rfl | exact b2_nar _ | assumption | decide) ?_
      exact P_ret rfl rfl
end mdrift
