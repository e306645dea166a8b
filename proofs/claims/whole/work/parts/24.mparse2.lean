def pF (f : Nat → Int32) (a nu na : Int32) : Nat → Int32 := fun k => if k = 19 then a else if k = 20 then nu else if k = 21 then na else f k
theorem pF_19 {f : Nat → Int32} {a nu na : Int32} : pF f a nu na 19 = a := rfl
theorem pF_20 {f : Nat → Int32} {a nu na : Int32} : pF f a nu na 20 = nu := rfl
theorem pF_21 {f : Nat → Int32} {a nu na : Int32} : pF f a nu na 21 = na := rfl
theorem pF_o {f : Nat → Int32} {a nu na : Int32} {k : Nat} (h : (Nat.beq k 19 || Nat.beq k 20 || Nat.beq k 21) = false) : pF f a nu na k = f k := by
  rw [Bool.or_eq_false_iff, Bool.or_eq_false_iff] at h
  have e : ∀ {j : Nat}, Nat.beq k j = false → k ≠ j := fun {j} hj q => by rw [q, show Nat.beq j j = true from Nat.beq_refl j] at hj; cases hj
  unfold pF
  rw [if_neg (e h.1.1), if_neg (e h.1.2), if_neg (e h.2)]
theorem pF_u19 {f : Nat → Int32} {a nu na v : Int32} : upd (pF f a nu na) 19 v = pF f v nu na := by
  funext k
  unfold pF upd
  by_cases e : k = 19
  · simp [e]
  · simp [e]
theorem pF_u20 {f : Nat → Int32} {a nu na v : Int32} : upd (pF f a nu na) 20 v = pF f a v na := by
  funext k
  unfold pF upd
  by_cases e : k = 20
  · simp [e]
  · simp [e]
theorem pF_i {f : Nat → Int32} {a nu na a0 : Int32} : upd (upd (upd f 19 a0) 21 na) 20 nu = pF f a0 nu na := by
  funext k
  unfold pF upd
  by_cases e : k = 19
  · simp [e]
  · by_cases e2 : k = 20
    · simp [e2]
    · simp [e, e2]
/-- a number of one or two figures -/
def dgt (T : Nat → Int32) (i : Nat) : Nat := (T i).toNatClampNeg - 48
def vN (T : Nat → Int32) (s k : Nat) : Nat := if k = 1 then dgt T s else 10 * dgt T s + dgt T (s + 1)
theorem isD_nat {x : Int32} (h : isD x = true) : ∃ c, 48 ≤ c ∧ c ≤ 57 ∧ x = nI c := by
  have h := of_decide_eq_true h
  rw [fa_le, fa_le] at h
  have e1 : (48 : Int32).toInt = 48 := rfl
  have e2 : (57 : Int32).toInt = 57 := rfl
  have h0 : ¬ x < 0 := fun q => by
    rw [fa_lt] at q
    have : (0 : Int32).toInt = 0 := rfl
    omega
  obtain ⟨c, hc, rfl⟩ := nI_of h0
  rw [nI_toInt hc] at h
  exact ⟨c, by omega, by omega, rfl⟩
theorem dgE_D {T : Nat → Int32} {n s i : Nat} (h : s + i < dgE T n s) : isD (T (s + i)) = true := by
  unfold dgE at h
  have := fa_first_no (fun i => !isD (T (s + i))) (n - s) i (by omega)
  simpa using this
theorem dgE_1 {T : Nat → Int32} {n s : Nat} (hs : s < n) (h : isD (T s) = true) : s < dgE T n s := by
  unfold dgE
  rcases Nat.eq_zero_or_pos (fa_first (fun i => !isD (T (s + i))) (n - s)) with e | e
  · have hy := fa_first_yes (fun i => !isD (T (s + i))) (n - s) (by rw [e]; omega)
    rw [e, Nat.add_zero, h] at hy
    cases hy
  · omega
theorem nuM_1 {T : Nat → Int32} {s : Nat} (h : isD (T s) = true) : nuM T s 1 = nI (dgt T s) ∧ dgt T s ≤ 9 := by
  obtain ⟨c, c1, c2, e⟩ := isD_nat h
  have e1 : dgt T s = c - 48 := by unfold dgt; rw [e, nI_clamp (by omega)]
  refine ⟨?_, by omega⟩
  unfold nuM
  rw [show nuM T s 0 = 0 from rfl, if_neg (by decide), Nat.add_zero, e, e1]
  have := pk_sub (a := c) (b := 48) c1
  rw [← this]
  show 10 * 0 + nI c - 48 = nI c - nI 48
  rw [show (10 : Int32) * 0 = 0 by decide, Int32.zero_add]
  rfl
theorem nuM_2 {T : Nat → Int32} {s : Nat} (h : isD (T s) = true) (h2 : isD (T (s + 1)) = true) : nuM T s 2 = nI (10 * dgt T s + dgt T (s + 1)) ∧ 10 * dgt T s + dgt T (s + 1) ≤ 99 := by
  obtain ⟨h3, h4⟩ := nuM_1 h
  obtain ⟨c, c1, c2, e⟩ := isD_nat h2
  have e1 : dgt T (s + 1) = c - 48 := by unfold dgt; rw [e, nI_clamp (by omega)]
  refine ⟨?_, by omega⟩
  unfold nuM
  rw [h3, if_neg (show ¬ (1000 : Int32) < nI (dgt T s) from fun q => absurd q (nI_nlt (a := 1000) (by omega) (by decide))), e, e1, show (10 : Int32) = nI 10 from rfl, pk_mul, nI_add]
  have := pk_sub (a := 10 * dgt T s + c) (b := 48) (by omega)
  rw [show 10 * dgt T s + (c - 48) = 10 * dgt T s + c - 48 by omega, ← this]
  rfl
theorem vN_ok {T : Nat → Int32} {n s : Nat} (hs : s < n) (h : isD (T s) = true) (h2 : dgE T n s - s ≤ 2) : nuM T s (dgE T n s - s) = nI (vN T s (dgE T n s - s)) ∧ vN T s (dgE T n s - s) ≤ 99 := by
  have h1 := dgE_1 hs h
  unfold vN
  by_cases e : dgE T n s - s = 1
  · rw [if_pos e, e]
    have := nuM_1 h
    exact ⟨this.1, by omega⟩
  · rw [if_neg e, show dgE T n s - s = 2 by omega]
    exact nuM_2 h (dgE_D (n := n) (by omega))
/-- a step of reading failed: k its number, s its place -/
def FL (h : mH) (md : Nat) (sc : Nat → Int32) (ar : Nat → Nat → Int32) (E : (Nat → Int32) → Prop) (k : Int32) (s : Nat) : Option Value → mH → Prop := fun r h' => r = some (.int k) ∧ ∃ f q, h' = blkW 7 h md (psS sc f) (arS ar q) ∧ f 18 = nI s ∧ E f
section mparse2
variable {g : mG} {h : mH} {sz u md : Nat} {p : Pg} {sc f : Nat → Int32} {ar q : Nat → Nat → Int32}
theorem wide_le (x lo hi : Int32) : decide (lo.toInt64 ≤ x.toInt64 ∧ x.toInt64 ≤ hi.toInt64) = decide (lo ≤ x ∧ x ≤ hi) := by
  apply decide_eq_decide.mpr
  rw [fa_wide_le, fa_wide_le]
def isNm (T : Nat → Int32) (n a : Nat) : Bool := decide (skp T n a < n) && isD (T (skp T n a))
set_option maxRecDepth 20000 in
set_option maxHeartbeats 1000000 in
theorem w_takeNumber {n a : Nat} (h17 : sc 17 = nI n ∧ n ≤ 240) (h19 : f 19 = nI a ∧ a < 2 ^ 30) (lo hi : Int32) : Mt g 1 m_MD_takeNumber [.ref md, .int lo, .int hi] (blkW 7 h md (psS sc f) (arS ar q)) sz u (fun r h' => if isNm (ar 16) n a then (if dgE (ar 16) n (skp (ar 16) n a) - skp (ar 16) n a ≤ 2 ∧ lo ≤ nI (vN (ar 16) (skp (ar 16) n a) (dgE (ar 16) n (skp (ar 16) n a) - skp (ar 16) n a)) ∧ nI (vN (ar 16) (skp (ar 16) n a) (dgE (ar 16) n (skp (ar 16) n a) - skp (ar 16) n a)) ≤ hi then Pi 0 (blkW 7 h md (psS sc (pF f (nI (dgE (ar 16) n (skp (ar 16) n a))) (nI (vN (ar 16) (skp (ar 16) n a) (dgE (ar 16) n (skp (ar 16) n a) - skp (ar 16) n a))) (nI (skp (ar 16) n a)))) (arS ar q)) r h' else FL h md sc ar (fun f2 => f2 26 = f 26) 2 (skp (ar 16) n a) r h') else FL h md sc ar (fun f2 => f2 26 = f 26) 1 (skp (ar 16) n a) r h') sz u := by
  have hn := h17.2
  have h17b := h17.1
  have ha := h19.2
  refine Mt.of m_MD_takeNumber_w m_MD_takeNumber_x m_MD_takeNumber_c rfl rfl (ls := [.ref md, .int lo, .int hi, .retAddr 0]) rfl ?_
  refine V_aload_n rfl rfl ?_
  refine V_callVi rfl rfl m_MD_here_w m_MD_here_x rfl (by decide) rfl (w_here (by assumption) (by assumption)) (by decide) rfl (by first | assumption | exact blkW_0 | exact bAt_0 (by assumption) | rfl) (Nat.le_of_ble_eq_true rfl) ?_
  refine V_is3 rfl (by first | rfl | assumption) ?_
  refine V_iload_n rfl rfl ?_
  refine V_i2l rfl ?_
  refine V_ldc2 rfl rfl ?_
  refine V_ldc2 rfl rfl ?_
  refine V_callSi rfl rfl (Or.inl rfl) m_MD_in_w m_MD_in_x rfl rfl (s_in _ _ _) (by decide) rfl (Nat.le_of_ble_eq_true rfl) ?_
  rw [in_D]
  have hve : hv (ar 16) n a = if skp (ar 16) n a < n then ar 16 (skp (ar 16) n a) else -1 := rfl
  have hisn : isNm (ar 16) n a = isD (hv (ar 16) n a) := by
    rw [hve]
    unfold isNm
    by_cases e : skp (ar 16) n a < n
    · rw [if_pos e, decide_eq_true e, Bool.true_and]
    · rw [if_neg e, decide_eq_false e, Bool.false_and]; decide
  rw [hisn]
  have hsg := skp_ge (ar 16) n a
  have hsb : skp (ar 16) n a < n → skp (ar 16) n a < 2 ^ 30 := fun _ => by omega
  generalize hs : skp (ar 16) n a = s at hve hsg hsb
  have hsl : s < 2 ^ 30 := by
    by_cases e : a ≤ n
    · have := skp_le (T := ar 16) e
      omega
    · have : skp (ar 16) n a = a := by unfold skp; rw [show n - a = 0 by omega]; rfl
      omega
  cases hd : isD (hv (ar 16) n a)
  · refine V_if_neF rfl (rfl) ?_
    refine V_aload_n rfl rfl ?_
    refine V_iconst (v := 1) rfl (by decide) ?_
    refine V_aload_n rfl rfl ?_
    refine V_getI rfl rfl (by first | assumption | exact blkW_0 | exact bAt_0 (by assumption) | rfl) (by rfl) (by first | exact (psS_g rfl).trans pF_19 | exact (psS_g rfl).trans (by assumption) | exact (psS_g rfl).trans pk_us | exact (psS_g rfl).trans ((pk_un (by decide)).trans (by assumption)) | exact (psS_g rfl).trans ((pk_un (by decide)).trans pk_us) | exact (psS_g rfl).trans ((pk_un (by decide)).trans ((pk_un (by decide)).trans (by assumption))) | exact psS_g rfl | rfl) ?_
    refine V_callVi rfl rfl m_MD_fails_w m_MD_fails_x rfl (by decide) rfl (w_fails _ _) (by decide) rfl (by first | assumption | exact blkW_0 | exact bAt_0 (by assumption) | rfl) (Nat.le_of_ble_eq_true rfl) ?_
    refine V_ireturn rfl rfl (by first | rfl | exact b2_nar _ | assumption | decide) ?_
    exact ⟨rfl, _, _, rfl, pk_us, by first | exact (pk_un (by decide)).trans (pF_o rfl) | exact (pk_un (by decide)).trans (pk_un (by decide))⟩
  · refine V_if_neT rfl (by decide) ?_
    have hsn : s < n := by
      refine Classical.byContradiction fun e => ?_
      rw [hve, if_neg e] at hd
      exact absurd hd (by decide)
    rw [hve, if_pos hsn] at hd
    have hvok := vN_ok hsn hd
    have h1 := dgE_1 hsn hd
    have hde : dgE (ar 16) n s = s + fa_first (fun i => !isD (ar 16 (s + i))) (n - s) := rfl
    have hdl := dgE_le (T := ar 16) (n := n) (a := s) (by omega)
    generalize he : dgE (ar 16) n s = e at hvok h1 hde hdl
    refine V_aload_n rfl rfl ?_
    refine V_aload_n rfl rfl ?_
    refine V_getI rfl rfl (by first | assumption | exact blkW_0 | exact bAt_0 (by assumption) | rfl) (by rfl) (by first | exact (psS_g rfl).trans pF_19 | exact (psS_g rfl).trans (by assumption) | exact (psS_g rfl).trans pk_us | exact (psS_g rfl).trans ((pk_un (by decide)).trans (by assumption)) | exact (psS_g rfl).trans ((pk_un (by decide)).trans pk_us) | exact (psS_g rfl).trans ((pk_un (by decide)).trans ((pk_un (by decide)).trans (by assumption))) | exact psS_g rfl | rfl) ?_
    first | refine V_pput rfl rfl rfl rfl rfl ?_ | refine V_bput rfl rfl rfl rfl rfl rfl ?_ | refine V_bputZ rfl rfl rfl rfl rfl rfl (by decide) ?_ | refine V_put rfl rfl (by first | assumption | rfl) (by decide) (fun _ hty => by cases hty; exact ⟨rfl, rfl⟩) (by first | exact Or.inl rfl | exact Or.inr ⟨rfl, rfl⟩) rfl ?_
    refine V_aload_n rfl rfl ?_
    refine V_iconst (v := 0) rfl (by decide) ?_
    first | refine V_pput rfl rfl rfl rfl rfl ?_ | refine V_bput rfl rfl rfl rfl rfl rfl ?_ | refine V_bputZ rfl rfl rfl rfl rfl rfl (by decide) ?_ | refine V_put rfl rfl (by first | assumption | rfl) (by decide) (fun _ hty => by cases hty; exact ⟨rfl, rfl⟩) (by first | exact Or.inl rfl | exact Or.inr ⟨rfl, rfl⟩) rfl ?_
    rw [pF_i (a := nI s)]
    refine V_for2 (e - s) (fun _ => [.ref md, .int lo, .int hi, .int (hv (ar 16) n a)]) (fun i => blkW 7 h md (psS sc (pF f (nI (s + i)) (nuM (ar 16) s i) (nI s))) (arS ar q)) rfl rfl (fun i hi ih => ?_) ?_
    · have hD : isD (ar 16 (s + i)) = true := dgE_D (n := n) (by omega)
      have hnu : nuM (ar 16) s (i + 1) = if 1000 < nuM (ar 16) s i then nuM (ar 16) s i else 10 * nuM (ar 16) s i + ar 16 (s + i) - 48 := rfl
      refine V_aload_n rfl rfl ?_
      refine V_getI rfl rfl (by first | assumption | exact blkW_0 | exact bAt_0 (by assumption) | rfl) (by rfl) (by first | exact (psS_g rfl).trans pF_19 | exact (psS_g rfl).trans (by assumption) | exact (psS_g rfl).trans pk_us | exact (psS_g rfl).trans ((pk_un (by decide)).trans (by assumption)) | exact (psS_g rfl).trans ((pk_un (by decide)).trans pk_us) | exact (psS_g rfl).trans ((pk_un (by decide)).trans ((pk_un (by decide)).trans (by assumption))) | exact psS_g rfl | rfl) ?_
      refine V_aload_n rfl rfl ?_
      refine V_getI rfl rfl (by first | assumption | exact blkW_0 | exact bAt_0 (by assumption) | rfl) (by rfl) (by first | exact (psS_o rfl).trans (by assumption) | exact pk_us | exact (by assumption) | exact rcS_o rfl | rfl) ?_
      refine V_icmp_geF rfl (nI_ge (show s + i < n by omega) (by omega)) ?_
      refine V_aload_n rfl rfl ?_
      refine V_getfield rfl rfl (by first | assumption | exact blkW_0 | exact bAt_0 (by assumption) | rfl) (by rfl) ?_
      refine V_aload_n rfl rfl ?_
      refine V_getI rfl rfl (by first | assumption | exact blkW_0 | exact bAt_0 (by assumption) | rfl) (by rfl) (by first | exact (psS_g rfl).trans pF_19 | exact (psS_g rfl).trans (by assumption) | exact (psS_g rfl).trans pk_us | exact (psS_g rfl).trans ((pk_un (by decide)).trans (by assumption)) | exact (psS_g rfl).trans ((pk_un (by decide)).trans pk_us) | exact (psS_g rfl).trans ((pk_un (by decide)).trans ((pk_un (by decide)).trans (by assumption))) | exact psS_g rfl | rfl) ?_
      refine V_iald rfl (by first | assumption | exact blkW_i rfl rfl | exact blkW_z rfl rfl | exact bAt_i (by assumption) rfl rfl | exact bAt_z (by assumption) rfl rfl | rfl) (by first | with_reducible rfl | exact nI_add 2 _ | exact nI_add 26 _ | exact ix45 _ _ | exact ixm45 _ | exact ix25 _ | exact fa_lit _ | assumption) (by first | omega | assumption | decide) (by first | decide | omega | assumption) (by first | exact (arS_g rfl).trans qF_g | exact (arS_g rfl).trans ((qF_o rfl).trans (rd_C (by assumption) (by first | omega | assumption))) | exact (arS_g rfl).trans ((qF_o rfl).trans (rd_P (by assumption) (by first | omega | assumption))) | exact (arS_g rfl).trans ((qF_o rfl).trans (rd_bT (by assumption) (by first | omega | assumption))) | exact (arS_g rfl).trans (rd_C (by assumption) (by first | omega | assumption)) | exact (arS_g rfl).trans (rd_P (by assumption) (by first | omega | assumption)) | exact (arS_g rfl).trans (rd_bT (by assumption) (by first | omega | assumption)) | exact (arS_g rfl).trans (rd_bM (by assumption) (by first | omega | assumption)) | exact arS_o rfl | exact arS_g rfl | exact mp_isC (by first | assumption | exact MP_rcS (by assumption) | exact MP_ar rfl (by assumption) | exact MP_sc rfl (by assumption)) (by first | omega | assumption) | exact mp_par (by first | assumption | exact MP_rcS (by assumption) | exact MP_ar rfl (by assumption) | exact MP_sc rfl (by assumption)) (by first | omega | assumption) | exact mp_abv (by first | assumption | exact MP_rcS (by assumption) | exact MP_ar rfl (by assumption) | exact MP_sc rfl (by assumption)) (by first | omega | assumption) | exact mp_dep (by first | assumption | exact MP_rcS (by assumption) | exact MP_ar rfl (by assumption) | exact MP_sc rfl (by assumption)) (by first | omega | assumption) | exact mp_bT (by first | assumption | exact MP_rcS (by assumption) | exact MP_ar rfl (by assumption) | exact MP_sc rfl (by assumption)) (by first | omega | assumption) | exact mp_bM (by first | assumption | exact MP_rcS (by assumption) | exact MP_ar rfl (by assumption) | exact MP_sc rfl (by assumption)) (by first | omega | assumption) | exact mp_sK (by first | assumption | exact MP_rcS (by assumption) | exact MP_ar rfl (by assumption) | exact MP_sc rfl (by assumption)) (by first | omega | assumption) | exact mp_sB (by first | assumption | exact MP_rcS (by assumption) | exact MP_ar rfl (by assumption) | exact MP_sc rfl (by assumption)) (by first | omega | assumption) | exact mp_sT (by first | assumption | exact MP_rcS (by assumption) | exact MP_ar rfl (by assumption) | exact MP_sc rfl (by assumption)) (by first | omega | assumption) | exact mp_sM (by first | assumption | exact MP_rcS (by assumption) | exact MP_ar rfl (by assumption) | exact MP_sc rfl (by assumption)) (by first | omega | assumption) | exact mp_cS (by first | assumption | exact MP_rcS (by assumption) | exact MP_ar rfl (by assumption) | exact MP_sc rfl (by assumption)) (by first | omega | assumption) | exact va_g | exact va_n (by decide) | rfl) ?_
      refine V_i2l rfl ?_
      refine V_ldc2 rfl rfl ?_
      refine V_ldc2 rfl rfl ?_
      refine V_callSi rfl rfl (Or.inl rfl) m_MD_in_w m_MD_in_x rfl rfl (s_in _ _ _) (by decide) rfl (Nat.le_of_ble_eq_true rfl) ?_
      rw [in_D, hD]
      refine V_if_eqF rfl (by decide) ?_
      refine V_aload_n rfl rfl ?_
      refine V_aload_n rfl rfl ?_
      refine V_getI rfl rfl (by first | assumption | exact blkW_0 | exact bAt_0 (by assumption) | rfl) (by rfl) (by first | exact (psS_g rfl).trans pF_20 | exact (psS_g rfl).trans (by assumption) | exact (psS_g rfl).trans pk_us | exact (psS_g rfl).trans ((pk_un (by decide)).trans (by assumption)) | exact (psS_g rfl).trans ((pk_un (by decide)).trans pk_us) | exact (psS_g rfl).trans ((pk_un (by decide)).trans ((pk_un (by decide)).trans (by assumption))) | exact psS_g rfl | rfl) ?_
      refine V_sipush (v := 1000) rfl (by decide) ?_
      by_cases h83 : 1000 < nuM (ar 16) s i
      · rw [if_pos h83] at hnu
        refine V_icmp_leF rfl (fun z => fa_of_nlt2 z h83) ?_
        refine V_aload_n rfl rfl ?_
        refine V_getI rfl rfl (by first | assumption | exact blkW_0 | exact bAt_0 (by assumption) | rfl) (by rfl) (by first | exact (psS_g rfl).trans pF_20 | exact (psS_g rfl).trans (by assumption) | exact (psS_g rfl).trans pk_us | exact (psS_g rfl).trans ((pk_un (by decide)).trans (by assumption)) | exact (psS_g rfl).trans ((pk_un (by decide)).trans pk_us) | exact (psS_g rfl).trans ((pk_un (by decide)).trans ((pk_un (by decide)).trans (by assumption))) | exact psS_g rfl | rfl) ?_
        refine V_goto rfl ?_
        first | refine V_pput rfl rfl rfl rfl rfl ?_ | refine V_bput rfl rfl rfl rfl rfl rfl ?_ | refine V_bputZ rfl rfl rfl rfl rfl rfl (by decide) ?_ | refine V_put rfl rfl (by first | assumption | rfl) (by decide) (fun _ hty => by cases hty; exact ⟨rfl, rfl⟩) (by first | exact Or.inl rfl | exact Or.inr ⟨rfl, rfl⟩) rfl ?_
        rw [pF_u20]
        refine V_aload_n rfl rfl ?_
        refine V_dup rfl rfl ?_
        refine V_getI rfl rfl (by first | assumption | exact blkW_0 | exact bAt_0 (by assumption) | rfl) (by rfl) (by first | exact (psS_g rfl).trans pF_19 | exact (psS_g rfl).trans (by assumption) | exact (psS_g rfl).trans pk_us | exact (psS_g rfl).trans ((pk_un (by decide)).trans (by assumption)) | exact (psS_g rfl).trans ((pk_un (by decide)).trans pk_us) | exact (psS_g rfl).trans ((pk_un (by decide)).trans ((pk_un (by decide)).trans (by assumption))) | exact psS_g rfl | rfl) ?_
        refine V_iconst (v := 1) rfl (by decide) ?_
        refine V_iadd rfl ?_
        rw [show nI (s + i) + 1 = nI (s + (i + 1)) from nI_1 (s + i)]
        first | refine V_pput rfl rfl rfl rfl rfl ?_ | refine V_bput rfl rfl rfl rfl rfl rfl ?_ | refine V_bputZ rfl rfl rfl rfl rfl rfl (by decide) ?_ | refine V_put rfl rfl (by first | assumption | rfl) (by decide) (fun _ hty => by cases hty; exact ⟨rfl, rfl⟩) (by first | exact Or.inl rfl | exact Or.inr ⟨rfl, rfl⟩) rfl ?_
        refine V_goto rfl ?_
        rw [pF_u19]
        rw [hnu] at ih
        exact ih
      · rw [if_neg h83] at hnu
        refine V_icmp_leT rfl (fa_of_nlt h83) ?_
        refine V_bipush (v := 10) rfl (by decide) ?_
        refine V_aload_n rfl rfl ?_
        refine V_getI rfl rfl (by first | assumption | exact blkW_0 | exact bAt_0 (by assumption) | rfl) (by rfl) (by first | exact (psS_g rfl).trans pF_20 | exact (psS_g rfl).trans (by assumption) | exact (psS_g rfl).trans pk_us | exact (psS_g rfl).trans ((pk_un (by decide)).trans (by assumption)) | exact (psS_g rfl).trans ((pk_un (by decide)).trans pk_us) | exact (psS_g rfl).trans ((pk_un (by decide)).trans ((pk_un (by decide)).trans (by assumption))) | exact psS_g rfl | rfl) ?_
        refine V_imul rfl ?_
        refine V_aload_n rfl rfl ?_
        refine V_getfield rfl rfl (by first | assumption | exact blkW_0 | exact bAt_0 (by assumption) | rfl) (by rfl) ?_
        refine V_aload_n rfl rfl ?_
        refine V_getI rfl rfl (by first | assumption | exact blkW_0 | exact bAt_0 (by assumption) | rfl) (by rfl) (by first | exact (psS_g rfl).trans pF_19 | exact (psS_g rfl).trans (by assumption) | exact (psS_g rfl).trans pk_us | exact (psS_g rfl).trans ((pk_un (by decide)).trans (by assumption)) | exact (psS_g rfl).trans ((pk_un (by decide)).trans pk_us) | exact (psS_g rfl).trans ((pk_un (by decide)).trans ((pk_un (by decide)).trans (by assumption))) | exact psS_g rfl | rfl) ?_
        refine V_iald rfl (by first | assumption | exact blkW_i rfl rfl | exact blkW_z rfl rfl | exact bAt_i (by assumption) rfl rfl | exact bAt_z (by assumption) rfl rfl | rfl) (by first | with_reducible rfl | exact nI_add 2 _ | exact nI_add 26 _ | exact ix45 _ _ | exact ixm45 _ | exact ix25 _ | exact fa_lit _ | assumption) (by first | omega | assumption | decide) (by first | decide | omega | assumption) (by first | exact (arS_g rfl).trans qF_g | exact (arS_g rfl).trans ((qF_o rfl).trans (rd_C (by assumption) (by first | omega | assumption))) | exact (arS_g rfl).trans ((qF_o rfl).trans (rd_P (by assumption) (by first | omega | assumption))) | exact (arS_g rfl).trans ((qF_o rfl).trans (rd_bT (by assumption) (by first | omega | assumption))) | exact (arS_g rfl).trans (rd_C (by assumption) (by first | omega | assumption)) | exact (arS_g rfl).trans (rd_P (by assumption) (by first | omega | assumption)) | exact (arS_g rfl).trans (rd_bT (by assumption) (by first | omega | assumption)) | exact (arS_g rfl).trans (rd_bM (by assumption) (by first | omega | assumption)) | exact arS_o rfl | exact arS_g rfl | exact mp_isC (by first | assumption | exact MP_rcS (by assumption) | exact MP_ar rfl (by assumption) | exact MP_sc rfl (by assumption)) (by first | omega | assumption) | exact mp_par (by first | assumption | exact MP_rcS (by assumption) | exact MP_ar rfl (by assumption) | exact MP_sc rfl (by assumption)) (by first | omega | assumption) | exact mp_abv (by first | assumption | exact MP_rcS (by assumption) | exact MP_ar rfl (by assumption) | exact MP_sc rfl (by assumption)) (by first | omega | assumption) | exact mp_dep (by first | assumption | exact MP_rcS (by assumption) | exact MP_ar rfl (by assumption) | exact MP_sc rfl (by assumption)) (by first | omega | assumption) | exact mp_bT (by first | assumption | exact MP_rcS (by assumption) | exact MP_ar rfl (by assumption) | exact MP_sc rfl (by assumption)) (by first | omega | assumption) | exact mp_bM (by first | assumption | exact MP_rcS (by assumption) | exact MP_ar rfl (by assumption) | exact MP_sc rfl (by assumption)) (by first | omega | assumption) | exact mp_sK (by first | assumption | exact MP_rcS (by assumption) | exact MP_ar rfl (by assumption) | exact MP_sc rfl (by assumption)) (by first | omega | assumption) | exact mp_sB (by first | assumption | exact MP_rcS (by assumption) | exact MP_ar rfl (by assumption) | exact MP_sc rfl (by assumption)) (by first | omega | assumption) | exact mp_sT (by first | assumption | exact MP_rcS (by assumption) | exact MP_ar rfl (by assumption) | exact MP_sc rfl (by assumption)) (by first | omega | assumption) | exact mp_sM (by first | assumption | exact MP_rcS (by assumption) | exact MP_ar rfl (by assumption) | exact MP_sc rfl (by assumption)) (by first | omega | assumption) | exact mp_cS (by first | assumption | exact MP_rcS (by assumption) | exact MP_ar rfl (by assumption) | exact MP_sc rfl (by assumption)) (by first | omega | assumption) | exact va_g | exact va_n (by decide) | rfl) ?_
        refine V_iadd rfl ?_
        refine V_bipush (v := 48) rfl (by decide) ?_
        refine V_isub rfl ?_
        first | refine V_pput rfl rfl rfl rfl rfl ?_ | refine V_bput rfl rfl rfl rfl rfl rfl ?_ | refine V_bputZ rfl rfl rfl rfl rfl rfl (by decide) ?_ | refine V_put rfl rfl (by first | assumption | rfl) (by decide) (fun _ hty => by cases hty; exact ⟨rfl, rfl⟩) (by first | exact Or.inl rfl | exact Or.inr ⟨rfl, rfl⟩) rfl ?_
        rw [pF_u20]
        refine V_aload_n rfl rfl ?_
        refine V_dup rfl rfl ?_
        refine V_getI rfl rfl (by first | assumption | exact blkW_0 | exact bAt_0 (by assumption) | rfl) (by rfl) (by first | exact (psS_g rfl).trans pF_19 | exact (psS_g rfl).trans (by assumption) | exact (psS_g rfl).trans pk_us | exact (psS_g rfl).trans ((pk_un (by decide)).trans (by assumption)) | exact (psS_g rfl).trans ((pk_un (by decide)).trans pk_us) | exact (psS_g rfl).trans ((pk_un (by decide)).trans ((pk_un (by decide)).trans (by assumption))) | exact psS_g rfl | rfl) ?_
        refine V_iconst (v := 1) rfl (by decide) ?_
        refine V_iadd rfl ?_
        rw [show nI (s + i) + 1 = nI (s + (i + 1)) from nI_1 (s + i)]
        first | refine V_pput rfl rfl rfl rfl rfl ?_ | refine V_bput rfl rfl rfl rfl rfl rfl ?_ | refine V_bputZ rfl rfl rfl rfl rfl rfl (by decide) ?_ | refine V_put rfl rfl (by first | assumption | rfl) (by decide) (fun _ hty => by cases hty; exact ⟨rfl, rfl⟩) (by first | exact Or.inl rfl | exact Or.inr ⟨rfl, rfl⟩) rfl ?_
        refine V_goto rfl ?_
        rw [pF_u19]
        rw [hnu] at ih
        exact ih
    · rw [show s + (e - s) = e by omega]
      have key : V g 1 m_MD_takeNumber (fun r h' => if e - s ≤ 2 ∧ lo ≤ nI (vN (ar 16) s (e - s)) ∧ nI (vN (ar 16) s (e - s)) ≤ hi then Pi 0 (blkW 7 h md (psS sc (pF f (nI e) (nI (vN (ar 16) s (e - s))) (nI s))) (arS ar q)) r h' else FL h md sc ar (fun f2 => f2 26 = f 26) 2 s r h') sz u 129 [.ref md, .int lo, .int hi, .int (hv (ar 16) n a)] [] (blkW 7 h md (psS sc (pF f (nI e) (nuM (ar 16) s (e - s)) (nI s))) (arS ar q)) sz u := by
        refine V_aload_n rfl rfl ?_
        refine V_getI rfl rfl (by first | assumption | exact blkW_0 | exact bAt_0 (by assumption) | rfl) (by rfl) (by first | exact (psS_g rfl).trans pF_19 | exact (psS_g rfl).trans (by assumption) | exact (psS_g rfl).trans pk_us | exact (psS_g rfl).trans ((pk_un (by decide)).trans (by assumption)) | exact (psS_g rfl).trans ((pk_un (by decide)).trans pk_us) | exact (psS_g rfl).trans ((pk_un (by decide)).trans ((pk_un (by decide)).trans (by assumption))) | exact psS_g rfl | rfl) ?_
        refine V_aload_n rfl rfl ?_
        refine V_getI rfl rfl (by first | assumption | exact blkW_0 | exact bAt_0 (by assumption) | rfl) (by rfl) (by first | exact (psS_g rfl).trans pF_21 | exact (psS_g rfl).trans (by assumption) | exact (psS_g rfl).trans pk_us | exact (psS_g rfl).trans ((pk_un (by decide)).trans (by assumption)) | exact (psS_g rfl).trans ((pk_un (by decide)).trans pk_us) | exact (psS_g rfl).trans ((pk_un (by decide)).trans ((pk_un (by decide)).trans (by assumption))) | exact psS_g rfl | rfl) ?_
        refine V_isub rfl ?_
        rw [pk_sub (show s ≤ e by omega)]
        refine V_iconst (v := 2) rfl (by decide) ?_
        by_cases h2 : e - s ≤ 2
        · obtain ⟨v1, v2⟩ := hvok h2
          refine V_icmp_gtF rfl (fun q => absurd q (nI_nlt (b := e - s) (a := 2) h2 (by decide))) ?_
          rw [v1]
          refine V_aload_n rfl rfl ?_
          refine V_getI rfl rfl (by first | assumption | exact blkW_0 | exact bAt_0 (by assumption) | rfl) (by rfl) (by first | exact (psS_g rfl).trans pF_20 | exact (psS_g rfl).trans (by assumption) | exact (psS_g rfl).trans pk_us | exact (psS_g rfl).trans ((pk_un (by decide)).trans (by assumption)) | exact (psS_g rfl).trans ((pk_un (by decide)).trans pk_us) | exact (psS_g rfl).trans ((pk_un (by decide)).trans ((pk_un (by decide)).trans (by assumption))) | exact psS_g rfl | rfl) ?_
          refine V_i2l rfl ?_
          refine V_iload_n rfl rfl ?_
          refine V_i2l rfl ?_
          refine V_iload_n rfl rfl ?_
          refine V_i2l rfl ?_
          refine V_callSi rfl rfl (Or.inl rfl) m_MD_in_w m_MD_in_x rfl rfl (s_in _ _ _) (by decide) rfl (Nat.le_of_ble_eq_true rfl) ?_
          rw [wide_le]
          by_cases h3 : lo ≤ nI (vN (ar 16) s (e - s)) ∧ nI (vN (ar 16) s (e - s)) ≤ hi
          · simp only [if_pos (show e - s ≤ 2 ∧ lo ≤ nI (vN (ar 16) s (e - s)) ∧ nI (vN (ar 16) s (e - s)) ≤ hi from ⟨h2, h3⟩)]
            rw [decide_eq_true h3]
            refine V_if_neT rfl (by decide) ?_
            refine V_iconst (v := 0) rfl (by decide) ?_
            refine V_ireturn rfl rfl (by first | rfl | exact b2_nar _ | assumption | decide) ?_
            exact P_ret rfl rfl
          · simp only [if_neg (show ¬ (e - s ≤ 2 ∧ lo ≤ nI (vN (ar 16) s (e - s)) ∧ nI (vN (ar 16) s (e - s)) ≤ hi) from fun z => h3 z.2)]
            rw [decide_eq_false h3]
            refine V_if_neF rfl (rfl) ?_
            refine V_aload_n rfl rfl ?_
            refine V_iconst (v := 2) rfl (by decide) ?_
            refine V_aload_n rfl rfl ?_
            refine V_getI rfl rfl (by first | assumption | exact blkW_0 | exact bAt_0 (by assumption) | rfl) (by rfl) (by first | exact (psS_g rfl).trans pF_21 | exact (psS_g rfl).trans (by assumption) | exact (psS_g rfl).trans pk_us | exact (psS_g rfl).trans ((pk_un (by decide)).trans (by assumption)) | exact (psS_g rfl).trans ((pk_un (by decide)).trans pk_us) | exact (psS_g rfl).trans ((pk_un (by decide)).trans ((pk_un (by decide)).trans (by assumption))) | exact psS_g rfl | rfl) ?_
            refine V_callVi rfl rfl m_MD_fails_w m_MD_fails_x rfl (by decide) rfl (w_fails _ _) (by decide) rfl (by first | assumption | exact blkW_0 | exact bAt_0 (by assumption) | rfl) (Nat.le_of_ble_eq_true rfl) ?_
            refine V_goto rfl ?_
            refine V_ireturn rfl rfl (by first | rfl | exact b2_nar _ | assumption | decide) ?_
            exact ⟨rfl, _, _, rfl, pk_us, by first | exact (pk_un (by decide)).trans (pF_o rfl) | exact (pk_un (by decide)).trans (pk_un (by decide))⟩
        · simp only [if_neg (show ¬ (e - s ≤ 2 ∧ lo ≤ nI (vN (ar 16) s (e - s)) ∧ nI (vN (ar 16) s (e - s)) ≤ hi) from fun z => h2 z.1)]
          refine V_icmp_gtT rfl (nI_lt (show 2 < e - s by omega) (by omega)) ?_
          refine V_aload_n rfl rfl ?_
          refine V_iconst (v := 2) rfl (by decide) ?_
          refine V_aload_n rfl rfl ?_
          refine V_getI rfl rfl (by first | assumption | exact blkW_0 | exact bAt_0 (by assumption) | rfl) (by rfl) (by first | exact (psS_g rfl).trans pF_21 | exact (psS_g rfl).trans (by assumption) | exact (psS_g rfl).trans pk_us | exact (psS_g rfl).trans ((pk_un (by decide)).trans (by assumption)) | exact (psS_g rfl).trans ((pk_un (by decide)).trans pk_us) | exact (psS_g rfl).trans ((pk_un (by decide)).trans ((pk_un (by decide)).trans (by assumption))) | exact psS_g rfl | rfl) ?_
          refine V_callVi rfl rfl m_MD_fails_w m_MD_fails_x rfl (by decide) rfl (w_fails _ _) (by decide) rfl (by first | assumption | exact blkW_0 | exact bAt_0 (by assumption) | rfl) (Nat.le_of_ble_eq_true rfl) ?_
          refine V_goto rfl ?_
          refine V_ireturn rfl rfl (by first | rfl | exact b2_nar _ | assumption | decide) ?_
          exact ⟨rfl, _, _, rfl, pk_us, by first | exact (pk_un (by decide)).trans (pF_o rfl) | exact (pk_un (by decide)).trans (pk_un (by decide))⟩
      by_cases hen : e < n
      · have hnD : isD (ar 16 e) = false := by
          have hy := fa_first_yes (fun i => !isD (ar 16 (s + i))) (n - s) (by omega)
          have hy : (!isD (ar 16 (s + fa_first (fun i => !isD (ar 16 (s + i))) (n - s)))) = true := hy
          rw [← hde] at hy
          simpa using hy
        refine V_aload_n rfl rfl ?_
        refine V_getI rfl rfl (by first | assumption | exact blkW_0 | exact bAt_0 (by assumption) | rfl) (by rfl) (by first | exact (psS_g rfl).trans pF_19 | exact (psS_g rfl).trans (by assumption) | exact (psS_g rfl).trans pk_us | exact (psS_g rfl).trans ((pk_un (by decide)).trans (by assumption)) | exact (psS_g rfl).trans ((pk_un (by decide)).trans pk_us) | exact (psS_g rfl).trans ((pk_un (by decide)).trans ((pk_un (by decide)).trans (by assumption))) | exact psS_g rfl | rfl) ?_
        refine V_aload_n rfl rfl ?_
        refine V_getI rfl rfl (by first | assumption | exact blkW_0 | exact bAt_0 (by assumption) | rfl) (by rfl) (by first | exact (psS_o rfl).trans (by assumption) | exact pk_us | exact (by assumption) | exact rcS_o rfl | rfl) ?_
        refine V_icmp_geF rfl (nI_ge hen (by omega)) ?_
        refine V_aload_n rfl rfl ?_
        refine V_getfield rfl rfl (by first | assumption | exact blkW_0 | exact bAt_0 (by assumption) | rfl) (by rfl) ?_
        refine V_aload_n rfl rfl ?_
        refine V_getI rfl rfl (by first | assumption | exact blkW_0 | exact bAt_0 (by assumption) | rfl) (by rfl) (by first | exact (psS_g rfl).trans pF_19 | exact (psS_g rfl).trans (by assumption) | exact (psS_g rfl).trans pk_us | exact (psS_g rfl).trans ((pk_un (by decide)).trans (by assumption)) | exact (psS_g rfl).trans ((pk_un (by decide)).trans pk_us) | exact (psS_g rfl).trans ((pk_un (by decide)).trans ((pk_un (by decide)).trans (by assumption))) | exact psS_g rfl | rfl) ?_
        refine V_iald rfl (by first | assumption | exact blkW_i rfl rfl | exact blkW_z rfl rfl | exact bAt_i (by assumption) rfl rfl | exact bAt_z (by assumption) rfl rfl | rfl) (by first | with_reducible rfl | exact nI_add 2 _ | exact nI_add 26 _ | exact ix45 _ _ | exact ixm45 _ | exact ix25 _ | exact fa_lit _ | assumption) (by first | omega | assumption | decide) (by first | decide | omega | assumption) (by first | exact (arS_g rfl).trans qF_g | exact (arS_g rfl).trans ((qF_o rfl).trans (rd_C (by assumption) (by first | omega | assumption))) | exact (arS_g rfl).trans ((qF_o rfl).trans (rd_P (by assumption) (by first | omega | assumption))) | exact (arS_g rfl).trans ((qF_o rfl).trans (rd_bT (by assumption) (by first | omega | assumption))) | exact (arS_g rfl).trans (rd_C (by assumption) (by first | omega | assumption)) | exact (arS_g rfl).trans (rd_P (by assumption) (by first | omega | assumption)) | exact (arS_g rfl).trans (rd_bT (by assumption) (by first | omega | assumption)) | exact (arS_g rfl).trans (rd_bM (by assumption) (by first | omega | assumption)) | exact arS_o rfl | exact arS_g rfl | exact mp_isC (by first | assumption | exact MP_rcS (by assumption) | exact MP_ar rfl (by assumption) | exact MP_sc rfl (by assumption)) (by first | omega | assumption) | exact mp_par (by first | assumption | exact MP_rcS (by assumption) | exact MP_ar rfl (by assumption) | exact MP_sc rfl (by assumption)) (by first | omega | assumption) | exact mp_abv (by first | assumption | exact MP_rcS (by assumption) | exact MP_ar rfl (by assumption) | exact MP_sc rfl (by assumption)) (by first | omega | assumption) | exact mp_dep (by first | assumption | exact MP_rcS (by assumption) | exact MP_ar rfl (by assumption) | exact MP_sc rfl (by assumption)) (by first | omega | assumption) | exact mp_bT (by first | assumption | exact MP_rcS (by assumption) | exact MP_ar rfl (by assumption) | exact MP_sc rfl (by assumption)) (by first | omega | assumption) | exact mp_bM (by first | assumption | exact MP_rcS (by assumption) | exact MP_ar rfl (by assumption) | exact MP_sc rfl (by assumption)) (by first | omega | assumption) | exact mp_sK (by first | assumption | exact MP_rcS (by assumption) | exact MP_ar rfl (by assumption) | exact MP_sc rfl (by assumption)) (by first | omega | assumption) | exact mp_sB (by first | assumption | exact MP_rcS (by assumption) | exact MP_ar rfl (by assumption) | exact MP_sc rfl (by assumption)) (by first | omega | assumption) | exact mp_sT (by first | assumption | exact MP_rcS (by assumption) | exact MP_ar rfl (by assumption) | exact MP_sc rfl (by assumption)) (by first | omega | assumption) | exact mp_sM (by first | assumption | exact MP_rcS (by assumption) | exact MP_ar rfl (by assumption) | exact MP_sc rfl (by assumption)) (by first | omega | assumption) | exact mp_cS (by first | assumption | exact MP_rcS (by assumption) | exact MP_ar rfl (by assumption) | exact MP_sc rfl (by assumption)) (by first | omega | assumption) | exact va_g | exact va_n (by decide) | rfl) ?_
        refine V_i2l rfl ?_
        refine V_ldc2 rfl rfl ?_
        refine V_ldc2 rfl rfl ?_
        refine V_callSi rfl rfl (Or.inl rfl) m_MD_in_w m_MD_in_x rfl rfl (s_in _ _ _) (by decide) rfl (Nat.le_of_ble_eq_true rfl) ?_
        rw [in_D, hnD]
        refine V_if_eqT rfl (rfl) ?_
        exact key
      · refine V_aload_n rfl rfl ?_
        refine V_getI rfl rfl (by first | assumption | exact blkW_0 | exact bAt_0 (by assumption) | rfl) (by rfl) (by first | exact (psS_g rfl).trans pF_19 | exact (psS_g rfl).trans (by assumption) | exact (psS_g rfl).trans pk_us | exact (psS_g rfl).trans ((pk_un (by decide)).trans (by assumption)) | exact (psS_g rfl).trans ((pk_un (by decide)).trans pk_us) | exact (psS_g rfl).trans ((pk_un (by decide)).trans ((pk_un (by decide)).trans (by assumption))) | exact psS_g rfl | rfl) ?_
        refine V_aload_n rfl rfl ?_
        refine V_getI rfl rfl (by first | assumption | exact blkW_0 | exact bAt_0 (by assumption) | rfl) (by rfl) (by first | exact (psS_o rfl).trans (by assumption) | exact pk_us | exact (by assumption) | exact rcS_o rfl | rfl) ?_
        refine V_icmp_geT rfl (nI_le (show n ≤ e by omega) (by omega)) ?_
        exact key
end mparse2
