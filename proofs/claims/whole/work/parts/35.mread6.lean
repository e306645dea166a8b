def R5 (A : Nat → Nat → Int32) (a b c d e : Nat → Int32) : Nat → Nat → Int32 := fun k => if k = 9 then a else if k = 10 then b else if k = 11 then c else if k = 12 then d else if k = 14 then e else A k
theorem R5_0 {A : Nat → Nat → Int32} : R5 A (A 9) (A 10) (A 11) (A 12) (A 14) = A := by
  funext k
  unfold R5
  by_cases e1 : k = 9
  · simp [e1]
  · by_cases e2 : k = 10
    · simp [e2]
    · by_cases e3 : k = 11
      · simp [e3]
      · by_cases e4 : k = 12
        · simp [e4]
        · by_cases e5 : k = 14
          · simp [e5]
          · simp [e1, e2, e3, e4, e5]
theorem R5_9 {A q : Nat → Nat → Int32} {a b c d e : Nat → Int32} {j : Nat} {x : Int32} : va_up (arS (R5 A a b c d e) q) 9 (upd (arS (R5 A a b c d e) q 9) j x) = arS (R5 A (upd a j x) b c d e) q := by
  rw [arS_w rfl]
  congr 1
  funext k
  unfold R5 va_up
  by_cases e1 : k = 9
  · subst e1; simp
  · simp [e1]
theorem R5_10 {A q : Nat → Nat → Int32} {a b c d e : Nat → Int32} {j : Nat} {x : Int32} : va_up (arS (R5 A a b c d e) q) 10 (upd (arS (R5 A a b c d e) q 10) j x) = arS (R5 A a (upd b j x) c d e) q := by
  rw [arS_w rfl]
  congr 1
  funext k
  unfold R5 va_up
  by_cases e1 : k = 10
  · subst e1; simp
  · simp [e1]
theorem R5_11 {A q : Nat → Nat → Int32} {a b c d e : Nat → Int32} {j : Nat} {x : Int32} : va_up (arS (R5 A a b c d e) q) 11 (upd (arS (R5 A a b c d e) q 11) j x) = arS (R5 A a b (upd c j x) d e) q := by
  rw [arS_w rfl]
  congr 1
  funext k
  unfold R5 va_up
  by_cases e1 : k = 11
  · subst e1; simp
  · simp [e1]
theorem R5_12 {A q : Nat → Nat → Int32} {a b c d e : Nat → Int32} {j : Nat} {x : Int32} : va_up (arS (R5 A a b c d e) q) 12 (upd (arS (R5 A a b c d e) q 12) j x) = arS (R5 A a b c (upd d j x) e) q := by
  rw [arS_w rfl]
  congr 1
  funext k
  unfold R5 va_up
  by_cases e1 : k = 12
  · subst e1; simp
  · simp [e1]
theorem R5_14 {A q : Nat → Nat → Int32} {a b c d e : Nat → Int32} {j : Nat} {x : Int32} : va_up (arS (R5 A a b c d e) q) 14 (upd (arS (R5 A a b c d e) q 14) j x) = arS (R5 A a b c d (upd e j x)) q := by
  rw [arS_w rfl]
  congr 1
  funext k
  unfold R5 va_up
  by_cases e1 : k = 14
  · subst e1; simp
  · simp [e1]
theorem R5_g9 {A : Nat → Nat → Int32} {a b c d e : Nat → Int32} {j : Nat} : R5 A a b c d e 9 j = a j := rfl
def T3 (p : Pg) (A q : Nat → Nat → Int32) (i : Nat) : Nat → Nat → Int32 := R5 A (fl i (q 30) (A 9)) (fl i (q 31) (A 10)) (fl i (q 32) (A 11)) (fl i (q 33) (A 12)) (fl (cnS p i) (fun c => nI (csF p (nS p) c)) (A 14))
section mread6
variable {g : mG} {h : mH} {sz u md : Nat} {p : Pg} {S f : Nat → Int32} {A q : Nat → Nat → Int32}
set_option maxRecDepth 20000 in
set_option maxHeartbeats 1000000 in
theorem e_tr3 {x1 x2 x3 : Value} (hr : RD p f q) (hw : WR p) (h8 : S 8 = nI (nS p)) : V g 1 m_MD_takeRead (Pn (blkW 7 h md (psS (upd S 13 (nI (cnS p (nS p)))) f) (va_up (arS (T3 p A q (nS p)) q) 15 (fl 45 nw0 (arS (T3 p A q (nS p)) q 15))))) sz u 234 [.ref md, x1, x2, x3] [] (blkW 7 h md (psS (upd S 13 0) f) (arS A q)) sz u := by
  have hS := hw.1.2.2
  refine V_iconst (v := 0) rfl (by decide) ?_
  refine V_is1 rfl (by first | rfl | assumption) ?_
  refine V_for2 (nS p) (fun i => [.ref md, .int (nI i), x2, x3]) (fun i => blkW 7 h md (psS (upd S 13 (nI (cnS p i))) f) (arS (T3 p A q i) q)) rfl (by unfold T3; rw [show cnS p 0 = 0 from rfl, fl_0, fl_0, fl_0, fl_0, fl_0, R5_0]; rfl) (fun i hi ih => ?_) ?_
  · have hcl := cnS_le p i
    have hk := (hr.2.2.2 i hi).1
    unfold T3 at ih ⊢
    refine V_iload_n rfl rfl ?_
    refine V_aload_n rfl rfl ?_
    refine V_getI rfl rfl (by first | assumption | exact blkW_0 | exact bAt_0 (by assumption) | rfl) (by rfl) (by first | exact mp_nS (by first | assumption | exact MP_rcS (by assumption) | exact MP_ar rfl (by assumption) | exact MP_sc rfl (by assumption)) | exact (psS_o rfl).trans (by assumption) | exact (psS_o rfl).trans ((pk_un (by decide)).trans (by assumption)) | rfl) ?_
    refine V_icmp_geF rfl (nI_ge hi (by omega)) ?_
    refine V_aload_n rfl rfl ?_
    refine V_getfield rfl rfl (by first | assumption | exact blkW_0 | exact bAt_0 (by assumption) | rfl) (by rfl) ?_
    refine V_iload_n rfl rfl ?_
    refine V_aload_n rfl rfl ?_
    refine V_getfield rfl rfl (by first | assumption | exact blkW_0 | exact bAt_0 (by assumption) | rfl) (by rfl) ?_
    refine V_iload_n rfl rfl ?_
    refine V_iald rfl (by first | assumption | exact blkW_i rfl rfl | exact blkW_z rfl rfl | exact bAt_i (by assumption) rfl rfl | exact bAt_z (by assumption) rfl rfl | rfl) (by first | with_reducible rfl | exact nI_add 2 _ | exact nI_add 26 _ | exact ix45 _ _ | exact ixm45 _ | exact ix25 _ | exact fa_lit _ | assumption) (by first | omega | assumption | decide) (by first | decide | omega | assumption) (by first | exact (arS_g rfl).trans qF_g | exact (arS_g rfl).trans ((qF_o rfl).trans (rd_C (by assumption) (by first | omega | assumption))) | exact (arS_g rfl).trans ((qF_o rfl).trans (rd_P (by assumption) (by first | omega | assumption))) | exact (arS_g rfl).trans ((qF_o rfl).trans (rd_bT (by assumption) (by first | omega | assumption))) | exact (arS_g rfl).trans (rd_C (by assumption) (by first | omega | assumption)) | exact (arS_g rfl).trans (rd_P (by assumption) (by first | omega | assumption)) | exact (arS_g rfl).trans (rd_bT (by assumption) (by first | omega | assumption)) | exact (arS_g rfl).trans (rd_bM (by assumption) (by first | omega | assumption)) | exact arS_o rfl | exact arS_g rfl | exact mp_isC (by first | assumption | exact MP_rcS (by assumption) | exact MP_ar rfl (by assumption) | exact MP_sc rfl (by assumption)) (by first | omega | assumption) | exact mp_par (by first | assumption | exact MP_rcS (by assumption) | exact MP_ar rfl (by assumption) | exact MP_sc rfl (by assumption)) (by first | omega | assumption) | exact mp_abv (by first | assumption | exact MP_rcS (by assumption) | exact MP_ar rfl (by assumption) | exact MP_sc rfl (by assumption)) (by first | omega | assumption) | exact mp_dep (by first | assumption | exact MP_rcS (by assumption) | exact MP_ar rfl (by assumption) | exact MP_sc rfl (by assumption)) (by first | omega | assumption) | exact mp_bT (by first | assumption | exact MP_rcS (by assumption) | exact MP_ar rfl (by assumption) | exact MP_sc rfl (by assumption)) (by first | omega | assumption) | exact mp_bM (by first | assumption | exact MP_rcS (by assumption) | exact MP_ar rfl (by assumption) | exact MP_sc rfl (by assumption)) (by first | omega | assumption) | exact mp_sK (by first | assumption | exact MP_rcS (by assumption) | exact MP_ar rfl (by assumption) | exact MP_sc rfl (by assumption)) (by first | omega | assumption) | exact mp_sB (by first | assumption | exact MP_rcS (by assumption) | exact MP_ar rfl (by assumption) | exact MP_sc rfl (by assumption)) (by first | omega | assumption) | exact mp_sT (by first | assumption | exact MP_rcS (by assumption) | exact MP_ar rfl (by assumption) | exact MP_sc rfl (by assumption)) (by first | omega | assumption) | exact mp_sM (by first | assumption | exact MP_rcS (by assumption) | exact MP_ar rfl (by assumption) | exact MP_sc rfl (by assumption)) (by first | omega | assumption) | exact mp_cS (by first | assumption | exact MP_rcS (by assumption) | exact MP_ar rfl (by assumption) | exact MP_sc rfl (by assumption)) (by first | omega | assumption) | exact va_g | exact va_n (by decide) | rfl) ?_
    first | refine V_past rfl rfl rfl rfl (by first | with_reducible rfl | exact nI_add 2 _ | exact nI_add 26 _ | exact ix45 _ _ | exact ixm45 _ | exact ix25 _ | exact fa_lit _ | assumption) (by first | omega | assumption | decide) (by first | decide | omega | assumption) ?_ | refine V_bast rfl rfl rfl (by first | with_reducible rfl | exact nI_add 2 _ | exact nI_add 26 _ | exact ix45 _ _ | exact ixm45 _ | exact ix25 _ | exact fa_lit _ | assumption) (by first | omega | assumption | decide) (by first | decide | omega | assumption) ?_ | refine V_iastore rfl (by first | assumption | exact blkW_i rfl rfl | exact blkW_z rfl rfl | exact bAt_i (by assumption) rfl rfl | exact bAt_z (by assumption) rfl rfl | rfl) (by first | with_reducible rfl | exact nI_add 2 _ | exact nI_add 26 _ | exact ix45 _ _ | exact ixm45 _ | exact ix25 _ | exact fa_lit _ | assumption) (by first | omega | assumption | decide) (by first | decide | omega | assumption) ?_
    rw [R5_9, fl_u rfl]
    refine V_aload_n rfl rfl ?_
    refine V_getfield rfl rfl (by first | assumption | exact blkW_0 | exact bAt_0 (by assumption) | rfl) (by rfl) ?_
    refine V_iload_n rfl rfl ?_
    refine V_aload_n rfl rfl ?_
    refine V_getfield rfl rfl (by first | assumption | exact blkW_0 | exact bAt_0 (by assumption) | rfl) (by rfl) ?_
    refine V_iload_n rfl rfl ?_
    refine V_iald rfl (by first | assumption | exact blkW_i rfl rfl | exact blkW_z rfl rfl | exact bAt_i (by assumption) rfl rfl | exact bAt_z (by assumption) rfl rfl | rfl) (by first | with_reducible rfl | exact nI_add 2 _ | exact nI_add 26 _ | exact ix45 _ _ | exact ixm45 _ | exact ix25 _ | exact fa_lit _ | assumption) (by first | omega | assumption | decide) (by first | decide | omega | assumption) (by first | exact (arS_g rfl).trans qF_g | exact (arS_g rfl).trans ((qF_o rfl).trans (rd_C (by assumption) (by first | omega | assumption))) | exact (arS_g rfl).trans ((qF_o rfl).trans (rd_P (by assumption) (by first | omega | assumption))) | exact (arS_g rfl).trans ((qF_o rfl).trans (rd_bT (by assumption) (by first | omega | assumption))) | exact (arS_g rfl).trans (rd_C (by assumption) (by first | omega | assumption)) | exact (arS_g rfl).trans (rd_P (by assumption) (by first | omega | assumption)) | exact (arS_g rfl).trans (rd_bT (by assumption) (by first | omega | assumption)) | exact (arS_g rfl).trans (rd_bM (by assumption) (by first | omega | assumption)) | exact arS_o rfl | exact arS_g rfl | exact mp_isC (by first | assumption | exact MP_rcS (by assumption) | exact MP_ar rfl (by assumption) | exact MP_sc rfl (by assumption)) (by first | omega | assumption) | exact mp_par (by first | assumption | exact MP_rcS (by assumption) | exact MP_ar rfl (by assumption) | exact MP_sc rfl (by assumption)) (by first | omega | assumption) | exact mp_abv (by first | assumption | exact MP_rcS (by assumption) | exact MP_ar rfl (by assumption) | exact MP_sc rfl (by assumption)) (by first | omega | assumption) | exact mp_dep (by first | assumption | exact MP_rcS (by assumption) | exact MP_ar rfl (by assumption) | exact MP_sc rfl (by assumption)) (by first | omega | assumption) | exact mp_bT (by first | assumption | exact MP_rcS (by assumption) | exact MP_ar rfl (by assumption) | exact MP_sc rfl (by assumption)) (by first | omega | assumption) | exact mp_bM (by first | assumption | exact MP_rcS (by assumption) | exact MP_ar rfl (by assumption) | exact MP_sc rfl (by assumption)) (by first | omega | assumption) | exact mp_sK (by first | assumption | exact MP_rcS (by assumption) | exact MP_ar rfl (by assumption) | exact MP_sc rfl (by assumption)) (by first | omega | assumption) | exact mp_sB (by first | assumption | exact MP_rcS (by assumption) | exact MP_ar rfl (by assumption) | exact MP_sc rfl (by assumption)) (by first | omega | assumption) | exact mp_sT (by first | assumption | exact MP_rcS (by assumption) | exact MP_ar rfl (by assumption) | exact MP_sc rfl (by assumption)) (by first | omega | assumption) | exact mp_sM (by first | assumption | exact MP_rcS (by assumption) | exact MP_ar rfl (by assumption) | exact MP_sc rfl (by assumption)) (by first | omega | assumption) | exact mp_cS (by first | assumption | exact MP_rcS (by assumption) | exact MP_ar rfl (by assumption) | exact MP_sc rfl (by assumption)) (by first | omega | assumption) | exact va_g | exact va_n (by decide) | rfl) ?_
    first | refine V_past rfl rfl rfl rfl (by first | with_reducible rfl | exact nI_add 2 _ | exact nI_add 26 _ | exact ix45 _ _ | exact ixm45 _ | exact ix25 _ | exact fa_lit _ | assumption) (by first | omega | assumption | decide) (by first | decide | omega | assumption) ?_ | refine V_bast rfl rfl rfl (by first | with_reducible rfl | exact nI_add 2 _ | exact nI_add 26 _ | exact ix45 _ _ | exact ixm45 _ | exact ix25 _ | exact fa_lit _ | assumption) (by first | omega | assumption | decide) (by first | decide | omega | assumption) ?_ | refine V_iastore rfl (by first | assumption | exact blkW_i rfl rfl | exact blkW_z rfl rfl | exact bAt_i (by assumption) rfl rfl | exact bAt_z (by assumption) rfl rfl | rfl) (by first | with_reducible rfl | exact nI_add 2 _ | exact nI_add 26 _ | exact ix45 _ _ | exact ixm45 _ | exact ix25 _ | exact fa_lit _ | assumption) (by first | omega | assumption | decide) (by first | decide | omega | assumption) ?_
    rw [R5_10, fl_u rfl]
    refine V_aload_n rfl rfl ?_
    refine V_getfield rfl rfl (by first | assumption | exact blkW_0 | exact bAt_0 (by assumption) | rfl) (by rfl) ?_
    refine V_iload_n rfl rfl ?_
    refine V_aload_n rfl rfl ?_
    refine V_getfield rfl rfl (by first | assumption | exact blkW_0 | exact bAt_0 (by assumption) | rfl) (by rfl) ?_
    refine V_iload_n rfl rfl ?_
    refine V_iald rfl (by first | assumption | exact blkW_i rfl rfl | exact blkW_z rfl rfl | exact bAt_i (by assumption) rfl rfl | exact bAt_z (by assumption) rfl rfl | rfl) (by first | with_reducible rfl | exact nI_add 2 _ | exact nI_add 26 _ | exact ix45 _ _ | exact ixm45 _ | exact ix25 _ | exact fa_lit _ | assumption) (by first | omega | assumption | decide) (by first | decide | omega | assumption) (by first | exact (arS_g rfl).trans qF_g | exact (arS_g rfl).trans ((qF_o rfl).trans (rd_C (by assumption) (by first | omega | assumption))) | exact (arS_g rfl).trans ((qF_o rfl).trans (rd_P (by assumption) (by first | omega | assumption))) | exact (arS_g rfl).trans ((qF_o rfl).trans (rd_bT (by assumption) (by first | omega | assumption))) | exact (arS_g rfl).trans (rd_C (by assumption) (by first | omega | assumption)) | exact (arS_g rfl).trans (rd_P (by assumption) (by first | omega | assumption)) | exact (arS_g rfl).trans (rd_bT (by assumption) (by first | omega | assumption)) | exact (arS_g rfl).trans (rd_bM (by assumption) (by first | omega | assumption)) | exact arS_o rfl | exact arS_g rfl | exact mp_isC (by first | assumption | exact MP_rcS (by assumption) | exact MP_ar rfl (by assumption) | exact MP_sc rfl (by assumption)) (by first | omega | assumption) | exact mp_par (by first | assumption | exact MP_rcS (by assumption) | exact MP_ar rfl (by assumption) | exact MP_sc rfl (by assumption)) (by first | omega | assumption) | exact mp_abv (by first | assumption | exact MP_rcS (by assumption) | exact MP_ar rfl (by assumption) | exact MP_sc rfl (by assumption)) (by first | omega | assumption) | exact mp_dep (by first | assumption | exact MP_rcS (by assumption) | exact MP_ar rfl (by assumption) | exact MP_sc rfl (by assumption)) (by first | omega | assumption) | exact mp_bT (by first | assumption | exact MP_rcS (by assumption) | exact MP_ar rfl (by assumption) | exact MP_sc rfl (by assumption)) (by first | omega | assumption) | exact mp_bM (by first | assumption | exact MP_rcS (by assumption) | exact MP_ar rfl (by assumption) | exact MP_sc rfl (by assumption)) (by first | omega | assumption) | exact mp_sK (by first | assumption | exact MP_rcS (by assumption) | exact MP_ar rfl (by assumption) | exact MP_sc rfl (by assumption)) (by first | omega | assumption) | exact mp_sB (by first | assumption | exact MP_rcS (by assumption) | exact MP_ar rfl (by assumption) | exact MP_sc rfl (by assumption)) (by first | omega | assumption) | exact mp_sT (by first | assumption | exact MP_rcS (by assumption) | exact MP_ar rfl (by assumption) | exact MP_sc rfl (by assumption)) (by first | omega | assumption) | exact mp_sM (by first | assumption | exact MP_rcS (by assumption) | exact MP_ar rfl (by assumption) | exact MP_sc rfl (by assumption)) (by first | omega | assumption) | exact mp_cS (by first | assumption | exact MP_rcS (by assumption) | exact MP_ar rfl (by assumption) | exact MP_sc rfl (by assumption)) (by first | omega | assumption) | exact va_g | exact va_n (by decide) | rfl) ?_
    first | refine V_past rfl rfl rfl rfl (by first | with_reducible rfl | exact nI_add 2 _ | exact nI_add 26 _ | exact ix45 _ _ | exact ixm45 _ | exact ix25 _ | exact fa_lit _ | assumption) (by first | omega | assumption | decide) (by first | decide | omega | assumption) ?_ | refine V_bast rfl rfl rfl (by first | with_reducible rfl | exact nI_add 2 _ | exact nI_add 26 _ | exact ix45 _ _ | exact ixm45 _ | exact ix25 _ | exact fa_lit _ | assumption) (by first | omega | assumption | decide) (by first | decide | omega | assumption) ?_ | refine V_iastore rfl (by first | assumption | exact blkW_i rfl rfl | exact blkW_z rfl rfl | exact bAt_i (by assumption) rfl rfl | exact bAt_z (by assumption) rfl rfl | rfl) (by first | with_reducible rfl | exact nI_add 2 _ | exact nI_add 26 _ | exact ix45 _ _ | exact ixm45 _ | exact ix25 _ | exact fa_lit _ | assumption) (by first | omega | assumption | decide) (by first | decide | omega | assumption) ?_
    rw [R5_11, fl_u rfl]
    refine V_aload_n rfl rfl ?_
    refine V_getfield rfl rfl (by first | assumption | exact blkW_0 | exact bAt_0 (by assumption) | rfl) (by rfl) ?_
    refine V_iload_n rfl rfl ?_
    refine V_aload_n rfl rfl ?_
    refine V_getfield rfl rfl (by first | assumption | exact blkW_0 | exact bAt_0 (by assumption) | rfl) (by rfl) ?_
    refine V_iload_n rfl rfl ?_
    refine V_iald rfl (by first | assumption | exact blkW_i rfl rfl | exact blkW_z rfl rfl | exact bAt_i (by assumption) rfl rfl | exact bAt_z (by assumption) rfl rfl | rfl) (by first | with_reducible rfl | exact nI_add 2 _ | exact nI_add 26 _ | exact ix45 _ _ | exact ixm45 _ | exact ix25 _ | exact fa_lit _ | assumption) (by first | omega | assumption | decide) (by first | decide | omega | assumption) (by first | exact (arS_g rfl).trans qF_g | exact (arS_g rfl).trans ((qF_o rfl).trans (rd_C (by assumption) (by first | omega | assumption))) | exact (arS_g rfl).trans ((qF_o rfl).trans (rd_P (by assumption) (by first | omega | assumption))) | exact (arS_g rfl).trans ((qF_o rfl).trans (rd_bT (by assumption) (by first | omega | assumption))) | exact (arS_g rfl).trans (rd_C (by assumption) (by first | omega | assumption)) | exact (arS_g rfl).trans (rd_P (by assumption) (by first | omega | assumption)) | exact (arS_g rfl).trans (rd_bT (by assumption) (by first | omega | assumption)) | exact (arS_g rfl).trans (rd_bM (by assumption) (by first | omega | assumption)) | exact arS_o rfl | exact arS_g rfl | exact mp_isC (by first | assumption | exact MP_rcS (by assumption) | exact MP_ar rfl (by assumption) | exact MP_sc rfl (by assumption)) (by first | omega | assumption) | exact mp_par (by first | assumption | exact MP_rcS (by assumption) | exact MP_ar rfl (by assumption) | exact MP_sc rfl (by assumption)) (by first | omega | assumption) | exact mp_abv (by first | assumption | exact MP_rcS (by assumption) | exact MP_ar rfl (by assumption) | exact MP_sc rfl (by assumption)) (by first | omega | assumption) | exact mp_dep (by first | assumption | exact MP_rcS (by assumption) | exact MP_ar rfl (by assumption) | exact MP_sc rfl (by assumption)) (by first | omega | assumption) | exact mp_bT (by first | assumption | exact MP_rcS (by assumption) | exact MP_ar rfl (by assumption) | exact MP_sc rfl (by assumption)) (by first | omega | assumption) | exact mp_bM (by first | assumption | exact MP_rcS (by assumption) | exact MP_ar rfl (by assumption) | exact MP_sc rfl (by assumption)) (by first | omega | assumption) | exact mp_sK (by first | assumption | exact MP_rcS (by assumption) | exact MP_ar rfl (by assumption) | exact MP_sc rfl (by assumption)) (by first | omega | assumption) | exact mp_sB (by first | assumption | exact MP_rcS (by assumption) | exact MP_ar rfl (by assumption) | exact MP_sc rfl (by assumption)) (by first | omega | assumption) | exact mp_sT (by first | assumption | exact MP_rcS (by assumption) | exact MP_ar rfl (by assumption) | exact MP_sc rfl (by assumption)) (by first | omega | assumption) | exact mp_sM (by first | assumption | exact MP_rcS (by assumption) | exact MP_ar rfl (by assumption) | exact MP_sc rfl (by assumption)) (by first | omega | assumption) | exact mp_cS (by first | assumption | exact MP_rcS (by assumption) | exact MP_ar rfl (by assumption) | exact MP_sc rfl (by assumption)) (by first | omega | assumption) | exact va_g | exact va_n (by decide) | rfl) ?_
    first | refine V_past rfl rfl rfl rfl (by first | with_reducible rfl | exact nI_add 2 _ | exact nI_add 26 _ | exact ix45 _ _ | exact ixm45 _ | exact ix25 _ | exact fa_lit _ | assumption) (by first | omega | assumption | decide) (by first | decide | omega | assumption) ?_ | refine V_bast rfl rfl rfl (by first | with_reducible rfl | exact nI_add 2 _ | exact nI_add 26 _ | exact ix45 _ _ | exact ixm45 _ | exact ix25 _ | exact fa_lit _ | assumption) (by first | omega | assumption | decide) (by first | decide | omega | assumption) ?_ | refine V_iastore rfl (by first | assumption | exact blkW_i rfl rfl | exact blkW_z rfl rfl | exact bAt_i (by assumption) rfl rfl | exact bAt_z (by assumption) rfl rfl | rfl) (by first | with_reducible rfl | exact nI_add 2 _ | exact nI_add 26 _ | exact ix45 _ _ | exact ixm45 _ | exact ix25 _ | exact fa_lit _ | assumption) (by first | omega | assumption | decide) (by first | decide | omega | assumption) ?_
    rw [R5_12, fl_u rfl]
    refine V_aload_n rfl rfl ?_
    refine V_getfield rfl rfl (by first | assumption | exact blkW_0 | exact bAt_0 (by assumption) | rfl) (by rfl) ?_
    refine V_iload_n rfl rfl ?_
    refine V_iald rfl (by first | assumption | exact blkW_i rfl rfl | exact blkW_z rfl rfl | exact bAt_i (by assumption) rfl rfl | exact bAt_z (by assumption) rfl rfl | rfl) (by first | with_reducible rfl | exact nI_add 2 _ | exact nI_add 26 _ | exact ix45 _ _ | exact ixm45 _ | exact ix25 _ | exact fa_lit _ | assumption) (by first | omega | assumption | decide) (by first | decide | omega | assumption) (by first | exact (arS_g rfl).trans qF_g | exact (arS_g rfl).trans ((qF_o rfl).trans (rd_C (by assumption) (by first | omega | assumption))) | exact (arS_g rfl).trans ((qF_o rfl).trans (rd_P (by assumption) (by first | omega | assumption))) | exact (arS_g rfl).trans ((qF_o rfl).trans (rd_bT (by assumption) (by first | omega | assumption))) | exact (arS_g rfl).trans (rd_C (by assumption) (by first | omega | assumption)) | exact (arS_g rfl).trans (rd_P (by assumption) (by first | omega | assumption)) | exact (arS_g rfl).trans (rd_bT (by assumption) (by first | omega | assumption)) | exact (arS_g rfl).trans (rd_bM (by assumption) (by first | omega | assumption)) | exact arS_o rfl | exact arS_g rfl | exact mp_isC (by first | assumption | exact MP_rcS (by assumption) | exact MP_ar rfl (by assumption) | exact MP_sc rfl (by assumption)) (by first | omega | assumption) | exact mp_par (by first | assumption | exact MP_rcS (by assumption) | exact MP_ar rfl (by assumption) | exact MP_sc rfl (by assumption)) (by first | omega | assumption) | exact mp_abv (by first | assumption | exact MP_rcS (by assumption) | exact MP_ar rfl (by assumption) | exact MP_sc rfl (by assumption)) (by first | omega | assumption) | exact mp_dep (by first | assumption | exact MP_rcS (by assumption) | exact MP_ar rfl (by assumption) | exact MP_sc rfl (by assumption)) (by first | omega | assumption) | exact mp_bT (by first | assumption | exact MP_rcS (by assumption) | exact MP_ar rfl (by assumption) | exact MP_sc rfl (by assumption)) (by first | omega | assumption) | exact mp_bM (by first | assumption | exact MP_rcS (by assumption) | exact MP_ar rfl (by assumption) | exact MP_sc rfl (by assumption)) (by first | omega | assumption) | exact mp_sK (by first | assumption | exact MP_rcS (by assumption) | exact MP_ar rfl (by assumption) | exact MP_sc rfl (by assumption)) (by first | omega | assumption) | exact mp_sB (by first | assumption | exact MP_rcS (by assumption) | exact MP_ar rfl (by assumption) | exact MP_sc rfl (by assumption)) (by first | omega | assumption) | exact mp_sT (by first | assumption | exact MP_rcS (by assumption) | exact MP_ar rfl (by assumption) | exact MP_sc rfl (by assumption)) (by first | omega | assumption) | exact mp_sM (by first | assumption | exact MP_rcS (by assumption) | exact MP_ar rfl (by assumption) | exact MP_sc rfl (by assumption)) (by first | omega | assumption) | exact mp_cS (by first | assumption | exact MP_rcS (by assumption) | exact MP_ar rfl (by assumption) | exact MP_sc rfl (by assumption)) (by first | omega | assumption) | exact va_g | exact va_n (by decide) | rfl) ?_
    rw [R5_g9, fl_g (show i < i + 1 by omega), hk]
    refine V_iconst (v := 1) rfl (by decide) ?_
    have hce : cnS p (i + 1) = if sK p i = 1 then cnS p i + 1 else cnS p i := rfl
    by_cases e : sK p i = 1
    · rw [if_pos e] at hce
      refine V_icmp_neF rfl (congrArg nI e) ?_
      refine V_aload_n rfl rfl ?_
      refine V_getfield rfl rfl (by first | assumption | exact blkW_0 | exact bAt_0 (by assumption) | rfl) (by rfl) ?_
      refine V_aload_n rfl rfl ?_
      refine V_getI rfl rfl (by first | assumption | exact blkW_0 | exact bAt_0 (by assumption) | rfl) (by rfl) (by first | exact mp_nC (by first | assumption | exact MP_rcS (by assumption) | exact MP_ar rfl (by assumption) | exact MP_sc rfl (by assumption)) | exact (psS_o rfl).trans pk_us | rfl) ?_
      refine V_iload_n rfl rfl ?_
      first | refine V_past rfl rfl rfl rfl (by first | with_reducible rfl | exact nI_add 2 _ | exact nI_add 26 _ | exact ix45 _ _ | exact ixm45 _ | exact ix25 _ | exact fa_lit _ | assumption) (by first | omega | assumption | decide) (by first | decide | omega | assumption) ?_ | refine V_bast rfl rfl rfl (by first | with_reducible rfl | exact nI_add 2 _ | exact nI_add 26 _ | exact ix45 _ _ | exact ixm45 _ | exact ix25 _ | exact fa_lit _ | assumption) (by first | omega | assumption | decide) (by first | decide | omega | assumption) ?_ | refine V_iastore rfl (by first | assumption | exact blkW_i rfl rfl | exact blkW_z rfl rfl | exact bAt_i (by assumption) rfl rfl | exact bAt_z (by assumption) rfl rfl | rfl) (by first | with_reducible rfl | exact nI_add 2 _ | exact nI_add 26 _ | exact ix45 _ _ | exact ixm45 _ | exact ix25 _ | exact fa_lit _ | assumption) (by first | omega | assumption | decide) (by first | decide | omega | assumption) ?_
      rw [R5_14, fl_u (n := cnS p i) (v := fun c => nI (csF p (nS p) c)) (show nI i = nI (csF p (nS p) (cnS p i)) by rw [csF_at (nS p) hi e])]
      refine V_aload_n rfl rfl ?_
      refine V_dup rfl rfl ?_
      refine V_getI rfl rfl (by first | assumption | exact blkW_0 | exact bAt_0 (by assumption) | rfl) (by rfl) (by first | exact mp_nC (by first | assumption | exact MP_rcS (by assumption) | exact MP_ar rfl (by assumption) | exact MP_sc rfl (by assumption)) | exact (psS_o rfl).trans pk_us | rfl) ?_
      refine V_iconst (v := 1) rfl (by decide) ?_
      refine V_iadd rfl ?_
      first | refine V_pput rfl rfl rfl rfl rfl ?_ | refine V_bput rfl rfl rfl rfl rfl rfl ?_ | refine V_bputZ rfl rfl rfl rfl rfl rfl (by decide) ?_ | refine V_put rfl rfl (by first | assumption | rfl) (by decide) (fun _ hty => by cases hty; exact ⟨rfl, rfl⟩) (by first | exact Or.inl rfl | exact Or.inr ⟨rfl, rfl⟩) rfl ?_
      rw [psS_v13, fa_upd_twice, show nI (cnS p i) + 1 = nI (cnS p i + 1) from nI_1 _]
      refine V_inc1 rfl (by first | exact mInc _ | rfl) (by first | rfl | assumption) ?_
      refine V_goto rfl ?_
      rw [hce] at ih
      exact ih
    · rw [if_neg e] at hce
      have hs3 := (hw.2.2.2 i hi).1
      refine V_icmp_neT rfl (fun z => e ((nI_eq (b := 1) (by omega) (by decide)).mp z)) ?_
      refine V_inc1 rfl (by first | exact mInc _ | rfl) (by first | rfl | assumption) ?_
      refine V_goto rfl ?_
      rw [hce] at ih
      exact ih
  · refine V_iload_n rfl rfl ?_
    refine V_aload_n rfl rfl ?_
    refine V_getI rfl rfl (by first | assumption | exact blkW_0 | exact bAt_0 (by assumption) | rfl) (by rfl) (by first | exact mp_nS (by first | assumption | exact MP_rcS (by assumption) | exact MP_ar rfl (by assumption) | exact MP_sc rfl (by assumption)) | exact (psS_o rfl).trans (by assumption) | exact (psS_o rfl).trans ((pk_un (by decide)).trans (by assumption)) | rfl) ?_
    refine V_icmp_geT rfl (nI_le (Nat.le_refl _) (by omega)) ?_
    exact e_tr4
end mread6
