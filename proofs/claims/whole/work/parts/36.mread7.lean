def R2 (A : Nat → Nat → Int32) (a b : Nat → Int32) : Nat → Nat → Int32 := fun k => if k = 6 then a else if k = 7 then b else A k
theorem R2_0 {A : Nat → Nat → Int32} : R2 A (A 6) (A 7) = A := by
  funext k
  unfold R2
  by_cases e0 : k = 6
  · simp [e0]
  · by_cases e1 : k = 7
    · simp [e1]
    · simp [e0, e1]
theorem R2_6 {A q : Nat → Nat → Int32} {a b : Nat → Int32} {j : Nat} {x : Int32} : va_up (arS (R2 A a b) q) 6 (upd (arS (R2 A a b) q 6) j x) = arS (R2 A (upd a j x) b) q := by
  rw [arS_w rfl]
  congr 1
  funext k
  unfold R2 va_up
  by_cases e1 : k = 6
  · subst e1; simp
  · simp [e1]
theorem R2_g6 {A : Nat → Nat → Int32} {a b : Nat → Int32} {j : Nat} : R2 A a b 6 j = a j := rfl
theorem R2_7 {A q : Nat → Nat → Int32} {a b : Nat → Int32} {j : Nat} {x : Int32} : va_up (arS (R2 A a b) q) 7 (upd (arS (R2 A a b) q 7) j x) = arS (R2 A a (upd b j x)) q := by
  rw [arS_w rfl]
  congr 1
  funext k
  unfold R2 va_up
  by_cases e1 : k = 7
  · subst e1; simp
  · simp [e1]
theorem R2_g7 {A : Nat → Nat → Int32} {a b : Nat → Int32} {j : Nat} : R2 A a b 7 j = b j := rfl
def R4 (A : Nat → Nat → Int32) (a b c d : Nat → Int32) : Nat → Nat → Int32 := fun k => if k = 1 then a else if k = 2 then b else if k = 3 then c else if k = 4 then d else A k
theorem R4_0 {A : Nat → Nat → Int32} : R4 A (A 1) (A 2) (A 3) (A 4) = A := by
  funext k
  unfold R4
  by_cases e0 : k = 1
  · simp [e0]
  · by_cases e1 : k = 2
    · simp [e1]
    · by_cases e2 : k = 3
      · simp [e2]
      · by_cases e3 : k = 4
        · simp [e3]
        · simp [e0, e1, e2, e3]
theorem R4_1 {A q : Nat → Nat → Int32} {a b c d : Nat → Int32} {j : Nat} {x : Int32} : va_up (arS (R4 A a b c d) q) 1 (upd (arS (R4 A a b c d) q 1) j x) = arS (R4 A (upd a j x) b c d) q := by
  rw [arS_w rfl]
  congr 1
  funext k
  unfold R4 va_up
  by_cases e1 : k = 1
  · subst e1; simp
  · simp [e1]
theorem R4_g1 {A : Nat → Nat → Int32} {a b c d : Nat → Int32} {j : Nat} : R4 A a b c d 1 j = a j := rfl
theorem R4_2 {A q : Nat → Nat → Int32} {a b c d : Nat → Int32} {j : Nat} {x : Int32} : va_up (arS (R4 A a b c d) q) 2 (upd (arS (R4 A a b c d) q 2) j x) = arS (R4 A a (upd b j x) c d) q := by
  rw [arS_w rfl]
  congr 1
  funext k
  unfold R4 va_up
  by_cases e1 : k = 2
  · subst e1; simp
  · simp [e1]
theorem R4_g2 {A : Nat → Nat → Int32} {a b c d : Nat → Int32} {j : Nat} : R4 A a b c d 2 j = b j := rfl
theorem R4_3 {A q : Nat → Nat → Int32} {a b c d : Nat → Int32} {j : Nat} {x : Int32} : va_up (arS (R4 A a b c d) q) 3 (upd (arS (R4 A a b c d) q 3) j x) = arS (R4 A a b (upd c j x) d) q := by
  rw [arS_w rfl]
  congr 1
  funext k
  unfold R4 va_up
  by_cases e1 : k = 3
  · subst e1; simp
  · simp [e1]
theorem R4_g3 {A : Nat → Nat → Int32} {a b c d : Nat → Int32} {j : Nat} : R4 A a b c d 3 j = c j := rfl
theorem R4_4 {A q : Nat → Nat → Int32} {a b c d : Nat → Int32} {j : Nat} {x : Int32} : va_up (arS (R4 A a b c d) q) 4 (upd (arS (R4 A a b c d) q 4) j x) = arS (R4 A a b c (upd d j x)) q := by
  rw [arS_w rfl]
  congr 1
  funext k
  unfold R4 va_up
  by_cases e1 : k = 4
  · subst e1; simp
  · simp [e1]
theorem R4_g4 {A : Nat → Nat → Int32} {a b c d : Nat → Int32} {j : Nat} : R4 A a b c d 4 j = d j := rfl
def T2 (A q : Nat → Nat → Int32) (i : Nat) : Nat → Nat → Int32 := R2 A (fl i (q 27) (A 6)) (fl i (q 28) (A 7))
def T1 (p : Pg) (A q : Nat → Nat → Int32) (i : Nat) : Nat → Nat → Int32 := R4 A (fl i (q 23) (A 1)) (fl i (q 24) (A 2)) (fl i (abF p) (A 3)) (fl i (dpF p) (A 4))
section mread7
variable {g : mG} {h : mH} {sz u md : Nat} {p : Pg} {S f : Nat → Int32} {A q : Nat → Nat → Int32}
set_option maxRecDepth 20000 in
set_option maxHeartbeats 1000000 in
theorem e_tr2 {x1 x2 x3 : Value} (hr : RD p f q) (hw : WR p) (h5 : S 5 = nI (nB p)) (h8 : S 8 = nI (nS p)) : V g 1 m_MD_takeRead (Pn (blkW 7 h md (psS (upd S 13 (nI (cnS p (nS p)))) f) (va_up (arS (T3 p (T2 A q (nB p)) q (nS p)) q) 15 (fl 45 nw0 (arS (T3 p (T2 A q (nB p)) q (nS p)) q 15))))) sz u 194 [.ref md, x1, x2, x3] [] (blkW 7 h md (psS (upd S 13 0) f) (arS A q)) sz u := by
  have hB := hw.1.2.1
  refine V_iconst (v := 0) rfl (by decide) ?_
  refine V_is1 rfl (by first | rfl | assumption) ?_
  refine V_for2 (nB p) (fun i => [.ref md, .int (nI i), x2, x3]) (fun i => blkW 7 h md (psS (upd S 13 0) f) (arS (T2 A q i) q)) rfl (by unfold T2; rw [fl_0, fl_0, R2_0]) (fun i hi ih => ?_) ?_
  · have hd : T2 A q i = R2 A (fl i (q 27) (A 6)) (fl i (q 28) (A 7)) := rfl
    have hd2 : T2 A q (i + 1) = R2 A (fl (i + 1) (q 27) (A 6)) (fl (i + 1) (q 28) (A 7)) := rfl
    rw [hd2] at ih
    rw [hd]
    refine V_iload_n rfl rfl ?_
    refine V_aload_n rfl rfl ?_
    refine V_getI rfl rfl (by first | assumption | exact blkW_0 | exact bAt_0 (by assumption) | rfl) (by rfl) (by first | exact mp_nB (by first | assumption | exact MP_rcS (by assumption) | exact MP_ar rfl (by assumption) | exact MP_sc rfl (by assumption)) | exact (psS_o rfl).trans (by assumption) | exact (psS_o rfl).trans ((pk_un (by decide)).trans (by assumption)) | rfl) ?_
    refine V_icmp_geF rfl (nI_ge hi (by omega)) ?_
    refine V_aload_n rfl rfl ?_
    refine V_getfield rfl rfl (by first | assumption | exact blkW_0 | exact bAt_0 (by assumption) | rfl) (by rfl) ?_
    refine V_iload_n rfl rfl ?_
    refine V_aload_n rfl rfl ?_
    refine V_getfield rfl rfl (by first | assumption | exact blkW_0 | exact bAt_0 (by assumption) | rfl) (by rfl) ?_
    refine V_iload_n rfl rfl ?_
    refine V_iald rfl (by first | assumption | exact blkW_i rfl rfl | exact blkW_z rfl rfl | exact bAt_i (by assumption) rfl rfl | exact bAt_z (by assumption) rfl rfl | rfl) (by first | with_reducible rfl | exact nI_add 2 _ | exact nI_add 26 _ | exact ix45 _ _ | exact ixm45 _ | exact ix25 _ | exact fa_lit _ | assumption) (by first | omega | assumption | decide) (by first | decide | omega | assumption) (by first | exact (arS_g rfl).trans qF_g | exact (arS_g rfl).trans ((qF_o rfl).trans (rd_C (by assumption) (by first | omega | assumption))) | exact (arS_g rfl).trans ((qF_o rfl).trans (rd_P (by assumption) (by first | omega | assumption))) | exact (arS_g rfl).trans ((qF_o rfl).trans (rd_bT (by assumption) (by first | omega | assumption))) | exact (arS_g rfl).trans (rd_C (by assumption) (by first | omega | assumption)) | exact (arS_g rfl).trans (rd_P (by assumption) (by first | omega | assumption)) | exact (arS_g rfl).trans (rd_bT (by assumption) (by first | omega | assumption)) | exact (arS_g rfl).trans (rd_bM (by assumption) (by first | omega | assumption)) | exact arS_o rfl | exact arS_g rfl | exact mp_isC (by first | assumption | exact MP_rcS (by assumption) | exact MP_ar rfl (by assumption) | exact MP_sc rfl (by assumption)) (by first | omega | assumption) | exact mp_par (by first | assumption | exact MP_rcS (by assumption) | exact MP_ar rfl (by assumption) | exact MP_sc rfl (by assumption)) (by first | omega | assumption) | exact mp_abv (by first | assumption | exact MP_rcS (by assumption) | exact MP_ar rfl (by assumption) | exact MP_sc rfl (by assumption)) (by first | omega | assumption) | exact mp_dep (by first | assumption | exact MP_rcS (by assumption) | exact MP_ar rfl (by assumption) | exact MP_sc rfl (by assumption)) (by first | omega | assumption) | exact mp_bT (by first | assumption | exact MP_rcS (by assumption) | exact MP_ar rfl (by assumption) | exact MP_sc rfl (by assumption)) (by first | omega | assumption) | exact mp_bM (by first | assumption | exact MP_rcS (by assumption) | exact MP_ar rfl (by assumption) | exact MP_sc rfl (by assumption)) (by first | omega | assumption) | exact mp_sK (by first | assumption | exact MP_rcS (by assumption) | exact MP_ar rfl (by assumption) | exact MP_sc rfl (by assumption)) (by first | omega | assumption) | exact mp_sB (by first | assumption | exact MP_rcS (by assumption) | exact MP_ar rfl (by assumption) | exact MP_sc rfl (by assumption)) (by first | omega | assumption) | exact mp_sT (by first | assumption | exact MP_rcS (by assumption) | exact MP_ar rfl (by assumption) | exact MP_sc rfl (by assumption)) (by first | omega | assumption) | exact mp_sM (by first | assumption | exact MP_rcS (by assumption) | exact MP_ar rfl (by assumption) | exact MP_sc rfl (by assumption)) (by first | omega | assumption) | exact mp_cS (by first | assumption | exact MP_rcS (by assumption) | exact MP_ar rfl (by assumption) | exact MP_sc rfl (by assumption)) (by first | omega | assumption) | exact va_g | exact va_n (by decide) | rfl) ?_
    first | refine V_past rfl rfl rfl rfl (by first | with_reducible rfl | exact nI_add 2 _ | exact nI_add 26 _ | exact ix45 _ _ | exact ixm45 _ | exact ix25 _ | exact fa_lit _ | assumption) (by first | omega | assumption | decide) (by first | decide | omega | assumption) ?_ | refine V_bast rfl rfl rfl (by first | with_reducible rfl | exact nI_add 2 _ | exact nI_add 26 _ | exact ix45 _ _ | exact ixm45 _ | exact ix25 _ | exact fa_lit _ | assumption) (by first | omega | assumption | decide) (by first | decide | omega | assumption) ?_ | refine V_iastore rfl (by first | assumption | exact blkW_i rfl rfl | exact blkW_z rfl rfl | exact bAt_i (by assumption) rfl rfl | exact bAt_z (by assumption) rfl rfl | rfl) (by first | with_reducible rfl | exact nI_add 2 _ | exact nI_add 26 _ | exact ix45 _ _ | exact ixm45 _ | exact ix25 _ | exact fa_lit _ | assumption) (by first | omega | assumption | decide) (by first | decide | omega | assumption) ?_
    rw [R2_6, fl_u (rd_bT hr hi).symm]
    refine V_aload_n rfl rfl ?_
    refine V_getfield rfl rfl (by first | assumption | exact blkW_0 | exact bAt_0 (by assumption) | rfl) (by rfl) ?_
    refine V_iload_n rfl rfl ?_
    refine V_aload_n rfl rfl ?_
    refine V_getfield rfl rfl (by first | assumption | exact blkW_0 | exact bAt_0 (by assumption) | rfl) (by rfl) ?_
    refine V_iload_n rfl rfl ?_
    refine V_iald rfl (by first | assumption | exact blkW_i rfl rfl | exact blkW_z rfl rfl | exact bAt_i (by assumption) rfl rfl | exact bAt_z (by assumption) rfl rfl | rfl) (by first | with_reducible rfl | exact nI_add 2 _ | exact nI_add 26 _ | exact ix45 _ _ | exact ixm45 _ | exact ix25 _ | exact fa_lit _ | assumption) (by first | omega | assumption | decide) (by first | decide | omega | assumption) (by first | exact (arS_g rfl).trans qF_g | exact (arS_g rfl).trans ((qF_o rfl).trans (rd_C (by assumption) (by first | omega | assumption))) | exact (arS_g rfl).trans ((qF_o rfl).trans (rd_P (by assumption) (by first | omega | assumption))) | exact (arS_g rfl).trans ((qF_o rfl).trans (rd_bT (by assumption) (by first | omega | assumption))) | exact (arS_g rfl).trans (rd_C (by assumption) (by first | omega | assumption)) | exact (arS_g rfl).trans (rd_P (by assumption) (by first | omega | assumption)) | exact (arS_g rfl).trans (rd_bT (by assumption) (by first | omega | assumption)) | exact (arS_g rfl).trans (rd_bM (by assumption) (by first | omega | assumption)) | exact arS_o rfl | exact arS_g rfl | exact mp_isC (by first | assumption | exact MP_rcS (by assumption) | exact MP_ar rfl (by assumption) | exact MP_sc rfl (by assumption)) (by first | omega | assumption) | exact mp_par (by first | assumption | exact MP_rcS (by assumption) | exact MP_ar rfl (by assumption) | exact MP_sc rfl (by assumption)) (by first | omega | assumption) | exact mp_abv (by first | assumption | exact MP_rcS (by assumption) | exact MP_ar rfl (by assumption) | exact MP_sc rfl (by assumption)) (by first | omega | assumption) | exact mp_dep (by first | assumption | exact MP_rcS (by assumption) | exact MP_ar rfl (by assumption) | exact MP_sc rfl (by assumption)) (by first | omega | assumption) | exact mp_bT (by first | assumption | exact MP_rcS (by assumption) | exact MP_ar rfl (by assumption) | exact MP_sc rfl (by assumption)) (by first | omega | assumption) | exact mp_bM (by first | assumption | exact MP_rcS (by assumption) | exact MP_ar rfl (by assumption) | exact MP_sc rfl (by assumption)) (by first | omega | assumption) | exact mp_sK (by first | assumption | exact MP_rcS (by assumption) | exact MP_ar rfl (by assumption) | exact MP_sc rfl (by assumption)) (by first | omega | assumption) | exact mp_sB (by first | assumption | exact MP_rcS (by assumption) | exact MP_ar rfl (by assumption) | exact MP_sc rfl (by assumption)) (by first | omega | assumption) | exact mp_sT (by first | assumption | exact MP_rcS (by assumption) | exact MP_ar rfl (by assumption) | exact MP_sc rfl (by assumption)) (by first | omega | assumption) | exact mp_sM (by first | assumption | exact MP_rcS (by assumption) | exact MP_ar rfl (by assumption) | exact MP_sc rfl (by assumption)) (by first | omega | assumption) | exact mp_cS (by first | assumption | exact MP_rcS (by assumption) | exact MP_ar rfl (by assumption) | exact MP_sc rfl (by assumption)) (by first | omega | assumption) | exact va_g | exact va_n (by decide) | rfl) ?_
    first | refine V_past rfl rfl rfl rfl (by first | with_reducible rfl | exact nI_add 2 _ | exact nI_add 26 _ | exact ix45 _ _ | exact ixm45 _ | exact ix25 _ | exact fa_lit _ | assumption) (by first | omega | assumption | decide) (by first | decide | omega | assumption) ?_ | refine V_bast rfl rfl rfl (by first | with_reducible rfl | exact nI_add 2 _ | exact nI_add 26 _ | exact ix45 _ _ | exact ixm45 _ | exact ix25 _ | exact fa_lit _ | assumption) (by first | omega | assumption | decide) (by first | decide | omega | assumption) ?_ | refine V_iastore rfl (by first | assumption | exact blkW_i rfl rfl | exact blkW_z rfl rfl | exact bAt_i (by assumption) rfl rfl | exact bAt_z (by assumption) rfl rfl | rfl) (by first | with_reducible rfl | exact nI_add 2 _ | exact nI_add 26 _ | exact ix45 _ _ | exact ixm45 _ | exact ix25 _ | exact fa_lit _ | assumption) (by first | omega | assumption | decide) (by first | decide | omega | assumption) ?_
    rw [R2_7, fl_u (rd_bM hr hi).symm]
    refine V_inc1 rfl (by first | exact mInc _ | rfl) (by first | rfl | assumption) ?_
    refine V_goto rfl ?_
    exact ih
  · refine V_iload_n rfl rfl ?_
    refine V_aload_n rfl rfl ?_
    refine V_getI rfl rfl (by first | assumption | exact blkW_0 | exact bAt_0 (by assumption) | rfl) (by rfl) (by first | exact mp_nB (by first | assumption | exact MP_rcS (by assumption) | exact MP_ar rfl (by assumption) | exact MP_sc rfl (by assumption)) | exact (psS_o rfl).trans (by assumption) | exact (psS_o rfl).trans ((pk_un (by decide)).trans (by assumption)) | rfl) ?_
    refine V_icmp_geT rfl (nI_le (Nat.le_refl _) (by omega)) ?_
    exact e_tr3 hr hw h8
end mread7
