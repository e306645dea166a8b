/-! ===== the reference: what it writes ===== -/
theorem ix45 (a b : Nat) : (45 : Int32) * nI a + nI b = nI (45 * a + b) := by rw [show (45 : Int32) = nI 45 from rfl, pk_mul, nI_add]
theorem ixm45 (i : Nat) : nI (45 + i) - 45 = nI i := by
  have := pk_sub (a := 45 + i) (b := 45) (by omega)
  rw [show 45 + i - 45 = i by omega] at this
  exact this
theorem ix25 (k : Nat) : (26 : Int32) + nI (k + 1) - 1 = nI (26 + k) := by
  have := pk_sub (a := 26 + (k + 1)) (b := 1) (by omega)
  rw [show 26 + (k + 1) - 1 = 26 + k by omega, ← nI_add] at this
  exact this
/-- an entry written into the journal, counted -/
def shJ (N : Nat → Int32) (i : Nat) : Nat → Int32 := fun x => if 41 - i < x ∧ x ≤ 41 then N (x - 1) else N x
def wrt (N : Nat → Int32) (c : Nat) (b is : Int32) : Nat → Int32 :=
  let N2 := upd (shJ N 15) 26 (100 * nI c + 2 * b + is)
  let N3 := upd N2 42 (N2 42 + if N2 42 < 16 then 1 else 0)
  let k := if is = 1 then 43 else 44
  upd N3 k (N3 k + if N3 k < 9999 then 1 else 0)
def ldF (p : Pg) (N : Nat → Int32) (t : Nat) : Nat → Nat → Int32
  | 0 => upd N 0 (N 0 ||| abv p t)
  | c + 1 => if wG (may p c (ldF p N t c 0)) (ldF p N t c (2 + c)) then upd (wrt (ldF p N t c) c (ldF p N t c (2 + c)) 0) (2 + c) (-1) else ldF p N t c
def bndF (p : Pg) (N : Nat → Int32) (c : Nat) : Nat → Int32 := wrt (upd N (2 + c) (nI (low (may p c (N 0))))) c (nI (low (may p c (N 0)))) 1
def canB (p : Pg) (N : Nat → Int32) (c : Nat) : Bool := decide (N (2 + c) < 0) && oneB (may p c (N 0))
def rmU (un : Nat) : Nat := if un = 8 then 7 else un
def rmP (N Pa : Nat → Int32) (un : Nat) : Nat → Int32 := fb_put (if un = 8 then fa_fill (fun x => Pa (x + 45)) Pa 315 else Pa) N (45 * rmU un) 45
theorem shJ_0 (N : Nat → Int32) : shJ N 0 = N := by
  funext x
  unfold shJ
  rw [if_neg (by omega)]
theorem shJ_s (N : Nat → Int32) {i : Nat} (hi : i < 15) : upd (shJ N i) (41 - i) (shJ N i (40 - i)) = shJ N (i + 1) := by
  funext x
  by_cases e : x = 41 - i
  · subst e
    rw [pk_us]
    unfold shJ
    rw [if_neg (by omega), if_pos (by omega)]
    congr 1
    omega
  · rw [pk_un e]
    unfold shJ
    by_cases h1 : 41 - i < x ∧ x ≤ 41
    · rw [if_pos h1, if_pos (by omega)]
    · rw [if_neg h1, if_neg (by omega)]
section mwrite
variable {g : mG} {h : mH} {sz u md : Nat} {p : Pg} {sc : Nat → Int32} {ar : Nat → Nat → Int32}
set_option maxRecDepth 20000 in
set_option maxHeartbeats 1000000 in
theorem w_write (c : Nat) (b is : Int32) (hc : c < 2 ^ 31) (his : is = 0 ∨ is = 1) : Mt g 0 m_MD_write [.ref md, .int (nI c), .int b, .int is] (blkW 7 h md sc ar) sz u (Pn (blkW 7 h md sc (va_up ar 15 (wrt (ar 15) c b is)))) sz u := by
  refine Mt.of m_MD_write_w m_MD_write_x m_MD_write_c rfl rfl (ls := [.ref md, .int (nI c), .int b, .int is, .retAddr 0]) rfl ?_
  refine V_bipush (v := 15) rfl (by decide) ?_
  refine V_is4 rfl (by first | rfl | assumption) ?_
  refine V_for2 15 (fun i => [.ref md, .int (nI c), .int b, .int is, .int (nI (15 - i))]) (fun i => blkW 7 h md sc (va_up ar 15 (shJ (ar 15) i))) rfl (by rw [shJ_0, va_self]) (fun i hi ih => ?_) ?_
  · obtain ⟨k, hk⟩ : ∃ k, 15 - i = k + 1 := ⟨14 - i, by omega⟩
    rw [show 15 - (i + 1) = k by omega] at ih
    rw [hk]
    refine V_iload rfl rfl ?_
    refine V_if_leF rfl (nI_nle (by omega) (by omega)) ?_
    refine V_aload_n rfl rfl ?_
    refine V_getfield rfl rfl (by first | assumption | exact blkW_0 | exact bAt_0 (by assumption) | rfl) (by rfl) ?_
    refine V_bipush (v := 26) rfl (by decide) ?_
    refine V_iload rfl rfl ?_
    refine V_iadd rfl ?_
    refine V_aload_n rfl rfl ?_
    refine V_getfield rfl rfl (by first | assumption | exact blkW_0 | exact bAt_0 (by assumption) | rfl) (by rfl) ?_
    refine V_bipush (v := 26) rfl (by decide) ?_
    refine V_iload rfl rfl ?_
    refine V_iadd rfl ?_
    refine V_iconst (v := 1) rfl (by decide) ?_
    refine V_isub rfl ?_
    refine V_iald rfl (by first | assumption | exact blkW_i rfl rfl | exact blkW_z rfl rfl | exact bAt_i (by assumption) rfl rfl | exact bAt_z (by assumption) rfl rfl | rfl) (by first | with_reducible rfl | exact nI_add 2 _ | exact nI_add 26 _ | exact ix45 _ _ | exact ixm45 _ | exact ix25 _ | exact fa_lit _ | assumption) (by first | omega | assumption | decide) (by first | decide | omega | assumption) (by first | exact mp_isC (by first | assumption | exact MP_rcS (by assumption) | exact MP_ar rfl (by assumption) | exact MP_sc rfl (by assumption)) (by first | omega | assumption) | exact mp_par (by first | assumption | exact MP_rcS (by assumption) | exact MP_ar rfl (by assumption) | exact MP_sc rfl (by assumption)) (by first | omega | assumption) | exact mp_abv (by first | assumption | exact MP_rcS (by assumption) | exact MP_ar rfl (by assumption) | exact MP_sc rfl (by assumption)) (by first | omega | assumption) | exact mp_dep (by first | assumption | exact MP_rcS (by assumption) | exact MP_ar rfl (by assumption) | exact MP_sc rfl (by assumption)) (by first | omega | assumption) | exact mp_bT (by first | assumption | exact MP_rcS (by assumption) | exact MP_ar rfl (by assumption) | exact MP_sc rfl (by assumption)) (by first | omega | assumption) | exact mp_bM (by first | assumption | exact MP_rcS (by assumption) | exact MP_ar rfl (by assumption) | exact MP_sc rfl (by assumption)) (by first | omega | assumption) | exact mp_sK (by first | assumption | exact MP_rcS (by assumption) | exact MP_ar rfl (by assumption) | exact MP_sc rfl (by assumption)) (by first | omega | assumption) | exact mp_sB (by first | assumption | exact MP_rcS (by assumption) | exact MP_ar rfl (by assumption) | exact MP_sc rfl (by assumption)) (by first | omega | assumption) | exact mp_sT (by first | assumption | exact MP_rcS (by assumption) | exact MP_ar rfl (by assumption) | exact MP_sc rfl (by assumption)) (by first | omega | assumption) | exact mp_sM (by first | assumption | exact MP_rcS (by assumption) | exact MP_ar rfl (by assumption) | exact MP_sc rfl (by assumption)) (by first | omega | assumption) | exact mp_cS (by first | assumption | exact MP_rcS (by assumption) | exact MP_ar rfl (by assumption) | exact MP_sc rfl (by assumption)) (by first | omega | assumption) | exact va_g | exact va_n (by decide) | rfl) ?_
    first | refine V_bast rfl rfl rfl (by first | with_reducible rfl | exact nI_add 2 _ | exact nI_add 26 _ | exact ix45 _ _ | exact ixm45 _ | exact ix25 _ | exact fa_lit _ | assumption) (by first | omega | assumption | decide) (by first | decide | omega | assumption) ?_ | refine V_iastore rfl (by first | assumption | exact blkW_i rfl rfl | exact blkW_z rfl rfl | exact bAt_i (by assumption) rfl rfl | exact bAt_z (by assumption) rfl rfl | rfl) (by first | with_reducible rfl | exact nI_add 2 _ | exact nI_add 26 _ | exact ix45 _ _ | exact ixm45 _ | exact ix25 _ | exact fa_lit _ | assumption) (by first | omega | assumption | decide) (by first | decide | omega | assumption) ?_
    refine V_inc4 rfl (by first | exact mDcr _ | rfl) (by first | rfl | assumption) ?_
    refine V_goto rfl ?_
    refine V_wkh ih (by simp [mWk]) ?_
    rw [va_st, show 26 + (k + 1) = 41 - i by omega, show 26 + k = 40 - i by omega, shJ_s _ hi]
  · refine V_iload rfl rfl ?_
    refine V_if_leT rfl (by decide) ?_
    refine V_aload_n rfl rfl ?_
    refine V_getfield rfl rfl (by first | assumption | exact blkW_0 | exact bAt_0 (by assumption) | rfl) (by rfl) ?_
    refine V_bipush (v := 26) rfl (by decide) ?_
    refine V_bipush (v := 100) rfl (by decide) ?_
    refine V_iload_n rfl rfl ?_
    refine V_imul rfl ?_
    refine V_iconst (v := 2) rfl (by decide) ?_
    refine V_iload_n rfl rfl ?_
    refine V_imul rfl ?_
    refine V_iadd rfl ?_
    refine V_iload_n rfl rfl ?_
    refine V_iadd rfl ?_
    first | refine V_bast rfl rfl rfl (by first | with_reducible rfl | exact nI_add 2 _ | exact nI_add 26 _ | exact ix45 _ _ | exact ixm45 _ | exact ix25 _ | exact fa_lit _ | assumption) (by first | omega | assumption | decide) (by first | decide | omega | assumption) ?_ | refine V_iastore rfl (by first | assumption | exact blkW_i rfl rfl | exact blkW_z rfl rfl | exact bAt_i (by assumption) rfl rfl | exact bAt_z (by assumption) rfl rfl | rfl) (by first | with_reducible rfl | exact nI_add 2 _ | exact nI_add 26 _ | exact ix45 _ _ | exact ixm45 _ | exact ix25 _ | exact fa_lit _ | assumption) (by first | omega | assumption | decide) (by first | decide | omega | assumption) ?_
    rw [va_st]
    generalize hN2 : upd (shJ (ar 15) 15) 26 (100 * nI c + 2 * b + is) = N2
    have hend : wrt (ar 15) c b is = upd (upd N2 42 (N2 42 + if N2 42 < 16 then 1 else 0)) (if is = 1 then 43 else 44) (upd N2 42 (N2 42 + if N2 42 < 16 then 1 else 0) (if is = 1 then 43 else 44) + if upd N2 42 (N2 42 + if N2 42 < 16 then 1 else 0) (if is = 1 then 43 else 44) < 9999 then 1 else 0) := by rw [← hN2]; rfl
    have key : ∀ N3 : Nat → Int32, N3 = upd N2 42 (N2 42 + if N2 42 < 16 then 1 else 0) → V g 0 m_MD_write (Pn (blkW 7 h md sc (va_up ar 15 (wrt (ar 15) c b is)))) sz u 81 [.ref md, .int (nI c), .int b, .int is, .int (nI 0)] [] (blkW 7 h md sc (va_up ar 15 N3)) sz u := by
      intro N3 hN3
      rw [← hN3] at hend
      rcases his with rfl | rfl
      · rw [if_neg (by decide)] at hend
        refine V_iload_n rfl rfl ?_
        refine V_iconst (v := 1) rfl (by decide) ?_
        refine V_icmp_neT rfl (by decide) ?_
        refine V_bipush (v := 44) rfl (by decide) ?_
        refine V_is4 rfl (by first | rfl | assumption) ?_
        refine V_aload_n rfl rfl ?_
        refine V_getfield rfl rfl (by first | assumption | exact blkW_0 | exact bAt_0 (by assumption) | rfl) (by rfl) ?_
        refine V_iload rfl rfl ?_
        refine V_dup2 rfl rfl rfl ?_
        refine V_iald rfl (by first | assumption | exact blkW_i rfl rfl | exact blkW_z rfl rfl | exact bAt_i (by assumption) rfl rfl | exact bAt_z (by assumption) rfl rfl | rfl) (by first | with_reducible rfl | exact nI_add 2 _ | exact nI_add 26 _ | exact ix45 _ _ | exact ixm45 _ | exact ix25 _ | exact fa_lit _ | assumption) (by first | omega | assumption | decide) (by first | decide | omega | assumption) (by first | exact mp_isC (by first | assumption | exact MP_rcS (by assumption) | exact MP_ar rfl (by assumption) | exact MP_sc rfl (by assumption)) (by first | omega | assumption) | exact mp_par (by first | assumption | exact MP_rcS (by assumption) | exact MP_ar rfl (by assumption) | exact MP_sc rfl (by assumption)) (by first | omega | assumption) | exact mp_abv (by first | assumption | exact MP_rcS (by assumption) | exact MP_ar rfl (by assumption) | exact MP_sc rfl (by assumption)) (by first | omega | assumption) | exact mp_dep (by first | assumption | exact MP_rcS (by assumption) | exact MP_ar rfl (by assumption) | exact MP_sc rfl (by assumption)) (by first | omega | assumption) | exact mp_bT (by first | assumption | exact MP_rcS (by assumption) | exact MP_ar rfl (by assumption) | exact MP_sc rfl (by assumption)) (by first | omega | assumption) | exact mp_bM (by first | assumption | exact MP_rcS (by assumption) | exact MP_ar rfl (by assumption) | exact MP_sc rfl (by assumption)) (by first | omega | assumption) | exact mp_sK (by first | assumption | exact MP_rcS (by assumption) | exact MP_ar rfl (by assumption) | exact MP_sc rfl (by assumption)) (by first | omega | assumption) | exact mp_sB (by first | assumption | exact MP_rcS (by assumption) | exact MP_ar rfl (by assumption) | exact MP_sc rfl (by assumption)) (by first | omega | assumption) | exact mp_sT (by first | assumption | exact MP_rcS (by assumption) | exact MP_ar rfl (by assumption) | exact MP_sc rfl (by assumption)) (by first | omega | assumption) | exact mp_sM (by first | assumption | exact MP_rcS (by assumption) | exact MP_ar rfl (by assumption) | exact MP_sc rfl (by assumption)) (by first | omega | assumption) | exact mp_cS (by first | assumption | exact MP_rcS (by assumption) | exact MP_ar rfl (by assumption) | exact MP_sc rfl (by assumption)) (by first | omega | assumption) | exact va_g | exact va_n (by decide) | rfl) ?_
        refine V_aload_n rfl rfl ?_
        refine V_getfield rfl rfl (by first | assumption | exact blkW_0 | exact bAt_0 (by assumption) | rfl) (by rfl) ?_
        refine V_iload rfl rfl ?_
        refine V_iald rfl (by first | assumption | exact blkW_i rfl rfl | exact blkW_z rfl rfl | exact bAt_i (by assumption) rfl rfl | exact bAt_z (by assumption) rfl rfl | rfl) (by first | with_reducible rfl | exact nI_add 2 _ | exact nI_add 26 _ | exact ix45 _ _ | exact ixm45 _ | exact ix25 _ | exact fa_lit _ | assumption) (by first | omega | assumption | decide) (by first | decide | omega | assumption) (by first | exact mp_isC (by first | assumption | exact MP_rcS (by assumption) | exact MP_ar rfl (by assumption) | exact MP_sc rfl (by assumption)) (by first | omega | assumption) | exact mp_par (by first | assumption | exact MP_rcS (by assumption) | exact MP_ar rfl (by assumption) | exact MP_sc rfl (by assumption)) (by first | omega | assumption) | exact mp_abv (by first | assumption | exact MP_rcS (by assumption) | exact MP_ar rfl (by assumption) | exact MP_sc rfl (by assumption)) (by first | omega | assumption) | exact mp_dep (by first | assumption | exact MP_rcS (by assumption) | exact MP_ar rfl (by assumption) | exact MP_sc rfl (by assumption)) (by first | omega | assumption) | exact mp_bT (by first | assumption | exact MP_rcS (by assumption) | exact MP_ar rfl (by assumption) | exact MP_sc rfl (by assumption)) (by first | omega | assumption) | exact mp_bM (by first | assumption | exact MP_rcS (by assumption) | exact MP_ar rfl (by assumption) | exact MP_sc rfl (by assumption)) (by first | omega | assumption) | exact mp_sK (by first | assumption | exact MP_rcS (by assumption) | exact MP_ar rfl (by assumption) | exact MP_sc rfl (by assumption)) (by first | omega | assumption) | exact mp_sB (by first | assumption | exact MP_rcS (by assumption) | exact MP_ar rfl (by assumption) | exact MP_sc rfl (by assumption)) (by first | omega | assumption) | exact mp_sT (by first | assumption | exact MP_rcS (by assumption) | exact MP_ar rfl (by assumption) | exact MP_sc rfl (by assumption)) (by first | omega | assumption) | exact mp_sM (by first | assumption | exact MP_rcS (by assumption) | exact MP_ar rfl (by assumption) | exact MP_sc rfl (by assumption)) (by first | omega | assumption) | exact mp_cS (by first | assumption | exact MP_rcS (by assumption) | exact MP_ar rfl (by assumption) | exact MP_sc rfl (by assumption)) (by first | omega | assumption) | exact va_g | exact va_n (by decide) | rfl) ?_
        refine V_sipush (v := 9999) rfl (by decide) ?_
        refine V_icmp_ge rfl (fun h113 => ?_) (fun h113 => ?_)
        · refine V_iconst (v := 0) rfl (by decide) ?_
          refine V_iadd rfl ?_
          first | refine V_bast rfl rfl rfl (by first | with_reducible rfl | exact nI_add 2 _ | exact nI_add 26 _ | exact ix45 _ _ | exact ixm45 _ | exact ix25 _ | exact fa_lit _ | assumption) (by first | omega | assumption | decide) (by first | decide | omega | assumption) ?_ | refine V_iastore rfl (by first | assumption | exact blkW_i rfl rfl | exact blkW_z rfl rfl | exact bAt_i (by assumption) rfl rfl | exact bAt_z (by assumption) rfl rfl | rfl) (by first | with_reducible rfl | exact nI_add 2 _ | exact nI_add 26 _ | exact ix45 _ _ | exact ixm45 _ | exact ix25 _ | exact fa_lit _ | assumption) (by first | omega | assumption | decide) (by first | decide | omega | assumption) ?_
          refine V_return rfl rfl ?_
          refine ⟨rfl, ?_⟩
          rw [hend, va_st]
          first | rw [if_neg (fa_of_nlt2 h113)] | rw [if_pos (fa_of_nle h113)]
        · refine V_iconst (v := 1) rfl (by decide) ?_
          refine V_goto rfl ?_
          refine V_iadd rfl ?_
          first | refine V_bast rfl rfl rfl (by first | with_reducible rfl | exact nI_add 2 _ | exact nI_add 26 _ | exact ix45 _ _ | exact ixm45 _ | exact ix25 _ | exact fa_lit _ | assumption) (by first | omega | assumption | decide) (by first | decide | omega | assumption) ?_ | refine V_iastore rfl (by first | assumption | exact blkW_i rfl rfl | exact blkW_z rfl rfl | exact bAt_i (by assumption) rfl rfl | exact bAt_z (by assumption) rfl rfl | rfl) (by first | with_reducible rfl | exact nI_add 2 _ | exact nI_add 26 _ | exact ix45 _ _ | exact ixm45 _ | exact ix25 _ | exact fa_lit _ | assumption) (by first | omega | assumption | decide) (by first | decide | omega | assumption) ?_
          refine V_return rfl rfl ?_
          refine ⟨rfl, ?_⟩
          rw [hend, va_st]
          first | rw [if_neg (fa_of_nlt2 h113)] | rw [if_pos (fa_of_nle h113)]
      · rw [if_pos rfl] at hend
        refine V_iload_n rfl rfl ?_
        refine V_iconst (v := 1) rfl (by decide) ?_
        refine V_icmp_neF rfl (rfl) ?_
        refine V_bipush (v := 43) rfl (by decide) ?_
        refine V_goto rfl ?_
        refine V_is4 rfl (by first | rfl | assumption) ?_
        refine V_aload_n rfl rfl ?_
        refine V_getfield rfl rfl (by first | assumption | exact blkW_0 | exact bAt_0 (by assumption) | rfl) (by rfl) ?_
        refine V_iload rfl rfl ?_
        refine V_dup2 rfl rfl rfl ?_
        refine V_iald rfl (by first | assumption | exact blkW_i rfl rfl | exact blkW_z rfl rfl | exact bAt_i (by assumption) rfl rfl | exact bAt_z (by assumption) rfl rfl | rfl) (by first | with_reducible rfl | exact nI_add 2 _ | exact nI_add 26 _ | exact ix45 _ _ | exact ixm45 _ | exact ix25 _ | exact fa_lit _ | assumption) (by first | omega | assumption | decide) (by first | decide | omega | assumption) (by first | exact mp_isC (by first | assumption | exact MP_rcS (by assumption) | exact MP_ar rfl (by assumption) | exact MP_sc rfl (by assumption)) (by first | omega | assumption) | exact mp_par (by first | assumption | exact MP_rcS (by assumption) | exact MP_ar rfl (by assumption) | exact MP_sc rfl (by assumption)) (by first | omega | assumption) | exact mp_abv (by first | assumption | exact MP_rcS (by assumption) | exact MP_ar rfl (by assumption) | exact MP_sc rfl (by assumption)) (by first | omega | assumption) | exact mp_dep (by first | assumption | exact MP_rcS (by assumption) | exact MP_ar rfl (by assumption) | exact MP_sc rfl (by assumption)) (by first | omega | assumption) | exact mp_bT (by first | assumption | exact MP_rcS (by assumption) | exact MP_ar rfl (by assumption) | exact MP_sc rfl (by assumption)) (by first | omega | assumption) | exact mp_bM (by first | assumption | exact MP_rcS (by assumption) | exact MP_ar rfl (by assumption) | exact MP_sc rfl (by assumption)) (by first | omega | assumption) | exact mp_sK (by first | assumption | exact MP_rcS (by assumption) | exact MP_ar rfl (by assumption) | exact MP_sc rfl (by assumption)) (by first | omega | assumption) | exact mp_sB (by first | assumption | exact MP_rcS (by assumption) | exact MP_ar rfl (by assumption) | exact MP_sc rfl (by assumption)) (by first | omega | assumption) | exact mp_sT (by first | assumption | exact MP_rcS (by assumption) | exact MP_ar rfl (by assumption) | exact MP_sc rfl (by assumption)) (by first | omega | assumption) | exact mp_sM (by first | assumption | exact MP_rcS (by assumption) | exact MP_ar rfl (by assumption) | exact MP_sc rfl (by assumption)) (by first | omega | assumption) | exact mp_cS (by first | assumption | exact MP_rcS (by assumption) | exact MP_ar rfl (by assumption) | exact MP_sc rfl (by assumption)) (by first | omega | assumption) | exact va_g | exact va_n (by decide) | rfl) ?_
        refine V_aload_n rfl rfl ?_
        refine V_getfield rfl rfl (by first | assumption | exact blkW_0 | exact bAt_0 (by assumption) | rfl) (by rfl) ?_
        refine V_iload rfl rfl ?_
        refine V_iald rfl (by first | assumption | exact blkW_i rfl rfl | exact blkW_z rfl rfl | exact bAt_i (by assumption) rfl rfl | exact bAt_z (by assumption) rfl rfl | rfl) (by first | with_reducible rfl | exact nI_add 2 _ | exact nI_add 26 _ | exact ix45 _ _ | exact ixm45 _ | exact ix25 _ | exact fa_lit _ | assumption) (by first | omega | assumption | decide) (by first | decide | omega | assumption) (by first | exact mp_isC (by first | assumption | exact MP_rcS (by assumption) | exact MP_ar rfl (by assumption) | exact MP_sc rfl (by assumption)) (by first | omega | assumption) | exact mp_par (by first | assumption | exact MP_rcS (by assumption) | exact MP_ar rfl (by assumption) | exact MP_sc rfl (by assumption)) (by first | omega | assumption) | exact mp_abv (by first | assumption | exact MP_rcS (by assumption) | exact MP_ar rfl (by assumption) | exact MP_sc rfl (by assumption)) (by first | omega | assumption) | exact mp_dep (by first | assumption | exact MP_rcS (by assumption) | exact MP_ar rfl (by assumption) | exact MP_sc rfl (by assumption)) (by first | omega | assumption) | exact mp_bT (by first | assumption | exact MP_rcS (by assumption) | exact MP_ar rfl (by assumption) | exact MP_sc rfl (by assumption)) (by first | omega | assumption) | exact mp_bM (by first | assumption | exact MP_rcS (by assumption) | exact MP_ar rfl (by assumption) | exact MP_sc rfl (by assumption)) (by first | omega | assumption) | exact mp_sK (by first | assumption | exact MP_rcS (by assumption) | exact MP_ar rfl (by assumption) | exact MP_sc rfl (by assumption)) (by first | omega | assumption) | exact mp_sB (by first | assumption | exact MP_rcS (by assumption) | exact MP_ar rfl (by assumption) | exact MP_sc rfl (by assumption)) (by first | omega | assumption) | exact mp_sT (by first | assumption | exact MP_rcS (by assumption) | exact MP_ar rfl (by assumption) | exact MP_sc rfl (by assumption)) (by first | omega | assumption) | exact mp_sM (by first | assumption | exact MP_rcS (by assumption) | exact MP_ar rfl (by assumption) | exact MP_sc rfl (by assumption)) (by first | omega | assumption) | exact mp_cS (by first | assumption | exact MP_rcS (by assumption) | exact MP_ar rfl (by assumption) | exact MP_sc rfl (by assumption)) (by first | omega | assumption) | exact va_g | exact va_n (by decide) | rfl) ?_
        refine V_sipush (v := 9999) rfl (by decide) ?_
        refine V_icmp_ge rfl (fun h113 => ?_) (fun h113 => ?_)
        · refine V_iconst (v := 0) rfl (by decide) ?_
          refine V_iadd rfl ?_
          first | refine V_bast rfl rfl rfl (by first | with_reducible rfl | exact nI_add 2 _ | exact nI_add 26 _ | exact ix45 _ _ | exact ixm45 _ | exact ix25 _ | exact fa_lit _ | assumption) (by first | omega | assumption | decide) (by first | decide | omega | assumption) ?_ | refine V_iastore rfl (by first | assumption | exact blkW_i rfl rfl | exact blkW_z rfl rfl | exact bAt_i (by assumption) rfl rfl | exact bAt_z (by assumption) rfl rfl | rfl) (by first | with_reducible rfl | exact nI_add 2 _ | exact nI_add 26 _ | exact ix45 _ _ | exact ixm45 _ | exact ix25 _ | exact fa_lit _ | assumption) (by first | omega | assumption | decide) (by first | decide | omega | assumption) ?_
          refine V_return rfl rfl ?_
          refine ⟨rfl, ?_⟩
          rw [hend, va_st]
          first | rw [if_neg (fa_of_nlt2 h113)] | rw [if_pos (fa_of_nle h113)]
        · refine V_iconst (v := 1) rfl (by decide) ?_
          refine V_goto rfl ?_
          refine V_iadd rfl ?_
          first | refine V_bast rfl rfl rfl (by first | with_reducible rfl | exact nI_add 2 _ | exact nI_add 26 _ | exact ix45 _ _ | exact ixm45 _ | exact ix25 _ | exact fa_lit _ | assumption) (by first | omega | assumption | decide) (by first | decide | omega | assumption) ?_ | refine V_iastore rfl (by first | assumption | exact blkW_i rfl rfl | exact blkW_z rfl rfl | exact bAt_i (by assumption) rfl rfl | exact bAt_z (by assumption) rfl rfl | rfl) (by first | with_reducible rfl | exact nI_add 2 _ | exact nI_add 26 _ | exact ix45 _ _ | exact ixm45 _ | exact ix25 _ | exact fa_lit _ | assumption) (by first | omega | assumption | decide) (by first | decide | omega | assumption) ?_
          refine V_return rfl rfl ?_
          refine ⟨rfl, ?_⟩
          rw [hend, va_st]
          first | rw [if_neg (fa_of_nlt2 h113)] | rw [if_pos (fa_of_nle h113)]
    refine V_aload_n rfl rfl ?_
    refine V_getfield rfl rfl (by first | assumption | exact blkW_0 | exact bAt_0 (by assumption) | rfl) (by rfl) ?_
    refine V_bipush (v := 42) rfl (by decide) ?_
    refine V_dup2 rfl rfl rfl ?_
    refine V_iald rfl (by first | assumption | exact blkW_i rfl rfl | exact blkW_z rfl rfl | exact bAt_i (by assumption) rfl rfl | exact bAt_z (by assumption) rfl rfl | rfl) (by first | with_reducible rfl | exact nI_add 2 _ | exact nI_add 26 _ | exact ix45 _ _ | exact ixm45 _ | exact ix25 _ | exact fa_lit _ | assumption) (by first | omega | assumption | decide) (by first | decide | omega | assumption) (by first | exact mp_isC (by first | assumption | exact MP_rcS (by assumption) | exact MP_ar rfl (by assumption) | exact MP_sc rfl (by assumption)) (by first | omega | assumption) | exact mp_par (by first | assumption | exact MP_rcS (by assumption) | exact MP_ar rfl (by assumption) | exact MP_sc rfl (by assumption)) (by first | omega | assumption) | exact mp_abv (by first | assumption | exact MP_rcS (by assumption) | exact MP_ar rfl (by assumption) | exact MP_sc rfl (by assumption)) (by first | omega | assumption) | exact mp_dep (by first | assumption | exact MP_rcS (by assumption) | exact MP_ar rfl (by assumption) | exact MP_sc rfl (by assumption)) (by first | omega | assumption) | exact mp_bT (by first | assumption | exact MP_rcS (by assumption) | exact MP_ar rfl (by assumption) | exact MP_sc rfl (by assumption)) (by first | omega | assumption) | exact mp_bM (by first | assumption | exact MP_rcS (by assumption) | exact MP_ar rfl (by assumption) | exact MP_sc rfl (by assumption)) (by first | omega | assumption) | exact mp_sK (by first | assumption | exact MP_rcS (by assumption) | exact MP_ar rfl (by assumption) | exact MP_sc rfl (by assumption)) (by first | omega | assumption) | exact mp_sB (by first | assumption | exact MP_rcS (by assumption) | exact MP_ar rfl (by assumption) | exact MP_sc rfl (by assumption)) (by first | omega | assumption) | exact mp_sT (by first | assumption | exact MP_rcS (by assumption) | exact MP_ar rfl (by assumption) | exact MP_sc rfl (by assumption)) (by first | omega | assumption) | exact mp_sM (by first | assumption | exact MP_rcS (by assumption) | exact MP_ar rfl (by assumption) | exact MP_sc rfl (by assumption)) (by first | omega | assumption) | exact mp_cS (by first | assumption | exact MP_rcS (by assumption) | exact MP_ar rfl (by assumption) | exact MP_sc rfl (by assumption)) (by first | omega | assumption) | exact va_g | exact va_n (by decide) | rfl) ?_
    refine V_aload_n rfl rfl ?_
    refine V_getfield rfl rfl (by first | assumption | exact blkW_0 | exact bAt_0 (by assumption) | rfl) (by rfl) ?_
    refine V_bipush (v := 42) rfl (by decide) ?_
    refine V_iald rfl (by first | assumption | exact blkW_i rfl rfl | exact blkW_z rfl rfl | exact bAt_i (by assumption) rfl rfl | exact bAt_z (by assumption) rfl rfl | rfl) (by first | with_reducible rfl | exact nI_add 2 _ | exact nI_add 26 _ | exact ix45 _ _ | exact ixm45 _ | exact ix25 _ | exact fa_lit _ | assumption) (by first | omega | assumption | decide) (by first | decide | omega | assumption) (by first | exact mp_isC (by first | assumption | exact MP_rcS (by assumption) | exact MP_ar rfl (by assumption) | exact MP_sc rfl (by assumption)) (by first | omega | assumption) | exact mp_par (by first | assumption | exact MP_rcS (by assumption) | exact MP_ar rfl (by assumption) | exact MP_sc rfl (by assumption)) (by first | omega | assumption) | exact mp_abv (by first | assumption | exact MP_rcS (by assumption) | exact MP_ar rfl (by assumption) | exact MP_sc rfl (by assumption)) (by first | omega | assumption) | exact mp_dep (by first | assumption | exact MP_rcS (by assumption) | exact MP_ar rfl (by assumption) | exact MP_sc rfl (by assumption)) (by first | omega | assumption) | exact mp_bT (by first | assumption | exact MP_rcS (by assumption) | exact MP_ar rfl (by assumption) | exact MP_sc rfl (by assumption)) (by first | omega | assumption) | exact mp_bM (by first | assumption | exact MP_rcS (by assumption) | exact MP_ar rfl (by assumption) | exact MP_sc rfl (by assumption)) (by first | omega | assumption) | exact mp_sK (by first | assumption | exact MP_rcS (by assumption) | exact MP_ar rfl (by assumption) | exact MP_sc rfl (by assumption)) (by first | omega | assumption) | exact mp_sB (by first | assumption | exact MP_rcS (by assumption) | exact MP_ar rfl (by assumption) | exact MP_sc rfl (by assumption)) (by first | omega | assumption) | exact mp_sT (by first | assumption | exact MP_rcS (by assumption) | exact MP_ar rfl (by assumption) | exact MP_sc rfl (by assumption)) (by first | omega | assumption) | exact mp_sM (by first | assumption | exact MP_rcS (by assumption) | exact MP_ar rfl (by assumption) | exact MP_sc rfl (by assumption)) (by first | omega | assumption) | exact mp_cS (by first | assumption | exact MP_rcS (by assumption) | exact MP_ar rfl (by assumption) | exact MP_sc rfl (by assumption)) (by first | omega | assumption) | exact va_g | exact va_n (by decide) | rfl) ?_
    refine V_bipush (v := 16) rfl (by decide) ?_
    refine V_icmp_ge rfl (fun h71 => ?_) (fun h71 => ?_)
    · refine V_iconst (v := 0) rfl (by decide) ?_
      refine V_iadd rfl ?_
      first | refine V_bast rfl rfl rfl (by first | with_reducible rfl | exact nI_add 2 _ | exact nI_add 26 _ | exact ix45 _ _ | exact ixm45 _ | exact ix25 _ | exact fa_lit _ | assumption) (by first | omega | assumption | decide) (by first | decide | omega | assumption) ?_ | refine V_iastore rfl (by first | assumption | exact blkW_i rfl rfl | exact blkW_z rfl rfl | exact bAt_i (by assumption) rfl rfl | exact bAt_z (by assumption) rfl rfl | rfl) (by first | with_reducible rfl | exact nI_add 2 _ | exact nI_add 26 _ | exact ix45 _ _ | exact ixm45 _ | exact ix25 _ | exact fa_lit _ | assumption) (by first | omega | assumption | decide) (by first | decide | omega | assumption) ?_
      exact V_wkh (key _ rfl) (by simp [mWk]) (by rw [va_st]; first | rw [if_neg (fa_of_nlt2 h71)] | rw [if_pos (fa_of_nle h71)])
    · refine V_iconst (v := 1) rfl (by decide) ?_
      refine V_goto rfl ?_
      refine V_iadd rfl ?_
      first | refine V_bast rfl rfl rfl (by first | with_reducible rfl | exact nI_add 2 _ | exact nI_add 26 _ | exact ix45 _ _ | exact ixm45 _ | exact ix25 _ | exact fa_lit _ | assumption) (by first | omega | assumption | decide) (by first | decide | omega | assumption) ?_ | refine V_iastore rfl (by first | assumption | exact blkW_i rfl rfl | exact blkW_z rfl rfl | exact bAt_i (by assumption) rfl rfl | exact bAt_z (by assumption) rfl rfl | rfl) (by first | with_reducible rfl | exact nI_add 2 _ | exact nI_add 26 _ | exact ix45 _ _ | exact ixm45 _ | exact ix25 _ | exact fa_lit _ | assumption) (by first | omega | assumption | decide) (by first | decide | omega | assumption) ?_
      exact V_wkh (key _ rfl) (by simp [mWk]) (by rw [va_st]; first | rw [if_neg (fa_of_nlt2 h71)] | rw [if_pos (fa_of_nle h71)])
set_option maxRecDepth 20000 in
set_option maxHeartbeats 1000000 in
theorem w_loadNow (hm : MP p sc ar) (t : Nat) (ht : t < nT p) : Mt g 7 m_MD_loadNow [.ref md, .int (nI t)] (blkW 7 h md sc ar) sz u (Pi (cnF 12 (bt (ldF p (ar 15) t (nC p) 0)) - cnF 12 (bt (ar 15 0))) (blkW 7 h md sc (va_up ar 15 (ldF p (ar 15) t (nC p))))) sz u := by
  obtain ⟨hT, hB, hS, hC⟩ := hm.1.1
  refine Mt.of m_MD_loadNow_w m_MD_loadNow_x m_MD_loadNow_c rfl rfl (ls := [.ref md, .int (nI t), .retAddr 0, .retAddr 0]) rfl ?_
  refine V_aload_n rfl rfl ?_
  refine V_getfield rfl rfl (by first | assumption | exact blkW_0 | exact bAt_0 (by assumption) | rfl) (by rfl) ?_
  refine V_iconst (v := 0) rfl (by decide) ?_
  refine V_iald rfl (by first | assumption | exact blkW_i rfl rfl | exact blkW_z rfl rfl | exact bAt_i (by assumption) rfl rfl | exact bAt_z (by assumption) rfl rfl | rfl) (by first | with_reducible rfl | exact nI_add 2 _ | exact nI_add 26 _ | exact ix45 _ _ | exact ixm45 _ | exact ix25 _ | exact fa_lit _ | assumption) (by first | omega | assumption | decide) (by first | decide | omega | assumption) (by first | exact mp_isC (by first | assumption | exact MP_rcS (by assumption) | exact MP_ar rfl (by assumption) | exact MP_sc rfl (by assumption)) (by first | omega | assumption) | exact mp_par (by first | assumption | exact MP_rcS (by assumption) | exact MP_ar rfl (by assumption) | exact MP_sc rfl (by assumption)) (by first | omega | assumption) | exact mp_abv (by first | assumption | exact MP_rcS (by assumption) | exact MP_ar rfl (by assumption) | exact MP_sc rfl (by assumption)) (by first | omega | assumption) | exact mp_dep (by first | assumption | exact MP_rcS (by assumption) | exact MP_ar rfl (by assumption) | exact MP_sc rfl (by assumption)) (by first | omega | assumption) | exact mp_bT (by first | assumption | exact MP_rcS (by assumption) | exact MP_ar rfl (by assumption) | exact MP_sc rfl (by assumption)) (by first | omega | assumption) | exact mp_bM (by first | assumption | exact MP_rcS (by assumption) | exact MP_ar rfl (by assumption) | exact MP_sc rfl (by assumption)) (by first | omega | assumption) | exact mp_sK (by first | assumption | exact MP_rcS (by assumption) | exact MP_ar rfl (by assumption) | exact MP_sc rfl (by assumption)) (by first | omega | assumption) | exact mp_sB (by first | assumption | exact MP_rcS (by assumption) | exact MP_ar rfl (by assumption) | exact MP_sc rfl (by assumption)) (by first | omega | assumption) | exact mp_sT (by first | assumption | exact MP_rcS (by assumption) | exact MP_ar rfl (by assumption) | exact MP_sc rfl (by assumption)) (by first | omega | assumption) | exact mp_sM (by first | assumption | exact MP_rcS (by assumption) | exact MP_ar rfl (by assumption) | exact MP_sc rfl (by assumption)) (by first | omega | assumption) | exact mp_cS (by first | assumption | exact MP_rcS (by assumption) | exact MP_ar rfl (by assumption) | exact MP_sc rfl (by assumption)) (by first | omega | assumption) | exact va_g | exact va_n (by decide) | rfl) ?_
  refine V_callSi rfl rfl (Or.inl rfl) m_MD_bits_w m_MD_bits_x rfl rfl (s_bits _) (by decide) rfl (Nat.le_of_ble_eq_true rfl) ?_
  refine V_is2 rfl (by first | rfl | assumption) ?_
  refine V_aload_n rfl rfl ?_
  refine V_getfield rfl rfl (by first | assumption | exact blkW_0 | exact bAt_0 (by assumption) | rfl) (by rfl) ?_
  refine V_iconst (v := 0) rfl (by decide) ?_
  refine V_dup2 rfl rfl rfl ?_
  refine V_iald rfl (by first | assumption | exact blkW_i rfl rfl | exact blkW_z rfl rfl | exact bAt_i (by assumption) rfl rfl | exact bAt_z (by assumption) rfl rfl | rfl) (by first | with_reducible rfl | exact nI_add 2 _ | exact nI_add 26 _ | exact ix45 _ _ | exact ixm45 _ | exact ix25 _ | exact fa_lit _ | assumption) (by first | omega | assumption | decide) (by first | decide | omega | assumption) (by first | exact mp_isC (by first | assumption | exact MP_rcS (by assumption) | exact MP_ar rfl (by assumption) | exact MP_sc rfl (by assumption)) (by first | omega | assumption) | exact mp_par (by first | assumption | exact MP_rcS (by assumption) | exact MP_ar rfl (by assumption) | exact MP_sc rfl (by assumption)) (by first | omega | assumption) | exact mp_abv (by first | assumption | exact MP_rcS (by assumption) | exact MP_ar rfl (by assumption) | exact MP_sc rfl (by assumption)) (by first | omega | assumption) | exact mp_dep (by first | assumption | exact MP_rcS (by assumption) | exact MP_ar rfl (by assumption) | exact MP_sc rfl (by assumption)) (by first | omega | assumption) | exact mp_bT (by first | assumption | exact MP_rcS (by assumption) | exact MP_ar rfl (by assumption) | exact MP_sc rfl (by assumption)) (by first | omega | assumption) | exact mp_bM (by first | assumption | exact MP_rcS (by assumption) | exact MP_ar rfl (by assumption) | exact MP_sc rfl (by assumption)) (by first | omega | assumption) | exact mp_sK (by first | assumption | exact MP_rcS (by assumption) | exact MP_ar rfl (by assumption) | exact MP_sc rfl (by assumption)) (by first | omega | assumption) | exact mp_sB (by first | assumption | exact MP_rcS (by assumption) | exact MP_ar rfl (by assumption) | exact MP_sc rfl (by assumption)) (by first | omega | assumption) | exact mp_sT (by first | assumption | exact MP_rcS (by assumption) | exact MP_ar rfl (by assumption) | exact MP_sc rfl (by assumption)) (by first | omega | assumption) | exact mp_sM (by first | assumption | exact MP_rcS (by assumption) | exact MP_ar rfl (by assumption) | exact MP_sc rfl (by assumption)) (by first | omega | assumption) | exact mp_cS (by first | assumption | exact MP_rcS (by assumption) | exact MP_ar rfl (by assumption) | exact MP_sc rfl (by assumption)) (by first | omega | assumption) | exact va_g | exact va_n (by decide) | rfl) ?_
  refine V_aload_n rfl rfl ?_
  refine V_getfield rfl rfl (by first | assumption | exact blkW_0 | exact bAt_0 (by assumption) | rfl) (by rfl) ?_
  refine V_iload_n rfl rfl ?_
  refine V_iald rfl (by first | assumption | exact blkW_i rfl rfl | exact blkW_z rfl rfl | exact bAt_i (by assumption) rfl rfl | exact bAt_z (by assumption) rfl rfl | rfl) (by first | with_reducible rfl | exact nI_add 2 _ | exact nI_add 26 _ | exact ix45 _ _ | exact ixm45 _ | exact ix25 _ | exact fa_lit _ | assumption) (by first | omega | assumption | decide) (by first | decide | omega | assumption) (by first | exact mp_isC (by first | assumption | exact MP_rcS (by assumption) | exact MP_ar rfl (by assumption) | exact MP_sc rfl (by assumption)) (by first | omega | assumption) | exact mp_par (by first | assumption | exact MP_rcS (by assumption) | exact MP_ar rfl (by assumption) | exact MP_sc rfl (by assumption)) (by first | omega | assumption) | exact mp_abv (by first | assumption | exact MP_rcS (by assumption) | exact MP_ar rfl (by assumption) | exact MP_sc rfl (by assumption)) (by first | omega | assumption) | exact mp_dep (by first | assumption | exact MP_rcS (by assumption) | exact MP_ar rfl (by assumption) | exact MP_sc rfl (by assumption)) (by first | omega | assumption) | exact mp_bT (by first | assumption | exact MP_rcS (by assumption) | exact MP_ar rfl (by assumption) | exact MP_sc rfl (by assumption)) (by first | omega | assumption) | exact mp_bM (by first | assumption | exact MP_rcS (by assumption) | exact MP_ar rfl (by assumption) | exact MP_sc rfl (by assumption)) (by first | omega | assumption) | exact mp_sK (by first | assumption | exact MP_rcS (by assumption) | exact MP_ar rfl (by assumption) | exact MP_sc rfl (by assumption)) (by first | omega | assumption) | exact mp_sB (by first | assumption | exact MP_rcS (by assumption) | exact MP_ar rfl (by assumption) | exact MP_sc rfl (by assumption)) (by first | omega | assumption) | exact mp_sT (by first | assumption | exact MP_rcS (by assumption) | exact MP_ar rfl (by assumption) | exact MP_sc rfl (by assumption)) (by first | omega | assumption) | exact mp_sM (by first | assumption | exact MP_rcS (by assumption) | exact MP_ar rfl (by assumption) | exact MP_sc rfl (by assumption)) (by first | omega | assumption) | exact mp_cS (by first | assumption | exact MP_rcS (by assumption) | exact MP_ar rfl (by assumption) | exact MP_sc rfl (by assumption)) (by first | omega | assumption) | exact va_g | exact va_n (by decide) | rfl) ?_
  refine V_ior rfl ?_
  first | refine V_bast rfl rfl rfl (by first | with_reducible rfl | exact nI_add 2 _ | exact nI_add 26 _ | exact ix45 _ _ | exact ixm45 _ | exact ix25 _ | exact fa_lit _ | assumption) (by first | omega | assumption | decide) (by first | decide | omega | assumption) ?_ | refine V_iastore rfl (by first | assumption | exact blkW_i rfl rfl | exact blkW_z rfl rfl | exact bAt_i (by assumption) rfl rfl | exact bAt_z (by assumption) rfl rfl | rfl) (by first | with_reducible rfl | exact nI_add 2 _ | exact nI_add 26 _ | exact ix45 _ _ | exact ixm45 _ | exact ix25 _ | exact fa_lit _ | assumption) (by first | omega | assumption | decide) (by first | decide | omega | assumption) ?_
  refine V_iconst (v := 0) rfl (by decide) ?_
  refine V_is3 rfl (by first | rfl | assumption) ?_
  refine V_for2 (nC p) (fun i => [.ref md, .int (nI t), .int (cnF 12 (bt (ar 15 0))), .int (nI i)]) (fun i => blkW 7 h md sc (va_up ar 15 (ldF p (ar 15) t i))) rfl rfl (fun i hi ih => ?_) ?_
  · refine V_iload_n rfl rfl ?_
    refine V_aload_n rfl rfl ?_
    refine V_getI rfl rfl (by first | assumption | exact blkW_0 | exact bAt_0 (by assumption) | rfl) (by rfl) (by first | exact mp_nC (by first | assumption | exact MP_rcS (by assumption) | exact MP_ar rfl (by assumption) | exact MP_sc rfl (by assumption)) | rfl) ?_
    refine V_icmp_geF rfl (nI_ge hi (by omega)) ?_
    have hl : ldF p (ar 15) t (i + 1) = if wG (may p i (ldF p (ar 15) t i 0)) (ldF p (ar 15) t i (2 + i)) then upd (wrt (ldF p (ar 15) t i) i (ldF p (ar 15) t i (2 + i)) 0) (2 + i) (-1) else ldF p (ar 15) t i := rfl
    refine V_aload_n rfl rfl ?_
    refine V_iload_n rfl rfl ?_
    refine V_aload_n rfl rfl ?_
    refine V_getfield rfl rfl (by first | assumption | exact blkW_0 | exact bAt_0 (by assumption) | rfl) (by rfl) ?_
    refine V_iconst (v := 0) rfl (by decide) ?_
    refine V_iald rfl (by first | assumption | exact blkW_i rfl rfl | exact blkW_z rfl rfl | exact bAt_i (by assumption) rfl rfl | exact bAt_z (by assumption) rfl rfl | rfl) (by first | with_reducible rfl | exact nI_add 2 _ | exact nI_add 26 _ | exact ix45 _ _ | exact ixm45 _ | exact ix25 _ | exact fa_lit _ | assumption) (by first | omega | assumption | decide) (by first | decide | omega | assumption) (by first | exact mp_isC (by first | assumption | exact MP_rcS (by assumption) | exact MP_ar rfl (by assumption) | exact MP_sc rfl (by assumption)) (by first | omega | assumption) | exact mp_par (by first | assumption | exact MP_rcS (by assumption) | exact MP_ar rfl (by assumption) | exact MP_sc rfl (by assumption)) (by first | omega | assumption) | exact mp_abv (by first | assumption | exact MP_rcS (by assumption) | exact MP_ar rfl (by assumption) | exact MP_sc rfl (by assumption)) (by first | omega | assumption) | exact mp_dep (by first | assumption | exact MP_rcS (by assumption) | exact MP_ar rfl (by assumption) | exact MP_sc rfl (by assumption)) (by first | omega | assumption) | exact mp_bT (by first | assumption | exact MP_rcS (by assumption) | exact MP_ar rfl (by assumption) | exact MP_sc rfl (by assumption)) (by first | omega | assumption) | exact mp_bM (by first | assumption | exact MP_rcS (by assumption) | exact MP_ar rfl (by assumption) | exact MP_sc rfl (by assumption)) (by first | omega | assumption) | exact mp_sK (by first | assumption | exact MP_rcS (by assumption) | exact MP_ar rfl (by assumption) | exact MP_sc rfl (by assumption)) (by first | omega | assumption) | exact mp_sB (by first | assumption | exact MP_rcS (by assumption) | exact MP_ar rfl (by assumption) | exact MP_sc rfl (by assumption)) (by first | omega | assumption) | exact mp_sT (by first | assumption | exact MP_rcS (by assumption) | exact MP_ar rfl (by assumption) | exact MP_sc rfl (by assumption)) (by first | omega | assumption) | exact mp_sM (by first | assumption | exact MP_rcS (by assumption) | exact MP_ar rfl (by assumption) | exact MP_sc rfl (by assumption)) (by first | omega | assumption) | exact mp_cS (by first | assumption | exact MP_rcS (by assumption) | exact MP_ar rfl (by assumption) | exact MP_sc rfl (by assumption)) (by first | omega | assumption) | exact va_g | exact va_n (by decide) | rfl) ?_
    refine V_callVi rfl rfl m_MD_wouldGo_w m_MD_wouldGo_x rfl (by decide) rfl (s_wG (by first | assumption | exact blkW_at) (by first | assumption | exact MP_rcS (by assumption) | exact MP_ar rfl (by assumption) | exact MP_sc rfl (by assumption)) _ _ (by first | omega | assumption)) (by decide) rfl (by first | assumption | exact blkW_0 | exact bAt_0 (by assumption) | rfl) (Nat.le_of_ble_eq_true rfl) ?_
    rw [va_g]
    cases hg : wG (may p i (ldF p (ar 15) t i 0)) (ldF p (ar 15) t i (2 + i))
    · rw [hg] at hl
      refine V_if_eqT rfl (rfl) ?_
      refine V_inc3 rfl (by first | exact mInc _ | rfl) (by first | rfl | assumption) ?_
      refine V_goto rfl ?_
      rw [hl] at ih
      exact ih
    · rw [hg] at hl
      refine V_if_eqF rfl (by decide) ?_
      refine V_aload_n rfl rfl ?_
      refine V_iload_n rfl rfl ?_
      refine V_aload_n rfl rfl ?_
      refine V_getfield rfl rfl (by first | assumption | exact blkW_0 | exact bAt_0 (by assumption) | rfl) (by rfl) ?_
      refine V_iconst (v := 2) rfl (by decide) ?_
      refine V_iload_n rfl rfl ?_
      refine V_iadd rfl ?_
      refine V_iald rfl (by first | assumption | exact blkW_i rfl rfl | exact blkW_z rfl rfl | exact bAt_i (by assumption) rfl rfl | exact bAt_z (by assumption) rfl rfl | rfl) (by first | with_reducible rfl | exact nI_add 2 _ | exact nI_add 26 _ | exact ix45 _ _ | exact ixm45 _ | exact ix25 _ | exact fa_lit _ | assumption) (by first | omega | assumption | decide) (by first | decide | omega | assumption) (by first | exact mp_isC (by first | assumption | exact MP_rcS (by assumption) | exact MP_ar rfl (by assumption) | exact MP_sc rfl (by assumption)) (by first | omega | assumption) | exact mp_par (by first | assumption | exact MP_rcS (by assumption) | exact MP_ar rfl (by assumption) | exact MP_sc rfl (by assumption)) (by first | omega | assumption) | exact mp_abv (by first | assumption | exact MP_rcS (by assumption) | exact MP_ar rfl (by assumption) | exact MP_sc rfl (by assumption)) (by first | omega | assumption) | exact mp_dep (by first | assumption | exact MP_rcS (by assumption) | exact MP_ar rfl (by assumption) | exact MP_sc rfl (by assumption)) (by first | omega | assumption) | exact mp_bT (by first | assumption | exact MP_rcS (by assumption) | exact MP_ar rfl (by assumption) | exact MP_sc rfl (by assumption)) (by first | omega | assumption) | exact mp_bM (by first | assumption | exact MP_rcS (by assumption) | exact MP_ar rfl (by assumption) | exact MP_sc rfl (by assumption)) (by first | omega | assumption) | exact mp_sK (by first | assumption | exact MP_rcS (by assumption) | exact MP_ar rfl (by assumption) | exact MP_sc rfl (by assumption)) (by first | omega | assumption) | exact mp_sB (by first | assumption | exact MP_rcS (by assumption) | exact MP_ar rfl (by assumption) | exact MP_sc rfl (by assumption)) (by first | omega | assumption) | exact mp_sT (by first | assumption | exact MP_rcS (by assumption) | exact MP_ar rfl (by assumption) | exact MP_sc rfl (by assumption)) (by first | omega | assumption) | exact mp_sM (by first | assumption | exact MP_rcS (by assumption) | exact MP_ar rfl (by assumption) | exact MP_sc rfl (by assumption)) (by first | omega | assumption) | exact mp_cS (by first | assumption | exact MP_rcS (by assumption) | exact MP_ar rfl (by assumption) | exact MP_sc rfl (by assumption)) (by first | omega | assumption) | exact va_g | exact va_n (by decide) | rfl) ?_
      refine V_iconst (v := 0) rfl (by decide) ?_
      refine V_callVn rfl rfl m_MD_write_w m_MD_write_x rfl (by decide) rfl (w_write _ _ _ (by first | omega | assumption) (by first | assumption | exact Or.inl rfl | exact Or.inr rfl)) (by decide) rfl (by first | assumption | exact blkW_0 | exact bAt_0 (by assumption) | rfl) (Nat.le_of_ble_eq_true rfl) ?_
      rw [bx_uu]
      refine V_aload_n rfl rfl ?_
      refine V_getfield rfl rfl (by first | assumption | exact blkW_0 | exact bAt_0 (by assumption) | rfl) (by rfl) ?_
      refine V_iconst (v := 2) rfl (by decide) ?_
      refine V_iload_n rfl rfl ?_
      refine V_iadd rfl ?_
      refine V_iconst (v := (-1)) rfl (by decide) ?_
      first | refine V_bast rfl rfl rfl (by first | with_reducible rfl | exact nI_add 2 _ | exact nI_add 26 _ | exact ix45 _ _ | exact ixm45 _ | exact ix25 _ | exact fa_lit _ | assumption) (by first | omega | assumption | decide) (by first | decide | omega | assumption) ?_ | refine V_iastore rfl (by first | assumption | exact blkW_i rfl rfl | exact blkW_z rfl rfl | exact bAt_i (by assumption) rfl rfl | exact bAt_z (by assumption) rfl rfl | rfl) (by first | with_reducible rfl | exact nI_add 2 _ | exact nI_add 26 _ | exact ix45 _ _ | exact ixm45 _ | exact ix25 _ | exact fa_lit _ | assumption) (by first | omega | assumption | decide) (by first | decide | omega | assumption) ?_
      refine V_inc3 rfl (by first | exact mInc _ | rfl) (by first | rfl | assumption) ?_
      refine V_goto rfl ?_
      refine V_wkh ih (by simp [mWk]) ?_
      rw [va_st, hl]
      rfl
  · refine V_iload_n rfl rfl ?_
    refine V_aload_n rfl rfl ?_
    refine V_getI rfl rfl (by first | assumption | exact blkW_0 | exact bAt_0 (by assumption) | rfl) (by rfl) (by first | exact mp_nC (by first | assumption | exact MP_rcS (by assumption) | exact MP_ar rfl (by assumption) | exact MP_sc rfl (by assumption)) | rfl) ?_
    refine V_icmp_geT rfl (nI_le (Nat.le_refl _) (by omega)) ?_
    refine V_aload_n rfl rfl ?_
    refine V_getfield rfl rfl (by first | assumption | exact blkW_0 | exact bAt_0 (by assumption) | rfl) (by rfl) ?_
    refine V_iconst (v := 0) rfl (by decide) ?_
    refine V_iald rfl (by first | assumption | exact blkW_i rfl rfl | exact blkW_z rfl rfl | exact bAt_i (by assumption) rfl rfl | exact bAt_z (by assumption) rfl rfl | rfl) (by first | with_reducible rfl | exact nI_add 2 _ | exact nI_add 26 _ | exact ix45 _ _ | exact ixm45 _ | exact ix25 _ | exact fa_lit _ | assumption) (by first | omega | assumption | decide) (by first | decide | omega | assumption) (by first | exact mp_isC (by first | assumption | exact MP_rcS (by assumption) | exact MP_ar rfl (by assumption) | exact MP_sc rfl (by assumption)) (by first | omega | assumption) | exact mp_par (by first | assumption | exact MP_rcS (by assumption) | exact MP_ar rfl (by assumption) | exact MP_sc rfl (by assumption)) (by first | omega | assumption) | exact mp_abv (by first | assumption | exact MP_rcS (by assumption) | exact MP_ar rfl (by assumption) | exact MP_sc rfl (by assumption)) (by first | omega | assumption) | exact mp_dep (by first | assumption | exact MP_rcS (by assumption) | exact MP_ar rfl (by assumption) | exact MP_sc rfl (by assumption)) (by first | omega | assumption) | exact mp_bT (by first | assumption | exact MP_rcS (by assumption) | exact MP_ar rfl (by assumption) | exact MP_sc rfl (by assumption)) (by first | omega | assumption) | exact mp_bM (by first | assumption | exact MP_rcS (by assumption) | exact MP_ar rfl (by assumption) | exact MP_sc rfl (by assumption)) (by first | omega | assumption) | exact mp_sK (by first | assumption | exact MP_rcS (by assumption) | exact MP_ar rfl (by assumption) | exact MP_sc rfl (by assumption)) (by first | omega | assumption) | exact mp_sB (by first | assumption | exact MP_rcS (by assumption) | exact MP_ar rfl (by assumption) | exact MP_sc rfl (by assumption)) (by first | omega | assumption) | exact mp_sT (by first | assumption | exact MP_rcS (by assumption) | exact MP_ar rfl (by assumption) | exact MP_sc rfl (by assumption)) (by first | omega | assumption) | exact mp_sM (by first | assumption | exact MP_rcS (by assumption) | exact MP_ar rfl (by assumption) | exact MP_sc rfl (by assumption)) (by first | omega | assumption) | exact mp_cS (by first | assumption | exact MP_rcS (by assumption) | exact MP_ar rfl (by assumption) | exact MP_sc rfl (by assumption)) (by first | omega | assumption) | exact va_g | exact va_n (by decide) | rfl) ?_
    refine V_callSi rfl rfl (Or.inl rfl) m_MD_bits_w m_MD_bits_x rfl rfl (s_bits _) (by decide) rfl (Nat.le_of_ble_eq_true rfl) ?_
    refine V_iload_n rfl rfl ?_
    refine V_isub rfl ?_
    refine V_ireturn rfl rfl (by first | rfl | exact b2_nar _ | assumption | decide) ?_
    exact P_ret rfl rfl
set_option maxRecDepth 20000 in
set_option maxHeartbeats 1000000 in
theorem w_bindNow (hm : MP p sc ar) (c : Nat) (hc : c < nC p) (ho : oneB (may p c (ar 15 0)) = true) : Mt g 6 m_MD_bindNow [.ref md, .int (nI c)] (blkW 7 h md sc ar) sz u (Pi (nI (low (may p c (ar 15 0)))) (blkW 7 h md sc (va_up ar 15 (bndF p (ar 15) c)))) sz u := by
  obtain ⟨hT, hB, hS, hC⟩ := hm.1.1
  have hx := low_lt ho
  refine Mt.of m_MD_bindNow_w m_MD_bindNow_x m_MD_bindNow_c rfl rfl (ls := [.ref md, .int (nI c), .retAddr 0]) rfl ?_
  refine V_aload_n rfl rfl ?_
  refine V_iload_n rfl rfl ?_
  refine V_aload_n rfl rfl ?_
  refine V_getfield rfl rfl (by first | assumption | exact blkW_0 | exact bAt_0 (by assumption) | rfl) (by rfl) ?_
  refine V_iconst (v := 0) rfl (by decide) ?_
  refine V_iald rfl (by first | assumption | exact blkW_i rfl rfl | exact blkW_z rfl rfl | exact bAt_i (by assumption) rfl rfl | exact bAt_z (by assumption) rfl rfl | rfl) (by first | with_reducible rfl | exact nI_add 2 _ | exact nI_add 26 _ | exact ix45 _ _ | exact ixm45 _ | exact ix25 _ | exact fa_lit _ | assumption) (by first | omega | assumption | decide) (by first | decide | omega | assumption) (by first | exact mp_isC (by first | assumption | exact MP_rcS (by assumption) | exact MP_ar rfl (by assumption) | exact MP_sc rfl (by assumption)) (by first | omega | assumption) | exact mp_par (by first | assumption | exact MP_rcS (by assumption) | exact MP_ar rfl (by assumption) | exact MP_sc rfl (by assumption)) (by first | omega | assumption) | exact mp_abv (by first | assumption | exact MP_rcS (by assumption) | exact MP_ar rfl (by assumption) | exact MP_sc rfl (by assumption)) (by first | omega | assumption) | exact mp_dep (by first | assumption | exact MP_rcS (by assumption) | exact MP_ar rfl (by assumption) | exact MP_sc rfl (by assumption)) (by first | omega | assumption) | exact mp_bT (by first | assumption | exact MP_rcS (by assumption) | exact MP_ar rfl (by assumption) | exact MP_sc rfl (by assumption)) (by first | omega | assumption) | exact mp_bM (by first | assumption | exact MP_rcS (by assumption) | exact MP_ar rfl (by assumption) | exact MP_sc rfl (by assumption)) (by first | omega | assumption) | exact mp_sK (by first | assumption | exact MP_rcS (by assumption) | exact MP_ar rfl (by assumption) | exact MP_sc rfl (by assumption)) (by first | omega | assumption) | exact mp_sB (by first | assumption | exact MP_rcS (by assumption) | exact MP_ar rfl (by assumption) | exact MP_sc rfl (by assumption)) (by first | omega | assumption) | exact mp_sT (by first | assumption | exact MP_rcS (by assumption) | exact MP_ar rfl (by assumption) | exact MP_sc rfl (by assumption)) (by first | omega | assumption) | exact mp_sM (by first | assumption | exact MP_rcS (by assumption) | exact MP_ar rfl (by assumption) | exact MP_sc rfl (by assumption)) (by first | omega | assumption) | exact mp_cS (by first | assumption | exact MP_rcS (by assumption) | exact MP_ar rfl (by assumption) | exact MP_sc rfl (by assumption)) (by first | omega | assumption) | exact va_g | exact va_n (by decide) | rfl) ?_
  refine V_callVi rfl rfl m_MD_mayOf_w m_MD_mayOf_x rfl (by decide) rfl (s_may (by first | assumption | exact blkW_at) (by first | assumption | exact MP_rcS (by assumption) | exact MP_ar rfl (by assumption) | exact MP_sc rfl (by assumption)) _ _ (by first | omega | assumption)) (by decide) rfl (by first | assumption | exact blkW_0 | exact bAt_0 (by assumption) | rfl) (Nat.le_of_ble_eq_true rfl) ?_
  refine V_callSi rfl rfl (Or.inl rfl) m_MD_lowest_w m_MD_lowest_x rfl rfl (s_lowest _ (by assumption)) (by decide) rfl (Nat.le_of_ble_eq_true rfl) ?_
  refine V_is2 rfl (by first | rfl | assumption) ?_
  refine V_aload_n rfl rfl ?_
  refine V_getfield rfl rfl (by first | assumption | exact blkW_0 | exact bAt_0 (by assumption) | rfl) (by rfl) ?_
  refine V_iconst (v := 2) rfl (by decide) ?_
  refine V_iload_n rfl rfl ?_
  refine V_iadd rfl ?_
  refine V_iload_n rfl rfl ?_
  first | refine V_bast rfl rfl rfl (by first | with_reducible rfl | exact nI_add 2 _ | exact nI_add 26 _ | exact ix45 _ _ | exact ixm45 _ | exact ix25 _ | exact fa_lit _ | assumption) (by first | omega | assumption | decide) (by first | decide | omega | assumption) ?_ | refine V_iastore rfl (by first | assumption | exact blkW_i rfl rfl | exact blkW_z rfl rfl | exact bAt_i (by assumption) rfl rfl | exact bAt_z (by assumption) rfl rfl | rfl) (by first | with_reducible rfl | exact nI_add 2 _ | exact nI_add 26 _ | exact ix45 _ _ | exact ixm45 _ | exact ix25 _ | exact fa_lit _ | assumption) (by first | omega | assumption | decide) (by first | decide | omega | assumption) ?_
  refine V_aload_n rfl rfl ?_
  refine V_iload_n rfl rfl ?_
  refine V_iload_n rfl rfl ?_
  refine V_iconst (v := 1) rfl (by decide) ?_
  refine V_callVn rfl rfl m_MD_write_w m_MD_write_x rfl (by decide) rfl (w_write _ _ _ (by first | omega | assumption) (by first | assumption | exact Or.inl rfl | exact Or.inr rfl)) (by decide) rfl (by first | assumption | exact blkW_0 | exact bAt_0 (by assumption) | rfl) (Nat.le_of_ble_eq_true rfl) ?_
  rw [bx_uu, show va_up ar 15 (upd (ar 15) (2 + c) (nI (low (may p c (ar 15 0))))) 15 = upd (ar 15) (2 + c) (nI (low (may p c (ar 15 0)))) from by simp [va_up]]
  refine V_iload_n rfl rfl ?_
  refine V_ireturn rfl rfl (by first | rfl | exact b2_nar _ | assumption | decide) ?_
  exact P_ret rfl rfl
set_option maxRecDepth 20000 in
set_option maxHeartbeats 1000000 in
theorem w_remember {un : Nat} (hu : sc 36 = nI un) (hun : un ≤ 8) : Mt g 0 m_MD_remember [.ref md] (blkW 7 h md sc ar) sz u (Pn (blkW 7 h md (upd sc 36 (nI (rmU un + 1))) (va_up ar 37 (rmP (ar 15) (ar 37) un)))) sz u := by
  refine Mt.of m_MD_remember_w m_MD_remember_x m_MD_remember_c rfl rfl (ls := [.ref md, .retAddr 0]) rfl ?_
  refine V_aload_n rfl rfl ?_
  refine V_getI rfl rfl (by first | assumption | exact blkW_0 | exact bAt_0 (by assumption) | rfl) (by rfl) (by first | exact pk_us | exact (by assumption) | exact rcS_o rfl | rfl) ?_
  refine V_bipush (v := 8) rfl (by decide) ?_
  have key : ∀ (sc2 : Nat → Int32) (Pa2 : Nat → Int32) (v1 : Value), sc2 36 = nI (rmU un) → upd sc2 36 (nI (rmU un + 1)) = upd sc 36 (nI (rmU un + 1)) → fb_put Pa2 (ar 15) (45 * rmU un) 45 = rmP (ar 15) (ar 37) un → V g 0 m_MD_remember (Pn (blkW 7 h md (upd sc 36 (nI (rmU un + 1))) (va_up ar 37 (rmP (ar 15) (ar 37) un)))) sz u 50 [.ref md, v1] [] (blkW 7 h md sc2 (va_up ar 37 Pa2)) sz u := by
    intro sc2 Pa2 v1 h36 he hp
    have hr : rmU un ≤ 7 := by unfold rmU; split <;> omega
    refine V_iconst (v := 0) rfl (by decide) ?_
    refine V_is1 rfl (by first | rfl | assumption) ?_
    refine V_for2 45 (fun i => [.ref md, .int (nI i)]) (fun i => blkW 7 h md sc2 (va_up ar 37 (fb_put Pa2 (ar 15) (45 * rmU un) i))) rfl (by rw [fb_put_0]) (fun i hi ih => ?_) ?_
    · refine V_iload_n rfl rfl ?_
      refine V_bipush (v := 45) rfl (by decide) ?_
      refine V_icmp_geF rfl (nI_ge (b := 45) hi (by decide)) ?_
      refine V_aload_n rfl rfl ?_
      refine V_getfield rfl rfl (by first | assumption | exact blkW_0 | exact bAt_0 (by assumption) | rfl) (by rfl) ?_
      refine V_bipush (v := 45) rfl (by decide) ?_
      refine V_aload_n rfl rfl ?_
      refine V_getI rfl rfl (by first | assumption | exact blkW_0 | exact bAt_0 (by assumption) | rfl) (by rfl) (by first | exact pk_us | exact (by assumption) | exact rcS_o rfl | rfl) ?_
      refine V_imul rfl ?_
      refine V_iload_n rfl rfl ?_
      refine V_iadd rfl ?_
      refine V_aload_n rfl rfl ?_
      refine V_getfield rfl rfl (by first | assumption | exact blkW_0 | exact bAt_0 (by assumption) | rfl) (by rfl) ?_
      refine V_iload_n rfl rfl ?_
      refine V_iald rfl (by first | assumption | exact blkW_i rfl rfl | exact blkW_z rfl rfl | exact bAt_i (by assumption) rfl rfl | exact bAt_z (by assumption) rfl rfl | rfl) (by first | with_reducible rfl | exact nI_add 2 _ | exact nI_add 26 _ | exact ix45 _ _ | exact ixm45 _ | exact ix25 _ | exact fa_lit _ | assumption) (by first | omega | assumption | decide) (by first | decide | omega | assumption) (by first | exact mp_isC (by first | assumption | exact MP_rcS (by assumption) | exact MP_ar rfl (by assumption) | exact MP_sc rfl (by assumption)) (by first | omega | assumption) | exact mp_par (by first | assumption | exact MP_rcS (by assumption) | exact MP_ar rfl (by assumption) | exact MP_sc rfl (by assumption)) (by first | omega | assumption) | exact mp_abv (by first | assumption | exact MP_rcS (by assumption) | exact MP_ar rfl (by assumption) | exact MP_sc rfl (by assumption)) (by first | omega | assumption) | exact mp_dep (by first | assumption | exact MP_rcS (by assumption) | exact MP_ar rfl (by assumption) | exact MP_sc rfl (by assumption)) (by first | omega | assumption) | exact mp_bT (by first | assumption | exact MP_rcS (by assumption) | exact MP_ar rfl (by assumption) | exact MP_sc rfl (by assumption)) (by first | omega | assumption) | exact mp_bM (by first | assumption | exact MP_rcS (by assumption) | exact MP_ar rfl (by assumption) | exact MP_sc rfl (by assumption)) (by first | omega | assumption) | exact mp_sK (by first | assumption | exact MP_rcS (by assumption) | exact MP_ar rfl (by assumption) | exact MP_sc rfl (by assumption)) (by first | omega | assumption) | exact mp_sB (by first | assumption | exact MP_rcS (by assumption) | exact MP_ar rfl (by assumption) | exact MP_sc rfl (by assumption)) (by first | omega | assumption) | exact mp_sT (by first | assumption | exact MP_rcS (by assumption) | exact MP_ar rfl (by assumption) | exact MP_sc rfl (by assumption)) (by first | omega | assumption) | exact mp_sM (by first | assumption | exact MP_rcS (by assumption) | exact MP_ar rfl (by assumption) | exact MP_sc rfl (by assumption)) (by first | omega | assumption) | exact mp_cS (by first | assumption | exact MP_rcS (by assumption) | exact MP_ar rfl (by assumption) | exact MP_sc rfl (by assumption)) (by first | omega | assumption) | exact va_g | exact va_n (by decide) | rfl) ?_
      first | refine V_bast rfl rfl rfl (by first | with_reducible rfl | exact nI_add 2 _ | exact nI_add 26 _ | exact ix45 _ _ | exact ixm45 _ | exact ix25 _ | exact fa_lit _ | assumption) (by first | omega | assumption | decide) (by first | decide | omega | assumption) ?_ | refine V_iastore rfl (by first | assumption | exact blkW_i rfl rfl | exact blkW_z rfl rfl | exact bAt_i (by assumption) rfl rfl | exact bAt_z (by assumption) rfl rfl | rfl) (by first | with_reducible rfl | exact nI_add 2 _ | exact nI_add 26 _ | exact ix45 _ _ | exact ixm45 _ | exact ix25 _ | exact fa_lit _ | assumption) (by first | omega | assumption | decide) (by first | decide | omega | assumption) ?_
      refine V_inc1 rfl (by first | exact mInc _ | rfl) (by first | rfl | assumption) ?_
      refine V_goto rfl ?_
      refine V_wkh ih (by simp [mWk]) ?_
      rw [va_st, ← fb_put_succ]
    · refine V_iload_n rfl rfl ?_
      refine V_bipush (v := 45) rfl (by decide) ?_
      refine V_icmp_geT rfl (nI_le (Nat.le_refl 45) (by decide)) ?_
      refine V_aload_n rfl rfl ?_
      refine V_dup rfl rfl ?_
      refine V_getI rfl rfl (by first | assumption | exact blkW_0 | exact bAt_0 (by assumption) | rfl) (by rfl) (by first | exact pk_us | exact (by assumption) | exact rcS_o rfl | rfl) ?_
      refine V_iconst (v := 1) rfl (by decide) ?_
      refine V_iadd rfl ?_
      first | refine V_bput rfl rfl rfl rfl rfl rfl ?_ | refine V_bputZ rfl rfl rfl rfl rfl rfl (by decide) ?_ | refine V_put rfl rfl (by first | assumption | rfl) (by decide) (fun _ hty => by cases hty; exact ⟨rfl, rfl⟩) (by first | exact Or.inl rfl | exact Or.inr ⟨rfl, rfl⟩) rfl ?_
      refine V_return rfl rfl ?_
      refine ⟨rfl, ?_⟩
      rw [hp, ← he, show nI (rmU un) + 1 = nI (rmU un + 1) from nI_1 _]
  by_cases e : un = 8
  · subst e
    refine V_icmp_neF rfl (rfl) ?_
    refine V_bipush (v := 45) rfl (by decide) ?_
    refine V_is1 rfl (by first | rfl | assumption) ?_
    refine V_for2 315 (fun i => [.ref md, .int (nI (45 + i))]) (fun i => blkW 7 h md sc (va_up ar 37 (fa_fill (fun x => ar 37 (x + 45)) (ar 37) i))) rfl (by rw [fa_fill_0, va_self]) (fun i hi ih => ?_) ?_
    · refine V_iload_n rfl rfl ?_
      refine V_sipush (v := 360) rfl (by decide) ?_
      refine V_icmp_geF rfl (nI_ge (b := 360) (show 45 + i < 360 by omega) (by decide)) ?_
      refine V_aload_n rfl rfl ?_
      refine V_getfield rfl rfl (by first | assumption | exact blkW_0 | exact bAt_0 (by assumption) | rfl) (by rfl) ?_
      refine V_iload_n rfl rfl ?_
      refine V_bipush (v := 45) rfl (by decide) ?_
      refine V_isub rfl ?_
      refine V_aload_n rfl rfl ?_
      refine V_getfield rfl rfl (by first | assumption | exact blkW_0 | exact bAt_0 (by assumption) | rfl) (by rfl) ?_
      refine V_iload_n rfl rfl ?_
      refine V_iald rfl (by first | assumption | exact blkW_i rfl rfl | exact blkW_z rfl rfl | exact bAt_i (by assumption) rfl rfl | exact bAt_z (by assumption) rfl rfl | rfl) (by first | with_reducible rfl | exact nI_add 2 _ | exact nI_add 26 _ | exact ix45 _ _ | exact ixm45 _ | exact ix25 _ | exact fa_lit _ | assumption) (by first | omega | assumption | decide) (by first | decide | omega | assumption) (by first | exact mp_isC (by first | assumption | exact MP_rcS (by assumption) | exact MP_ar rfl (by assumption) | exact MP_sc rfl (by assumption)) (by first | omega | assumption) | exact mp_par (by first | assumption | exact MP_rcS (by assumption) | exact MP_ar rfl (by assumption) | exact MP_sc rfl (by assumption)) (by first | omega | assumption) | exact mp_abv (by first | assumption | exact MP_rcS (by assumption) | exact MP_ar rfl (by assumption) | exact MP_sc rfl (by assumption)) (by first | omega | assumption) | exact mp_dep (by first | assumption | exact MP_rcS (by assumption) | exact MP_ar rfl (by assumption) | exact MP_sc rfl (by assumption)) (by first | omega | assumption) | exact mp_bT (by first | assumption | exact MP_rcS (by assumption) | exact MP_ar rfl (by assumption) | exact MP_sc rfl (by assumption)) (by first | omega | assumption) | exact mp_bM (by first | assumption | exact MP_rcS (by assumption) | exact MP_ar rfl (by assumption) | exact MP_sc rfl (by assumption)) (by first | omega | assumption) | exact mp_sK (by first | assumption | exact MP_rcS (by assumption) | exact MP_ar rfl (by assumption) | exact MP_sc rfl (by assumption)) (by first | omega | assumption) | exact mp_sB (by first | assumption | exact MP_rcS (by assumption) | exact MP_ar rfl (by assumption) | exact MP_sc rfl (by assumption)) (by first | omega | assumption) | exact mp_sT (by first | assumption | exact MP_rcS (by assumption) | exact MP_ar rfl (by assumption) | exact MP_sc rfl (by assumption)) (by first | omega | assumption) | exact mp_sM (by first | assumption | exact MP_rcS (by assumption) | exact MP_ar rfl (by assumption) | exact MP_sc rfl (by assumption)) (by first | omega | assumption) | exact mp_cS (by first | assumption | exact MP_rcS (by assumption) | exact MP_ar rfl (by assumption) | exact MP_sc rfl (by assumption)) (by first | omega | assumption) | exact va_g | exact va_n (by decide) | rfl) ?_
      rw [fa_fill_out (by omega)]
      first | refine V_bast rfl rfl rfl (by first | with_reducible rfl | exact nI_add 2 _ | exact nI_add 26 _ | exact ix45 _ _ | exact ixm45 _ | exact ix25 _ | exact fa_lit _ | assumption) (by first | omega | assumption | decide) (by first | decide | omega | assumption) ?_ | refine V_iastore rfl (by first | assumption | exact blkW_i rfl rfl | exact blkW_z rfl rfl | exact bAt_i (by assumption) rfl rfl | exact bAt_z (by assumption) rfl rfl | rfl) (by first | with_reducible rfl | exact nI_add 2 _ | exact nI_add 26 _ | exact ix45 _ _ | exact ixm45 _ | exact ix25 _ | exact fa_lit _ | assumption) (by first | omega | assumption | decide) (by first | decide | omega | assumption) ?_
      refine V_inc1 rfl (by first | exact mInc _ | rfl) (by first | rfl | assumption) ?_
      refine V_goto rfl ?_
      refine V_wkh ih (by simp [mWk]; rw [Nat.add_assoc]) ?_
      rw [va_st, ← fa_fill_succ, Nat.add_comm 45 i]
    · refine V_iload_n rfl rfl ?_
      refine V_sipush (v := 360) rfl (by decide) ?_
      refine V_icmp_geT rfl (by decide) ?_
      refine V_aload_n rfl rfl ?_
      refine V_dup rfl rfl ?_
      refine V_getI rfl rfl (by first | assumption | exact blkW_0 | exact bAt_0 (by assumption) | rfl) (by rfl) (by first | exact pk_us | exact (by assumption) | exact rcS_o rfl | rfl) ?_
      refine V_iconst (v := 1) rfl (by decide) ?_
      refine V_isub rfl ?_
      first | refine V_bput rfl rfl rfl rfl rfl rfl ?_ | refine V_bputZ rfl rfl rfl rfl rfl rfl (by decide) ?_ | refine V_put rfl rfl (by first | assumption | rfl) (by decide) (fun _ hty => by cases hty; exact ⟨rfl, rfl⟩) (by first | exact Or.inl rfl | exact Or.inr ⟨rfl, rfl⟩) rfl ?_
      exact key _ _ _ rfl (by rw [fa_upd_twice]) rfl
  · refine V_icmp_neT rfl (fun q => e ((nI_eq (b := 8) (by omega) (by decide)).mp q)) ?_
    have e2 : rmU un = un := if_neg e
    refine V_wkh (key sc (ar 37) (.retAddr 0) (by rw [e2]; exact hu) rfl (by unfold rmP; rw [if_neg e])) (by simp [mWk]) (by rw [va_self])
end mwrite
