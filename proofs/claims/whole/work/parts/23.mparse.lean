/-! ===== the text: blanks, figures, numbers ===== -/
/-- the parser's own numbers and rows in the reference -/
def psK (k : Nat) : Bool := [18, 19, 20, 21, 22, 26, 29].contains k
def psS (sc f : Nat → Int32) : Nat → Int32 := fun k => if psK k then f k else sc k
def arK (k : Nat) : Bool := [23, 24, 25, 27, 28, 30, 31, 32, 33].contains k
def arS (ar q : Nat → Nat → Int32) : Nat → Nat → Int32 := fun k => if arK k then q k else ar k
theorem psS_g {sc f : Nat → Int32} {k : Nat} (h : psK k = true) : psS sc f k = f k := by unfold psS; rw [if_pos h]
theorem psS_o {sc f : Nat → Int32} {k : Nat} (h : psK k = false) : psS sc f k = sc k := by unfold psS; rw [if_neg (by rw [h]; decide)]
theorem arS_g {ar q : Nat → Nat → Int32} {k j : Nat} (h : arK k = true) : arS ar q k j = q k j := by unfold arS; rw [if_pos h]
theorem arS_o {ar q : Nat → Nat → Int32} {k j : Nat} (h : arK k = false) : arS ar q k j = ar k j := by unfold arS; rw [if_neg (by rw [h]; decide)]
theorem psS_u {sc f : Nat → Int32} {k : Nat} {v : Int32} (h : psK k = true) : upd (psS sc f) k v = psS sc (upd f k v) := by
  funext j
  by_cases e : j = k
  · subst e; rw [pk_us, psS_g h, pk_us]
  · rw [pk_un e]
    unfold psS
    rw [pk_un e]
theorem arS_u {ar q : Nat → Nat → Int32} {k : Nat} {v : Nat → Int32} (h : arK k = true) : va_up (arS ar q) k v = arS ar (va_up q k v) := by
  funext j
  by_cases e : j = k
  · subst e
    unfold arS
    rw [if_pos h]
    simp [va_up]
  · unfold arS
    simp [va_up, e]
theorem arS_ge {ar q : Nat → Nat → Int32} {k : Nat} (h : arK k = true) : arS ar q k = q k := by unfold arS; rw [if_pos h]
theorem V_pput {g : mG} {d : Nat} {M : mM} {P : Option Value → mH → Prop} {sz' u' pc n t : Nat} {ls st : List Value} {h : mH} {sz u b : Nat} {sc f : Nat → Int32} {ar : Nat → Nat → Int32} {i k w : Nat} {x : Int32} (hf : mF M pc = some (.putfield i, 3, n, t)) (hl : mFld M.1 i = some (7, k, w)) (hp : psK k = true) (hk : obS 7 k = true) (hlen : Nat.blt k 41 = true)
    (kk : V g d M P sz' u' n ls st (blkW 7 h b (psS sc (upd f k x)) ar) sz u) : V g d M P sz' u' pc ls (.int x :: .ref b :: st) (blkW 7 h b (psS sc f) ar) sz u := by
  have h1 : mTy 7 k = .int ∧ (vwCl[7]?.map fun r => (r.2.1 k).2.2.2) = some false := by
    simp only [psK, List.contains_iff_mem, List.mem_cons, List.not_mem_nil, or_false] at hp
    rcases hp with rfl | rfl | rfl | rfl | rfl | rfl | rfl <;> exact ⟨rfl, rfl⟩
  exact V_bput hf hl hk h1.1 h1.2 hlen (by rw [psS_u hp]; exact kk)
theorem V_past {g : mG} {d : Nat} {M : mM} {P : Option Value → mH → Prop} {sz' u' pc n t : Nat} {ls st : List Value} {h : mH} {sz u b : Nat} {sc : Nat → Int32} {ar q : Nat → Nat → Int32} {o k N j : Nat} {i x : Int32} (hf : mF M pc = some (.iastore, 1, n, t)) (ho : Nat.ble 1 o = true) (hk : arT 7 o = some (0, k, N)) (hp : arK k = true) (hi : i = nI j) (hj : j < N) (hN : N < 2 ^ 31)
    (kk : V g d M P sz' u' n ls st (blkW 7 h b sc (arS ar (va_up q k (upd (q k) j x)))) sz u) : V g d M P sz' u' pc ls (.int x :: .int i :: .ref (b + o) :: st) (blkW 7 h b sc (arS ar q)) sz u :=
  V_bast hf ho hk hi hj hN (by rw [arS_u hp, arS_ge hp]; exact kk)
theorem V_pastZ {g : mG} {d : Nat} {M : mM} {P : Option Value → mH → Prop} {sz' u' pc n t : Nat} {ls st : List Value} {h : mH} {sz u b : Nat} {sc : Nat → Int32} {ar q : Nat → Nat → Int32} {o k N j : Nat} {i x : Int32} (hf : mF M pc = some (.bastore, 1, n, t)) (ho : Nat.ble 1 o = true) (hk : arT 7 o = some (1, k, N)) (hp : arK k = true) (hi : i = nI j) (hj : j < N) (hN : N < 2 ^ 31) (hx : x = 0 ∨ x = 1)
    (kk : V g d M P sz' u' n ls st (blkW 7 h b sc (arS ar (va_up q k (upd (q k) j x)))) sz u) : V g d M P sz' u' pc ls (.int x :: .int i :: .ref (b + o) :: st) (blkW 7 h b sc (arS ar q)) sz u :=
  V_bastZ hf ho hk hi hj hN hx (by rw [arS_u hp, arS_ge hp]; exact kk)
/-- from a on, the first that is no blank (or the end) -/
def skp (T : Nat → Int32) (n a : Nat) : Nat := a + fa_first (fun i => !decide (T (a + i) = 32)) (n - a)
def isD (x : Int32) : Bool := decide (48 ≤ x ∧ x ≤ 57)
/-- from s on, the first that is no figure (or the end) -/
def dgE (T : Nat → Int32) (n s : Nat) : Nat := s + fa_first (fun i => !isD (T (s + i))) (n - s)
def hv (T : Nat → Int32) (n a : Nat) : Int32 := if skp T n a < n then T (skp T n a) else -1
/-- the number behind k figures from s on -/
def nuM (T : Nat → Int32) (s : Nat) : Nat → Int32
  | 0 => 0
  | k + 1 => if 1000 < nuM T s k then nuM T s k else 10 * nuM T s k + T (s + k) - 48
theorem skp_le {T : Nat → Int32} {n a : Nat} (h : a ≤ n) : skp T n a ≤ n := by
  unfold skp
  have := fa_first_le (fun i => !decide (T (a + i) = 32)) (n - a)
  omega
theorem skp_ge (T : Nat → Int32) (n a : Nat) : a ≤ skp T n a := Nat.le_add_right _ _
theorem dgE_le {T : Nat → Int32} {n a : Nat} (h : a ≤ n) : dgE T n a ≤ n := by
  unfold dgE
  have := fa_first_le (fun i => !isD (T (a + i))) (n - a)
  omega
theorem in_D (x : Int32) : decide ((48 : Int64) ≤ x.toInt64 ∧ x.toInt64 ≤ 57) = isD x := by
  apply decide_eq_decide.mpr
  rw [show (48 : Int64) = (48 : Int32).toInt64 by rfl, show (57 : Int64) = (57 : Int32).toInt64 by rfl, fa_wide_le, fa_wide_le]
section mparse
variable {g : mG} {h : mH} {sz u md : Nat} {p : Pg} {sc f : Nat → Int32} {ar q : Nat → Nat → Int32}
set_option maxRecDepth 20000 in
set_option maxHeartbeats 1000000 in
theorem w_here {n a : Nat} (h17 : sc 17 = nI n ∧ n ≤ 240) (h19 : f 19 = nI a ∧ a < 2 ^ 30) : Mt g 0 m_MD_here [.ref md] (blkW 7 h md (psS sc f) (arS ar q)) sz u (Pi (hv (ar 16) n a) (blkW 7 h md (psS sc (upd f 19 (nI (skp (ar 16) n a)))) (arS ar q))) sz u := by
  obtain ⟨h17, hn⟩ := h17
  obtain ⟨h19, ha⟩ := h19
  have hk := fa_first_le (fun i => !decide (ar 16 (a + i) = 32)) (n - a)
  generalize hK : fa_first (fun i => !decide (ar 16 (a + i) = 32)) (n - a) = K at hk
  have hs : skp (ar 16) n a = a + K := by unfold skp; rw [hK]
  have hve : hv (ar 16) n a = if a + K < n then ar 16 (a + K) else -1 := by unfold hv; rw [hs]
  rw [hve, hs]
  refine Mt.of m_MD_here_w m_MD_here_x m_MD_here_c rfl rfl (ls := [.ref md]) rfl ?_
  refine V_for2 K (fun _ => [.ref md]) (fun i => blkW 7 h md (psS sc (upd f 19 (nI (a + i)))) (arS ar q)) rfl (by rw [Nat.add_zero, fa_upd_same h19]) (fun i hi ih => ?_) ?_
  · have hb := fa_first_no (fun i => !decide (ar 16 (a + i) = 32)) (n - a) i (by rw [hK]; exact hi)
    have hb : ar 16 (a + i) = 32 := by simpa using hb
    refine V_aload_n rfl rfl ?_
    refine V_getI rfl rfl (by first | assumption | exact blkW_0 | exact bAt_0 (by assumption) | rfl) (by rfl) (by first | exact (psS_g rfl).trans (by assumption) | exact (psS_g rfl).trans pk_us | exact (psS_g rfl).trans ((pk_un (by decide)).trans (by assumption)) | exact (psS_g rfl).trans ((pk_un (by decide)).trans pk_us) | exact (psS_g rfl).trans ((pk_un (by decide)).trans ((pk_un (by decide)).trans (by assumption))) | exact psS_g rfl | rfl) ?_
    refine V_aload_n rfl rfl ?_
    refine V_getI rfl rfl (by first | assumption | exact blkW_0 | exact bAt_0 (by assumption) | rfl) (by rfl) (by first | exact (psS_o rfl).trans (by assumption) | exact pk_us | exact (by assumption) | exact rcS_o rfl | rfl) ?_
    refine V_icmp_geF rfl (nI_ge (show a + i < n by omega) (by omega)) ?_
    refine V_aload_n rfl rfl ?_
    refine V_getfield rfl rfl (by first | assumption | exact blkW_0 | exact bAt_0 (by assumption) | rfl) (by rfl) ?_
    refine V_aload_n rfl rfl ?_
    refine V_getI rfl rfl (by first | assumption | exact blkW_0 | exact bAt_0 (by assumption) | rfl) (by rfl) (by first | exact (psS_g rfl).trans (by assumption) | exact (psS_g rfl).trans pk_us | exact (psS_g rfl).trans ((pk_un (by decide)).trans (by assumption)) | exact (psS_g rfl).trans ((pk_un (by decide)).trans pk_us) | exact (psS_g rfl).trans ((pk_un (by decide)).trans ((pk_un (by decide)).trans (by assumption))) | exact psS_g rfl | rfl) ?_
    refine V_iald rfl (by first | assumption | exact blkW_i rfl rfl | exact blkW_z rfl rfl | exact bAt_i (by assumption) rfl rfl | exact bAt_z (by assumption) rfl rfl | rfl) (by first | with_reducible rfl | exact nI_add 2 _ | exact nI_add 26 _ | exact ix45 _ _ | exact ixm45 _ | exact ix25 _ | exact fa_lit _ | assumption) (by first | omega | assumption | decide) (by first | decide | omega | assumption) (by first | exact arS_o rfl | exact arS_g rfl | exact mp_isC (by first | assumption | exact MP_rcS (by assumption) | exact MP_ar rfl (by assumption) | exact MP_sc rfl (by assumption)) (by first | omega | assumption) | exact mp_par (by first | assumption | exact MP_rcS (by assumption) | exact MP_ar rfl (by assumption) | exact MP_sc rfl (by assumption)) (by first | omega | assumption) | exact mp_abv (by first | assumption | exact MP_rcS (by assumption) | exact MP_ar rfl (by assumption) | exact MP_sc rfl (by assumption)) (by first | omega | assumption) | exact mp_dep (by first | assumption | exact MP_rcS (by assumption) | exact MP_ar rfl (by assumption) | exact MP_sc rfl (by assumption)) (by first | omega | assumption) | exact mp_bT (by first | assumption | exact MP_rcS (by assumption) | exact MP_ar rfl (by assumption) | exact MP_sc rfl (by assumption)) (by first | omega | assumption) | exact mp_bM (by first | assumption | exact MP_rcS (by assumption) | exact MP_ar rfl (by assumption) | exact MP_sc rfl (by assumption)) (by first | omega | assumption) | exact mp_sK (by first | assumption | exact MP_rcS (by assumption) | exact MP_ar rfl (by assumption) | exact MP_sc rfl (by assumption)) (by first | omega | assumption) | exact mp_sB (by first | assumption | exact MP_rcS (by assumption) | exact MP_ar rfl (by assumption) | exact MP_sc rfl (by assumption)) (by first | omega | assumption) | exact mp_sT (by first | assumption | exact MP_rcS (by assumption) | exact MP_ar rfl (by assumption) | exact MP_sc rfl (by assumption)) (by first | omega | assumption) | exact mp_sM (by first | assumption | exact MP_rcS (by assumption) | exact MP_ar rfl (by assumption) | exact MP_sc rfl (by assumption)) (by first | omega | assumption) | exact mp_cS (by first | assumption | exact MP_rcS (by assumption) | exact MP_ar rfl (by assumption) | exact MP_sc rfl (by assumption)) (by first | omega | assumption) | exact va_g | exact va_n (by decide) | rfl) ?_
    refine V_bipush (v := 32) rfl (by decide) ?_
    refine V_icmp_neF rfl (hb) ?_
    refine V_aload_n rfl rfl ?_
    refine V_dup rfl rfl ?_
    refine V_getI rfl rfl (by first | assumption | exact blkW_0 | exact bAt_0 (by assumption) | rfl) (by rfl) (by first | exact (psS_g rfl).trans (by assumption) | exact (psS_g rfl).trans pk_us | exact (psS_g rfl).trans ((pk_un (by decide)).trans (by assumption)) | exact (psS_g rfl).trans ((pk_un (by decide)).trans pk_us) | exact (psS_g rfl).trans ((pk_un (by decide)).trans ((pk_un (by decide)).trans (by assumption))) | exact psS_g rfl | rfl) ?_
    refine V_iconst (v := 1) rfl (by decide) ?_
    refine V_iadd rfl ?_
    rw [show nI (a + i) + 1 = nI (a + (i + 1)) from nI_1 (a + i)]
    first | refine V_pput rfl rfl rfl rfl rfl ?_ | refine V_bput rfl rfl rfl rfl rfl rfl ?_ | refine V_bputZ rfl rfl rfl rfl rfl rfl (by decide) ?_ | refine V_put rfl rfl (by first | assumption | rfl) (by decide) (fun _ hty => by cases hty; exact ⟨rfl, rfl⟩) (by first | exact Or.inl rfl | exact Or.inr ⟨rfl, rfl⟩) rfl ?_
    refine V_goto rfl ?_
    rw [fa_upd_twice]
    exact ih
  · by_cases hlt : a + K < n
    · have hy := fa_first_yes (fun i => !decide (ar 16 (a + i) = 32)) (n - a) (by rw [hK]; omega)
      rw [hK] at hy
      have hy : ¬ ar 16 (a + K) = 32 := by simpa using hy
      rw [if_pos hlt]
      refine V_aload_n rfl rfl ?_
      refine V_getI rfl rfl (by first | assumption | exact blkW_0 | exact bAt_0 (by assumption) | rfl) (by rfl) (by first | exact (psS_g rfl).trans (by assumption) | exact (psS_g rfl).trans pk_us | exact (psS_g rfl).trans ((pk_un (by decide)).trans (by assumption)) | exact (psS_g rfl).trans ((pk_un (by decide)).trans pk_us) | exact (psS_g rfl).trans ((pk_un (by decide)).trans ((pk_un (by decide)).trans (by assumption))) | exact psS_g rfl | rfl) ?_
      refine V_aload_n rfl rfl ?_
      refine V_getI rfl rfl (by first | assumption | exact blkW_0 | exact bAt_0 (by assumption) | rfl) (by rfl) (by first | exact (psS_o rfl).trans (by assumption) | exact pk_us | exact (by assumption) | exact rcS_o rfl | rfl) ?_
      refine V_icmp_geF rfl (nI_ge hlt (by omega)) ?_
      refine V_aload_n rfl rfl ?_
      refine V_getfield rfl rfl (by first | assumption | exact blkW_0 | exact bAt_0 (by assumption) | rfl) (by rfl) ?_
      refine V_aload_n rfl rfl ?_
      refine V_getI rfl rfl (by first | assumption | exact blkW_0 | exact bAt_0 (by assumption) | rfl) (by rfl) (by first | exact (psS_g rfl).trans (by assumption) | exact (psS_g rfl).trans pk_us | exact (psS_g rfl).trans ((pk_un (by decide)).trans (by assumption)) | exact (psS_g rfl).trans ((pk_un (by decide)).trans pk_us) | exact (psS_g rfl).trans ((pk_un (by decide)).trans ((pk_un (by decide)).trans (by assumption))) | exact psS_g rfl | rfl) ?_
      refine V_iald rfl (by first | assumption | exact blkW_i rfl rfl | exact blkW_z rfl rfl | exact bAt_i (by assumption) rfl rfl | exact bAt_z (by assumption) rfl rfl | rfl) (by first | with_reducible rfl | exact nI_add 2 _ | exact nI_add 26 _ | exact ix45 _ _ | exact ixm45 _ | exact ix25 _ | exact fa_lit _ | assumption) (by first | omega | assumption | decide) (by first | decide | omega | assumption) (by first | exact arS_o rfl | exact arS_g rfl | exact mp_isC (by first | assumption | exact MP_rcS (by assumption) | exact MP_ar rfl (by assumption) | exact MP_sc rfl (by assumption)) (by first | omega | assumption) | exact mp_par (by first | assumption | exact MP_rcS (by assumption) | exact MP_ar rfl (by assumption) | exact MP_sc rfl (by assumption)) (by first | omega | assumption) | exact mp_abv (by first | assumption | exact MP_rcS (by assumption) | exact MP_ar rfl (by assumption) | exact MP_sc rfl (by assumption)) (by first | omega | assumption) | exact mp_dep (by first | assumption | exact MP_rcS (by assumption) | exact MP_ar rfl (by assumption) | exact MP_sc rfl (by assumption)) (by first | omega | assumption) | exact mp_bT (by first | assumption | exact MP_rcS (by assumption) | exact MP_ar rfl (by assumption) | exact MP_sc rfl (by assumption)) (by first | omega | assumption) | exact mp_bM (by first | assumption | exact MP_rcS (by assumption) | exact MP_ar rfl (by assumption) | exact MP_sc rfl (by assumption)) (by first | omega | assumption) | exact mp_sK (by first | assumption | exact MP_rcS (by assumption) | exact MP_ar rfl (by assumption) | exact MP_sc rfl (by assumption)) (by first | omega | assumption) | exact mp_sB (by first | assumption | exact MP_rcS (by assumption) | exact MP_ar rfl (by assumption) | exact MP_sc rfl (by assumption)) (by first | omega | assumption) | exact mp_sT (by first | assumption | exact MP_rcS (by assumption) | exact MP_ar rfl (by assumption) | exact MP_sc rfl (by assumption)) (by first | omega | assumption) | exact mp_sM (by first | assumption | exact MP_rcS (by assumption) | exact MP_ar rfl (by assumption) | exact MP_sc rfl (by assumption)) (by first | omega | assumption) | exact mp_cS (by first | assumption | exact MP_rcS (by assumption) | exact MP_ar rfl (by assumption) | exact MP_sc rfl (by assumption)) (by first | omega | assumption) | exact va_g | exact va_n (by decide) | rfl) ?_
      refine V_bipush (v := 32) rfl (by decide) ?_
      refine V_icmp_neT rfl (hy) ?_
      refine V_aload_n rfl rfl ?_
      refine V_getI rfl rfl (by first | assumption | exact blkW_0 | exact bAt_0 (by assumption) | rfl) (by rfl) (by first | exact (psS_g rfl).trans (by assumption) | exact (psS_g rfl).trans pk_us | exact (psS_g rfl).trans ((pk_un (by decide)).trans (by assumption)) | exact (psS_g rfl).trans ((pk_un (by decide)).trans pk_us) | exact (psS_g rfl).trans ((pk_un (by decide)).trans ((pk_un (by decide)).trans (by assumption))) | exact psS_g rfl | rfl) ?_
      refine V_aload_n rfl rfl ?_
      refine V_getI rfl rfl (by first | assumption | exact blkW_0 | exact bAt_0 (by assumption) | rfl) (by rfl) (by first | exact (psS_o rfl).trans (by assumption) | exact pk_us | exact (by assumption) | exact rcS_o rfl | rfl) ?_
      refine V_icmp_geF rfl (nI_ge hlt (by omega)) ?_
      refine V_aload_n rfl rfl ?_
      refine V_getfield rfl rfl (by first | assumption | exact blkW_0 | exact bAt_0 (by assumption) | rfl) (by rfl) ?_
      refine V_aload_n rfl rfl ?_
      refine V_getI rfl rfl (by first | assumption | exact blkW_0 | exact bAt_0 (by assumption) | rfl) (by rfl) (by first | exact (psS_g rfl).trans (by assumption) | exact (psS_g rfl).trans pk_us | exact (psS_g rfl).trans ((pk_un (by decide)).trans (by assumption)) | exact (psS_g rfl).trans ((pk_un (by decide)).trans pk_us) | exact (psS_g rfl).trans ((pk_un (by decide)).trans ((pk_un (by decide)).trans (by assumption))) | exact psS_g rfl | rfl) ?_
      refine V_iald rfl (by first | assumption | exact blkW_i rfl rfl | exact blkW_z rfl rfl | exact bAt_i (by assumption) rfl rfl | exact bAt_z (by assumption) rfl rfl | rfl) (by first | with_reducible rfl | exact nI_add 2 _ | exact nI_add 26 _ | exact ix45 _ _ | exact ixm45 _ | exact ix25 _ | exact fa_lit _ | assumption) (by first | omega | assumption | decide) (by first | decide | omega | assumption) (by first | exact arS_o rfl | exact arS_g rfl | exact mp_isC (by first | assumption | exact MP_rcS (by assumption) | exact MP_ar rfl (by assumption) | exact MP_sc rfl (by assumption)) (by first | omega | assumption) | exact mp_par (by first | assumption | exact MP_rcS (by assumption) | exact MP_ar rfl (by assumption) | exact MP_sc rfl (by assumption)) (by first | omega | assumption) | exact mp_abv (by first | assumption | exact MP_rcS (by assumption) | exact MP_ar rfl (by assumption) | exact MP_sc rfl (by assumption)) (by first | omega | assumption) | exact mp_dep (by first | assumption | exact MP_rcS (by assumption) | exact MP_ar rfl (by assumption) | exact MP_sc rfl (by assumption)) (by first | omega | assumption) | exact mp_bT (by first | assumption | exact MP_rcS (by assumption) | exact MP_ar rfl (by assumption) | exact MP_sc rfl (by assumption)) (by first | omega | assumption) | exact mp_bM (by first | assumption | exact MP_rcS (by assumption) | exact MP_ar rfl (by assumption) | exact MP_sc rfl (by assumption)) (by first | omega | assumption) | exact mp_sK (by first | assumption | exact MP_rcS (by assumption) | exact MP_ar rfl (by assumption) | exact MP_sc rfl (by assumption)) (by first | omega | assumption) | exact mp_sB (by first | assumption | exact MP_rcS (by assumption) | exact MP_ar rfl (by assumption) | exact MP_sc rfl (by assumption)) (by first | omega | assumption) | exact mp_sT (by first | assumption | exact MP_rcS (by assumption) | exact MP_ar rfl (by assumption) | exact MP_sc rfl (by assumption)) (by first | omega | assumption) | exact mp_sM (by first | assumption | exact MP_rcS (by assumption) | exact MP_ar rfl (by assumption) | exact MP_sc rfl (by assumption)) (by first | omega | assumption) | exact mp_cS (by first | assumption | exact MP_rcS (by assumption) | exact MP_ar rfl (by assumption) | exact MP_sc rfl (by assumption)) (by first | omega | assumption) | exact va_g | exact va_n (by decide) | rfl) ?_
      refine V_goto rfl ?_
      refine V_ireturn rfl rfl (by first | rfl | exact b2_nar _ | assumption | decide) ?_
      exact P_ret rfl rfl
    · rw [if_neg hlt]
      refine V_aload_n rfl rfl ?_
      refine V_getI rfl rfl (by first | assumption | exact blkW_0 | exact bAt_0 (by assumption) | rfl) (by rfl) (by first | exact (psS_g rfl).trans (by assumption) | exact (psS_g rfl).trans pk_us | exact (psS_g rfl).trans ((pk_un (by decide)).trans (by assumption)) | exact (psS_g rfl).trans ((pk_un (by decide)).trans pk_us) | exact (psS_g rfl).trans ((pk_un (by decide)).trans ((pk_un (by decide)).trans (by assumption))) | exact psS_g rfl | rfl) ?_
      refine V_aload_n rfl rfl ?_
      refine V_getI rfl rfl (by first | assumption | exact blkW_0 | exact bAt_0 (by assumption) | rfl) (by rfl) (by first | exact (psS_o rfl).trans (by assumption) | exact pk_us | exact (by assumption) | exact rcS_o rfl | rfl) ?_
      refine V_icmp_geT rfl (nI_le (by omega) (by omega)) ?_
      refine V_aload_n rfl rfl ?_
      refine V_getI rfl rfl (by first | assumption | exact blkW_0 | exact bAt_0 (by assumption) | rfl) (by rfl) (by first | exact (psS_g rfl).trans (by assumption) | exact (psS_g rfl).trans pk_us | exact (psS_g rfl).trans ((pk_un (by decide)).trans (by assumption)) | exact (psS_g rfl).trans ((pk_un (by decide)).trans pk_us) | exact (psS_g rfl).trans ((pk_un (by decide)).trans ((pk_un (by decide)).trans (by assumption))) | exact psS_g rfl | rfl) ?_
      refine V_aload_n rfl rfl ?_
      refine V_getI rfl rfl (by first | assumption | exact blkW_0 | exact bAt_0 (by assumption) | rfl) (by rfl) (by first | exact (psS_o rfl).trans (by assumption) | exact pk_us | exact (by assumption) | exact rcS_o rfl | rfl) ?_
      refine V_icmp_geT rfl (nI_le (by omega) (by omega)) ?_
      refine V_iconst (v := (-1)) rfl (by decide) ?_
      refine V_ireturn rfl rfl (by first | rfl | exact b2_nar _ | assumption | decide) ?_
      exact P_ret rfl rfl
set_option maxRecDepth 20000 in
set_option maxHeartbeats 1000000 in
theorem w_fails (x y : Int32) : Mt g 0 m_MD_fails [.ref md, .int x, .int y] (blkW 7 h md (psS sc f) (arS ar q)) sz u (Pi x (blkW 7 h md (psS sc (upd f 18 y)) (arS ar q))) sz u := by
  refine Mt.of m_MD_fails_w m_MD_fails_x m_MD_fails_c rfl rfl (ls := [.ref md, .int x, .int y]) rfl ?_
  refine V_aload_n rfl rfl ?_
  refine V_iload_n rfl rfl ?_
  first | refine V_pput rfl rfl rfl rfl rfl ?_ | refine V_bput rfl rfl rfl rfl rfl rfl ?_ | refine V_bputZ rfl rfl rfl rfl rfl rfl (by decide) ?_ | refine V_put rfl rfl (by first | assumption | rfl) (by decide) (fun _ hty => by cases hty; exact ⟨rfl, rfl⟩) (by first | exact Or.inl rfl | exact Or.inr ⟨rfl, rfl⟩) rfl ?_
  refine V_iload_n rfl rfl ?_
  refine V_ireturn rfl rfl (by first | rfl | exact b2_nar _ | assumption | decide) ?_
  exact P_ret rfl rfl
end mparse
