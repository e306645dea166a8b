/-! ===== reading: an answer, or a fault's number and place ===== -/
abbrev Rs (α : Type) : Type := (Nat × Nat) ⊕ α
def RP {α : Type} (h : mH) (md : Nat) (sc : Nat → Int32) (ar : Nat → Nat → Int32) (E : (Nat → Int32) → Prop) (x : Rs α) (K : α → (Nat → Int32) → (Nat → Nat → Int32) → Prop) : Option Value → mH → Prop := fun r h' => match x with
  | .inl y => (1 ≤ y.1 ∧ y.1 ≤ 4) ∧ FL h md sc ar E (nI y.1) y.2 r h'
  | .inr y => r = some (.int 0) ∧ ∃ f q, h' = blkW 7 h md (psS sc f) (arS ar q) ∧ K y f q
theorem RP_no {α : Type} {h : mH} {md : Nat} {sc f : Nat → Int32} {ar q : Nat → Nat → Int32} {E : (Nat → Int32) → Prop} {x : Rs α} {K : α → (Nat → Int32) → (Nat → Nat → Int32) → Prop} {k s : Nat} {v : Int32} (hx : x = .inl (k, s)) (hk : 1 ≤ k ∧ k ≤ 4) (hv : v = nI k) (hs : f 18 = nI s) (hE : E f) : RP h md sc ar E x K (some (.int v)) (blkW 7 h md (psS sc f) (arS ar q)) := by
  subst hx; subst hv
  exact ⟨hk, rfl, f, q, rfl, hs, hE⟩
theorem RP_ok {α : Type} {h : mH} {md : Nat} {sc f : Nat → Int32} {ar q : Nat → Nat → Int32} {E : (Nat → Int32) → Prop} {x : Rs α} {K : α → (Nat → Int32) → (Nat → Nat → Int32) → Prop} {y : α} (hx : x = .inr y) (hK : K y f q) : RP h md sc ar E x K (some (.int 0)) (blkW 7 h md (psS sc f) (arS ar q)) := by
  subst hx
  exact ⟨rfl, f, q, rfl, hK⟩
def pNum (T : Nat → Int32) (n a m : Nat) : Rs (Nat × Nat × Nat) :=
  if isNm T n a then (if dgE T n (skp T n a) - skp T n a ≤ 2 ∧ vN T (skp T n a) (dgE T n (skp T n a) - skp T n a) < m then .inr (vN T (skp T n a) (dgE T n (skp T n a) - skp T n a), dgE T n (skp T n a), skp T n a) else .inl (2, skp T n a)) else .inl (1, skp T n a)
theorem pNum_ok {T : Nat → Int32} {n a m v e s : Nat} (h : pNum T n a m = .inr (v, e, s)) : v < m ∧ e ≤ n ∧ a ≤ s ∧ s < e := by
  unfold pNum at h
  by_cases h1 : isNm T n a = true
  · rw [if_pos h1] at h
    unfold isNm at h1
    rw [Bool.and_eq_true, decide_eq_true_eq] at h1
    by_cases h2 : dgE T n (skp T n a) - skp T n a ≤ 2 ∧ vN T (skp T n a) (dgE T n (skp T n a) - skp T n a) < m
    · rw [if_pos h2] at h
      have h3 := Sum.inr.inj h
      rw [Prod.mk.injEq, Prod.mk.injEq] at h3
      obtain ⟨rfl, rfl, rfl⟩ := h3
      exact ⟨h2.2, dgE_le (by omega), skp_ge T n a, dgE_1 h1.1 h1.2⟩
    · rw [if_neg h2] at h; cases h
  · rw [if_neg h1] at h; cases h
theorem pF_pF {f : Nat → Int32} {a b c d e g : Int32} : pF (pF f a b c) d e g = pF f d e g := by
  funext k
  unfold pF
  by_cases e1 : k = 19
  · simp [e1]
  · by_cases e2 : k = 20
    · simp [e2]
    · by_cases e3 : k = 21
      · simp [e3]
      · simp [e1, e2, e3]
theorem pF_self {f : Nat → Int32} {a : Int32} (h : f 19 = a) : f = pF f a (f 20) (f 21) := by
  funext k
  unfold pF
  by_cases e1 : k = 19
  · simp [e1, h]
  · by_cases e2 : k = 20
    · simp [e2]
    · by_cases e3 : k = 21
      · simp [e3]
      · simp [e1, e2, e3]
theorem hi_iff {v m : Nat} (hv : v ≤ 99) (hm : m ≤ 100) : (0 ≤ nI v ∧ nI v ≤ nI m - 1) ↔ v < m := by
  rw [fa_le, fa_le, nI_toInt (by omega)]
  have e0 : (0 : Int32).toInt = 0 := rfl
  cases m with
  | zero =>
    have : (nI 0 - 1).toInt = -1 := by decide
    rw [this]
    omega
  | succ m =>
    have : nI (m + 1) - 1 = nI m := pk_sub (a := m + 1) (b := 1) (by omega)
    rw [this, nI_toInt (by omega)]
    omega
theorem skp_b {T : Nat → Int32} {n a : Nat} (ha : a < 2 ^ 30) (hn : n ≤ 240) : skp T n a < 2 ^ 30 := by
  by_cases e : a ≤ n
  · have := skp_le (T := T) e
    omega
  · have : skp T n a = a := by unfold skp; rw [show n - a = 0 by omega]; rfl
    omega
theorem hv_lt {T : Nat → Int32} {n a : Nat} {c : Int32} (h : hv T n a = c) (hc : ¬ c = -1) : skp T n a < n := by
  refine Classical.byContradiction fun e => ?_
  unfold hv at h
  rw [if_neg e] at h
  exact hc h.symm
/-- what was read so far -/
def RD (p : Pg) (f : Nat → Int32) (q : Nat → Nat → Int32) : Prop := (f 22 = nI (nT p) ∧ f 26 = nI (nB p) ∧ f 29 = nI (nS p) ∧ f 18 = -1) ∧ (∀ t, t < nT p → q 23 t = b2 (isC p t) ∧ q 24 t = par p t ∧ q 25 t = abv p t) ∧ (∀ b, b < nB p → q 27 b = nI (bT p b) ∧ q 28 b = nI (bM p b)) ∧ (∀ s, s < nS p → q 30 s = nI (sK p s) ∧ q 31 s = nI (sB p s) ∧ q 32 s = nI (sT p s) ∧ q 33 s = nI (sM p s))
theorem rd_C {p : Pg} {f : Nat → Int32} {q : Nat → Nat → Int32} (h : RD p f q) {t : Nat} (ht : t < nT p) : q 23 t = b2 (isC p t) := (h.2.1 t ht).1
theorem rd_P {p : Pg} {f : Nat → Int32} {q : Nat → Nat → Int32} (h : RD p f q) {t : Nat} (ht : t < nT p) : q 24 t = par p t := (h.2.1 t ht).2.1
theorem rd_F {p : Pg} {f : Nat → Int32} {q : Nat → Nat → Int32} (h : RD p f q) {t : Nat} (ht : t < nT p) : q 25 t = abv p t := (h.2.1 t ht).2.2
theorem rd_bT {p : Pg} {f : Nat → Int32} {q : Nat → Nat → Int32} (h : RD p f q) {t : Nat} (ht : t < nB p) : q 27 t = nI (bT p t) := (h.2.2.1 t ht).1
theorem rd_bM {p : Pg} {f : Nat → Int32} {q : Nat → Nat → Int32} (h : RD p f q) {t : Nat} (ht : t < nB p) : q 28 t = nI (bM p t) := (h.2.2.1 t ht).2
def qF (q : Nat → Nat → Int32) (t : Nat) (F : Int32) : Nat → Nat → Int32 := va_up q 25 (upd (q 25) t F)
theorem qF_g {q : Nat → Nat → Int32} {t : Nat} {F : Int32} : qF q t F 25 t = F := by unfold qF; rw [va_g, pk_us]
theorem qF_o {q : Nat → Nat → Int32} {t k j : Nat} {F : Int32} (h : Nat.beq k 25 = false) : qF q t F k j = q k j := by
  have e : k ≠ 25 := fun z => by rw [z] at h; cases h
  unfold qF va_up
  rw [if_neg e]
theorem qF_u {q : Nat → Nat → Int32} {t : Nat} {F X : Int32} : va_up (qF q t F) 25 (upd (qF q t F 25) t X) = qF q t X := by
  funext k j
  unfold qF va_up
  by_cases e : k = 25
  · subst e
    simp [upd]
    by_cases e2 : j = t
    · simp [e2]
    · simp [e2]
  · simp [e]
/-- the bounds of what was read -/
def WR (p : Pg) : Prop := (nT p ≤ 12 ∧ nB p ≤ 20 ∧ nS p ≤ 24) ∧ (∀ t, t < nT p → par p t = -1 ∨ ∃ q, q < t ∧ isC p q = true ∧ par p t = nI q) ∧ (∀ b, b < nB p → bT p b < nT p ∧ bM p b < 6) ∧ (∀ s, s < nS p → sK p s < 3 ∧ sB p s < nB p ∧ sT p s < nT p ∧ sM p s < 6 ∧ (sK p s = 2 → ¬ par p (bT p (sB p s)) < 0) ∧ (sK p s = 0 → isC p (sT p s) = true))
/-- an interface told ahead, not in F yet -/
def pFace (C : Nat → Bool) (T : Nat → Int32) (n a m : Nat) (F : Int32) : Rs (Int32 × Nat) := match pNum T n a m with
  | .inl x => .inl x
  | .inr z => if C z.1 || bt F z.1 then .inl (4, z.2.2) else .inr (F ||| bI z.1, z.2.1)
theorem pFace_ok {C : Nat → Bool} {T : Nat → Int32} {n a m e : Nat} {F F2 : Int32} (h : pFace C T n a m F = .inr (F2, e)) : a < e ∧ e ≤ n ∧ ∃ v, v < m ∧ C v = false ∧ F2 = F ||| bI v := by
  unfold pFace at h
  generalize hN : pNum T n a m = z at h
  rcases z with z | ⟨v, e1, s⟩
  · cases h
  · obtain ⟨h1, h2, h3, h4⟩ := pNum_ok hN
    have h : (if C v || bt F v then Sum.inl (4, s) else Sum.inr (F ||| bI v, e1) : Rs (Int32 × Nat)) = .inr (F2, e) := h
    by_cases hc : (C v || bt F v) = true
    · rw [if_pos hc] at h; cases h
    · rw [if_neg hc] at h
      have h5 := Sum.inr.inj h
      rw [Prod.mk.injEq] at h5
      obtain ⟨rfl, rfl⟩ := h5
      exact ⟨by omega, h2, v, h1, by cases hC : C v <;> simp_all, rfl⟩
theorem two_ne {k : Nat} (h : k ≤ 1) : ¬ nI (2 - (k + 1)) = 2 := by
  have : k = 0 ∨ k = 1 := by omega
  rcases this with rfl | rfl <;> decide
def pFaces (C : Nat → Bool) (T : Nat → Int32) (n m : Nat) : Nat → Nat → Int32 → Rs (Int32 × Nat)
  | 0, a, F => if hv T n a = 44 then .inl (1, skp T n a) else .inr (F, skp T n a)
  | k + 1, a, F => if hv T n a = 44 then (match pFace C T n (skp T n a + 1) m F with
    | .inl x => .inl x
    | .inr z => pFaces C T n m k z.2 z.1) else .inr (F, skp T n a)
section mparse3
variable {g : mG} {h : mH} {sz u md : Nat} {p : Pg} {sc f : Nat → Int32} {ar q : Nat → Nat → Int32}
set_option maxRecDepth 20000 in
set_option maxHeartbeats 1000000 in
theorem w_here2 {n a : Nat} {x y : Int32} (h17 : sc 17 = nI n ∧ n ≤ 240) (ha : a < 2 ^ 30) : Mt g 0 m_MD_here [.ref md] (blkW 7 h md (psS sc (pF f (nI a) x y)) (arS ar q)) sz u (Pi (hv (ar 16) n a) (blkW 7 h md (psS sc (pF f (nI (skp (ar 16) n a)) x y)) (arS ar q))) sz u := by
  have := w_here (g := g) (h := h) (sz := sz) (u := u) (md := md) (sc := sc) (f := pF f (nI a) x y) (ar := ar) (q := q) h17 ⟨pF_19, ha⟩
  rw [pF_u19] at this
  exact this
set_option maxRecDepth 20000 in
set_option maxHeartbeats 1000000 in
theorem w_num {n a m : Nat} {x y hi : Int32} (h17 : sc 17 = nI n ∧ n ≤ 240) (ha : a < 2 ^ 30) (hm : m ≤ 100) (hhi : hi = nI m - 1) : Mt g 1 m_MD_takeNumber [.ref md, .int 0, .int hi] (blkW 7 h md (psS sc (pF f (nI a) x y)) (arS ar q)) sz u (RP h md sc ar (fun f2 => f2 26 = f 26) (pNum (ar 16) n a m) (fun z f' q' => f' = pF f (nI z.2.1) (nI z.1) (nI z.2.2) ∧ q' = q)) sz u := by
  refine (w_takeNumber h17 ⟨pF_19, ha⟩ 0 hi).mono fun r h' hr => ?_
  unfold pNum
  by_cases h1 : isNm (ar 16) n a = true
  · rw [if_pos h1] at hr ⊢
    have h1b := h1
    unfold isNm at h1b
    rw [Bool.and_eq_true, decide_eq_true_eq] at h1b
    have hvok := vN_ok h1b.1 h1b.2
    generalize hs : skp (ar 16) n a = s at hr hvok
    generalize he : dgE (ar 16) n s = e at hr hvok
    by_cases h2 : e - s ≤ 2
    · have h3 := (hvok h2).2
      have h4 := hi_iff h3 hm
      rw [← hhi] at h4
      by_cases h5 : vN (ar 16) s (e - s) < m
      · rw [if_pos ⟨h2, h4.mpr h5⟩] at hr
        rw [if_pos ⟨h2, h5⟩]
        obtain ⟨rfl, rfl⟩ := hr
        exact RP_ok rfl ⟨pF_pF, rfl⟩
      · rw [if_neg (fun z => h5 (h4.mp z.2))] at hr
        rw [if_neg (fun z => h5 z.2)]
        obtain ⟨rfl, f1, q1, rfl, h6, h7⟩ := hr
        exact RP_no rfl (by decide) rfl h6 (h7.trans (pF_o rfl))
    · rw [if_neg (fun z => h2 z.1)] at hr
      rw [if_neg (fun z => h2 z.1)]
      obtain ⟨rfl, f1, q1, rfl, h6, h7⟩ := hr
      exact RP_no rfl (by decide) rfl h6 (h7.trans (pF_o rfl))
  · rw [if_neg h1] at hr ⊢
    obtain ⟨rfl, f1, q1, rfl, h6, h7⟩ := hr
    exact RP_no rfl (by decide) rfl h6 (h7.trans (pF_o rfl))
theorem nk_pos {k : Nat} (h : 1 ≤ k ∧ k ≤ 4) : ¬ nI k ≤ 0 ∧ ¬ nI k = 0 ∧ 0 < nI k := by
  obtain ⟨h1, h2⟩ := h
  have : k = 1 ∨ k = 2 ∨ k = 3 ∨ k = 4 := by omega
  rcases this with rfl | rfl | rfl | rfl <;> decide
set_option maxRecDepth 20000 in
set_option maxHeartbeats 1000000 in
theorem w_takeFace {n a t : Nat} {x y F : Int32} (h17 : sc 17 = nI n ∧ n ≤ 240) (ha : a < 2 ^ 30) (hr : RD p f q) (hw : WR p) (ht : t < 12) : Mt g 2 m_MD_takeFace [.ref md, .int (nI t)] (blkW 7 h md (psS sc (pF f (nI a) x y)) (arS ar (qF q t F))) sz u (RP h md sc ar (fun _ => True) (pFace (isC p) (ar 16) n a (nT p) F) (fun z f' q' => (∃ x y, f' = pF f (nI z.2) x y) ∧ q' = qF q t z.1)) sz u := by
  have h22 := hr.1.1
  have hT := hw.1.1
  refine Mt.of m_MD_takeFace_w m_MD_takeFace_x m_MD_takeFace_c rfl rfl (ls := [.ref md, .int (nI t), .retAddr 0]) rfl ?_
  refine V_aload_n rfl rfl ?_
  refine V_iconst (v := 0) rfl (by decide) ?_
  refine V_aload_n rfl rfl ?_
  refine V_getI rfl rfl (by first | assumption | exact blkW_0 | exact bAt_0 (by assumption) | rfl) (by rfl) (by first | exact (psS_g rfl).trans ((pF_o rfl).trans (by assumption)) | exact (psS_g rfl).trans (by assumption) | exact (psS_g rfl).trans pk_us | exact (psS_g rfl).trans ((pk_un (by decide)).trans (by assumption)) | exact (psS_g rfl).trans ((pk_un (by decide)).trans pk_us) | exact (psS_g rfl).trans ((pk_un (by decide)).trans ((pk_un (by decide)).trans (by assumption))) | exact psS_g rfl | rfl) ?_
  refine V_iconst (v := 1) rfl (by decide) ?_
  refine V_isub rfl ?_
  refine V_callV rfl rfl m_MD_takeNumber_w m_MD_takeNumber_x rfl (by decide) rfl (w_num h17 ha (show nT p ≤ 100 by omega) rfl) (by decide) rfl (by first | assumption | exact blkW_0 | exact bAt_0 (by assumption) | rfl) (Nat.le_of_ble_eq_true rfl) (by first | exact Nat.le_refl _ | omega | decide) (by first | exact Nat.le_refl _ | omega | decide) (fun r hh1 hP => ?_)
  unfold pFace
  generalize hN : pNum (ar 16) n a (nT p) = z at hP
  rcases z with ⟨k, s⟩ | ⟨v, e, s⟩
  · obtain ⟨hk, rfl, f1, q1, rfl, h18, -⟩ := hP
    refine V_is2 rfl (by first | rfl | assumption) ?_
    refine V_iload_n rfl rfl ?_
    refine V_if_leF rfl ((nk_pos hk).1) ?_
    refine V_iload_n rfl rfl ?_
    refine V_ireturn rfl rfl (by first | rfl | exact b2_nar _ | assumption | decide) ?_
    exact RP_no rfl hk rfl h18 trivial
  · obtain ⟨rfl, f1, q1, rfl, rfl, rfl⟩ := hP
    obtain ⟨hv1, hv2, hv3, hv4⟩ := pNum_ok hN
    have hn := h17.2
    refine V_is2 rfl (by first | rfl | assumption) ?_
    refine V_iload_n rfl rfl ?_
    refine V_if_leT rfl (by decide) ?_
    refine V_aload_n rfl rfl ?_
    refine V_getfield rfl rfl (by first | assumption | exact blkW_0 | exact bAt_0 (by assumption) | rfl) (by rfl) ?_
    refine V_aload_n rfl rfl ?_
    refine V_getI rfl rfl (by first | assumption | exact blkW_0 | exact bAt_0 (by assumption) | rfl) (by rfl) (by first | exact (psS_g rfl).trans pF_20 | exact (psS_g rfl).trans (by assumption) | exact (psS_g rfl).trans pk_us | exact (psS_g rfl).trans ((pk_un (by decide)).trans (by assumption)) | exact (psS_g rfl).trans ((pk_un (by decide)).trans pk_us) | exact (psS_g rfl).trans ((pk_un (by decide)).trans ((pk_un (by decide)).trans (by assumption))) | exact psS_g rfl | rfl) ?_
    refine V_bald rfl (by first | assumption | exact blkW_i rfl rfl | exact blkW_z rfl rfl | exact bAt_i (by assumption) rfl rfl | exact bAt_z (by assumption) rfl rfl | rfl) (by first | with_reducible rfl | exact nI_add 2 _ | exact nI_add 26 _ | exact ix45 _ _ | exact ixm45 _ | exact ix25 _ | exact fa_lit _ | assumption) (by first | omega | assumption | decide) (by first | decide | omega | assumption) (by first | exact (arS_g rfl).trans qF_g | exact (arS_g rfl).trans ((qF_o rfl).trans (rd_C (by assumption) (by first | omega | assumption))) | exact (arS_g rfl).trans ((qF_o rfl).trans (rd_P (by assumption) (by first | omega | assumption))) | exact (arS_g rfl).trans ((qF_o rfl).trans (rd_bT (by assumption) (by first | omega | assumption))) | exact (arS_g rfl).trans (rd_C (by assumption) (by first | omega | assumption)) | exact (arS_g rfl).trans (rd_P (by assumption) (by first | omega | assumption)) | exact (arS_g rfl).trans (rd_bT (by assumption) (by first | omega | assumption)) | exact (arS_g rfl).trans (rd_bM (by assumption) (by first | omega | assumption)) | exact arS_o rfl | exact arS_g rfl | exact mp_isC (by first | assumption | exact MP_rcS (by assumption) | exact MP_ar rfl (by assumption) | exact MP_sc rfl (by assumption)) (by first | omega | assumption) | exact mp_par (by first | assumption | exact MP_rcS (by assumption) | exact MP_ar rfl (by assumption) | exact MP_sc rfl (by assumption)) (by first | omega | assumption) | exact mp_abv (by first | assumption | exact MP_rcS (by assumption) | exact MP_ar rfl (by assumption) | exact MP_sc rfl (by assumption)) (by first | omega | assumption) | exact mp_dep (by first | assumption | exact MP_rcS (by assumption) | exact MP_ar rfl (by assumption) | exact MP_sc rfl (by assumption)) (by first | omega | assumption) | exact mp_bT (by first | assumption | exact MP_rcS (by assumption) | exact MP_ar rfl (by assumption) | exact MP_sc rfl (by assumption)) (by first | omega | assumption) | exact mp_bM (by first | assumption | exact MP_rcS (by assumption) | exact MP_ar rfl (by assumption) | exact MP_sc rfl (by assumption)) (by first | omega | assumption) | exact mp_sK (by first | assumption | exact MP_rcS (by assumption) | exact MP_ar rfl (by assumption) | exact MP_sc rfl (by assumption)) (by first | omega | assumption) | exact mp_sB (by first | assumption | exact MP_rcS (by assumption) | exact MP_ar rfl (by assumption) | exact MP_sc rfl (by assumption)) (by first | omega | assumption) | exact mp_sT (by first | assumption | exact MP_rcS (by assumption) | exact MP_ar rfl (by assumption) | exact MP_sc rfl (by assumption)) (by first | omega | assumption) | exact mp_sM (by first | assumption | exact MP_rcS (by assumption) | exact MP_ar rfl (by assumption) | exact MP_sc rfl (by assumption)) (by first | omega | assumption) | exact mp_cS (by first | assumption | exact MP_rcS (by assumption) | exact MP_ar rfl (by assumption) | exact MP_sc rfl (by assumption)) (by first | omega | assumption) | exact va_g | exact va_n (by decide) | rfl) ?_
    cases hC : isC p v
    · refine V_if_neF rfl (rfl) ?_
      refine V_aload_n rfl rfl ?_
      refine V_getfield rfl rfl (by first | assumption | exact blkW_0 | exact bAt_0 (by assumption) | rfl) (by rfl) ?_
      refine V_iload_n rfl rfl ?_
      refine V_iald rfl (by first | assumption | exact blkW_i rfl rfl | exact blkW_z rfl rfl | exact bAt_i (by assumption) rfl rfl | exact bAt_z (by assumption) rfl rfl | rfl) (by first | with_reducible rfl | exact nI_add 2 _ | exact nI_add 26 _ | exact ix45 _ _ | exact ixm45 _ | exact ix25 _ | exact fa_lit _ | assumption) (by first | omega | assumption | decide) (by first | decide | omega | assumption) (by first | exact (arS_g rfl).trans qF_g | exact (arS_g rfl).trans ((qF_o rfl).trans (rd_C (by assumption) (by first | omega | assumption))) | exact (arS_g rfl).trans ((qF_o rfl).trans (rd_P (by assumption) (by first | omega | assumption))) | exact (arS_g rfl).trans ((qF_o rfl).trans (rd_bT (by assumption) (by first | omega | assumption))) | exact (arS_g rfl).trans (rd_C (by assumption) (by first | omega | assumption)) | exact (arS_g rfl).trans (rd_P (by assumption) (by first | omega | assumption)) | exact (arS_g rfl).trans (rd_bT (by assumption) (by first | omega | assumption)) | exact (arS_g rfl).trans (rd_bM (by assumption) (by first | omega | assumption)) | exact arS_o rfl | exact arS_g rfl | exact mp_isC (by first | assumption | exact MP_rcS (by assumption) | exact MP_ar rfl (by assumption) | exact MP_sc rfl (by assumption)) (by first | omega | assumption) | exact mp_par (by first | assumption | exact MP_rcS (by assumption) | exact MP_ar rfl (by assumption) | exact MP_sc rfl (by assumption)) (by first | omega | assumption) | exact mp_abv (by first | assumption | exact MP_rcS (by assumption) | exact MP_ar rfl (by assumption) | exact MP_sc rfl (by assumption)) (by first | omega | assumption) | exact mp_dep (by first | assumption | exact MP_rcS (by assumption) | exact MP_ar rfl (by assumption) | exact MP_sc rfl (by assumption)) (by first | omega | assumption) | exact mp_bT (by first | assumption | exact MP_rcS (by assumption) | exact MP_ar rfl (by assumption) | exact MP_sc rfl (by assumption)) (by first | omega | assumption) | exact mp_bM (by first | assumption | exact MP_rcS (by assumption) | exact MP_ar rfl (by assumption) | exact MP_sc rfl (by assumption)) (by first | omega | assumption) | exact mp_sK (by first | assumption | exact MP_rcS (by assumption) | exact MP_ar rfl (by assumption) | exact MP_sc rfl (by assumption)) (by first | omega | assumption) | exact mp_sB (by first | assumption | exact MP_rcS (by assumption) | exact MP_ar rfl (by assumption) | exact MP_sc rfl (by assumption)) (by first | omega | assumption) | exact mp_sT (by first | assumption | exact MP_rcS (by assumption) | exact MP_ar rfl (by assumption) | exact MP_sc rfl (by assumption)) (by first | omega | assumption) | exact mp_sM (by first | assumption | exact MP_rcS (by assumption) | exact MP_ar rfl (by assumption) | exact MP_sc rfl (by assumption)) (by first | omega | assumption) | exact mp_cS (by first | assumption | exact MP_rcS (by assumption) | exact MP_ar rfl (by assumption) | exact MP_sc rfl (by assumption)) (by first | omega | assumption) | exact va_g | exact va_n (by decide) | rfl) ?_
      refine V_aload_n rfl rfl ?_
      refine V_getI rfl rfl (by first | assumption | exact blkW_0 | exact bAt_0 (by assumption) | rfl) (by rfl) (by first | exact (psS_g rfl).trans pF_20 | exact (psS_g rfl).trans (by assumption) | exact (psS_g rfl).trans pk_us | exact (psS_g rfl).trans ((pk_un (by decide)).trans (by assumption)) | exact (psS_g rfl).trans ((pk_un (by decide)).trans pk_us) | exact (psS_g rfl).trans ((pk_un (by decide)).trans ((pk_un (by decide)).trans (by assumption))) | exact psS_g rfl | rfl) ?_
      refine V_callSi rfl rfl (Or.inl rfl) m_MD_has_w m_MD_has_x rfl rfl (s_mhas _ (by first | omega | assumption)) (by decide) rfl (Nat.le_of_ble_eq_true rfl) ?_
      cases hB : bt F v
      · refine V_if_eqT rfl (rfl) ?_
        refine V_aload_n rfl rfl ?_
        refine V_getfield rfl rfl (by first | assumption | exact blkW_0 | exact bAt_0 (by assumption) | rfl) (by rfl) ?_
        refine V_iload_n rfl rfl ?_
        refine V_dup2 rfl rfl rfl ?_
        refine V_iald rfl (by first | assumption | exact blkW_i rfl rfl | exact blkW_z rfl rfl | exact bAt_i (by assumption) rfl rfl | exact bAt_z (by assumption) rfl rfl | rfl) (by first | with_reducible rfl | exact nI_add 2 _ | exact nI_add 26 _ | exact ix45 _ _ | exact ixm45 _ | exact ix25 _ | exact fa_lit _ | assumption) (by first | omega | assumption | decide) (by first | decide | omega | assumption) (by first | exact (arS_g rfl).trans qF_g | exact (arS_g rfl).trans ((qF_o rfl).trans (rd_C (by assumption) (by first | omega | assumption))) | exact (arS_g rfl).trans ((qF_o rfl).trans (rd_P (by assumption) (by first | omega | assumption))) | exact (arS_g rfl).trans ((qF_o rfl).trans (rd_bT (by assumption) (by first | omega | assumption))) | exact (arS_g rfl).trans (rd_C (by assumption) (by first | omega | assumption)) | exact (arS_g rfl).trans (rd_P (by assumption) (by first | omega | assumption)) | exact (arS_g rfl).trans (rd_bT (by assumption) (by first | omega | assumption)) | exact (arS_g rfl).trans (rd_bM (by assumption) (by first | omega | assumption)) | exact arS_o rfl | exact arS_g rfl | exact mp_isC (by first | assumption | exact MP_rcS (by assumption) | exact MP_ar rfl (by assumption) | exact MP_sc rfl (by assumption)) (by first | omega | assumption) | exact mp_par (by first | assumption | exact MP_rcS (by assumption) | exact MP_ar rfl (by assumption) | exact MP_sc rfl (by assumption)) (by first | omega | assumption) | exact mp_abv (by first | assumption | exact MP_rcS (by assumption) | exact MP_ar rfl (by assumption) | exact MP_sc rfl (by assumption)) (by first | omega | assumption) | exact mp_dep (by first | assumption | exact MP_rcS (by assumption) | exact MP_ar rfl (by assumption) | exact MP_sc rfl (by assumption)) (by first | omega | assumption) | exact mp_bT (by first | assumption | exact MP_rcS (by assumption) | exact MP_ar rfl (by assumption) | exact MP_sc rfl (by assumption)) (by first | omega | assumption) | exact mp_bM (by first | assumption | exact MP_rcS (by assumption) | exact MP_ar rfl (by assumption) | exact MP_sc rfl (by assumption)) (by first | omega | assumption) | exact mp_sK (by first | assumption | exact MP_rcS (by assumption) | exact MP_ar rfl (by assumption) | exact MP_sc rfl (by assumption)) (by first | omega | assumption) | exact mp_sB (by first | assumption | exact MP_rcS (by assumption) | exact MP_ar rfl (by assumption) | exact MP_sc rfl (by assumption)) (by first | omega | assumption) | exact mp_sT (by first | assumption | exact MP_rcS (by assumption) | exact MP_ar rfl (by assumption) | exact MP_sc rfl (by assumption)) (by first | omega | assumption) | exact mp_sM (by first | assumption | exact MP_rcS (by assumption) | exact MP_ar rfl (by assumption) | exact MP_sc rfl (by assumption)) (by first | omega | assumption) | exact mp_cS (by first | assumption | exact MP_rcS (by assumption) | exact MP_ar rfl (by assumption) | exact MP_sc rfl (by assumption)) (by first | omega | assumption) | exact va_g | exact va_n (by decide) | rfl) ?_
        refine V_iconst (v := 1) rfl (by decide) ?_
        refine V_aload_n rfl rfl ?_
        refine V_getI rfl rfl (by first | assumption | exact blkW_0 | exact bAt_0 (by assumption) | rfl) (by rfl) (by first | exact (psS_g rfl).trans pF_20 | exact (psS_g rfl).trans (by assumption) | exact (psS_g rfl).trans pk_us | exact (psS_g rfl).trans ((pk_un (by decide)).trans (by assumption)) | exact (psS_g rfl).trans ((pk_un (by decide)).trans pk_us) | exact (psS_g rfl).trans ((pk_un (by decide)).trans ((pk_un (by decide)).trans (by assumption))) | exact psS_g rfl | rfl) ?_
        refine V_ishl rfl ?_
        refine V_ior rfl ?_
        first | refine V_past rfl rfl rfl rfl (by first | with_reducible rfl | exact nI_add 2 _ | exact nI_add 26 _ | exact ix45 _ _ | exact ixm45 _ | exact ix25 _ | exact fa_lit _ | assumption) (by first | omega | assumption | decide) (by first | decide | omega | assumption) ?_ | refine V_bast rfl rfl rfl (by first | with_reducible rfl | exact nI_add 2 _ | exact nI_add 26 _ | exact ix45 _ _ | exact ixm45 _ | exact ix25 _ | exact fa_lit _ | assumption) (by first | omega | assumption | decide) (by first | decide | omega | assumption) ?_ | refine V_iastore rfl (by first | assumption | exact blkW_i rfl rfl | exact blkW_z rfl rfl | exact bAt_i (by assumption) rfl rfl | exact bAt_z (by assumption) rfl rfl | rfl) (by first | with_reducible rfl | exact nI_add 2 _ | exact nI_add 26 _ | exact ix45 _ _ | exact ixm45 _ | exact ix25 _ | exact fa_lit _ | assumption) (by first | omega | assumption | decide) (by first | decide | omega | assumption) ?_
        rw [show F ||| (1 : Int32) <<< (nI v &&& 31) = F ||| bI v from rfl, qF_u]
        refine V_iconst (v := 0) rfl (by decide) ?_
        refine V_ireturn rfl rfl (by first | rfl | exact b2_nar _ | assumption | decide) ?_
        exact RP_ok (y := (F ||| bI v, e)) (by simp [hC, hB]) ⟨⟨_, _, rfl⟩, rfl⟩
      · refine V_if_eqF rfl (by decide) ?_
        refine V_aload_n rfl rfl ?_
        refine V_iconst (v := 4) rfl (by decide) ?_
        refine V_aload_n rfl rfl ?_
        refine V_getI rfl rfl (by first | assumption | exact blkW_0 | exact bAt_0 (by assumption) | rfl) (by rfl) (by first | exact (psS_g rfl).trans pF_21 | exact (psS_g rfl).trans (by assumption) | exact (psS_g rfl).trans pk_us | exact (psS_g rfl).trans ((pk_un (by decide)).trans (by assumption)) | exact (psS_g rfl).trans ((pk_un (by decide)).trans pk_us) | exact (psS_g rfl).trans ((pk_un (by decide)).trans ((pk_un (by decide)).trans (by assumption))) | exact psS_g rfl | rfl) ?_
        refine V_callVi rfl rfl m_MD_fails_w m_MD_fails_x rfl (by decide) rfl (w_fails _ _) (by decide) rfl (by first | assumption | exact blkW_0 | exact bAt_0 (by assumption) | rfl) (Nat.le_of_ble_eq_true rfl) ?_
        refine V_ireturn rfl rfl (by first | rfl | exact b2_nar _ | assumption | decide) ?_
        exact RP_no (k := 4) (s := s) (by simp [hC, hB]) (by decide) rfl pk_us trivial
    · refine V_if_neT rfl (by decide) ?_
      refine V_aload_n rfl rfl ?_
      refine V_iconst (v := 4) rfl (by decide) ?_
      refine V_aload_n rfl rfl ?_
      refine V_getI rfl rfl (by first | assumption | exact blkW_0 | exact bAt_0 (by assumption) | rfl) (by rfl) (by first | exact (psS_g rfl).trans pF_21 | exact (psS_g rfl).trans (by assumption) | exact (psS_g rfl).trans pk_us | exact (psS_g rfl).trans ((pk_un (by decide)).trans (by assumption)) | exact (psS_g rfl).trans ((pk_un (by decide)).trans pk_us) | exact (psS_g rfl).trans ((pk_un (by decide)).trans ((pk_un (by decide)).trans (by assumption))) | exact psS_g rfl | rfl) ?_
      refine V_callVi rfl rfl m_MD_fails_w m_MD_fails_x rfl (by decide) rfl (w_fails _ _) (by decide) rfl (by first | assumption | exact blkW_0 | exact bAt_0 (by assumption) | rfl) (Nat.le_of_ble_eq_true rfl) ?_
      refine V_ireturn rfl rfl (by first | rfl | exact b2_nar _ | assumption | decide) ?_
      exact RP_no (k := 4) (s := s) (by simp [hC]) (by decide) rfl pk_us trivial
set_option maxRecDepth 20000 in
set_option maxHeartbeats 1000000 in
theorem e_takeFaces {n t : Nat} {c2 : Int32} (h17 : sc 17 = nI n ∧ n ≤ 240) (hr : RD p f q) (hw : WR p) (ht : t < 12) (k : Nat) : k ≤ 2 → ∀ (a : Nat) (x y F : Int32), a < 2 ^ 30 → V g 3 m_MD_takeFaces (RP h md sc ar (fun _ => True) (pFaces (isC p) (ar 16) n (nT p) k a F) (fun z f' q' => (∃ x y, f' = pF f (nI z.2) x y) ∧ q' = qF q t z.1)) sz u 5 [.ref md, .int (nI t), .int c2, .int (nI (2 - k)), .int 0] [] (blkW 7 h md (psS sc (pF f (nI a) x y)) (arS ar (qF q t F))) sz u := by
  have hn := h17.2
  induction k with
  | zero =>
    intro hk a x y F ha
    have hpe : pFaces (isC p) (ar 16) n (nT p) 0 a F = if hv (ar 16) n a = 44 then .inl (1, skp (ar 16) n a) else .inr (F, skp (ar 16) n a) := rfl
    rw [hpe]
    refine V_iload rfl rfl ?_
    refine V_if_neF rfl (rfl) ?_
    refine V_aload_n rfl rfl ?_
    refine V_callVi rfl rfl m_MD_here_w m_MD_here_x rfl (by decide) rfl (w_here2 (by assumption) (by first | omega | assumption)) (by decide) rfl (by first | assumption | exact blkW_0 | exact bAt_0 (by assumption) | rfl) (Nat.le_of_ble_eq_true rfl) ?_
    refine V_bipush (v := 44) rfl (by decide) ?_
    by_cases hc : hv (ar 16) n a = 44
    · rw [if_pos hc]
      refine V_icmp_neF rfl (hc) ?_
      refine V_iload_n rfl rfl ?_
      refine V_iconst (v := 2) rfl (by decide) ?_
      refine V_icmp_neF rfl (rfl) ?_
      refine V_aload_n rfl rfl ?_
      refine V_iconst (v := 1) rfl (by decide) ?_
      refine V_aload_n rfl rfl ?_
      refine V_getI rfl rfl (by first | assumption | exact blkW_0 | exact bAt_0 (by assumption) | rfl) (by rfl) (by first | exact (psS_g rfl).trans pF_19 | exact (psS_g rfl).trans (by assumption) | exact (psS_g rfl).trans pk_us | exact (psS_g rfl).trans ((pk_un (by decide)).trans (by assumption)) | exact (psS_g rfl).trans ((pk_un (by decide)).trans pk_us) | exact (psS_g rfl).trans ((pk_un (by decide)).trans ((pk_un (by decide)).trans (by assumption))) | exact psS_g rfl | rfl) ?_
      refine V_callVi rfl rfl m_MD_fails_w m_MD_fails_x rfl (by decide) rfl (w_fails _ _) (by decide) rfl (by first | assumption | exact blkW_0 | exact bAt_0 (by assumption) | rfl) (Nat.le_of_ble_eq_true rfl) ?_
      refine V_ireturn rfl rfl (by first | rfl | exact b2_nar _ | assumption | decide) ?_
      exact RP_no rfl (by decide) rfl pk_us trivial
    · rw [if_neg hc]
      refine V_icmp_neT rfl (hc) ?_
      refine V_iload rfl rfl ?_
      refine V_ireturn rfl rfl (by first | rfl | exact b2_nar _ | assumption | decide) ?_
      exact RP_ok rfl ⟨⟨_, _, rfl⟩, rfl⟩
  | succ k ih =>
    intro hk a x y F ha
    have hpe : pFaces (isC p) (ar 16) n (nT p) (k + 1) a F = if hv (ar 16) n a = 44 then (match pFace (isC p) (ar 16) n (skp (ar 16) n a + 1) (nT p) F with
      | .inl x => .inl x
      | .inr z => pFaces (isC p) (ar 16) n (nT p) k z.2 z.1) else .inr (F, skp (ar 16) n a) := rfl
    rw [hpe]
    refine V_iload rfl rfl ?_
    refine V_if_neF rfl (rfl) ?_
    refine V_aload_n rfl rfl ?_
    refine V_callVi rfl rfl m_MD_here_w m_MD_here_x rfl (by decide) rfl (w_here2 (by assumption) (by first | omega | assumption)) (by decide) rfl (by first | assumption | exact blkW_0 | exact bAt_0 (by assumption) | rfl) (Nat.le_of_ble_eq_true rfl) ?_
    refine V_bipush (v := 44) rfl (by decide) ?_
    by_cases hc : hv (ar 16) n a = 44
    · rw [if_pos hc]
      have hs := hv_lt hc (by decide)
      refine V_icmp_neF rfl (hc) ?_
      refine V_iload_n rfl rfl ?_
      refine V_iconst (v := 2) rfl (by decide) ?_
      refine V_icmp_neT rfl (two_ne (show k ≤ 1 by omega)) ?_
      refine V_aload_n rfl rfl ?_
      refine V_dup rfl rfl ?_
      refine V_getI rfl rfl (by first | assumption | exact blkW_0 | exact bAt_0 (by assumption) | rfl) (by rfl) (by first | exact (psS_g rfl).trans pF_19 | exact (psS_g rfl).trans (by assumption) | exact (psS_g rfl).trans pk_us | exact (psS_g rfl).trans ((pk_un (by decide)).trans (by assumption)) | exact (psS_g rfl).trans ((pk_un (by decide)).trans pk_us) | exact (psS_g rfl).trans ((pk_un (by decide)).trans ((pk_un (by decide)).trans (by assumption))) | exact psS_g rfl | rfl) ?_
      refine V_iconst (v := 1) rfl (by decide) ?_
      refine V_iadd rfl ?_
      rw [show nI (skp (ar 16) n a) + 1 = nI (skp (ar 16) n a + 1) from nI_1 _]
      first | refine V_pput rfl rfl rfl rfl rfl ?_ | refine V_bput rfl rfl rfl rfl rfl rfl ?_ | refine V_bputZ rfl rfl rfl rfl rfl rfl (by decide) ?_ | refine V_put rfl rfl (by first | assumption | rfl) (by decide) (fun _ hty => by cases hty; exact ⟨rfl, rfl⟩) (by first | exact Or.inl rfl | exact Or.inr ⟨rfl, rfl⟩) rfl ?_
      rw [pF_u19]
      refine V_aload_n rfl rfl ?_
      refine V_iload_n rfl rfl ?_
      refine V_callV rfl rfl m_MD_takeFace_w m_MD_takeFace_x rfl (by decide) rfl (w_takeFace h17 (show skp (ar 16) n a + 1 < 2 ^ 30 by omega) hr hw ht) (by decide) rfl (by first | assumption | exact blkW_0 | exact bAt_0 (by assumption) | rfl) (Nat.le_of_ble_eq_true rfl) (by first | exact Nat.le_refl _ | omega | decide) (by first | exact Nat.le_refl _ | omega | decide) (fun r hh1 hP => ?_)
      generalize hN : pFace (isC p) (ar 16) n (skp (ar 16) n a + 1) (nT p) F = z at hP
      rcases z with ⟨j, s⟩ | ⟨F2, e⟩
      · obtain ⟨hj, rfl, f1, q1, rfl, h18, -⟩ := hP
        refine V_is4 rfl (by first | rfl | assumption) ?_
        refine V_inc3 rfl (by first | exact mInc _ | rfl) (by first | rfl | assumption) ?_
        refine V_goto rfl ?_
        refine V_iload rfl rfl ?_
        refine V_if_neT rfl ((nk_pos hj).2.1) ?_
        refine V_iload rfl rfl ?_
        refine V_ireturn rfl rfl (by first | rfl | exact b2_nar _ | assumption | decide) ?_
        exact RP_no rfl hj rfl h18 trivial
      · obtain ⟨rfl, f1, q1, rfl, ⟨x1, y1, rfl⟩, rfl⟩ := hP
        refine V_is4 rfl (by first | rfl | assumption) ?_
        refine V_inc3 rfl (by first | exact mInc _ | rfl) (by first | rfl | assumption) ?_
        rw [show 2 - (k + 1) + 1 = 2 - k by omega]
        refine V_goto rfl ?_
        exact ih (by omega) e x1 y1 F2 (by have := pFace_ok hN; omega)
    · rw [if_neg hc]
      refine V_icmp_neT rfl (hc) ?_
      refine V_iload rfl rfl ?_
      refine V_ireturn rfl rfl (by first | rfl | exact b2_nar _ | assumption | decide) ?_
      exact RP_ok rfl ⟨⟨_, _, rfl⟩, rfl⟩
end mparse3
