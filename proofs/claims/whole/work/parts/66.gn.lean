/-! ===== the state stays good ===== -/
theorem wrt_lo {N : Nat → Int32} {c j : Nat} {b is : Int32} (h : j < 26) : wrt N c b is j = N j := wrt_o (Or.inl h)
theorem cnt9_up {x : Int32} (h : cnt9 x) : cnt9 (x + if x < 9999 then 1 else 0) := by
  obtain ⟨a, ha, rfl⟩ := h
  by_cases e : a < 9999
  · rw [if_pos (show nI a < 9999 from nI_lt (b := 9999) e (by decide)), nI_1]
    exact ⟨a + 1, by omega, rfl⟩
  · rw [if_neg (show ¬ nI a < 9999 from nI_nlt (b := 9999) (by omega) (by omega)), Int32.add_zero]
    exact ⟨a, ha, rfl⟩
theorem cnt9_w43 {N : Nat → Int32} {c : Nat} {b is : Int32} (h : cnt9 (N 43)) : cnt9 (wrt N c b is 43) := by
  by_cases e : is = 1
  · have := wrt_c (N := N) (c := c) (b := b) (is := is)
    rw [if_pos e] at this
    rw [this]
    exact cnt9_up h
  · have := wrt_d (N := N) (c := c) (b := b) (is := is)
    rw [if_neg e] at this
    rw [this]; exact h
theorem cnt9_w44 {N : Nat → Int32} {c : Nat} {b is : Int32} (h : cnt9 (N 44)) : cnt9 (wrt N c b is 44) := by
  by_cases e : is = 1
  · have := wrt_d (N := N) (c := c) (b := b) (is := is)
    rw [if_pos e] at this
    rw [this]; exact h
  · have := wrt_c (N := N) (c := c) (b := b) (is := is)
    rw [if_neg e] at this
    rw [this]
    exact cnt9_up h
theorem ldF_s (p : Pg) (N : Nat → Int32) (t c : Nat) : ldF p N t (c + 1) = if wG (may p c (ldF p N t c 0)) (ldF p N t c (2 + c)) then upd (wrt (ldF p N t c) c (ldF p N t c (2 + c)) 0) (2 + c) (-1) else ldF p N t c := rfl
theorem ldF_0 {p : Pg} {N : Nat → Int32} {t : Nat} : ∀ k, ldF p N t k 0 = N 0 ||| abv p t
  | 0 => pk_us
  | k + 1 => by
    rw [ldF_s]
    split
    · rw [pk_un (by omega), wrt_lo (by decide)]
      exact ldF_0 k
    · exact ldF_0 k
theorem ldF_c {p : Pg} {N : Nat → Int32} {t c : Nat} (hc : c < 24) : ∀ k, k ≤ 24 → ldF p N t k (2 + c) = if c < k ∧ wG (may p c (N 0 ||| abv p t)) (N (2 + c)) = true then -1 else N (2 + c)
  | 0, _ => by
    rw [if_neg (fun z => by omega)]
    exact pk_un (by omega)
  | k + 1, hk => by
    have ih := ldF_c (p := p) (N := N) (t := t) hc k (by omega)
    rw [ldF_s, ldF_0]
    by_cases e : c = k
    · subst e
      rw [if_neg (fun z => by omega)] at ih
      rw [ih]
      by_cases w : wG (may p c (N 0 ||| abv p t)) (N (2 + c)) = true
      · rw [if_pos w, if_pos ⟨by omega, w⟩, pk_us]
      · rw [if_neg w, if_neg (fun z => w z.2)]; exact ih
    · have e2 : (if c < k + 1 ∧ wG (may p c (N 0 ||| abv p t)) (N (2 + c)) = true then (-1 : Int32) else N (2 + c)) = if c < k ∧ wG (may p c (N 0 ||| abv p t)) (N (2 + c)) = true then -1 else N (2 + c) := by
        by_cases w : wG (may p c (N 0 ||| abv p t)) (N (2 + c)) = true
        · by_cases l : c < k
          · rw [if_pos ⟨by omega, w⟩, if_pos ⟨l, w⟩]
          · rw [if_neg (fun z => by omega), if_neg (fun z => l z.1)]
        · rw [if_neg (fun z => w z.2), if_neg (fun z => w z.2)]
      rw [e2, ← ih]
      split
      · rw [pk_un (by omega), wrt_lo (by omega)]
      · rfl
theorem ldF_9 {p : Pg} {N : Nat → Int32} {t : Nat} (h3 : cnt9 (N 43)) (h4 : cnt9 (N 44)) : ∀ k, k ≤ 24 → cnt9 (ldF p N t k 43) ∧ cnt9 (ldF p N t k 44)
  | 0, _ => ⟨by rw [show ldF p N t 0 43 = N 43 from pk_un (by decide)]; exact h3, by rw [show ldF p N t 0 44 = N 44 from pk_un (by decide)]; exact h4⟩
  | k + 1, hk => by
    obtain ⟨i3, i4⟩ := ldF_9 (p := p) (t := t) h3 h4 k (by omega)
    rw [ldF_s]
    split
    · rw [pk_un (by omega), pk_un (by omega)]
      exact ⟨cnt9_w43 i3, cnt9_w44 i4⟩
    · exact ⟨i3, i4⟩
theorem upC_ld {p : Pg} {L : Int32} {t : Nat} (hx : WX p) (ht : t < nT p) (h : upC p L) : upC p (L ||| abv p t) := by
  refine ⟨sub_or h.1 fun i hi => ?_, fun x hx2 => ?_⟩
  · have := hx.2.1 t ht i hi
    omega
  · rw [b_or, Bool.or_eq_true] at hx2
    rcases hx2 with q | q
    · exact le_tr (h.2 x q) (le_or _ _)
    · refine le_tr (hx.2.2.1 t ht x q) fun i hi => ?_
      rw [b_or, hi, Bool.or_true]
theorem GN_ld {p : Pg} {N : Nat → Int32} {t : Nat} (hw : WB p) (hx : WX p) (ht : t < nT p) (h : GN p N) : GN p (ldF p N t (nC p)) := by
  have hC := hw.1.2.2.2
  obtain ⟨h1, h2, h3, h4⟩ := h
  obtain ⟨c3, c4⟩ := ldF_9 (p := p) (t := t) h3 h4 (nC p) hC
  refine ⟨by rw [ldF_0]; exact upC_ld hx ht h1, fun c hc => ?_, c3, c4⟩
  rw [ldF_c (by omega) (nC p) hC, ldF_0]
  by_cases w : wG (may p c (N 0 ||| abv p t)) (N (2 + c)) = true
  · rw [if_pos ⟨hc, w⟩]; exact Or.inl rfl
  · rw [if_neg (fun z => w z.2)]
    rcases h2 c hc with e | ⟨b, b1, b2, -⟩
    · exact Or.inl e
    · refine Or.inr ⟨b, b1, b2, ?_⟩
      have hB := hw.1.2.1
      unfold wG at w
      rw [b2, decide_eq_false (nI_pos (by omega))] at w
      simp at w
      exact w
theorem ldF_id {p : Pg} {N : Nat → Int32} {t : Nat} (hw : WB p) (h : GN p N) (hb : bt (N 0) t = true) : ∀ k, k ≤ nC p → ldF p N t k = N
  | 0, _ => by
    show upd N 0 (N 0 ||| abv p t) = N
    rw [or_le (h.1.2 t hb), fa_upd_same rfl]
  | k + 1, hk => by
    rw [ldF_s, ldF_id hw h hb k (by omega), GN_wG hw h (by omega)]
    rfl
theorem oneB_bI {S : Int32} (h : oneB S = true) : S = bI (low S) := by
  have h2 := oneB_iff.mp h
  have h3 := low_in h2.1
  exact bI_eq h3.1 h3.2 h2.2
theorem canB_is {p : Pg} {N : Nat → Int32} {c : Nat} (hw : WB p) (h : canB p N c = true) : low (may p c (N 0)) < nB p ∧ may p c (N 0) = bI (low (may p c (N 0))) ∧ N (2 + c) < 0 := by
  unfold canB at h
  rw [Bool.and_eq_true, decide_eq_true_eq] at h
  exact ⟨sub_clT hw.1.2.1 _ _ _ (low_in (low_lt h.2)).2, oneB_bI h.2, h.1⟩
theorem GN_bnd {p : Pg} {N : Nat → Int32} {c : Nat} (hw : WB p) (h : GN p N) (hc : c < nC p) (hcb : canB p N c = true) : GN p (bndF p N c) := by
  have hC := hw.1.2.2.2
  obtain ⟨h1, h2, h3, h4⟩ := h
  obtain ⟨l1, l2, -⟩ := canB_is hw hcb
  have e0 : bndF p N c 0 = N 0 := by
    unfold bndF
    rw [wrt_lo (by decide), pk_un (by omega)]
  refine ⟨by rw [e0]; exact h1, fun x hx => ?_, ?_, ?_⟩
  · rw [e0]
    have ex : bndF p N c (2 + x) = upd N (2 + c) (nI (low (may p c (N 0)))) (2 + x) := by
      unfold bndF
      rw [wrt_lo (by omega)]
    rw [ex]
    by_cases e : x = c
    · subst e
      rw [pk_us]
      exact Or.inr ⟨_, l1, rfl, l2⟩
    · rw [pk_un (by omega)]
      exact h2 x hx
  · unfold bndF
    exact cnt9_w43 (by rw [pk_un (by omega)]; exact h3)
  · unfold bndF
    exact cnt9_w44 (by rw [pk_un (by omega)]; exact h4)
theorem GN_free {p : Pg} {N : Nat → Int32} {c : Nat} (hc : c < 24) (h : GN p N) : GN p (upd N (2 + c) (-1)) := by
  obtain ⟨h1, h2, h3, h4⟩ := h
  refine ⟨by rw [pk_un (by omega)]; exact h1, fun x hx => ?_, by rw [pk_un (by omega)]; exact h3, by rw [pk_un (by omega)]; exact h4⟩
  by_cases e : x = c
  · subst e; rw [pk_us]; exact Or.inl rfl
  · rw [pk_un (show (0 : Nat) ≠ 2 + c by omega), pk_un (by omega)]; exact h2 x hx
theorem GN_root {p : Pg} {N : Nat → Int32} {v : Int32} (h : GN p N) : GN p (upd N 1 v) := by
  obtain ⟨h1, h2, h3, h4⟩ := h
  exact ⟨by rw [pk_un (by decide)]; exact h1, fun x hx => by rw [pk_un (show (0 : Nat) ≠ 1 by decide), pk_un (by omega)]; exact h2 x hx, by rw [pk_un (by decide)]; exact h3, by rw [pk_un (by decide)]; exact h4⟩
theorem GN_cong {p : Pg} {N N2 : Nat → Int32} (hC : nC p ≤ 24) (h : GN p N) (he : ∀ k, k < 45 → N2 k = N k) : GN p N2 := by
  obtain ⟨h1, h2, h3, h4⟩ := h
  refine ⟨by rw [he 0 (by decide)]; exact h1, fun x hx => ?_, by rw [he 43 (by decide)]; exact h3, by rw [he 44 (by decide)]; exact h4⟩
  rw [he 0 (by decide), he (2 + x) (by omega)]
  exact h2 x hx
theorem SR_cong {n : Nat} {N N2 ss bd js : Nat → Int32} {ja : Nat → Nat → Int32} (hn : n ≤ 24) (h : SR n N ss bd js ja) (he : ∀ k, k < 45 → N2 k = N k) : SR n N2 ss bd js ja := by
  obtain ⟨⟨a1, a2, a3, a4⟩, h2, h3, h4⟩ := h
  refine ⟨⟨a1.trans (he 0 (by decide)).symm, a2.trans (he 1 (by decide)).symm, a3.trans (he 43 (by decide)).symm, a4.trans (he 44 (by decide)).symm⟩, fun c hc => (h2 c hc).trans (he (2 + c) (by omega)).symm, h3, JR_cong h4 fun i _ i2 => he i (by omega)⟩
theorem SR_load {n : Nat} {N ss bd js : Nat → Int32} {ja : Nat → Nat → Int32} {v : Int32} (h : SR n N ss bd js ja) : SR n (upd N 0 v) (upd ss 0 v) bd js ja := by
  obtain ⟨⟨a1, a2, a3, a4⟩, h2, h3, h4⟩ := h
  refine ⟨⟨by rw [pk_us, pk_us], by rw [pk_un (by decide), pk_un (by decide)]; exact a2, by rw [pk_un (by decide), pk_un (by decide)]; exact a3, by rw [pk_un (by decide), pk_un (by decide)]; exact a4⟩, fun c hc => by rw [pk_un (by omega)]; exact h2 c hc, h3, JR_cong h4 fun i i1 _ => pk_un (by omega)⟩
theorem SR_root {n : Nat} {N ss bd js : Nat → Int32} {ja : Nat → Nat → Int32} {v : Int32} (h : SR n N ss bd js ja) : SR n (upd N 1 v) (upd ss 1 v) bd js ja := by
  obtain ⟨⟨a1, a2, a3, a4⟩, h2, h3, h4⟩ := h
  refine ⟨⟨by rw [pk_un (by decide), pk_un (by decide)]; exact a1, by rw [pk_us, pk_us], by rw [pk_un (by decide), pk_un (by decide)]; exact a3, by rw [pk_un (by decide), pk_un (by decide)]; exact a4⟩, fun c hc => by rw [pk_un (by omega)]; exact h2 c hc, h3, JR_cong h4 fun i i1 _ => pk_un (by omega)⟩
theorem SR_free {n : Nat} {N ss bd js : Nat → Int32} {ja : Nat → Nat → Int32} {c : Nat} (hc : c < n) (hn : n ≤ 24) (h : SR n N ss bd js ja) : SR n (upd N (2 + c) (-1)) ss (upd bd c (-1)) js ja := by
  obtain ⟨⟨a1, a2, a3, a4⟩, h2, h3, h4⟩ := h
  refine ⟨⟨by rw [pk_un (by omega)]; exact a1, by rw [pk_un (by omega)]; exact a2, by rw [pk_un (by omega)]; exact a3, by rw [pk_un (by omega)]; exact a4⟩, fun x hx => ?_, fun x hx1 hx2 => by rw [pk_un (by omega)]; exact h3 x hx1 hx2, JR_cong h4 fun i i1 _ => pk_un (by omega)⟩
  by_cases e : x = c
  · subst e; rw [pk_us, pk_us]
  · rw [pk_un e, pk_un (by omega)]; exact h2 x hx
theorem or_mask {L A : Int32} : L ||| (A &&& (L ^^^ -1)) = L ||| A := b_ext fun i hi => by
  rw [b_or, b_or, b_and, b_xor, b_m1 i hi]
  cases bt L i <;> cases bt A i <;> rfl
theorem cnt_diff {L A : Int32} : cnF 12 (bt (L ||| A)) - cnF 12 (bt L) = cnF 12 (bt (A &&& (L ^^^ -1))) := by
  rw [cnF_ct, cnF_ct, cnF_ct]
  have hdis : ∀ k, k < 12 → ¬ (bt L k = true ∧ bt (A &&& (L ^^^ -1)) k = true) := fun k hk z => by
    obtain ⟨z1, z2⟩ := z
    rw [b_and, b_xor, b_m1 k (by omega), z1] at z2
    simp at z2
  have e : fb_ct (bt (L ||| A)) 12 = fb_ct (bt L) 12 + fb_ct (bt (A &&& (L ^^^ -1))) 12 := by
    rw [← fb_ct_or hdis]
    refine fb_ct_cong fun k hk => ?_
    rw [b_or, b_and, b_xor, b_m1 k (by omega)]
    cases bt L k <;> cases bt A k <;> rfl
  rw [e, pk_sub (by omega), Nat.add_sub_cancel_left]
