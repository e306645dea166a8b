/-! ===== the class's Plan: what is added ===== -/
theorem abF_c {p q : Pg} {n : Nat} (hs : ∀ t w, t < n → str p t w = str q t w) : ∀ t, t < n → abF p t = abF q t := by
  intro t
  induction t using Nat.strongRecOn with
  | ind t ih =>
    intro ht
    rw [abF_e, abF_e]
    have : ∀ k, k ≤ t → aAcc p (abF p) t k = aAcc q (abF q) t k := by
      intro k
      induction k with
      | zero => intro _; rfl
      | succ k ihk =>
        intro hk
        show aAcc p (abF p) t k ||| cnd (str p t k) (abF p k) = aAcc q (abF q) t k ||| cnd (str q t k) (abF q k)
        rw [ihk (by omega), hs t k ht, ih k (by omega) (by omega)]
    exact this t (Nat.le_refl _)
theorem dpF_c {p q : Pg} {n : Nat} (hs : ∀ t w, t < n → str p t w = str q t w) : ∀ t, t < n → dpF p t = dpF q t := by
  intro t
  induction t using Nat.strongRecOn with
  | ind t ih =>
    intro ht
    rw [dpF_e, dpF_e]
    have : ∀ k, k ≤ t → dAcc p (dpF p) t k = dAcc q (dpF q) t k := by
      intro k
      induction k with
      | zero => intro _; rfl
      | succ k ihk =>
        intro hk
        show (if str p t k = true ∧ dAcc p (dpF p) t k < dpF p k + 1 then dpF p k + 1 else dAcc p (dpF p) t k) = (if str q t k = true ∧ dAcc q (dpF q) t k < dpF q k + 1 then dpF q k + 1 else dAcc q (dpF q) t k)
        rw [ihk (by omega), hs t k ht, ih k (by omega) (by omega)]
    exact this t (Nat.le_refl _)
theorem aAcc_le {p : Pg} {X : Nat → Int32} {t x : Nat} (ht : t < 32) : ∀ n, (∀ w, w < n → bt (X w) x = true → x ≤ w) → n ≤ t → bt (aAcc p X t n) x = true → x ≤ t
  | 0, _, _, h => by
    have h : bt (bI t) x = true := h
    rw [bt_bI ht (bt_lt h), decide_eq_true_eq] at h
    omega
  | n + 1, hX, hn, h => by
    have h : bt (aAcc p X t n ||| cnd (str p t n) (X n)) x = true := h
    rw [b_or, Bool.or_eq_true, bt_cnd, Bool.and_eq_true] at h
    rcases h with h | h
    · exact aAcc_le ht n (fun w hw => hX w (by omega)) (by omega) h
    · have := hX n (by omega) h.2
      omega
theorem abF_le {p : Pg} {x : Nat} : ∀ t, t < 32 → bt (abF p t) x = true → x ≤ t := by
  intro t
  induction t using Nat.strongRecOn with
  | ind t ih =>
    intro ht h
    rw [abF_e] at h
    exact aAcc_le ht t (fun w hw => ih w hw (by omega)) (Nat.le_refl _) h
theorem aAcc_self {p : Pg} {X : Nat → Int32} {t : Nat} (ht : t < 32) : ∀ n, bt (aAcc p X t n) t = true
  | 0 => by
    show bt (bI t) t = true
    rw [bt_bI ht ht, decide_eq_true rfl]
  | n + 1 => by
    show bt (aAcc p X t n ||| cnd (str p t n) (X n)) t = true
    rw [b_or, aAcc_self ht n]; rfl
theorem abF_self {p : Pg} {t : Nat} (ht : t < 32) : bt (abF p t) t = true := by rw [abF_e]; exact aAcc_self ht t
theorem cnS_c {p q : Pg} : ∀ {n : Nat}, (∀ s, s < n → sK p s = sK q s) → cnS p n = cnS q n
  | 0, _ => rfl
  | n + 1, h => by
    show (if sK p n = 1 then cnS p n + 1 else cnS p n) = (if sK q n = 1 then cnS q n + 1 else cnS q n)
    rw [cnS_c (fun s hs => h s (by omega)), h n (by omega)]
theorem csF_c {p q : Pg} {c : Nat} : ∀ {n : Nat}, (∀ s, s < n → sK p s = sK q s) → csF p n c = csF q n c
  | 0, _ => rfl
  | n + 1, h => by
    show (if sK p n = 1 ∧ c = cnS p n then n else csF p n c) = (if sK q n = 1 ∧ c = cnS q n then n else csF q n c)
    rw [csF_c (fun s hs => h s (by omega)), cnS_c (p := p) (q := q) (fun s hs => h s (by omega)), h n (by omega)]
/-- rows of types with one written -/
def tR (ar : Nat → Nat → Int32) (t : Nat) (P A B D : Int32) : Nat → Nat → Int32 := fun k j => if j = t then (if k = 5 then P else if k = 6 then A else if k = 7 then B else if k = 8 then D else ar k j) else ar k j
section tRs
variable {ar : Nat → Nat → Int32} {t j : Nat} {P A B D v : Int32}
theorem tR_i : ar = tR ar t (ar 5 t) (ar 6 t) (ar 7 t) (ar 8 t) := by
  funext k j
  unfold tR
  by_cases e : j = t
  · subst e
    by_cases e5 : k = 5
    · simp [e5]
    · by_cases e6 : k = 6
      · simp [e6]
      · by_cases e7 : k = 7
        · simp [e7]
        · by_cases e8 : k = 8
          · simp [e8]
          · simp [e5, e6, e7, e8]
  · simp [e]
theorem tR_u5 : va_up (tR ar t P A B D) 5 (upd (tR ar t P A B D 5) t v) = tR ar t v A B D := by
  funext k j
  unfold tR va_up upd
  by_cases e : k = 5
  · subst e; by_cases e2 : j = t <;> simp [e2]
  · simp [e]
theorem tR_u6 : va_up (tR ar t P A B D) 6 (upd (tR ar t P A B D 6) t v) = tR ar t P v B D := by
  funext k j
  unfold tR va_up upd
  by_cases e : k = 6
  · subst e; by_cases e2 : j = t <;> simp [e2]
  · simp [e]
theorem tR_u7 : va_up (tR ar t P A B D) 7 (upd (tR ar t P A B D 7) t v) = tR ar t P A v D := by
  funext k j
  unfold tR va_up upd
  by_cases e : k = 7
  · subst e; by_cases e2 : j = t <;> simp [e2]
  · simp [e]
theorem tR_u8 : va_up (tR ar t P A B D) 8 (upd (tR ar t P A B D 8) t v) = tR ar t P A B v := by
  funext k j
  unfold tR va_up upd
  by_cases e : k = 8
  · subst e; by_cases e2 : j = t <;> simp [e2]
  · simp [e]
theorem tR_5 : tR ar t P A B D 5 t = P := by unfold tR; simp
theorem tR_6 : tR ar t P A B D 6 t = A := by unfold tR; simp
theorem tR_7 : tR ar t P A B D 7 t = B := by unfold tR; simp
theorem tR_8 : tR ar t P A B D 8 t = D := by unfold tR; simp
theorem tR_n {k : Nat} (h : j ≠ t) : tR ar t P A B D k j = ar k j := by unfold tR; rw [if_neg h]
theorem tR_k {k : Nat} (h : (Nat.beq k 5 || Nat.beq k 6 || Nat.beq k 7 || Nat.beq k 8) = false) : tR ar t P A B D k = ar k := by
  simp only [Bool.or_eq_false_iff] at h
  have e : ∀ {j : Nat}, Nat.beq k j = false → k ≠ j := fun {j} hj q => by rw [q, show Nat.beq j j = true from Nat.beq_refl j] at hj; cases hj
  funext j
  unfold tR
  rw [if_neg (e h.1.1.1), if_neg (e h.1.1.2), if_neg (e h.1.2), if_neg (e h.2), ite_self]
end tRs
/-- what is below, i types on -/
def blw (r : Nat → Int32) (A : Int32) (t i : Nat) : Nat → Int32 := fun x => if x < i ∧ bt A x = true then r x ||| bI t else r x
theorem blw_0 {r : Nat → Int32} {A : Int32} {t : Nat} : blw r A t 0 = r := by funext x; unfold blw; rw [if_neg fun z => by omega]
theorem blw_y {r : Nat → Int32} {A : Int32} {t i : Nat} (h : bt A i = true) : upd (blw r A t i) i (blw r A t i i ||| bI t) = blw r A t (i + 1) := by
  funext x
  unfold upd blw
  by_cases e : x = i
  · subst e
    rw [if_pos rfl, if_neg (fun z => by omega), if_pos ⟨by omega, h⟩]
  · rw [if_neg e]
    by_cases c : bt A x = true
    · by_cases l : x < i
      · rw [if_pos ⟨l, c⟩, if_pos ⟨by omega, c⟩]
      · rw [if_neg (fun z => l z.1), if_neg (fun z => by omega)]
    · rw [if_neg (fun z => c z.2), if_neg (fun z => c z.2)]
theorem blw_n {r : Nat → Int32} {A : Int32} {t i : Nat} (h : bt A i = false) : blw r A t i = blw r A t (i + 1) := by
  funext x
  unfold blw
  by_cases e : x = i
  · subst e
    rw [if_neg (fun z => by omega), if_neg (fun z => by rw [h] at z; cases z.2)]
  · by_cases c : bt A x = true
    · by_cases l : x < i
      · rw [if_pos ⟨l, c⟩, if_pos ⟨by omega, c⟩]
      · rw [if_neg (fun z => l z.1), if_neg (fun z => by omega)]
    · rw [if_neg (fun z => c z.2), if_neg (fun z => c z.2)]
theorem CQ_addT {p : Pg} {sc sc2 : Nat → Int32} {ar : Nat → Nat → Int32} {c : Bool} {pa F D B : Int32} {r7 : Nat → Int32} (hq : CQ (fin p) sc ar) (hw : WR p) (hw2 : WR (addT p c pa F)) (s0 : sc2 0 = nI (nT p + 1)) (s1 : sc2 1 = setF (nT p) (isC p) ||| cnd c (bI (nT p))) (s2 : sc2 2 = sc 2) (s3 : sc2 3 = sc 3) (s4 : sc2 4 = sc 4) (hD : D = dpF (addT p c pa F) (nT p)) (h7 : ∀ x, x < nT p → r7 x = ar 7 x) (h7t : r7 (nT p) = 0) :
    CQ (fin (addT p c pa F)) sc2 (va_up (tR ar (nT p) pa (abF (addT p c pa F) (nT p)) B D) 7 (blw r7 (abF (addT p c pa F) (nT p)) (nT p) (nT p + 1))) := by
  have hT : nT p + 1 ≤ 12 := hw2.1.1
  have hsA : ∀ t w, t < nT p → str (addT p c pa F) t w = str p t w := fun t w ht => by
    show (decide (nI w = (if t = nT p then pa else par p t)) || bt (if t = nT p then F else abv p t) w) = _
    rw [if_neg (by omega), if_neg (by omega)]
    rfl
  have hab : ∀ t, t < nT p → abF (addT p c pa F) t = abF p t := abF_c hsA
  have hdp : ∀ t, t < nT p → dpF (addT p c pa F) t = dpF p t := dpF_c hsA
  have hk : ∀ k j, k ≠ 7 → va_up (tR ar (nT p) pa (abF (addT p c pa F) (nT p)) B D) 7 (blw r7 (abF (addT p c pa F) (nT p)) (nT p) (nT p + 1)) k j = tR ar (nT p) pa (abF (addT p c pa F) (nT p)) B D k j := fun k j h => va_n h
  obtain ⟨q1, q2, q3, q4, q5, q6, q7⟩ := hq
  have hcn : cnS (addT p c pa F) (nS p) = cnS p (nS p) := cnS_c fun s _ => rfl
  refine ⟨fin_WB hw2, ⟨s0, ?_, s2.trans q2.2.2.1, s3.trans q2.2.2.2.1, s4.trans (q2.2.2.2.2.trans (show nI (cnS p (nS p)) = nI (cnS (addT p c pa F) (nS p)) by rw [hcn]))⟩, fun t ht => ?_, fun b hb => ?_, fun s hs => ?_, fun x hx => ?_, fun t m ht hm => ?_⟩
  · rw [s1]
    show _ = setF (nT p + 1) (fun t => if t = nT p then c else isC p t)
    rw [setF_s, if_pos rfl]
    congr 1
    exact setF_cong fun k hk => by rw [if_neg (by omega)]
  · have ht : t < nT p + 1 := ht
    rw [hk 5 t (by decide), hk 6 t (by decide), hk 8 t (by decide), va_g]
    show _ = (if t = nT p then pa else par p t) ∧ _ = abF (addT p c pa F) t ∧ _ = setF (nT p + 1) (fun x => bt (abF (addT p c pa F) x) t) ∧ _ = dpF (addT p c pa F) t
    rw [setF_s]
    unfold blw
    by_cases e : t = nT p
    · subst e
      rw [tR_5, tR_6, tR_8, if_pos rfl, if_pos ⟨by omega, abF_self (by omega)⟩, h7t, abF_self (by omega)]
      refine ⟨rfl, rfl, ?_, hD⟩
      rw [Int32.zero_or]
      have hz : setF (nT p) (fun x => bt (abF (addT p c pa F) x) (nT p)) = 0 := b_ext2 fun i hi => by
        rw [bt_setF (by omega), b_0]
        constructor
        · rintro ⟨h1, h2⟩
          have := abF_le i (by omega) h2
          omega
        · intro h; cases h
      rw [hz, Int32.zero_or]
      rfl
    · obtain ⟨a1, a2, a3, a4⟩ := q3 t (show t < nT p by omega)
      rw [tR_n e, tR_n e, tR_n e, if_neg e, hab t (by omega), hdp t (by omega), h7 t (by omega)]
      refine ⟨a1, a2, ?_, a4⟩
      have a3 : ar 7 t = setF (nT p) (fun x => bt (abF p x) t) := a3
      have hc : setF (nT p) (fun x => bt (abF (addT p c pa F) x) t) = setF (nT p) (fun x => bt (abF p x) t) := setF_cong fun k hk => by rw [hab k hk]
      rw [a3, hc]
      by_cases e2 : bt (abF (addT p c pa F) (nT p)) t = true
      · rw [if_pos ⟨ht, e2⟩, e2]; rfl
      · rw [if_neg fun z => e2 z.2, cnd_f (by cases hz : bt (abF (addT p c pa F) (nT p)) t; rfl; exact absurd hz e2), Int32.or_zero]
  · rw [hk _ _ (by decide), hk _ _ (by decide), tR_k rfl, tR_k rfl]
    exact q4 b hb
  · rw [hk _ _ (by decide), hk _ _ (by decide), hk _ _ (by decide), hk _ _ (by decide), tR_k rfl, tR_k rfl, tR_k rfl, tR_k rfl]
    obtain ⟨a1, a2, a3, a4⟩ := q5 s hs
    refine ⟨a1, a2, a3.trans ?_, a4⟩
    have hs : s < nS p := hs
    obtain ⟨b1, b2, -⟩ := hw.2.2.2 s hs
    have b3 := (hw.2.2.1 _ b2).1
    show (if sK p s = 2 then par p (bT p (sB p s)) else nI (sT p s)) = (if sK p s = 2 then (if bT p (sB p s) = nT p then pa else par p (bT p (sB p s))) else nI (sT p s))
    rw [if_neg (show ¬ bT p (sB p s) = nT p by omega)]
  · have hx : x < cnS (addT p c pa F) (nS p) := hx
    rw [hcn] at hx
    rw [hk _ _ (by decide), tR_k rfl]
    refine (q6 x hx).trans ?_
    show nI (csF p (nS p) x) = nI (csF (addT p c pa F) (nS p) x)
    rw [csF_c (p := addT p c pa F) (q := p) fun s _ => rfl]
  · rw [hk _ _ (by decide), tR_k rfl]
    exact q7 t m ht hm
