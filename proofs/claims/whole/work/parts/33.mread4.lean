/-! ===== what was read becomes the program ===== -/
/-- a row filled up to n by v -/
def fl (n : Nat) (v r : Nat → Int32) : Nat → Int32 := fun j => if j < n then v j else r j
theorem fl_0 {v r : Nat → Int32} : fl 0 v r = r := by funext j; unfold fl; rw [if_neg (by omega)]
theorem fl_g {n j : Nat} {v r : Nat → Int32} (h : j < n) : fl n v r j = v j := if_pos h
theorem fl_u {n : Nat} {v r : Nat → Int32} {x : Int32} (h : x = v n) : upd (fl n v r) n x = fl (n + 1) v r := by
  subst h
  funext j
  unfold fl upd
  by_cases e : j = n
  · subst e; simp
  · rw [if_neg e]
    show (if j < n then v j else r j) = if j < n + 1 then v j else r j
    by_cases e2 : j < n
    · rw [if_pos e2, if_pos (by omega)]
    · rw [if_neg e2, if_neg (by omega)]
/-- t stands straight below w -/
def str (p : Pg) (t w : Nat) : Bool := decide (nI w = par p t) || bt (abv p t) w
def aAcc (p : Pg) (X : Nat → Int32) (t : Nat) : Nat → Int32
  | 0 => bI t
  | w + 1 => aAcc p X t w ||| cnd (str p t w) (X w)
def dAcc (p : Pg) (D : Nat → Int32) (t : Nat) : Nat → Int32
  | 0 => 1
  | w + 1 => if str p t w = true ∧ dAcc p D t w < D w + 1 then D w + 1 else dAcc p D t w
def aTb (p : Pg) : Nat → Nat → Int32
  | 0 => fun _ => 0
  | t + 1 => upd (aTb p t) t (aAcc p (aTb p t) t t)
def dTb (p : Pg) : Nat → Nat → Int32
  | 0 => fun _ => 0
  | t + 1 => upd (dTb p t) t (dAcc p (dTb p t) t t)
def abF (p : Pg) (t : Nat) : Int32 := aTb p (t + 1) t
def dpF (p : Pg) (t : Nat) : Int32 := dTb p (t + 1) t
theorem aTb_g {p : Pg} (n : Nat) : ∀ {t : Nat}, t < n → aTb p n t = abF p t := by
  induction n with
  | zero => intro t h; omega
  | succ n ih =>
    intro t h
    by_cases e : t = n
    · subst e; rfl
    · show upd (aTb p n) n _ t = _
      rw [pk_un e]
      exact ih (by omega)
theorem dTb_g {p : Pg} (n : Nat) : ∀ {t : Nat}, t < n → dTb p n t = dpF p t := by
  induction n with
  | zero => intro t h; omega
  | succ n ih =>
    intro t h
    by_cases e : t = n
    · subst e; rfl
    · show upd (dTb p n) n _ t = _
      rw [pk_un e]
      exact ih (by omega)
theorem aAcc_c {p : Pg} {X Y : Nat → Int32} {t : Nat} (n : Nat) : (∀ w, w < n → X w = Y w) → aAcc p X t n = aAcc p Y t n := by
  induction n with
  | zero => intro _; rfl
  | succ n ih =>
    intro h
    show aAcc p X t n ||| cnd (str p t n) (X n) = aAcc p Y t n ||| cnd (str p t n) (Y n)
    rw [ih (fun w hw => h w (by omega)), h n (by omega)]
theorem dAcc_c {p : Pg} {X Y : Nat → Int32} {t : Nat} (n : Nat) : (∀ w, w < n → X w = Y w) → dAcc p X t n = dAcc p Y t n := by
  induction n with
  | zero => intro _; rfl
  | succ n ih =>
    intro h
    show (if str p t n = true ∧ dAcc p X t n < X n + 1 then X n + 1 else dAcc p X t n) = (if str p t n = true ∧ dAcc p Y t n < Y n + 1 then Y n + 1 else dAcc p Y t n)
    rw [ih (fun w hw => h w (by omega)), h n (by omega)]
theorem abF_e (p : Pg) (t : Nat) : abF p t = aAcc p (abF p) t t := by
  show upd (aTb p t) t (aAcc p (aTb p t) t t) t = _
  rw [pk_us]
  exact aAcc_c t fun w hw => aTb_g t hw
theorem dpF_e (p : Pg) (t : Nat) : dpF p t = dAcc p (dpF p) t t := by
  show upd (dTb p t) t (dAcc p (dTb p t) t t) t = _
  rw [pk_us]
  exact dAcc_c t fun w hw => dTb_g t hw
/-- how many of the first n steps call a type -/
def cnS (p : Pg) : Nat → Nat
  | 0 => 0
  | n + 1 => if sK p n = 1 then cnS p n + 1 else cnS p n
theorem cnS_le (p : Pg) (n : Nat) : cnS p n ≤ n := by
  induction n with
  | zero => exact Nat.le_refl _
  | succ n ih =>
    show (if sK p n = 1 then cnS p n + 1 else cnS p n) ≤ _
    by_cases e : sK p n = 1
    · rw [if_pos e]; omega
    · rw [if_neg e]; omega
/-- the step of the c-th call among the first n -/
def csF (p : Pg) : Nat → Nat → Nat
  | 0, _ => 0
  | n + 1, c => if sK p n = 1 ∧ c = cnS p n then n else csF p n c
theorem csF_ok (p : Pg) (n : Nat) : ∀ {c : Nat}, c < cnS p n → csF p n c < n ∧ sK p (csF p n c) = 1 := by
  induction n with
  | zero => intro c h; exact absurd h (by show ¬ c < 0; omega)
  | succ n ih =>
    intro c h
    have h : c < (if sK p n = 1 then cnS p n + 1 else cnS p n) := h
    show (if sK p n = 1 ∧ c = cnS p n then n else csF p n c) < n + 1 ∧ sK p (if sK p n = 1 ∧ c = cnS p n then n else csF p n c) = 1
    by_cases e : sK p n = 1
    · rw [if_pos e] at h
      by_cases e2 : c = cnS p n
      · rw [if_pos ⟨e, e2⟩]; exact ⟨by omega, e⟩
      · rw [if_neg (fun z => e2 z.2)]
        have := ih (c := c) (by omega)
        exact ⟨by omega, this.2⟩
    · rw [if_neg e] at h
      rw [if_neg (fun z => e z.1)]
      have := ih h
      exact ⟨by omega, this.2⟩
/-- the program out of what was read -/
def fin (p : Pg) : Pg := ((nT p, nB p, nS p, cnS p (nS p)), p.2.1, p.2.2.1, abF p, dpF p, p.2.2.2.2.2.1, p.2.2.2.2.2.2.1, p.2.2.2.2.2.2.2.1, p.2.2.2.2.2.2.2.2.1, p.2.2.2.2.2.2.2.2.2.1, p.2.2.2.2.2.2.2.2.2.2.1, csF p (nS p))
theorem fin_WB {p : Pg} (hw : WR p) : WB (fin p) := by
  obtain ⟨w1, w2, w3, w4⟩ := hw
  have hc := cnS_le p (nS p)
  refine ⟨⟨w1.1, w1.2.1, w1.2.2, ?_⟩, fun t h => ?_, w3, fun s h => ?_, fun c h => ?_⟩
  · show cnS p (nS p) ≤ 24
    have := w1.2.2
    omega
  · rcases w2 t h with e | ⟨q, e1, -, e3⟩
    · exact Or.inl e
    · exact Or.inr ⟨q, e1, e3⟩
  · obtain ⟨a1, a2, a3, a4, a5, -⟩ := w4 s h
    refine ⟨a1, a2, a3, a4, fun z => ?_⟩
    have hb := (w3 _ a2).1
    rcases w2 _ hb with e | ⟨q, e1, -, e3⟩
    · exact absurd (show par p (bT p (sB p s)) < 0 by rw [e]; decide) (a5 z)
    · exact ⟨q, Nat.lt_trans e1 hb, e3⟩
  · exact csF_ok p (nS p) h
theorem psS_v {sc f : Nat → Int32} {k : Nat} {v : Int32} (h : psK k = false) : upd (psS sc f) k v = psS (upd sc k v) f := by
  funext j
  by_cases e : j = k
  · subst e; rw [pk_us, psS_o h, pk_us]
  · rw [pk_un e]
    unfold psS
    rw [pk_un e]
theorem psS_v0 {sc f : Nat → Int32} {v : Int32} : upd (psS sc f) 0 v = psS (upd sc 0 v) f := psS_v rfl
theorem psS_v5 {sc f : Nat → Int32} {v : Int32} : upd (psS sc f) 5 v = psS (upd sc 5 v) f := psS_v rfl
theorem psS_v8 {sc f : Nat → Int32} {v : Int32} : upd (psS sc f) 8 v = psS (upd sc 8 v) f := psS_v rfl
theorem psS_v13 {sc f : Nat → Int32} {v : Int32} : upd (psS sc f) 13 v = psS (upd sc 13 v) f := psS_v rfl
theorem arS_w {ar q : Nat → Nat → Int32} {k j : Nat} {x : Int32} (h : arK k = false) : va_up (arS ar q) k (upd (arS ar q k) j x) = arS (va_up ar k (upd (ar k) j x)) q := by
  have e0 : arS ar q k = ar k := by unfold arS; rw [if_neg (by rw [h]; decide)]
  rw [e0]
  funext i
  by_cases e : i = k
  · subst e
    unfold arS
    rw [if_neg (by rw [h]; decide)]
    simp [va_up]
  · unfold arS
    simp [va_up, e]
