/-! ===== sets of numbers in an int; a program's tables; what is found, called, reached ===== -/
def b2 (b : Bool) : Int32 := if b then 1 else 0
theorem b2_t {b : Bool} (h : b = true) : b2 b = 1 := by subst h; rfl
theorem b2_f {b : Bool} (h : b = false) : b2 b = 0 := by subst h; rfl
theorem b2_eq0 {b : Bool} : b2 b = 0 ↔ b = false := by cases b <;> decide
theorem b2_ne0 {b : Bool} : ¬ b2 b = 0 ↔ b = true := by cases b <;> decide
theorem b2_01 (b : Bool) : b2 b = 0 ∨ b2 b = 1 := by cases b <;> decide
theorem b2_nar (b : Bool) : narrow .boolean (.int (b2 b)) = .int (b2 b) := by cases b <;> rfl
def bI (k : Nat) : Int32 := (1 : Int32) <<< (nI k &&& 31)
theorem bt_one : ∀ i, i < 32 → bt 1 i = decide (i = 0) := by decide +kernel
theorem bt_bI {k i : Nat} (hk : k < 32) (hi : i < 32) : bt (bI k) i = decide (i = k) := by
  unfold bI
  rw [b_shl k hk 1 hi, bt_one (i - k) (by omega)]
  by_cases h : k ≤ i
  · simp only [h, decide_true, Bool.true_and]
    by_cases e : i = k
    · simp [e]
    · simp [e]; omega
  · simp only [h, decide_false, Bool.false_and]
    simp; omega
theorem bt_lt {x : Int32} {i : Nat} (h : bt x i = true) : i < 32 := by
  rcases Nat.lt_or_ge i 32 with q | q
  · exact q
  · rw [b_big q] at h; cases h
theorem b_ext2 {x y : Int32} (h : ∀ i, i < 32 → (bt x i = true ↔ bt y i = true)) : x = y := b_ext fun i hi => by
  have := h i hi
  cases h1 : bt x i <;> cases h2 : bt y i <;> simp_all
theorem has1 {k : Nat} (hk : k < 32) (S : Int32) : (S >>> (nI k &&& 31)) &&& 1 = b2 (bt S k) := by
  apply b_ext
  intro i hi
  rw [b_and, bt_one i hi, b_sshr k hk S hi]
  by_cases e : i = 0
  · subst e
    rw [Nat.add_zero, if_pos hk]
    cases bt S k <;> decide
  · rw [decide_eq_false e, Bool.and_false]
    cases bt S k
    · exact (b_0 i).symm
    · exact ((bt_one i hi).trans (decide_eq_false e)).symm
theorem hasV_b {k : Nat} (hk : k < 31) (S : Int32) : hasV S (nI k) = b2 (bt S k) := by
  unfold hasV
  rw [if_neg (nI_pos (by omega)), if_neg (show ¬ (31 : Int32) ≤ nI k from fun q => nI_ge hk (by omega) q), has1 (by omega)]
  cases bt S k <;> decide
theorem bitV_b {k : Nat} (hk : k < 31) : bitV (nI k) = bI k := by
  unfold bitV
  rw [if_neg (nI_pos (by omega)), if_neg (show ¬ (31 : Int32) ≤ nI k from fun q => nI_ge hk (by omega) q)]
  rfl
theorem bitV_m1 : bitV (-1) = 0 := by decide
theorem hasV_m1 (S : Int32) : hasV S (-1) = 0 := by unfold hasV; rw [if_pos (by decide)]
theorem atV_in {n j : Nat} {f : Nat → Int32} (hj : j < n) (hn : n < 2 ^ 31) : atV n f (nI j) = f j := by
  unfold atV
  rw [if_neg (nI_pos (by omega)), if_neg (nI_ge hj hn), nI_clamp (by omega)]
theorem atV_m1 {n : Nat} {f : Nat → Int32} : atV n f (-1) = -1 := by unfold atV; rw [if_pos (by decide)]
def cnd (b : Bool) (x : Int32) : Int32 := if b then x else 0
theorem cnd_t {b : Bool} {x : Int32} (h : b = true) : cnd b x = x := by subst h; rfl
theorem cnd_f {b : Bool} {x : Int32} (h : b = false) : cnd b x = 0 := by subst h; rfl
theorem bt_cnd (b : Bool) (x : Int32) (i : Nat) : bt (cnd b x) i = (b && bt x i) := by
  cases b
  · exact (b_0 i)
  · rfl
def orF (n : Nat) (f : Nat → Int32) : Int32 := Nat.rec 0 (fun i acc => acc ||| f i) n
theorem orF_0 (f : Nat → Int32) : orF 0 f = 0 := rfl
theorem orF_s (n : Nat) (f : Nat → Int32) : orF (n + 1) f = orF n f ||| f n := rfl
theorem bt_orF {n : Nat} {f : Nat → Int32} {i : Nat} : bt (orF n f) i = true ↔ ∃ k, k < n ∧ bt (f k) i = true := by
  induction n with
  | zero =>
    rw [orF_0, b_0]
    refine ⟨fun h => ?_, fun h => ?_⟩
    · cases h
    · obtain ⟨k, hk, -⟩ := h
      omega
  | succ n ih =>
    rw [orF_s, b_or, Bool.or_eq_true, ih]
    constructor
    · rintro (⟨k, h1, h2⟩ | h)
      · exact ⟨k, by omega, h2⟩
      · exact ⟨n, by omega, h⟩
    · rintro ⟨k, h1, h2⟩
      rcases Nat.lt_or_ge k n with q | q
      · exact Or.inl ⟨k, q, h2⟩
      · rw [show k = n by omega] at h2; exact Or.inr h2
theorem orF_cong {n : Nat} {f f2 : Nat → Int32} (h : ∀ k, k < n → f k = f2 k) : orF n f = orF n f2 := by
  induction n with
  | zero => rfl
  | succ n ih => rw [orF_s, orF_s, ih (fun k hk => h k (by omega)), h n (by omega)]
/-- the set of those below n of which p holds -/
def setF (n : Nat) (p : Nat → Bool) : Int32 := orF n fun i => cnd (p i) (bI i)
theorem bt_setF {n : Nat} {p : Nat → Bool} (hn : n ≤ 32) {i : Nat} : bt (setF n p) i = true ↔ i < n ∧ p i = true := by
  unfold setF
  rw [bt_orF]
  constructor
  · rintro ⟨k, h1, h2⟩
    have hi := bt_lt h2
    rw [bt_cnd, bt_bI (by omega) hi, Bool.and_eq_true, decide_eq_true_eq] at h2
    rw [h2.2]
    exact ⟨h1, h2.1⟩
  · rintro ⟨h1, h2⟩
    exact ⟨i, h1, by rw [bt_cnd, bt_bI (by omega) (by omega), h2]; simp⟩
theorem setF_s (n : Nat) (p : Nat → Bool) : setF (n + 1) p = setF n p ||| cnd (p n) (bI n) := rfl
theorem setF_cong {n : Nat} {p q : Nat → Bool} (h : ∀ k, k < n → p k = q k) : setF n p = setF n q := orF_cong fun k hk => by rw [h k hk]
theorem fa_of_nlt2 {a b : Int32} (h : b ≤ a) : ¬ a < b := fun q => (fa_of_lt q).2.1 h
def inN (x : Int32) (n : Nat) : Bool := decide (0 ≤ x ∧ x < nI n)
theorem inN_t {x : Int32} {n : Nat} (hn : n < 2 ^ 31) (h : inN x n = true) : ∃ j, j < n ∧ x = nI j := by
  have h1 := of_decide_eq_true h
  rcases pk_ix x hn with q | q | q
  · exact absurd (fa_of_lt q).2.1 (fun z => z h1.1)
  · exact absurd h1.2 (fun z => (fa_of_lt z).2.1 q)
  · exact q
theorem inN_nI {j n : Nat} (h : j < n) (hn : n < 2 ^ 31) : inN (nI j) n = true := decide_eq_true ⟨nI_pos' (by omega), nI_lt h hn⟩
theorem inN_f {x : Int32} {n : Nat} (h : inN x n = false) : ¬ (0 ≤ x ∧ x < nI n) := of_decide_eq_false h
/-! the tables: counts, sort of a type, the class it is below, what is above, depth; a body's type and message; a step's kind, body, type, message; a call's step -/
abbrev Pg : Type := (Nat × Nat × Nat × Nat) × (Nat → Bool) × (Nat → Int32) × (Nat → Int32) × (Nat → Int32) × (Nat → Nat) × (Nat → Nat) × (Nat → Nat) × (Nat → Nat) × (Nat → Nat) × (Nat → Nat) × (Nat → Nat)
def nT (p : Pg) : Nat := p.1.1
def nB (p : Pg) : Nat := p.1.2.1
def nS (p : Pg) : Nat := p.1.2.2.1
def nC (p : Pg) : Nat := p.1.2.2.2
def isC (p : Pg) (t : Nat) : Bool := p.2.1 t
def par (p : Pg) (t : Nat) : Int32 := p.2.2.1 t
def abv (p : Pg) (t : Nat) : Int32 := p.2.2.2.1 t
def dep (p : Pg) (t : Nat) : Int32 := p.2.2.2.2.1 t
def bT (p : Pg) (b : Nat) : Nat := p.2.2.2.2.2.1 b
def bM (p : Pg) (b : Nat) : Nat := p.2.2.2.2.2.2.1 b
def sK (p : Pg) (s : Nat) : Nat := p.2.2.2.2.2.2.2.1 s
def sB (p : Pg) (s : Nat) : Nat := p.2.2.2.2.2.2.2.2.1 s
def sT (p : Pg) (s : Nat) : Nat := p.2.2.2.2.2.2.2.2.2.1 s
def sM (p : Pg) (s : Nat) : Nat := p.2.2.2.2.2.2.2.2.2.2.1 s
def cS (p : Pg) (c : Nat) : Nat := p.2.2.2.2.2.2.2.2.2.2.2 c
/-- the bounds that hold of a program's tables -/
def WB (p : Pg) : Prop := (nT p ≤ 12 ∧ nB p ≤ 20 ∧ nS p ≤ 24 ∧ nC p ≤ 24) ∧ (∀ t, t < nT p → par p t = -1 ∨ ∃ q, q < t ∧ par p t = nI q) ∧ (∀ b, b < nB p → bT p b < nT p ∧ bM p b < 6) ∧ (∀ s, s < nS p → sK p s < 3 ∧ sB p s < nB p ∧ sT p s < nT p ∧ sM p s < 6 ∧ (sK p s = 2 → ∃ q, q < nT p ∧ par p (bT p (sB p s)) = nI q)) ∧ (∀ c, c < nC p → cS p c < nS p ∧ sK p (cS p c) = 1)
/-- a number that is a body, or NONE -/
def oB (n k : Nat) : Int32 := if k < n then nI k else -1
def fBod (p : Pg) (t m : Nat) : Nat := fa_first (fun b => bT p b == t && bM p b == m) (nB p)
def bodyOf (p : Pg) (t m : Nat) : Int32 := oB (nB p) (fBod p t m)
def hasB (p : Pg) (t m : Nat) : Bool := decide (fBod p t m < nB p)
def isOv (p : Pg) (u : Nat) (S : Int32) : Nat → Bool
  | 0 => false
  | x + 1 => isOv p u S x || (!(x == u) && bt S x && bt (abv p x) u)
def haveS (p : Pg) (t m : Nat) : Int32 := setF (nT p) fun u => !isC p u && bt (abv p t) u && hasB p u m
def leftS (p : Pg) (t m : Nat) : Int32 := setF (nT p) fun u => bt (haveS p t m) u && !isOv p u (haveS p t m) (nT p)
def oneB (S : Int32) : Bool := decide (¬ S = 0) && decide (S &&& (S - 1) = 0)
def low (S : Int32) : Nat := fa_first (bt S) 32
def byF (p : Pg) (t m : Nat) : Int32 := if oneB (leftS p t m) then bodyOf p (low (leftS p t m)) m else -1
/-- from class u on upwards; fuel: how far -/
def fndU (p : Pg) (t m : Nat) : Nat → Int32 → Int32
  | 0, _ => byF p t m
  | k + 1, u => if u < 0 then byF p t m else if hasB p u.toNatClampNeg m then bodyOf p u.toNatClampNeg m else fndU p t m k (par p u.toNatClampNeg)
def fnd (p : Pg) (t m : Nat) : Int32 := fndU p t m 12 (nI t)
def bitB (b : Int32) : Int32 := if b < 0 then 0 else (1 : Int32) <<< (b &&& 31)
/-- what step s calls, the classes of S being made -/
def clT (p : Pg) (s : Nat) (S : Int32) : Int32 := orF (nT p) fun t => cnd (isC p t && bt S t && bt (abv p t) (sT p s)) (bitB (fnd p t (sM p s)))
def dnB (p : Pg) (s : Nat) (S : Int32) : Int32 := if sK p s = 0 then 0 else if sK p s = 2 then bitB (fnd p (par p (bT p (sB p s))).toNatClampNeg (sM p s)) else clT p s S
def may (p : Pg) (c : Nat) (S : Int32) : Int32 := clT p (cS p c) S
/-- what body b calls: R reached, S made -/
def clB (p : Pg) (R S : Int32) (b : Nat) : Int32 := if bt R b then orF (nS p) fun s => cnd (sB p s == b) (dnB p s S) else 0
/-- a call bound to b goes, its MAY being m -/
def wG (m b : Int32) : Bool := !decide (b < 0) && !decide (m = (1 : Int32) <<< (b &&& 31))
def hrt (p : Pg) (N : Nat → Int32) (t : Nat) : Int32 := if bt (N 0) t then 0 else setF (nC p) fun c => wG (may p c (N 0 ||| abv p t)) (N (2 + c))
def brk (p : Pg) (N : Nat → Int32) (c : Nat) : Int32 := setF (nT p) fun t => !bt (N 0) t && wG (may p c (N 0 ||| abv p t)) (N (2 + c))
def cnF (n : Nat) (p : Nat → Bool) : Int32 := Nat.rec 0 (fun i acc => acc + b2 (p i)) n
theorem cnF_s (n : Nat) (p : Nat → Bool) : cnF (n + 1) p = cnF n p + b2 (p n) := rfl
def ovr (p : Pg) (b : Nat) : Int32 := if isC p (bT p b) then fndU p (bT p b) (bM p b) 12 (par p (bT p b)) else -1
def dos (p : Pg) (R S : Int32) (c : Nat) : Int32 := if bt R (sB p (cS p c)) then dnB p (cS p c) S else 0
section mVC
variable {g : mG} {d : Nat} {M : mM} {P : Option Value → mH → Prop} {sz' u' pc n t : Nat} {ls ls2 st st2 : List Value} {h h2 : mH} {sz u : Nat} {o : Int} {x y : Int32} {b : Bool}
theorem V_ifb_eq (hf : mF M pc = some (.ifCond .eq o, 3, n, t)) (kt : b = false → V g d M P sz' u' t ls st h sz u) (kf : b = true → V g d M P sz' u' n ls st h sz u) : V g d M P sz' u' pc ls (.int (b2 b) :: st) h sz u := V_if_eq hf (fun q => kt (b2_eq0.mp q)) (fun q => kf (b2_ne0.mp q))
theorem V_ifb_ne (hf : mF M pc = some (.ifCond .ne o, 3, n, t)) (kt : b = true → V g d M P sz' u' t ls st h sz u) (kf : b = false → V g d M P sz' u' n ls st h sz u) : V g d M P sz' u' pc ls (.int (b2 b) :: st) h sz u := V_if_ne hf (fun q => kt (b2_ne0.mp q)) (fun q => kf (b2_eq0.mp q))
/-- the same place, told otherwise -/
theorem V_ls (hv : V g d M P sz' u' pc ls2 st h sz u) (e : ls = ls2) : V g d M P sz' u' pc ls st h sz u := e ▸ hv
theorem V_lsh (hv : V g d M P sz' u' pc ls2 st h2 sz u) (e : ls = ls2) (e2 : h = h2) : V g d M P sz' u' pc ls st h sz u := e ▸ e2 ▸ hv
/-- values of locals forgotten -/
def mWk : List Value → List Value → Prop
  | [], [] => True
  | a :: s, b :: t => (b = a ∨ b = .retAddr 0) ∧ mWk s t
  | _, _ => False
theorem mWk_get : ∀ {s t : List Value}, mWk s t → s.length = t.length ∧ ∀ (k : Nat) (v : Value), t[k]? = some v → mOkv v = true → s[k]? = some v
  | [], [], _ => ⟨rfl, fun k v hv => by cases hv⟩
  | a :: s, b :: t, hw => by
    obtain ⟨h1, h2⟩ := mWk_get hw.2
    refine ⟨by simp [h1], fun k v hv ho => ?_⟩
    cases k with
    | zero =>
      have e : b = v := Option.some.inj hv
      subst e
      rcases hw.1 with e | e
      · rw [e]; rfl
      · rw [e] at ho; cases ho
    | succ k => exact h2 k v hv ho
  | [], b :: t, hw => hw.elim
  | a :: s, [], hw => hw.elim
theorem V_wk (hv : V g d M P sz' u' pc ls2 st h sz u) (e : mWk ls ls2) : V g d M P sz' u' pc ls st h sz u := by
  obtain ⟨e1, e2⟩ := mWk_get e
  refine ⟨hv.1, hv.2.1, fun p e R s m args below meth c H locs cells slots Q arr C S F L h1 h2 K => hv.2.2 p e R s m args below meth c H locs cells slots Q arr C S F ⟨e1.symm.trans L.1, lv_less L.2 fun q hq => ?_⟩ h1 h2 K⟩
  obtain ⟨k, v, q1, q2, q3⟩ := mLA_mem.mp hq
  exact mLA_mem.mpr ⟨k, v, e2 k v q1 q2, q2, q3⟩
theorem P_ret {v v2 : Int32} {h0 h1 : mH} (e : v = v2) (e2 : h0 = h1) : Pi v2 h1 (some (.int v)) h0 := by
  subst e; subst e2
  exact ⟨rfl, rfl⟩
end mVC
