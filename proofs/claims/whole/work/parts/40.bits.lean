/-! ===== the class's JDK leaves: bitCount, numberOfTrailingZeros, floorMod ===== -/
theorem cnF_ct (p : Nat → Bool) : ∀ n, cnF n p = nI (fb_ct p n)
  | 0 => rfl
  | n + 1 => by
    rw [cnF_s, cnF_ct p n, fb_ct_succ]
    cases p n
    · show nI _ + 0 = nI (_ + 0)
      rw [Int32.add_zero]; rfl
    · exact nI_1 _
theorem and_split {k a b c d : Nat} (ha : a < 2 ^ k) (hc : c < 2 ^ k) : (2 ^ k * b + a) &&& (2 ^ k * d + c) = 2 ^ k * (b &&& d) + (a &&& c) := by
  apply Nat.eq_of_testBit_eq
  intro i
  rw [Nat.testBit_and, Nat.testBit_two_pow_mul_add _ ha, Nat.testBit_two_pow_mul_add _ hc, Nat.testBit_two_pow_mul_add _ (Nat.and_lt_two_pow _ hc)]
  split
  · rw [Nat.testBit_and]
  · rw [Nat.testBit_and]
theorem and_256 {a b c d : Nat} (ha : a < 256) (hc : c < 256) : (256 * b + a) &&& (256 * d + c) = 256 * (b &&& d) + (a &&& c) := and_split (k := 8) ha hc
def mkB (c : Nat) : Nat → Nat
  | 0 => 0
  | k + 1 => 256 * mkB c k + c
def pc1 (k n : Nat) : Nat := n - (n / 2 &&& mkB 85 k)
def pc2 (k n : Nat) : Nat := (n &&& mkB 51 k) + (n / 4 &&& mkB 51 k)
def pc3 (k n : Nat) : Nat := (n + n / 16) &&& mkB 15 k
theorem pb1 : ∀ a, a < 256 → ∀ r, r < 2 → (a / 2 + 128 * r) &&& 85 = (a / 2 &&& 85) := by decide +kernel
theorem pb2 : ∀ a, a < 256 → ∀ r, r < 4 → (a / 4 + 64 * r) &&& 51 = (a / 4 &&& 51) := by decide +kernel
theorem pb3 : ∀ a, a < 69 → ∀ r, r < 5 → (a + a / 16 + 16 * r) &&& 15 = ((a + a / 16) &&& 15) := by decide +kernel
theorem pbB : ∀ a, a < 256 → pc1 1 a < 256 ∧ pc2 1 (pc1 1 a) < 69 ∧ pc2 1 (pc1 1 a) % 16 ≤ 4 ∧ pc3 1 (pc2 1 (pc1 1 a)) ≤ 8 := by decide +kernel
theorem pbC : ∀ a, a < 256 → pc3 1 (pc2 1 (pc1 1 a)) = fb_ct a.testBit 8 := by decide +kernel
theorem pc1_s (k m : Nat) {a : Nat} (ha : a < 256) : pc1 (k + 1) (256 * m + a) = 256 * pc1 k m + pc1 1 a := by
  unfold pc1
  have e : (256 * m + a) / 2 = 256 * (m / 2) + (a / 2 + 128 * (m % 2)) := by omega
  have h1 : (m / 2 &&& mkB 85 k) ≤ m := Nat.le_trans Nat.and_le_left (Nat.div_le_self _ _)
  have h2 : (a / 2 &&& 85) ≤ a := Nat.le_trans Nat.and_le_left (Nat.div_le_self _ _)
  rw [e, show mkB 85 (k + 1) = 256 * mkB 85 k + 85 from rfl, and_256 (by omega) (by decide), pb1 a ha _ (Nat.mod_lt _ (by decide)), show mkB 85 1 = 85 from rfl]
  omega
theorem pc2_s (k m : Nat) {a : Nat} (ha : a < 256) : pc2 (k + 1) (256 * m + a) = 256 * pc2 k m + pc2 1 a := by
  unfold pc2
  have e : (256 * m + a) / 4 = 256 * (m / 4) + (a / 4 + 64 * (m % 4)) := by omega
  rw [e, show mkB 51 (k + 1) = 256 * mkB 51 k + 51 from rfl, and_256 ha (by decide), and_256 (b := m / 4) (by omega) (by decide), pb2 a ha _ (Nat.mod_lt _ (by decide)), show mkB 51 1 = 51 from rfl]
  omega
theorem pc3_s (k m : Nat) {a : Nat} (ha : a < 69) (hm : m % 16 ≤ 4) : pc3 (k + 1) (256 * m + a) = 256 * pc3 k m + pc3 1 a := by
  unfold pc3
  have e : 256 * m + a + (256 * m + a) / 16 = 256 * (m + m / 16) + (a + a / 16 + 16 * (m % 16)) := by omega
  rw [e, show mkB 15 (k + 1) = 256 * mkB 15 k + 15 from rfl, and_256 (by omega) (by decide), pb3 a ha _ (by omega), show mkB 15 1 = 15 from rfl]
def pcR : Nat → Nat → Nat
  | 0, _ => 0
  | k + 1, n => 256 * pcR k (n / 256) + pc3 1 (pc2 1 (pc1 1 (n % 256)))
theorem pcR_ok : ∀ k n, n < 256 ^ k → pc2 k (pc1 k n) % 16 ≤ 4 ∧ pc3 k (pc2 k (pc1 k n)) = pcR k n
  | 0, n, h => by
    have : n = 0 := by omega
    subst this
    decide
  | k + 1, n, h => by
    have hd : n / 256 < 256 ^ k := by
      rw [Nat.pow_succ] at h
      exact Nat.div_lt_of_lt_mul (by rw [Nat.mul_comm]; exact h)
    obtain ⟨h1, h2⟩ := pcR_ok k (n / 256) hd
    have ha : n % 256 < 256 := Nat.mod_lt _ (by decide)
    obtain ⟨b1, b2, b3, b4⟩ := pbB _ ha
    have e : n = 256 * (n / 256) + n % 256 := by omega
    have e2 : pc2 (k + 1) (pc1 (k + 1) n) = 256 * pc2 k (pc1 k (n / 256)) + pc2 1 (pc1 1 (n % 256)) := by
      rw [show pc1 (k + 1) n = 256 * pc1 k (n / 256) + pc1 1 (n % 256) by rw [← pc1_s k _ ha, ← e], pc2_s k _ b1]
    refine ⟨by rw [e2]; omega, ?_⟩
    rw [e2, pc3_s k _ b2 h1, h2]
    rfl
theorem pcR_4 {n : Nat} (hn : n < 2 ^ 32) : (pcR 4 n + pcR 4 n / 256 + (pcR 4 n + pcR 4 n / 256) / 65536) % 64 = fb_ct n.testBit 32 ∧ pcR 4 n < 2 ^ 28 := by
  have e : pcR 4 n = 256 * (256 * (256 * (256 * 0 + pc3 1 (pc2 1 (pc1 1 (n / 256 / 256 / 256 % 256)))) + pc3 1 (pc2 1 (pc1 1 (n / 256 / 256 % 256)))) + pc3 1 (pc2 1 (pc1 1 (n / 256 % 256)))) + pc3 1 (pc2 1 (pc1 1 (n % 256))) := rfl
  have c0 := pbB (n % 256) (Nat.mod_lt _ (by decide))
  have c1 := pbB (n / 256 % 256) (Nat.mod_lt _ (by decide))
  have c2 := pbB (n / 256 / 256 % 256) (Nat.mod_lt _ (by decide))
  have c3 := pbB (n / 256 / 256 / 256 % 256) (Nat.mod_lt _ (by decide))
  have t : ∀ (m k : Nat), k < 8 → (m % 256).testBit k = m.testBit k := fun m k hk => by
    rw [show (256 : Nat) = 2 ^ 8 from rfl, Nat.testBit_mod_two_pow, decide_eq_true hk, Bool.true_and]
  have u : ∀ (m k : Nat), m.testBit (8 + k) = (m / 256).testBit k := fun m k => by
    rw [show (256 : Nat) = 2 ^ 8 from rfl, Nat.testBit_div_two_pow, Nat.add_comm]
  have s : ∀ m j : Nat, fb_ct m.testBit (8 + j) = fb_ct (m % 256).testBit 8 + fb_ct (m / 256).testBit j := fun m j => by
    rw [fb_ct_split, fb_ct_cong (p := (m % 256).testBit) (q := m.testBit) (fun k hk => t m k hk), fb_ct_cong (p := fun k => m.testBit (8 + k)) (q := (m / 256).testBit) (fun k _ => u m k)]
  have hs : fb_ct n.testBit 32 = pc3 1 (pc2 1 (pc1 1 (n % 256))) + (pc3 1 (pc2 1 (pc1 1 (n / 256 % 256))) + (pc3 1 (pc2 1 (pc1 1 (n / 256 / 256 % 256))) + (pc3 1 (pc2 1 (pc1 1 (n / 256 / 256 / 256 % 256))) + 0))) := by
    rw [show (32 : Nat) = 8 + (8 + (8 + (8 + 0))) from rfl, s, s, s, s, pbC _ (Nat.mod_lt _ (by decide)), pbC _ (Nat.mod_lt _ (by decide)), pbC _ (Nat.mod_lt _ (by decide)), pbC _ (Nat.mod_lt _ (by decide))]
    rfl
  rw [e, hs]
  generalize pc3 1 (pc2 1 (pc1 1 (n % 256))) = A at c0
  generalize pc3 1 (pc2 1 (pc1 1 (n / 256 % 256))) = B at c1
  generalize pc3 1 (pc2 1 (pc1 1 (n / 256 / 256 % 256))) = C at c2
  generalize pc3 1 (pc2 1 (pc1 1 (n / 256 / 256 / 256 % 256))) = D at c3
  have c0 := c0.2.2.2
  have c1 := c1.2.2.2
  have c2 := c2.2.2.2
  have c3 := c3.2.2.2
  have x1 : (256 * (256 * (256 * (256 * 0 + D) + C) + B) + A) / 256 = B + 256 * C + 65536 * D := by omega
  rw [x1]
  have x2 : (256 * (256 * (256 * (256 * 0 + D) + C) + B) + A + (B + 256 * C + 65536 * D)) / 65536 = C + D + 256 * D := by omega
  rw [x2]
  omega
abbrev ush (x s : Int32) : Int32 := (x.toUInt32 >>> (s.toUInt32 &&& Int32.toUInt32 31)).toInt32
def pcA (S : Int32) : Int32 := S - (ush S 1 &&& 1431655765)
def pcB (x : Int32) : Int32 := (x &&& 858993459) + (ush x 2 &&& 858993459)
def pcC (x : Int32) : Int32 := (x + ush x 4) &&& 252645135
def pcD (x : Int32) : Int32 := x + ush x 8
def pcE (x : Int32) : Int32 := x + ush x 16
def pcV (S : Int32) : Int32 := pcE (pcD (pcC (pcB (pcA S)))) &&& 63
theorem bt_nI {n i : Nat} : bt (nI n) i = (decide (i < 32) && n.testBit i) := by
  show (BitVec.ofNat 32 n).getLsbD i = _
  rw [BitVec.getLsbD_ofNat]
theorem pcV_ct (S : Int32) : pcV S = cnF 32 (bt S) := by
  obtain ⟨n, hn, rfl⟩ := wb_of32 S
  rw [cnF_ct, fb_ct_cong (p := bt (nI n)) (q := n.testBit) (fun k hk => by rw [bt_nI, decide_eq_true hk, Bool.true_and])]
  have hk := (pcR_ok 4 n hn).2
  have h4 := pcR_4 hn
  have ea : pcA (nI n) = nI (pc1 4 n) := by
    unfold pcA pc1
    rw [show ush (nI n) 1 = nI (n / 2 ^ 1) from pk_ushrN hn 1 1 (by decide)]
    show nI n - (nI (n / 2) &&& nI (mkB 85 4)) = _
    rw [fa_and, pk_sub (Nat.le_trans Nat.and_le_left (Nat.div_le_self _ _))]
  have ha : pc1 4 n < 2 ^ 32 := Nat.lt_of_le_of_lt (Nat.sub_le _ _) hn
  rw [← hk] at h4
  generalize pc1 4 n = a at ea ha h4
  have eb : pcB (nI a) = nI (pc2 4 a) := by
    unfold pcB pc2
    rw [show ush (nI a) 2 = nI (a / 2 ^ 2) from pk_ushrN ha 2 2 (by decide)]
    show (nI a &&& nI (mkB 51 4)) + (nI (a / 4) &&& nI (mkB 51 4)) = _
    rw [fa_and, fa_and, nI_add]
  have hb : pc2 4 a ≤ 858993459 + 858993459 := Nat.add_le_add Nat.and_le_right Nat.and_le_right
  generalize pc2 4 a = b at eb hb h4
  have ec : pcC (nI b) = nI (pc3 4 b) := by
    unfold pcC pc3
    rw [show ush (nI b) 4 = nI (b / 2 ^ 4) from pk_ushrN (by omega) 4 4 (by decide), nI_add]
    show nI _ &&& nI (mkB 15 4) = _
    rw [fa_and]
  generalize pc3 4 b = c at ec h4
  unfold pcV
  rw [ea, eb, ec]
  unfold pcE pcD
  rw [show ush (nI c) 8 = nI (c / 2 ^ 8) from pk_ushrN (by omega) 8 8 (by decide), nI_add, show ush (nI (c + c / 2 ^ 8)) 16 = nI ((c + c / 2 ^ 8) / 2 ^ 16) from pk_ushrN (by omega) 16 16 (by decide), nI_add]
  have := fa_mask (c + c / 2 ^ 8 + (c + c / 2 ^ 8) / 2 ^ 16) 6
  rw [show (63 : Int32) = nI (2 ^ 6 - 1) from rfl, this]
  exact congrArg nI h4.1
section bits2
variable {S : Int32}
theorem low_le {S : Int32} {i : Nat} (hi : bt S i = true) : low S ≤ i := by
  rcases Nat.lt_or_ge i (low S) with q | q
  · have := fa_first_no (bt S) 32 i q
    rw [hi] at this; cases this
  · exact q
theorem bt_pred {S : Int32} (h : ∃ k, k < 32 ∧ bt S k = true) {i : Nat} (hi : i < 32) : bt (S - 1) i = if i < low S then true else if i = low S then false else bt S i := by
  obtain ⟨h1, h2⟩ := low_in h
  have h3 : ∀ j, j < low S → bt S j = false := fun j hj => fa_first_no (bt S) 32 j hj
  generalize low S = k at h1 h2 h3
  obtain ⟨n, hn, rfl⟩ := wb_of32 S
  rw [bt_nI, decide_eq_true h1, Bool.true_and] at h2
  have h3 : ∀ j, j < k → n.testBit j = false := fun j hj => by
    have := h3 j hj
    rwa [bt_nI, decide_eq_true (show j < 32 by omega), Bool.true_and] at this
  have hm : n % 2 ^ (k + 1) = 2 ^ k := by
    apply Nat.eq_of_testBit_eq
    intro j
    rw [Nat.testBit_mod_two_pow, Nat.testBit_two_pow]
    by_cases e : j < k
    · rw [h3 j e, Bool.and_false, decide_eq_false (by omega)]
    · by_cases e2 : j = k
      · subst e2; rw [h2]; simp
      · rw [decide_eq_false (show ¬ j < k + 1 by omega), Bool.false_and, decide_eq_false (by omega)]
  have hp : 0 < 2 ^ k := Nat.two_pow_pos k
  have hd := Nat.div_add_mod n (2 ^ (k + 1))
  rw [hm] at hd
  have hlt : 2 ^ k - 1 < 2 ^ (k + 1) := by rw [Nat.pow_succ]; omega
  have e1 : n - 1 = 2 ^ (k + 1) * (n / 2 ^ (k + 1)) + (2 ^ k - 1) := by omega
  rw [show nI n - 1 = nI (n - 1) from pk_sub (b := 1) (by omega), bt_nI, decide_eq_true hi, Bool.true_and, bt_nI, decide_eq_true hi, Bool.true_and, e1, Nat.testBit_two_pow_mul_add _ hlt, Nat.testBit_two_pow_sub_one]
  by_cases c1 : i < k
  · rw [if_pos (by omega), if_pos c1, decide_eq_true c1]
  · rw [if_neg c1]
    by_cases c2 : i = k
    · rw [if_pos c2, if_pos (by omega), decide_eq_false c1]
    · rw [if_neg c2, if_neg (by omega), Nat.testBit_div_two_pow, show i - (k + 1) + (k + 1) = i by omega]
theorem oneB_iff : oneB S = true ↔ (∃ k, k < 32 ∧ bt S k = true) ∧ ∀ i, bt S i = true → i = low S := by
  constructor
  · intro h
    have hx := low_lt h
    refine ⟨hx, fun i hi => ?_⟩
    unfold oneB at h
    rw [Bool.and_eq_true, decide_eq_true_eq, decide_eq_true_eq] at h
    have h2 := congrArg (fun z => bt z i) h.2
    simp only [b_and, b_0, bt_pred hx (bt_lt hi), hi, Bool.true_and] at h2
    have := low_le hi
    rw [if_neg (by omega)] at h2
    refine Classical.byContradiction fun q => ?_
    rw [if_neg q] at h2
    cases h2
  · rintro ⟨hx, hu⟩
    unfold oneB
    rw [Bool.and_eq_true, decide_eq_true_eq, decide_eq_true_eq]
    refine ⟨fun e => ?_, b_ext fun i hi => ?_⟩
    · obtain ⟨k, -, hk⟩ := hx
      rw [e, b_0] at hk; cases hk
    · rw [b_and, b_0, bt_pred hx hi]
      cases hb : bt S i
      · rfl
      · rw [hu i hb]
        simp
theorem ct1_iff : fb_ct (bt S) 32 = 1 ↔ oneB S = true := by
  rw [oneB_iff]
  constructor
  · intro h
    obtain ⟨k, hk, hb⟩ := fb_ct_pos.mp (show 0 < fb_ct (bt S) 32 by omega)
    have hz : ∀ i, bt S i = true → fb_ct (bt S) i = 0 := fun i hi => by
      have := fb_ct_mono (bt S) (m := i + 1) (n := 32) (by have := bt_lt hi; omega)
      rw [fb_ct_succ, hi] at this
      simp at this
      omega
    refine ⟨⟨k, hk, hb⟩, fun i hi => ?_⟩
    have hl := (low_in ⟨k, hk, hb⟩).2
    exact fb_ct_kth_one hi hl ((hz i hi).trans (hz _ hl).symm)
  · rintro ⟨⟨k, hk, hb⟩, hu⟩
    have h1 : 0 < fb_ct (bt S) 32 := fb_ct_pos.mpr ⟨k, hk, hb⟩
    refine Classical.byContradiction fun q => ?_
    obtain ⟨i, i1, i2, i3⟩ := fb_ct_kth (p := bt S) (n := 32) (k := 0) (by omega)
    obtain ⟨j, j1, j2, j3⟩ := fb_ct_kth (p := bt S) (n := 32) (k := 1) (by omega)
    rw [hu i i2] at i3
    rw [hu j j2] at j3
    omega
theorem pcV_1 (S : Int32) : pcV S = 1 ↔ oneB S = true := by
  rw [pcV_ct, cnF_ct, ← ct1_iff]
  have := fb_ct_le (bt S) 32
  exact nI_eq (b := 1) (by omega) (by decide)
theorem pcV_12 {S : Int32} {n : Nat} (hn : n ≤ 12) (h : sub n S) : pcV S = cnF 12 (bt S) := by
  have hz : fb_ct (fun k => bt S (12 + k)) 20 = 0 := fb_ct_zero.mpr fun k _ => by
    cases hb : bt S (12 + k)
    · rfl
    · have := h _ hb; omega
  rw [pcV_ct, cnF_ct, cnF_ct, show (32 : Nat) = 12 + 20 from rfl, fb_ct_split, hz, Nat.add_zero]
def nzV (S : Int32) : Int32 := (S ^^^ (-1)) &&& (S - 1)
theorem nzV_is {S : Int32} (h : ∃ k, k < 32 ∧ bt S k = true) : nzV S = nI (2 ^ low S - 1) := by
  obtain ⟨h1, h2⟩ := low_in h
  apply b_ext
  intro i hi
  unfold nzV
  rw [b_and, b_xor, b_m1 i hi, bt_pred h hi, bt_nI, decide_eq_true hi, Bool.true_and, Nat.testBit_two_pow_sub_one]
  by_cases c1 : i < low S
  · have h3 : bt S i = false := fa_first_no (bt S) 32 i c1
    rw [if_pos c1, h3, decide_eq_true c1]; rfl
  · rw [if_neg c1, decide_eq_false c1]
    by_cases c2 : i = low S
    · rw [if_pos c2, Bool.and_false]
    · rw [if_neg c2]
      cases bt S i <;> rfl
end bits2
def fmV (x y : Int32) : Int32 := if 0 ≤ x ^^^ y then x - x / y * y else if x - x / y * y = 0 then x - x / y * y else x - x / y * y + y
theorem fm16 : ∀ a, a < 16 → ∀ i, i < 16 → fmV (nI a - nI i) 16 = nI ((a + 16 - i) % 16) := by decide +kernel
theorem fm16s : ∀ a, a < 16 → fmV (nI a + 1) 16 = nI ((a + 1) % 16) := by decide +kernel
theorem fm8s : ∀ a, a < 8 → fmV (nI a + 1) 8 = nI ((a + 1) % 8) := by decide +kernel
theorem fm8p : ∀ a, a < 8 → fmV (nI a - 1) 8 = nI ((a + 7) % 8) := by decide +kernel
def ntB (v : Int32) : Int32 :=
  if 0 < v then
    (let v1 := if v ≤ 65536 then v else ush v 16
     let n1 : Int32 := if v ≤ 65536 then 1 else 1 + Int32.ofInt 16
     let v2 := if v1 ≤ 256 then v1 else ush v1 8
     let n2 : Int32 := if v1 ≤ 256 then n1 else n1 + Int32.ofInt 8
     let v3 := if v2 ≤ 16 then v2 else ush v2 4
     let n3 : Int32 := if v2 ≤ 16 then n2 else n2 + Int32.ofInt 4
     let v4 := if v3 ≤ 4 then v3 else ush v3 2
     let n4 : Int32 := if v3 ≤ 4 then n3 else n3 + Int32.ofInt 2
     n4 + ush v4 1)
  else v &&& 32
theorem ntB_ok : ∀ k, k < 32 → ntB (nI (2 ^ k - 1)) = nI k := by decide +kernel
def leastV (S : Int32) : Int32 := if S = 0 then -1 else nI (low S)
section jdk
variable {g : mG} {h : mH} {sz u : Nat}
set_option maxRecDepth 20000 in
set_option maxHeartbeats 1000000 in
theorem s_bc (S : Int32) : Mt g 0 m_Int_bitCount [.int S] h sz u (Pi (pcV S) h) sz u := by
  refine Mt.of m_Int_bitCount_w m_Int_bitCount_x m_Int_bitCount_c rfl rfl (ls := [.int S]) rfl ?_
  refine V_iload_n rfl rfl ?_
  refine V_iload_n rfl rfl ?_
  refine V_iconst (v := 1) rfl (by decide) ?_
  refine V_iushr rfl ?_
  refine V_ldcw rfl rfl ?_
  refine V_iand rfl ?_
  refine V_isub rfl ?_
  refine V_is0 rfl ?_
  refine V_iload_n rfl rfl ?_
  refine V_ldcw rfl rfl ?_
  refine V_iand rfl ?_
  refine V_iload_n rfl rfl ?_
  refine V_iconst (v := 2) rfl (by decide) ?_
  refine V_iushr rfl ?_
  refine V_ldcw rfl rfl ?_
  refine V_iand rfl ?_
  refine V_iadd rfl ?_
  refine V_is0 rfl ?_
  refine V_iload_n rfl rfl ?_
  refine V_iload_n rfl rfl ?_
  refine V_iconst (v := 4) rfl (by decide) ?_
  refine V_iushr rfl ?_
  refine V_iadd rfl ?_
  refine V_ldcw rfl rfl ?_
  refine V_iand rfl ?_
  refine V_is0 rfl ?_
  refine V_iload_n rfl rfl ?_
  refine V_iload_n rfl rfl ?_
  refine V_bipush (v := 8) rfl (by decide) ?_
  refine V_iushr rfl ?_
  refine V_iadd rfl ?_
  refine V_is0 rfl ?_
  refine V_iload_n rfl rfl ?_
  refine V_iload_n rfl rfl ?_
  refine V_bipush (v := 16) rfl (by decide) ?_
  refine V_iushr rfl ?_
  refine V_iadd rfl ?_
  refine V_is0 rfl ?_
  refine V_iload_n rfl rfl ?_
  refine V_bipush (v := 63) rfl (by decide) ?_
  refine V_iand rfl ?_
  refine V_ireturn rfl rfl (by first | rfl | exact b2_nar _ | assumption | decide) ?_
  exact P_ret rfl rfl
set_option maxRecDepth 20000 in
set_option maxHeartbeats 1000000 in
theorem s_ntz (S : Int32) (hS : ∃ k, k < 32 ∧ bt S k = true) : Mt g 0 m_Int_numberOfTrailingZeros [.int S] h sz u (Pi (nI (low S)) h) sz u := by
  have hk := (low_in hS).1
  have hv := nzV_is hS
  refine Mt.of m_Int_numberOfTrailingZeros_w m_Int_numberOfTrailingZeros_x m_Int_numberOfTrailingZeros_c rfl rfl (ls := [.int S, .retAddr 0]) rfl ?_
  refine V_iload_n rfl rfl ?_
  refine V_iconst (v := (-1)) rfl (by decide) ?_
  refine V_ixor rfl ?_
  refine V_iload_n rfl rfl ?_
  refine V_iconst (v := 1) rfl (by decide) ?_
  refine V_isub rfl ?_
  refine V_iand rfl ?_
  rw [show (S ^^^ (-1)) &&& (S - 1) = nI (2 ^ low S - 1) from hv]
  rw [← ntB_ok (low S) hk]
  generalize nI (2 ^ low S - 1) = v
  clear hv hS hk
  refine V_is0 rfl ?_
  refine V_iload_n rfl rfl ?_
  refine V_if_gt rfl (fun h9 => ?_) (fun h9 => ?_)
  · refine V_iconst (v := 1) rfl (by decide) ?_
    refine V_is1 rfl (by first | rfl | assumption) ?_
    refine V_iload_n rfl rfl ?_
    refine V_ldcw rfl rfl ?_
    refine V_icmp_le rfl (fun h23 => ?_) (fun h23 => ?_)
    · refine V_iload_n rfl rfl ?_
      refine V_sipush (v := 256) rfl (by decide) ?_
      refine V_icmp_le rfl (fun h38 => ?_) (fun h38 => ?_)
      · refine V_iload_n rfl rfl ?_
        refine V_bipush (v := 16) rfl (by decide) ?_
        refine V_icmp_le rfl (fun h52 => ?_) (fun h52 => ?_)
        · refine V_iload_n rfl rfl ?_
          refine V_iconst (v := 4) rfl (by decide) ?_
          refine V_icmp_le rfl (fun h64 => ?_) (fun h64 => ?_)
          · refine V_iload_n rfl rfl ?_
            refine V_iload_n rfl rfl ?_
            refine V_iconst (v := 1) rfl (by decide) ?_
            refine V_iushr rfl ?_
            refine V_iadd rfl ?_
            refine V_ireturn rfl rfl (by first | rfl | exact b2_nar _ | assumption | decide) ?_
            refine P_ret ?_ rfl
            first | (simp [ntB, *]; done) | (simp [ntB, *]; rfl)
          · refine V_inc1 rfl (by first | exact mInc _ | rfl) (by first | rfl | assumption) ?_
            refine V_iload_n rfl rfl ?_
            refine V_iconst (v := 2) rfl (by decide) ?_
            refine V_iushr rfl ?_
            refine V_is0 rfl ?_
            refine V_iload_n rfl rfl ?_
            refine V_iload_n rfl rfl ?_
            refine V_iconst (v := 1) rfl (by decide) ?_
            refine V_iushr rfl ?_
            refine V_iadd rfl ?_
            refine V_ireturn rfl rfl (by first | rfl | exact b2_nar _ | assumption | decide) ?_
            refine P_ret ?_ rfl
            first | (simp [ntB, *]; done) | (simp [ntB, *]; rfl)
        · refine V_inc1 rfl (by first | exact mInc _ | rfl) (by first | rfl | assumption) ?_
          refine V_iload_n rfl rfl ?_
          refine V_iconst (v := 4) rfl (by decide) ?_
          refine V_iushr rfl ?_
          refine V_is0 rfl ?_
          refine V_iload_n rfl rfl ?_
          refine V_iconst (v := 4) rfl (by decide) ?_
          refine V_icmp_le rfl (fun h64 => ?_) (fun h64 => ?_)
          · refine V_iload_n rfl rfl ?_
            refine V_iload_n rfl rfl ?_
            refine V_iconst (v := 1) rfl (by decide) ?_
            refine V_iushr rfl ?_
            refine V_iadd rfl ?_
            refine V_ireturn rfl rfl (by first | rfl | exact b2_nar _ | assumption | decide) ?_
            refine P_ret ?_ rfl
            first | (simp [ntB, *]; done) | (simp [ntB, *]; rfl)
          · refine V_inc1 rfl (by first | exact mInc _ | rfl) (by first | rfl | assumption) ?_
            refine V_iload_n rfl rfl ?_
            refine V_iconst (v := 2) rfl (by decide) ?_
            refine V_iushr rfl ?_
            refine V_is0 rfl ?_
            refine V_iload_n rfl rfl ?_
            refine V_iload_n rfl rfl ?_
            refine V_iconst (v := 1) rfl (by decide) ?_
            refine V_iushr rfl ?_
            refine V_iadd rfl ?_
            refine V_ireturn rfl rfl (by first | rfl | exact b2_nar _ | assumption | decide) ?_
            refine P_ret ?_ rfl
            first | (simp [ntB, *]; done) | (simp [ntB, *]; rfl)
      · refine V_inc1 rfl (by first | exact mInc _ | rfl) (by first | rfl | assumption) ?_
        refine V_iload_n rfl rfl ?_
        refine V_bipush (v := 8) rfl (by decide) ?_
        refine V_iushr rfl ?_
        refine V_is0 rfl ?_
        refine V_iload_n rfl rfl ?_
        refine V_bipush (v := 16) rfl (by decide) ?_
        refine V_icmp_le rfl (fun h52 => ?_) (fun h52 => ?_)
        · refine V_iload_n rfl rfl ?_
          refine V_iconst (v := 4) rfl (by decide) ?_
          refine V_icmp_le rfl (fun h64 => ?_) (fun h64 => ?_)
          · refine V_iload_n rfl rfl ?_
            refine V_iload_n rfl rfl ?_
            refine V_iconst (v := 1) rfl (by decide) ?_
            refine V_iushr rfl ?_
            refine V_iadd rfl ?_
            refine V_ireturn rfl rfl (by first | rfl | exact b2_nar _ | assumption | decide) ?_
            refine P_ret ?_ rfl
            first | (simp [ntB, *]; done) | (simp [ntB, *]; rfl)
          · refine V_inc1 rfl (by first | exact mInc _ | rfl) (by first | rfl | assumption) ?_
            refine V_iload_n rfl rfl ?_
            refine V_iconst (v := 2) rfl (by decide) ?_
            refine V_iushr rfl ?_
            refine V_is0 rfl ?_
            refine V_iload_n rfl rfl ?_
            refine V_iload_n rfl rfl ?_
            refine V_iconst (v := 1) rfl (by decide) ?_
            refine V_iushr rfl ?_
            refine V_iadd rfl ?_
            refine V_ireturn rfl rfl (by first | rfl | exact b2_nar _ | assumption | decide) ?_
            refine P_ret ?_ rfl
            first | (simp [ntB, *]; done) | (simp [ntB, *]; rfl)
        · refine V_inc1 rfl (by first | exact mInc _ | rfl) (by first | rfl | assumption) ?_
          refine V_iload_n rfl rfl ?_
          refine V_iconst (v := 4) rfl (by decide) ?_
          refine V_iushr rfl ?_
          refine V_is0 rfl ?_
          refine V_iload_n rfl rfl ?_
          refine V_iconst (v := 4) rfl (by decide) ?_
          refine V_icmp_le rfl (fun h64 => ?_) (fun h64 => ?_)
          · refine V_iload_n rfl rfl ?_
            refine V_iload_n rfl rfl ?_
            refine V_iconst (v := 1) rfl (by decide) ?_
            refine V_iushr rfl ?_
            refine V_iadd rfl ?_
            refine V_ireturn rfl rfl (by first | rfl | exact b2_nar _ | assumption | decide) ?_
            refine P_ret ?_ rfl
            first | (simp [ntB, *]; done) | (simp [ntB, *]; rfl)
          · refine V_inc1 rfl (by first | exact mInc _ | rfl) (by first | rfl | assumption) ?_
            refine V_iload_n rfl rfl ?_
            refine V_iconst (v := 2) rfl (by decide) ?_
            refine V_iushr rfl ?_
            refine V_is0 rfl ?_
            refine V_iload_n rfl rfl ?_
            refine V_iload_n rfl rfl ?_
            refine V_iconst (v := 1) rfl (by decide) ?_
            refine V_iushr rfl ?_
            refine V_iadd rfl ?_
            refine V_ireturn rfl rfl (by first | rfl | exact b2_nar _ | assumption | decide) ?_
            refine P_ret ?_ rfl
            first | (simp [ntB, *]; done) | (simp [ntB, *]; rfl)
    · refine V_inc1 rfl (by first | exact mInc _ | rfl) (by first | rfl | assumption) ?_
      refine V_iload_n rfl rfl ?_
      refine V_bipush (v := 16) rfl (by decide) ?_
      refine V_iushr rfl ?_
      refine V_is0 rfl ?_
      refine V_iload_n rfl rfl ?_
      refine V_sipush (v := 256) rfl (by decide) ?_
      refine V_icmp_le rfl (fun h38 => ?_) (fun h38 => ?_)
      · refine V_iload_n rfl rfl ?_
        refine V_bipush (v := 16) rfl (by decide) ?_
        refine V_icmp_le rfl (fun h52 => ?_) (fun h52 => ?_)
        · refine V_iload_n rfl rfl ?_
          refine V_iconst (v := 4) rfl (by decide) ?_
          refine V_icmp_le rfl (fun h64 => ?_) (fun h64 => ?_)
          · refine V_iload_n rfl rfl ?_
            refine V_iload_n rfl rfl ?_
            refine V_iconst (v := 1) rfl (by decide) ?_
            refine V_iushr rfl ?_
            refine V_iadd rfl ?_
            refine V_ireturn rfl rfl (by first | rfl | exact b2_nar _ | assumption | decide) ?_
            refine P_ret ?_ rfl
            first | (simp [ntB, *]; done) | (simp [ntB, *]; rfl)
          · refine V_inc1 rfl (by first | exact mInc _ | rfl) (by first | rfl | assumption) ?_
            refine V_iload_n rfl rfl ?_
            refine V_iconst (v := 2) rfl (by decide) ?_
            refine V_iushr rfl ?_
            refine V_is0 rfl ?_
            refine V_iload_n rfl rfl ?_
            refine V_iload_n rfl rfl ?_
            refine V_iconst (v := 1) rfl (by decide) ?_
            refine V_iushr rfl ?_
            refine V_iadd rfl ?_
            refine V_ireturn rfl rfl (by first | rfl | exact b2_nar _ | assumption | decide) ?_
            refine P_ret ?_ rfl
            first | (simp [ntB, *]; done) | (simp [ntB, *]; rfl)
        · refine V_inc1 rfl (by first | exact mInc _ | rfl) (by first | rfl | assumption) ?_
          refine V_iload_n rfl rfl ?_
          refine V_iconst (v := 4) rfl (by decide) ?_
          refine V_iushr rfl ?_
          refine V_is0 rfl ?_
          refine V_iload_n rfl rfl ?_
          refine V_iconst (v := 4) rfl (by decide) ?_
          refine V_icmp_le rfl (fun h64 => ?_) (fun h64 => ?_)
          · refine V_iload_n rfl rfl ?_
            refine V_iload_n rfl rfl ?_
            refine V_iconst (v := 1) rfl (by decide) ?_
            refine V_iushr rfl ?_
            refine V_iadd rfl ?_
            refine V_ireturn rfl rfl (by first | rfl | exact b2_nar _ | assumption | decide) ?_
            refine P_ret ?_ rfl
            first | (simp [ntB, *]; done) | (simp [ntB, *]; rfl)
          · refine V_inc1 rfl (by first | exact mInc _ | rfl) (by first | rfl | assumption) ?_
            refine V_iload_n rfl rfl ?_
            refine V_iconst (v := 2) rfl (by decide) ?_
            refine V_iushr rfl ?_
            refine V_is0 rfl ?_
            refine V_iload_n rfl rfl ?_
            refine V_iload_n rfl rfl ?_
            refine V_iconst (v := 1) rfl (by decide) ?_
            refine V_iushr rfl ?_
            refine V_iadd rfl ?_
            refine V_ireturn rfl rfl (by first | rfl | exact b2_nar _ | assumption | decide) ?_
            refine P_ret ?_ rfl
            first | (simp [ntB, *]; done) | (simp [ntB, *]; rfl)
      · refine V_inc1 rfl (by first | exact mInc _ | rfl) (by first | rfl | assumption) ?_
        refine V_iload_n rfl rfl ?_
        refine V_bipush (v := 8) rfl (by decide) ?_
        refine V_iushr rfl ?_
        refine V_is0 rfl ?_
        refine V_iload_n rfl rfl ?_
        refine V_bipush (v := 16) rfl (by decide) ?_
        refine V_icmp_le rfl (fun h52 => ?_) (fun h52 => ?_)
        · refine V_iload_n rfl rfl ?_
          refine V_iconst (v := 4) rfl (by decide) ?_
          refine V_icmp_le rfl (fun h64 => ?_) (fun h64 => ?_)
          · refine V_iload_n rfl rfl ?_
            refine V_iload_n rfl rfl ?_
            refine V_iconst (v := 1) rfl (by decide) ?_
            refine V_iushr rfl ?_
            refine V_iadd rfl ?_
            refine V_ireturn rfl rfl (by first | rfl | exact b2_nar _ | assumption | decide) ?_
            refine P_ret ?_ rfl
            first | (simp [ntB, *]; done) | (simp [ntB, *]; rfl)
          · refine V_inc1 rfl (by first | exact mInc _ | rfl) (by first | rfl | assumption) ?_
            refine V_iload_n rfl rfl ?_
            refine V_iconst (v := 2) rfl (by decide) ?_
            refine V_iushr rfl ?_
            refine V_is0 rfl ?_
            refine V_iload_n rfl rfl ?_
            refine V_iload_n rfl rfl ?_
            refine V_iconst (v := 1) rfl (by decide) ?_
            refine V_iushr rfl ?_
            refine V_iadd rfl ?_
            refine V_ireturn rfl rfl (by first | rfl | exact b2_nar _ | assumption | decide) ?_
            refine P_ret ?_ rfl
            first | (simp [ntB, *]; done) | (simp [ntB, *]; rfl)
        · refine V_inc1 rfl (by first | exact mInc _ | rfl) (by first | rfl | assumption) ?_
          refine V_iload_n rfl rfl ?_
          refine V_iconst (v := 4) rfl (by decide) ?_
          refine V_iushr rfl ?_
          refine V_is0 rfl ?_
          refine V_iload_n rfl rfl ?_
          refine V_iconst (v := 4) rfl (by decide) ?_
          refine V_icmp_le rfl (fun h64 => ?_) (fun h64 => ?_)
          · refine V_iload_n rfl rfl ?_
            refine V_iload_n rfl rfl ?_
            refine V_iconst (v := 1) rfl (by decide) ?_
            refine V_iushr rfl ?_
            refine V_iadd rfl ?_
            refine V_ireturn rfl rfl (by first | rfl | exact b2_nar _ | assumption | decide) ?_
            refine P_ret ?_ rfl
            first | (simp [ntB, *]; done) | (simp [ntB, *]; rfl)
          · refine V_inc1 rfl (by first | exact mInc _ | rfl) (by first | rfl | assumption) ?_
            refine V_iload_n rfl rfl ?_
            refine V_iconst (v := 2) rfl (by decide) ?_
            refine V_iushr rfl ?_
            refine V_is0 rfl ?_
            refine V_iload_n rfl rfl ?_
            refine V_iload_n rfl rfl ?_
            refine V_iconst (v := 1) rfl (by decide) ?_
            refine V_iushr rfl ?_
            refine V_iadd rfl ?_
            refine V_ireturn rfl rfl (by first | rfl | exact b2_nar _ | assumption | decide) ?_
            refine P_ret ?_ rfl
            first | (simp [ntB, *]; done) | (simp [ntB, *]; rfl)
  · refine V_iload_n rfl rfl ?_
    refine V_bipush (v := 32) rfl (by decide) ?_
    refine V_iand rfl ?_
    refine V_ireturn rfl rfl (by first | rfl | exact b2_nar _ | assumption | decide) ?_
    refine P_ret ?_ rfl
    first | (simp [ntB, *]; done) | (simp [ntB, *]; rfl)
set_option maxRecDepth 20000 in
set_option maxHeartbeats 1000000 in
theorem s_fm (x y : Int32) (hy : ¬ y = 0) : Mt g 0 m_Mat_floorMod [.int x, .int y] h sz u (Pi (fmV x y) h) sz u := by
  refine Mt.of m_Mat_floorMod_w m_Mat_floorMod_x m_Mat_floorMod_c rfl rfl (ls := [.int x, .int y, .retAddr 0]) rfl ?_
  refine V_iload_n rfl rfl ?_
  refine V_iload_n rfl rfl ?_
  refine V_irem rfl hy ?_
  refine V_is2 rfl (by first | rfl | assumption) ?_
  refine V_iload_n rfl rfl ?_
  refine V_iload_n rfl rfl ?_
  refine V_ixor rfl ?_
  refine V_if_ge rfl (fun h7 => ?_) (fun h7 => ?_)
  · refine V_iload_n rfl rfl ?_
    refine V_ireturn rfl rfl (by first | rfl | exact b2_nar _ | assumption | decide) ?_
    refine P_ret ?_ rfl
    simp [fmV, *]
  · refine V_iload_n rfl rfl ?_
    first | refine V_ifb_eq rfl (fun h11 => ?_) (fun h11 => ?_) | refine V_if_eq rfl (fun h11 => ?_) (fun h11 => ?_)
    · refine V_iload_n rfl rfl ?_
      refine V_ireturn rfl rfl (by first | rfl | exact b2_nar _ | assumption | decide) ?_
      refine P_ret ?_ rfl
      simp [fmV, *]
    · refine V_iload_n rfl rfl ?_
      refine V_iload_n rfl rfl ?_
      refine V_iadd rfl ?_
      refine V_ireturn rfl rfl (by first | rfl | exact b2_nar _ | assumption | decide) ?_
      refine P_ret ?_ rfl
      simp [fmV, *]
end jdk
