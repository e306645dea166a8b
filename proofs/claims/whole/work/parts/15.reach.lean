/-! ===== growing till nothing comes to it ===== -/
def itF {α : Type} (f : α → α) : Nat → α → α
  | 0, x => x
  | n + 1, x => itF f n (f x)
theorem itF_stay {α : Type} {f : α → α} {x : α} (h : f x = x) : ∀ n, itF f n x = x
  | 0 => rfl
  | n + 1 => by
    show itF f n (f x) = x
    rw [h]
    exact itF_stay h n
theorem itF_fix {α : Type} {f : α → α} (I : α → Prop) (μ : α → Nat) (hs : ∀ x, I x → I (f x) ∧ (f x ≠ x → μ (f x) < μ x)) : ∀ (n : Nat) (x : α), I x → μ x ≤ n → f (itF f n x) = itF f n x
  | 0, x, hI, hm => by
    refine Classical.byContradiction fun q => ?_
    have := (hs x hI).2 q
    omega
  | n + 1, x, hI, hm => by
    show f (itF f n (f x)) = itF f n (f x)
    by_cases e : f x = x
    · rw [e, itF_stay e, e]
    · exact itF_fix I μ hs n (f x) (hs x hI).1 (by have := (hs x hI).2 e; omega)
theorem itF_inv {α : Type} {f : α → α} (I : α → Prop) (hs : ∀ x, I x → I (f x)) : ∀ (n : Nat) (x : α), I x → I (itF f n x)
  | 0, _, h => h
  | n + 1, x, h => itF_inv I hs n (f x) (hs x h)
/-- how many below n are not in S -/
def cz (n : Nat) (S : Int32) : Nat := fb_ct (fun i => !bt S i) n
theorem ct_lt {p q : Nat → Bool} : ∀ {n : Nat}, (∀ k, k < n → p k = true → q k = true) → (∃ i, i < n ∧ q i = true ∧ p i = false) → fb_ct p n < fb_ct q n
  | 0, _, h => by obtain ⟨i, hi, -⟩ := h; omega
  | n + 1, h1, h2 => by
    rw [fb_ct_succ, fb_ct_succ]
    obtain ⟨i, hi, q1, q2⟩ := h2
    by_cases e : i = n
    · subst e
      have := fb_ct_sub (p := p) (q := q) (n := i) (fun k hk => h1 k (by omega))
      rw [q1, q2]
      simp
      omega
    · have := ct_lt (p := p) (q := q) (n := n) (fun k hk => h1 k (by omega)) ⟨i, by omega, q1, q2⟩
      have h3 := h1 n (by omega)
      cases hp : p n
      · simp; omega
      · rw [h3 hp]; simp; omega
def sub (n : Nat) (S : Int32) : Prop := ∀ i, bt S i = true → i < n
def le (S T : Int32) : Prop := ∀ i, bt S i = true → bt T i = true
theorem cz_lt {n : Nat} {S T : Int32} (h1 : le S T) (h2 : sub n T) (h3 : T ≠ S) : cz n T < cz n S := by
  have hx : ∃ i, i < 32 ∧ bt T i = true ∧ bt S i = false := by
    refine Classical.byContradiction fun q => h3 (b_ext fun i hi => ?_)
    cases ht : bt T i
    · cases hs : bt S i
      · rfl
      · rw [h1 i hs] at ht; cases ht
    · cases hs : bt S i
      · exact absurd ⟨i, hi, ht, hs⟩ q
      · rfl
  obtain ⟨i, hi, q1, q2⟩ := hx
  refine ct_lt (fun k hk hp => ?_) ⟨i, h2 i q1, by simp [q2], by simp [q1]⟩
  cases hs : bt S k
  · rfl
  · rw [h1 k hs] at hp; cases hp
theorem cz_le (n : Nat) (S : Int32) : cz n S ≤ n := fb_ct_le _ n
theorem sub_or {n : Nat} {S T : Int32} (h1 : sub n S) (h2 : sub n T) : sub n (S ||| T) := fun i hi => by
  rw [b_or, Bool.or_eq_true] at hi
  exact hi.elim (h1 i) (h2 i)
theorem le_or (S T : Int32) : le S (S ||| T) := fun i hi => by rw [b_or, hi]; rfl
theorem le_rfl (S : Int32) : le S S := fun _ h => h
theorem le_tr {S T U : Int32} (h1 : le S T) (h2 : le T U) : le S U := fun i hi => h2 i (h1 i hi)
theorem sub_0 (n : Nat) : sub n 0 := fun i hi => by rw [b_0] at hi; cases hi
theorem sub_bI {n k : Nat} (h : k < n) (hk : k < 32) : sub n (bI k) := fun i hi => by
  rw [bt_bI hk (bt_lt hi), decide_eq_true_eq] at hi
  omega
theorem sub_cnd {n : Nat} {b : Bool} {S : Int32} (h : sub n S) : sub n (cnd b S) := fun i hi => by
  rw [bt_cnd, Bool.and_eq_true] at hi
  exact h i hi.2
theorem sub_orF {n k : Nat} {f : Nat → Int32} (h : ∀ i, i < k → sub n (f i)) : sub n (orF k f) := fun i hi => by
  obtain ⟨j, hj, hb⟩ := bt_orF.mp hi
  exact h j hj i hb
theorem sub_setF {n k : Nat} {f : Nat → Bool} (hk : k ≤ n) (h32 : k ≤ 32) : sub n (setF k f) := fun i hi => by
  have := ((bt_setF h32).mp hi).1
  omega
theorem sub_mono {n m : Nat} {S : Int32} (h : sub n S) (hm : n ≤ m) : sub m S := fun i hi => by have := h i hi; omega
/-- a body found, or none -/
theorem bodyOf_is (p : Pg) (t m : Nat) : bodyOf p t m = -1 ∨ ∃ b, b < nB p ∧ bodyOf p t m = nI b := by
  unfold bodyOf oB
  by_cases h : fBod p t m < nB p
  · rw [if_pos h]; exact Or.inr ⟨_, h, rfl⟩
  · rw [if_neg h]; exact Or.inl rfl
theorem byF_is (p : Pg) (t m : Nat) : byF p t m = -1 ∨ ∃ b, b < nB p ∧ byF p t m = nI b := by
  unfold byF
  split
  · exact bodyOf_is p _ m
  · exact Or.inl rfl
theorem fndU_is (p : Pg) (t m : Nat) : ∀ (k : Nat) (x : Int32), fndU p t m k x = -1 ∨ ∃ b, b < nB p ∧ fndU p t m k x = nI b
  | 0, _ => byF_is p t m
  | k + 1, x => by
    unfold fndU
    split
    · exact byF_is p t m
    · split
      · exact bodyOf_is p _ m
      · exact fndU_is p t m k _
theorem bitB_nI {b : Nat} (h : b < 2 ^ 31) : bitB (nI b) = bI b := by unfold bitB; rw [if_neg (nI_pos h)]; rfl
theorem sub_fnd {p : Pg} (hB : nB p ≤ 20) (t m : Nat) : sub (nB p) (bitB (fnd p t m)) := by
  rcases fndU_is p t m 12 (nI t) with e | ⟨b, hb, e⟩
  · unfold fnd; rw [e, bitB_m1]; exact sub_0 _
  · unfold fnd; rw [e, bitB_nI (by omega)]; exact sub_bI hb (by omega)
theorem sub_clT {p : Pg} (hB : nB p ≤ 20) (s : Nat) (S : Int32) : sub (nB p) (clT p s S) := sub_orF fun _ _ => sub_cnd (sub_fnd hB _ _)
theorem sub_dnB {p : Pg} (hB : nB p ≤ 20) (s : Nat) (S : Int32) : sub (nB p) (dnB p s S) := by
  unfold dnB
  split
  · exact sub_0 _
  · split
    · exact sub_fnd hB _ _
    · exact sub_clT hB s S
theorem sub_clB {p : Pg} (hB : nB p ≤ 20) (R S : Int32) (b : Nat) : sub (nB p) (clB p R S b) := by
  unfold clB
  split
  · exact sub_orF fun _ _ => sub_cnd (sub_dnB hB _ _)
  · exact sub_0 _
/-! one pass over the steps, R reached, S made; and passes till nothing comes to it -/
def mkS (p : Pg) (L : Int32) (s : Nat) : Int32 := cnd (sK p s == 0 && bt L (sT p s)) (bI (sT p s))
def swp (p : Pg) (L : Int32) (x : Int32 × Int32) : Nat → Int32 × Int32
  | 0 => x
  | s + 1 => if bt (swp p L x s).1 (sB p s) then ((swp p L x s).1 ||| dnB p s ((swp p L x s).2 ||| mkS p L s), (swp p L x s).2 ||| mkS p L s) else swp p L x s
theorem swp_s (p : Pg) (L : Int32) (x : Int32 × Int32) (s : Nat) : swp p L x (s + 1) = if bt (swp p L x s).1 (sB p s) then ((swp p L x s).1 ||| dnB p s ((swp p L x s).2 ||| mkS p L s), (swp p L x s).2 ||| mkS p L s) else swp p L x s := rfl
theorem nI_0iff {k : Nat} (h : k < 2 ^ 31) : nI k = 0 ↔ k = 0 := nI_eq (b := 0) h (by decide)
def sweep (p : Pg) (L : Int32) (x : Int32 × Int32) : Int32 × Int32 := swp p L x (nS p)
def rt0 (p : Pg) (N : Nat → Int32) : Int32 := setF (nB p) fun b => bt (N 1) b && bt (N 0) (bT p b)
def rch (p : Pg) (N : Nat → Int32) (S0 : Int32) : Int32 × Int32 := itF (sweep p (N 0)) 33 (rt0 p N, S0)
theorem swp_ok {p : Pg} (hw : WB p) (L : Int32) {x : Int32 × Int32} (hx : sub (nB p) x.1 ∧ sub (nT p) x.2) : ∀ s, s ≤ nS p → (sub (nB p) (swp p L x s).1 ∧ sub (nT p) (swp p L x s).2) ∧ le x.1 (swp p L x s).1 ∧ le x.2 (swp p L x s).2
  | 0, _ => ⟨hx, le_rfl _, le_rfl _⟩
  | s + 1, hs => by
    obtain ⟨⟨h1, h2⟩, h3, h4⟩ := swp_ok hw L hx s (by omega)
    have hb := hw.2.2.2.1 s (by omega)
    have hB := hw.1.2.1
    have hT := hw.1.1
    have hm : sub (nT p) (mkS p L s) := sub_cnd (sub_bI hb.2.2.1 (by omega))
    unfold swp
    split
    · exact ⟨⟨sub_or h1 (sub_dnB hB _ _), sub_or h2 hm⟩, le_tr h3 (le_or _ _), le_tr h4 (le_or _ _)⟩
    · exact ⟨⟨h1, h2⟩, h3, h4⟩
theorem sweep_fix {p : Pg} (hw : WB p) (L : Int32) {x : Int32 × Int32} (hx : sub (nB p) x.1 ∧ sub (nT p) x.2) : sweep p L (itF (sweep p L) 33 x) = itF (sweep p L) 33 x := by
  refine itF_fix (fun x => sub (nB p) x.1 ∧ sub (nT p) x.2) (fun x => cz (nB p) x.1 + cz (nT p) x.2) (fun y hy => ?_) 33 x hx ?_
  · obtain ⟨h1, h2, h3⟩ := swp_ok hw L hy (nS p) (Nat.le_refl _)
    refine ⟨h1, fun hne => ?_⟩
    have hB : cz (nB p) (sweep p L y).1 ≤ cz (nB p) y.1 := by
      by_cases e : (sweep p L y).1 = y.1
      · rw [e]; exact Nat.le_refl _
      · exact Nat.le_of_lt (cz_lt h2 h1.1 e)
    have hT : cz (nT p) (sweep p L y).2 ≤ cz (nT p) y.2 := by
      by_cases e : (sweep p L y).2 = y.2
      · rw [e]; exact Nat.le_refl _
      · exact Nat.le_of_lt (cz_lt h3 h1.2 e)
    by_cases e : (sweep p L y).1 = y.1
    · have e2 : (sweep p L y).2 ≠ y.2 := fun q => hne (Prod.ext e q)
      have : cz (nT p) (sweep p L y).2 < cz (nT p) y.2 := cz_lt h3 h1.2 e2
      show cz (nB p) (sweep p L y).1 + cz (nT p) (sweep p L y).2 < _
      omega
    · have : cz (nB p) (sweep p L y).1 < cz (nB p) y.1 := cz_lt h2 h1.1 e
      show cz (nB p) (sweep p L y).1 + cz (nT p) (sweep p L y).2 < _
      omega
  · have h1 := cz_le (nB p) x.1
    have h2 := cz_le (nT p) x.2
    have := hw.1
    show cz (nB p) x.1 + cz (nT p) x.2 ≤ 33
    omega
/-! the reference's fields reached, made -/
def rcS (sc : Nat → Int32) (x : Int32 × Int32) : Nat → Int32 := upd (upd sc 34 x.1) 35 x.2
theorem rcS_g34 {sc : Nat → Int32} {x : Int32 × Int32} : rcS sc x 34 = x.1 := rfl
theorem rcS_g35 {sc : Nat → Int32} {x : Int32 × Int32} : rcS sc x 35 = x.2 := rfl
theorem rcS_34 {sc : Nat → Int32} {x : Int32 × Int32} {v : Int32} : upd (rcS sc x) 34 v = rcS sc (v, x.2) := by
  unfold rcS
  rw [fa_upd_swap _ (by decide), fa_upd_twice]
theorem rcS_35 {sc : Nat → Int32} {x : Int32 × Int32} {v : Int32} : upd (rcS sc x) 35 v = rcS sc (x.1, v) := by
  unfold rcS
  rw [fa_upd_twice]
theorem rcS_rcS {sc : Nat → Int32} {x y : Int32 × Int32} : rcS (rcS sc x) y = rcS sc y := by
  show upd (upd (rcS sc x) 34 y.1) 35 y.2 = _
  rw [rcS_34, rcS_35]
def mpS (k : Nat) : Bool := [0, 5, 8, 13].contains k
def mpA (k : Nat) : Bool := [1, 2, 3, 4, 6, 7, 9, 10, 11, 12, 14].contains k
theorem MP_sc {p : Pg} {sc : Nat → Int32} {ar : Nat → Nat → Int32} {k : Nat} {v : Int32} (hk : mpS k = false) (hm : MP p sc ar) : MP p (upd sc k v) ar := by
  have h0 : ∀ j, mpS j = true → upd sc k v j = sc j := fun j hj => pk_un (fun e => by rw [e, hk] at hj; cases hj)
  obtain ⟨h1, ⟨a, b, c, d⟩, h3⟩ := hm
  exact ⟨h1, ⟨(h0 0 rfl).trans a, (h0 5 rfl).trans b, (h0 8 rfl).trans c, (h0 13 rfl).trans d⟩, h3⟩
theorem MP_rcS {p : Pg} {sc : Nat → Int32} {ar : Nat → Nat → Int32} {x : Int32 × Int32} (hm : MP p sc ar) : MP p (rcS sc x) ar := MP_sc rfl (MP_sc rfl hm)
theorem MP_ar {p : Pg} {sc : Nat → Int32} {ar : Nat → Nat → Int32} {k : Nat} {f : Nat → Int32} (hk : mpA k = false) (hm : MP p sc ar) : MP p sc (va_up ar k f) := by
  have h0 : ∀ j, mpA j = true → va_up ar k f j = ar j := fun j hj => by
    have : j ≠ k := fun e => by rw [e, hk] at hj; cases hj
    simp only [va_up, if_neg this]
  obtain ⟨h1, h2, h3, h4, h5, h6⟩ := hm
  refine ⟨h1, h2, ?_, ?_, ?_, ?_⟩
  · rw [h0 1 rfl, h0 2 rfl, h0 3 rfl, h0 4 rfl]; exact h3
  · rw [h0 6 rfl, h0 7 rfl]; exact h4
  · rw [h0 9 rfl, h0 10 rfl, h0 11 rfl, h0 12 rfl]; exact h5
  · rw [h0 14 rfl]; exact h6
section mreach
variable {g : mG} {h : mH} {sz u md : Nat} {p : Pg} {sc : Nat → Int32} {ar : Nat → Nat → Int32}
theorem V_wkh {d : Nat} {M : mM} {P : Option Value → mH → Prop} {sz' u' pc : Nat} {ls ls2 st : List Value} {h h2 : mH} (hv : V g d M P sz' u' pc ls2 st h2 sz u) (e : mWk ls ls2) (e2 : h = h2) : V g d M P sz' u' pc ls st h sz u := by
  subst e2
  exact V_wk hv e
set_option maxRecDepth 20000 in
set_option maxHeartbeats 1000000 in
theorem w_reachFrom (hm : MP p sc ar) (S0 : Int32) (hS0 : sub (nT p) S0) : Mt g 6 m_MD_reachFrom [.ref md, .int S0] (blkW 7 h md sc ar) sz u (Pn (blkW 7 h md (rcS sc (rch p (ar 15) S0)) ar)) sz u := by
  obtain ⟨hT, hB, hS, hC⟩ := hm.1.1
  refine Mt.of m_MD_reachFrom_w m_MD_reachFrom_x m_MD_reachFrom_c rfl rfl (ls := [.ref md, .int S0, .retAddr 0, .retAddr 0, .retAddr 0, .retAddr 0]) rfl ?_
  refine V_aload_n rfl rfl ?_
  refine V_iconst (v := 0) rfl (by decide) ?_
  first | refine V_bput rfl rfl rfl rfl rfl rfl ?_ | refine V_bputZ rfl rfl rfl rfl rfl rfl (by decide) ?_ | refine V_put rfl rfl (by first | assumption | rfl) (by decide) (fun _ hty => by cases hty; exact ⟨rfl, rfl⟩) (by first | exact Or.inl rfl | exact Or.inr ⟨rfl, rfl⟩) rfl ?_
  refine V_aload_n rfl rfl ?_
  refine V_iload_n rfl rfl ?_
  first | refine V_bput rfl rfl rfl rfl rfl rfl ?_ | refine V_bputZ rfl rfl rfl rfl rfl rfl (by decide) ?_ | refine V_put rfl rfl (by first | assumption | rfl) (by decide) (fun _ hty => by cases hty; exact ⟨rfl, rfl⟩) (by first | exact Or.inl rfl | exact Or.inr ⟨rfl, rfl⟩) rfl ?_
  refine V_iconst (v := 0) rfl (by decide) ?_
  refine V_is2 rfl (by first | rfl | assumption) ?_
  refine V_for2 (nB p) (fun i => [.ref md, .int S0, .int (nI i), .retAddr 0, .retAddr 0, .retAddr 0]) (fun i => blkW 7 h md (rcS sc (setF i fun b => bt (ar 15 1) b && bt (ar 15 0) (bT p b), S0)) ar) rfl rfl (fun i hi ih => ?_) ?_
  · have hw := hm.1.2.2.1 i hi
    refine V_iload_n rfl rfl ?_
    refine V_aload_n rfl rfl ?_
    refine V_getI rfl rfl (by first | assumption | exact blkW_0 | exact bAt_0 (by assumption) | rfl) (by rfl) (by first | exact mp_nB (by first | assumption | exact MP_rcS (by assumption) | exact MP_ar rfl (by assumption) | exact MP_sc rfl (by assumption)) | rfl) ?_
    refine V_icmp_geF rfl (nI_ge hi (by omega)) ?_
    refine V_aload_n rfl rfl ?_
    refine V_dup rfl rfl ?_
    refine V_getI rfl rfl (by first | assumption | exact blkW_0 | exact bAt_0 (by assumption) | rfl) (by rfl) (by first | exact rcS_g34 | rfl) ?_
    refine V_aload_n rfl rfl ?_
    refine V_getfield rfl rfl (by first | assumption | exact blkW_0 | exact bAt_0 (by assumption) | rfl) (by rfl) ?_
    refine V_iconst (v := 1) rfl (by decide) ?_
    refine V_iald rfl (by first | assumption | exact blkW_i rfl rfl | exact blkW_z rfl rfl | exact bAt_i (by assumption) rfl rfl | exact bAt_z (by assumption) rfl rfl | rfl) (by first | with_reducible rfl | exact nI_add 2 _ | exact nI_add 26 _ | exact fa_lit _ | assumption) (by first | omega | assumption | decide) (by first | decide | omega | assumption) (by first | exact mp_isC (by first | assumption | exact MP_rcS (by assumption) | exact MP_ar rfl (by assumption) | exact MP_sc rfl (by assumption)) (by first | omega | assumption) | exact mp_par (by first | assumption | exact MP_rcS (by assumption) | exact MP_ar rfl (by assumption) | exact MP_sc rfl (by assumption)) (by first | omega | assumption) | exact mp_abv (by first | assumption | exact MP_rcS (by assumption) | exact MP_ar rfl (by assumption) | exact MP_sc rfl (by assumption)) (by first | omega | assumption) | exact mp_dep (by first | assumption | exact MP_rcS (by assumption) | exact MP_ar rfl (by assumption) | exact MP_sc rfl (by assumption)) (by first | omega | assumption) | exact mp_bT (by first | assumption | exact MP_rcS (by assumption) | exact MP_ar rfl (by assumption) | exact MP_sc rfl (by assumption)) (by first | omega | assumption) | exact mp_bM (by first | assumption | exact MP_rcS (by assumption) | exact MP_ar rfl (by assumption) | exact MP_sc rfl (by assumption)) (by first | omega | assumption) | exact mp_sK (by first | assumption | exact MP_rcS (by assumption) | exact MP_ar rfl (by assumption) | exact MP_sc rfl (by assumption)) (by first | omega | assumption) | exact mp_sB (by first | assumption | exact MP_rcS (by assumption) | exact MP_ar rfl (by assumption) | exact MP_sc rfl (by assumption)) (by first | omega | assumption) | exact mp_sT (by first | assumption | exact MP_rcS (by assumption) | exact MP_ar rfl (by assumption) | exact MP_sc rfl (by assumption)) (by first | omega | assumption) | exact mp_sM (by first | assumption | exact MP_rcS (by assumption) | exact MP_ar rfl (by assumption) | exact MP_sc rfl (by assumption)) (by first | omega | assumption) | exact mp_cS (by first | assumption | exact MP_rcS (by assumption) | exact MP_ar rfl (by assumption) | exact MP_sc rfl (by assumption)) (by first | omega | assumption) | rfl) ?_
    refine V_iload_n rfl rfl ?_
    refine V_callSi rfl rfl (Or.inl rfl) m_MD_has_w m_MD_has_x rfl rfl (s_mhas _ (by first | omega | assumption)) (by decide) rfl (Nat.le_of_ble_eq_true rfl) ?_
    first | refine V_ifb_eq rfl (fun h35 => ?_) (fun h35 => ?_) | refine V_if_eq rfl (fun h35 => ?_) (fun h35 => ?_)
    · refine V_iconst (v := 0) rfl (by decide) ?_
      refine V_ior rfl ?_
      first | refine V_bput rfl rfl rfl rfl rfl rfl ?_ | refine V_bputZ rfl rfl rfl rfl rfl rfl (by decide) ?_ | refine V_put rfl rfl (by first | assumption | rfl) (by decide) (fun _ hty => by cases hty; exact ⟨rfl, rfl⟩) (by first | exact Or.inl rfl | exact Or.inr ⟨rfl, rfl⟩) rfl ?_
      refine V_inc2 rfl (by first | exact mInc _ | exact mDcr _ | rfl) (by first | rfl | assumption) ?_
      refine V_goto rfl ?_
      exact V_wkh ih (by simp [mWk]) (by rw [rcS_34]; simp [setF_s, cnd, bI, *])
    · refine V_aload_n rfl rfl ?_
      refine V_getfield rfl rfl (by first | assumption | exact blkW_0 | exact bAt_0 (by assumption) | rfl) (by rfl) ?_
      refine V_iconst (v := 0) rfl (by decide) ?_
      refine V_iald rfl (by first | assumption | exact blkW_i rfl rfl | exact blkW_z rfl rfl | exact bAt_i (by assumption) rfl rfl | exact bAt_z (by assumption) rfl rfl | rfl) (by first | with_reducible rfl | exact nI_add 2 _ | exact nI_add 26 _ | exact fa_lit _ | assumption) (by first | omega | assumption | decide) (by first | decide | omega | assumption) (by first | exact mp_isC (by first | assumption | exact MP_rcS (by assumption) | exact MP_ar rfl (by assumption) | exact MP_sc rfl (by assumption)) (by first | omega | assumption) | exact mp_par (by first | assumption | exact MP_rcS (by assumption) | exact MP_ar rfl (by assumption) | exact MP_sc rfl (by assumption)) (by first | omega | assumption) | exact mp_abv (by first | assumption | exact MP_rcS (by assumption) | exact MP_ar rfl (by assumption) | exact MP_sc rfl (by assumption)) (by first | omega | assumption) | exact mp_dep (by first | assumption | exact MP_rcS (by assumption) | exact MP_ar rfl (by assumption) | exact MP_sc rfl (by assumption)) (by first | omega | assumption) | exact mp_bT (by first | assumption | exact MP_rcS (by assumption) | exact MP_ar rfl (by assumption) | exact MP_sc rfl (by assumption)) (by first | omega | assumption) | exact mp_bM (by first | assumption | exact MP_rcS (by assumption) | exact MP_ar rfl (by assumption) | exact MP_sc rfl (by assumption)) (by first | omega | assumption) | exact mp_sK (by first | assumption | exact MP_rcS (by assumption) | exact MP_ar rfl (by assumption) | exact MP_sc rfl (by assumption)) (by first | omega | assumption) | exact mp_sB (by first | assumption | exact MP_rcS (by assumption) | exact MP_ar rfl (by assumption) | exact MP_sc rfl (by assumption)) (by first | omega | assumption) | exact mp_sT (by first | assumption | exact MP_rcS (by assumption) | exact MP_ar rfl (by assumption) | exact MP_sc rfl (by assumption)) (by first | omega | assumption) | exact mp_sM (by first | assumption | exact MP_rcS (by assumption) | exact MP_ar rfl (by assumption) | exact MP_sc rfl (by assumption)) (by first | omega | assumption) | exact mp_cS (by first | assumption | exact MP_rcS (by assumption) | exact MP_ar rfl (by assumption) | exact MP_sc rfl (by assumption)) (by first | omega | assumption) | rfl) ?_
      refine V_aload_n rfl rfl ?_
      refine V_getfield rfl rfl (by first | assumption | exact blkW_0 | exact bAt_0 (by assumption) | rfl) (by rfl) ?_
      refine V_iload_n rfl rfl ?_
      refine V_iald rfl (by first | assumption | exact blkW_i rfl rfl | exact blkW_z rfl rfl | exact bAt_i (by assumption) rfl rfl | exact bAt_z (by assumption) rfl rfl | rfl) (by first | with_reducible rfl | exact nI_add 2 _ | exact nI_add 26 _ | exact fa_lit _ | assumption) (by first | omega | assumption | decide) (by first | decide | omega | assumption) (by first | exact mp_isC (by first | assumption | exact MP_rcS (by assumption) | exact MP_ar rfl (by assumption) | exact MP_sc rfl (by assumption)) (by first | omega | assumption) | exact mp_par (by first | assumption | exact MP_rcS (by assumption) | exact MP_ar rfl (by assumption) | exact MP_sc rfl (by assumption)) (by first | omega | assumption) | exact mp_abv (by first | assumption | exact MP_rcS (by assumption) | exact MP_ar rfl (by assumption) | exact MP_sc rfl (by assumption)) (by first | omega | assumption) | exact mp_dep (by first | assumption | exact MP_rcS (by assumption) | exact MP_ar rfl (by assumption) | exact MP_sc rfl (by assumption)) (by first | omega | assumption) | exact mp_bT (by first | assumption | exact MP_rcS (by assumption) | exact MP_ar rfl (by assumption) | exact MP_sc rfl (by assumption)) (by first | omega | assumption) | exact mp_bM (by first | assumption | exact MP_rcS (by assumption) | exact MP_ar rfl (by assumption) | exact MP_sc rfl (by assumption)) (by first | omega | assumption) | exact mp_sK (by first | assumption | exact MP_rcS (by assumption) | exact MP_ar rfl (by assumption) | exact MP_sc rfl (by assumption)) (by first | omega | assumption) | exact mp_sB (by first | assumption | exact MP_rcS (by assumption) | exact MP_ar rfl (by assumption) | exact MP_sc rfl (by assumption)) (by first | omega | assumption) | exact mp_sT (by first | assumption | exact MP_rcS (by assumption) | exact MP_ar rfl (by assumption) | exact MP_sc rfl (by assumption)) (by first | omega | assumption) | exact mp_sM (by first | assumption | exact MP_rcS (by assumption) | exact MP_ar rfl (by assumption) | exact MP_sc rfl (by assumption)) (by first | omega | assumption) | exact mp_cS (by first | assumption | exact MP_rcS (by assumption) | exact MP_ar rfl (by assumption) | exact MP_sc rfl (by assumption)) (by first | omega | assumption) | rfl) ?_
      refine V_callSi rfl rfl (Or.inl rfl) m_MD_has_w m_MD_has_x rfl rfl (s_mhas _ (by first | omega | assumption)) (by decide) rfl (Nat.le_of_ble_eq_true rfl) ?_
      first | refine V_ifb_eq rfl (fun h53 => ?_) (fun h53 => ?_) | refine V_if_eq rfl (fun h53 => ?_) (fun h53 => ?_)
      · refine V_iconst (v := 0) rfl (by decide) ?_
        refine V_ior rfl ?_
        first | refine V_bput rfl rfl rfl rfl rfl rfl ?_ | refine V_bputZ rfl rfl rfl rfl rfl rfl (by decide) ?_ | refine V_put rfl rfl (by first | assumption | rfl) (by decide) (fun _ hty => by cases hty; exact ⟨rfl, rfl⟩) (by first | exact Or.inl rfl | exact Or.inr ⟨rfl, rfl⟩) rfl ?_
        refine V_inc2 rfl (by first | exact mInc _ | exact mDcr _ | rfl) (by first | rfl | assumption) ?_
        refine V_goto rfl ?_
        exact V_wkh ih (by simp [mWk]) (by rw [rcS_34]; simp [setF_s, cnd, bI, *])
      · refine V_iconst (v := 1) rfl (by decide) ?_
        refine V_iload_n rfl rfl ?_
        refine V_ishl rfl ?_
        refine V_goto rfl ?_
        refine V_ior rfl ?_
        first | refine V_bput rfl rfl rfl rfl rfl rfl ?_ | refine V_bputZ rfl rfl rfl rfl rfl rfl (by decide) ?_ | refine V_put rfl rfl (by first | assumption | rfl) (by decide) (fun _ hty => by cases hty; exact ⟨rfl, rfl⟩) (by first | exact Or.inl rfl | exact Or.inr ⟨rfl, rfl⟩) rfl ?_
        refine V_inc2 rfl (by first | exact mInc _ | exact mDcr _ | rfl) (by first | rfl | assumption) ?_
        refine V_goto rfl ?_
        exact V_wkh ih (by simp [mWk]) (by rw [rcS_34]; simp [setF_s, cnd, bI, *])
  · refine V_iload_n rfl rfl ?_
    refine V_aload_n rfl rfl ?_
    refine V_getI rfl rfl (by first | assumption | exact blkW_0 | exact bAt_0 (by assumption) | rfl) (by rfl) (by first | exact mp_nB (by first | assumption | exact MP_rcS (by assumption) | exact MP_ar rfl (by assumption) | exact MP_sc rfl (by assumption)) | rfl) ?_
    refine V_icmp_geT rfl (nI_le (Nat.le_refl _) (by omega)) ?_
    refine V_iconst (v := 1) rfl (by decide) ?_
    refine V_is2 rfl (by first | rfl | assumption) ?_
    have key : ∀ (k : Nat) (x : Int32 × Int32), sweep p (ar 15 0) (itF (sweep p (ar 15 0)) k x) = itF (sweep p (ar 15 0)) k x → V g 6 m_MD_reachFrom (Pn (blkW 7 h md (rcS sc (itF (sweep p (ar 15 0)) k x)) ar)) sz u 75 [.ref md, .int S0, .int 1, .retAddr 0, .retAddr 0, .retAddr 0] [] (blkW 7 h md (rcS sc x) ar) sz u := by
      intro k
      induction k with
      | zero =>
        intro x hx
        refine V_iload_n rfl rfl ?_
        refine V_if_eqF rfl (by decide) ?_
        refine V_aload_n rfl rfl ?_
        refine V_getI rfl rfl (by first | assumption | exact blkW_0 | exact bAt_0 (by assumption) | rfl) (by rfl) (by first | exact rcS_g34 | rfl) ?_
        refine V_is3 rfl (by first | rfl | assumption) ?_
        refine V_aload_n rfl rfl ?_
        refine V_getI rfl rfl (by first | assumption | exact blkW_0 | exact bAt_0 (by assumption) | rfl) (by rfl) (by first | exact rcS_g35 | rfl) ?_
        refine V_is4 rfl (by first | rfl | assumption) ?_
        refine V_iconst (v := 0) rfl (by decide) ?_
        refine V_is5 rfl (by first | rfl | assumption) ?_
        refine V_for2 (nS p) (fun i => [.ref md, .int S0, .int 1, .int x.1, .int x.2, .int (nI i)]) (fun i => blkW 7 h md (rcS sc (swp p (ar 15 0) x i)) ar) rfl rfl (fun i hi ih => ?_) ?_
        · have hw := hm.1.2.2.2.1 i hi
          refine V_iload rfl rfl ?_
          refine V_aload_n rfl rfl ?_
          refine V_getI rfl rfl (by first | assumption | exact blkW_0 | exact bAt_0 (by assumption) | rfl) (by rfl) (by first | exact mp_nS (by first | assumption | exact MP_rcS (by assumption) | exact MP_ar rfl (by assumption) | exact MP_sc rfl (by assumption)) | rfl) ?_
          refine V_icmp_geF rfl (nI_ge hi (by omega)) ?_
          refine V_aload_n rfl rfl ?_
          refine V_getI rfl rfl (by first | assumption | exact blkW_0 | exact bAt_0 (by assumption) | rfl) (by rfl) (by first | exact rcS_g34 | rfl) ?_
          refine V_aload_n rfl rfl ?_
          refine V_getfield rfl rfl (by first | assumption | exact blkW_0 | exact bAt_0 (by assumption) | rfl) (by rfl) ?_
          refine V_iload rfl rfl ?_
          refine V_iald rfl (by first | assumption | exact blkW_i rfl rfl | exact blkW_z rfl rfl | exact bAt_i (by assumption) rfl rfl | exact bAt_z (by assumption) rfl rfl | rfl) (by first | with_reducible rfl | exact nI_add 2 _ | exact nI_add 26 _ | exact fa_lit _ | assumption) (by first | omega | assumption | decide) (by first | decide | omega | assumption) (by first | exact mp_isC (by first | assumption | exact MP_rcS (by assumption) | exact MP_ar rfl (by assumption) | exact MP_sc rfl (by assumption)) (by first | omega | assumption) | exact mp_par (by first | assumption | exact MP_rcS (by assumption) | exact MP_ar rfl (by assumption) | exact MP_sc rfl (by assumption)) (by first | omega | assumption) | exact mp_abv (by first | assumption | exact MP_rcS (by assumption) | exact MP_ar rfl (by assumption) | exact MP_sc rfl (by assumption)) (by first | omega | assumption) | exact mp_dep (by first | assumption | exact MP_rcS (by assumption) | exact MP_ar rfl (by assumption) | exact MP_sc rfl (by assumption)) (by first | omega | assumption) | exact mp_bT (by first | assumption | exact MP_rcS (by assumption) | exact MP_ar rfl (by assumption) | exact MP_sc rfl (by assumption)) (by first | omega | assumption) | exact mp_bM (by first | assumption | exact MP_rcS (by assumption) | exact MP_ar rfl (by assumption) | exact MP_sc rfl (by assumption)) (by first | omega | assumption) | exact mp_sK (by first | assumption | exact MP_rcS (by assumption) | exact MP_ar rfl (by assumption) | exact MP_sc rfl (by assumption)) (by first | omega | assumption) | exact mp_sB (by first | assumption | exact MP_rcS (by assumption) | exact MP_ar rfl (by assumption) | exact MP_sc rfl (by assumption)) (by first | omega | assumption) | exact mp_sT (by first | assumption | exact MP_rcS (by assumption) | exact MP_ar rfl (by assumption) | exact MP_sc rfl (by assumption)) (by first | omega | assumption) | exact mp_sM (by first | assumption | exact MP_rcS (by assumption) | exact MP_ar rfl (by assumption) | exact MP_sc rfl (by assumption)) (by first | omega | assumption) | exact mp_cS (by first | assumption | exact MP_rcS (by assumption) | exact MP_ar rfl (by assumption) | exact MP_sc rfl (by assumption)) (by first | omega | assumption) | rfl) ?_
          refine V_callSi rfl rfl (Or.inl rfl) m_MD_has_w m_MD_has_x rfl rfl (s_mhas _ (by first | omega | assumption)) (by decide) rfl (Nat.le_of_ble_eq_true rfl) ?_
          first | refine V_ifb_eq rfl (fun h116 => ?_) (fun h116 => ?_) | refine V_if_eq rfl (fun h116 => ?_) (fun h116 => ?_)
          · refine V_inc5 rfl (by first | exact mInc _ | exact mDcr _ | rfl) (by first | rfl | assumption) ?_
            refine V_goto rfl ?_
            exact V_wkh ih (by simp [mWk]) (by congr 1; congr 1; rw [swp_s]; (try rw [nI_0iff (by omega)] at h131); clear hx; simp [mkS, cnd, bI, rcS_g35, *])
          · refine V_aload_n rfl rfl ?_
            refine V_dup rfl rfl ?_
            refine V_getI rfl rfl (by first | assumption | exact blkW_0 | exact bAt_0 (by assumption) | rfl) (by rfl) (by first | exact rcS_g35 | rfl) ?_
            refine V_aload_n rfl rfl ?_
            refine V_getfield rfl rfl (by first | assumption | exact blkW_0 | exact bAt_0 (by assumption) | rfl) (by rfl) ?_
            refine V_iload rfl rfl ?_
            refine V_iald rfl (by first | assumption | exact blkW_i rfl rfl | exact blkW_z rfl rfl | exact bAt_i (by assumption) rfl rfl | exact bAt_z (by assumption) rfl rfl | rfl) (by first | with_reducible rfl | exact nI_add 2 _ | exact nI_add 26 _ | exact fa_lit _ | assumption) (by first | omega | assumption | decide) (by first | decide | omega | assumption) (by first | exact mp_isC (by first | assumption | exact MP_rcS (by assumption) | exact MP_ar rfl (by assumption) | exact MP_sc rfl (by assumption)) (by first | omega | assumption) | exact mp_par (by first | assumption | exact MP_rcS (by assumption) | exact MP_ar rfl (by assumption) | exact MP_sc rfl (by assumption)) (by first | omega | assumption) | exact mp_abv (by first | assumption | exact MP_rcS (by assumption) | exact MP_ar rfl (by assumption) | exact MP_sc rfl (by assumption)) (by first | omega | assumption) | exact mp_dep (by first | assumption | exact MP_rcS (by assumption) | exact MP_ar rfl (by assumption) | exact MP_sc rfl (by assumption)) (by first | omega | assumption) | exact mp_bT (by first | assumption | exact MP_rcS (by assumption) | exact MP_ar rfl (by assumption) | exact MP_sc rfl (by assumption)) (by first | omega | assumption) | exact mp_bM (by first | assumption | exact MP_rcS (by assumption) | exact MP_ar rfl (by assumption) | exact MP_sc rfl (by assumption)) (by first | omega | assumption) | exact mp_sK (by first | assumption | exact MP_rcS (by assumption) | exact MP_ar rfl (by assumption) | exact MP_sc rfl (by assumption)) (by first | omega | assumption) | exact mp_sB (by first | assumption | exact MP_rcS (by assumption) | exact MP_ar rfl (by assumption) | exact MP_sc rfl (by assumption)) (by first | omega | assumption) | exact mp_sT (by first | assumption | exact MP_rcS (by assumption) | exact MP_ar rfl (by assumption) | exact MP_sc rfl (by assumption)) (by first | omega | assumption) | exact mp_sM (by first | assumption | exact MP_rcS (by assumption) | exact MP_ar rfl (by assumption) | exact MP_sc rfl (by assumption)) (by first | omega | assumption) | exact mp_cS (by first | assumption | exact MP_rcS (by assumption) | exact MP_ar rfl (by assumption) | exact MP_sc rfl (by assumption)) (by first | omega | assumption) | rfl) ?_
            first | refine V_ifb_ne rfl (fun h131 => ?_) (fun h131 => ?_) | refine V_if_ne rfl (fun h131 => ?_) (fun h131 => ?_)
            · refine V_iconst (v := 0) rfl (by decide) ?_
              refine V_ior rfl ?_
              first | refine V_bput rfl rfl rfl rfl rfl rfl ?_ | refine V_bputZ rfl rfl rfl rfl rfl rfl (by decide) ?_ | refine V_put rfl rfl (by first | assumption | rfl) (by decide) (fun _ hty => by cases hty; exact ⟨rfl, rfl⟩) (by first | exact Or.inl rfl | exact Or.inr ⟨rfl, rfl⟩) rfl ?_
              rw [rcS_35]
              refine V_aload_n rfl rfl ?_
              refine V_dup rfl rfl ?_
              refine V_getI rfl rfl (by first | assumption | exact blkW_0 | exact bAt_0 (by assumption) | rfl) (by rfl) (by first | exact rcS_g34 | rfl) ?_
              refine V_aload_n rfl rfl ?_
              refine V_iload rfl rfl ?_
              refine V_callVi rfl rfl m_MD_doneBy_w m_MD_doneBy_x rfl (by decide) rfl (s_dnB (by first | assumption | exact blkW_at) (by first | assumption | exact MP_rcS (by assumption) | exact MP_ar rfl (by assumption) | exact MP_sc rfl (by assumption)) _ (by first | omega | assumption)) (by decide) rfl (by first | assumption | exact blkW_0 | exact bAt_0 (by assumption) | rfl) (Nat.le_of_ble_eq_true rfl) ?_
              refine V_ior rfl ?_
              first | refine V_bput rfl rfl rfl rfl rfl rfl ?_ | refine V_bputZ rfl rfl rfl rfl rfl rfl (by decide) ?_ | refine V_put rfl rfl (by first | assumption | rfl) (by decide) (fun _ hty => by cases hty; exact ⟨rfl, rfl⟩) (by first | exact Or.inl rfl | exact Or.inr ⟨rfl, rfl⟩) rfl ?_
              rw [rcS_34]
              refine V_inc5 rfl (by first | exact mInc _ | exact mDcr _ | rfl) (by first | rfl | assumption) ?_
              refine V_goto rfl ?_
              exact V_wkh ih (by simp [mWk]) (by congr 1; congr 1; rw [swp_s]; (try rw [nI_0iff (by omega)] at h131); clear hx; simp [mkS, cnd, bI, rcS_g35, *])
            · refine V_aload_n rfl rfl ?_
              refine V_getfield rfl rfl (by first | assumption | exact blkW_0 | exact bAt_0 (by assumption) | rfl) (by rfl) ?_
              refine V_iconst (v := 0) rfl (by decide) ?_
              refine V_iald rfl (by first | assumption | exact blkW_i rfl rfl | exact blkW_z rfl rfl | exact bAt_i (by assumption) rfl rfl | exact bAt_z (by assumption) rfl rfl | rfl) (by first | with_reducible rfl | exact nI_add 2 _ | exact nI_add 26 _ | exact fa_lit _ | assumption) (by first | omega | assumption | decide) (by first | decide | omega | assumption) (by first | exact mp_isC (by first | assumption | exact MP_rcS (by assumption) | exact MP_ar rfl (by assumption) | exact MP_sc rfl (by assumption)) (by first | omega | assumption) | exact mp_par (by first | assumption | exact MP_rcS (by assumption) | exact MP_ar rfl (by assumption) | exact MP_sc rfl (by assumption)) (by first | omega | assumption) | exact mp_abv (by first | assumption | exact MP_rcS (by assumption) | exact MP_ar rfl (by assumption) | exact MP_sc rfl (by assumption)) (by first | omega | assumption) | exact mp_dep (by first | assumption | exact MP_rcS (by assumption) | exact MP_ar rfl (by assumption) | exact MP_sc rfl (by assumption)) (by first | omega | assumption) | exact mp_bT (by first | assumption | exact MP_rcS (by assumption) | exact MP_ar rfl (by assumption) | exact MP_sc rfl (by assumption)) (by first | omega | assumption) | exact mp_bM (by first | assumption | exact MP_rcS (by assumption) | exact MP_ar rfl (by assumption) | exact MP_sc rfl (by assumption)) (by first | omega | assumption) | exact mp_sK (by first | assumption | exact MP_rcS (by assumption) | exact MP_ar rfl (by assumption) | exact MP_sc rfl (by assumption)) (by first | omega | assumption) | exact mp_sB (by first | assumption | exact MP_rcS (by assumption) | exact MP_ar rfl (by assumption) | exact MP_sc rfl (by assumption)) (by first | omega | assumption) | exact mp_sT (by first | assumption | exact MP_rcS (by assumption) | exact MP_ar rfl (by assumption) | exact MP_sc rfl (by assumption)) (by first | omega | assumption) | exact mp_sM (by first | assumption | exact MP_rcS (by assumption) | exact MP_ar rfl (by assumption) | exact MP_sc rfl (by assumption)) (by first | omega | assumption) | exact mp_cS (by first | assumption | exact MP_rcS (by assumption) | exact MP_ar rfl (by assumption) | exact MP_sc rfl (by assumption)) (by first | omega | assumption) | rfl) ?_
              refine V_aload_n rfl rfl ?_
              refine V_getfield rfl rfl (by first | assumption | exact blkW_0 | exact bAt_0 (by assumption) | rfl) (by rfl) ?_
              refine V_iload rfl rfl ?_
              refine V_iald rfl (by first | assumption | exact blkW_i rfl rfl | exact blkW_z rfl rfl | exact bAt_i (by assumption) rfl rfl | exact bAt_z (by assumption) rfl rfl | rfl) (by first | with_reducible rfl | exact nI_add 2 _ | exact nI_add 26 _ | exact fa_lit _ | assumption) (by first | omega | assumption | decide) (by first | decide | omega | assumption) (by first | exact mp_isC (by first | assumption | exact MP_rcS (by assumption) | exact MP_ar rfl (by assumption) | exact MP_sc rfl (by assumption)) (by first | omega | assumption) | exact mp_par (by first | assumption | exact MP_rcS (by assumption) | exact MP_ar rfl (by assumption) | exact MP_sc rfl (by assumption)) (by first | omega | assumption) | exact mp_abv (by first | assumption | exact MP_rcS (by assumption) | exact MP_ar rfl (by assumption) | exact MP_sc rfl (by assumption)) (by first | omega | assumption) | exact mp_dep (by first | assumption | exact MP_rcS (by assumption) | exact MP_ar rfl (by assumption) | exact MP_sc rfl (by assumption)) (by first | omega | assumption) | exact mp_bT (by first | assumption | exact MP_rcS (by assumption) | exact MP_ar rfl (by assumption) | exact MP_sc rfl (by assumption)) (by first | omega | assumption) | exact mp_bM (by first | assumption | exact MP_rcS (by assumption) | exact MP_ar rfl (by assumption) | exact MP_sc rfl (by assumption)) (by first | omega | assumption) | exact mp_sK (by first | assumption | exact MP_rcS (by assumption) | exact MP_ar rfl (by assumption) | exact MP_sc rfl (by assumption)) (by first | omega | assumption) | exact mp_sB (by first | assumption | exact MP_rcS (by assumption) | exact MP_ar rfl (by assumption) | exact MP_sc rfl (by assumption)) (by first | omega | assumption) | exact mp_sT (by first | assumption | exact MP_rcS (by assumption) | exact MP_ar rfl (by assumption) | exact MP_sc rfl (by assumption)) (by first | omega | assumption) | exact mp_sM (by first | assumption | exact MP_rcS (by assumption) | exact MP_ar rfl (by assumption) | exact MP_sc rfl (by assumption)) (by first | omega | assumption) | exact mp_cS (by first | assumption | exact MP_rcS (by assumption) | exact MP_ar rfl (by assumption) | exact MP_sc rfl (by assumption)) (by first | omega | assumption) | rfl) ?_
              refine V_callSi rfl rfl (Or.inl rfl) m_MD_has_w m_MD_has_x rfl rfl (s_mhas _ (by first | omega | assumption)) (by decide) rfl (Nat.le_of_ble_eq_true rfl) ?_
              first | refine V_ifb_eq rfl (fun h150 => ?_) (fun h150 => ?_) | refine V_if_eq rfl (fun h150 => ?_) (fun h150 => ?_)
              · refine V_iconst (v := 0) rfl (by decide) ?_
                refine V_ior rfl ?_
                first | refine V_bput rfl rfl rfl rfl rfl rfl ?_ | refine V_bputZ rfl rfl rfl rfl rfl rfl (by decide) ?_ | refine V_put rfl rfl (by first | assumption | rfl) (by decide) (fun _ hty => by cases hty; exact ⟨rfl, rfl⟩) (by first | exact Or.inl rfl | exact Or.inr ⟨rfl, rfl⟩) rfl ?_
                rw [rcS_35]
                refine V_aload_n rfl rfl ?_
                refine V_dup rfl rfl ?_
                refine V_getI rfl rfl (by first | assumption | exact blkW_0 | exact bAt_0 (by assumption) | rfl) (by rfl) (by first | exact rcS_g34 | rfl) ?_
                refine V_aload_n rfl rfl ?_
                refine V_iload rfl rfl ?_
                refine V_callVi rfl rfl m_MD_doneBy_w m_MD_doneBy_x rfl (by decide) rfl (s_dnB (by first | assumption | exact blkW_at) (by first | assumption | exact MP_rcS (by assumption) | exact MP_ar rfl (by assumption) | exact MP_sc rfl (by assumption)) _ (by first | omega | assumption)) (by decide) rfl (by first | assumption | exact blkW_0 | exact bAt_0 (by assumption) | rfl) (Nat.le_of_ble_eq_true rfl) ?_
                refine V_ior rfl ?_
                first | refine V_bput rfl rfl rfl rfl rfl rfl ?_ | refine V_bputZ rfl rfl rfl rfl rfl rfl (by decide) ?_ | refine V_put rfl rfl (by first | assumption | rfl) (by decide) (fun _ hty => by cases hty; exact ⟨rfl, rfl⟩) (by first | exact Or.inl rfl | exact Or.inr ⟨rfl, rfl⟩) rfl ?_
                rw [rcS_34]
                refine V_inc5 rfl (by first | exact mInc _ | exact mDcr _ | rfl) (by first | rfl | assumption) ?_
                refine V_goto rfl ?_
                exact V_wkh ih (by simp [mWk]) (by congr 1; congr 1; rw [swp_s]; (try rw [nI_0iff (by omega)] at h131); clear hx; simp [mkS, cnd, bI, rcS_g35, *])
              · refine V_iconst (v := 1) rfl (by decide) ?_
                refine V_aload_n rfl rfl ?_
                refine V_getfield rfl rfl (by first | assumption | exact blkW_0 | exact bAt_0 (by assumption) | rfl) (by rfl) ?_
                refine V_iload rfl rfl ?_
                refine V_iald rfl (by first | assumption | exact blkW_i rfl rfl | exact blkW_z rfl rfl | exact bAt_i (by assumption) rfl rfl | exact bAt_z (by assumption) rfl rfl | rfl) (by first | with_reducible rfl | exact nI_add 2 _ | exact nI_add 26 _ | exact fa_lit _ | assumption) (by first | omega | assumption | decide) (by first | decide | omega | assumption) (by first | exact mp_isC (by first | assumption | exact MP_rcS (by assumption) | exact MP_ar rfl (by assumption) | exact MP_sc rfl (by assumption)) (by first | omega | assumption) | exact mp_par (by first | assumption | exact MP_rcS (by assumption) | exact MP_ar rfl (by assumption) | exact MP_sc rfl (by assumption)) (by first | omega | assumption) | exact mp_abv (by first | assumption | exact MP_rcS (by assumption) | exact MP_ar rfl (by assumption) | exact MP_sc rfl (by assumption)) (by first | omega | assumption) | exact mp_dep (by first | assumption | exact MP_rcS (by assumption) | exact MP_ar rfl (by assumption) | exact MP_sc rfl (by assumption)) (by first | omega | assumption) | exact mp_bT (by first | assumption | exact MP_rcS (by assumption) | exact MP_ar rfl (by assumption) | exact MP_sc rfl (by assumption)) (by first | omega | assumption) | exact mp_bM (by first | assumption | exact MP_rcS (by assumption) | exact MP_ar rfl (by assumption) | exact MP_sc rfl (by assumption)) (by first | omega | assumption) | exact mp_sK (by first | assumption | exact MP_rcS (by assumption) | exact MP_ar rfl (by assumption) | exact MP_sc rfl (by assumption)) (by first | omega | assumption) | exact mp_sB (by first | assumption | exact MP_rcS (by assumption) | exact MP_ar rfl (by assumption) | exact MP_sc rfl (by assumption)) (by first | omega | assumption) | exact mp_sT (by first | assumption | exact MP_rcS (by assumption) | exact MP_ar rfl (by assumption) | exact MP_sc rfl (by assumption)) (by first | omega | assumption) | exact mp_sM (by first | assumption | exact MP_rcS (by assumption) | exact MP_ar rfl (by assumption) | exact MP_sc rfl (by assumption)) (by first | omega | assumption) | exact mp_cS (by first | assumption | exact MP_rcS (by assumption) | exact MP_ar rfl (by assumption) | exact MP_sc rfl (by assumption)) (by first | omega | assumption) | rfl) ?_
                refine V_ishl rfl ?_
                refine V_goto rfl ?_
                refine V_ior rfl ?_
                first | refine V_bput rfl rfl rfl rfl rfl rfl ?_ | refine V_bputZ rfl rfl rfl rfl rfl rfl (by decide) ?_ | refine V_put rfl rfl (by first | assumption | rfl) (by decide) (fun _ hty => by cases hty; exact ⟨rfl, rfl⟩) (by first | exact Or.inl rfl | exact Or.inr ⟨rfl, rfl⟩) rfl ?_
                rw [rcS_35]
                refine V_aload_n rfl rfl ?_
                refine V_dup rfl rfl ?_
                refine V_getI rfl rfl (by first | assumption | exact blkW_0 | exact bAt_0 (by assumption) | rfl) (by rfl) (by first | exact rcS_g34 | rfl) ?_
                refine V_aload_n rfl rfl ?_
                refine V_iload rfl rfl ?_
                refine V_callVi rfl rfl m_MD_doneBy_w m_MD_doneBy_x rfl (by decide) rfl (s_dnB (by first | assumption | exact blkW_at) (by first | assumption | exact MP_rcS (by assumption) | exact MP_ar rfl (by assumption) | exact MP_sc rfl (by assumption)) _ (by first | omega | assumption)) (by decide) rfl (by first | assumption | exact blkW_0 | exact bAt_0 (by assumption) | rfl) (Nat.le_of_ble_eq_true rfl) ?_
                refine V_ior rfl ?_
                first | refine V_bput rfl rfl rfl rfl rfl rfl ?_ | refine V_bputZ rfl rfl rfl rfl rfl rfl (by decide) ?_ | refine V_put rfl rfl (by first | assumption | rfl) (by decide) (fun _ hty => by cases hty; exact ⟨rfl, rfl⟩) (by first | exact Or.inl rfl | exact Or.inr ⟨rfl, rfl⟩) rfl ?_
                rw [rcS_34]
                refine V_inc5 rfl (by first | exact mInc _ | exact mDcr _ | rfl) (by first | rfl | assumption) ?_
                refine V_goto rfl ?_
                exact V_wkh ih (by simp [mWk]) (by congr 1; congr 1; rw [swp_s]; (try rw [nI_0iff (by omega)] at h131); clear hx; simp [mkS, cnd, bI, rcS_g35, *])
        · refine V_iload rfl rfl ?_
          refine V_aload_n rfl rfl ?_
          refine V_getI rfl rfl (by first | assumption | exact blkW_0 | exact bAt_0 (by assumption) | rfl) (by rfl) (by first | exact mp_nS (by first | assumption | exact MP_rcS (by assumption) | exact MP_ar rfl (by assumption) | exact MP_sc rfl (by assumption)) | rfl) ?_
          refine V_icmp_geT rfl (nI_le (Nat.le_refl _) (by omega)) ?_
          have e1 : swp p (ar 15 0) x (nS p) = x := hx
          rw [e1]
          refine V_aload_n rfl rfl ?_
          refine V_getI rfl rfl (by first | assumption | exact blkW_0 | exact bAt_0 (by assumption) | rfl) (by rfl) (by first | exact rcS_g34 | rfl) ?_
          refine V_iload_n rfl rfl ?_
          refine V_icmp_neF rfl (rfl) ?_
          refine V_aload_n rfl rfl ?_
          refine V_getI rfl rfl (by first | assumption | exact blkW_0 | exact bAt_0 (by assumption) | rfl) (by rfl) (by first | exact rcS_g35 | rfl) ?_
          refine V_iload rfl rfl ?_
          refine V_icmp_eqT rfl (rfl) ?_
          refine V_iconst (v := 0) rfl (by decide) ?_
          refine V_is2 rfl (by first | rfl | assumption) ?_
          refine V_goto rfl ?_
          refine V_iload_n rfl rfl ?_
          refine V_if_eqT rfl (rfl) ?_
          refine V_return rfl rfl ?_
          exact ⟨rfl, rfl⟩
      | succ k ihk =>
        intro x hx
        refine V_iload_n rfl rfl ?_
        refine V_if_eqF rfl (by decide) ?_
        refine V_aload_n rfl rfl ?_
        refine V_getI rfl rfl (by first | assumption | exact blkW_0 | exact bAt_0 (by assumption) | rfl) (by rfl) (by first | exact rcS_g34 | rfl) ?_
        refine V_is3 rfl (by first | rfl | assumption) ?_
        refine V_aload_n rfl rfl ?_
        refine V_getI rfl rfl (by first | assumption | exact blkW_0 | exact bAt_0 (by assumption) | rfl) (by rfl) (by first | exact rcS_g35 | rfl) ?_
        refine V_is4 rfl (by first | rfl | assumption) ?_
        refine V_iconst (v := 0) rfl (by decide) ?_
        refine V_is5 rfl (by first | rfl | assumption) ?_
        refine V_for2 (nS p) (fun i => [.ref md, .int S0, .int 1, .int x.1, .int x.2, .int (nI i)]) (fun i => blkW 7 h md (rcS sc (swp p (ar 15 0) x i)) ar) rfl rfl (fun i hi ih => ?_) ?_
        · have hw := hm.1.2.2.2.1 i hi
          refine V_iload rfl rfl ?_
          refine V_aload_n rfl rfl ?_
          refine V_getI rfl rfl (by first | assumption | exact blkW_0 | exact bAt_0 (by assumption) | rfl) (by rfl) (by first | exact mp_nS (by first | assumption | exact MP_rcS (by assumption) | exact MP_ar rfl (by assumption) | exact MP_sc rfl (by assumption)) | rfl) ?_
          refine V_icmp_geF rfl (nI_ge hi (by omega)) ?_
          refine V_aload_n rfl rfl ?_
          refine V_getI rfl rfl (by first | assumption | exact blkW_0 | exact bAt_0 (by assumption) | rfl) (by rfl) (by first | exact rcS_g34 | rfl) ?_
          refine V_aload_n rfl rfl ?_
          refine V_getfield rfl rfl (by first | assumption | exact blkW_0 | exact bAt_0 (by assumption) | rfl) (by rfl) ?_
          refine V_iload rfl rfl ?_
          refine V_iald rfl (by first | assumption | exact blkW_i rfl rfl | exact blkW_z rfl rfl | exact bAt_i (by assumption) rfl rfl | exact bAt_z (by assumption) rfl rfl | rfl) (by first | with_reducible rfl | exact nI_add 2 _ | exact nI_add 26 _ | exact fa_lit _ | assumption) (by first | omega | assumption | decide) (by first | decide | omega | assumption) (by first | exact mp_isC (by first | assumption | exact MP_rcS (by assumption) | exact MP_ar rfl (by assumption) | exact MP_sc rfl (by assumption)) (by first | omega | assumption) | exact mp_par (by first | assumption | exact MP_rcS (by assumption) | exact MP_ar rfl (by assumption) | exact MP_sc rfl (by assumption)) (by first | omega | assumption) | exact mp_abv (by first | assumption | exact MP_rcS (by assumption) | exact MP_ar rfl (by assumption) | exact MP_sc rfl (by assumption)) (by first | omega | assumption) | exact mp_dep (by first | assumption | exact MP_rcS (by assumption) | exact MP_ar rfl (by assumption) | exact MP_sc rfl (by assumption)) (by first | omega | assumption) | exact mp_bT (by first | assumption | exact MP_rcS (by assumption) | exact MP_ar rfl (by assumption) | exact MP_sc rfl (by assumption)) (by first | omega | assumption) | exact mp_bM (by first | assumption | exact MP_rcS (by assumption) | exact MP_ar rfl (by assumption) | exact MP_sc rfl (by assumption)) (by first | omega | assumption) | exact mp_sK (by first | assumption | exact MP_rcS (by assumption) | exact MP_ar rfl (by assumption) | exact MP_sc rfl (by assumption)) (by first | omega | assumption) | exact mp_sB (by first | assumption | exact MP_rcS (by assumption) | exact MP_ar rfl (by assumption) | exact MP_sc rfl (by assumption)) (by first | omega | assumption) | exact mp_sT (by first | assumption | exact MP_rcS (by assumption) | exact MP_ar rfl (by assumption) | exact MP_sc rfl (by assumption)) (by first | omega | assumption) | exact mp_sM (by first | assumption | exact MP_rcS (by assumption) | exact MP_ar rfl (by assumption) | exact MP_sc rfl (by assumption)) (by first | omega | assumption) | exact mp_cS (by first | assumption | exact MP_rcS (by assumption) | exact MP_ar rfl (by assumption) | exact MP_sc rfl (by assumption)) (by first | omega | assumption) | rfl) ?_
          refine V_callSi rfl rfl (Or.inl rfl) m_MD_has_w m_MD_has_x rfl rfl (s_mhas _ (by first | omega | assumption)) (by decide) rfl (Nat.le_of_ble_eq_true rfl) ?_
          first | refine V_ifb_eq rfl (fun h116 => ?_) (fun h116 => ?_) | refine V_if_eq rfl (fun h116 => ?_) (fun h116 => ?_)
          · refine V_inc5 rfl (by first | exact mInc _ | exact mDcr _ | rfl) (by first | rfl | assumption) ?_
            refine V_goto rfl ?_
            exact V_wkh ih (by simp [mWk]) (by congr 1; congr 1; rw [swp_s]; (try rw [nI_0iff (by omega)] at h131); clear hx; simp [mkS, cnd, bI, rcS_g35, *])
          · refine V_aload_n rfl rfl ?_
            refine V_dup rfl rfl ?_
            refine V_getI rfl rfl (by first | assumption | exact blkW_0 | exact bAt_0 (by assumption) | rfl) (by rfl) (by first | exact rcS_g35 | rfl) ?_
            refine V_aload_n rfl rfl ?_
            refine V_getfield rfl rfl (by first | assumption | exact blkW_0 | exact bAt_0 (by assumption) | rfl) (by rfl) ?_
            refine V_iload rfl rfl ?_
            refine V_iald rfl (by first | assumption | exact blkW_i rfl rfl | exact blkW_z rfl rfl | exact bAt_i (by assumption) rfl rfl | exact bAt_z (by assumption) rfl rfl | rfl) (by first | with_reducible rfl | exact nI_add 2 _ | exact nI_add 26 _ | exact fa_lit _ | assumption) (by first | omega | assumption | decide) (by first | decide | omega | assumption) (by first | exact mp_isC (by first | assumption | exact MP_rcS (by assumption) | exact MP_ar rfl (by assumption) | exact MP_sc rfl (by assumption)) (by first | omega | assumption) | exact mp_par (by first | assumption | exact MP_rcS (by assumption) | exact MP_ar rfl (by assumption) | exact MP_sc rfl (by assumption)) (by first | omega | assumption) | exact mp_abv (by first | assumption | exact MP_rcS (by assumption) | exact MP_ar rfl (by assumption) | exact MP_sc rfl (by assumption)) (by first | omega | assumption) | exact mp_dep (by first | assumption | exact MP_rcS (by assumption) | exact MP_ar rfl (by assumption) | exact MP_sc rfl (by assumption)) (by first | omega | assumption) | exact mp_bT (by first | assumption | exact MP_rcS (by assumption) | exact MP_ar rfl (by assumption) | exact MP_sc rfl (by assumption)) (by first | omega | assumption) | exact mp_bM (by first | assumption | exact MP_rcS (by assumption) | exact MP_ar rfl (by assumption) | exact MP_sc rfl (by assumption)) (by first | omega | assumption) | exact mp_sK (by first | assumption | exact MP_rcS (by assumption) | exact MP_ar rfl (by assumption) | exact MP_sc rfl (by assumption)) (by first | omega | assumption) | exact mp_sB (by first | assumption | exact MP_rcS (by assumption) | exact MP_ar rfl (by assumption) | exact MP_sc rfl (by assumption)) (by first | omega | assumption) | exact mp_sT (by first | assumption | exact MP_rcS (by assumption) | exact MP_ar rfl (by assumption) | exact MP_sc rfl (by assumption)) (by first | omega | assumption) | exact mp_sM (by first | assumption | exact MP_rcS (by assumption) | exact MP_ar rfl (by assumption) | exact MP_sc rfl (by assumption)) (by first | omega | assumption) | exact mp_cS (by first | assumption | exact MP_rcS (by assumption) | exact MP_ar rfl (by assumption) | exact MP_sc rfl (by assumption)) (by first | omega | assumption) | rfl) ?_
            first | refine V_ifb_ne rfl (fun h131 => ?_) (fun h131 => ?_) | refine V_if_ne rfl (fun h131 => ?_) (fun h131 => ?_)
            · refine V_iconst (v := 0) rfl (by decide) ?_
              refine V_ior rfl ?_
              first | refine V_bput rfl rfl rfl rfl rfl rfl ?_ | refine V_bputZ rfl rfl rfl rfl rfl rfl (by decide) ?_ | refine V_put rfl rfl (by first | assumption | rfl) (by decide) (fun _ hty => by cases hty; exact ⟨rfl, rfl⟩) (by first | exact Or.inl rfl | exact Or.inr ⟨rfl, rfl⟩) rfl ?_
              rw [rcS_35]
              refine V_aload_n rfl rfl ?_
              refine V_dup rfl rfl ?_
              refine V_getI rfl rfl (by first | assumption | exact blkW_0 | exact bAt_0 (by assumption) | rfl) (by rfl) (by first | exact rcS_g34 | rfl) ?_
              refine V_aload_n rfl rfl ?_
              refine V_iload rfl rfl ?_
              refine V_callVi rfl rfl m_MD_doneBy_w m_MD_doneBy_x rfl (by decide) rfl (s_dnB (by first | assumption | exact blkW_at) (by first | assumption | exact MP_rcS (by assumption) | exact MP_ar rfl (by assumption) | exact MP_sc rfl (by assumption)) _ (by first | omega | assumption)) (by decide) rfl (by first | assumption | exact blkW_0 | exact bAt_0 (by assumption) | rfl) (Nat.le_of_ble_eq_true rfl) ?_
              refine V_ior rfl ?_
              first | refine V_bput rfl rfl rfl rfl rfl rfl ?_ | refine V_bputZ rfl rfl rfl rfl rfl rfl (by decide) ?_ | refine V_put rfl rfl (by first | assumption | rfl) (by decide) (fun _ hty => by cases hty; exact ⟨rfl, rfl⟩) (by first | exact Or.inl rfl | exact Or.inr ⟨rfl, rfl⟩) rfl ?_
              rw [rcS_34]
              refine V_inc5 rfl (by first | exact mInc _ | exact mDcr _ | rfl) (by first | rfl | assumption) ?_
              refine V_goto rfl ?_
              exact V_wkh ih (by simp [mWk]) (by congr 1; congr 1; rw [swp_s]; (try rw [nI_0iff (by omega)] at h131); clear hx; simp [mkS, cnd, bI, rcS_g35, *])
            · refine V_aload_n rfl rfl ?_
              refine V_getfield rfl rfl (by first | assumption | exact blkW_0 | exact bAt_0 (by assumption) | rfl) (by rfl) ?_
              refine V_iconst (v := 0) rfl (by decide) ?_
              refine V_iald rfl (by first | assumption | exact blkW_i rfl rfl | exact blkW_z rfl rfl | exact bAt_i (by assumption) rfl rfl | exact bAt_z (by assumption) rfl rfl | rfl) (by first | with_reducible rfl | exact nI_add 2 _ | exact nI_add 26 _ | exact fa_lit _ | assumption) (by first | omega | assumption | decide) (by first | decide | omega | assumption) (by first | exact mp_isC (by first | assumption | exact MP_rcS (by assumption) | exact MP_ar rfl (by assumption) | exact MP_sc rfl (by assumption)) (by first | omega | assumption) | exact mp_par (by first | assumption | exact MP_rcS (by assumption) | exact MP_ar rfl (by assumption) | exact MP_sc rfl (by assumption)) (by first | omega | assumption) | exact mp_abv (by first | assumption | exact MP_rcS (by assumption) | exact MP_ar rfl (by assumption) | exact MP_sc rfl (by assumption)) (by first | omega | assumption) | exact mp_dep (by first | assumption | exact MP_rcS (by assumption) | exact MP_ar rfl (by assumption) | exact MP_sc rfl (by assumption)) (by first | omega | assumption) | exact mp_bT (by first | assumption | exact MP_rcS (by assumption) | exact MP_ar rfl (by assumption) | exact MP_sc rfl (by assumption)) (by first | omega | assumption) | exact mp_bM (by first | assumption | exact MP_rcS (by assumption) | exact MP_ar rfl (by assumption) | exact MP_sc rfl (by assumption)) (by first | omega | assumption) | exact mp_sK (by first | assumption | exact MP_rcS (by assumption) | exact MP_ar rfl (by assumption) | exact MP_sc rfl (by assumption)) (by first | omega | assumption) | exact mp_sB (by first | assumption | exact MP_rcS (by assumption) | exact MP_ar rfl (by assumption) | exact MP_sc rfl (by assumption)) (by first | omega | assumption) | exact mp_sT (by first | assumption | exact MP_rcS (by assumption) | exact MP_ar rfl (by assumption) | exact MP_sc rfl (by assumption)) (by first | omega | assumption) | exact mp_sM (by first | assumption | exact MP_rcS (by assumption) | exact MP_ar rfl (by assumption) | exact MP_sc rfl (by assumption)) (by first | omega | assumption) | exact mp_cS (by first | assumption | exact MP_rcS (by assumption) | exact MP_ar rfl (by assumption) | exact MP_sc rfl (by assumption)) (by first | omega | assumption) | rfl) ?_
              refine V_aload_n rfl rfl ?_
              refine V_getfield rfl rfl (by first | assumption | exact blkW_0 | exact bAt_0 (by assumption) | rfl) (by rfl) ?_
              refine V_iload rfl rfl ?_
              refine V_iald rfl (by first | assumption | exact blkW_i rfl rfl | exact blkW_z rfl rfl | exact bAt_i (by assumption) rfl rfl | exact bAt_z (by assumption) rfl rfl | rfl) (by first | with_reducible rfl | exact nI_add 2 _ | exact nI_add 26 _ | exact fa_lit _ | assumption) (by first | omega | assumption | decide) (by first | decide | omega | assumption) (by first | exact mp_isC (by first | assumption | exact MP_rcS (by assumption) | exact MP_ar rfl (by assumption) | exact MP_sc rfl (by assumption)) (by first | omega | assumption) | exact mp_par (by first | assumption | exact MP_rcS (by assumption) | exact MP_ar rfl (by assumption) | exact MP_sc rfl (by assumption)) (by first | omega | assumption) | exact mp_abv (by first | assumption | exact MP_rcS (by assumption) | exact MP_ar rfl (by assumption) | exact MP_sc rfl (by assumption)) (by first | omega | assumption) | exact mp_dep (by first | assumption | exact MP_rcS (by assumption) | exact MP_ar rfl (by assumption) | exact MP_sc rfl (by assumption)) (by first | omega | assumption) | exact mp_bT (by first | assumption | exact MP_rcS (by assumption) | exact MP_ar rfl (by assumption) | exact MP_sc rfl (by assumption)) (by first | omega | assumption) | exact mp_bM (by first | assumption | exact MP_rcS (by assumption) | exact MP_ar rfl (by assumption) | exact MP_sc rfl (by assumption)) (by first | omega | assumption) | exact mp_sK (by first | assumption | exact MP_rcS (by assumption) | exact MP_ar rfl (by assumption) | exact MP_sc rfl (by assumption)) (by first | omega | assumption) | exact mp_sB (by first | assumption | exact MP_rcS (by assumption) | exact MP_ar rfl (by assumption) | exact MP_sc rfl (by assumption)) (by first | omega | assumption) | exact mp_sT (by first | assumption | exact MP_rcS (by assumption) | exact MP_ar rfl (by assumption) | exact MP_sc rfl (by assumption)) (by first | omega | assumption) | exact mp_sM (by first | assumption | exact MP_rcS (by assumption) | exact MP_ar rfl (by assumption) | exact MP_sc rfl (by assumption)) (by first | omega | assumption) | exact mp_cS (by first | assumption | exact MP_rcS (by assumption) | exact MP_ar rfl (by assumption) | exact MP_sc rfl (by assumption)) (by first | omega | assumption) | rfl) ?_
              refine V_callSi rfl rfl (Or.inl rfl) m_MD_has_w m_MD_has_x rfl rfl (s_mhas _ (by first | omega | assumption)) (by decide) rfl (Nat.le_of_ble_eq_true rfl) ?_
              first | refine V_ifb_eq rfl (fun h150 => ?_) (fun h150 => ?_) | refine V_if_eq rfl (fun h150 => ?_) (fun h150 => ?_)
              · refine V_iconst (v := 0) rfl (by decide) ?_
                refine V_ior rfl ?_
                first | refine V_bput rfl rfl rfl rfl rfl rfl ?_ | refine V_bputZ rfl rfl rfl rfl rfl rfl (by decide) ?_ | refine V_put rfl rfl (by first | assumption | rfl) (by decide) (fun _ hty => by cases hty; exact ⟨rfl, rfl⟩) (by first | exact Or.inl rfl | exact Or.inr ⟨rfl, rfl⟩) rfl ?_
                rw [rcS_35]
                refine V_aload_n rfl rfl ?_
                refine V_dup rfl rfl ?_
                refine V_getI rfl rfl (by first | assumption | exact blkW_0 | exact bAt_0 (by assumption) | rfl) (by rfl) (by first | exact rcS_g34 | rfl) ?_
                refine V_aload_n rfl rfl ?_
                refine V_iload rfl rfl ?_
                refine V_callVi rfl rfl m_MD_doneBy_w m_MD_doneBy_x rfl (by decide) rfl (s_dnB (by first | assumption | exact blkW_at) (by first | assumption | exact MP_rcS (by assumption) | exact MP_ar rfl (by assumption) | exact MP_sc rfl (by assumption)) _ (by first | omega | assumption)) (by decide) rfl (by first | assumption | exact blkW_0 | exact bAt_0 (by assumption) | rfl) (Nat.le_of_ble_eq_true rfl) ?_
                refine V_ior rfl ?_
                first | refine V_bput rfl rfl rfl rfl rfl rfl ?_ | refine V_bputZ rfl rfl rfl rfl rfl rfl (by decide) ?_ | refine V_put rfl rfl (by first | assumption | rfl) (by decide) (fun _ hty => by cases hty; exact ⟨rfl, rfl⟩) (by first | exact Or.inl rfl | exact Or.inr ⟨rfl, rfl⟩) rfl ?_
                rw [rcS_34]
                refine V_inc5 rfl (by first | exact mInc _ | exact mDcr _ | rfl) (by first | rfl | assumption) ?_
                refine V_goto rfl ?_
                exact V_wkh ih (by simp [mWk]) (by congr 1; congr 1; rw [swp_s]; (try rw [nI_0iff (by omega)] at h131); clear hx; simp [mkS, cnd, bI, rcS_g35, *])
              · refine V_iconst (v := 1) rfl (by decide) ?_
                refine V_aload_n rfl rfl ?_
                refine V_getfield rfl rfl (by first | assumption | exact blkW_0 | exact bAt_0 (by assumption) | rfl) (by rfl) ?_
                refine V_iload rfl rfl ?_
                refine V_iald rfl (by first | assumption | exact blkW_i rfl rfl | exact blkW_z rfl rfl | exact bAt_i (by assumption) rfl rfl | exact bAt_z (by assumption) rfl rfl | rfl) (by first | with_reducible rfl | exact nI_add 2 _ | exact nI_add 26 _ | exact fa_lit _ | assumption) (by first | omega | assumption | decide) (by first | decide | omega | assumption) (by first | exact mp_isC (by first | assumption | exact MP_rcS (by assumption) | exact MP_ar rfl (by assumption) | exact MP_sc rfl (by assumption)) (by first | omega | assumption) | exact mp_par (by first | assumption | exact MP_rcS (by assumption) | exact MP_ar rfl (by assumption) | exact MP_sc rfl (by assumption)) (by first | omega | assumption) | exact mp_abv (by first | assumption | exact MP_rcS (by assumption) | exact MP_ar rfl (by assumption) | exact MP_sc rfl (by assumption)) (by first | omega | assumption) | exact mp_dep (by first | assumption | exact MP_rcS (by assumption) | exact MP_ar rfl (by assumption) | exact MP_sc rfl (by assumption)) (by first | omega | assumption) | exact mp_bT (by first | assumption | exact MP_rcS (by assumption) | exact MP_ar rfl (by assumption) | exact MP_sc rfl (by assumption)) (by first | omega | assumption) | exact mp_bM (by first | assumption | exact MP_rcS (by assumption) | exact MP_ar rfl (by assumption) | exact MP_sc rfl (by assumption)) (by first | omega | assumption) | exact mp_sK (by first | assumption | exact MP_rcS (by assumption) | exact MP_ar rfl (by assumption) | exact MP_sc rfl (by assumption)) (by first | omega | assumption) | exact mp_sB (by first | assumption | exact MP_rcS (by assumption) | exact MP_ar rfl (by assumption) | exact MP_sc rfl (by assumption)) (by first | omega | assumption) | exact mp_sT (by first | assumption | exact MP_rcS (by assumption) | exact MP_ar rfl (by assumption) | exact MP_sc rfl (by assumption)) (by first | omega | assumption) | exact mp_sM (by first | assumption | exact MP_rcS (by assumption) | exact MP_ar rfl (by assumption) | exact MP_sc rfl (by assumption)) (by first | omega | assumption) | exact mp_cS (by first | assumption | exact MP_rcS (by assumption) | exact MP_ar rfl (by assumption) | exact MP_sc rfl (by assumption)) (by first | omega | assumption) | rfl) ?_
                refine V_ishl rfl ?_
                refine V_goto rfl ?_
                refine V_ior rfl ?_
                first | refine V_bput rfl rfl rfl rfl rfl rfl ?_ | refine V_bputZ rfl rfl rfl rfl rfl rfl (by decide) ?_ | refine V_put rfl rfl (by first | assumption | rfl) (by decide) (fun _ hty => by cases hty; exact ⟨rfl, rfl⟩) (by first | exact Or.inl rfl | exact Or.inr ⟨rfl, rfl⟩) rfl ?_
                rw [rcS_35]
                refine V_aload_n rfl rfl ?_
                refine V_dup rfl rfl ?_
                refine V_getI rfl rfl (by first | assumption | exact blkW_0 | exact bAt_0 (by assumption) | rfl) (by rfl) (by first | exact rcS_g34 | rfl) ?_
                refine V_aload_n rfl rfl ?_
                refine V_iload rfl rfl ?_
                refine V_callVi rfl rfl m_MD_doneBy_w m_MD_doneBy_x rfl (by decide) rfl (s_dnB (by first | assumption | exact blkW_at) (by first | assumption | exact MP_rcS (by assumption) | exact MP_ar rfl (by assumption) | exact MP_sc rfl (by assumption)) _ (by first | omega | assumption)) (by decide) rfl (by first | assumption | exact blkW_0 | exact bAt_0 (by assumption) | rfl) (Nat.le_of_ble_eq_true rfl) ?_
                refine V_ior rfl ?_
                first | refine V_bput rfl rfl rfl rfl rfl rfl ?_ | refine V_bputZ rfl rfl rfl rfl rfl rfl (by decide) ?_ | refine V_put rfl rfl (by first | assumption | rfl) (by decide) (fun _ hty => by cases hty; exact ⟨rfl, rfl⟩) (by first | exact Or.inl rfl | exact Or.inr ⟨rfl, rfl⟩) rfl ?_
                rw [rcS_34]
                refine V_inc5 rfl (by first | exact mInc _ | exact mDcr _ | rfl) (by first | rfl | assumption) ?_
                refine V_goto rfl ?_
                exact V_wkh ih (by simp [mWk]) (by congr 1; congr 1; rw [swp_s]; (try rw [nI_0iff (by omega)] at h131); clear hx; simp [mkS, cnd, bI, rcS_g35, *])
        · refine V_iload rfl rfl ?_
          refine V_aload_n rfl rfl ?_
          refine V_getI rfl rfl (by first | assumption | exact blkW_0 | exact bAt_0 (by assumption) | rfl) (by rfl) (by first | exact mp_nS (by first | assumption | exact MP_rcS (by assumption) | exact MP_ar rfl (by assumption) | exact MP_sc rfl (by assumption)) | rfl) ?_
          refine V_icmp_geT rfl (nI_le (Nat.le_refl _) (by omega)) ?_
          show V g _ m_MD_reachFrom _ _ _ 191 _ _ (blkW 7 h md (rcS sc (sweep p (ar 15 0) x)) ar) sz u
          have ih2 := ihk (sweep p (ar 15 0) x) hx
          by_cases e1 : (sweep p (ar 15 0) x).1 = x.1
          · refine V_aload_n rfl rfl ?_
            refine V_getI rfl rfl (by first | assumption | exact blkW_0 | exact bAt_0 (by assumption) | rfl) (by rfl) (by first | exact rcS_g34 | rfl) ?_
            refine V_iload_n rfl rfl ?_
            refine V_icmp_neF rfl (e1) ?_
            refine V_aload_n rfl rfl ?_
            refine V_getI rfl rfl (by first | assumption | exact blkW_0 | exact bAt_0 (by assumption) | rfl) (by rfl) (by first | exact rcS_g35 | rfl) ?_
            refine V_iload rfl rfl ?_
            by_cases e2 : (sweep p (ar 15 0) x).2 = x.2
            · refine V_icmp_eqT rfl (e2) ?_
              have e3 : sweep p (ar 15 0) x = x := Prod.ext e1 e2
              refine V_iconst (v := 0) rfl (by decide) ?_
              refine V_is2 rfl (by first | rfl | assumption) ?_
              refine V_goto rfl ?_
              refine V_iload_n rfl rfl ?_
              refine V_if_eqT rfl (rfl) ?_
              refine V_return rfl rfl ?_
              refine ⟨rfl, ?_⟩
              rw [show itF (sweep p (ar 15 0)) (k + 1) x = x from itF_stay e3 _, e3]
            · refine V_icmp_eqF rfl (e2) ?_
              refine V_iconst (v := 1) rfl (by decide) ?_
              refine V_goto rfl ?_
              refine V_is2 rfl (by first | rfl | assumption) ?_
              refine V_goto rfl ?_
              exact V_wk ih2 (by simp [mWk])
          · refine V_aload_n rfl rfl ?_
            refine V_getI rfl rfl (by first | assumption | exact blkW_0 | exact bAt_0 (by assumption) | rfl) (by rfl) (by first | exact rcS_g34 | rfl) ?_
            refine V_iload_n rfl rfl ?_
            refine V_icmp_neT rfl (e1) ?_
            refine V_iconst (v := 1) rfl (by decide) ?_
            refine V_goto rfl ?_
            refine V_is2 rfl (by first | rfl | assumption) ?_
            refine V_goto rfl ?_
            exact V_wk ih2 (by simp [mWk])
    exact V_wk (key 33 _ (sweep_fix hm.1 _ ⟨sub_setF (Nat.le_refl _) (by omega), hS0⟩)) (by simp [mWk])
set_option maxRecDepth 20000 in
set_option maxHeartbeats 1000000 in
theorem w_reach (hm : MP p sc ar) : Mt g 7 m_MD_reach [.ref md] (blkW 7 h md sc ar) sz u (Pn (blkW 7 h md (rcS sc (rch p (ar 15) 0)) ar)) sz u := by
  have hz := sub_0 (nT p)
  refine Mt.of m_MD_reach_w m_MD_reach_x m_MD_reach_c rfl rfl (ls := [.ref md]) rfl ?_
  refine V_aload_n rfl rfl ?_
  refine V_iconst (v := 0) rfl (by decide) ?_
  refine V_callVn rfl rfl m_MD_reachFrom_w m_MD_reachFrom_x rfl (by decide) rfl (w_reachFrom (by first | assumption | exact MP_rcS (by assumption) | exact MP_ar rfl (by assumption) | exact MP_sc rfl (by assumption)) _ (by assumption)) (by decide) rfl (by first | assumption | exact blkW_0 | exact bAt_0 (by assumption) | rfl) (Nat.le_of_ble_eq_true rfl) ?_
  refine V_return rfl rfl ?_
  exact ⟨rfl, rfl⟩
set_option maxRecDepth 20000 in
set_option maxHeartbeats 1000000 in
theorem w_could (hm : MP p sc ar) : Mt g 7 m_MD_could [.ref md] (blkW 7 h md sc ar) sz u (Pi (rch p (ar 15) (ar 15 0 &&& setF (nT p) fun x => isC p x)).1 (blkW 7 h md (rcS sc (rch p (ar 15) (ar 15 0 &&& setF (nT p) fun x => isC p x))) ar)) sz u := by
  obtain ⟨hT, hB, hS, hC⟩ := hm.1.1
  have hz : sub (nT p) (ar 15 0 &&& setF (nT p) fun x => isC p x) := fun i hi => by
    rw [b_and, Bool.and_eq_true] at hi
    exact ((bt_setF (by omega)).mp hi.2).1
  refine Mt.of m_MD_could_w m_MD_could_x m_MD_could_c rfl rfl (ls := [.ref md]) rfl ?_
  refine V_aload_n rfl rfl ?_
  refine V_aload_n rfl rfl ?_
  refine V_getfield rfl rfl (by first | assumption | exact blkW_0 | exact bAt_0 (by assumption) | rfl) (by rfl) ?_
  refine V_iconst (v := 0) rfl (by decide) ?_
  refine V_iald rfl (by first | assumption | exact blkW_i rfl rfl | exact blkW_z rfl rfl | exact bAt_i (by assumption) rfl rfl | exact bAt_z (by assumption) rfl rfl | rfl) (by first | with_reducible rfl | exact nI_add 2 _ | exact nI_add 26 _ | exact fa_lit _ | assumption) (by first | omega | assumption | decide) (by first | decide | omega | assumption) (by first | exact mp_isC (by first | assumption | exact MP_rcS (by assumption) | exact MP_ar rfl (by assumption) | exact MP_sc rfl (by assumption)) (by first | omega | assumption) | exact mp_par (by first | assumption | exact MP_rcS (by assumption) | exact MP_ar rfl (by assumption) | exact MP_sc rfl (by assumption)) (by first | omega | assumption) | exact mp_abv (by first | assumption | exact MP_rcS (by assumption) | exact MP_ar rfl (by assumption) | exact MP_sc rfl (by assumption)) (by first | omega | assumption) | exact mp_dep (by first | assumption | exact MP_rcS (by assumption) | exact MP_ar rfl (by assumption) | exact MP_sc rfl (by assumption)) (by first | omega | assumption) | exact mp_bT (by first | assumption | exact MP_rcS (by assumption) | exact MP_ar rfl (by assumption) | exact MP_sc rfl (by assumption)) (by first | omega | assumption) | exact mp_bM (by first | assumption | exact MP_rcS (by assumption) | exact MP_ar rfl (by assumption) | exact MP_sc rfl (by assumption)) (by first | omega | assumption) | exact mp_sK (by first | assumption | exact MP_rcS (by assumption) | exact MP_ar rfl (by assumption) | exact MP_sc rfl (by assumption)) (by first | omega | assumption) | exact mp_sB (by first | assumption | exact MP_rcS (by assumption) | exact MP_ar rfl (by assumption) | exact MP_sc rfl (by assumption)) (by first | omega | assumption) | exact mp_sT (by first | assumption | exact MP_rcS (by assumption) | exact MP_ar rfl (by assumption) | exact MP_sc rfl (by assumption)) (by first | omega | assumption) | exact mp_sM (by first | assumption | exact MP_rcS (by assumption) | exact MP_ar rfl (by assumption) | exact MP_sc rfl (by assumption)) (by first | omega | assumption) | exact mp_cS (by first | assumption | exact MP_rcS (by assumption) | exact MP_ar rfl (by assumption) | exact MP_sc rfl (by assumption)) (by first | omega | assumption) | rfl) ?_
  refine V_aload_n rfl rfl ?_
  refine V_callVi rfl rfl m_MD_classes_w m_MD_classes_x rfl (by decide) rfl (s_mclasses (by first | assumption | exact blkW_at) (by first | assumption | exact MP_rcS (by assumption) | exact MP_ar rfl (by assumption) | exact MP_sc rfl (by assumption))) (by decide) rfl (by first | assumption | exact blkW_0 | exact bAt_0 (by assumption) | rfl) (Nat.le_of_ble_eq_true rfl) ?_
  refine V_iand rfl ?_
  refine V_callVn rfl rfl m_MD_reachFrom_w m_MD_reachFrom_x rfl (by decide) rfl (w_reachFrom (by first | assumption | exact MP_rcS (by assumption) | exact MP_ar rfl (by assumption) | exact MP_sc rfl (by assumption)) _ (by assumption)) (by decide) rfl (by first | assumption | exact blkW_0 | exact bAt_0 (by assumption) | rfl) (Nat.le_of_ble_eq_true rfl) ?_
  refine V_aload_n rfl rfl ?_
  refine V_getI rfl rfl (by first | assumption | exact blkW_0 | exact bAt_0 (by assumption) | rfl) (by rfl) (by first | exact rcS_g34 | rfl) ?_
  refine V_ireturn rfl rfl (by first | rfl | exact b2_nar _ | assumption | decide) ?_
  exact P_ret rfl rfl
end mreach
