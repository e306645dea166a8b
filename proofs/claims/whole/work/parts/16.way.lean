/-! ===== rings; ways ===== -/
def orA (X : Int32) (n : Nat) (f : Nat → Int32) : Int32 := Nat.rec X (fun i acc => acc ||| f i) n
theorem orA_s (X : Int32) (n : Nat) (f : Nat → Int32) : orA X (n + 1) f = orA X n f ||| f n := rfl
theorem bt_orA {X : Int32} {n : Nat} {f : Nat → Int32} {i : Nat} : bt (orA X n f) i = true ↔ bt X i = true ∨ ∃ k, k < n ∧ bt (f k) i = true := by
  induction n with
  | zero =>
    refine ⟨fun h => Or.inl h, fun h => ?_⟩
    rcases h with h | ⟨k, hk, -⟩
    · exact h
    · omega
  | succ n ih =>
    rw [orA_s, b_or, Bool.or_eq_true, ih]
    constructor
    · rintro ((h | ⟨k, h1, h2⟩) | h)
      · exact Or.inl h
      · exact Or.inr ⟨k, by omega, h2⟩
      · exact Or.inr ⟨n, by omega, h⟩
    · rintro (h | ⟨k, h1, h2⟩)
      · exact Or.inl (Or.inl h)
      · rcases Nat.lt_or_ge k n with q | q
        · exact Or.inl (Or.inr ⟨k, q, h2⟩)
        · rw [show k = n by omega] at h2; exact Or.inr h2
def rgS (p : Pg) (R S : Int32) (X : Int32) : Int32 := orA X (nB p) fun x => cnd (bt X x) (clB p R S x)
def rng (p : Pg) (R S : Int32) (b : Nat) : Bool := bt (itF (rgS p R S) 20 (clB p R S b)) b
theorem rg_fix {p : Pg} (hw : WB p) (R S : Int32) {X : Int32} (hX : sub (nB p) X) : rgS p R S (itF (rgS p R S) 20 X) = itF (rgS p R S) 20 X := by
  have hB := hw.1.2.1
  refine itF_fix (fun X => sub (nB p) X) (fun X => cz (nB p) X) (fun y hy => ?_) 20 X hX (Nat.le_trans (cz_le _ _) hB)
  have h1 : sub (nB p) (rgS p R S y) := fun i hi => by
    rcases bt_orA.mp hi with h | ⟨k, hk, hb⟩
    · exact hy i h
    · rw [bt_cnd, Bool.and_eq_true] at hb
      exact sub_clB hB R S k i hb.2
  exact ⟨h1, fun hne => cz_lt (fun i hi => bt_orA.mpr (Or.inl hi)) h1 hne⟩
theorem rg_0 (p : Pg) (R S : Int32) : rgS p R S 0 = 0 := by
  apply b_ext2
  intro i hi
  unfold rgS
  rw [bt_orA]
  constructor
  · rintro (h | ⟨k, hk, hb⟩)
    · exact h
    · rw [bt_cnd, b_0] at hb; cases hb
  · intro h; exact Or.inl h
/-- the first of a set that has n to go -/
def fst1 (p : Pg) (f : Nat → Int32) (S n : Int32) : Int32 := oB (nB p) (fa_first (fun x => bt S x && decide (f x = n)) (nB p))
/-- how far from each body to b, n rounds on -/
def anyF : Nat → (Nat → Bool) → Bool
  | 0, _ => false
  | j + 1, q => anyF j q || q j
def lay (p : Pg) (R S : Int32) (b : Nat) : Nat → Nat → Int32
  | 0, x => if x = b then 0 else 1000
  | n + 1, x => if (decide (lay p R S b n x = 1000) && anyF (nB p) fun y => bt (clB p R S x) y && decide (lay p R S b n y = nI n)) = true then nI (n + 1) else lay p R S b n x
def lstF (f : Nat → Int32) (S : Int32) : Nat → Int32
  | 0 => 1000
  | x + 1 => if bt S x = true ∧ f x < lstF f S x then f x else lstF f S x
def clX (p : Pg) (R S x : Int32) : Int32 := if x < 0 then 0 else clB p R S x.toNatClampNeg
def pthF (p : Pg) (R S : Int32) (f : Nat → Int32) (rt l : Int32) : Nat → Int32
  | 0 => fst1 p f rt l
  | i + 1 => fst1 p f (clX p R S (pthF p R S f rt l i)) (l - nI (i + 1))
section mway
variable {g : mG} {h : mH} {sz u md : Nat} {p : Pg} {sc : Nat → Int32} {ar : Nat → Nat → Int32}
set_option maxRecDepth 20000 in
set_option maxHeartbeats 1000000 in
theorem s_ring (hA : bAt 7 h md sc ar) (hm : MP p sc ar) (b : Nat) (hb : b < nB p) : Mt g 7 m_MD_ring [.ref md, .int (nI b)] h sz u (Pi (b2 (rng p (sc 34) (sc 35) b)) h) sz u := by
  obtain ⟨hT, hB, hS, hC⟩ := hm.1.1
  refine Mt.of m_MD_ring_w m_MD_ring_x m_MD_ring_c rfl rfl (ls := [.ref md, .int (nI b), .retAddr 0, .retAddr 0, .retAddr 0]) rfl ?_
  refine V_aload_n rfl rfl ?_
  refine V_iload_n rfl rfl ?_
  refine V_callVi rfl rfl m_MD_calledBy_w m_MD_calledBy_x rfl (by decide) rfl (s_clB (by first | assumption | exact blkW_at) (by first | assumption | exact MP_rcS (by assumption) | exact MP_ar rfl (by assumption) | exact MP_sc rfl (by assumption)) _ (by first | omega | assumption)) (by decide) rfl (by first | assumption | exact blkW_0 | exact bAt_0 (by assumption) | rfl) (Nat.le_of_ble_eq_true rfl) ?_
  refine V_is2 rfl (by first | rfl | assumption) ?_
  refine V_iconst (v := 0) rfl (by decide) ?_
  refine V_is3 rfl (by first | rfl | assumption) ?_
  have key : ∀ (k : Nat) (X : Int32) (v4 : Value), v4.category = 1 → rgS p (sc 34) (sc 35) (itF (rgS p (sc 34) (sc 35)) k X) = itF (rgS p (sc 34) (sc 35)) k X → V g 7 m_MD_ring (Pi (b2 (bt (itF (rgS p (sc 34) (sc 35)) k X) b)) h) sz u 8 [.ref md, .int (nI b), .int (rgS p (sc 34) (sc 35) X), .int X, v4] [] h sz u := by
    intro k
    induction k with
    | zero =>
      intro X v4 hv hx
      refine V_iload_n rfl rfl ?_
      refine V_iload_n rfl rfl ?_
      refine V_icmp_eqT rfl (hx) ?_
      have hx : rgS p (sc 34) (sc 35) X = X := hx
      rw [hx]
      refine V_iload_n rfl rfl ?_
      refine V_iload_n rfl rfl ?_
      refine V_callSi rfl rfl (Or.inl rfl) m_MD_has_w m_MD_has_x rfl rfl (s_mhas _ (by first | omega | assumption)) (by decide) rfl (Nat.le_of_ble_eq_true rfl) ?_
      first | refine V_ifb_eq rfl (fun h63 => ?_) (fun h63 => ?_) | refine V_if_eq rfl (fun h63 => ?_) (fun h63 => ?_)
      · refine V_iconst (v := 0) rfl (by decide) ?_
        refine V_ireturn rfl rfl (by first | rfl | exact b2_nar _ | assumption | decide) ?_
        refine P_ret ?_ rfl
        simp [b2, itF, *]
      · refine V_iconst (v := 1) rfl (by decide) ?_
        refine V_goto rfl ?_
        refine V_ireturn rfl rfl (by first | rfl | exact b2_nar _ | assumption | decide) ?_
        refine P_ret ?_ rfl
        simp [b2, itF, *]
    | succ k ih =>
      intro X v4 hv hx
      by_cases e : rgS p (sc 34) (sc 35) X = X
      · have e2 : itF (rgS p (sc 34) (sc 35)) (k + 1) X = X := itF_stay e _
        refine V_iload_n rfl rfl ?_
        refine V_iload_n rfl rfl ?_
        refine V_icmp_eqT rfl (e) ?_
        rw [e, e2]
        refine V_iload_n rfl rfl ?_
        refine V_iload_n rfl rfl ?_
        refine V_callSi rfl rfl (Or.inl rfl) m_MD_has_w m_MD_has_x rfl rfl (s_mhas _ (by first | omega | assumption)) (by decide) rfl (Nat.le_of_ble_eq_true rfl) ?_
        first | refine V_ifb_eq rfl (fun h63 => ?_) (fun h63 => ?_) | refine V_if_eq rfl (fun h63 => ?_) (fun h63 => ?_)
        · refine V_iconst (v := 0) rfl (by decide) ?_
          refine V_ireturn rfl rfl (by first | rfl | exact b2_nar _ | assumption | decide) ?_
          refine P_ret ?_ rfl
          simp [b2, *]
        · refine V_iconst (v := 1) rfl (by decide) ?_
          refine V_goto rfl ?_
          refine V_ireturn rfl rfl (by first | rfl | exact b2_nar _ | assumption | decide) ?_
          refine P_ret ?_ rfl
          simp [b2, *]
      · refine V_iload_n rfl rfl ?_
        refine V_iload_n rfl rfl ?_
        refine V_icmp_eqF rfl (e) ?_
        refine V_iload_n rfl rfl ?_
        refine V_is3 rfl (by first | rfl | assumption) ?_
        refine V_iconst (v := 0) rfl (by decide) ?_
        refine V_is4 rfl (by first | rfl | assumption) ?_
        refine V_for2 (nB p) (fun i => [.ref md, .int (nI b), .int (orA (rgS p (sc 34) (sc 35) X) i fun x => cnd (bt (rgS p (sc 34) (sc 35) X) x) (clB p (sc 34) (sc 35) x)), .int (rgS p (sc 34) (sc 35) X), .int (nI i)]) (fun _ => h) rfl rfl (fun i hi ih2 => ?_) ?_
        · refine V_iload rfl rfl ?_
          refine V_aload_n rfl rfl ?_
          refine V_getI rfl rfl (by first | assumption | exact blkW_0 | exact bAt_0 (by assumption) | rfl) (by rfl) (by first | exact mp_nB (by first | assumption | exact MP_rcS (by assumption) | exact MP_ar rfl (by assumption) | exact MP_sc rfl (by assumption)) | rfl) ?_
          refine V_icmp_geF rfl (nI_ge hi (by omega)) ?_
          refine V_iload_n rfl rfl ?_
          refine V_iload_n rfl rfl ?_
          refine V_iload rfl rfl ?_
          refine V_callSi rfl rfl (Or.inl rfl) m_MD_has_w m_MD_has_x rfl rfl (s_mhas _ (by first | omega | assumption)) (by decide) rfl (Nat.le_of_ble_eq_true rfl) ?_
          first | refine V_ifb_eq rfl (fun h34 => ?_) (fun h34 => ?_) | refine V_if_eq rfl (fun h34 => ?_) (fun h34 => ?_)
          · refine V_iconst (v := 0) rfl (by decide) ?_
            refine V_ior rfl ?_
            refine V_is2 rfl (by first | rfl | assumption) ?_
            refine V_inc4 rfl (by first | exact mInc _ | exact mDcr _ | rfl) (by first | rfl | assumption) ?_
            refine V_goto rfl ?_
            exact V_wk ih2 (by simp [mWk, orA_s, cnd, *])
          · refine V_aload_n rfl rfl ?_
            refine V_iload rfl rfl ?_
            refine V_callVi rfl rfl m_MD_calledBy_w m_MD_calledBy_x rfl (by decide) rfl (s_clB (by first | assumption | exact blkW_at) (by first | assumption | exact MP_rcS (by assumption) | exact MP_ar rfl (by assumption) | exact MP_sc rfl (by assumption)) _ (by first | omega | assumption)) (by decide) rfl (by first | assumption | exact blkW_0 | exact bAt_0 (by assumption) | rfl) (Nat.le_of_ble_eq_true rfl) ?_
            refine V_goto rfl ?_
            refine V_ior rfl ?_
            refine V_is2 rfl (by first | rfl | assumption) ?_
            refine V_inc4 rfl (by first | exact mInc _ | exact mDcr _ | rfl) (by first | rfl | assumption) ?_
            refine V_goto rfl ?_
            exact V_wk ih2 (by simp [mWk, orA_s, cnd, *])
        · refine V_iload rfl rfl ?_
          refine V_aload_n rfl rfl ?_
          refine V_getI rfl rfl (by first | assumption | exact blkW_0 | exact bAt_0 (by assumption) | rfl) (by rfl) (by first | exact mp_nB (by first | assumption | exact MP_rcS (by assumption) | exact MP_ar rfl (by assumption) | exact MP_sc rfl (by assumption)) | rfl) ?_
          refine V_icmp_geT rfl (nI_le (Nat.le_refl _) (by omega)) ?_
          refine V_goto rfl ?_
          exact ih (rgS p (sc 34) (sc 35) X) _ rfl hx
  unfold rng
  by_cases e0 : clB p (sc 34) (sc 35) b = 0
  · rw [e0, show itF (rgS p (sc 34) (sc 35)) 20 0 = 0 from itF_stay (rg_0 _ _ _) _]
    refine V_iload_n rfl rfl ?_
    refine V_iload_n rfl rfl ?_
    refine V_icmp_eqT rfl (rfl) ?_
    refine V_iload_n rfl rfl ?_
    refine V_iload_n rfl rfl ?_
    refine V_callSi rfl rfl (Or.inl rfl) m_MD_has_w m_MD_has_x rfl rfl (s_mhas _ (by first | omega | assumption)) (by decide) rfl (Nat.le_of_ble_eq_true rfl) ?_
    first | refine V_ifb_eq rfl (fun h63 => ?_) (fun h63 => ?_) | refine V_if_eq rfl (fun h63 => ?_) (fun h63 => ?_)
    · refine V_iconst (v := 0) rfl (by decide) ?_
      refine V_ireturn rfl rfl (by first | rfl | exact b2_nar _ | assumption | decide) ?_
      refine P_ret ?_ rfl
      simp [b2, b_0, *]
    · refine V_iconst (v := 1) rfl (by decide) ?_
      refine V_goto rfl ?_
      refine V_ireturn rfl rfl (by first | rfl | exact b2_nar _ | assumption | decide) ?_
      refine P_ret ?_ rfl
      simp [b2, b_0, *]
  · refine V_iload_n rfl rfl ?_
    refine V_iload_n rfl rfl ?_
    refine V_icmp_eqF rfl (e0) ?_
    refine V_iload_n rfl rfl ?_
    refine V_is3 rfl (by first | rfl | assumption) ?_
    refine V_iconst (v := 0) rfl (by decide) ?_
    refine V_is4 rfl (by first | rfl | assumption) ?_
    refine V_for2 (nB p) (fun i => [.ref md, .int (nI b), .int (orA (clB p (sc 34) (sc 35) b) i fun x => cnd (bt (clB p (sc 34) (sc 35) b) x) (clB p (sc 34) (sc 35) x)), .int (clB p (sc 34) (sc 35) b), .int (nI i)]) (fun _ => h) rfl rfl (fun i hi ih2 => ?_) ?_
    · refine V_iload rfl rfl ?_
      refine V_aload_n rfl rfl ?_
      refine V_getI rfl rfl (by first | assumption | exact blkW_0 | exact bAt_0 (by assumption) | rfl) (by rfl) (by first | exact mp_nB (by first | assumption | exact MP_rcS (by assumption) | exact MP_ar rfl (by assumption) | exact MP_sc rfl (by assumption)) | rfl) ?_
      refine V_icmp_geF rfl (nI_ge hi (by omega)) ?_
      refine V_iload_n rfl rfl ?_
      refine V_iload_n rfl rfl ?_
      refine V_iload rfl rfl ?_
      refine V_callSi rfl rfl (Or.inl rfl) m_MD_has_w m_MD_has_x rfl rfl (s_mhas _ (by first | omega | assumption)) (by decide) rfl (Nat.le_of_ble_eq_true rfl) ?_
      first | refine V_ifb_eq rfl (fun h34 => ?_) (fun h34 => ?_) | refine V_if_eq rfl (fun h34 => ?_) (fun h34 => ?_)
      · refine V_iconst (v := 0) rfl (by decide) ?_
        refine V_ior rfl ?_
        refine V_is2 rfl (by first | rfl | assumption) ?_
        refine V_inc4 rfl (by first | exact mInc _ | exact mDcr _ | rfl) (by first | rfl | assumption) ?_
        refine V_goto rfl ?_
        exact V_wk ih2 (by simp [mWk, orA_s, cnd, *])
      · refine V_aload_n rfl rfl ?_
        refine V_iload rfl rfl ?_
        refine V_callVi rfl rfl m_MD_calledBy_w m_MD_calledBy_x rfl (by decide) rfl (s_clB (by first | assumption | exact blkW_at) (by first | assumption | exact MP_rcS (by assumption) | exact MP_ar rfl (by assumption) | exact MP_sc rfl (by assumption)) _ (by first | omega | assumption)) (by decide) rfl (by first | assumption | exact blkW_0 | exact bAt_0 (by assumption) | rfl) (Nat.le_of_ble_eq_true rfl) ?_
        refine V_goto rfl ?_
        refine V_ior rfl ?_
        refine V_is2 rfl (by first | rfl | assumption) ?_
        refine V_inc4 rfl (by first | exact mInc _ | exact mDcr _ | rfl) (by first | rfl | assumption) ?_
        refine V_goto rfl ?_
        exact V_wk ih2 (by simp [mWk, orA_s, cnd, *])
    · refine V_iload rfl rfl ?_
      refine V_aload_n rfl rfl ?_
      refine V_getI rfl rfl (by first | assumption | exact blkW_0 | exact bAt_0 (by assumption) | rfl) (by rfl) (by first | exact mp_nB (by first | assumption | exact MP_rcS (by assumption) | exact MP_ar rfl (by assumption) | exact MP_sc rfl (by assumption)) | rfl) ?_
      refine V_icmp_geT rfl (nI_le (Nat.le_refl _) (by omega)) ?_
      refine V_goto rfl ?_
      exact key 20 _ _ rfl (rg_fix hm.1 _ _ (sub_clB hB _ _ _))
set_option maxRecDepth 20000 in
set_option maxHeartbeats 1000000 in
theorem s_first (hA : bAt 7 h md sc ar) (hm : MP p sc ar) (S n : Int32) : Mt g 1 m_MD_firstOf [.ref md, .int S, .int n] h sz u (Pi (fst1 p (ar 38) S n) h) sz u := by
  obtain ⟨hT, hB, hS, hC⟩ := hm.1.1
  have hk := fa_first_le (fun x => bt S x && decide (ar 38 x = n)) (nB p)
  have hfe : fst1 p (ar 38) S n = oB (nB p) (fa_first (fun x => bt S x && decide (ar 38 x = n)) (nB p)) := rfl
  refine Mt.of m_MD_firstOf_w m_MD_firstOf_x m_MD_firstOf_c rfl rfl (ls := [.ref md, .int S, .int n, .retAddr 0]) rfl ?_
  refine V_iconst (v := 0) rfl (by decide) ?_
  refine V_is3 rfl (by first | rfl | assumption) ?_
  refine V_for2 (fa_first (fun x => bt S x && decide (ar 38 x = n)) (nB p)) (fun i => [.ref md, .int S, .int n, .int (nI i)]) (fun _ => h) rfl rfl (fun i hi ih => ?_) ?_
  · have hf := fa_first_no (fun x => bt S x && decide (ar 38 x = n)) (nB p) i hi
    have hi2 : i < nB p := by omega
    refine V_iload_n rfl rfl ?_
    refine V_aload_n rfl rfl ?_
    refine V_getI rfl rfl (by first | assumption | exact blkW_0 | exact bAt_0 (by assumption) | rfl) (by rfl) (by first | exact mp_nB (by first | assumption | exact MP_rcS (by assumption) | exact MP_ar rfl (by assumption) | exact MP_sc rfl (by assumption)) | rfl) ?_
    refine V_icmp_geF rfl (nI_ge hi2 (by omega)) ?_
    refine V_iload_n rfl rfl ?_
    refine V_iload_n rfl rfl ?_
    refine V_callSi rfl rfl (Or.inl rfl) m_MD_has_w m_MD_has_x rfl rfl (s_mhas _ (by first | omega | assumption)) (by decide) rfl (Nat.le_of_ble_eq_true rfl) ?_
    first | refine V_ifb_eq rfl (fun h15 => ?_) (fun h15 => ?_) | refine V_if_eq rfl (fun h15 => ?_) (fun h15 => ?_)
    · refine V_inc3 rfl (by first | exact mInc _ | exact mDcr _ | rfl) (by first | rfl | assumption) ?_
      refine V_goto rfl ?_
      exact ih
    · refine V_aload_n rfl rfl ?_
      refine V_getfield rfl rfl (by first | assumption | exact blkW_0 | exact bAt_0 (by assumption) | rfl) (by rfl) ?_
      refine V_iload_n rfl rfl ?_
      refine V_iald rfl (by first | assumption | exact blkW_i rfl rfl | exact blkW_z rfl rfl | exact bAt_i (by assumption) rfl rfl | exact bAt_z (by assumption) rfl rfl | rfl) (by first | with_reducible rfl | exact nI_add 2 _ | exact nI_add 26 _ | exact fa_lit _ | assumption) (by first | omega | assumption | decide) (by first | decide | omega | assumption) (by first | exact mp_isC (by first | assumption | exact MP_rcS (by assumption) | exact MP_ar rfl (by assumption) | exact MP_sc rfl (by assumption)) (by first | omega | assumption) | exact mp_par (by first | assumption | exact MP_rcS (by assumption) | exact MP_ar rfl (by assumption) | exact MP_sc rfl (by assumption)) (by first | omega | assumption) | exact mp_abv (by first | assumption | exact MP_rcS (by assumption) | exact MP_ar rfl (by assumption) | exact MP_sc rfl (by assumption)) (by first | omega | assumption) | exact mp_dep (by first | assumption | exact MP_rcS (by assumption) | exact MP_ar rfl (by assumption) | exact MP_sc rfl (by assumption)) (by first | omega | assumption) | exact mp_bT (by first | assumption | exact MP_rcS (by assumption) | exact MP_ar rfl (by assumption) | exact MP_sc rfl (by assumption)) (by first | omega | assumption) | exact mp_bM (by first | assumption | exact MP_rcS (by assumption) | exact MP_ar rfl (by assumption) | exact MP_sc rfl (by assumption)) (by first | omega | assumption) | exact mp_sK (by first | assumption | exact MP_rcS (by assumption) | exact MP_ar rfl (by assumption) | exact MP_sc rfl (by assumption)) (by first | omega | assumption) | exact mp_sB (by first | assumption | exact MP_rcS (by assumption) | exact MP_ar rfl (by assumption) | exact MP_sc rfl (by assumption)) (by first | omega | assumption) | exact mp_sT (by first | assumption | exact MP_rcS (by assumption) | exact MP_ar rfl (by assumption) | exact MP_sc rfl (by assumption)) (by first | omega | assumption) | exact mp_sM (by first | assumption | exact MP_rcS (by assumption) | exact MP_ar rfl (by assumption) | exact MP_sc rfl (by assumption)) (by first | omega | assumption) | exact mp_cS (by first | assumption | exact MP_rcS (by assumption) | exact MP_ar rfl (by assumption) | exact MP_sc rfl (by assumption)) (by first | omega | assumption) | exact va_g | exact va_n (by decide) | rfl) ?_
      refine V_iload_n rfl rfl ?_
      refine V_icmp_ne rfl (fun h25 => ?_) (fun h25 => ?_)
      · refine V_inc3 rfl (by first | exact mInc _ | exact mDcr _ | rfl) (by first | rfl | assumption) ?_
        refine V_goto rfl ?_
        exact ih
      · refine V_iload_n rfl rfl ?_
        refine V_ireturn rfl rfl (by first | rfl | exact b2_nar _ | assumption | decide) ?_
        exact absurd hf (by simp [*])
  · rw [hfe]
    generalize hK : fa_first (fun x => bt S x && decide (ar 38 x = n)) (nB p) = K at hk
    by_cases hlt : K < nB p
    · have hy := fa_first_yes (fun x => bt S x && decide (ar 38 x = n)) (nB p) (by rw [hK]; exact hlt)
      rw [hK, Bool.and_eq_true, decide_eq_true_eq] at hy
      refine V_iload_n rfl rfl ?_
      refine V_aload_n rfl rfl ?_
      refine V_getI rfl rfl (by first | assumption | exact blkW_0 | exact bAt_0 (by assumption) | rfl) (by rfl) (by first | exact mp_nB (by first | assumption | exact MP_rcS (by assumption) | exact MP_ar rfl (by assumption) | exact MP_sc rfl (by assumption)) | rfl) ?_
      refine V_icmp_geF rfl (nI_ge hlt (by omega)) ?_
      refine V_iload_n rfl rfl ?_
      refine V_iload_n rfl rfl ?_
      refine V_callSi rfl rfl (Or.inl rfl) m_MD_has_w m_MD_has_x rfl rfl (s_mhas _ (by first | omega | assumption)) (by decide) rfl (Nat.le_of_ble_eq_true rfl) ?_
      refine V_if_eqF rfl (b2_ne0.mpr hy.1) ?_
      refine V_aload_n rfl rfl ?_
      refine V_getfield rfl rfl (by first | assumption | exact blkW_0 | exact bAt_0 (by assumption) | rfl) (by rfl) ?_
      refine V_iload_n rfl rfl ?_
      refine V_iald rfl (by first | assumption | exact blkW_i rfl rfl | exact blkW_z rfl rfl | exact bAt_i (by assumption) rfl rfl | exact bAt_z (by assumption) rfl rfl | rfl) (by first | with_reducible rfl | exact nI_add 2 _ | exact nI_add 26 _ | exact fa_lit _ | assumption) (by first | omega | assumption | decide) (by first | decide | omega | assumption) (by first | exact mp_isC (by first | assumption | exact MP_rcS (by assumption) | exact MP_ar rfl (by assumption) | exact MP_sc rfl (by assumption)) (by first | omega | assumption) | exact mp_par (by first | assumption | exact MP_rcS (by assumption) | exact MP_ar rfl (by assumption) | exact MP_sc rfl (by assumption)) (by first | omega | assumption) | exact mp_abv (by first | assumption | exact MP_rcS (by assumption) | exact MP_ar rfl (by assumption) | exact MP_sc rfl (by assumption)) (by first | omega | assumption) | exact mp_dep (by first | assumption | exact MP_rcS (by assumption) | exact MP_ar rfl (by assumption) | exact MP_sc rfl (by assumption)) (by first | omega | assumption) | exact mp_bT (by first | assumption | exact MP_rcS (by assumption) | exact MP_ar rfl (by assumption) | exact MP_sc rfl (by assumption)) (by first | omega | assumption) | exact mp_bM (by first | assumption | exact MP_rcS (by assumption) | exact MP_ar rfl (by assumption) | exact MP_sc rfl (by assumption)) (by first | omega | assumption) | exact mp_sK (by first | assumption | exact MP_rcS (by assumption) | exact MP_ar rfl (by assumption) | exact MP_sc rfl (by assumption)) (by first | omega | assumption) | exact mp_sB (by first | assumption | exact MP_rcS (by assumption) | exact MP_ar rfl (by assumption) | exact MP_sc rfl (by assumption)) (by first | omega | assumption) | exact mp_sT (by first | assumption | exact MP_rcS (by assumption) | exact MP_ar rfl (by assumption) | exact MP_sc rfl (by assumption)) (by first | omega | assumption) | exact mp_sM (by first | assumption | exact MP_rcS (by assumption) | exact MP_ar rfl (by assumption) | exact MP_sc rfl (by assumption)) (by first | omega | assumption) | exact mp_cS (by first | assumption | exact MP_rcS (by assumption) | exact MP_ar rfl (by assumption) | exact MP_sc rfl (by assumption)) (by first | omega | assumption) | exact va_g | exact va_n (by decide) | rfl) ?_
      refine V_iload_n rfl rfl ?_
      refine V_icmp_neF rfl (hy.2) ?_
      refine V_iload_n rfl rfl ?_
      refine V_ireturn rfl rfl (by first | rfl | exact b2_nar _ | assumption | decide) ?_
      exact P_ret (by unfold oB; rw [if_pos hlt]) rfl
    · refine V_iload_n rfl rfl ?_
      refine V_aload_n rfl rfl ?_
      refine V_getI rfl rfl (by first | assumption | exact blkW_0 | exact bAt_0 (by assumption) | rfl) (by rfl) (by first | exact mp_nB (by first | assumption | exact MP_rcS (by assumption) | exact MP_ar rfl (by assumption) | exact MP_sc rfl (by assumption)) | rfl) ?_
      refine V_icmp_geT rfl (nI_le (by omega) (by omega)) ?_
      refine V_iconst (v := (-1)) rfl (by decide) ?_
      refine V_ireturn rfl rfl (by first | rfl | exact b2_nar _ | assumption | decide) ?_
      exact P_ret (by unfold oB; rw [if_neg hlt]) rfl
end mway
