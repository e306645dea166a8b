/-- what else holds of a program's tables -/
def WX (p : Pg) : Prop := (∀ t, t < nT p → bt (abv p t) t = true) ∧ (∀ t, t < nT p → ∀ x, bt (abv p t) x = true → x ≤ t) ∧ (∀ t, t < nT p → ∀ x, bt (abv p t) x = true → le (abv p x) (abv p t)) ∧ (∀ t, t < nT p → ∀ q, q < nT p → par p t = nI q → isC p q = true) ∧ (∀ s, s < nS p → sK p s = 0 → isC p (sT p s) = true) ∧ (∀ t, t < nT p → ∀ q, q < nT p → par p t = nI q → bt (abv p t) q = true)
theorem isOv_iff {p : Pg} {w : Nat} {S : Int32} : ∀ {n : Nat}, isOv p w S n = true ↔ ∃ x, x < n ∧ x ≠ w ∧ bt S x = true ∧ bt (abv p x) w = true
  | 0 => by
    constructor
    · intro h; cases h
    · rintro ⟨x, h, -⟩; omega
  | n + 1 => by
    unfold isOv
    rw [Bool.or_eq_true, isOv_iff (n := n)]
    constructor
    · rintro (⟨x, h1, h2⟩ | h)
      · exact ⟨x, by omega, h2⟩
      · simp only [Bool.and_eq_true, Bool.not_eq_true', beq_eq_false_iff_ne] at h
        exact ⟨n, by omega, h.1.1, h.1.2, h.2⟩
    · rintro ⟨x, h1, h2, h3, h4⟩
      by_cases e : x = n
      · subst e
        exact Or.inr (by simp [h2, h3, h4])
      · exact Or.inl ⟨x, by omega, h2, h3, h4⟩
theorem bI_eq {k : Nat} {S : Int32} (hk : k < 32) (h1 : bt S k = true) (h2 : ∀ x, bt S x = true → x = k) : S = bI k := b_ext fun i hi => by
  rw [bt_bI hk hi]
  cases hb : bt S i
  · by_cases e : i = k
    · subst e; rw [h1] at hb; cases hb
    · rw [decide_eq_false e]
  · rw [decide_eq_true (h2 i hb)]
theorem lowst {p : Pg} {S : Int32} (hT : nT p ≤ 12) (hS : sub (nT p) S) {i : Nat} (hi : i < nT p) (hr : bt (abv p i) i = true) (hb : bt S i = true) : (S &&& setF (nT p) (fun x => bt (abv p x) i) = bI i) ↔ isOv p i S (nT p) = false := by
  have hbs : ∀ x, bt (S &&& setF (nT p) (fun x => bt (abv p x) i)) x = true ↔ bt S x = true ∧ bt (abv p x) i = true := fun x => by
    rw [b_and, Bool.and_eq_true]
    constructor
    · rintro ⟨h1, h2⟩
      exact ⟨h1, ((bt_setF (by omega)).mp h2).2⟩
    · rintro ⟨h1, h2⟩
      exact ⟨h1, (bt_setF (by omega)).mpr ⟨hS x h1, h2⟩⟩
  constructor
  · intro e
    cases ho : isOv p i S (nT p)
    · rfl
    · obtain ⟨x, x1, x2, x3, x4⟩ := isOv_iff.mp ho
      have := (hbs x).mpr ⟨x3, x4⟩
      rw [e, bt_bI (by omega) (by omega), decide_eq_true_eq] at this
      exact absurd this x2
  · intro e
    refine bI_eq (by omega) ((hbs i).mpr ⟨hb, hr⟩) fun x hx => ?_
    obtain ⟨h1, h2⟩ := (hbs x).mp hx
    refine Classical.byContradiction fun q => ?_
    rw [isOv_iff.mpr ⟨x, hS x h1, q, h1, h2⟩] at e
    cases e
theorem bt_hv {p : Pg} {t i : Nat} (hT : nT p ≤ 12) (hi : i < nT p) : bt (abv p t &&& (setF (nT p) (isC p) ^^^ (-1))) i = (!isC p i && bt (abv p t) i) := by
  rw [b_and, b_xor, b_m1 i (by omega), bt_cls hT hi, Bool.xor_true, Bool.and_comm]
theorem leastV_1 {S : Int32} (h : oneB S = true) : leastV S = nI (low S) := by
  unfold leastV
  rw [if_neg fun e => ?_]
  obtain ⟨k, -, hb⟩ := low_lt h
  rw [e, b_0] at hb; cases hb
section plan2
variable {g : mG} {h : mH} {sz u pl : Nat} {p : Pg} {sc : Nat → Int32} {ar : Nat → Nat → Int32}
set_option maxRecDepth 20000 in
set_option maxHeartbeats 1000000 in
theorem s_lui (hA : bAt 3 h pl sc ar) (hq : CQ p sc ar) {t m : Nat} (ht : t < nT p) (hm : m < 6) (hx : WX p) : Mt g 2 m_Plan_lookUpInInterfaces [.ref pl, .int (nI t), .int (nI m)] h sz u (Pi (byF p t m) h) sz u := by
  obtain ⟨hT, hB, hS, hC⟩ := hq.1.1
  refine Mt.of m_Plan_lookUpInInterfaces_w m_Plan_lookUpInInterfaces_x m_Plan_lookUpInInterfaces_c rfl rfl (ls := [.ref pl, .int (nI t), .int (nI m), .retAddr 0, .retAddr 0, .retAddr 0]) rfl ?_
  refine V_iconst (v := 0) rfl (by decide) ?_
  refine V_is3 rfl (by first | rfl | assumption) ?_
  refine V_iconst (v := 0) rfl (by decide) ?_
  refine V_is4 rfl (by first | rfl | assumption) ?_
  refine V_for2 (nT p) (fun i => [.ref pl, .int (nI t), .int (nI m), .int (setF i fun u => !isC p u && bt (abv p t) u && hasB p u m), .int (nI i), .retAddr 0]) (fun _ => h) rfl rfl (fun i hi ih => ?_) ?_
  · refine V_iload rfl rfl ?_
    refine V_aload_n rfl rfl ?_
    refine V_getI rfl rfl (by first | assumption | exact blkW_0 | exact bAt_0 (by assumption) | exact bAt_0 (hA _ _) | rfl) (by rfl) (by first | exact cq_nT (by assumption) | rfl) ?_
    refine V_icmp_geF rfl (nI_ge hi (by omega)) ?_
    refine V_aload_n rfl rfl ?_
    refine V_getfield rfl rfl (by first | assumption | exact blkW_0 | exact bAt_0 (by assumption) | exact bAt_0 (hA _ _) | rfl) (by rfl) ?_
    refine V_iload_n rfl rfl ?_
    refine V_callSi rfl rfl (Or.inr rfl) m_EB_at_w m_EB_at_x rfl rfl (s_atv (by first | assumption | exact blkW_i rfl rfl | exact bAt_i (by assumption) rfl rfl | exact bAt_i (hA _ _) rfl rfl) (by decide) _ (by first | exact (atV_in (by first | omega | assumption) (by decide)).trans (cq_par (by assumption) (by first | omega | assumption)) | exact (atV_in (by first | omega | assumption) (by decide)).trans (cq_abv (by assumption) (by first | omega | assumption)) | exact (atV_in (by first | omega | assumption) (by decide)).trans (cq_bel (by assumption) (by first | omega | assumption)) | exact (atV_in (by first | omega | assumption) (by decide)).trans (cq_dep (by assumption) (by first | omega | assumption)) | exact (atV_in (by first | omega | assumption) (by decide)).trans (cq_bT (by assumption) (by first | omega | assumption)) | exact (atV_in (by first | omega | assumption) (by decide)).trans (cq_bM (by assumption) (by first | omega | assumption)) | exact (atV_in (by first | omega | assumption) (by decide)).trans (cq_sK (by assumption) (by first | omega | assumption)) | exact (atV_in (by first | omega | assumption) (by decide)).trans (cq_sB (by assumption) (by first | omega | assumption)) | exact (atV_in (by first | omega | assumption) (by decide)).trans (cq_sT (by assumption) (by first | omega | assumption)) | exact (atV_in (by first | omega | assumption) (by decide)).trans (cq_sM (by assumption) (by first | omega | assumption)) | exact (atV_in (by first | omega | assumption) (by decide)).trans (cq_cS (by assumption) (by first | omega | assumption)) | exact atV_in (by first | omega | assumption) (by decide) | exact atV_m1 | rfl)) (by decide) rfl (Nat.le_of_ble_eq_true rfl) ?_
    refine V_aload_n rfl rfl ?_
    refine V_getI rfl rfl (by first | assumption | exact blkW_0 | exact bAt_0 (by assumption) | exact bAt_0 (hA _ _) | rfl) (by rfl) (by first | exact cq_cl (by assumption) | rfl) ?_
    refine V_iconst (v := (-1)) rfl (by decide) ?_
    refine V_ixor rfl ?_
    refine V_iand rfl ?_
    refine V_iload rfl rfl ?_
    refine V_callSi rfl rfl (Or.inr rfl) m_EB_has_w m_EB_has_x rfl rfl (s_hasv _ _ (by first | exact hasV_b (by first | omega | assumption) _ | exact hasV_m1 _ | rfl)) (by decide) rfl (Nat.le_of_ble_eq_true rfl) ?_
    rw [bt_hv hT hi]
    have hbm := bodyOf_m1 (p := p) (t := i) (m := m) hB
    cases e1 : (!isC p i && bt (abv p t) i)
    · refine V_if_eqT rfl (rfl) ?_
      refine V_inc4 rfl (by first | exact mInc _ | rfl) (by first | rfl | assumption) ?_
      refine V_goto rfl ?_
      exact V_wk ih (by simp only [mWk, setF_s, e1]; simp [cnd])
    · refine V_if_eqF rfl (by decide) ?_
      refine V_aload_n rfl rfl ?_
      refine V_iload rfl rfl ?_
      refine V_iload_n rfl rfl ?_
      refine V_callVi rfl rfl m_Plan_ownBody_w m_Plan_ownBody_x rfl (by decide) rfl (s_own (by first | assumption | exact hA _ _) (by assumption) (by first | omega | assumption) (by first | omega | assumption)) (by decide) rfl (by first | assumption | exact blkW_0 | exact bAt_0 (by assumption) | exact bAt_0 (hA _ _) | rfl) (Nat.le_of_ble_eq_true rfl) ?_
      refine V_iconst (v := (-1)) rfl (by decide) ?_
      cases e2 : hasB p i m
      · rw [e2] at hbm
        refine V_icmp_eqT rfl (Classical.byContradiction fun z => absurd (hbm.mp z) (by decide)) ?_
        refine V_inc4 rfl (by first | exact mInc _ | rfl) (by first | rfl | assumption) ?_
        refine V_goto rfl ?_
        exact V_wk ih (by simp only [mWk, setF_s, e1, e2]; simp [cnd])
      · rw [e2] at hbm
        refine V_icmp_eqF rfl (hbm.mpr rfl) ?_
        refine V_iload_n rfl rfl ?_
        refine V_iload rfl rfl ?_
        refine V_callSi rfl rfl (Or.inr rfl) m_EB_bit_w m_EB_bit_x rfl rfl (s_bitv _ (by first | exact bitV_b (by first | omega | assumption) | exact bitV_m1 | rfl)) (by decide) rfl (Nat.le_of_ble_eq_true rfl) ?_
        refine V_ior rfl ?_
        refine V_is3 rfl (by first | rfl | assumption) ?_
        refine V_inc4 rfl (by first | exact mInc _ | rfl) (by first | rfl | assumption) ?_
        refine V_goto rfl ?_
        exact V_wk ih (by simp only [mWk, setF_s, e1, e2]; simp [cnd])
  · refine V_iload rfl rfl ?_
    refine V_aload_n rfl rfl ?_
    refine V_getI rfl rfl (by first | assumption | exact blkW_0 | exact bAt_0 (by assumption) | exact bAt_0 (hA _ _) | rfl) (by rfl) (by first | exact cq_nT (by assumption) | rfl) ?_
    refine V_icmp_geT rfl (nI_le (Nat.le_refl _) (by omega)) ?_
    have hhs : sub (nT p) (haveS p t m) := sub_setF (Nat.le_refl _) (by omega)
    refine V_iconst (v := 0) rfl (by decide) ?_
    refine V_is4 rfl (by first | rfl | assumption) ?_
    refine V_iconst (v := 0) rfl (by decide) ?_
    refine V_is5 rfl (by first | rfl | assumption) ?_
    refine V_for2 (nT p) (fun i => [.ref pl, .int (nI t), .int (nI m), .int (haveS p t m), .int (setF i fun u => bt (haveS p t m) u && !isOv p u (haveS p t m) (nT p)), .int (nI i)]) (fun _ => h) rfl rfl (fun i hi ih => ?_) ?_
    · have hl := lowst (S := haveS p t m) hT hhs hi (hx.1 i hi)
      refine V_iload rfl rfl ?_
      refine V_aload_n rfl rfl ?_
      refine V_getI rfl rfl (by first | assumption | exact blkW_0 | exact bAt_0 (by assumption) | exact bAt_0 (hA _ _) | rfl) (by rfl) (by first | exact cq_nT (by assumption) | rfl) ?_
      refine V_icmp_geF rfl (nI_ge hi (by omega)) ?_
      refine V_iload_n rfl rfl ?_
      refine V_iload rfl rfl ?_
      refine V_callSi rfl rfl (Or.inr rfl) m_EB_has_w m_EB_has_x rfl rfl (s_hasv _ _ (by first | exact hasV_b (by first | omega | assumption) _ | exact hasV_m1 _ | rfl)) (by decide) rfl (Nat.le_of_ble_eq_true rfl) ?_
      first | refine V_ifb_eq rfl (fun h83 => ?_) (fun h83 => ?_) | refine V_if_eq rfl (fun h83 => ?_) (fun h83 => ?_)
      · refine V_inc5 rfl (by first | exact mInc _ | rfl) (by first | rfl | assumption) ?_
        refine V_goto rfl ?_
        exact V_wk ih (by simp [mWk, setF_s, cnd, *])
      · refine V_iload_n rfl rfl ?_
        refine V_aload_n rfl rfl ?_
        refine V_getfield rfl rfl (by first | assumption | exact blkW_0 | exact bAt_0 (by assumption) | exact bAt_0 (hA _ _) | rfl) (by rfl) ?_
        refine V_iload rfl rfl ?_
        refine V_callSi rfl rfl (Or.inr rfl) m_EB_at_w m_EB_at_x rfl rfl (s_atv (by first | assumption | exact blkW_i rfl rfl | exact bAt_i (by assumption) rfl rfl | exact bAt_i (hA _ _) rfl rfl) (by decide) _ (by first | exact (atV_in (by first | omega | assumption) (by decide)).trans (cq_par (by assumption) (by first | omega | assumption)) | exact (atV_in (by first | omega | assumption) (by decide)).trans (cq_abv (by assumption) (by first | omega | assumption)) | exact (atV_in (by first | omega | assumption) (by decide)).trans (cq_bel (by assumption) (by first | omega | assumption)) | exact (atV_in (by first | omega | assumption) (by decide)).trans (cq_dep (by assumption) (by first | omega | assumption)) | exact (atV_in (by first | omega | assumption) (by decide)).trans (cq_bT (by assumption) (by first | omega | assumption)) | exact (atV_in (by first | omega | assumption) (by decide)).trans (cq_bM (by assumption) (by first | omega | assumption)) | exact (atV_in (by first | omega | assumption) (by decide)).trans (cq_sK (by assumption) (by first | omega | assumption)) | exact (atV_in (by first | omega | assumption) (by decide)).trans (cq_sB (by assumption) (by first | omega | assumption)) | exact (atV_in (by first | omega | assumption) (by decide)).trans (cq_sT (by assumption) (by first | omega | assumption)) | exact (atV_in (by first | omega | assumption) (by decide)).trans (cq_sM (by assumption) (by first | omega | assumption)) | exact (atV_in (by first | omega | assumption) (by decide)).trans (cq_cS (by assumption) (by first | omega | assumption)) | exact atV_in (by first | omega | assumption) (by decide) | exact atV_m1 | rfl)) (by decide) rfl (Nat.le_of_ble_eq_true rfl) ?_
        refine V_iand rfl ?_
        refine V_iload rfl rfl ?_
        refine V_callSi rfl rfl (Or.inr rfl) m_EB_bit_w m_EB_bit_x rfl rfl (s_bitv _ (by first | exact bitV_b (by first | omega | assumption) | exact bitV_m1 | rfl)) (by decide) rfl (Nat.le_of_ble_eq_true rfl) ?_
        refine V_icmp_ne rfl (fun h102 => ?_) (fun h102 => ?_)
        · (try rw [hl (by assumption)] at h102)
          refine V_inc5 rfl (by first | exact mInc _ | rfl) (by first | rfl | assumption) ?_
          refine V_goto rfl ?_
          exact V_wk ih (by simp [mWk, setF_s, cnd, *])
        · (try rw [hl (by assumption)] at h102)
          refine V_iload rfl rfl ?_
          refine V_iload rfl rfl ?_
          refine V_callSi rfl rfl (Or.inr rfl) m_EB_bit_w m_EB_bit_x rfl rfl (s_bitv _ (by first | exact bitV_b (by first | omega | assumption) | exact bitV_m1 | rfl)) (by decide) rfl (Nat.le_of_ble_eq_true rfl) ?_
          refine V_ior rfl ?_
          refine V_is4 rfl (by first | rfl | assumption) ?_
          refine V_inc5 rfl (by first | exact mInc _ | rfl) (by first | rfl | assumption) ?_
          refine V_goto rfl ?_
          exact V_wk ih (by simp [mWk, setF_s, cnd, *])
    · refine V_iload rfl rfl ?_
      refine V_aload_n rfl rfl ?_
      refine V_getI rfl rfl (by first | assumption | exact blkW_0 | exact bAt_0 (by assumption) | exact bAt_0 (hA _ _) | rfl) (by rfl) (by first | exact cq_nT (by assumption) | rfl) ?_
      refine V_icmp_geT rfl (nI_le (Nat.le_refl _) (by omega)) ?_
      show V g _ m_Plan_lookUpInInterfaces _ _ _ 121 [.ref pl, .int (nI t), .int (nI m), .int (haveS p t m), .int (leftS p t m), .int (nI (nT p))] [] h sz u
      have hbe : byF p t m = if oneB (leftS p t m) then bodyOf p (low (leftS p t m)) m else -1 := rfl
      have hls : sub (nT p) (leftS p t m) := sub_setF (Nat.le_refl _) (by omega)
      refine V_iload rfl rfl ?_
      refine V_callSi rfl rfl (Or.inl rfl) m_Int_bitCount_w m_Int_bitCount_x rfl rfl (s_bc _) (by decide) rfl (Nat.le_of_ble_eq_true rfl) ?_
      refine V_iconst (v := 1) rfl (by decide) ?_
      by_cases ho : oneB (leftS p t m) = true
      · rw [if_pos ho] at hbe
        have hx2 := low_in (low_lt ho)
        have hx3 := hls _ hx2.2
        refine V_icmp_neF rfl ((pcV_1 _).mpr ho) ?_
        refine V_aload_n rfl rfl ?_
        refine V_iload rfl rfl ?_
        refine V_callSi rfl rfl (Or.inr rfl) m_EB_least_w m_EB_least_x rfl rfl (s_least _) (by decide) rfl (Nat.le_of_ble_eq_true rfl) ?_
        rw [leastV_1 ho]
        refine V_iload_n rfl rfl ?_
        refine V_callVi rfl rfl m_Plan_ownBody_w m_Plan_ownBody_x rfl (by decide) rfl (s_own (by first | assumption | exact hA _ _) (by assumption) (by first | omega | assumption) (by first | omega | assumption)) (by decide) rfl (by first | assumption | exact blkW_0 | exact bAt_0 (by assumption) | exact bAt_0 (hA _ _) | rfl) (Nat.le_of_ble_eq_true rfl) ?_
        refine V_goto rfl ?_
        refine V_ireturn rfl rfl (by first | rfl | exact b2_nar _ | assumption | decide) ?_
        exact P_ret hbe.symm rfl
      · rw [if_neg ho] at hbe
        refine V_icmp_neT rfl (fun z => ho ((pcV_1 _).mp z)) ?_
        refine V_iconst (v := (-1)) rfl (by decide) ?_
        refine V_ireturn rfl rfl (by first | rfl | exact b2_nar _ | assumption | decide) ?_
        exact P_ret hbe.symm rfl
set_option maxRecDepth 20000 in
set_option maxHeartbeats 1000000 in
theorem s_lku (hA : bAt 3 h pl sc ar) (hq : CQ p sc ar) {t m : Nat} (ht : t < nT p) (hm : m < 6) (hx : WX p) (y : Int32) (hy : y = -1 ∨ ∃ q, q < nT p ∧ y = nI q) : Mt g 3 m_Plan_lookUp [.ref pl, .int (nI t), .int y, .int (nI m)] h sz u (Pi (fndU p t m 12 y) h) sz u := by
  obtain ⟨hT, hB, hS, hC⟩ := hq.1.1
  refine Mt.of m_Plan_lookUp_w m_Plan_lookUp_x m_Plan_lookUp_c rfl rfl (ls := [.ref pl, .int (nI t), .int y, .int (nI m), .retAddr 0, .retAddr 0]) rfl ?_
  refine V_iload_n rfl rfl ?_
  refine V_is4 rfl (by first | rfl | assumption) ?_
  refine V_iconst (v := 0) rfl (by decide) ?_
  refine V_is5 rfl (by first | rfl | assumption) ?_
  have key : ∀ (k : Nat) (x : Int32), k ≤ 12 → (x = -1 ∨ ∃ q, q < k ∧ q < nT p ∧ x = nI q) → V g 3 m_Plan_lookUp (Pi (fndU p t m k x) h) sz u 6 [.ref pl, .int (nI t), .int y, .int (nI m), .int x, .int (nI (12 - k))] [] h sz u := by
    intro k
    induction k with
    | zero =>
      intro x hk hx
      have e : x = -1 := by
        rcases hx with e | ⟨q, h1, -⟩
        · exact e
        · omega
      subst e
      refine V_iload rfl rfl ?_
      refine V_bipush (v := 12) rfl (by decide) ?_
      refine V_icmp_geT rfl (by decide) ?_
      refine V_aload_n rfl rfl ?_
      refine V_iload_n rfl rfl ?_
      refine V_iload_n rfl rfl ?_
      refine V_callVi rfl rfl m_Plan_lookUpInInterfaces_w m_Plan_lookUpInInterfaces_x rfl (by decide) rfl (s_lui (by first | assumption | exact hA _ _) (by assumption) (by first | omega | assumption) (by first | omega | assumption) (by assumption)) (by decide) rfl (by first | assumption | exact blkW_0 | exact bAt_0 (by assumption) | exact bAt_0 (hA _ _) | rfl) (Nat.le_of_ble_eq_true rfl) ?_
      refine V_ireturn rfl rfl (by first | rfl | exact b2_nar _ | assumption | decide) ?_
      exact P_ret rfl rfl
    | succ k ih =>
      intro x hk hx
      refine V_iload rfl rfl ?_
      refine V_bipush (v := 12) rfl (by decide) ?_
      refine V_icmp_geF rfl (nI_ge (b := 12) (show 12 - (k + 1) < 12 by omega) (by decide)) ?_
      rcases hx with e | ⟨q, h1, h2, e⟩
      · subst e
        refine V_iload rfl rfl ?_
        refine V_iconst (v := (-1)) rfl (by decide) ?_
        refine V_icmp_eqT rfl (rfl) ?_
        refine V_aload_n rfl rfl ?_
        refine V_iload_n rfl rfl ?_
        refine V_iload_n rfl rfl ?_
        refine V_callVi rfl rfl m_Plan_lookUpInInterfaces_w m_Plan_lookUpInInterfaces_x rfl (by decide) rfl (s_lui (by first | assumption | exact hA _ _) (by assumption) (by first | omega | assumption) (by first | omega | assumption) (by assumption)) (by decide) rfl (by first | assumption | exact blkW_0 | exact bAt_0 (by assumption) | exact bAt_0 (hA _ _) | rfl) (Nat.le_of_ble_eq_true rfl) ?_
        refine V_ireturn rfl rfl (by first | rfl | exact b2_nar _ | assumption | decide) ?_
        exact P_ret rfl rfl
      · subst e
        have hb := bodyOf_m1 (p := p) (t := q) (m := m) hB
        have e1 : fndU p t m (k + 1) (nI q) = if hasB p q m then bodyOf p q m else fndU p t m k (par p q) := by
          show (if nI q < 0 then _ else _) = _
          rw [if_neg (nI_pos (by omega)), nI_clamp (by omega)]
        refine V_iload rfl rfl ?_
        refine V_iconst (v := (-1)) rfl (by decide) ?_
        refine V_icmp_eqF rfl (nI_m1 (by omega)) ?_
        refine V_aload_n rfl rfl ?_
        refine V_iload rfl rfl ?_
        refine V_iload_n rfl rfl ?_
        refine V_callVi rfl rfl m_Plan_ownBody_w m_Plan_ownBody_x rfl (by decide) rfl (s_own (by first | assumption | exact hA _ _) (by assumption) (by first | omega | assumption) (by first | omega | assumption)) (by decide) rfl (by first | assumption | exact blkW_0 | exact bAt_0 (by assumption) | exact bAt_0 (hA _ _) | rfl) (Nat.le_of_ble_eq_true rfl) ?_
        refine V_iconst (v := (-1)) rfl (by decide) ?_
        cases ho : hasB p q m
        · rw [ho] at e1 hb
          refine V_icmp_eqT rfl (Classical.byContradiction fun z => absurd (hb.mp z) (by decide)) ?_
          refine V_aload_n rfl rfl ?_
          refine V_getfield rfl rfl (by first | assumption | exact blkW_0 | exact bAt_0 (by assumption) | exact bAt_0 (hA _ _) | rfl) (by rfl) ?_
          refine V_iload rfl rfl ?_
          refine V_callSi rfl rfl (Or.inr rfl) m_EB_at_w m_EB_at_x rfl rfl (s_atv (by first | assumption | exact blkW_i rfl rfl | exact bAt_i (by assumption) rfl rfl | exact bAt_i (hA _ _) rfl rfl) (by decide) _ (by first | exact (atV_in (by first | omega | assumption) (by decide)).trans (cq_par (by assumption) (by first | omega | assumption)) | exact (atV_in (by first | omega | assumption) (by decide)).trans (cq_abv (by assumption) (by first | omega | assumption)) | exact (atV_in (by first | omega | assumption) (by decide)).trans (cq_bel (by assumption) (by first | omega | assumption)) | exact (atV_in (by first | omega | assumption) (by decide)).trans (cq_dep (by assumption) (by first | omega | assumption)) | exact (atV_in (by first | omega | assumption) (by decide)).trans (cq_bT (by assumption) (by first | omega | assumption)) | exact (atV_in (by first | omega | assumption) (by decide)).trans (cq_bM (by assumption) (by first | omega | assumption)) | exact (atV_in (by first | omega | assumption) (by decide)).trans (cq_sK (by assumption) (by first | omega | assumption)) | exact (atV_in (by first | omega | assumption) (by decide)).trans (cq_sB (by assumption) (by first | omega | assumption)) | exact (atV_in (by first | omega | assumption) (by decide)).trans (cq_sT (by assumption) (by first | omega | assumption)) | exact (atV_in (by first | omega | assumption) (by decide)).trans (cq_sM (by assumption) (by first | omega | assumption)) | exact (atV_in (by first | omega | assumption) (by decide)).trans (cq_cS (by assumption) (by first | omega | assumption)) | exact atV_in (by first | omega | assumption) (by decide) | exact atV_m1 | rfl)) (by decide) rfl (Nat.le_of_ble_eq_true rfl) ?_
          refine V_is4 rfl (by first | rfl | assumption) ?_
          refine V_inc5 rfl (by first | exact mInc _ | rfl) (by first | rfl | assumption) ?_
          rw [show 12 - (k + 1) + 1 = 12 - k by omega]
          refine V_goto rfl ?_
          rw [e1]
          refine ih (par p q) (by omega) ?_
          rcases par_nI hq.1 h2 with e | ⟨r, r1, r2, r3⟩
          · exact Or.inl e
          · exact Or.inr ⟨r, by omega, r2, r3⟩
        · rw [ho] at e1 hb
          refine V_icmp_eqF rfl (hb.mpr rfl) ?_
          refine V_aload_n rfl rfl ?_
          refine V_iload rfl rfl ?_
          refine V_iload_n rfl rfl ?_
          refine V_callVi rfl rfl m_Plan_ownBody_w m_Plan_ownBody_x rfl (by decide) rfl (s_own (by first | assumption | exact hA _ _) (by assumption) (by first | omega | assumption) (by first | omega | assumption)) (by decide) rfl (by first | assumption | exact blkW_0 | exact bAt_0 (by assumption) | exact bAt_0 (hA _ _) | rfl) (Nat.le_of_ble_eq_true rfl) ?_
          refine V_ireturn rfl rfl (by first | rfl | exact b2_nar _ | assumption | decide) ?_
          exact P_ret e1.symm rfl
  refine key 12 y (by omega) ?_
  rcases hy with e | ⟨q, h1, h2⟩
  · exact Or.inl e
  · exact Or.inr ⟨q, by omega, h1, h2⟩
set_option maxRecDepth 20000 in
set_option maxHeartbeats 1000000 in
theorem s_fOv (hA : bAt 3 h pl sc ar) (hq : CQ p sc ar) (hx : WX p) {b : Nat} (hb : b < nB p) : Mt g 4 m_Plan_foundOver [.ref pl, .int (nI b)] h sz u (Pi (ovr p b) h) sz u := by
  obtain ⟨hT, hB, hS, hC⟩ := hq.1.1
  have hw := hq.1.2.2.1 b hb
  have hy : par p (bT p b) = -1 ∨ ∃ q, q < nT p ∧ par p (bT p b) = nI q := by
    rcases par_nI hq.1 hw.1 with e | ⟨q, q1, q2, q3⟩
    · exact Or.inl e
    · exact Or.inr ⟨q, q2, q3⟩
  refine Mt.of m_Plan_foundOver_w m_Plan_foundOver_x m_Plan_foundOver_c rfl rfl (ls := [.ref pl, .int (nI b), .retAddr 0]) rfl ?_
  refine V_aload_n rfl rfl ?_
  refine V_getfield rfl rfl (by first | assumption | exact blkW_0 | exact bAt_0 (by assumption) | exact bAt_0 (hA _ _) | rfl) (by rfl) ?_
  refine V_iload_n rfl rfl ?_
  refine V_callSi rfl rfl (Or.inr rfl) m_EB_at_w m_EB_at_x rfl rfl (s_atv (by first | assumption | exact blkW_i rfl rfl | exact bAt_i (by assumption) rfl rfl | exact bAt_i (hA _ _) rfl rfl) (by decide) _ (by first | exact (atV_in (by first | omega | assumption) (by decide)).trans (cq_par (by assumption) (by first | omega | assumption)) | exact (atV_in (by first | omega | assumption) (by decide)).trans (cq_abv (by assumption) (by first | omega | assumption)) | exact (atV_in (by first | omega | assumption) (by decide)).trans (cq_bel (by assumption) (by first | omega | assumption)) | exact (atV_in (by first | omega | assumption) (by decide)).trans (cq_dep (by assumption) (by first | omega | assumption)) | exact (atV_in (by first | omega | assumption) (by decide)).trans (cq_bT (by assumption) (by first | omega | assumption)) | exact (atV_in (by first | omega | assumption) (by decide)).trans (cq_bM (by assumption) (by first | omega | assumption)) | exact (atV_in (by first | omega | assumption) (by decide)).trans (cq_sK (by assumption) (by first | omega | assumption)) | exact (atV_in (by first | omega | assumption) (by decide)).trans (cq_sB (by assumption) (by first | omega | assumption)) | exact (atV_in (by first | omega | assumption) (by decide)).trans (cq_sT (by assumption) (by first | omega | assumption)) | exact (atV_in (by first | omega | assumption) (by decide)).trans (cq_sM (by assumption) (by first | omega | assumption)) | exact (atV_in (by first | omega | assumption) (by decide)).trans (cq_cS (by assumption) (by first | omega | assumption)) | exact atV_in (by first | omega | assumption) (by decide) | exact atV_m1 | rfl)) (by decide) rfl (Nat.le_of_ble_eq_true rfl) ?_
  refine V_is2 rfl (by first | rfl | assumption) ?_
  refine V_aload_n rfl rfl ?_
  refine V_iload_n rfl rfl ?_
  refine V_callVi rfl rfl m_Plan_isClass_w m_Plan_isClass_x rfl (by decide) rfl (s_isCl (by first | assumption | exact hA _ _) (by assumption) (by first | omega | assumption)) (by decide) rfl (by first | assumption | exact blkW_0 | exact bAt_0 (by assumption) | exact bAt_0 (hA _ _) | rfl) (Nat.le_of_ble_eq_true rfl) ?_
  first | refine V_ifb_eq rfl (fun h14 => ?_) (fun h14 => ?_) | refine V_if_eq rfl (fun h14 => ?_) (fun h14 => ?_)
  · refine V_iconst (v := (-1)) rfl (by decide) ?_
    refine V_ireturn rfl rfl (by first | rfl | exact b2_nar _ | assumption | decide) ?_
    refine P_ret ?_ rfl
    simp [ovr, *]
  · refine V_aload_n rfl rfl ?_
    refine V_iload_n rfl rfl ?_
    refine V_aload_n rfl rfl ?_
    refine V_getfield rfl rfl (by first | assumption | exact blkW_0 | exact bAt_0 (by assumption) | exact bAt_0 (hA _ _) | rfl) (by rfl) ?_
    refine V_iload_n rfl rfl ?_
    refine V_callSi rfl rfl (Or.inr rfl) m_EB_at_w m_EB_at_x rfl rfl (s_atv (by first | assumption | exact blkW_i rfl rfl | exact bAt_i (by assumption) rfl rfl | exact bAt_i (hA _ _) rfl rfl) (by decide) _ (by first | exact (atV_in (by first | omega | assumption) (by decide)).trans (cq_par (by assumption) (by first | omega | assumption)) | exact (atV_in (by first | omega | assumption) (by decide)).trans (cq_abv (by assumption) (by first | omega | assumption)) | exact (atV_in (by first | omega | assumption) (by decide)).trans (cq_bel (by assumption) (by first | omega | assumption)) | exact (atV_in (by first | omega | assumption) (by decide)).trans (cq_dep (by assumption) (by first | omega | assumption)) | exact (atV_in (by first | omega | assumption) (by decide)).trans (cq_bT (by assumption) (by first | omega | assumption)) | exact (atV_in (by first | omega | assumption) (by decide)).trans (cq_bM (by assumption) (by first | omega | assumption)) | exact (atV_in (by first | omega | assumption) (by decide)).trans (cq_sK (by assumption) (by first | omega | assumption)) | exact (atV_in (by first | omega | assumption) (by decide)).trans (cq_sB (by assumption) (by first | omega | assumption)) | exact (atV_in (by first | omega | assumption) (by decide)).trans (cq_sT (by assumption) (by first | omega | assumption)) | exact (atV_in (by first | omega | assumption) (by decide)).trans (cq_sM (by assumption) (by first | omega | assumption)) | exact (atV_in (by first | omega | assumption) (by decide)).trans (cq_cS (by assumption) (by first | omega | assumption)) | exact atV_in (by first | omega | assumption) (by decide) | exact atV_m1 | rfl)) (by decide) rfl (Nat.le_of_ble_eq_true rfl) ?_
    refine V_aload_n rfl rfl ?_
    refine V_getfield rfl rfl (by first | assumption | exact blkW_0 | exact bAt_0 (by assumption) | exact bAt_0 (hA _ _) | rfl) (by rfl) ?_
    refine V_iload_n rfl rfl ?_
    refine V_callSi rfl rfl (Or.inr rfl) m_EB_at_w m_EB_at_x rfl rfl (s_atv (by first | assumption | exact blkW_i rfl rfl | exact bAt_i (by assumption) rfl rfl | exact bAt_i (hA _ _) rfl rfl) (by decide) _ (by first | exact (atV_in (by first | omega | assumption) (by decide)).trans (cq_par (by assumption) (by first | omega | assumption)) | exact (atV_in (by first | omega | assumption) (by decide)).trans (cq_abv (by assumption) (by first | omega | assumption)) | exact (atV_in (by first | omega | assumption) (by decide)).trans (cq_bel (by assumption) (by first | omega | assumption)) | exact (atV_in (by first | omega | assumption) (by decide)).trans (cq_dep (by assumption) (by first | omega | assumption)) | exact (atV_in (by first | omega | assumption) (by decide)).trans (cq_bT (by assumption) (by first | omega | assumption)) | exact (atV_in (by first | omega | assumption) (by decide)).trans (cq_bM (by assumption) (by first | omega | assumption)) | exact (atV_in (by first | omega | assumption) (by decide)).trans (cq_sK (by assumption) (by first | omega | assumption)) | exact (atV_in (by first | omega | assumption) (by decide)).trans (cq_sB (by assumption) (by first | omega | assumption)) | exact (atV_in (by first | omega | assumption) (by decide)).trans (cq_sT (by assumption) (by first | omega | assumption)) | exact (atV_in (by first | omega | assumption) (by decide)).trans (cq_sM (by assumption) (by first | omega | assumption)) | exact (atV_in (by first | omega | assumption) (by decide)).trans (cq_cS (by assumption) (by first | omega | assumption)) | exact atV_in (by first | omega | assumption) (by decide) | exact atV_m1 | rfl)) (by decide) rfl (Nat.le_of_ble_eq_true rfl) ?_
    refine V_callVi rfl rfl m_Plan_lookUp_w m_Plan_lookUp_x rfl (by decide) rfl (s_lku (by first | assumption | exact hA _ _) (by assumption) (by first | omega | assumption) (by first | omega | assumption) (by assumption) _ (by assumption)) (by decide) rfl (by first | assumption | exact blkW_0 | exact bAt_0 (by assumption) | exact bAt_0 (hA _ _) | rfl) (Nat.le_of_ble_eq_true rfl) ?_
    refine V_goto rfl ?_
    refine V_ireturn rfl rfl (by first | rfl | exact b2_nar _ | assumption | decide) ?_
    refine P_ret ?_ rfl
    simp [ovr, *]
end plan2
theorem orF_bI {n q : Nat} {f : Nat → Int32} (hq : q < n) (hn : n ≤ 32) : orF n (fun c => cnd (bt (bI q) c) (f c)) = f q := b_ext2 fun i hi => by
  rw [bt_orF]
  constructor
  · rintro ⟨k, h1, h2⟩
    rw [bt_cnd, Bool.and_eq_true, bt_bI (by omega) (by omega), decide_eq_true_eq] at h2
    rw [h2.1] at h2
    exact h2.2
  · intro hb
    exact ⟨q, hq, by rw [bt_cnd, bt_bI (by omega) (by omega), hb]; simp⟩
theorem orF_z {n : Nat} {f : Nat → Int32} : orF n (fun c => cnd (bt 0 c) (f c)) = 0 := b_ext2 fun i hi => by
  rw [bt_orF, b_0]
  constructor
  · rintro ⟨k, h1, h2⟩
    rw [bt_cnd, b_0] at h2; cases h2
  · intro h; cases h
/-- what is called for the classes of R -/
def rcv (p : Pg) (R : Int32) (m : Nat) : Int32 := orF (nT p) fun c => cnd (bt R c) (bitB (fnd p c m))
theorem bitV_is {p : Pg} {v : Int32} (hB : nB p ≤ 20) (h : v = -1 ∨ ∃ b, b < nB p ∧ v = nI b) : bitV v = bitB v := by
  rcases h with rfl | ⟨b, hb, rfl⟩
  · rw [bitV_m1, bitB_m1]
  · rw [bitV_b (by omega), bitB_nI (by omega)]
section plan3
variable {g : mG} {h : mH} {sz u pl : Nat} {p : Pg} {sc : Nat → Int32} {ar : Nat → Nat → Int32}
set_option maxRecDepth 20000 in
set_option maxHeartbeats 1000000 in
theorem e_ccB (hA : bAt 3 h pl sc ar) (hp : CP p sc ar) {s : Nat} {S : Int32} {x3 x4 x6 : Int32} (R : Int32) (m : Nat) (hm : R = 0 ∨ m < 6 ∧ x6 = nI m) (hR : ∀ c, c < nT p → bt R c = true → isC p c = true) : V g 1 m_Plan_calledBy (Pi (rcv p R m) h) sz u 70 [.ref pl, .int (nI s), .int S, .int x3, .int x4, .int R, .int x6, .retAddr 0, .retAddr 0] [] h sz u := by
  have hq := hp.1
  obtain ⟨hT, hB, hS, hC⟩ := hq.1.1
  refine V_iconst (v := 0) rfl (by decide) ?_
  refine V_is7 rfl (by first | rfl | assumption) ?_
  refine V_iconst (v := 0) rfl (by decide) ?_
  refine V_is8 rfl (by first | rfl | assumption) ?_
  by_cases e : R = 0
  · have hz : rcv p R m = 0 := by unfold rcv; rw [e, orF_z]
    refine V_iload rfl rfl ?_
    refine V_aload_n rfl rfl ?_
    refine V_getI rfl rfl (by first | assumption | exact blkW_0 | exact bAt_0 (by assumption) | exact bAt_0 (hA _ _) | rfl) (by rfl) (by first | exact cq_nT (by assumption) | rfl) ?_
    refine V_icmp_ge rfl (fun h82 => ?_) (fun h82 => ?_)
    · refine V_iload rfl rfl ?_
      refine V_ireturn rfl rfl (by first | rfl | exact b2_nar _ | assumption | decide) ?_
      exact P_ret hz.symm rfl
    · refine V_iload rfl rfl ?_
      refine V_if_eqT rfl (e) ?_
      refine V_iload rfl rfl ?_
      refine V_ireturn rfl rfl (by first | rfl | exact b2_nar _ | assumption | decide) ?_
      exact P_ret hz.symm rfl
  · obtain ⟨hm6, rfl⟩ := hm.resolve_left e
    refine V_for2 (nT p) (fun i => [.ref pl, .int (nI s), .int S, .int x3, .int x4, .int R, .int (nI m), .int (orF i fun c => cnd (bt R c) (bitB (fnd p c m))), .int (nI i)]) (fun _ => h) rfl rfl (fun i hi ih => ?_) ?_
    · refine V_iload rfl rfl ?_
      refine V_aload_n rfl rfl ?_
      refine V_getI rfl rfl (by first | assumption | exact blkW_0 | exact bAt_0 (by assumption) | exact bAt_0 (hA _ _) | rfl) (by rfl) (by first | exact cq_nT (by assumption) | rfl) ?_
      refine V_icmp_geF rfl (nI_ge hi (by omega)) ?_
      refine V_iload rfl rfl ?_
      refine V_if_eqF rfl (e) ?_
      refine V_iload rfl rfl ?_
      refine V_iload rfl rfl ?_
      refine V_callSi rfl rfl (Or.inr rfl) m_EB_has_w m_EB_has_x rfl rfl (s_hasv _ _ (by first | exact hasV_b (by first | omega | assumption) _ | exact hasV_m1 _ | rfl)) (by decide) rfl (Nat.le_of_ble_eq_true rfl) ?_
      cases hb : bt R i
      · refine V_if_eqT rfl (rfl) ?_
        refine V_inc8 rfl (by first | exact mInc _ | rfl) (by first | rfl | assumption) ?_
        refine V_goto rfl ?_
        exact V_wk ih (by simp only [orF_s]; simp [mWk, cnd, hb])
      · have hf := hp.2 i hi (hR i hi hb) m hm6
        have hfi := fndU_is p i m 12 (nI i)
        refine V_if_eqF rfl (by decide) ?_
        refine V_iload rfl rfl ?_
        refine V_aload_n rfl rfl ?_
        refine V_getfield rfl rfl (by first | assumption | exact blkW_0 | exact bAt_0 (by assumption) | exact bAt_0 (hA _ _) | rfl) (by rfl) ?_
        refine V_iload rfl rfl ?_
        refine V_iload rfl rfl ?_
        refine V_callSi rfl rfl (Or.inl rfl) m_Plan_key_w m_Plan_key_x rfl rfl (s_keyv _ _ (by first | exact keyV_in (by first | omega | assumption) (by first | omega | assumption) | rfl)) (by decide) rfl (Nat.le_of_ble_eq_true rfl) ?_
        refine V_callSi rfl rfl (Or.inr rfl) m_EB_at_w m_EB_at_x rfl rfl (s_atv (bAt_i hA rfl rfl) (by decide) _ ((atV_in (by omega) (by decide)).trans hf)) (by decide) rfl (Nat.le_of_ble_eq_true rfl) ?_
        refine V_callSi rfl rfl (Or.inr rfl) m_EB_bit_w m_EB_bit_x rfl rfl (s_bitv _ (bitV_is hB hfi)) (by decide) rfl (Nat.le_of_ble_eq_true rfl) ?_
        refine V_ior rfl ?_
        refine V_is7 rfl (by first | rfl | assumption) ?_
        refine V_inc8 rfl (by first | exact mInc _ | rfl) (by first | rfl | assumption) ?_
        refine V_goto rfl ?_
        exact V_wk ih (by simp only [orF_s]; simp [mWk, cnd, hb, fnd])
    · refine V_iload rfl rfl ?_
      refine V_aload_n rfl rfl ?_
      refine V_getI rfl rfl (by first | assumption | exact blkW_0 | exact bAt_0 (by assumption) | exact bAt_0 (hA _ _) | rfl) (by rfl) (by first | exact cq_nT (by assumption) | rfl) ?_
      refine V_icmp_geT rfl (nI_le (Nat.le_refl _) (by omega)) ?_
      refine V_iload rfl rfl ?_
      refine V_ireturn rfl rfl (by first | rfl | exact b2_nar _ | assumption | decide) ?_
      exact P_ret rfl rfl
set_option maxRecDepth 20000 in
set_option maxHeartbeats 1000000 in
theorem s_ccB (hA : bAt 3 h pl sc ar) (hp : CP p sc ar) (hx : WX p) {s : Nat} (hs : s < nS p) (S : Int32) : Mt g 1 m_Plan_calledBy [.ref pl, .int (nI s), .int S] h sz u (Pi (dnB p s S) h) sz u := by
  have hq := hp.1
  obtain ⟨hT, hB, hS, hC⟩ := hq.1.1
  have hw := hq.1.2.2.2.1 s hs
  have hw2 := hq.1.2.2.1 (sB p s) hw.2.1
  refine Mt.of m_Plan_calledBy_w m_Plan_calledBy_x m_Plan_calledBy_c rfl rfl (ls := [.ref pl, .int (nI s), .int S, .retAddr 0, .retAddr 0, .retAddr 0, .retAddr 0, .retAddr 0, .retAddr 0]) rfl ?_
  refine V_aload_n rfl rfl ?_
  refine V_getfield rfl rfl (by first | assumption | exact blkW_0 | exact bAt_0 (by assumption) | exact bAt_0 (hA _ _) | rfl) (by rfl) ?_
  refine V_iload_n rfl rfl ?_
  refine V_callSi rfl rfl (Or.inr rfl) m_EB_at_w m_EB_at_x rfl rfl (s_atv (by first | assumption | exact blkW_i rfl rfl | exact bAt_i (by assumption) rfl rfl | exact bAt_i (hA _ _) rfl rfl) (by decide) _ (by first | exact (atV_in (by first | omega | assumption) (by decide)).trans (cq_par (by assumption) (by first | omega | assumption)) | exact (atV_in (by first | omega | assumption) (by decide)).trans (cq_abv (by assumption) (by first | omega | assumption)) | exact (atV_in (by first | omega | assumption) (by decide)).trans (cq_bel (by assumption) (by first | omega | assumption)) | exact (atV_in (by first | omega | assumption) (by decide)).trans (cq_dep (by assumption) (by first | omega | assumption)) | exact (atV_in (by first | omega | assumption) (by decide)).trans (cq_bT (by assumption) (by first | omega | assumption)) | exact (atV_in (by first | omega | assumption) (by decide)).trans (cq_bM (by assumption) (by first | omega | assumption)) | exact (atV_in (by first | omega | assumption) (by decide)).trans (cq_sK (by assumption) (by first | omega | assumption)) | exact (atV_in (by first | omega | assumption) (by decide)).trans (cq_sB (by assumption) (by first | omega | assumption)) | exact (atV_in (by first | omega | assumption) (by decide)).trans (cq_sT (by assumption) (by first | omega | assumption)) | exact (atV_in (by first | omega | assumption) (by decide)).trans (cq_sM (by assumption) (by first | omega | assumption)) | exact (atV_in (by first | omega | assumption) (by decide)).trans (cq_cS (by assumption) (by first | omega | assumption)) | exact atV_in (by first | omega | assumption) (by decide) | exact atV_m1 | rfl)) (by decide) rfl (Nat.le_of_ble_eq_true rfl) ?_
  refine V_is3 rfl (by first | rfl | assumption) ?_
  refine V_aload_n rfl rfl ?_
  refine V_getfield rfl rfl (by first | assumption | exact blkW_0 | exact bAt_0 (by assumption) | exact bAt_0 (hA _ _) | rfl) (by rfl) ?_
  refine V_iload_n rfl rfl ?_
  refine V_callSi rfl rfl (Or.inr rfl) m_EB_at_w m_EB_at_x rfl rfl (s_atv (by first | assumption | exact blkW_i rfl rfl | exact bAt_i (by assumption) rfl rfl | exact bAt_i (hA _ _) rfl rfl) (by decide) _ (by first | exact (atV_in (by first | omega | assumption) (by decide)).trans (cq_par (by assumption) (by first | omega | assumption)) | exact (atV_in (by first | omega | assumption) (by decide)).trans (cq_abv (by assumption) (by first | omega | assumption)) | exact (atV_in (by first | omega | assumption) (by decide)).trans (cq_bel (by assumption) (by first | omega | assumption)) | exact (atV_in (by first | omega | assumption) (by decide)).trans (cq_dep (by assumption) (by first | omega | assumption)) | exact (atV_in (by first | omega | assumption) (by decide)).trans (cq_bT (by assumption) (by first | omega | assumption)) | exact (atV_in (by first | omega | assumption) (by decide)).trans (cq_bM (by assumption) (by first | omega | assumption)) | exact (atV_in (by first | omega | assumption) (by decide)).trans (cq_sK (by assumption) (by first | omega | assumption)) | exact (atV_in (by first | omega | assumption) (by decide)).trans (cq_sB (by assumption) (by first | omega | assumption)) | exact (atV_in (by first | omega | assumption) (by decide)).trans (cq_sT (by assumption) (by first | omega | assumption)) | exact (atV_in (by first | omega | assumption) (by decide)).trans (cq_sM (by assumption) (by first | omega | assumption)) | exact (atV_in (by first | omega | assumption) (by decide)).trans (cq_cS (by assumption) (by first | omega | assumption)) | exact atV_in (by first | omega | assumption) (by decide) | exact atV_m1 | rfl)) (by decide) rfl (Nat.le_of_ble_eq_true rfl) ?_
  refine V_is4 rfl (by first | rfl | assumption) ?_
  refine V_iconst (v := 0) rfl (by decide) ?_
  refine V_is5 rfl (by first | rfl | assumption) ?_
  refine V_iload_n rfl rfl ?_
  refine V_iconst (v := 2) rfl (by decide) ?_
  by_cases k2 : sK p s = 2
  · obtain ⟨q, q1, q2⟩ := hw.2.2.2.2 k2
    have e1 : stT p s = nI q := by unfold stT; rw [if_pos k2, q2]
    have e2 : stM p s = nI (sM p s) := by unfold stM; rw [if_neg (by omega)]
    have hd : dnB p s S = rcv p (bI q) (sM p s) := by
      unfold dnB rcv
      rw [if_neg (by omega), if_pos k2, q2, nI_clamp (by omega), orF_bI q1 (by omega)]
    rw [hd, e1]
    refine V_icmp_neF rfl (by rw [k2]; rfl) ?_
    refine V_iload rfl rfl ?_
    refine V_callSi rfl rfl (Or.inr rfl) m_EB_bit_w m_EB_bit_x rfl rfl (s_bitv _ (by first | exact bitV_b (by first | omega | assumption) | exact bitV_m1 | rfl)) (by decide) rfl (Nat.le_of_ble_eq_true rfl) ?_
    refine V_is5 rfl (by first | rfl | assumption) ?_
    refine V_goto rfl ?_
    refine V_aload_n rfl rfl ?_
    refine V_getfield rfl rfl (by first | assumption | exact blkW_0 | exact bAt_0 (by assumption) | exact bAt_0 (hA _ _) | rfl) (by rfl) ?_
    refine V_iload_n rfl rfl ?_
    refine V_callSi rfl rfl (Or.inr rfl) m_EB_at_w m_EB_at_x rfl rfl (s_atv (by first | assumption | exact blkW_i rfl rfl | exact bAt_i (by assumption) rfl rfl | exact bAt_i (hA _ _) rfl rfl) (by decide) _ (by first | exact (atV_in (by first | omega | assumption) (by decide)).trans (cq_par (by assumption) (by first | omega | assumption)) | exact (atV_in (by first | omega | assumption) (by decide)).trans (cq_abv (by assumption) (by first | omega | assumption)) | exact (atV_in (by first | omega | assumption) (by decide)).trans (cq_bel (by assumption) (by first | omega | assumption)) | exact (atV_in (by first | omega | assumption) (by decide)).trans (cq_dep (by assumption) (by first | omega | assumption)) | exact (atV_in (by first | omega | assumption) (by decide)).trans (cq_bT (by assumption) (by first | omega | assumption)) | exact (atV_in (by first | omega | assumption) (by decide)).trans (cq_bM (by assumption) (by first | omega | assumption)) | exact (atV_in (by first | omega | assumption) (by decide)).trans (cq_sK (by assumption) (by first | omega | assumption)) | exact (atV_in (by first | omega | assumption) (by decide)).trans (cq_sB (by assumption) (by first | omega | assumption)) | exact (atV_in (by first | omega | assumption) (by decide)).trans (cq_sT (by assumption) (by first | omega | assumption)) | exact (atV_in (by first | omega | assumption) (by decide)).trans (cq_sM (by assumption) (by first | omega | assumption)) | exact (atV_in (by first | omega | assumption) (by decide)).trans (cq_cS (by assumption) (by first | omega | assumption)) | exact atV_in (by first | omega | assumption) (by decide) | exact atV_m1 | rfl)) (by decide) rfl (Nat.le_of_ble_eq_true rfl) ?_
    refine V_is6 rfl (by first | rfl | assumption) ?_
    exact e_ccB hA hp (bI q) (sM p s) (Or.inr ⟨hw.2.2.2.1, e2⟩) fun c hc hb => by
      rw [bt_bI (by omega) (by omega), decide_eq_true_eq] at hb
      rw [hb]
      exact hx.2.2.2.1 _ hw2.1 q q1 q2
  · refine V_icmp_neT rfl (fun z => k2 ((nI_eq (b := 2) (by omega) (by decide)).mp z)) ?_
    refine V_iload_n rfl rfl ?_
    refine V_iconst (v := 1) rfl (by decide) ?_
    by_cases k1 : sK p s = 1
    · have e1 : stT p s = nI (sT p s) := by unfold stT; rw [if_neg k2]
      have e2 : stM p s = nI (sM p s) := by unfold stM; rw [if_neg (by omega)]
      have hbR : ∀ c, c < nT p → bt ((S &&& setF (nT p) (isC p)) &&& setF (nT p) (fun x => bt (abv p x) (sT p s))) c = (isC p c && bt S c && bt (abv p c) (sT p s)) := fun c hc => by
        have : bt (setF (nT p) (fun x => bt (abv p x) (sT p s))) c = bt (abv p c) (sT p s) := by
          rw [Bool.eq_iff_iff, bt_setF (by omega)]
          exact ⟨fun z => z.2, fun z => ⟨hc, z⟩⟩
        rw [b_and, b_and, bt_cls hT hc, this, Bool.and_comm (bt S c)]
      have hd : dnB p s S = rcv p ((S &&& setF (nT p) (isC p)) &&& setF (nT p) (fun x => bt (abv p x) (sT p s))) (sM p s) := by
        unfold dnB rcv clT
        rw [if_neg (by omega), if_neg k2]
        exact orF_cong fun c hc => by rw [hbR c hc]
      rw [hd, e1]
      refine V_icmp_neF rfl (by rw [k1]; rfl) ?_
      refine V_iload_n rfl rfl ?_
      refine V_aload_n rfl rfl ?_
      refine V_getI rfl rfl (by first | assumption | exact blkW_0 | exact bAt_0 (by assumption) | exact bAt_0 (hA _ _) | rfl) (by rfl) (by first | exact cq_cl (by assumption) | rfl) ?_
      refine V_iand rfl ?_
      refine V_aload_n rfl rfl ?_
      refine V_getfield rfl rfl (by first | assumption | exact blkW_0 | exact bAt_0 (by assumption) | exact bAt_0 (hA _ _) | rfl) (by rfl) ?_
      refine V_iload rfl rfl ?_
      refine V_callSi rfl rfl (Or.inr rfl) m_EB_at_w m_EB_at_x rfl rfl (s_atv (by first | assumption | exact blkW_i rfl rfl | exact bAt_i (by assumption) rfl rfl | exact bAt_i (hA _ _) rfl rfl) (by decide) _ (by first | exact (atV_in (by first | omega | assumption) (by decide)).trans (cq_par (by assumption) (by first | omega | assumption)) | exact (atV_in (by first | omega | assumption) (by decide)).trans (cq_abv (by assumption) (by first | omega | assumption)) | exact (atV_in (by first | omega | assumption) (by decide)).trans (cq_bel (by assumption) (by first | omega | assumption)) | exact (atV_in (by first | omega | assumption) (by decide)).trans (cq_dep (by assumption) (by first | omega | assumption)) | exact (atV_in (by first | omega | assumption) (by decide)).trans (cq_bT (by assumption) (by first | omega | assumption)) | exact (atV_in (by first | omega | assumption) (by decide)).trans (cq_bM (by assumption) (by first | omega | assumption)) | exact (atV_in (by first | omega | assumption) (by decide)).trans (cq_sK (by assumption) (by first | omega | assumption)) | exact (atV_in (by first | omega | assumption) (by decide)).trans (cq_sB (by assumption) (by first | omega | assumption)) | exact (atV_in (by first | omega | assumption) (by decide)).trans (cq_sT (by assumption) (by first | omega | assumption)) | exact (atV_in (by first | omega | assumption) (by decide)).trans (cq_sM (by assumption) (by first | omega | assumption)) | exact (atV_in (by first | omega | assumption) (by decide)).trans (cq_cS (by assumption) (by first | omega | assumption)) | exact atV_in (by first | omega | assumption) (by decide) | exact atV_m1 | rfl)) (by decide) rfl (Nat.le_of_ble_eq_true rfl) ?_
      refine V_iand rfl ?_
      refine V_is5 rfl (by first | rfl | assumption) ?_
      refine V_aload_n rfl rfl ?_
      refine V_getfield rfl rfl (by first | assumption | exact blkW_0 | exact bAt_0 (by assumption) | exact bAt_0 (hA _ _) | rfl) (by rfl) ?_
      refine V_iload_n rfl rfl ?_
      refine V_callSi rfl rfl (Or.inr rfl) m_EB_at_w m_EB_at_x rfl rfl (s_atv (by first | assumption | exact blkW_i rfl rfl | exact bAt_i (by assumption) rfl rfl | exact bAt_i (hA _ _) rfl rfl) (by decide) _ (by first | exact (atV_in (by first | omega | assumption) (by decide)).trans (cq_par (by assumption) (by first | omega | assumption)) | exact (atV_in (by first | omega | assumption) (by decide)).trans (cq_abv (by assumption) (by first | omega | assumption)) | exact (atV_in (by first | omega | assumption) (by decide)).trans (cq_bel (by assumption) (by first | omega | assumption)) | exact (atV_in (by first | omega | assumption) (by decide)).trans (cq_dep (by assumption) (by first | omega | assumption)) | exact (atV_in (by first | omega | assumption) (by decide)).trans (cq_bT (by assumption) (by first | omega | assumption)) | exact (atV_in (by first | omega | assumption) (by decide)).trans (cq_bM (by assumption) (by first | omega | assumption)) | exact (atV_in (by first | omega | assumption) (by decide)).trans (cq_sK (by assumption) (by first | omega | assumption)) | exact (atV_in (by first | omega | assumption) (by decide)).trans (cq_sB (by assumption) (by first | omega | assumption)) | exact (atV_in (by first | omega | assumption) (by decide)).trans (cq_sT (by assumption) (by first | omega | assumption)) | exact (atV_in (by first | omega | assumption) (by decide)).trans (cq_sM (by assumption) (by first | omega | assumption)) | exact (atV_in (by first | omega | assumption) (by decide)).trans (cq_cS (by assumption) (by first | omega | assumption)) | exact atV_in (by first | omega | assumption) (by decide) | exact atV_m1 | rfl)) (by decide) rfl (Nat.le_of_ble_eq_true rfl) ?_
      refine V_is6 rfl (by first | rfl | assumption) ?_
      exact e_ccB hA hp _ (sM p s) (Or.inr ⟨hw.2.2.2.1, e2⟩) fun c hc hb => by
        rw [hbR c hc, Bool.and_eq_true, Bool.and_eq_true] at hb
        exact hb.1.1
    · have hd : dnB p s S = rcv p 0 0 := by
        unfold dnB rcv
        rw [if_pos (by omega), orF_z]
      rw [hd]
      refine V_icmp_neT rfl (fun z => k1 ((nI_eq (b := 1) (by omega) (by decide)).mp z)) ?_
      refine V_aload_n rfl rfl ?_
      refine V_getfield rfl rfl (by first | assumption | exact blkW_0 | exact bAt_0 (by assumption) | exact bAt_0 (hA _ _) | rfl) (by rfl) ?_
      refine V_iload_n rfl rfl ?_
      refine V_callSi rfl rfl (Or.inr rfl) m_EB_at_w m_EB_at_x rfl rfl (s_atv (by first | assumption | exact blkW_i rfl rfl | exact bAt_i (by assumption) rfl rfl | exact bAt_i (hA _ _) rfl rfl) (by decide) _ (by first | exact (atV_in (by first | omega | assumption) (by decide)).trans (cq_par (by assumption) (by first | omega | assumption)) | exact (atV_in (by first | omega | assumption) (by decide)).trans (cq_abv (by assumption) (by first | omega | assumption)) | exact (atV_in (by first | omega | assumption) (by decide)).trans (cq_bel (by assumption) (by first | omega | assumption)) | exact (atV_in (by first | omega | assumption) (by decide)).trans (cq_dep (by assumption) (by first | omega | assumption)) | exact (atV_in (by first | omega | assumption) (by decide)).trans (cq_bT (by assumption) (by first | omega | assumption)) | exact (atV_in (by first | omega | assumption) (by decide)).trans (cq_bM (by assumption) (by first | omega | assumption)) | exact (atV_in (by first | omega | assumption) (by decide)).trans (cq_sK (by assumption) (by first | omega | assumption)) | exact (atV_in (by first | omega | assumption) (by decide)).trans (cq_sB (by assumption) (by first | omega | assumption)) | exact (atV_in (by first | omega | assumption) (by decide)).trans (cq_sT (by assumption) (by first | omega | assumption)) | exact (atV_in (by first | omega | assumption) (by decide)).trans (cq_sM (by assumption) (by first | omega | assumption)) | exact (atV_in (by first | omega | assumption) (by decide)).trans (cq_cS (by assumption) (by first | omega | assumption)) | exact atV_in (by first | omega | assumption) (by decide) | exact atV_m1 | rfl)) (by decide) rfl (Nat.le_of_ble_eq_true rfl) ?_
      refine V_is6 rfl (by first | rfl | assumption) ?_
      exact e_ccB hA hp 0 0 (Or.inl rfl) fun c hc hb => by rw [b_0] at hb; cases hb
set_option maxRecDepth 20000 in
set_option maxHeartbeats 1000000 in
theorem s_cmay (hA : bAt 3 h pl sc ar) (hp : CP p sc ar) (hx : WX p) {c : Nat} (hc : c < nC p) (S : Int32) : Mt g 2 m_Plan_mayOf [.ref pl, .int (nI c), .int S] h sz u (Pi (may p c S) h) sz u := by
  have hq := hp.1
  obtain ⟨hT, hB, hS, hC⟩ := hq.1.1
  have hcs := hq.1.2.2.2.2 c hc
  have hcs1 := hcs.1
  have e : dnB p (cS p c) S = may p c S := by
    unfold dnB may
    rw [if_neg (by omega), if_neg (by omega)]
  refine Mt.of m_Plan_mayOf_w m_Plan_mayOf_x m_Plan_mayOf_c rfl rfl (ls := [.ref pl, .int (nI c), .int S]) rfl ?_
  refine V_aload_n rfl rfl ?_
  refine V_aload_n rfl rfl ?_
  refine V_getfield rfl rfl (by first | assumption | exact blkW_0 | exact bAt_0 (by assumption) | exact bAt_0 (hA _ _) | rfl) (by rfl) ?_
  refine V_iload_n rfl rfl ?_
  refine V_callSi rfl rfl (Or.inr rfl) m_EB_at_w m_EB_at_x rfl rfl (s_atv (by first | assumption | exact blkW_i rfl rfl | exact bAt_i (by assumption) rfl rfl | exact bAt_i (hA _ _) rfl rfl) (by decide) _ (by first | exact (atV_in (by first | omega | assumption) (by decide)).trans (cq_par (by assumption) (by first | omega | assumption)) | exact (atV_in (by first | omega | assumption) (by decide)).trans (cq_abv (by assumption) (by first | omega | assumption)) | exact (atV_in (by first | omega | assumption) (by decide)).trans (cq_bel (by assumption) (by first | omega | assumption)) | exact (atV_in (by first | omega | assumption) (by decide)).trans (cq_dep (by assumption) (by first | omega | assumption)) | exact (atV_in (by first | omega | assumption) (by decide)).trans (cq_bT (by assumption) (by first | omega | assumption)) | exact (atV_in (by first | omega | assumption) (by decide)).trans (cq_bM (by assumption) (by first | omega | assumption)) | exact (atV_in (by first | omega | assumption) (by decide)).trans (cq_sK (by assumption) (by first | omega | assumption)) | exact (atV_in (by first | omega | assumption) (by decide)).trans (cq_sB (by assumption) (by first | omega | assumption)) | exact (atV_in (by first | omega | assumption) (by decide)).trans (cq_sT (by assumption) (by first | omega | assumption)) | exact (atV_in (by first | omega | assumption) (by decide)).trans (cq_sM (by assumption) (by first | omega | assumption)) | exact (atV_in (by first | omega | assumption) (by decide)).trans (cq_cS (by assumption) (by first | omega | assumption)) | exact atV_in (by first | omega | assumption) (by decide) | exact atV_m1 | rfl)) (by decide) rfl (Nat.le_of_ble_eq_true rfl) ?_
  refine V_iload_n rfl rfl ?_
  refine V_callVi rfl rfl m_Plan_calledBy_w m_Plan_calledBy_x rfl (by decide) rfl (s_ccB (by first | assumption | exact hA _ _) (by assumption) (by assumption) (by first | omega | assumption) _) (by decide) rfl (by first | assumption | exact blkW_0 | exact bAt_0 (by assumption) | exact bAt_0 (hA _ _) | rfl) (Nat.le_of_ble_eq_true rfl) ?_
  rw [e]
  refine V_ireturn rfl rfl (by first | rfl | exact b2_nar _ | assumption | decide) ?_
  exact P_ret rfl rfl
end plan3
