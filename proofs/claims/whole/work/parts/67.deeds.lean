/-! ===== EarlyBinder: what it does to the scene ===== -/
/-- how a deed on the scene ends -/
def PS (h : mH) (n : Nat) (N : Nat → Int32) (r0 : Option Value) : Option Value → mH → Prop := fun r h' => r = r0 ∧ ∃ ss sa js ja, h' = scW h 4 ss sa js ja ∧ SR n N ss (sa 5) js ja
section deeds
variable {g : mG} {h : mH} {sz u pl sp : Nat} {fp : Int32} {p : Pg} {psc ss N js : Nat → Int32} {par_ sa ja : Nat → Nat → Int32}
set_option maxRecDepth 20000 in
set_option maxHeartbeats 1000000 in
theorem e_lwa (E1 : ∀ ss sa js ja, scW h 4 ss sa js ja 1 = ebO pl sp fp) (E3 : ∀ ss sa js ja, bAt 3 (scW h 4 ss sa js ja) pl psc par_) (hp : CP p psc par_) (hx : WX p) {t : Nat} {v : Int32} (h44 : cnt9 (N 44)) (h43 : cnt9 (N 43)) (hBN : BN (nC p) N) (k : Nat) : k ≤ nC p → ∀ (ss : Nat → Int32) (sa : Nat → Nat → Int32) (js : Nat → Int32) (ja : Nat → Nat → Int32), SR (nC p) (ldF p N t (nC p - k)) ss (sa 5) js ja → V g 4 m_EB_loadWithAbove (PS h (nC p) (ldF p N t (nC p)) (some (.int (pcV v)))) sz u 49 [.ref 1, .int (nI t), .int v, .int (nI (nC p - k))] [] (scW h 4 ss sa js ja) sz u := by
  have hq := hp.1
  obtain ⟨hT, hB, hS, hC⟩ := hp.1.1.1
  induction k with
  | zero =>
    intro hk ss sa js ja hSR
    have h1 := E1 ss sa js ja
    have hP := E3 ss sa js ja
    rw [Nat.sub_zero] at hSR ⊢
    refine V_iload_n rfl rfl ?_
    refine V_aload_n rfl rfl ?_
    refine V_getfield rfl rfl (by first | assumption | exact blkW_0 | exact bAt_0 (by assumption) | exact bAt_0 (hA _ _) | rfl) (by rfl) ?_
    refine V_getI rfl rfl (by first | assumption | exact blkW_0 | exact bAt_0 (by assumption) | exact bAt_0 (hA _ _) | rfl) (by rfl) (by first | exact cq_nC (by assumption) | rfl) ?_
    refine V_icmp_geT rfl (nI_le (Nat.le_refl _) (by omega)) ?_
    refine V_iload_n rfl rfl ?_
    refine V_callSi rfl rfl (Or.inl rfl) m_Int_bitCount_w m_Int_bitCount_x rfl rfl (s_bc _) (by decide) rfl (Nat.le_of_ble_eq_true rfl) ?_
    refine V_ireturn rfl rfl (by first | rfl | exact b2_nar _ | assumption | decide) ?_
    exact ⟨rfl, ss, sa, js, ja, rfl, hSR⟩
  | succ k ih =>
    intro hk ss sa js ja hSR
    have h1 := E1 ss sa js ja
    have hP := E3 ss sa js ja
    have hN : bAt 5 (scW h 4 ss sa js ja) 4 ss sa := blkW_at
    obtain ⟨i, hi⟩ : ∃ i, i = nC p - (k + 1) := ⟨_, rfl⟩
    rw [← hi] at hSR ⊢
    have hL := hSR.1.1
    have hb := hSR.2.1
    have hsx := ldF_s p N t i
    have hBN2 : BN (nC p) (ldF p N t i) := fun c hc => by
      rw [ldF_c (by omega) i (by omega)]
      split
      · exact Or.inl rfl
      · exact hBN c hc
    refine V_iload_n rfl rfl ?_
    refine V_aload_n rfl rfl ?_
    refine V_getfield rfl rfl (by first | assumption | exact blkW_0 | exact bAt_0 (by assumption) | exact bAt_0 (hA _ _) | rfl) (by rfl) ?_
    refine V_getI rfl rfl (by first | assumption | exact blkW_0 | exact bAt_0 (by assumption) | exact bAt_0 (hA _ _) | rfl) (by rfl) (by first | exact cq_nC (by assumption) | rfl) ?_
    refine V_icmp_geF rfl (nI_ge (show i < nC p by omega) (by omega)) ?_
    refine V_aload_n rfl rfl ?_
    refine V_iload_n rfl rfl ?_
    refine V_aload_n rfl rfl ?_
    refine V_getfield rfl rfl (by first | assumption | exact blkW_0 | exact bAt_0 (by assumption) | exact bAt_0 (hA _ _) | rfl) (by rfl) ?_
    refine V_getI rfl rfl (by first | assumption | exact blkW_0 | exact bAt_0 (by assumption) | exact bAt_0 (hA _ _) | rfl) (by rfl) (by first | exact (by assumption) | rfl) ?_
    refine V_callVi rfl rfl m_EB_isBroken_w m_EB_isBroken_x rfl (by decide) rfl (s_brkn (by assumption) (by assumption) (by assumption) (by assumption) (by assumption) (by assumption) (by assumption) (by first | omega | assumption) _) (by decide) rfl (by first | assumption | exact blkW_0 | exact bAt_0 (by assumption) | exact bAt_0 (hA _ _) | rfl) (Nat.le_of_ble_eq_true rfl) ?_
    cases hw : wG (may p i (ldF p N t i 0)) (ldF p N t i (2 + i))
    · rw [hw, if_neg (by decide)] at hsx
      refine V_if_eqT rfl (rfl) ?_
      refine V_inc3 rfl (by first | exact mInc _ | rfl) (by first | rfl | assumption) ?_
      rw [show i + 1 = nC p - k by omega]
      refine V_goto rfl ?_
      exact ih (by omega) ss sa js ja (by rw [show nC p - k = i + 1 by omega, hsx]; exact hSR)
    · rw [hw, if_pos rfl] at hsx
      obtain ⟨d, hd, ed⟩ : ∃ d, d < 20 ∧ ldF p N t i (2 + i) = nI d := by
        rcases hBN2 i (by omega) with e | e
        · rw [e] at hw
          exact absurd hw (by unfold wG; rw [decide_eq_true (show (-1 : Int32) < 0 by decide)]; simp)
        · exact e
      refine V_if_eqF rfl (by decide) ?_
      refine V_aload_n rfl rfl ?_
      refine V_getfield rfl rfl (by first | assumption | exact blkW_0 | exact bAt_0 (by assumption) | exact bAt_0 (hA _ _) | rfl) (by rfl) ?_
      refine V_iload_n rfl rfl ?_
      refine V_callV rfl rfl m_Scen_withdraw_w m_Scen_withdraw_x rfl (by decide) rfl (w_withdraw hSR hC (ldF_9 h43 h44 i (by omega)).2 (show i < nC p by omega) hd ed) (by decide) rfl (by first | assumption | exact blkW_0 | exact bAt_0 (by assumption) | exact bAt_0 (hA _ _) | rfl) (Nat.le_of_ble_eq_true rfl) (by first | exact Nat.le_refl _ | omega | decide) (by first | exact Nat.le_refl _ | omega | decide) (fun r hh1 hP => ?_)
      obtain ⟨rfl, ss2, sa2, js2, ja2, rfl, hSR2⟩ := hP
      refine V_inc3 rfl (by first | exact mInc _ | rfl) (by first | rfl | assumption) ?_
      rw [show i + 1 = nC p - k by omega]
      refine V_goto rfl ?_
      exact ih (by omega) ss2 sa2 js2 ja2 (by rw [show nC p - k = i + 1 by omega, hsx]; exact hSR2)
set_option maxRecDepth 20000 in
set_option maxHeartbeats 1000000 in
theorem w_lwa (E1 : ∀ ss sa js ja, scW h 4 ss sa js ja 1 = ebO pl sp fp) (E3 : ∀ ss sa js ja, bAt 3 (scW h 4 ss sa js ja) pl psc par_) (hp : CP p psc par_) (hx : WX p) (hG : GN p N) (hSR : SR (nC p) N ss (sa 5) js ja) {t : Nat} (ht : t < nT p) : Mt g 4 m_EB_loadWithAbove [.ref 1, .int (nI t)] (scW h 4 ss sa js ja) sz u (PS h (nC p) (ldF p N t (nC p)) (some (.int (cnF 12 (bt (ldF p N t (nC p) 0)) - cnF 12 (bt (N 0)))))) sz u := by
  have hq := hp.1
  obtain ⟨hT, hB, hS, hC⟩ := hp.1.1.1
  have h1 := E1 ss sa js ja
  have hP := E3 ss sa js ja
  have hN : bAt 5 (scW h 4 ss sa js ja) 4 ss sa := blkW_at
  have hL := hSR.1.1
  have hin := inN_nI ht (by omega)
  have er : cnF 12 (bt (ldF p N t (nC p) 0)) - cnF 12 (bt (N 0)) = pcV (abv p t &&& (N 0 ^^^ -1)) := by
    rw [ldF_0, cnt_diff, pcV_12 hT]
    intro i hi
    rw [b_and, Bool.and_eq_true] at hi
    have := hx.2.1 t ht i hi.1
    omega
  rw [er]
  refine Mt.of m_EB_loadWithAbove_w m_EB_loadWithAbove_x m_EB_loadWithAbove_c rfl rfl (ls := [.ref 1, .int (nI t), .retAddr 0, .retAddr 0]) rfl ?_
  refine V_aload_n rfl rfl ?_
  refine V_iload_n rfl rfl ?_
  refine V_callVi rfl rfl m_EB_isType_w m_EB_isType_x rfl (by decide) rfl (s_eT (by assumption) (by assumption) (by assumption) _) (by decide) rfl (by first | assumption | exact blkW_0 | exact bAt_0 (by assumption) | exact bAt_0 (hA _ _) | rfl) (Nat.le_of_ble_eq_true rfl) ?_
  rw [hin]
  refine V_if_eqF rfl (by decide) ?_
  refine V_aload_n rfl rfl ?_
  refine V_getfield rfl rfl (by first | assumption | exact blkW_0 | exact bAt_0 (by assumption) | exact bAt_0 (hA _ _) | rfl) (by rfl) ?_
  refine V_getfield rfl rfl (by first | assumption | exact blkW_0 | exact bAt_0 (by assumption) | exact bAt_0 (hA _ _) | rfl) (by rfl) ?_
  refine V_iload_n rfl rfl ?_
  refine V_callSi rfl rfl (Or.inl rfl) m_EB_at_w m_EB_at_x rfl rfl (s_atv (by first | assumption | exact blkW_i rfl rfl | exact bAt_i (by assumption) rfl rfl | exact bAt_i (hA _ _) rfl rfl) (by decide) _ (by first | exact (atV_in (by first | omega | assumption) (by decide)).trans (cq_par (by assumption) (by first | omega | assumption)) | exact (atV_in (by first | omega | assumption) (by decide)).trans (cq_abv (by assumption) (by first | omega | assumption)) | exact (atV_in (by first | omega | assumption) (by decide)).trans (cq_bel (by assumption) (by first | omega | assumption)) | exact (atV_in (by first | omega | assumption) (by decide)).trans (cq_dep (by assumption) (by first | omega | assumption)) | exact (atV_in (by first | omega | assumption) (by decide)).trans (cq_bT (by assumption) (by first | omega | assumption)) | exact (atV_in (by first | omega | assumption) (by decide)).trans (cq_bM (by assumption) (by first | omega | assumption)) | exact (atV_in (by first | omega | assumption) (by decide)).trans (cq_sK (by assumption) (by first | omega | assumption)) | exact (atV_in (by first | omega | assumption) (by decide)).trans (cq_sB (by assumption) (by first | omega | assumption)) | exact (atV_in (by first | omega | assumption) (by decide)).trans (cq_sT (by assumption) (by first | omega | assumption)) | exact (atV_in (by first | omega | assumption) (by decide)).trans (cq_sM (by assumption) (by first | omega | assumption)) | exact (atV_in (by first | omega | assumption) (by decide)).trans (cq_cS (by assumption) (by first | omega | assumption)) | exact atV_in (by first | omega | assumption) (by decide) | exact atV_m1 | rfl)) (by decide) rfl (Nat.le_of_ble_eq_true rfl) ?_
  refine V_aload_n rfl rfl ?_
  refine V_getfield rfl rfl (by first | assumption | exact blkW_0 | exact bAt_0 (by assumption) | exact bAt_0 (hA _ _) | rfl) (by rfl) ?_
  refine V_getI rfl rfl (by first | assumption | exact blkW_0 | exact bAt_0 (by assumption) | exact bAt_0 (hA _ _) | rfl) (by rfl) (by first | exact (by assumption) | rfl) ?_
  refine V_iconst (v := (-1)) rfl (by decide) ?_
  refine V_ixor rfl ?_
  refine V_iand rfl ?_
  refine V_goto rfl ?_
  refine V_is2 rfl (by first | rfl | assumption) ?_
  refine V_aload_n rfl rfl ?_
  refine V_getfield rfl rfl (by first | assumption | exact blkW_0 | exact bAt_0 (by assumption) | exact bAt_0 (hA _ _) | rfl) (by rfl) ?_
  refine V_dup rfl rfl ?_
  refine V_getI rfl rfl (by first | assumption | exact blkW_0 | exact bAt_0 (by assumption) | exact bAt_0 (hA _ _) | rfl) (by rfl) (by first | exact (by assumption) | rfl) ?_
  refine V_iload_n rfl rfl ?_
  refine V_ior rfl ?_
  rw [or_mask]
  first | refine V_pput rfl rfl rfl rfl rfl ?_ | refine V_bput rfl rfl rfl rfl rfl rfl ?_ | refine V_bputZ rfl rfl rfl rfl rfl rfl (by decide) ?_ | refine V_put rfl rfl (by first | assumption | rfl) (by decide) (fun _ hty => by cases hty; exact ⟨rfl, rfl⟩) (by first | exact Or.inl rfl | exact Or.inr ⟨rfl, rfl⟩) rfl ?_
  refine V_iconst (v := 0) rfl (by decide) ?_
  refine V_is3 rfl (by first | rfl | assumption) ?_
  have hz : nC p - nC p = 0 := by omega
  have key := e_lwa (g := g) (sz := sz) (u := u) (v := abv p t &&& (N 0 ^^^ -1)) (t := t) E1 E3 hp hx hG.2.2.2 hG.2.2.1 (GN_BN hq.1 hG) (nC p) (Nat.le_refl _) (upd ss 0 (N 0 ||| abv p t)) sa js ja (by rw [hz]; exact SR_load hSR)
  rw [hz] at key
  exact key
set_option maxRecDepth 20000 in
set_option maxHeartbeats 1000000 in
theorem w_dBind (E1 : ∀ ss sa js ja, scW h 4 ss sa js ja 1 = ebO pl sp fp) (E3 : ∀ ss sa js ja, bAt 3 (scW h 4 ss sa js ja) pl psc par_) (hp : CP p psc par_) (hx : WX p) (hG : GN p N) (hSR : SR (nC p) N ss (sa 5) js ja) {c : Nat} (hc : c < nC p) : Mt g 4 m_EB_driftBind [.ref 1, .int (nI c)] (scW h 4 ss sa js ja) sz u (PS h (nC p) (if canB p N c then bndF p N c else N) none) sz u := by
  have hq := hp.1
  obtain ⟨hT, hB, hS, hC⟩ := hp.1.1.1
  have h1 := E1 ss sa js ja
  have hP := E3 ss sa js ja
  have hN : bAt 5 (scW h 4 ss sa js ja) 4 ss sa := blkW_at
  have hL := hSR.1.1
  have hb := hSR.2.1
  have hBN := GN_BN hq.1 hG
  have hin := inN_nI hc (by omega)
  refine Mt.of m_EB_driftBind_w m_EB_driftBind_x m_EB_driftBind_c rfl rfl (ls := [.ref 1, .int (nI c), .retAddr 0]) rfl ?_
  refine V_aload_n rfl rfl ?_
  refine V_iload_n rfl rfl ?_
  refine V_callVi rfl rfl m_EB_isCall_w m_EB_isCall_x rfl (by decide) rfl (s_eC (by assumption) (by assumption) (by assumption) _) (by decide) rfl (by first | assumption | exact blkW_0 | exact bAt_0 (by assumption) | exact bAt_0 (hA _ _) | rfl) (Nat.le_of_ble_eq_true rfl) ?_
  rw [hin]
  refine V_if_eqF rfl (by decide) ?_
  refine V_aload_n rfl rfl ?_
  refine V_iload_n rfl rfl ?_
  refine V_callVi rfl rfl m_EB_bodyToBind_w m_EB_bodyToBind_x rfl (by decide) rfl (s_btb (by assumption) (by assumption) (by assumption) (by assumption) (by assumption) (by assumption) (by assumption) (by assumption) (by first | omega | assumption)) (by decide) rfl (by first | assumption | exact blkW_0 | exact bAt_0 (by assumption) | exact bAt_0 (hA _ _) | rfl) (Nat.le_of_ble_eq_true rfl) ?_
  refine V_goto rfl ?_
  refine V_is2 rfl (by first | rfl | assumption) ?_
  cases hcb : canB p N c
  · rw [if_neg (by decide), if_neg (by decide)]
    refine V_iload_n rfl rfl ?_
    refine V_iconst (v := (-1)) rfl (by decide) ?_
    refine V_icmp_eqT rfl (rfl) ?_
    refine V_return rfl rfl ?_
    exact ⟨rfl, ss, sa, js, ja, rfl, hSR⟩
  · rw [if_pos rfl, if_pos rfl]
    obtain ⟨l1, l2, l3⟩ := canB_is hq.1 hcb
    refine V_iload_n rfl rfl ?_
    refine V_iconst (v := (-1)) rfl (by decide) ?_
    refine V_icmp_eqF rfl (nI_m1 (by omega)) ?_
    refine V_aload_n rfl rfl ?_
    refine V_getfield rfl rfl (by first | assumption | exact blkW_0 | exact bAt_0 (by assumption) | exact bAt_0 (hA _ _) | rfl) (by rfl) ?_
    refine V_iload_n rfl rfl ?_
    refine V_iload_n rfl rfl ?_
    refine V_callV rfl rfl m_Scen_bindTo_w m_Scen_bindTo_x rfl (by decide) rfl (w_bindTo hSR hC hG.2.2.1 hc (show low (may p c (N 0)) < 20 by omega)) (by decide) rfl (by first | assumption | exact blkW_0 | exact bAt_0 (by assumption) | exact bAt_0 (hA _ _) | rfl) (Nat.le_of_ble_eq_true rfl) (by first | exact Nat.le_refl _ | omega | decide) (by first | exact Nat.le_refl _ | omega | decide) (fun r hh1 hP => ?_)
    obtain ⟨rfl, ss2, sa2, js2, ja2, rfl, hSR2⟩ := hP
    refine V_return rfl rfl ?_
    exact ⟨rfl, ss2, sa2, js2, ja2, rfl, hSR2⟩
set_option maxRecDepth 20000 in
set_option maxHeartbeats 1000000 in
theorem w_dBind0 (E1 : ∀ ss sa js ja, scW h 4 ss sa js ja 1 = ebO pl sp fp) (E3 : ∀ ss sa js ja, bAt 3 (scW h 4 ss sa js ja) pl psc par_) (hp : CP p psc par_) : Mt g 4 m_EB_driftBind [.ref 1, .int (-1)] (scW h 4 ss sa js ja) sz u (Pn (scW h 4 ss sa js ja)) sz u := by
  have hq := hp.1
  have h1 := E1 ss sa js ja
  have hP := E3 ss sa js ja
  have hin : inN (-1) (nC p) = false := inN_no1 (by decide)
  refine Mt.of m_EB_driftBind_w m_EB_driftBind_x m_EB_driftBind_c rfl rfl (ls := [.ref 1, .int (-1), .retAddr 0]) rfl ?_
  refine V_aload_n rfl rfl ?_
  refine V_iload_n rfl rfl ?_
  refine V_callVi rfl rfl m_EB_isCall_w m_EB_isCall_x rfl (by decide) rfl (s_eC (by assumption) (by assumption) (by assumption) _) (by decide) rfl (by first | assumption | exact blkW_0 | exact bAt_0 (by assumption) | exact bAt_0 (hA _ _) | rfl) (Nat.le_of_ble_eq_true rfl) ?_
  rw [hin]
  refine V_if_eqT rfl (rfl) ?_
  refine V_iconst (v := (-1)) rfl (by decide) ?_
  refine V_is2 rfl (by first | rfl | assumption) ?_
  refine V_iload_n rfl rfl ?_
  refine V_iconst (v := (-1)) rfl (by decide) ?_
  refine V_icmp_eqT rfl (rfl) ?_
  refine V_return rfl rfl ?_
  exact ⟨rfl, rfl⟩
end deeds
