/-! ===== EarlyBinder: what it answers ===== -/
def FF (p : Pg) (N fsc : Nat → Int32) (far : Nat → Nat → Int32) : Prop := FO p false fsc far ∧ fsc 6 = N 0 ∧ fsc 7 = N 1 ∧ FV p false fsc far
theorem FF_0 {p : Pg} {N fsc : Nat → Int32} {far : Nat → Nat → Int32} (h : FF p N fsc far) : fsc 0 = (rch p N 0).1 := by
  have := h.2.2.2.1
  rw [h.2.1, h.2.2.1] at this
  exact congrArg Prod.fst this
theorem FF_1 {p : Pg} {N fsc : Nat → Int32} {far : Nat → Nat → Int32} (h : FF p N fsc far) : fsc 1 = (rch p N 0).2 := by
  have := h.2.2.2.1
  rw [h.2.1, h.2.2.1] at this
  exact congrArg Prod.snd this
theorem FF_2 {p : Pg} {N fsc : Nat → Int32} {far : Nat → Nat → Int32} (h : FF p N fsc far) {b : Nat} (hb : b < 20) : far 2 b = clB p (rch p N 0).1 (rch p N 0).2 b := by
  rw [h.2.2.2.2 b hb, FF_0 h, FF_1 h]
def EW (h : mH) (pl sp : Nat) (fp : Int32) (psc : Nat → Int32) (par_ : Nat → Nat → Int32) (ss : Nat → Int32) (sa : Nat → Nat → Int32) : Prop := (∀ fsc far, blkW 0 h 74 fsc far 1 = ebO pl sp fp) ∧ (∀ fsc far, bAt 3 (blkW 0 h 74 fsc far) pl psc par_) ∧ (∀ fsc far, bAt 5 (blkW 0 h 74 fsc far) 4 ss sa)
def PE (v : Int32) (h : mH) (p : Pg) : Option Value → mH → Prop := fun r h' => r = some (.int v) ∧ ∃ fsc far, h' = blkW 0 h 74 fsc far ∧ FO p false fsc far
theorem PE_r {v w : Int32} {h : mH} {p : Pg} {fsc : Nat → Int32} {far : Nat → Nat → Int32} (hF : FO p false fsc far) (e : w = v) : PE v h p (some (.int w)) (blkW 0 h 74 fsc far) := ⟨by rw [e], fsc, far, rfl, hF⟩
/-- what holds of the state while it goes on -/
def GN (p : Pg) (N : Nat → Int32) : Prop := upC p (N 0) ∧ (∀ c, c < nC p → N (2 + c) = -1 ∨ ∃ b, b < nB p ∧ N (2 + c) = nI b ∧ may p c (N 0) = bI b) ∧ cnt9 (N 43) ∧ cnt9 (N 44)
theorem GN_BN {p : Pg} {N : Nat → Int32} (hw : WB p) (h : GN p N) : BN (nC p) N := fun c hc => by
  have hB := hw.1.2.1
  rcases h.2.1 c hc with q | ⟨b, b1, b2, -⟩
  · exact Or.inl q
  · exact Or.inr ⟨b, by omega, b2⟩
theorem or_le {A B : Int32} (h : le B A) : A ||| B = A := b_ext2 fun i _ => by
  rw [b_or, Bool.or_eq_true]
  exact ⟨fun z => z.elim id (h i), Or.inl⟩
theorem GN_wG {p : Pg} {N : Nat → Int32} (hw : WB p) (h : GN p N) {c : Nat} (hc : c < nC p) : wG (may p c (N 0)) (N (2 + c)) = false := by
  have hB := hw.1.2.1
  unfold wG
  rcases h.2.1 c hc with e | ⟨b, b1, b2, b3⟩
  · rw [e]; rfl
  · rw [b2, b3, show (1 : Int32) <<< (nI b &&& 31) = bI b from rfl, decide_eq_true rfl]
    simp
theorem hrt_eq {p : Pg} {N : Nat → Int32} (hw : WB p) (h : GN p N) {t : Nat} : (setF (nC p) fun c => wG (may p c (N 0 ||| abv p t)) (N (2 + c))) = hrt p N t := by
  have hC := hw.1.2.2.2
  unfold hrt
  cases hb : bt (N 0) t
  · rfl
  · rw [or_le (h.1.2 t hb)]
    rw [if_pos rfl]
    refine b_ext2 fun i _ => ?_
    rw [bt_setF (by omega), b_0]
    constructor
    · rintro ⟨h1, h2⟩
      rw [GN_wG hw h h1] at h2; cases h2
    · intro z; cases z
theorem boC_eq {p : Pg} {N : Nat → Int32} {sa : Nat → Int32} (hw : WB p) (h : GN p N) (hb : ∀ c, c < nC p → sa c = N (2 + c)) (hb2 : ∀ c, nC p ≤ c → c < 24 → sa c = -1) : (setF 24 fun c => !decide (sa c = -1)) = setF (nC p) fun c => !decide (N (2 + c) < 0) := by
  have hC := hw.1.2.2.2
  have hBN := GN_BN hw h
  refine b_ext2 fun i _ => ?_
  rw [bt_setF (by decide), bt_setF (by omega)]
  simp only [Bool.not_eq_true', decide_eq_false_iff_not]
  constructor
  · rintro ⟨h1, h2⟩
    have hi : i < nC p := Classical.byContradiction fun q => h2 (hb2 i (by omega) h1)
    rw [hb i hi] at h2
    exact ⟨hi, fun z => h2 ((BN_lt hBN hi).mp z)⟩
  · rintro ⟨h1, h2⟩
    refine ⟨by omega, ?_⟩
    rw [hb i h1]
    exact fun z => h2 ((BN_lt hBN h1).mpr z)
section eb2
variable {g : mG} {h : mH} {sz u pl sp : Nat} {fp : Int32} {p : Pg} {psc ss N fsc : Nat → Int32} {par_ sa far : Nat → Nat → Int32}
set_option maxRecDepth 20000 in
set_option maxHeartbeats 1000000 in
theorem w_flowNow (hE : EW h pl sp fp psc par_ ss sa) (hp : CP p psc par_) (hx : WX p) (hF : FO p false fsc far) (hL : ss 0 = N 0) (hR : ss 1 = N 1) : Mt g 4 m_EB_flowNow [.ref 1] (blkW 0 h 74 fsc far) sz u (fun r h' => r = some (.ref 74) ∧ ∃ fsc' far', h' = blkW 0 h 74 fsc' far' ∧ FF p N fsc' far') sz u := by
  have h1 := hE.1 fsc far
  have hP := hE.2.1 fsc far
  have hN := hE.2.2 fsc far
  refine Mt.of m_EB_flowNow_w m_EB_flowNow_x m_EB_flowNow_c rfl rfl (ls := [.ref 1]) rfl ?_
  refine V_aload_n rfl rfl ?_
  refine V_getfield rfl rfl (by first | assumption | exact blkW_0 | exact bAt_0 (by assumption) | exact bAt_0 (hA _ _) | rfl) (by rfl) ?_
  refine V_aload_n rfl rfl ?_
  refine V_getfield rfl rfl (by first | assumption | exact blkW_0 | exact bAt_0 (by assumption) | exact bAt_0 (hA _ _) | rfl) (by rfl) ?_
  refine V_aload_n rfl rfl ?_
  refine V_getfield rfl rfl (by first | assumption | exact blkW_0 | exact bAt_0 (by assumption) | exact bAt_0 (hA _ _) | rfl) (by rfl) ?_
  refine V_getI rfl rfl (by first | assumption | exact blkW_0 | exact bAt_0 (by assumption) | exact bAt_0 (hA _ _) | rfl) (by rfl) (by first | exact (by assumption) | rfl) ?_
  refine V_aload_n rfl rfl ?_
  refine V_getfield rfl rfl (by first | assumption | exact blkW_0 | exact bAt_0 (by assumption) | exact bAt_0 (hA _ _) | rfl) (by rfl) ?_
  refine V_getI rfl rfl (by first | assumption | exact blkW_0 | exact bAt_0 (by assumption) | exact bAt_0 (hA _ _) | rfl) (by rfl) (by first | exact (by assumption) | rfl) ?_
  refine V_callV rfl rfl m_Flow_follow_w m_Flow_follow_x rfl (by decide) rfl (w_follow hE.2.1 hp hx hF) (by decide) rfl (by first | assumption | exact blkW_0 | exact bAt_0 (by assumption) | exact bAt_0 (hA _ _) | rfl) (Nat.le_of_ble_eq_true rfl) (by first | exact Nat.le_refl _ | omega | decide) (by first | exact Nat.le_refl _ | omega | decide) (fun r hh1 hP => ?_)
  obtain ⟨rfl, fsc', far', rfl, f1, f2, f3, f4⟩ := hP
  have h1 := hE.1 fsc' far'
  refine V_aload_n rfl rfl ?_
  refine V_getfield rfl rfl (by first | assumption | exact blkW_0 | exact bAt_0 (by assumption) | exact bAt_0 (hA _ _) | rfl) (by rfl) ?_
  refine V_areturn rfl rfl ?_
  exact ⟨rfl, fsc', far', rfl, f1, f2, f3, f4⟩
set_option maxRecDepth 20000 in
set_option maxHeartbeats 1000000 in
theorem w_wid (hE : EW h pl sp fp psc par_ ss sa) (hp : CP p psc par_) (hx : WX p) (hF : FO p false fsc far) (hL : ss 0 = N 0) (hR : ss 1 = N 1) {c : Nat} (hc : c < nC p) : Mt g 5 m_EB_whatItDoes [.ref 1, .int (nI c)] (blkW 0 h 74 fsc far) sz u (PE (dos p (rch p N 0).1 (rch p N 0).2 c) h p) sz u := by
  have hq := hp.1
  obtain ⟨hT, hB, hS, hC⟩ := hp.1.1.1
  have hcs := (hq.1.2.2.2.2 c hc).1
  have hw := hq.1.2.2.2.1 (cS p c) hcs
  have h1 := hE.1 fsc far
  refine Mt.of m_EB_whatItDoes_w m_EB_whatItDoes_x m_EB_whatItDoes_c rfl rfl (ls := [.ref 1, .int (nI c), .retAddr 0, .retAddr 0]) rfl ?_
  refine V_aload_n rfl rfl ?_
  refine V_callV rfl rfl m_EB_flowNow_w m_EB_flowNow_x rfl (by decide) rfl (w_flowNow hE hp hx hF hL hR) (by decide) rfl (by first | assumption | exact blkW_0 | exact bAt_0 (by assumption) | exact bAt_0 (hA _ _) | rfl) (Nat.le_of_ble_eq_true rfl) (by first | exact Nat.le_refl _ | omega | decide) (by first | exact Nat.le_refl _ | omega | decide) (fun r hh1 hP => ?_)
  obtain ⟨rfl, fsc', far', rfl, hFF⟩ := hP
  have h1 := hE.1 fsc' far'
  have hP := hE.2.1 fsc' far'
  have e0 := FF_0 hFF
  have e1 := FF_1 hFF
  refine V_as2 rfl (by first | rfl | assumption) ?_
  refine V_aload_n rfl rfl ?_
  refine V_getfield rfl rfl (by first | assumption | exact blkW_0 | exact bAt_0 (by assumption) | exact bAt_0 (hA _ _) | rfl) (by rfl) ?_
  refine V_getfield rfl rfl (by first | assumption | exact blkW_0 | exact bAt_0 (by assumption) | exact bAt_0 (hA _ _) | rfl) (by rfl) ?_
  refine V_iload_n rfl rfl ?_
  refine V_callSi rfl rfl (Or.inl rfl) m_EB_at_w m_EB_at_x rfl rfl (s_atv (by first | assumption | exact blkW_i rfl rfl | exact bAt_i (by assumption) rfl rfl | exact bAt_i (hA _ _) rfl rfl) (by decide) _ (by first | exact (atV_in (by first | omega | assumption) (by decide)).trans (cq_par (by assumption) (by first | omega | assumption)) | exact (atV_in (by first | omega | assumption) (by decide)).trans (cq_abv (by assumption) (by first | omega | assumption)) | exact (atV_in (by first | omega | assumption) (by decide)).trans (cq_bel (by assumption) (by first | omega | assumption)) | exact (atV_in (by first | omega | assumption) (by decide)).trans (cq_dep (by assumption) (by first | omega | assumption)) | exact (atV_in (by first | omega | assumption) (by decide)).trans (cq_bT (by assumption) (by first | omega | assumption)) | exact (atV_in (by first | omega | assumption) (by decide)).trans (cq_bM (by assumption) (by first | omega | assumption)) | exact (atV_in (by first | omega | assumption) (by decide)).trans (cq_sK (by assumption) (by first | omega | assumption)) | exact (atV_in (by first | omega | assumption) (by decide)).trans (cq_sB (by assumption) (by first | omega | assumption)) | exact (atV_in (by first | omega | assumption) (by decide)).trans (cq_sT (by assumption) (by first | omega | assumption)) | exact (atV_in (by first | omega | assumption) (by decide)).trans (cq_sM (by assumption) (by first | omega | assumption)) | exact (atV_in (by first | omega | assumption) (by decide)).trans (cq_cS (by assumption) (by first | omega | assumption)) | exact atV_in (by first | omega | assumption) (by decide) | exact atV_m1 | rfl)) (by decide) rfl (Nat.le_of_ble_eq_true rfl) ?_
  refine V_is3 rfl (by first | rfl | assumption) ?_
  refine V_aload_n rfl rfl ?_
  refine V_getI rfl rfl blkW_0 (by rfl) e0 ?_
  refine V_aload_n rfl rfl ?_
  refine V_getfield rfl rfl (by first | assumption | exact blkW_0 | exact bAt_0 (by assumption) | exact bAt_0 (hA _ _) | rfl) (by rfl) ?_
  refine V_getfield rfl rfl (by first | assumption | exact blkW_0 | exact bAt_0 (by assumption) | exact bAt_0 (hA _ _) | rfl) (by rfl) ?_
  refine V_iload_n rfl rfl ?_
  refine V_callSi rfl rfl (Or.inl rfl) m_EB_at_w m_EB_at_x rfl rfl (s_atv (by first | assumption | exact blkW_i rfl rfl | exact bAt_i (by assumption) rfl rfl | exact bAt_i (hA _ _) rfl rfl) (by decide) _ (by first | exact (atV_in (by first | omega | assumption) (by decide)).trans (cq_par (by assumption) (by first | omega | assumption)) | exact (atV_in (by first | omega | assumption) (by decide)).trans (cq_abv (by assumption) (by first | omega | assumption)) | exact (atV_in (by first | omega | assumption) (by decide)).trans (cq_bel (by assumption) (by first | omega | assumption)) | exact (atV_in (by first | omega | assumption) (by decide)).trans (cq_dep (by assumption) (by first | omega | assumption)) | exact (atV_in (by first | omega | assumption) (by decide)).trans (cq_bT (by assumption) (by first | omega | assumption)) | exact (atV_in (by first | omega | assumption) (by decide)).trans (cq_bM (by assumption) (by first | omega | assumption)) | exact (atV_in (by first | omega | assumption) (by decide)).trans (cq_sK (by assumption) (by first | omega | assumption)) | exact (atV_in (by first | omega | assumption) (by decide)).trans (cq_sB (by assumption) (by first | omega | assumption)) | exact (atV_in (by first | omega | assumption) (by decide)).trans (cq_sT (by assumption) (by first | omega | assumption)) | exact (atV_in (by first | omega | assumption) (by decide)).trans (cq_sM (by assumption) (by first | omega | assumption)) | exact (atV_in (by first | omega | assumption) (by decide)).trans (cq_cS (by assumption) (by first | omega | assumption)) | exact atV_in (by first | omega | assumption) (by decide) | exact atV_m1 | rfl)) (by decide) rfl (Nat.le_of_ble_eq_true rfl) ?_
  refine V_callSi rfl rfl (Or.inl rfl) m_EB_has_w m_EB_has_x rfl rfl (s_hasv _ _ (by first | exact hasV_b (by first | omega | assumption) _ | exact hasV_m1 _ | rfl)) (by decide) rfl (Nat.le_of_ble_eq_true rfl) ?_
  unfold dos
  cases hb : bt (rch p N 0).1 (sB p (cS p c))
  · refine V_if_eqT rfl (rfl) ?_
    refine V_iconst (v := 0) rfl (by decide) ?_
    refine V_ireturn rfl rfl (by first | rfl | exact b2_nar _ | assumption | decide) ?_
    exact PE_r hFF.1 rfl
  · refine V_if_eqF rfl (by decide) ?_
    refine V_aload_n rfl rfl ?_
    refine V_getfield rfl rfl (by first | assumption | exact blkW_0 | exact bAt_0 (by assumption) | exact bAt_0 (hA _ _) | rfl) (by rfl) ?_
    refine V_iload_n rfl rfl ?_
    refine V_aload_n rfl rfl ?_
    refine V_getI rfl rfl blkW_0 (by rfl) e1 ?_
    refine V_callVi rfl rfl m_Plan_calledBy_w m_Plan_calledBy_x rfl (by decide) rfl (s_ccB (by first | assumption | exact hA _ _) (by assumption) (by assumption) (by first | omega | assumption) _) (by decide) rfl (by first | assumption | exact blkW_0 | exact bAt_0 (by assumption) | exact bAt_0 (hA _ _) | rfl) (Nat.le_of_ble_eq_true rfl) ?_
    refine V_goto rfl ?_
    refine V_ireturn rfl rfl (by first | rfl | exact b2_nar _ | assumption | decide) ?_
    exact PE_r hFF.1 rfl
end eb2
