/-! ===== the class's Plan: what it reads ===== -/
section leaf2
variable {g : mG} {h : mH} {sz u : Nat}
set_option maxRecDepth 20000 in
set_option maxHeartbeats 1000000 in
theorem s_atv {a n : Nat} {f : Nat → Int32} {v : Int32} (hh : h a = cI n f) (hn : n < 2 ^ 31) (i : Int32) (hv : atV n f i = v) : Mt g 0 m_EB_at [.ref a, .int i] h sz u (Pi v h) sz u := hv ▸ s_at hh hn i
set_option maxRecDepth 20000 in
set_option maxHeartbeats 1000000 in
theorem s_bitv (k : Int32) {v : Int32} (hv : bitV k = v) : Mt g 0 m_EB_bit [.int k] h sz u (Pi v h) sz u := hv ▸ s_bit k
set_option maxRecDepth 20000 in
set_option maxHeartbeats 1000000 in
theorem s_hasv (S k : Int32) {v : Int32} (hv : hasV S k = v) : Mt g 0 m_EB_has [.int S, .int k] h sz u (Pi v h) sz u := hv ▸ s_has S k
set_option maxRecDepth 20000 in
set_option maxHeartbeats 1000000 in
theorem s_least (S : Int32) : Mt g 1 m_EB_least [.int S] h sz u (Pi (leastV S) h) sz u := by
  refine Mt.of m_EB_least_w m_EB_least_x m_EB_least_c rfl rfl (ls := [.int S]) rfl ?_
  refine V_iload_n rfl rfl ?_
  by_cases e : S = 0
  · refine V_if_neF rfl (e) ?_
    refine V_iconst (v := (-1)) rfl (by decide) ?_
    refine V_goto rfl ?_
    refine V_ireturn rfl rfl (by first | rfl | exact b2_nar _ | assumption | decide) ?_
    exact P_ret (by unfold leastV; rw [if_pos e]) rfl
  · have hx : ∃ k, k < 32 ∧ bt S k = true := by
      refine Classical.byContradiction fun q => e (b_ext fun i hi => ?_)
      rw [b_0]
      cases hb : bt S i
      · rfl
      · exact absurd ⟨i, hi, hb⟩ q
    refine V_if_neT rfl (e) ?_
    refine V_iload_n rfl rfl ?_
    refine V_callSi rfl rfl (Or.inl rfl) m_Int_numberOfTrailingZeros_w m_Int_numberOfTrailingZeros_x rfl rfl (s_ntz _ hx) (by decide) rfl (Nat.le_of_ble_eq_true rfl) ?_
    refine V_ireturn rfl rfl (by first | rfl | exact b2_nar _ | assumption | decide) ?_
    exact P_ret (by unfold leastV; rw [if_neg e]) rfl
def keyV (t m : Int32) : Int32 := if inN t 12 && inN m 6 then t * 6 + m else -1
theorem keyV_in {t m : Nat} (ht : t < 12) (hm : m < 6) : keyV (nI t) (nI m) = nI (t * 6 + m) := by
  unfold keyV
  rw [inN_nI ht (by decide), inN_nI hm (by decide)]
  show nI t * nI 6 + nI m = _
  rw [pk_mul, nI_add]
theorem inN_no1 {x : Int32} {n : Nat} (h : x < 0) : inN x n = false := decide_eq_false fun q => fa_of_nlt2 q.1 h
theorem inN_no2 {x : Int32} {n : Nat} (h : nI n ≤ x) : inN x n = false := decide_eq_false fun q => fa_of_nlt2 h q.2
theorem inN_yes {x : Int32} {n : Nat} (h : ¬ x < 0) (h2 : ¬ nI n ≤ x) : inN x n = true := decide_eq_true ⟨fa_of_nlt h, fa_of_nle h2⟩
set_option maxRecDepth 20000 in
set_option maxHeartbeats 1000000 in
theorem s_keyR (t m : Int32) : Mt g 0 m_Plan_key [.int t, .int m] h sz u (Pi (keyV t m) h) sz u := by
  refine Mt.of m_Plan_key_w m_Plan_key_x m_Plan_key_c rfl rfl (ls := [.int t, .int m, .retAddr 0]) rfl ?_
  have no : (inN t 12 && inN m 6) = false → V g 0 m_Plan_key (Pi (keyV t m) h) sz u 24 [.int t, .int m, .retAddr 0] [] h sz u := by
    intro e
    refine V_iconst (v := 0) rfl (by decide) ?_
    refine V_is2 rfl (by first | rfl | assumption) ?_
    refine V_iload_n rfl rfl ?_
    refine V_if_eqT rfl (rfl) ?_
    refine V_iconst (v := (-1)) rfl (by decide) ?_
    refine V_ireturn rfl rfl (by first | rfl | exact b2_nar _ | assumption | decide) ?_
    exact P_ret (by unfold keyV; rw [e]; rfl) rfl
  refine V_iload_n rfl rfl ?_
  refine V_if_lt rfl (fun h1 => ?_) (fun h1 => ?_)
  · exact no (by rw [inN_no1 h1]; rfl)
  · refine V_iload_n rfl rfl ?_
    refine V_bipush (v := 12) rfl (by decide) ?_
    refine V_icmp_ge rfl (fun h7 => ?_) (fun h7 => ?_)
    · exact no (by rw [inN_no2 (n := 12) h7]; rfl)
    · refine V_iload_n rfl rfl ?_
      refine V_if_lt rfl (fun h11 => ?_) (fun h11 => ?_)
      · exact no (by rw [inN_no1 (x := m) h11, Bool.and_false])
      · refine V_iload_n rfl rfl ?_
        refine V_bipush (v := 6) rfl (by decide) ?_
        refine V_icmp_ge rfl (fun h17 => ?_) (fun h17 => ?_)
        · exact no (by rw [inN_no2 (x := m) (n := 6) h17, Bool.and_false])
        · refine V_iconst (v := 1) rfl (by decide) ?_
          refine V_goto rfl ?_
          refine V_is2 rfl (by first | rfl | assumption) ?_
          refine V_iload_n rfl rfl ?_
          refine V_if_eqF rfl (by decide) ?_
          refine V_iload_n rfl rfl ?_
          refine V_bipush (v := 6) rfl (by decide) ?_
          refine V_imul rfl ?_
          refine V_iload_n rfl rfl ?_
          refine V_iadd rfl ?_
          refine V_goto rfl ?_
          refine V_ireturn rfl rfl (by first | rfl | exact b2_nar _ | assumption | decide) ?_
          exact P_ret (by unfold keyV; rw [inN_yes (n := 12) h1 h7, inN_yes (n := 6) h11 h17]; rfl) rfl
set_option maxRecDepth 20000 in
set_option maxHeartbeats 1000000 in
theorem s_keyv (t m : Int32) {v : Int32} (hv : keyV t m = v) : Mt g 0 m_Plan_key [.int t, .int m] h sz u (Pi v h) sz u := hv ▸ s_keyR t m
end leaf2
def stT (p : Pg) (s : Nat) : Int32 := if sK p s = 2 then par p (bT p (sB p s)) else nI (sT p s)
def stM (p : Pg) (s : Nat) : Int32 := if sK p s = 0 then -1 else nI (sM p s)
/-- the class's rows hold the tables p: all but what is found -/
def CQ (p : Pg) (sc : Nat → Int32) (ar : Nat → Nat → Int32) : Prop := WB p ∧ (sc 0 = nI (nT p) ∧ sc 1 = setF (nT p) (isC p) ∧ sc 2 = nI (nB p) ∧ sc 3 = nI (nS p) ∧ sc 4 = nI (nC p)) ∧ (∀ t, t < nT p → ar 5 t = par p t ∧ ar 6 t = abv p t ∧ ar 7 t = setF (nT p) (fun x => bt (abv p x) t) ∧ ar 8 t = dep p t) ∧ (∀ b, b < nB p → ar 9 b = nI (bT p b) ∧ ar 10 b = nI (bM p b)) ∧ (∀ s, s < nS p → ar 11 s = nI (sK p s) ∧ ar 12 s = nI (sB p s) ∧ ar 13 s = stT p s ∧ ar 14 s = stM p s) ∧ (∀ c, c < nC p → ar 15 c = nI (cS p c)) ∧ (∀ t m, t < 12 → m < 6 → ar 16 (t * 6 + m) = bodyOf p t m)
def CP (p : Pg) (sc : Nat → Int32) (ar : Nat → Nat → Int32) : Prop := CQ p sc ar ∧ ∀ t, t < nT p → isC p t = true → ∀ m, m < 6 → ar 17 (t * 6 + m) = fnd p t m
section cq
variable {p : Pg} {sc : Nat → Int32} {ar : Nat → Nat → Int32}
theorem cq_nT (h : CQ p sc ar) : sc 0 = nI (nT p) := h.2.1.1
theorem cq_cl (h : CQ p sc ar) : sc 1 = setF (nT p) (isC p) := h.2.1.2.1
theorem cq_nB (h : CQ p sc ar) : sc 2 = nI (nB p) := h.2.1.2.2.1
theorem cq_nS (h : CQ p sc ar) : sc 3 = nI (nS p) := h.2.1.2.2.2.1
theorem cq_nC (h : CQ p sc ar) : sc 4 = nI (nC p) := h.2.1.2.2.2.2
theorem cq_par (h : CQ p sc ar) {t : Nat} (ht : t < nT p) : ar 5 t = par p t := (h.2.2.1 t ht).1
theorem cq_abv (h : CQ p sc ar) {t : Nat} (ht : t < nT p) : ar 6 t = abv p t := (h.2.2.1 t ht).2.1
theorem cq_bel (h : CQ p sc ar) {t : Nat} (ht : t < nT p) : ar 7 t = setF (nT p) (fun x => bt (abv p x) t) := (h.2.2.1 t ht).2.2.1
theorem cq_dep (h : CQ p sc ar) {t : Nat} (ht : t < nT p) : ar 8 t = dep p t := (h.2.2.1 t ht).2.2.2
theorem cq_bT (h : CQ p sc ar) {b : Nat} (hb : b < nB p) : ar 9 b = nI (bT p b) := (h.2.2.2.1 b hb).1
theorem cq_bM (h : CQ p sc ar) {b : Nat} (hb : b < nB p) : ar 10 b = nI (bM p b) := (h.2.2.2.1 b hb).2
theorem cq_sK (h : CQ p sc ar) {s : Nat} (hs : s < nS p) : ar 11 s = nI (sK p s) := (h.2.2.2.2.1 s hs).1
theorem cq_sB (h : CQ p sc ar) {s : Nat} (hs : s < nS p) : ar 12 s = nI (sB p s) := (h.2.2.2.2.1 s hs).2.1
theorem cq_sT (h : CQ p sc ar) {s : Nat} (hs : s < nS p) : ar 13 s = stT p s := (h.2.2.2.2.1 s hs).2.2.1
theorem cq_sM (h : CQ p sc ar) {s : Nat} (hs : s < nS p) : ar 14 s = stM p s := (h.2.2.2.2.1 s hs).2.2.2
theorem cq_cS (h : CQ p sc ar) {c : Nat} (hc : c < nC p) : ar 15 c = nI (cS p c) := h.2.2.2.2.2.1 c hc
theorem cq_own (h : CQ p sc ar) {t m : Nat} (ht : t < 12) (hm : m < 6) : ar 16 (t * 6 + m) = bodyOf p t m := h.2.2.2.2.2.2 t m ht hm
end cq
theorem bt_cls {p : Pg} (hT : nT p ≤ 12) {t : Nat} (ht : t < nT p) : bt (setF (nT p) (isC p)) t = isC p t := by
  cases h : isC p t
  · cases hb : bt (setF (nT p) (isC p)) t
    · rfl
    · have := ((bt_setF (by omega)).mp hb).2
      rw [h] at this; cases this
  · exact (bt_setF (by omega)).mpr ⟨ht, h⟩
theorem nI_m1 {k : Nat} (h : k < 2 ^ 31) : ¬ nI k = -1 := fun e => nI_pos h (by rw [e]; decide)
theorem bodyOf_m1 {p : Pg} {t m : Nat} (hB : nB p ≤ 20) : ¬ bodyOf p t m = -1 ↔ hasB p t m = true := by
  unfold bodyOf hasB oB
  by_cases hk : fBod p t m < nB p
  · rw [if_pos hk, decide_eq_true hk]
    exact ⟨fun _ => rfl, fun _ => nI_m1 (by omega)⟩
  · rw [if_neg hk, decide_eq_false hk]
    exact ⟨fun q => absurd rfl q, fun q => by cases q⟩
section plan
variable {g : mG} {h : mH} {sz u pl : Nat} {p : Pg} {sc : Nat → Int32} {ar : Nat → Nat → Int32}
set_option maxRecDepth 20000 in
set_option maxHeartbeats 1000000 in
theorem s_isCl (hA : bAt 3 h pl sc ar) (hq : CQ p sc ar) {t : Nat} (ht : t < nT p) : Mt g 1 m_Plan_isClass [.ref pl, .int (nI t)] h sz u (Pi (b2 (isC p t)) h) sz u := by
  obtain ⟨hT, hB, hS, hC⟩ := hq.1.1
  refine Mt.of m_Plan_isClass_w m_Plan_isClass_x m_Plan_isClass_c rfl rfl (ls := [.ref pl, .int (nI t)]) rfl ?_
  refine V_aload_n rfl rfl ?_
  refine V_getI rfl rfl (by first | assumption | exact blkW_0 | exact bAt_0 (by assumption) | rfl) (by rfl) (by first | exact cq_cl (by assumption) | rfl) ?_
  refine V_iload_n rfl rfl ?_
  refine V_callSi rfl rfl (Or.inr rfl) m_EB_has_w m_EB_has_x rfl rfl (s_hasv _ _ (by first | exact hasV_b (by first | omega | assumption) _ | exact hasV_m1 _ | rfl)) (by decide) rfl (Nat.le_of_ble_eq_true rfl) ?_
  rw [bt_cls hT ht]
  refine V_ireturn rfl rfl (by first | rfl | exact b2_nar _ | assumption | decide) ?_
  exact P_ret rfl rfl
set_option maxRecDepth 20000 in
set_option maxHeartbeats 1000000 in
theorem s_own (hA : bAt 3 h pl sc ar) (hq : CQ p sc ar) {t m : Nat} (ht : t < 12) (hm : m < 6) : Mt g 1 m_Plan_ownBody [.ref pl, .int (nI t), .int (nI m)] h sz u (Pi (bodyOf p t m) h) sz u := by
  obtain ⟨hT, hB, hS, hC⟩ := hq.1.1
  refine Mt.of m_Plan_ownBody_w m_Plan_ownBody_x m_Plan_ownBody_c rfl rfl (ls := [.ref pl, .int (nI t), .int (nI m)]) rfl ?_
  refine V_aload_n rfl rfl ?_
  refine V_getfield rfl rfl (by first | assumption | exact blkW_0 | exact bAt_0 (by assumption) | rfl) (by rfl) ?_
  refine V_iload_n rfl rfl ?_
  refine V_iload_n rfl rfl ?_
  refine V_callSi rfl rfl (Or.inl rfl) m_Plan_key_w m_Plan_key_x rfl rfl (s_keyv _ _ (by first | exact keyV_in (by first | omega | assumption) (by first | omega | assumption) | rfl)) (by decide) rfl (Nat.le_of_ble_eq_true rfl) ?_
  refine V_callSi rfl rfl (Or.inr rfl) m_EB_at_w m_EB_at_x rfl rfl (s_atv (bAt_i hA rfl rfl) (by decide) _ ((atV_in (by omega) (by decide)).trans (cq_own hq ht hm))) (by decide) rfl (Nat.le_of_ble_eq_true rfl) ?_
  refine V_ireturn rfl rfl (by first | rfl | exact b2_nar _ | assumption | decide) ?_
  exact P_ret rfl rfl
set_option maxRecDepth 20000 in
set_option maxHeartbeats 1000000 in
theorem s_fdF (hA : bAt 3 h pl sc ar) (hp : CP p sc ar) {t m : Nat} (ht : t < nT p) (hm : m < 6) (hc : isC p t = true) : Mt g 1 m_Plan_foundFor [.ref pl, .int (nI t), .int (nI m)] h sz u (Pi (fnd p t m) h) sz u := by
  obtain ⟨hT, hB, hS, hC⟩ := hp.1.1.1
  refine Mt.of m_Plan_foundFor_w m_Plan_foundFor_x m_Plan_foundFor_c rfl rfl (ls := [.ref pl, .int (nI t), .int (nI m)]) rfl ?_
  refine V_aload_n rfl rfl ?_
  refine V_getfield rfl rfl (by first | assumption | exact blkW_0 | exact bAt_0 (by assumption) | rfl) (by rfl) ?_
  refine V_iload_n rfl rfl ?_
  refine V_iload_n rfl rfl ?_
  refine V_callSi rfl rfl (Or.inl rfl) m_Plan_key_w m_Plan_key_x rfl rfl (s_keyv _ _ (by first | exact keyV_in (by first | omega | assumption) (by first | omega | assumption) | rfl)) (by decide) rfl (Nat.le_of_ble_eq_true rfl) ?_
  refine V_callSi rfl rfl (Or.inr rfl) m_EB_at_w m_EB_at_x rfl rfl (s_atv (bAt_i hA rfl rfl) (by decide) _ ((atV_in (by omega) (by decide)).trans (hp.2 t ht hc m hm))) (by decide) rfl (Nat.le_of_ble_eq_true rfl) ?_
  refine V_ireturn rfl rfl (by first | rfl | exact b2_nar _ | assumption | decide) ?_
  exact P_ret rfl rfl
set_option maxRecDepth 20000 in
set_option maxHeartbeats 1000000 in
theorem s_mdB (hA : bAt 3 h pl sc ar) (hq : CQ p sc ar) {s : Nat} (hs : s < nS p) : Mt g 1 m_Plan_madeBy [.ref pl, .int (nI s)] h sz u (Pi (cnd (sK p s == 0) (bI (sT p s))) h) sz u := by
  obtain ⟨hT, hB, hS, hC⟩ := hq.1.1
  have hw := hq.1.2.2.2.1 s hs
  refine Mt.of m_Plan_madeBy_w m_Plan_madeBy_x m_Plan_madeBy_c rfl rfl (ls := [.ref pl, .int (nI s)]) rfl ?_
  refine V_aload_n rfl rfl ?_
  refine V_getfield rfl rfl (by first | assumption | exact blkW_0 | exact bAt_0 (by assumption) | rfl) (by rfl) ?_
  refine V_iload_n rfl rfl ?_
  refine V_callSi rfl rfl (Or.inr rfl) m_EB_at_w m_EB_at_x rfl rfl (s_atv (by first | assumption | exact blkW_i rfl rfl | exact bAt_i (by assumption) rfl rfl) (by decide) _ (by first | exact (atV_in (by first | omega | assumption) (by decide)).trans (cq_par (by assumption) (by first | omega | assumption)) | exact (atV_in (by first | omega | assumption) (by decide)).trans (cq_abv (by assumption) (by first | omega | assumption)) | exact (atV_in (by first | omega | assumption) (by decide)).trans (cq_bel (by assumption) (by first | omega | assumption)) | exact (atV_in (by first | omega | assumption) (by decide)).trans (cq_dep (by assumption) (by first | omega | assumption)) | exact (atV_in (by first | omega | assumption) (by decide)).trans (cq_bT (by assumption) (by first | omega | assumption)) | exact (atV_in (by first | omega | assumption) (by decide)).trans (cq_bM (by assumption) (by first | omega | assumption)) | exact (atV_in (by first | omega | assumption) (by decide)).trans (cq_sK (by assumption) (by first | omega | assumption)) | exact (atV_in (by first | omega | assumption) (by decide)).trans (cq_sB (by assumption) (by first | omega | assumption)) | exact (atV_in (by first | omega | assumption) (by decide)).trans (cq_sT (by assumption) (by first | omega | assumption)) | exact (atV_in (by first | omega | assumption) (by decide)).trans (cq_sM (by assumption) (by first | omega | assumption)) | exact (atV_in (by first | omega | assumption) (by decide)).trans (cq_cS (by assumption) (by first | omega | assumption)) | exact atV_in (by first | omega | assumption) (by decide) | exact atV_m1 | rfl)) (by decide) rfl (Nat.le_of_ble_eq_true rfl) ?_
  by_cases e : sK p s = 0
  · have e2 : stT p s = nI (sT p s) := by unfold stT; rw [if_neg (by omega)]
    refine V_if_neF rfl (by rw [e]; rfl) ?_
    refine V_aload_n rfl rfl ?_
    refine V_getfield rfl rfl (by first | assumption | exact blkW_0 | exact bAt_0 (by assumption) | rfl) (by rfl) ?_
    refine V_iload_n rfl rfl ?_
    refine V_callSi rfl rfl (Or.inr rfl) m_EB_at_w m_EB_at_x rfl rfl (s_atv (by first | assumption | exact blkW_i rfl rfl | exact bAt_i (by assumption) rfl rfl) (by decide) _ (by first | exact (atV_in (by first | omega | assumption) (by decide)).trans (cq_par (by assumption) (by first | omega | assumption)) | exact (atV_in (by first | omega | assumption) (by decide)).trans (cq_abv (by assumption) (by first | omega | assumption)) | exact (atV_in (by first | omega | assumption) (by decide)).trans (cq_bel (by assumption) (by first | omega | assumption)) | exact (atV_in (by first | omega | assumption) (by decide)).trans (cq_dep (by assumption) (by first | omega | assumption)) | exact (atV_in (by first | omega | assumption) (by decide)).trans (cq_bT (by assumption) (by first | omega | assumption)) | exact (atV_in (by first | omega | assumption) (by decide)).trans (cq_bM (by assumption) (by first | omega | assumption)) | exact (atV_in (by first | omega | assumption) (by decide)).trans (cq_sK (by assumption) (by first | omega | assumption)) | exact (atV_in (by first | omega | assumption) (by decide)).trans (cq_sB (by assumption) (by first | omega | assumption)) | exact (atV_in (by first | omega | assumption) (by decide)).trans (cq_sT (by assumption) (by first | omega | assumption)) | exact (atV_in (by first | omega | assumption) (by decide)).trans (cq_sM (by assumption) (by first | omega | assumption)) | exact (atV_in (by first | omega | assumption) (by decide)).trans (cq_cS (by assumption) (by first | omega | assumption)) | exact atV_in (by first | omega | assumption) (by decide) | exact atV_m1 | rfl)) (by decide) rfl (Nat.le_of_ble_eq_true rfl) ?_
    rw [e2]
    refine V_callSi rfl rfl (Or.inr rfl) m_EB_bit_w m_EB_bit_x rfl rfl (s_bitv _ (by first | exact bitV_b (by first | omega | assumption) | exact bitV_m1 | rfl)) (by decide) rfl (Nat.le_of_ble_eq_true rfl) ?_
    refine V_goto rfl ?_
    refine V_ireturn rfl rfl (by first | rfl | exact b2_nar _ | assumption | decide) ?_
    exact P_ret (by rw [e]; rfl) rfl
  · refine V_if_neT rfl (nI_ne0 (by omega) (by omega)) ?_
    refine V_iconst (v := 0) rfl (by decide) ?_
    refine V_ireturn rfl rfl (by first | rfl | exact b2_nar _ | assumption | decide) ?_
    exact P_ret (by simp [e, cnd]) rfl
set_option maxRecDepth 20000 in
set_option maxHeartbeats 1000000 in
theorem s_boS (hA : bAt 3 h pl sc ar) (hq : CQ p sc ar) (S : Int32) : Mt g 1 m_Plan_bodiesOf [.ref pl, .int S] h sz u (Pi (setF (nB p) fun b => bt S (bT p b)) h) sz u := by
  obtain ⟨hT, hB, hS, hC⟩ := hq.1.1
  refine Mt.of m_Plan_bodiesOf_w m_Plan_bodiesOf_x m_Plan_bodiesOf_c rfl rfl (ls := [.ref pl, .int S, .retAddr 0, .retAddr 0]) rfl ?_
  refine V_iconst (v := 0) rfl (by decide) ?_
  refine V_is2 rfl (by first | rfl | assumption) ?_
  refine V_iconst (v := 0) rfl (by decide) ?_
  refine V_is3 rfl (by first | rfl | assumption) ?_
  refine V_for2 (nB p) (fun i => [.ref pl, .int S, .int (setF i fun b => bt S (bT p b)), .int (nI i)]) (fun _ => h) rfl rfl (fun i hi ih => ?_) ?_
  · have hw := hq.1.2.2.1 i hi
    refine V_iload_n rfl rfl ?_
    refine V_aload_n rfl rfl ?_
    refine V_getI rfl rfl (by first | assumption | exact blkW_0 | exact bAt_0 (by assumption) | rfl) (by rfl) (by first | exact cq_nB (by assumption) | rfl) ?_
    refine V_icmp_geF rfl (nI_ge hi (by omega)) ?_
    refine V_iload_n rfl rfl ?_
    refine V_aload_n rfl rfl ?_
    refine V_getfield rfl rfl (by first | assumption | exact blkW_0 | exact bAt_0 (by assumption) | rfl) (by rfl) ?_
    refine V_iload_n rfl rfl ?_
    refine V_callSi rfl rfl (Or.inr rfl) m_EB_at_w m_EB_at_x rfl rfl (s_atv (by first | assumption | exact blkW_i rfl rfl | exact bAt_i (by assumption) rfl rfl) (by decide) _ (by first | exact (atV_in (by first | omega | assumption) (by decide)).trans (cq_par (by assumption) (by first | omega | assumption)) | exact (atV_in (by first | omega | assumption) (by decide)).trans (cq_abv (by assumption) (by first | omega | assumption)) | exact (atV_in (by first | omega | assumption) (by decide)).trans (cq_bel (by assumption) (by first | omega | assumption)) | exact (atV_in (by first | omega | assumption) (by decide)).trans (cq_dep (by assumption) (by first | omega | assumption)) | exact (atV_in (by first | omega | assumption) (by decide)).trans (cq_bT (by assumption) (by first | omega | assumption)) | exact (atV_in (by first | omega | assumption) (by decide)).trans (cq_bM (by assumption) (by first | omega | assumption)) | exact (atV_in (by first | omega | assumption) (by decide)).trans (cq_sK (by assumption) (by first | omega | assumption)) | exact (atV_in (by first | omega | assumption) (by decide)).trans (cq_sB (by assumption) (by first | omega | assumption)) | exact (atV_in (by first | omega | assumption) (by decide)).trans (cq_sT (by assumption) (by first | omega | assumption)) | exact (atV_in (by first | omega | assumption) (by decide)).trans (cq_sM (by assumption) (by first | omega | assumption)) | exact (atV_in (by first | omega | assumption) (by decide)).trans (cq_cS (by assumption) (by first | omega | assumption)) | exact atV_in (by first | omega | assumption) (by decide) | exact atV_m1 | rfl)) (by decide) rfl (Nat.le_of_ble_eq_true rfl) ?_
    refine V_callSi rfl rfl (Or.inr rfl) m_EB_has_w m_EB_has_x rfl rfl (s_hasv _ _ (by first | exact hasV_b (by first | omega | assumption) _ | exact hasV_m1 _ | rfl)) (by decide) rfl (Nat.le_of_ble_eq_true rfl) ?_
    first | refine V_ifb_eq rfl (fun h24 => ?_) (fun h24 => ?_) | refine V_if_eq rfl (fun h24 => ?_) (fun h24 => ?_)
    · refine V_inc3 rfl (by first | exact mInc _ | rfl) (by first | rfl | assumption) ?_
      refine V_goto rfl ?_
      exact V_wk ih (by simp [mWk, setF_s, cnd, *])
    · refine V_iload_n rfl rfl ?_
      refine V_iload_n rfl rfl ?_
      refine V_callSi rfl rfl (Or.inr rfl) m_EB_bit_w m_EB_bit_x rfl rfl (s_bitv _ (by first | exact bitV_b (by first | omega | assumption) | exact bitV_m1 | rfl)) (by decide) rfl (Nat.le_of_ble_eq_true rfl) ?_
      refine V_ior rfl ?_
      refine V_is2 rfl (by first | rfl | assumption) ?_
      refine V_inc3 rfl (by first | exact mInc _ | rfl) (by first | rfl | assumption) ?_
      refine V_goto rfl ?_
      exact V_wk ih (by simp [mWk, setF_s, cnd, *])
  · refine V_iload_n rfl rfl ?_
    refine V_aload_n rfl rfl ?_
    refine V_getI rfl rfl (by first | assumption | exact blkW_0 | exact bAt_0 (by assumption) | rfl) (by rfl) (by first | exact cq_nB (by assumption) | rfl) ?_
    refine V_icmp_geT rfl (nI_le (Nat.le_refl _) (by omega)) ?_
    refine V_iload_n rfl rfl ?_
    refine V_ireturn rfl rfl (by first | rfl | exact b2_nar _ | assumption | decide) ?_
    exact P_ret rfl rfl
set_option maxRecDepth 20000 in
set_option maxHeartbeats 1000000 in
theorem s_btm (hA : bAt 3 h pl sc ar) (hq : CQ p sc ar) {t : Nat} (ht : t < nT p) : Mt g 2 m_Plan_bodiesThatMake [.ref pl, .int (nI t)] h sz u (Pi (mkrS p t) h) sz u := by
  obtain ⟨hT, hB, hS, hC⟩ := hq.1.1
  refine Mt.of m_Plan_bodiesThatMake_w m_Plan_bodiesThatMake_x m_Plan_bodiesThatMake_c rfl rfl (ls := [.ref pl, .int (nI t), .retAddr 0, .retAddr 0]) rfl ?_
  refine V_iconst (v := 0) rfl (by decide) ?_
  refine V_is2 rfl (by first | rfl | assumption) ?_
  refine V_iconst (v := 0) rfl (by decide) ?_
  refine V_is3 rfl (by first | rfl | assumption) ?_
  refine V_for2 (nS p) (fun i => [.ref pl, .int (nI t), .int (orF i fun s => cnd (sK p s == 0 && sT p s == t) (bI (sB p s))), .int (nI i)]) (fun _ => h) rfl rfl (fun i hi ih => ?_) ?_
  · have hw := hq.1.2.2.2.1 i hi
    refine V_iload_n rfl rfl ?_
    refine V_aload_n rfl rfl ?_
    refine V_getI rfl rfl (by first | assumption | exact blkW_0 | exact bAt_0 (by assumption) | rfl) (by rfl) (by first | exact cq_nS (by assumption) | rfl) ?_
    refine V_icmp_geF rfl (nI_ge hi (by omega)) ?_
    refine V_aload_n rfl rfl ?_
    refine V_iload_n rfl rfl ?_
    refine V_callVi rfl rfl m_Plan_madeBy_w m_Plan_madeBy_x rfl (by decide) rfl (s_mdB (by assumption) (by assumption) (by first | omega | assumption)) (by decide) rfl (by first | assumption | exact blkW_0 | exact bAt_0 (by assumption) | rfl) (Nat.le_of_ble_eq_true rfl) ?_
    refine V_iload_n rfl rfl ?_
    refine V_callSi rfl rfl (Or.inr rfl) m_EB_has_w m_EB_has_x rfl rfl (s_hasv _ _ (by first | exact hasV_b (by first | omega | assumption) _ | exact hasV_m1 _ | rfl)) (by decide) rfl (Nat.le_of_ble_eq_true rfl) ?_
    rw [show bt (cnd (sK p i == 0) (bI (sT p i))) t = (sK p i == 0 && sT p i == t) by rw [bt_cnd, bt_bI (by omega) (by omega)]; congr 1; rw [Bool.eq_iff_iff, decide_eq_true_eq, beq_iff_eq]; exact eq_comm]
    first | refine V_ifb_eq rfl (fun h21 => ?_) (fun h21 => ?_) | refine V_if_eq rfl (fun h21 => ?_) (fun h21 => ?_)
    · refine V_inc3 rfl (by first | exact mInc _ | rfl) (by first | rfl | assumption) ?_
      refine V_goto rfl ?_
      exact V_wk ih (by simp only [orF_s]; simp only [h21]; simp [mWk, cnd])
    · refine V_iload_n rfl rfl ?_
      refine V_aload_n rfl rfl ?_
      refine V_getfield rfl rfl (by first | assumption | exact blkW_0 | exact bAt_0 (by assumption) | rfl) (by rfl) ?_
      refine V_iload_n rfl rfl ?_
      refine V_callSi rfl rfl (Or.inr rfl) m_EB_at_w m_EB_at_x rfl rfl (s_atv (by first | assumption | exact blkW_i rfl rfl | exact bAt_i (by assumption) rfl rfl) (by decide) _ (by first | exact (atV_in (by first | omega | assumption) (by decide)).trans (cq_par (by assumption) (by first | omega | assumption)) | exact (atV_in (by first | omega | assumption) (by decide)).trans (cq_abv (by assumption) (by first | omega | assumption)) | exact (atV_in (by first | omega | assumption) (by decide)).trans (cq_bel (by assumption) (by first | omega | assumption)) | exact (atV_in (by first | omega | assumption) (by decide)).trans (cq_dep (by assumption) (by first | omega | assumption)) | exact (atV_in (by first | omega | assumption) (by decide)).trans (cq_bT (by assumption) (by first | omega | assumption)) | exact (atV_in (by first | omega | assumption) (by decide)).trans (cq_bM (by assumption) (by first | omega | assumption)) | exact (atV_in (by first | omega | assumption) (by decide)).trans (cq_sK (by assumption) (by first | omega | assumption)) | exact (atV_in (by first | omega | assumption) (by decide)).trans (cq_sB (by assumption) (by first | omega | assumption)) | exact (atV_in (by first | omega | assumption) (by decide)).trans (cq_sT (by assumption) (by first | omega | assumption)) | exact (atV_in (by first | omega | assumption) (by decide)).trans (cq_sM (by assumption) (by first | omega | assumption)) | exact (atV_in (by first | omega | assumption) (by decide)).trans (cq_cS (by assumption) (by first | omega | assumption)) | exact atV_in (by first | omega | assumption) (by decide) | exact atV_m1 | rfl)) (by decide) rfl (Nat.le_of_ble_eq_true rfl) ?_
      refine V_callSi rfl rfl (Or.inr rfl) m_EB_bit_w m_EB_bit_x rfl rfl (s_bitv _ (by first | exact bitV_b (by first | omega | assumption) | exact bitV_m1 | rfl)) (by decide) rfl (Nat.le_of_ble_eq_true rfl) ?_
      refine V_ior rfl ?_
      refine V_is2 rfl (by first | rfl | assumption) ?_
      refine V_inc3 rfl (by first | exact mInc _ | rfl) (by first | rfl | assumption) ?_
      refine V_goto rfl ?_
      exact V_wk ih (by simp only [orF_s]; simp only [h21]; simp [mWk, cnd])
  · refine V_iload_n rfl rfl ?_
    refine V_aload_n rfl rfl ?_
    refine V_getI rfl rfl (by first | assumption | exact blkW_0 | exact bAt_0 (by assumption) | rfl) (by rfl) (by first | exact cq_nS (by assumption) | rfl) ?_
    refine V_icmp_geT rfl (nI_le (Nat.le_refl _) (by omega)) ?_
    refine V_iload_n rfl rfl ?_
    refine V_ireturn rfl rfl (by first | rfl | exact b2_nar _ | assumption | decide) ?_
    exact P_ret rfl rfl
set_option maxRecDepth 20000 in
set_option maxHeartbeats 1000000 in
theorem s_cso (hA : bAt 3 h pl sc ar) (hq : CQ p sc ar) {b : Nat} (hb : b < 2 ^ 31) : Mt g 1 m_Plan_stepsOf [.ref pl, .int (nI b)] h sz u (Pi (cnF (nS p) fun s => sB p s == b) h) sz u := by
  obtain ⟨hT, hB, hS, hC⟩ := hq.1.1
  refine Mt.of m_Plan_stepsOf_w m_Plan_stepsOf_x m_Plan_stepsOf_c rfl rfl (ls := [.ref pl, .int (nI b), .retAddr 0, .retAddr 0]) rfl ?_
  refine V_iconst (v := 0) rfl (by decide) ?_
  refine V_is2 rfl (by first | rfl | assumption) ?_
  refine V_iconst (v := 0) rfl (by decide) ?_
  refine V_is3 rfl (by first | rfl | assumption) ?_
  refine V_for2 (nS p) (fun i => [.ref pl, .int (nI b), .int (cnF i fun s => sB p s == b), .int (nI i)]) (fun _ => h) rfl rfl (fun i hi ih => ?_) ?_
  · have hw := hq.1.2.2.2.1 i hi
    refine V_iload_n rfl rfl ?_
    refine V_aload_n rfl rfl ?_
    refine V_getI rfl rfl (by first | assumption | exact blkW_0 | exact bAt_0 (by assumption) | rfl) (by rfl) (by first | exact cq_nS (by assumption) | rfl) ?_
    refine V_icmp_geF rfl (nI_ge hi (by omega)) ?_
    refine V_aload_n rfl rfl ?_
    refine V_getfield rfl rfl (by first | assumption | exact blkW_0 | exact bAt_0 (by assumption) | rfl) (by rfl) ?_
    refine V_iload_n rfl rfl ?_
    refine V_callSi rfl rfl (Or.inr rfl) m_EB_at_w m_EB_at_x rfl rfl (s_atv (by first | assumption | exact blkW_i rfl rfl | exact bAt_i (by assumption) rfl rfl) (by decide) _ (by first | exact (atV_in (by first | omega | assumption) (by decide)).trans (cq_par (by assumption) (by first | omega | assumption)) | exact (atV_in (by first | omega | assumption) (by decide)).trans (cq_abv (by assumption) (by first | omega | assumption)) | exact (atV_in (by first | omega | assumption) (by decide)).trans (cq_bel (by assumption) (by first | omega | assumption)) | exact (atV_in (by first | omega | assumption) (by decide)).trans (cq_dep (by assumption) (by first | omega | assumption)) | exact (atV_in (by first | omega | assumption) (by decide)).trans (cq_bT (by assumption) (by first | omega | assumption)) | exact (atV_in (by first | omega | assumption) (by decide)).trans (cq_bM (by assumption) (by first | omega | assumption)) | exact (atV_in (by first | omega | assumption) (by decide)).trans (cq_sK (by assumption) (by first | omega | assumption)) | exact (atV_in (by first | omega | assumption) (by decide)).trans (cq_sB (by assumption) (by first | omega | assumption)) | exact (atV_in (by first | omega | assumption) (by decide)).trans (cq_sT (by assumption) (by first | omega | assumption)) | exact (atV_in (by first | omega | assumption) (by decide)).trans (cq_sM (by assumption) (by first | omega | assumption)) | exact (atV_in (by first | omega | assumption) (by decide)).trans (cq_cS (by assumption) (by first | omega | assumption)) | exact atV_in (by first | omega | assumption) (by decide) | exact atV_m1 | rfl)) (by decide) rfl (Nat.le_of_ble_eq_true rfl) ?_
    refine V_iload_n rfl rfl ?_
    refine V_icmp_ne rfl (fun h21 => ?_) (fun h21 => ?_)
    · refine V_inc3 rfl (by first | exact mInc _ | rfl) (by first | rfl | assumption) ?_
      refine V_goto rfl ?_
      rw [nI_eq (by omega) (by omega)] at h21
      exact V_wk ih (by simp [mWk, cnF_s, b2, *])
    · refine V_inc2 rfl (by first | exact mInc _ | rfl) (by first | rfl | assumption) ?_
      refine V_inc3 rfl (by first | exact mInc _ | rfl) (by first | rfl | assumption) ?_
      refine V_goto rfl ?_
      rw [nI_eq (by omega) (by omega)] at h21
      exact V_wk ih (by simp [mWk, cnF_s, b2, *])
  · refine V_iload_n rfl rfl ?_
    refine V_aload_n rfl rfl ?_
    refine V_getI rfl rfl (by first | assumption | exact blkW_0 | exact bAt_0 (by assumption) | rfl) (by rfl) (by first | exact cq_nS (by assumption) | rfl) ?_
    refine V_icmp_geT rfl (nI_le (Nat.le_refl _) (by omega)) ?_
    refine V_iload_n rfl rfl ?_
    refine V_ireturn rfl rfl (by first | rfl | exact b2_nar _ | assumption | decide) ?_
    exact P_ret rfl rfl
set_option maxRecDepth 20000 in
set_option maxHeartbeats 1000000 in
theorem s_fsh (hA : bAt 3 h pl sc ar) (hq : CQ p sc ar) {t x : Nat} (ht : t < nT p) (hx : x < nT p) : Mt g 1 m_Plan_firstShared [.ref pl, .int (nI t), .int (nI x)] h sz u (Pi (cmU p x 12 (nI t)) h) sz u := by
  obtain ⟨hT, hB, hS, hC⟩ := hq.1.1
  refine Mt.of m_Plan_firstShared_w m_Plan_firstShared_x m_Plan_firstShared_c rfl rfl (ls := [.ref pl, .int (nI t), .int (nI x), .retAddr 0, .retAddr 0]) rfl ?_
  refine V_iload_n rfl rfl ?_
  refine V_is3 rfl (by first | rfl | assumption) ?_
  refine V_iconst (v := 0) rfl (by decide) ?_
  refine V_is4 rfl (by first | rfl | assumption) ?_
  have key : ∀ (k : Nat) (y : Int32), k ≤ 12 → (y = -1 ∨ ∃ q, q < k ∧ q < nT p ∧ y = nI q) → V g 1 m_Plan_firstShared (Pi (cmU p x k y) h) sz u 5 [.ref pl, .int (nI t), .int (nI x), .int y, .int (nI (12 - k))] [] h sz u := by
    intro k
    induction k with
    | zero =>
      intro y hk hy
      have e : y = -1 := by
        rcases hy with e | ⟨q, h1, -⟩
        · exact e
        · omega
      subst e
      refine V_iload rfl rfl ?_
      refine V_bipush (v := 12) rfl (by decide) ?_
      refine V_icmp_geT rfl (by decide) ?_
      refine V_iconst (v := (-1)) rfl (by decide) ?_
      refine V_ireturn rfl rfl (by first | rfl | exact b2_nar _ | assumption | decide) ?_
      exact P_ret rfl rfl
    | succ k ih =>
      intro y hk hy
      refine V_iload rfl rfl ?_
      refine V_bipush (v := 12) rfl (by decide) ?_
      refine V_icmp_geF rfl (nI_ge (b := 12) (show 12 - (k + 1) < 12 by omega) (by decide)) ?_
      rcases hy with e | ⟨q, h1, h2, e⟩
      · subst e
        refine V_iload_n rfl rfl ?_
        refine V_iconst (v := (-1)) rfl (by decide) ?_
        refine V_icmp_eqT rfl (rfl) ?_
        refine V_iconst (v := (-1)) rfl (by decide) ?_
        refine V_ireturn rfl rfl (by first | rfl | exact b2_nar _ | assumption | decide) ?_
        exact P_ret rfl rfl
      · subst e
        have e1 : cmU p x (k + 1) (nI q) = if bt (abv p x) q then nI q else cmU p x k (par p q) := by
          show (if nI q < 0 then _ else _) = _
          rw [if_neg (nI_pos (by omega)), nI_clamp (by omega)]
        refine V_iload_n rfl rfl ?_
        refine V_iconst (v := (-1)) rfl (by decide) ?_
        refine V_icmp_eqF rfl (nI_m1 (by omega)) ?_
        refine V_aload_n rfl rfl ?_
        refine V_getfield rfl rfl (by first | assumption | exact blkW_0 | exact bAt_0 (by assumption) | rfl) (by rfl) ?_
        refine V_iload_n rfl rfl ?_
        refine V_callSi rfl rfl (Or.inr rfl) m_EB_at_w m_EB_at_x rfl rfl (s_atv (by first | assumption | exact blkW_i rfl rfl | exact bAt_i (by assumption) rfl rfl) (by decide) _ (by first | exact (atV_in (by first | omega | assumption) (by decide)).trans (cq_par (by assumption) (by first | omega | assumption)) | exact (atV_in (by first | omega | assumption) (by decide)).trans (cq_abv (by assumption) (by first | omega | assumption)) | exact (atV_in (by first | omega | assumption) (by decide)).trans (cq_bel (by assumption) (by first | omega | assumption)) | exact (atV_in (by first | omega | assumption) (by decide)).trans (cq_dep (by assumption) (by first | omega | assumption)) | exact (atV_in (by first | omega | assumption) (by decide)).trans (cq_bT (by assumption) (by first | omega | assumption)) | exact (atV_in (by first | omega | assumption) (by decide)).trans (cq_bM (by assumption) (by first | omega | assumption)) | exact (atV_in (by first | omega | assumption) (by decide)).trans (cq_sK (by assumption) (by first | omega | assumption)) | exact (atV_in (by first | omega | assumption) (by decide)).trans (cq_sB (by assumption) (by first | omega | assumption)) | exact (atV_in (by first | omega | assumption) (by decide)).trans (cq_sT (by assumption) (by first | omega | assumption)) | exact (atV_in (by first | omega | assumption) (by decide)).trans (cq_sM (by assumption) (by first | omega | assumption)) | exact (atV_in (by first | omega | assumption) (by decide)).trans (cq_cS (by assumption) (by first | omega | assumption)) | exact atV_in (by first | omega | assumption) (by decide) | exact atV_m1 | rfl)) (by decide) rfl (Nat.le_of_ble_eq_true rfl) ?_
        refine V_iload_n rfl rfl ?_
        refine V_callSi rfl rfl (Or.inr rfl) m_EB_has_w m_EB_has_x rfl rfl (s_hasv _ _ (by first | exact hasV_b (by first | omega | assumption) _ | exact hasV_m1 _ | rfl)) (by decide) rfl (Nat.le_of_ble_eq_true rfl) ?_
        cases hb : bt (abv p x) q
        · rw [hb] at e1
          refine V_if_eqT rfl (rfl) ?_
          refine V_aload_n rfl rfl ?_
          refine V_getfield rfl rfl (by first | assumption | exact blkW_0 | exact bAt_0 (by assumption) | rfl) (by rfl) ?_
          refine V_iload_n rfl rfl ?_
          refine V_callSi rfl rfl (Or.inr rfl) m_EB_at_w m_EB_at_x rfl rfl (s_atv (by first | assumption | exact blkW_i rfl rfl | exact bAt_i (by assumption) rfl rfl) (by decide) _ (by first | exact (atV_in (by first | omega | assumption) (by decide)).trans (cq_par (by assumption) (by first | omega | assumption)) | exact (atV_in (by first | omega | assumption) (by decide)).trans (cq_abv (by assumption) (by first | omega | assumption)) | exact (atV_in (by first | omega | assumption) (by decide)).trans (cq_bel (by assumption) (by first | omega | assumption)) | exact (atV_in (by first | omega | assumption) (by decide)).trans (cq_dep (by assumption) (by first | omega | assumption)) | exact (atV_in (by first | omega | assumption) (by decide)).trans (cq_bT (by assumption) (by first | omega | assumption)) | exact (atV_in (by first | omega | assumption) (by decide)).trans (cq_bM (by assumption) (by first | omega | assumption)) | exact (atV_in (by first | omega | assumption) (by decide)).trans (cq_sK (by assumption) (by first | omega | assumption)) | exact (atV_in (by first | omega | assumption) (by decide)).trans (cq_sB (by assumption) (by first | omega | assumption)) | exact (atV_in (by first | omega | assumption) (by decide)).trans (cq_sT (by assumption) (by first | omega | assumption)) | exact (atV_in (by first | omega | assumption) (by decide)).trans (cq_sM (by assumption) (by first | omega | assumption)) | exact (atV_in (by first | omega | assumption) (by decide)).trans (cq_cS (by assumption) (by first | omega | assumption)) | exact atV_in (by first | omega | assumption) (by decide) | exact atV_m1 | rfl)) (by decide) rfl (Nat.le_of_ble_eq_true rfl) ?_
          refine V_is3 rfl (by first | rfl | assumption) ?_
          refine V_inc4 rfl (by first | exact mInc _ | rfl) (by first | rfl | assumption) ?_
          rw [show 12 - (k + 1) + 1 = 12 - k by omega]
          refine V_goto rfl ?_
          rw [e1]
          refine ih (par p q) (by omega) ?_
          rcases par_nI hq.1 h2 with e | ⟨r, r1, r2, r3⟩
          · exact Or.inl e
          · exact Or.inr ⟨r, by omega, r2, r3⟩
        · rw [hb] at e1
          refine V_if_eqF rfl (by decide) ?_
          refine V_iload_n rfl rfl ?_
          refine V_ireturn rfl rfl (by first | rfl | exact b2_nar _ | assumption | decide) ?_
          exact P_ret e1.symm rfl
  exact key 12 (nI t) (by omega) (Or.inr ⟨t, by omega, ht, rfl⟩)
end plan
