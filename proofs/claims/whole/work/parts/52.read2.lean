/-! ===== the class's Reader: numbers, words, ends ===== -/
theorem nuC_v {T : Nat → Int32} {n s : Nat} (hs : s < n) (h : isD (T s) = true) (h2 : dgE T n s - s ≤ 2) : nuC T s (dgE T n s - s) = nI (vN T s (dgE T n s - s)) ∧ vN T s (dgE T n s - s) ≤ 99 := by
  have h1 := dgE_1 hs h
  have hv := (vN_ok hs h h2).2
  refine ⟨?_, hv⟩
  unfold vN
  obtain ⟨c, c1, c2, e⟩ := isD_nat h
  have ed : dgt T s = c - 48 := by unfold dgt; rw [e, nI_clamp (by omega)]
  have n1 : nuC T s 1 = nI (dgt T s) := by
    show nuC T s 0 * 10 + T (s + 0) - 48 = _
    rw [show nuC T s 0 = 0 from rfl, Int32.zero_mul, Int32.zero_add, Nat.add_zero, e, ed]
    exact pk_sub (b := 48) c1
  by_cases e1 : dgE T n s - s = 1
  · rw [if_pos e1, e1, n1]
  · have e2 : dgE T n s - s = 2 := by omega
    rw [if_neg e1, e2]
    have hD : isD (T (s + 1)) = true := dgE_D (n := n) (by omega)
    obtain ⟨c', d1, d2, e'⟩ := isD_nat hD
    have ed' : dgt T (s + 1) = c' - 48 := by unfold dgt; rw [e', nI_clamp (by omega)]
    show nuC T s 1 * 10 + T (s + 1) - 48 = _
    rw [n1, e', ed', show (10 : Int32) = nI 10 from rfl, pk_mul, nI_add]
    rw [show nI (dgt T s * 10 + c') - 48 = nI (dgt T s * 10 + c' - 48) from pk_sub (b := 48) (by omega)]
    congr 1
    omega
/-- a number below m, or the one besides -/
def pNb (T : Nat → Int32) (n a m : Nat) (bes : Int32) : Rs (Nat × Nat × Nat) :=
  if isNm T n a then (if dgn T n a ≤ 2 ∧ (vN T (skp T n a) (dgn T n a) < m ∨ nI (vN T (skp T n a) (dgn T n a)) = bes) then .inr (vN T (skp T n a) (dgn T n a), dgE T n (skp T n a), skp T n a) else .inl (2, skp T n a)) else .inl (1, skp T n a)
theorem vN_b {T : Nat → Int32} {n a : Nat} (h : isNm T n a = true) (h2 : dgn T n a ≤ 2) : vN T (skp T n a) (dgn T n a) ≤ 99 := (vN_ok (isNm_iff.mp h).1 (isNm_iff.mp h).2 h2).2
theorem pNb_m1 {T : Nat → Int32} {n a m : Nat} : pNb T n a m (-1) = pNum T n a m := by
  unfold pNb pNum
  cases hN : isNm T n a
  · rfl
  · rw [if_pos rfl, if_pos rfl]
    by_cases h2 : dgn T n a ≤ 2
    · have hv := vN_b hN h2
      have hne : ¬ nI (vN T (skp T n a) (dgn T n a)) = -1 := nI_m1 (by omega)
      by_cases h3 : vN T (skp T n a) (dgn T n a) < m
      · rw [if_pos ⟨h2, Or.inl h3⟩, if_pos ⟨h2, h3⟩]; rfl
      · rw [if_neg (fun z => z.2.elim h3 hne), if_neg (fun z => h3 z.2)]
    · rw [if_neg (fun z => h2 z.1), if_neg (fun z => h2 z.1)]
theorem ST_o {T : Nat → Int32} {n a : Nat} {f f2 : Option (Nat × Nat)} {sc sc2 : Nat → Int32} (h : ST T n sc f a) (ho : ∀ j, j ≠ 2 → j ≠ 3 → j ≠ 9 → sc2 j = sc j) (hf : FT f2 sc2) : ST T n sc2 f2 a := by
  obtain ⟨h0, h1, h4, h5, h6, h7, h8, -⟩ := h
  exact ⟨h0, (ho 1 (by decide) (by decide) (by decide)).trans h1, (ho 4 (by decide) (by decide) (by decide)).trans h4, (ho 5 (by decide) (by decide) (by decide)).trans h5, (ho 6 (by decide) (by decide) (by decide)).trans h6, (ho 7 (by decide) (by decide) (by decide)).trans h7, (ho 8 (by decide) (by decide) (by decide)).trans h8, hf⟩
/-- how reading a number ends -/
def NP (T : Nat → Int32) (n : Nat) (f : Option (Nat × Nat)) (x : Rs (Nat × Nat × Nat)) (v : Int32) (sc : Nat → Int32) : Prop := match x with
  | .inl y => v = -1 ∧ ∃ a, ST T n sc (fo f y) a
  | .inr z => v = nI z.1 ∧ ST T n sc f z.2.1 ∧ sc 9 = nI z.2.2
section read2
variable {g : mG} {h : mH} {sz u rd n a : Nat} {sc : Nat → Int32} {ar : Nat → Nat → Int32} {f : Option (Nat × Nat)}
set_option maxRecDepth 20000 in
set_option maxHeartbeats 1000000 in
theorem w_fail (hS : FT f sc) {k s : Nat} (x : Int32) (hx : f = none → x = nI s) (hk : 1 ≤ k ∧ k ≤ 4) {kk : Int32} (hkk : kk = nI k) : Mt g 0 m_Read_fail [.ref rd, .int x, .int kk] (blkW 4 h rd sc ar) sz u (fun r h' => r = some (.int (-1)) ∧ ∃ sc', h' = blkW 4 h rd sc' ar ∧ FT (fo f (k, s)) sc' ∧ ∀ j, j ≠ 2 → j ≠ 3 → sc' j = sc j) sz u := by
  refine Mt.of m_Read_fail_w m_Read_fail_x m_Read_fail_c rfl rfl (ls := [.ref rd, .int x, .int kk]) rfl ?_
  cases f with
  | none =>
    have h3 : sc 3 = 0 := hS.2
    refine V_aload_n rfl rfl ?_
    refine V_getI rfl rfl (by first | assumption | exact blkW_0 | exact bAt_0 (by assumption) | exact bAt_0 (hA _ _) | rfl) (by rfl) (by first | exact (by assumption) | rfl) ?_
    refine V_if_neF rfl (rfl) ?_
    refine V_aload_n rfl rfl ?_
    refine V_iload_n rfl rfl ?_
    first | refine V_pput rfl rfl rfl rfl rfl ?_ | refine V_bput rfl rfl rfl rfl rfl rfl ?_ | refine V_bputZ rfl rfl rfl rfl rfl rfl (by decide) ?_ | refine V_put rfl rfl (by first | assumption | rfl) (by decide) (fun _ hty => by cases hty; exact ⟨rfl, rfl⟩) (by first | exact Or.inl rfl | exact Or.inr ⟨rfl, rfl⟩) rfl ?_
    refine V_aload_n rfl rfl ?_
    refine V_iload_n rfl rfl ?_
    first | refine V_pput rfl rfl rfl rfl rfl ?_ | refine V_bput rfl rfl rfl rfl rfl rfl ?_ | refine V_bputZ rfl rfl rfl rfl rfl rfl (by decide) ?_ | refine V_put rfl rfl (by first | assumption | rfl) (by decide) (fun _ hty => by cases hty; exact ⟨rfl, rfl⟩) (by first | exact Or.inl rfl | exact Or.inr ⟨rfl, rfl⟩) rfl ?_
    refine V_iconst (v := (-1)) rfl (by decide) ?_
    refine V_ireturn rfl rfl (by first | rfl | exact b2_nar _ | assumption | decide) ?_
    exact ⟨rfl, _, rfl, ⟨((pk_un (by decide)).trans pk_us).trans (hx rfl), pk_us.trans hkk, hk⟩, fun j j2 j3 => (pk_un j3).trans (pk_un j2)⟩
  | some y =>
    have h3 : sc 3 = nI y.1 := hS.2.1
    refine V_aload_n rfl rfl ?_
    refine V_getI rfl rfl (by first | assumption | exact blkW_0 | exact bAt_0 (by assumption) | exact bAt_0 (hA _ _) | rfl) (by rfl) (by first | exact (by assumption) | rfl) ?_
    refine V_if_neT rfl ((nk_pos hS.2.2).2.1) ?_
    refine V_iconst (v := (-1)) rfl (by decide) ?_
    refine V_ireturn rfl rfl (by first | rfl | exact b2_nar _ | assumption | decide) ?_
    exact ⟨rfl, sc, rfl, hS, fun j _ _ => rfl⟩
set_option maxRecDepth 20000 in
set_option maxHeartbeats 1000000 in
theorem w_failS (hS : ST (ar 0) n sc f a) {k s : Nat} (x : Int32) (hx : f = none → x = nI s) (hk : 1 ≤ k ∧ k ≤ 4) {kk : Int32} (hkk : kk = nI k) : Mt g 0 m_Read_fail [.ref rd, .int x, .int kk] (blkW 4 h rd sc ar) sz u (fun r h' => r = some (.int (-1)) ∧ ∃ sc', h' = blkW 4 h rd sc' ar ∧ ST (ar 0) n sc' (fo f (k, s)) a ∧ sc' 9 = sc 9) sz u := by
  refine (w_fail hS.2.2.2.2.2.2.2 x hx hk hkk).mono fun r h' hr => ?_
  obtain ⟨h1, sc', h2, h3, h4⟩ := hr
  exact ⟨h1, sc', h2, ST_o hS (fun j j2 j3 _ => h4 j j2 j3) h3, h4 9 (by decide) (by decide)⟩
set_option maxRecDepth 20000 in
set_option maxHeartbeats 1000000 in
theorem w_takeNum (hS : ST (ar 0) n sc f a) (hn : n ≤ 240) (hl : ltr (ar 0) n) {m : Nat} (hm : m ≤ 100) {mm bes : Int32} (hmm : mm = nI m) : Mt g 2 m_Read_takeNumber [.ref rd, .int mm, .int bes] (blkW 4 h rd sc ar) sz u (fun r h' => ∃ v sc', r = some (.int v) ∧ h' = blkW 4 h rd sc' ar ∧ NP (ar 0) n f (pNb (ar 0) n a m bes) v sc') sz u := by
  refine Mt.of m_Read_takeNumber_w m_Read_takeNumber_x m_Read_takeNumber_c rfl rfl (ls := [.ref rd, .int mm, .int bes, .retAddr 0, .retAddr 0]) rfl ?_
  subst hmm
  obtain ⟨h0, h1, h4, h5, h6, h7, h8, hf⟩ := id hS
  have hsl := skp_le (T := ar 0) h0
  unfold pNb
  cases hN : isNm (ar 0) n a
  · have h5 : sc 5 = hv (ar 0) n a := by rw [h5]; unfold sgn; rw [hN]; rfl
    have hne : ¬ hv (ar 0) n a = -2 := fun e => by
      unfold hv at e
      by_cases c : skp (ar 0) n a < n
      · rw [if_pos c] at e
        obtain ⟨q, q1, q2⟩ := hl _ c
        rw [q2] at e
        exact nI_pos (n := q) (by omega) (by rw [e]; decide)
      · rw [if_neg c] at e
        exact absurd e (by decide)
    refine V_aload_n rfl rfl ?_
    refine V_getI rfl rfl (by first | assumption | exact blkW_0 | exact bAt_0 (by assumption) | exact bAt_0 (hA _ _) | rfl) (by rfl) (by first | exact rS_5 | exact (by assumption) | rfl) ?_
    refine V_bipush (v := (-2)) rfl (by decide) ?_
    refine V_icmp_eqF rfl (hne) ?_
    refine V_aload_n rfl rfl ?_
    refine V_aload_n rfl rfl ?_
    refine V_getI rfl rfl (by first | assumption | exact blkW_0 | exact bAt_0 (by assumption) | exact bAt_0 (hA _ _) | rfl) (by rfl) (by first | exact rS_6 | exact (by assumption) | rfl) ?_
    refine V_iconst (v := 1) rfl (by decide) ?_
    refine V_callV rfl rfl m_Read_fail_w m_Read_fail_x rfl (by decide) rfl (w_failS hS (k := 1) (s := skp (ar 0) n a) _ (fun _ => rfl) (by decide) rfl) (by decide) rfl (by first | assumption | exact blkW_0 | exact bAt_0 (by assumption) | exact bAt_0 (hA _ _) | rfl) (Nat.le_of_ble_eq_true rfl) (by first | exact Nat.le_refl _ | omega | decide) (by first | exact Nat.le_refl _ | omega | decide) (fun r hh1 hP => ?_)
    obtain ⟨rfl, sc', rfl, h3, -⟩ := hP
    refine V_ireturn rfl rfl (by first | rfl | exact b2_nar _ | assumption | decide) ?_
    exact ⟨_, sc', rfl, rfl, rfl, a, h3⟩
  · have h5 : sc 5 = -2 := by rw [h5]; unfold sgn; rw [hN]; rfl
    have hnx : nxt (ar 0) n a = dgE (ar 0) n (skp (ar 0) n a) := by unfold nxt; rw [hN]; rfl
    have hdl := dgE_le (T := ar 0) hsl
    rw [hnx] at h4
    have hnu := nuC_v (isNm_iff.mp hN).1 (isNm_iff.mp hN).2
    have hdn : dgn (ar 0) n a = dgE (ar 0) n (skp (ar 0) n a) - skp (ar 0) n a := rfl
    rw [← hdn] at hnu
    have hd240 : dgn (ar 0) n a ≤ 240 := by omega
    have tail : ∀ (b : Bool) (v : Int32), V g 2 m_Read_takeNumber (fun r h' => ∃ v' sc', r = some (.int v') ∧ h' = blkW 4 h rd sc' ar ∧ (if b then v' = v ∧ ST (ar 0) n sc' f (dgE (ar 0) n (skp (ar 0) n a)) ∧ sc' 9 = nI (skp (ar 0) n a) else v' = -1 ∧ ∃ a2, ST (ar 0) n sc' (fo f (2, skp (ar 0) n a)) a2)) sz u 47 [.ref rd, .int (nI m), .int bes, .int v, .retAddr 0] [.int (b2 b)] (blkW 4 h rd sc ar) sz u := by
      intro b v
      refine V_is4 rfl (by first | rfl | assumption) ?_
      refine V_aload_n rfl rfl ?_
      refine V_aload_n rfl rfl ?_
      refine V_getI rfl rfl (by first | assumption | exact blkW_0 | exact bAt_0 (by assumption) | exact bAt_0 (hA _ _) | rfl) (by rfl) (by first | exact rS_6 | exact (by assumption) | rfl) ?_
      first | refine V_pput rfl rfl rfl rfl rfl ?_ | refine V_bput rfl rfl rfl rfl rfl rfl ?_ | refine V_bputZ rfl rfl rfl rfl rfl rfl (by decide) ?_ | refine V_put rfl rfl (by first | assumption | rfl) (by decide) (fun _ hty => by cases hty; exact ⟨rfl, rfl⟩) (by first | exact Or.inl rfl | exact Or.inr ⟨rfl, rfl⟩) rfl ?_
      refine V_aload_n rfl rfl ?_
      refine V_callV rfl rfl m_Read_advance_w m_Read_advance_x rfl (by decide) rfl (w_advance (f := f) (a := dgE (ar 0) n (skp (ar 0) n a)) ((pk_un (by decide)).trans h1) hn ((pk_un (by decide)).trans h4) hdl hl (FT_o hf (pk_un (by decide)) (pk_un (by decide)))) (by decide) rfl (by first | assumption | exact blkW_0 | exact bAt_0 (by assumption) | exact bAt_0 (hA _ _) | rfl) (Nat.le_of_ble_eq_true rfl) (by first | exact Nat.le_refl _ | omega | decide) (by first | exact Nat.le_refl _ | omega | decide) (fun r hh1 hP => ?_)
      obtain ⟨rfl, sc', rfl, h3, h9⟩ := hP
      have h9 : sc' 9 = nI (skp (ar 0) n a) := h9.trans pk_us
      refine V_iload rfl rfl ?_
      cases b
      · refine V_if_eqT rfl (rfl) ?_
        refine V_aload_n rfl rfl ?_
        refine V_aload_n rfl rfl ?_
        refine V_getI rfl rfl (by first | assumption | exact blkW_0 | exact bAt_0 (by assumption) | exact bAt_0 (hA _ _) | rfl) (by rfl) (by first | exact (by assumption) | rfl) ?_
        refine V_iconst (v := 2) rfl (by decide) ?_
        refine V_callV rfl rfl m_Read_fail_w m_Read_fail_x rfl (by decide) rfl (w_failS h3 (k := 2) (s := skp (ar 0) n a) _ (fun _ => rfl) (by decide) rfl) (by decide) rfl (by first | assumption | exact blkW_0 | exact bAt_0 (by assumption) | exact bAt_0 (hA _ _) | rfl) (Nat.le_of_ble_eq_true rfl) (by first | exact Nat.le_refl _ | omega | decide) (by first | exact Nat.le_refl _ | omega | decide) (fun r hh1 hP => ?_)
        obtain ⟨rfl, sc2, rfl, h3, -⟩ := hP
        refine V_ireturn rfl rfl (by first | rfl | exact b2_nar _ | assumption | decide) ?_
        exact ⟨_, sc2, rfl, rfl, rfl, _, h3⟩
      · refine V_if_eqF rfl (by decide) ?_
        refine V_iload_n rfl rfl ?_
        refine V_goto rfl ?_
        refine V_ireturn rfl rfl (by first | rfl | exact b2_nar _ | assumption | decide) ?_
        exact ⟨v, sc', rfl, rfl, rfl, h3, h9⟩
    refine V_aload_n rfl rfl ?_
    refine V_getI rfl rfl (by first | assumption | exact blkW_0 | exact bAt_0 (by assumption) | exact bAt_0 (hA _ _) | rfl) (by rfl) (by first | exact rS_5 | exact (by assumption) | rfl) ?_
    refine V_bipush (v := (-2)) rfl (by decide) ?_
    refine V_icmp_eqT rfl (rfl) ?_
    refine V_aload_n rfl rfl ?_
    refine V_getI rfl rfl (by first | assumption | exact blkW_0 | exact bAt_0 (by assumption) | exact bAt_0 (hA _ _) | rfl) (by rfl) (by first | exact rS_7 | exact (by assumption) | rfl) ?_
    refine V_is3 rfl (by first | rfl | assumption) ?_
    refine V_aload_n rfl rfl ?_
    refine V_getI rfl rfl (by first | assumption | exact blkW_0 | exact bAt_0 (by assumption) | exact bAt_0 (hA _ _) | rfl) (by rfl) (by first | exact rS_8 | exact (by assumption) | rfl) ?_
    refine V_iconst (v := 2) rfl (by decide) ?_
    by_cases d2 : dgn (ar 0) n a ≤ 2
    · obtain ⟨n1, n2⟩ := hnu d2
      refine V_icmp_gtF rfl (nI_nlt (a := 2) d2 (by decide)) ?_
      rw [n1]
      refine V_iload_n rfl rfl ?_
      refine V_iload_n rfl rfl ?_
      by_cases c1 : vN (ar 0) (skp (ar 0) n a) (dgn (ar 0) n a) < m
      · refine V_icmp_ltT rfl (nI_lt c1 (by omega)) ?_
        refine V_iconst (v := 1) rfl (by decide) ?_
        refine V_goto rfl ?_
        refine (tail true _).mono fun r h' hr => ?_
        obtain ⟨v', sc', q1, q2, q3⟩ := hr
        rw [if_pos rfl] at q3
        refine ⟨v', sc', q1, q2, ?_⟩
        rw [if_pos rfl, if_pos ⟨d2, Or.inl c1⟩]
        exact q3
      · refine V_icmp_ltF rfl (nI_nlt (by omega) (by omega)) ?_
        refine V_iload_n rfl rfl ?_
        refine V_iload_n rfl rfl ?_
        by_cases c2 : nI (vN (ar 0) (skp (ar 0) n a) (dgn (ar 0) n a)) = bes
        · refine V_icmp_neF rfl (c2) ?_
          refine V_iconst (v := 1) rfl (by decide) ?_
          refine V_goto rfl ?_
          refine (tail true _).mono fun r h' hr => ?_
          obtain ⟨v', sc', q1, q2, q3⟩ := hr
          rw [if_pos rfl] at q3
          refine ⟨v', sc', q1, q2, ?_⟩
          rw [if_pos rfl, if_pos ⟨d2, Or.inr c2⟩]
          exact q3
        · refine V_icmp_neT rfl (c2) ?_
          refine V_iconst (v := 0) rfl (by decide) ?_
          refine (tail false _).mono fun r h' hr => ?_
          obtain ⟨v', sc', q1, q2, q3⟩ := hr
          rw [if_neg (by decide)] at q3
          refine ⟨v', sc', q1, q2, ?_⟩
          rw [if_pos rfl, if_neg (fun z => z.2.elim c1 c2)]
          exact q3
    · refine V_icmp_gtT rfl (nI_lt (a := 2) (by omega) (by omega)) ?_
      refine V_iconst (v := 0) rfl (by decide) ?_
      refine (tail false _).mono fun r h' hr => ?_
      obtain ⟨v', sc', q1, q2, q3⟩ := hr
      rw [if_neg (by decide)] at q3
      refine ⟨v', sc', q1, q2, ?_⟩
      rw [if_pos rfl, if_neg (fun z => d2 z.1)]
      exact q3
set_option maxRecDepth 20000 in
set_option maxHeartbeats 1000000 in
theorem w_takeWord (hS : ST (ar 0) n sc f a) (hn : n ≤ 240) (hl : ltr (ar 0) n) (b : Bool) : Mt g 2 m_Read_takeWord [.ref rd, .int (b2 b)] (blkW 4 h rd sc ar) sz u (fun r h' => r = some (.int (sgn (ar 0) n a)) ∧ ∃ sc', h' = blkW 4 h rd sc' ar ∧ ST (ar 0) n sc' (if b then f else fo f (3, skp (ar 0) n a)) (nxt (ar 0) n a)) sz u := by
  refine Mt.of m_Read_takeWord_w m_Read_takeWord_x m_Read_takeWord_c rfl rfl (ls := [.ref rd, .int (b2 b), .retAddr 0]) rfl ?_
  have tail : ∀ (f : Option (Nat × Nat)) (sc : Nat → Int32), ST (ar 0) n sc f a → V g 2 m_Read_takeWord (fun r h' => r = some (.int (sgn (ar 0) n a)) ∧ ∃ sc', h' = blkW 4 h rd sc' ar ∧ ST (ar 0) n sc' f (nxt (ar 0) n a)) sz u 14 [.ref rd, .int (b2 b), .retAddr 0] [] (blkW 4 h rd sc ar) sz u := by
    intro f sc hS
    obtain ⟨h0, h1, h4, h5, h6, h7, h8, hf⟩ := id hS
    refine V_aload_n rfl rfl ?_
    refine V_getI rfl rfl (by first | assumption | exact blkW_0 | exact bAt_0 (by assumption) | exact bAt_0 (hA _ _) | rfl) (by rfl) (by first | exact rS_5 | exact (by assumption) | rfl) ?_
    refine V_is2 rfl (by first | rfl | assumption) ?_
    refine V_aload_n rfl rfl ?_
    refine V_callV rfl rfl m_Read_advance_w m_Read_advance_x rfl (by decide) rfl (w_advance (f := f) h1 hn h4 (nxt_le h0) hl hf) (by decide) rfl (by first | assumption | exact blkW_0 | exact bAt_0 (by assumption) | exact bAt_0 (hA _ _) | rfl) (Nat.le_of_ble_eq_true rfl) (by first | exact Nat.le_refl _ | omega | decide) (by first | exact Nat.le_refl _ | omega | decide) (fun r hh1 hP => ?_)
    obtain ⟨rfl, sc', rfl, h3, -⟩ := hP
    refine V_iload_n rfl rfl ?_
    refine V_ireturn rfl rfl (by first | rfl | exact b2_nar _ | assumption | decide) ?_
    exact ⟨rfl, sc', rfl, h3⟩
  refine V_iload_n rfl rfl ?_
  cases b
  · have h6 := hS.2.2.2.2.1
    refine V_if_neF rfl (rfl) ?_
    refine V_aload_n rfl rfl ?_
    refine V_aload_n rfl rfl ?_
    refine V_getI rfl rfl (by first | assumption | exact blkW_0 | exact bAt_0 (by assumption) | exact bAt_0 (hA _ _) | rfl) (by rfl) (by first | exact rS_6 | exact (by assumption) | rfl) ?_
    refine V_iconst (v := 3) rfl (by decide) ?_
    refine V_callV rfl rfl m_Read_fail_w m_Read_fail_x rfl (by decide) rfl (w_failS hS (k := 3) (s := skp (ar 0) n a) _ (fun _ => rfl) (by decide) rfl) (by decide) rfl (by first | assumption | exact blkW_0 | exact bAt_0 (by assumption) | exact bAt_0 (hA _ _) | rfl) (Nat.le_of_ble_eq_true rfl) (by first | exact Nat.le_refl _ | omega | decide) (by first | exact Nat.le_refl _ | omega | decide) (fun r hh1 hP => ?_)
    obtain ⟨rfl, sc', rfl, h3, -⟩ := hP
    refine V_pop rfl rfl ?_
    exact tail _ _ h3
  · refine V_if_neT rfl (by decide) ?_
    exact tail _ _ hS
set_option maxRecDepth 20000 in
set_option maxHeartbeats 1000000 in
theorem w_isEnded (hS : ST (ar 0) n sc f a) (hn : n ≤ 240) (hl : ltr (ar 0) n) : Mt g 2 m_Read_isEnded [.ref rd] (blkW 4 h rd sc ar) sz u (fun r h' => r = some (.int (b2 (if sgn (ar 0) n a = 59 then f else fo f (1, skp (ar 0) n a)).isNone)) ∧ ∃ sc', h' = blkW 4 h rd sc' ar ∧ ST (ar 0) n sc' (if sgn (ar 0) n a = 59 then f else fo f (1, skp (ar 0) n a)) (nxt (ar 0) n a)) sz u := by
  refine Mt.of m_Read_isEnded_w m_Read_isEnded_x m_Read_isEnded_c rfl rfl (ls := [.ref rd]) rfl ?_
  have tail : ∀ (f : Option (Nat × Nat)) (sc : Nat → Int32), ST (ar 0) n sc f a → V g 2 m_Read_isEnded (fun r h' => r = some (.int (b2 f.isNone)) ∧ ∃ sc', h' = blkW 4 h rd sc' ar ∧ ST (ar 0) n sc' f (nxt (ar 0) n a)) sz u 19 [.ref rd] [] (blkW 4 h rd sc ar) sz u := by
    intro f sc hS
    obtain ⟨h0, h1, h4, h5, h6, h7, h8, hf⟩ := id hS
    refine V_aload_n rfl rfl ?_
    refine V_callV rfl rfl m_Read_advance_w m_Read_advance_x rfl (by decide) rfl (w_advance (f := f) h1 hn h4 (nxt_le h0) hl hf) (by decide) rfl (by first | assumption | exact blkW_0 | exact bAt_0 (by assumption) | exact bAt_0 (hA _ _) | rfl) (Nat.le_of_ble_eq_true rfl) (by first | exact Nat.le_refl _ | omega | decide) (by first | exact Nat.le_refl _ | omega | decide) (fun r hh1 hP => ?_)
    obtain ⟨rfl, sc', rfl, h3, -⟩ := hP
    cases f with
    | none =>
      have e3 : sc' 3 = 0 := h3.2.2.2.2.2.2.2.2
      refine V_aload_n rfl rfl ?_
      refine V_getI rfl rfl (by first | assumption | exact blkW_0 | exact bAt_0 (by assumption) | exact bAt_0 (hA _ _) | rfl) (by rfl) (by first | exact (by assumption) | rfl) ?_
      refine V_if_neF rfl (rfl) ?_
      refine V_iconst (v := 1) rfl (by decide) ?_
      refine V_goto rfl ?_
      refine V_ireturn rfl rfl (by first | rfl | exact b2_nar _ | assumption | decide) ?_
      exact ⟨rfl, sc', rfl, h3⟩
    | some y =>
      have e3 : sc' 3 = nI y.1 := h3.2.2.2.2.2.2.2.2.1
      refine V_aload_n rfl rfl ?_
      refine V_getI rfl rfl (by first | assumption | exact blkW_0 | exact bAt_0 (by assumption) | exact bAt_0 (hA _ _) | rfl) (by rfl) (by first | exact (by assumption) | rfl) ?_
      refine V_if_neT rfl ((nk_pos h3.2.2.2.2.2.2.2.2.2).2.1) ?_
      refine V_iconst (v := 0) rfl (by decide) ?_
      refine V_ireturn rfl rfl (by first | rfl | exact b2_nar _ | assumption | decide) ?_
      exact ⟨rfl, sc', rfl, h3⟩
  have h5 := hS.2.2.2.1
  have h6 := hS.2.2.2.2.1
  refine V_aload_n rfl rfl ?_
  refine V_getI rfl rfl (by first | assumption | exact blkW_0 | exact bAt_0 (by assumption) | exact bAt_0 (hA _ _) | rfl) (by rfl) (by first | exact rS_5 | exact (by assumption) | rfl) ?_
  refine V_bipush (v := 59) rfl (by decide) ?_
  by_cases e : sgn (ar 0) n a = 59
  · rw [if_pos e]
    refine V_icmp_eqT rfl (e) ?_
    exact tail _ _ hS
  · rw [if_neg e]
    refine V_icmp_eqF rfl (e) ?_
    refine V_aload_n rfl rfl ?_
    refine V_aload_n rfl rfl ?_
    refine V_getI rfl rfl (by first | assumption | exact blkW_0 | exact bAt_0 (by assumption) | exact bAt_0 (hA _ _) | rfl) (by rfl) (by first | exact rS_6 | exact (by assumption) | rfl) ?_
    refine V_iconst (v := 1) rfl (by decide) ?_
    refine V_callV rfl rfl m_Read_fail_w m_Read_fail_x rfl (by decide) rfl (w_failS hS (k := 1) (s := skp (ar 0) n a) _ (fun _ => rfl) (by decide) rfl) (by decide) rfl (by first | assumption | exact blkW_0 | exact bAt_0 (by assumption) | exact bAt_0 (hA _ _) | rfl) (Nat.le_of_ble_eq_true rfl) (by first | exact Nat.le_refl _ | omega | decide) (by first | exact Nat.le_refl _ | omega | decide) (fun r hh1 hP => ?_)
    obtain ⟨rfl, sc', rfl, h3, -⟩ := hP
    refine V_pop rfl rfl ?_
    exact tail _ _ h3
end read2
