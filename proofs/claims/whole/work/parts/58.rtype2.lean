/-- a clause, its letter known -/
def pEnd (T : Nat → Int32) (n : Nat) (X : Rs (Pg × Nat)) : Rs (Pg × Nat) := match X with
  | .inl x => .inl x
  | .inr z => if hv T n z.2 = 59 then .inr (z.1, skp T n z.2 + 1) else .inl (1, skp T n z.2)
theorem pClause_k {p : Pg} {T : Nat → Int32} {n a k : Nat} (hk : kd (hv T n a) = k) (h6 : k < 6) : pClause p T n a = if full p k then .inl (3, skp T n a) else pEnd T n (pOne p T n (skp T n a + 1) k) := by
  unfold pClause pEnd
  rw [hk, if_neg (by omega)]
  generalize pOne p T n (skp T n a + 1) k = X
  rcases X with x | z <;> rfl
theorem pClass_eq {p : Pg} {T : Nat → Int32} {n a : Nat} (hT : nT p ≤ 12) : pEnd T n (pClass p T n a) = (match pPar (fin p) T n a with
  | .inl x => .inl x
  | .inr z => tlT p T n true z.1 2 z.2 0) := by
  rw [pPar_eq hT]
  unfold pClass
  generalize pNum T n a 100 = X
  rcases X with y | ⟨v, e, s⟩
  · rfl
  · dsimp only
    by_cases c1 : ¬ v = 99 ∧ nT p ≤ v
    · rw [if_pos c1, if_pos c1]; rfl
    · rw [if_neg c1, if_neg c1]
      by_cases c2 : ¬ v = 99 ∧ isC p v = false
      · rw [if_pos c2, if_pos c2]; rfl
      · rw [if_neg c2, if_neg c2]
        dsimp only
        unfold tlT
        generalize pFaces (isC p) T n (nT p) 2 e 0 = Y
        rcases Y with y | w
        · rfl
        · rfl
theorem pIface_eq {p : Pg} {T : Nat → Int32} {n a : Nat} : pEnd T n (pIface p T n a) = if hv T n a = 59 then tlT p T n false (-1) 2 a 0 else (match pFace (isC p) T n a (nT p) 0 with
  | .inl x => .inl x
  | .inr z => tlT p T n false (-1) 1 z.2 z.1) := by
  unfold pIface
  by_cases e : hv T n a = 59
  · rw [if_pos e, if_pos e]
    unfold tlT pEnd
    rw [show pFaces (isC p) T n (nT p) 2 a 0 = if hv T n a = 44 then _ else .inr (0, skp T n a) from rfl, if_neg (by rw [e]; decide)]
  · rw [if_neg e, if_neg e, pFace_skp]
    generalize pFace (isC p) T n a (nT p) 0 = X
    rcases X with y | z
    · rfl
    · dsimp only
      unfold tlT
      generalize pFaces (isC p) T n (nT p) 1 z.2 z.1 = Y
      rcases Y with y | w
      · rfl
      · rfl
theorem pPar_ok {p : Pg} {T : Nat → Int32} {n a : Nat} {pa : Int32} {e : Nat} (hT : nT p ≤ 12) (h : pPar (fin p) T n a = .inr (pa, e)) : pa = -1 ∨ ∃ q, q < nT p ∧ isC p q = true ∧ pa = nI q := by
  rw [pPar_eq hT] at h
  generalize pNum T n a 100 = X at h
  rcases X with y | ⟨v, e1, s⟩
  · cases h
  · dsimp only at h
    by_cases c1 : ¬ v = 99 ∧ nT p ≤ v
    · rw [if_pos c1] at h; cases h
    · rw [if_neg c1] at h
      by_cases c2 : ¬ v = 99 ∧ isC p v = false
      · rw [if_pos c2] at h; cases h
      · rw [if_neg c2] at h
        have h5 := Sum.inr.inj h
        rw [Prod.mk.injEq] at h5
        obtain ⟨rfl, -⟩ := h5
        by_cases e9 : v = 99
        · exact Or.inl (by rw [if_pos e9])
        · refine Or.inr ⟨v, by omega, ?_, by rw [if_neg e9]⟩
          cases hc : isC p v
          · exact absurd ⟨e9, hc⟩ c2
          · rfl
section rtype2
variable {g : mG} {h : mH} {sz u rd pl n a : Nat} {p : Pg} {rsc psc : Nat → Int32} {rar par_ : Nat → Nat → Int32}
set_option maxRecDepth 20000 in
set_option maxHeartbeats 1000000 in
theorem w_readType (hd : djN (4, rd) (3, pl)) (hq : CQ (fin p) psc par_) (hw : WR p) (hn : n ≤ 240) (hl : ltr (rar 0) n) (hS : ST (rar 0) n rsc none a) (hc : hv (rar 0) n a = 99 ∨ hv (rar 0) n a = 105) : Mt g 4 m_Read_readType [.ref rd, .ref pl] (rpW h rd pl rsc rar psc par_) sz u (RZ h rd pl n rar (pClause p (rar 0) n a)) sz u := by
  have hA := rp_A (h := h) (psc := psc) (par_ := par_) hd
  have hT := hw.1.1
  have h0 : psc 0 = nI (nT p) := cq_nT (p := fin p) hq
  refine Mt.of m_Read_readType_w m_Read_readType_x m_Read_readType_c rfl rfl (ls := [.ref rd, .ref pl, .retAddr 0, .retAddr 0, .retAddr 0, .retAddr 0]) rfl ?_
  have key : ∀ b : Bool, b = decide (nT p < 12) → V g 4 m_Read_readType (RZ h rd pl n rar (pClause p (rar 0) n a)) sz u 15 [.ref rd, .ref pl, .retAddr 0, .retAddr 0, .retAddr 0, .retAddr 0] [.int (b2 b), .ref rd] (rpW h rd pl rsc rar psc par_) sz u := by
    intro b hb
    refine V_callV rfl rfl m_Read_takeWord_w m_Read_takeWord_x rfl (by decide) rfl (w_takeWord hS hn hl b) (by decide) rfl (by first | assumption | exact blkW_0 | exact bAt_0 (by assumption) | exact bAt_0 (hA _ _) | rfl) (Nat.le_of_ble_eq_true rfl) (by first | exact Nat.le_refl _ | omega | decide) (by first | exact Nat.le_refl _ | omega | decide) (fun r hh1 hP => ?_)
    obtain ⟨rfl, rsc1, rfl, hS1⟩ := hP
    have hZ : ∀ k, k < 2 → kd (hv (rar 0) n a) = k → pClause p (rar 0) n a = Zf (if b then none else fo none (3, skp (rar 0) n a)) (pEnd (rar 0) n (pOne p (rar 0) n (skp (rar 0) n a + 1) k)) := fun k h2 hk => by
      rw [pClause_k hk (by omega)]
      unfold full
      rw [if_pos h2]
      cases b
      · have := of_decide_eq_false hb.symm
        rw [decide_eq_true (show nT p = 12 by omega)]
        rfl
      · have := of_decide_eq_true hb.symm
        rw [decide_eq_false (show ¬ nT p = 12 by omega)]
        rfl
    have hW0 : (if b then none else fo none (3, skp (rar 0) n a)) = none → nT p < 12 := fun z => by
      cases b
      · cases z
      · exact of_decide_eq_true hb.symm
    generalize (if b then none else fo none (3, skp (rar 0) n a)) = f1 at hS1 hZ hW0
    rcases hc with hc | hc
    · have hsg := (sgn_c (T := rar 0) (n := n) (a := a) (c := 99) (by decide) (by decide)).mpr hc
      rw [nxt_c hc (by decide) (by decide)] at hS1
      rw [hZ 0 (by decide) (by rw [hc]; decide), show pOne p (rar 0) n (skp (rar 0) n a + 1) 0 = pClass p (rar 0) n (skp (rar 0) n a + 1) from rfl, pClass_eq hT]
      refine V_bipush (v := 99) rfl (by decide) ?_
      refine V_icmp_neF rfl (hsg) ?_
      refine V_iconst (v := 1) rfl (by decide) ?_
      refine V_goto rfl ?_
      refine V_is2 rfl (by first | rfl | assumption) ?_
      refine V_iconst (v := (-1)) rfl (by decide) ?_
      refine V_is3 rfl (by first | rfl | assumption) ?_
      refine V_iconst (v := 0) rfl (by decide) ?_
      refine V_is4 rfl (by first | rfl | assumption) ?_
      refine V_iconst (v := 0) rfl (by decide) ?_
      refine V_is5 rfl (by first | rfl | assumption) ?_
      refine V_iload_n rfl rfl ?_
      refine V_if_eqF rfl (by decide) ?_
      refine V_aload_n rfl rfl ?_
      refine V_aload_n rfl rfl ?_
      refine V_callV rfl rfl m_Read_readParent_w m_Read_readParent_x rfl (by decide) rfl (w_readParent hA hq hS1 hn hl) (by decide) rfl (by first | assumption | exact blkW_0 | exact bAt_0 (by assumption) | exact bAt_0 (hA _ _) | rfl) (Nat.le_of_ble_eq_true rfl) (by first | exact Nat.le_refl _ | omega | decide) (by first | exact Nat.le_refl _ | omega | decide) (fun r hh1 hP => ?_)
      obtain ⟨v, rsc2, rfl, rfl, hS2⟩ := hP
      refine V_is3 rfl (by first | rfl | assumption) ?_
      refine V_goto rfl ?_
      generalize hN : pPar (fin p) (rar 0) n (skp (rar 0) n a + 1) = X at hS2
      rcases X with y | ⟨pa, e⟩
      · obtain ⟨a2, hS2⟩ := hS2
        have := e_rt (g := g) (h := h) (sz := sz) (u := u) (c := true) (pa := v) hd hq hw hn hl 2 (by omega) (fo f1 y) a2 0 rsc2 hS2 (fun z => absurd z fo_some)
        rw [Zf_fo] at this
        exact this
      · obtain ⟨hv1, hS2⟩ := hS2
        have hv1 : v = pa := hv1
        subst hv1
        exact e_rt (c := true) (pa := v) hd hq hw hn hl 2 (by omega) f1 e 0 rsc2 hS2 (fun z F => addT_WR hw (hW0 z) (pPar_ok hT hN))
    · have hsg := (sgn_c (T := rar 0) (n := n) (a := a) (c := 105) (by decide) (by decide)).mpr hc
      rw [nxt_c hc (by decide) (by decide)] at hS1
      have h5 := hS1.2.2.2.1
      rw [hZ 1 (by decide) (by rw [hc]; decide), show pOne p (rar 0) n (skp (rar 0) n a + 1) 1 = pIface p (rar 0) n (skp (rar 0) n a + 1) from rfl, pIface_eq]
      have hsg2 := sgn_c (T := rar 0) (n := n) (a := skp (rar 0) n a + 1) (c := 59) (by decide) (by decide)
      have hWx : f1 = none → ∀ F, WR (addT p false (-1) F) := fun z F => addT_WR hw (hW0 z) (Or.inl rfl)
      refine V_bipush (v := 99) rfl (by decide) ?_
      refine V_icmp_neT rfl (by rw [hsg]; decide) ?_
      refine V_iconst (v := 0) rfl (by decide) ?_
      refine V_is2 rfl (by first | rfl | assumption) ?_
      refine V_iconst (v := (-1)) rfl (by decide) ?_
      refine V_is3 rfl (by first | rfl | assumption) ?_
      refine V_iconst (v := 0) rfl (by decide) ?_
      refine V_is4 rfl (by first | rfl | assumption) ?_
      refine V_iconst (v := 0) rfl (by decide) ?_
      refine V_is5 rfl (by first | rfl | assumption) ?_
      refine V_iload_n rfl rfl ?_
      refine V_if_eqT rfl (rfl) ?_
      refine V_aload_n rfl rfl ?_
      refine V_getI rfl rfl (by first | assumption | exact blkW_0 | exact bAt_0 (by assumption) | exact bAt_0 (hA _ _) | rfl) (by rfl) (by first | exact rS_5 | exact (by assumption) | rfl) ?_
      refine V_bipush (v := 59) rfl (by decide) ?_
      by_cases e59 : hv (rar 0) n (skp (rar 0) n a + 1) = 59
      · rw [if_pos e59]
        refine V_icmp_eqT rfl (hsg2.mpr e59) ?_
        exact e_rt (c := false) (pa := -1) hd hq hw hn hl 2 (by omega) f1 _ 0 rsc1 hS1 hWx
      · rw [if_neg e59]
        refine V_icmp_eqF rfl (fun z => e59 (hsg2.mp z)) ?_
        refine V_aload_n rfl rfl ?_
        refine V_aload_n rfl rfl ?_
        refine V_iconst (v := 0) rfl (by decide) ?_
        refine V_callV rfl rfl m_Read_readInterface_w m_Read_readInterface_x rfl (by decide) rfl (w_readIf hA hq hS1 hn hl 0) (by decide) rfl (by first | assumption | exact blkW_0 | exact bAt_0 (by assumption) | exact bAt_0 (hA _ _) | rfl) (Nat.le_of_ble_eq_true rfl) (by first | exact Nat.le_refl _ | omega | decide) (by first | exact Nat.le_refl _ | omega | decide) (fun r hh1 hP => ?_)
        obtain ⟨v, rsc2, rfl, rfl, hS2⟩ := hP
        have hS2 : (match pFace (isC p) (rar 0) n (skp (rar 0) n a + 1) (nT p) 0 with
          | .inl y => ∃ a', ST (rar 0) n rsc2 (fo f1 y) a'
          | .inr z => z.1 = 0 ||| bitV v ∧ ST (rar 0) n rsc2 f1 z.2) := hS2
        refine V_callSi rfl rfl (Or.inr rfl) m_EB_bit_w m_EB_bit_x rfl rfl (s_bit _) (by decide) rfl (Nat.le_of_ble_eq_true rfl) ?_
        refine V_is4 rfl (by first | rfl | assumption) ?_
        refine V_iconst (v := 1) rfl (by decide) ?_
        refine V_is5 rfl (by first | rfl | assumption) ?_
        generalize hN : pFace (isC p) (rar 0) n (skp (rar 0) n a + 1) (nT p) 0 = X at hS2
        rcases X with y | ⟨F2, e2⟩
        · obtain ⟨a2, hS2⟩ := hS2
          have := e_rt (g := g) (h := h) (sz := sz) (u := u) (c := false) (pa := -1) hd hq hw hn hl 1 (by omega) (fo f1 y) a2 (bitV v) rsc2 hS2 (fun z => absurd z fo_some)
          rw [Zf_fo] at this
          exact this
        · obtain ⟨hF, hS2⟩ := hS2
          have hF : F2 = 0 ||| bitV v := hF
          rw [Int32.zero_or] at hF
          rw [← hF]
          exact e_rt (c := false) (pa := -1) hd hq hw hn hl 1 (by omega) f1 e2 F2 rsc2 hS2 hWx
  refine V_aload_n rfl rfl ?_
  refine V_aload_n rfl rfl ?_
  refine V_getI rfl rfl (bAt_0 (hA _ _)) (by rfl) h0 ?_
  refine V_bipush (v := 12) rfl (by decide) ?_
  by_cases e : nT p < 12
  · refine V_icmp_geF rfl (nI_ge (b := 12) e (by decide)) ?_
    refine V_iconst (v := 1) rfl (by decide) ?_
    refine V_goto rfl ?_
    exact key true (by rw [decide_eq_true e])
  · refine V_icmp_geT rfl (nI_le (a := 12) (by omega) (by omega)) ?_
    refine V_iconst (v := 0) rfl (by decide) ?_
    exact key false (by rw [decide_eq_false e])
end rtype2
