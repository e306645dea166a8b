/-! ===== the class's Reader: clauses ===== -/
abbrev rpW (h : mH) (rd pl : Nat) (rsc : Nat → Int32) (rar : Nat → Nat → Int32) (psc : Nat → Int32) (par_ : Nat → Nat → Int32) : mH := blkW 4 (blkW 3 h pl psc par_) rd rsc rar
def djN (q r : Nat × Nat) : Prop := ∀ a, a ∈ cellsOf q → a ∉ cellsOf r
theorem djN.sym {q r : Nat × Nat} (h : djN q r) : djN r q := fun a h1 h2 => h a h2 h1
section rpw
variable {h : mH} {rd pl : Nat} {rsc psc : Nat → Int32} {rar par_ : Nat → Nat → Int32}
theorem rp_u (hd : djN (4, rd) (3, pl)) : blkW 4 (blkW 3 h pl psc par_) rd rsc rar = blkW 3 (blkW 4 h rd rsc rar) pl psc par_ := blkW_comm hd
theorem rp_A (hd : djN (4, rd) (3, pl)) : ∀ rsc rar, bAt 3 (blkW 4 (blkW 3 h pl psc par_) rd rsc rar) pl psc par_ := fun _ _ => bAt_out hd.sym blkW_at
end rpw
/-- how a clause ends -/
def RZ (h : mH) (rd pl n : Nat) (rar : Nat → Nat → Int32) (Z : Rs (Pg × Nat)) : Option Value → mH → Prop := fun r h' => r = none ∧ ∃ rsc psc par_, h' = rpW h rd pl rsc rar psc par_ ∧ (match Z with
  | .inl y => ∃ a, ST (rar 0) n rsc (some y) a
  | .inr z => ST (rar 0) n rsc none z.2 ∧ CQ (fin z.1) psc par_)
def Zf {α : Type} (f : Option (Nat × Nat)) (Z : Rs α) : Rs α := match f with
  | none => Z
  | some y => .inl y
theorem Zf_fo {α : Type} {f : Option (Nat × Nat)} {y : Nat × Nat} {Z : Rs α} : Zf (fo f y) Z = Zf f (.inl y) := by cases f <;> rfl
theorem sgn_c {T : Nat → Int32} {n a : Nat} {c : Int32} (h1 : isD c = false) (h2 : ¬ c = -2) : sgn T n a = c ↔ hv T n a = c := by
  unfold sgn
  cases hN : isNm T n a
  · exact Iff.rfl
  · have := isNm_iff.mp hN
    rw [if_pos rfl]
    unfold hv
    rw [if_pos this.1]
    constructor
    · intro e; exact absurd e.symm h2
    · intro e; rw [e, h1] at this; cases this.2
theorem nxt_c {T : Nat → Int32} {n a : Nat} {c : Int32} (h : hv T n a = c) (h1 : isD c = false) (h2 : ¬ c = -1) : nxt T n a = skp T n a + 1 := by
  have hs := hv_lt h h2
  unfold nxt
  cases hN : isNm T n a
  · rw [if_neg (by decide), if_pos hs]
  · have := isNm_iff.mp hN
    unfold hv at h
    rw [if_pos hs] at h
    rw [h, h1] at this; cases this.2
theorem hv_skp {T : Nat → Int32} {n a : Nat} : hv T n (skp T n a) = hv T n a := by unfold hv; rw [skp_id]
theorem pNum_skp {T : Nat → Int32} {n a m : Nat} : pNum T n (skp T n a) m = pNum T n a m := by unfold pNum isNm; rw [skp_id]
theorem pFace_skp {C : Nat → Bool} {T : Nat → Int32} {n a m : Nat} {F : Int32} : pFace C T n (skp T n a) m F = pFace C T n a m F := by unfold pFace; rw [pNum_skp]
/-- the faces, the end, the type -/
def tlT (p : Pg) (T : Nat → Int32) (n : Nat) (c : Bool) (pa : Int32) (k a : Nat) (F : Int32) : Rs (Pg × Nat) := match pFaces (isC p) T n (nT p) k a F with
  | .inl x => .inl x
  | .inr w => if hv T n w.2 = 59 then .inr (addT p c pa w.1, skp T n w.2 + 1) else .inl (1, skp T n w.2)
section rtype
variable {g : mG} {h : mH} {sz u rd pl n : Nat} {p : Pg} {psc : Nat → Int32} {rar par_ : Nat → Nat → Int32} {c : Bool} {pa : Int32}
set_option maxRecDepth 20000 in
set_option maxHeartbeats 1000000 in
theorem e_rtEnd (hd : djN (4, rd) (3, pl)) (hq : CQ (fin p) psc par_) (hw : WR p) (hn : n ≤ 240) (hl : ltr (rar 0) n) {f : Option (Nat × Nat)} {a : Nat} {F x5 : Int32} {rsc : Nat → Int32} (hS : ST (rar 0) n rsc f a) (hW : f = none → WR (addT p c pa F)) (Z : Rs (Pg × Nat)) (hZ1 : hv (rar 0) n a = 59 → Z = .inr (addT p c pa F, skp (rar 0) n a + 1)) (hZ2 : ¬ hv (rar 0) n a = 59 → Z = .inl (1, skp (rar 0) n a)) : V g 4 m_Read_readType (RZ h rd pl n rar (Zf f Z)) sz u 113 [.ref rd, .ref pl, .int (b2 c), .int pa, .int F, .int x5] [] (rpW h rd pl rsc rar psc par_) sz u := by
  have hA := rp_A (h := h) (psc := psc) (par_ := par_) hd
  have hsg := sgn_c (T := rar 0) (n := n) (a := a) (c := 59) (by decide) (by decide)
  refine V_aload_n rfl rfl ?_
  refine V_callV rfl rfl m_Read_isEnded_w m_Read_isEnded_x rfl (by decide) rfl (w_isEnded hS hn hl) (by decide) rfl (by first | assumption | exact blkW_0 | exact bAt_0 (by assumption) | exact bAt_0 (hA _ _) | rfl) (Nat.le_of_ble_eq_true rfl) (by first | exact Nat.le_refl _ | omega | decide) (by first | exact Nat.le_refl _ | omega | decide) (fun r hh1 hP => ?_)
  obtain ⟨rfl, rsc', rfl, hS2⟩ := hP
  by_cases e : hv (rar 0) n a = 59
  · rw [if_pos (hsg.mpr e)] at hS2 ⊢
    rw [hZ1 e]
    rw [nxt_c e (by decide) (by decide)] at hS2
    cases f with
    | none =>
      refine V_if_eqF rfl (by decide) ?_
      refine V_aload_n rfl rfl ?_
      refine V_iload_n rfl rfl ?_
      refine V_iload_n rfl rfl ?_
      refine V_iload rfl rfl ?_
      rw [rp_u hd]
      refine V_callV rfl rfl m_Plan_addType_w m_Plan_addType_x rfl (by decide) rfl (w_addType hq hw (hW rfl)) (by decide) rfl (by first | assumption | exact blkW_0 | exact bAt_0 (by assumption) | exact bAt_0 (hA _ _) | rfl) (Nat.le_of_ble_eq_true rfl) (by first | exact Nat.le_refl _ | omega | decide) (by first | exact Nat.le_refl _ | omega | decide) (fun r hh1 hP => ?_)
      obtain ⟨rfl, psc', par', rfl, hq2⟩ := hP
      refine V_return rfl rfl ?_
      exact ⟨rfl, rsc', psc', par', (rp_u hd).symm, hS2, hq2⟩
    | some y =>
      refine V_if_eqT rfl (rfl) ?_
      refine V_return rfl rfl ?_
      exact ⟨rfl, rsc', psc, par_, rfl, _, hS2⟩
  · rw [if_neg (fun z => e (hsg.mp z))] at hS2 ⊢
    rw [hZ2 e]
    cases f with
    | none =>
      refine V_if_eqT rfl (rfl) ?_
      refine V_return rfl rfl ?_
      exact ⟨rfl, rsc', psc, par_, rfl, _, hS2⟩
    | some y =>
      refine V_if_eqT rfl (rfl) ?_
      refine V_return rfl rfl ?_
      exact ⟨rfl, rsc', psc, par_, rfl, _, hS2⟩
set_option maxRecDepth 20000 in
set_option maxHeartbeats 1000000 in
theorem e_rt (hd : djN (4, rd) (3, pl)) (hq : CQ (fin p) psc par_) (hw : WR p) (hn : n ≤ 240) (hl : ltr (rar 0) n) (k : Nat) : k ≤ 2 → ∀ (f : Option (Nat × Nat)) (a : Nat) (F : Int32) (rsc : Nat → Int32), ST (rar 0) n rsc f a → (f = none → ∀ F, WR (addT p c pa F)) → V g 4 m_Read_readType (RZ h rd pl n rar (Zf f (tlT p (rar 0) n c pa k a F))) sz u 73 [.ref rd, .ref pl, .int (b2 c), .int pa, .int F, .int (nI (2 - k))] [] (rpW h rd pl rsc rar psc par_) sz u := by
  have hA := rp_A (h := h) (psc := psc) (par_ := par_) hd
  have hT := hw.1.1
  induction k with
  | zero =>
    intro hk f a F rsc hS hW
    refine V_iload rfl rfl ?_
    refine V_iconst (v := 2) rfl (by decide) ?_
    refine V_icmp_geT rfl (by decide) ?_
    refine e_rtEnd hd hq hw hn hl hS (fun z => hW z F) _ (fun e => ?_) (fun e => ?_)
    · unfold tlT
      rw [show pFaces (isC p) (rar 0) n (nT p) 0 a F = if hv (rar 0) n a = 44 then .inl (1, skp (rar 0) n a) else .inr (F, skp (rar 0) n a) from rfl, if_neg (by rw [e]; decide)]
      dsimp only
      rw [hv_skp, skp_id, if_pos e]
    · unfold tlT
      rw [show pFaces (isC p) (rar 0) n (nT p) 0 a F = if hv (rar 0) n a = 44 then .inl (1, skp (rar 0) n a) else .inr (F, skp (rar 0) n a) from rfl]
      by_cases e2 : hv (rar 0) n a = 44
      · rw [if_pos e2]
      · rw [if_neg e2]
        dsimp only
        rw [hv_skp, skp_id, if_neg e]
  | succ k ih =>
    intro hk f a F rsc hS hW
    have hpe : pFaces (isC p) (rar 0) n (nT p) (k + 1) a F = if hv (rar 0) n a = 44 then (match pFace (isC p) (rar 0) n (skp (rar 0) n a + 1) (nT p) F with
      | .inl x => .inl x
      | .inr z => pFaces (isC p) (rar 0) n (nT p) k z.2 z.1) else .inr (F, skp (rar 0) n a) := rfl
    have h5 := hS.2.2.2.1
    have hsg := sgn_c (T := rar 0) (n := n) (a := a) (c := 44) (by decide) (by decide)
    refine V_iload rfl rfl ?_
    refine V_iconst (v := 2) rfl (by decide) ?_
    refine V_icmp_geF rfl (nI_ge (b := 2) (show 2 - (k + 1) < 2 by omega) (by decide)) ?_
    refine V_aload_n rfl rfl ?_
    refine V_getI rfl rfl (by first | assumption | exact blkW_0 | exact bAt_0 (by assumption) | exact bAt_0 (hA _ _) | rfl) (by rfl) (by first | exact rS_5 | exact (by assumption) | rfl) ?_
    refine V_bipush (v := 44) rfl (by decide) ?_
    by_cases e : hv (rar 0) n a = 44
    · rw [if_pos e] at hpe
      obtain ⟨h0, h1, h4, -, h6, h7, h8, hf⟩ := id hS
      refine V_icmp_neF rfl (hsg.mpr e) ?_
      refine V_aload_n rfl rfl ?_
      refine V_callV rfl rfl m_Read_advance_w m_Read_advance_x rfl (by decide) rfl (w_advance (f := f) h1 hn h4 (nxt_le h0) hl hf) (by decide) rfl (by first | assumption | exact blkW_0 | exact bAt_0 (by assumption) | exact bAt_0 (hA _ _) | rfl) (Nat.le_of_ble_eq_true rfl) (by first | exact Nat.le_refl _ | omega | decide) (by first | exact Nat.le_refl _ | omega | decide) (fun r hh1 hP => ?_)
      obtain ⟨rfl, rsc1, rfl, hS1, -⟩ := hP
      rw [nxt_c e (by decide) (by decide)] at hS1
      refine V_iload rfl rfl ?_
      refine V_aload_n rfl rfl ?_
      refine V_aload_n rfl rfl ?_
      refine V_iload rfl rfl ?_
      refine V_callV rfl rfl m_Read_readInterface_w m_Read_readInterface_x rfl (by decide) rfl (w_readIf hA hq hS1 hn hl F) (by decide) rfl (by first | assumption | exact blkW_0 | exact bAt_0 (by assumption) | exact bAt_0 (hA _ _) | rfl) (Nat.le_of_ble_eq_true rfl) (by first | exact Nat.le_refl _ | omega | decide) (by first | exact Nat.le_refl _ | omega | decide) (fun r hh1 hP => ?_)
      obtain ⟨v, rsc2, rfl, rfl, hS2⟩ := hP
      have hS2 : (match pFace (isC p) (rar 0) n (skp (rar 0) n a + 1) (nT p) F with
        | .inl y => ∃ a', ST (rar 0) n rsc2 (fo f y) a'
        | .inr z => z.1 = F ||| bitV v ∧ ST (rar 0) n rsc2 f z.2) := hS2
      refine V_callSi rfl rfl (Or.inr rfl) m_EB_bit_w m_EB_bit_x rfl rfl (s_bit _) (by decide) rfl (Nat.le_of_ble_eq_true rfl) ?_
      refine V_ior rfl ?_
      refine V_is4 rfl (by first | rfl | assumption) ?_
      refine V_inc5 rfl (by first | exact mInc _ | rfl) (by first | rfl | assumption) ?_
      rw [show 2 - (k + 1) + 1 = 2 - k by omega]
      refine V_goto rfl ?_
      unfold tlT
      rw [hpe]
      generalize hN : pFace (isC p) (rar 0) n (skp (rar 0) n a + 1) (nT p) F = X at hS2
      rcases X with y | ⟨F2, e2⟩
      · obtain ⟨a2, hS2⟩ := hS2
        have := ih (by omega) (fo f y) a2 (F ||| bitV v) rsc2 hS2 (fun z => absurd z fo_some)
        rw [Zf_fo] at this
        exact this
      · obtain ⟨hF, hS2⟩ := hS2
        have hF : F2 = F ||| bitV v := hF
        rw [← hF]
        exact ih (by omega) f e2 F2 rsc2 hS2 hW
    · rw [if_neg e] at hpe
      refine V_icmp_neT rfl (fun z => e (hsg.mp z)) ?_
      refine e_rtEnd hd hq hw hn hl hS (fun z => hW z F) _ (fun e3 => ?_) (fun e3 => ?_)
      · unfold tlT
        rw [hpe]
        dsimp only
        rw [hv_skp, skp_id, if_pos e3]
      · unfold tlT
        rw [hpe]
        dsimp only
        rw [hv_skp, skp_id, if_neg e3]
theorem pPar_eq {T : Nat → Int32} {a : Nat} (hT : nT p ≤ 12) : pPar (fin p) T n a = (match pNum T n a 100 with
  | .inl x => .inl x
  | .inr z => if ¬ z.1 = 99 ∧ nT p ≤ z.1 then .inl (2, z.2.2) else if ¬ z.1 = 99 ∧ isC p z.1 = false then .inl (4, z.2.2) else .inr (if z.1 = 99 then -1 else nI z.1, z.2.1)) := by
  unfold pPar pNb pNum
  cases hN : isNm T n a
  · rfl
  · rw [if_pos rfl, if_pos rfl]
    by_cases d2 : dgn T n a ≤ 2
    · have hv := vN_b hN d2
      have d2' : dgE T n (skp T n a) - skp T n a ≤ 2 := d2
      have hv' : vN T (skp T n a) (dgE T n (skp T n a) - skp T n a) ≤ 99 := hv
      rw [if_pos (show dgE T n (skp T n a) - skp T n a ≤ 2 ∧ vN T (skp T n a) (dgE T n (skp T n a) - skp T n a) < 100 from ⟨d2', by omega⟩)]
      rw [show dgE T n (skp T n a) - skp T n a = dgn T n a from rfl]
      generalize vN T (skp T n a) (dgn T n a) = v at hv
      show (match (if dgn T n a ≤ 2 ∧ (v < nT p ∨ nI v = 99) then .inr (v, dgE T n (skp T n a), skp T n a) else .inl (2, skp T n a) : Rs (Nat × Nat × Nat)) with
        | .inl y => .inl y
        | .inr z => if z.1 = 99 then .inr (-1, z.2.1) else if isC p z.1 then .inr (nI z.1, z.2.1) else .inl (4, z.2.2) : Rs (Int32 × Nat)) = _
      by_cases e9 : v = 99
      · subst e9
        rw [if_pos ⟨d2, Or.inr rfl⟩]
        simp
      · have hne : ¬ nI v = 99 := fun z => e9 ((nI_eq (b := 99) (by omega) (by decide)).mp z)
        by_cases hlt : v < nT p
        · rw [if_pos ⟨d2, Or.inl hlt⟩]
          cases hc : isC p v
          · simp [e9, hc, Nat.not_le.mpr hlt]
          · simp [e9, hc, Nat.not_le.mpr hlt]
        · rw [if_neg (fun z => z.2.elim hlt hne)]
          simp [e9, Nat.not_lt.mp hlt]
    · rw [if_neg (fun z => d2 z.1), if_neg (fun z => d2 z.1)]
end rtype
