def pBody (p : Pg) (T : Nat → Int32) (n a : Nat) : Rs (Pg × Nat) := match pNum T n a (nT p) with
  | .inl x => .inl x
  | .inr z => (match pNum T n z.2.1 6 with
    | .inl x => .inl x
    | .inr w => if hasB p z.1 w.1 then .inl (4, w.2.2) else .inr (addB p z.1 w.1, w.2.1))
def pStep (p : Pg) (T : Nat → Int32) (n a k : Nat) : Rs (Pg × Nat) := match pNum T n a (nB p) with
  | .inl x => .inl x
  | .inr z => if k = 2 then (if par p (bT p z.1) < 0 then .inl (4, z.2.2) else (match pNum T n z.2.1 6 with
      | .inl x => .inl x
      | .inr w => .inr (addS p 2 z.1 0 w.1, w.2.1)))
    else (match pNum T n z.2.1 (nT p) with
      | .inl x => .inl x
      | .inr y => if k = 0 then (if isC p y.1 then .inr (addS p 0 z.1 y.1 0, y.2.1) else .inl (4, y.2.2)) else (match pNum T n y.2.1 6 with
        | .inl x => .inl x
        | .inr w => .inr (addS p 1 z.1 y.1 w.1, w.2.1)))
def qB (q : Nat → Nat → Int32) (s : Nat) (a b : Int32) : Nat → Nat → Int32 := fun k j => if j = s then (if k = 27 then a else if k = 28 then b else q k j) else q k j
theorem qB_i {q : Nat → Nat → Int32} {s : Nat} {a b : Int32} : va_up (va_up q 27 (upd (q 27) s a)) 28 (upd (va_up q 27 (upd (q 27) s a) 28) s b) = qB q s a b := by
  funext k j
  unfold qB va_up upd
  by_cases e : k = 27
  · subst e; simp
  · by_cases e2 : k = 28
    · subst e2; simp
    · simp [e, e2]
theorem RD_addB {p : Pg} {f f2 : Nat → Int32} {q : Nat → Nat → Int32} {t m : Nat} (h : RD p f q) (h26 : f2 26 = nI (nB p + 1)) (h22 : f2 22 = f 22) (h29 : f2 29 = f 29) (h18 : f2 18 = f 18) : RD (addB p t m) f2 (qB q (nB p) (nI t) (nI m)) := by
  obtain ⟨h1, h2, h3, h4⟩ := h
  have ho : ∀ k j, ¬ k = 27 → ¬ k = 28 → qB q (nB p) (nI t) (nI m) k j = q k j := fun k j e e2 => by unfold qB; simp [e, e2]
  refine ⟨⟨h22.trans h1.1, h26, h29.trans h1.2.2.1, h18.trans h1.2.2.2⟩, fun t ht => ?_, fun b hb => ?_, fun s hs => ?_⟩
  · rw [ho _ _ (by decide) (by decide), ho _ _ (by decide) (by decide), ho _ _ (by decide) (by decide)]
    exact h2 t ht
  · have hb : b < nB p + 1 := hb
    show qB q (nB p) (nI t) (nI m) 27 b = nI (if b = nB p then t else bT p b) ∧ qB q (nB p) (nI t) (nI m) 28 b = nI (if b = nB p then m else bM p b)
    unfold qB
    by_cases e : b = nB p
    · simp only [if_pos e]
      exact ⟨rfl, rfl⟩
    · simp only [if_neg e]
      exact h3 b (by omega)
  · rw [ho _ _ (by decide) (by decide), ho _ _ (by decide) (by decide), ho _ _ (by decide) (by decide), ho _ _ (by decide) (by decide)]
    exact h4 s hs
def qS (q : Nat → Nat → Int32) (s : Nat) (a b c d : Int32) : Nat → Nat → Int32 := fun k j => if j = s then (if k = 30 then a else if k = 31 then b else if k = 32 then c else if k = 33 then d else q k j) else q k j
theorem qS_i {q : Nat → Nat → Int32} {s : Nat} : q = qS q s (q 30 s) (q 31 s) (q 32 s) (q 33 s) := by
  funext k j
  unfold qS
  by_cases e : j = s
  · subst e
    by_cases e1 : k = 30
    · subst e1; simp
    · by_cases e2 : k = 31
      · subst e2; simp
      · by_cases e3 : k = 32
        · subst e3; simp
        · by_cases e4 : k = 33
          · subst e4; simp
          · simp [e1, e2, e3, e4]
  · simp [e]
theorem qS_u {q : Nat → Nat → Int32} {s K : Nat} {a b c d v : Int32} (hK : K = 30 ∨ K = 31 ∨ K = 32 ∨ K = 33) : va_up (qS q s a b c d) K (upd (qS q s a b c d K) s v) = qS q s (if K = 30 then v else a) (if K = 31 then v else b) (if K = 32 then v else c) (if K = 33 then v else d) := by
  funext k j
  unfold qS va_up upd
  by_cases ej : j = s
  · subst ej
    rcases hK with rfl | rfl | rfl | rfl
    · by_cases e1 : k = 30
      · subst e1; simp
      · simp [e1]
    · by_cases e1 : k = 31
      · subst e1; simp
      · simp [e1]
    · by_cases e1 : k = 32
      · subst e1; simp
      · simp [e1]
    · by_cases e1 : k = 33
      · subst e1; simp
      · simp [e1]
  · by_cases e : k = K
    · subst e; simp [ej]
    · simp [ej, e]
theorem qS_u30 {q : Nat → Nat → Int32} {s : Nat} {a b c d v : Int32} : va_up (qS q s a b c d) 30 (upd (qS q s a b c d 30) s v) = qS q s v b c d := qS_u (Or.inl rfl)
theorem qS_u31 {q : Nat → Nat → Int32} {s : Nat} {a b c d v : Int32} : va_up (qS q s a b c d) 31 (upd (qS q s a b c d 31) s v) = qS q s a v c d := qS_u (Or.inr (Or.inl rfl))
theorem qS_u32 {q : Nat → Nat → Int32} {s : Nat} {a b c d v : Int32} : va_up (qS q s a b c d) 32 (upd (qS q s a b c d 32) s v) = qS q s a b v d := qS_u (Or.inr (Or.inr (Or.inl rfl)))
theorem qS_u33 {q : Nat → Nat → Int32} {s : Nat} {a b c d v : Int32} : va_up (qS q s a b c d) 33 (upd (qS q s a b c d 33) s v) = qS q s a b c v := qS_u (Or.inr (Or.inr (Or.inr rfl)))
theorem RD_qS {p : Pg} {f : Nat → Int32} {q : Nat → Nat → Int32} {a b c d : Int32} (h : RD p f q) : RD p f (qS q (nS p) a b c d) := by
  obtain ⟨h1, h2, h3, h4⟩ := h
  have ho : ∀ k j, ¬ k = 30 → ¬ k = 31 → ¬ k = 32 → ¬ k = 33 → qS q (nS p) a b c d k j = q k j := fun k j e e2 e3 e4 => by unfold qS; simp [e, e2, e3, e4]
  refine ⟨h1, fun t ht => ?_, fun b hb => ?_, fun s hs => ?_⟩
  · rw [ho _ _ (by decide) (by decide) (by decide) (by decide), ho _ _ (by decide) (by decide) (by decide) (by decide), ho _ _ (by decide) (by decide) (by decide) (by decide)]
    exact h2 t ht
  · rw [ho _ _ (by decide) (by decide) (by decide) (by decide), ho _ _ (by decide) (by decide) (by decide) (by decide)]
    exact h3 b hb
  · unfold qS
    simp only [if_neg (show ¬ s = nS p by omega)]
    exact h4 s hs
theorem RD_addS {p : Pg} {f f2 : Nat → Int32} {q : Nat → Nat → Int32} {k b t m : Nat} {k1 b1 t1 m1 : Int32} (h : RD p f q) (h29 : f2 29 = nI (nS p + 1)) (h22 : f2 22 = f 22) (h26 : f2 26 = f 26) (h18 : f2 18 = f 18) (hk : k1 = nI k) (hb : b1 = nI b) (ht : t1 = nI t) (hm : m1 = nI m) : RD (addS p k b t m) f2 (qS q (nS p) k1 b1 t1 m1) := by
  obtain ⟨h1, h2, h3, -⟩ := RD_qS (a := k1) (b := b1) (c := t1) (d := m1) h
  obtain ⟨-, -, -, h4⟩ := h
  refine ⟨⟨h22.trans h1.1, h26.trans h1.2.1, h29, h18.trans h1.2.2.2⟩, h2, h3, fun s hs => ?_⟩
  have hs : s < nS p + 1 := hs
  show qS q (nS p) k1 b1 t1 m1 30 s = nI (if s = nS p then k else sK p s) ∧ qS q (nS p) k1 b1 t1 m1 31 s = nI (if s = nS p then b else sB p s) ∧ qS q (nS p) k1 b1 t1 m1 32 s = nI (if s = nS p then t else sT p s) ∧ qS q (nS p) k1 b1 t1 m1 33 s = nI (if s = nS p then m else sM p s)
  unfold qS
  by_cases e : s = nS p
  · simp only [if_pos e]
    exact ⟨hk, hb, ht, hm⟩
  · simp only [if_neg e]
    exact h4 s (by omega)
section mparse5
variable {g : mG} {h : mH} {sz u md : Nat} {p : Pg} {sc f : Nat → Int32} {ar q : Nat → Nat → Int32}
set_option maxRecDepth 20000 in
set_option maxHeartbeats 1000000 in
theorem w_takeBody {n a : Nat} {x y : Int32} (h17 : sc 17 = nI n ∧ n ≤ 240) (ha : a < 2 ^ 30) (hr : RD p f q) (hw : WR p) (ht : nB p < 20) : Mt g 2 m_MD_takeBody [.ref md] (blkW 7 h md (psS sc (pF f (nI a) x y)) (arS ar q)) sz u (RP h md sc ar (fun _ => True) (pBody p (ar 16) n a) (fun z f' q' => f' 19 = nI z.2 ∧ RD z.1 f' q')) sz u := by
  have h22 := hr.1.1
  have h26 := hr.1.2.1
  have hn := h17.2
  have hT := hw.1.1
  refine Mt.of m_MD_takeBody_w m_MD_takeBody_x m_MD_takeBody_c rfl rfl (ls := [.ref md, .retAddr 0, .retAddr 0, .retAddr 0]) rfl ?_
  have tno : ∀ {f1 : Nat → Int32} {q1 : Nat → Nat → Int32} {k s : Nat} {tv bv : Int32} {X : Rs (Pg × Nat)}, X = .inl (k, s) → 1 ≤ k ∧ k ≤ 4 → f1 18 = nI s → f1 26 = nI (nB p) → V g 2 m_MD_takeBody (RP h md sc ar (fun _ => True) X (fun (z : Pg × Nat) f' q' => f' 19 = nI z.2 ∧ RD z.1 f' q')) sz u 34 [.ref md, .int (nI k), .int tv, .int bv] [] (blkW 7 h md (psS sc f1) (arS ar q1)) sz u := by
    intro f1 q1 k s tv bv X hX hk h18 h26b
    have t89 : V g 2 m_MD_takeBody (RP h md sc ar (fun _ => True) X (fun (z : Pg × Nat) f' q' => f' 19 = nI z.2 ∧ RD z.1 f' q')) sz u 89 [.ref md, .int (nI k), .int tv, .int bv] [] (blkW 7 h md (psS sc f1) (arS ar q1)) sz u := by
      refine V_aload_n rfl rfl ?_
      refine V_getfield rfl rfl (by first | assumption | exact blkW_0 | exact bAt_0 (by assumption) | rfl) (by rfl) ?_
      refine V_aload_n rfl rfl ?_
      refine V_getI rfl rfl (by first | assumption | exact blkW_0 | exact bAt_0 (by assumption) | rfl) (by rfl) (by first | exact (psS_g rfl).trans ((pF_o rfl).trans (by assumption)) | exact (psS_g rfl).trans (by assumption) | exact (psS_g rfl).trans pk_us | exact (psS_g rfl).trans ((pk_un (by decide)).trans (by assumption)) | exact (psS_g rfl).trans ((pk_un (by decide)).trans pk_us) | exact (psS_g rfl).trans ((pk_un (by decide)).trans ((pk_un (by decide)).trans (by assumption))) | exact psS_g rfl | rfl) ?_
      refine V_iload_n rfl rfl ?_
      first | refine V_past rfl rfl rfl rfl (by first | with_reducible rfl | exact nI_add 2 _ | exact nI_add 26 _ | exact ix45 _ _ | exact ixm45 _ | exact ix25 _ | exact fa_lit _ | assumption) (by first | omega | assumption | decide) (by first | decide | omega | assumption) ?_ | refine V_bast rfl rfl rfl (by first | with_reducible rfl | exact nI_add 2 _ | exact nI_add 26 _ | exact ix45 _ _ | exact ixm45 _ | exact ix25 _ | exact fa_lit _ | assumption) (by first | omega | assumption | decide) (by first | decide | omega | assumption) ?_ | refine V_iastore rfl (by first | assumption | exact blkW_i rfl rfl | exact blkW_z rfl rfl | exact bAt_i (by assumption) rfl rfl | exact bAt_z (by assumption) rfl rfl | rfl) (by first | with_reducible rfl | exact nI_add 2 _ | exact nI_add 26 _ | exact ix45 _ _ | exact ixm45 _ | exact ix25 _ | exact fa_lit _ | assumption) (by first | omega | assumption | decide) (by first | decide | omega | assumption) ?_
      refine V_aload_n rfl rfl ?_
      refine V_getfield rfl rfl (by first | assumption | exact blkW_0 | exact bAt_0 (by assumption) | rfl) (by rfl) ?_
      refine V_aload_n rfl rfl ?_
      refine V_getI rfl rfl (by first | assumption | exact blkW_0 | exact bAt_0 (by assumption) | rfl) (by rfl) (by first | exact (psS_g rfl).trans ((pF_o rfl).trans (by assumption)) | exact (psS_g rfl).trans (by assumption) | exact (psS_g rfl).trans pk_us | exact (psS_g rfl).trans ((pk_un (by decide)).trans (by assumption)) | exact (psS_g rfl).trans ((pk_un (by decide)).trans pk_us) | exact (psS_g rfl).trans ((pk_un (by decide)).trans ((pk_un (by decide)).trans (by assumption))) | exact psS_g rfl | rfl) ?_
      refine V_aload_n rfl rfl ?_
      refine V_getI rfl rfl (by first | assumption | exact blkW_0 | exact bAt_0 (by assumption) | rfl) (by rfl) (by first | exact (psS_g rfl).trans pF_20 | exact (psS_g rfl).trans (by assumption) | exact (psS_g rfl).trans pk_us | exact (psS_g rfl).trans ((pk_un (by decide)).trans (by assumption)) | exact (psS_g rfl).trans ((pk_un (by decide)).trans pk_us) | exact (psS_g rfl).trans ((pk_un (by decide)).trans ((pk_un (by decide)).trans (by assumption))) | exact psS_g rfl | rfl) ?_
      first | refine V_past rfl rfl rfl rfl (by first | with_reducible rfl | exact nI_add 2 _ | exact nI_add 26 _ | exact ix45 _ _ | exact ixm45 _ | exact ix25 _ | exact fa_lit _ | assumption) (by first | omega | assumption | decide) (by first | decide | omega | assumption) ?_ | refine V_bast rfl rfl rfl (by first | with_reducible rfl | exact nI_add 2 _ | exact nI_add 26 _ | exact ix45 _ _ | exact ixm45 _ | exact ix25 _ | exact fa_lit _ | assumption) (by first | omega | assumption | decide) (by first | decide | omega | assumption) ?_ | refine V_iastore rfl (by first | assumption | exact blkW_i rfl rfl | exact blkW_z rfl rfl | exact bAt_i (by assumption) rfl rfl | exact bAt_z (by assumption) rfl rfl | rfl) (by first | with_reducible rfl | exact nI_add 2 _ | exact nI_add 26 _ | exact ix45 _ _ | exact ixm45 _ | exact ix25 _ | exact fa_lit _ | assumption) (by first | omega | assumption | decide) (by first | decide | omega | assumption) ?_
      refine V_aload_n rfl rfl ?_
      refine V_dup rfl rfl ?_
      refine V_getI rfl rfl (by first | assumption | exact blkW_0 | exact bAt_0 (by assumption) | rfl) (by rfl) (by first | exact (psS_g rfl).trans ((pF_o rfl).trans (by assumption)) | exact (psS_g rfl).trans (by assumption) | exact (psS_g rfl).trans pk_us | exact (psS_g rfl).trans ((pk_un (by decide)).trans (by assumption)) | exact (psS_g rfl).trans ((pk_un (by decide)).trans pk_us) | exact (psS_g rfl).trans ((pk_un (by decide)).trans ((pk_un (by decide)).trans (by assumption))) | exact psS_g rfl | rfl) ?_
      refine V_iconst (v := 1) rfl (by decide) ?_
      refine V_iadd rfl ?_
      first | refine V_pput rfl rfl rfl rfl rfl ?_ | refine V_bput rfl rfl rfl rfl rfl rfl ?_ | refine V_bputZ rfl rfl rfl rfl rfl rfl (by decide) ?_ | refine V_put rfl rfl (by first | assumption | rfl) (by decide) (fun _ hty => by cases hty; exact ⟨rfl, rfl⟩) (by first | exact Or.inl rfl | exact Or.inr ⟨rfl, rfl⟩) rfl ?_
      refine V_iload_n rfl rfl ?_
      refine V_ireturn rfl rfl (by first | rfl | exact b2_nar _ | assumption | decide) ?_
      exact RP_no hX hk rfl ((pk_un (by decide)).trans h18) trivial
    refine V_iload_n rfl rfl ?_
    refine V_aload_n rfl rfl ?_
    refine V_getI rfl rfl (by first | assumption | exact blkW_0 | exact bAt_0 (by assumption) | rfl) (by rfl) (by first | exact (psS_g rfl).trans ((pF_o rfl).trans (by assumption)) | exact (psS_g rfl).trans (by assumption) | exact (psS_g rfl).trans pk_us | exact (psS_g rfl).trans ((pk_un (by decide)).trans (by assumption)) | exact (psS_g rfl).trans ((pk_un (by decide)).trans pk_us) | exact (psS_g rfl).trans ((pk_un (by decide)).trans ((pk_un (by decide)).trans (by assumption))) | exact psS_g rfl | rfl) ?_
    refine V_icmp_ge rfl (fun hc => ?_) (fun hc => ?_)
    · exact t89
    · refine V_iload_n rfl rfl ?_
      refine V_if_neT rfl ((nk_pos hk).2.1) ?_
      exact t89
  refine V_aload_n rfl rfl ?_
  refine V_iconst (v := 0) rfl (by decide) ?_
  refine V_aload_n rfl rfl ?_
  refine V_getI rfl rfl (by first | assumption | exact blkW_0 | exact bAt_0 (by assumption) | rfl) (by rfl) (by first | exact (psS_g rfl).trans ((pF_o rfl).trans (by assumption)) | exact (psS_g rfl).trans (by assumption) | exact (psS_g rfl).trans pk_us | exact (psS_g rfl).trans ((pk_un (by decide)).trans (by assumption)) | exact (psS_g rfl).trans ((pk_un (by decide)).trans pk_us) | exact (psS_g rfl).trans ((pk_un (by decide)).trans ((pk_un (by decide)).trans (by assumption))) | exact psS_g rfl | rfl) ?_
  refine V_iconst (v := 1) rfl (by decide) ?_
  refine V_isub rfl ?_
  refine V_callV rfl rfl m_MD_takeNumber_w m_MD_takeNumber_x rfl (by decide) rfl (w_num h17 ha (show nT p ≤ 100 by omega) rfl) (by decide) rfl (by first | assumption | exact blkW_0 | exact bAt_0 (by assumption) | rfl) (Nat.le_of_ble_eq_true rfl) (by first | exact Nat.le_refl _ | omega | decide) (by first | exact Nat.le_refl _ | omega | decide) (fun r hh1 hP => ?_)
  unfold pBody
  generalize hN : pNum (ar 16) n a (nT p) = z at hP
  rcases z with ⟨k, s⟩ | ⟨v, e, s⟩
  · obtain ⟨hk, rfl, f1, q1, rfl, h18, h26b⟩ := hP
    refine V_is1 rfl (by first | rfl | assumption) ?_
    refine V_aload_n rfl rfl ?_
    refine V_getI rfl rfl (by first | assumption | exact blkW_0 | exact bAt_0 (by assumption) | rfl) (by rfl) (by first | exact (psS_g rfl).trans pF_20 | exact (psS_g rfl).trans (by assumption) | exact (psS_g rfl).trans pk_us | exact (psS_g rfl).trans ((pk_un (by decide)).trans (by assumption)) | exact (psS_g rfl).trans ((pk_un (by decide)).trans pk_us) | exact (psS_g rfl).trans ((pk_un (by decide)).trans ((pk_un (by decide)).trans (by assumption))) | exact psS_g rfl | rfl) ?_
    refine V_is2 rfl (by first | rfl | assumption) ?_
    refine V_iload_n rfl rfl ?_
    refine V_if_leF rfl ((nk_pos hk).1) ?_
    refine V_iload_n rfl rfl ?_
    refine V_goto rfl ?_
    refine V_is1 rfl (by first | rfl | assumption) ?_
    refine V_iconst (v := 0) rfl (by decide) ?_
    refine V_is3 rfl (by first | rfl | assumption) ?_
    exact tno rfl hk h18 (h26b.trans h26)
  · obtain ⟨rfl, f1, q1, rfl, rfl, hq1⟩ := hP
    subst q1
    obtain ⟨hv1, hv2, hv3, hv4⟩ := pNum_ok hN
    refine V_is1 rfl (by first | rfl | assumption) ?_
    refine V_aload_n rfl rfl ?_
    refine V_getI rfl rfl (by first | assumption | exact blkW_0 | exact bAt_0 (by assumption) | rfl) (by rfl) (by first | exact (psS_g rfl).trans pF_20 | exact (psS_g rfl).trans (by assumption) | exact (psS_g rfl).trans pk_us | exact (psS_g rfl).trans ((pk_un (by decide)).trans (by assumption)) | exact (psS_g rfl).trans ((pk_un (by decide)).trans pk_us) | exact (psS_g rfl).trans ((pk_un (by decide)).trans ((pk_un (by decide)).trans (by assumption))) | exact psS_g rfl | rfl) ?_
    refine V_is2 rfl (by first | rfl | assumption) ?_
    refine V_iload_n rfl rfl ?_
    refine V_if_leT rfl (by decide) ?_
    refine V_aload_n rfl rfl ?_
    refine V_iconst (v := 0) rfl (by decide) ?_
    refine V_iconst (v := 5) rfl (by decide) ?_
    refine V_callV rfl rfl m_MD_takeNumber_w m_MD_takeNumber_x rfl (by decide) rfl (w_num (m := 6) h17 (show e < 2 ^ 30 by omega) (by decide) (by decide)) (by decide) rfl (by first | assumption | exact blkW_0 | exact bAt_0 (by assumption) | rfl) (Nat.le_of_ble_eq_true rfl) (by first | exact Nat.le_refl _ | omega | decide) (by first | exact Nat.le_refl _ | omega | decide) (fun r hh1 hP => ?_)
    generalize hM : pNum (ar 16) n e 6 = z at hP
    rcases z with ⟨k, s2⟩ | ⟨w, e2, s2⟩
    · obtain ⟨hk, rfl, f1, q1, rfl, h18, h26b⟩ := hP
      refine V_is1 rfl (by first | rfl | assumption) ?_
      refine V_iconst (v := 0) rfl (by decide) ?_
      refine V_is3 rfl (by first | rfl | assumption) ?_
      exact tno (by simp [hM]) hk h18 (h26b.trans h26)
    · obtain ⟨rfl, f1, q1, rfl, rfl, hq1⟩ := hP
      subst q1
      obtain ⟨hw1, hw2, hw3, hw4⟩ := pNum_ok hM
      have hKl := fa_first_le (fun b => bT p b == v && bM p b == w) (nB p)
      have hKe : fBod p v w = fa_first (fun b => bT p b == v && bM p b == w) (nB p) := rfl
      refine V_is1 rfl (by first | rfl | assumption) ?_
      refine V_iconst (v := 0) rfl (by decide) ?_
      refine V_is3 rfl (by first | rfl | assumption) ?_
      refine V_for2 (fBod p v w) (fun i => [.ref md, .int 0, .int (nI v), .int (nI i)]) (fun _ => blkW 7 h md (psS sc (pF f (nI e2) (nI w) (nI s2))) (arS ar q)) rfl rfl (fun i hi ih => ?_) ?_
      · have hno := fa_first_no (fun b => bT p b == v && bM p b == w) (nB p) i hi
        have hno : (bT p i == v && bM p i == w) = false := hno
        have hb := hw.2.2.1 i (by omega)
        refine V_iload_n rfl rfl ?_
        refine V_aload_n rfl rfl ?_
        refine V_getI rfl rfl (by first | assumption | exact blkW_0 | exact bAt_0 (by assumption) | rfl) (by rfl) (by first | exact (psS_g rfl).trans ((pF_o rfl).trans (by assumption)) | exact (psS_g rfl).trans (by assumption) | exact (psS_g rfl).trans pk_us | exact (psS_g rfl).trans ((pk_un (by decide)).trans (by assumption)) | exact (psS_g rfl).trans ((pk_un (by decide)).trans pk_us) | exact (psS_g rfl).trans ((pk_un (by decide)).trans ((pk_un (by decide)).trans (by assumption))) | exact psS_g rfl | rfl) ?_
        refine V_icmp_geF rfl (nI_ge (show i < nB p by omega) (by omega)) ?_
        refine V_iload_n rfl rfl ?_
        refine V_if_neF rfl (rfl) ?_
        refine V_aload_n rfl rfl ?_
        refine V_getfield rfl rfl (by first | assumption | exact blkW_0 | exact bAt_0 (by assumption) | rfl) (by rfl) ?_
        refine V_iload_n rfl rfl ?_
        refine V_iald rfl (by first | assumption | exact blkW_i rfl rfl | exact blkW_z rfl rfl | exact bAt_i (by assumption) rfl rfl | exact bAt_z (by assumption) rfl rfl | rfl) (by first | with_reducible rfl | exact nI_add 2 _ | exact nI_add 26 _ | exact ix45 _ _ | exact ixm45 _ | exact ix25 _ | exact fa_lit _ | assumption) (by first | omega | assumption | decide) (by first | decide | omega | assumption) (by first | exact (arS_g rfl).trans qF_g | exact (arS_g rfl).trans ((qF_o rfl).trans (rd_C (by assumption) (by first | omega | assumption))) | exact (arS_g rfl).trans ((qF_o rfl).trans (rd_P (by assumption) (by first | omega | assumption))) | exact (arS_g rfl).trans ((qF_o rfl).trans (rd_bT (by assumption) (by first | omega | assumption))) | exact (arS_g rfl).trans (rd_C (by assumption) (by first | omega | assumption)) | exact (arS_g rfl).trans (rd_P (by assumption) (by first | omega | assumption)) | exact (arS_g rfl).trans (rd_bT (by assumption) (by first | omega | assumption)) | exact (arS_g rfl).trans (rd_bM (by assumption) (by first | omega | assumption)) | exact arS_o rfl | exact arS_g rfl | exact mp_isC (by first | assumption | exact MP_rcS (by assumption) | exact MP_ar rfl (by assumption) | exact MP_sc rfl (by assumption)) (by first | omega | assumption) | exact mp_par (by first | assumption | exact MP_rcS (by assumption) | exact MP_ar rfl (by assumption) | exact MP_sc rfl (by assumption)) (by first | omega | assumption) | exact mp_abv (by first | assumption | exact MP_rcS (by assumption) | exact MP_ar rfl (by assumption) | exact MP_sc rfl (by assumption)) (by first | omega | assumption) | exact mp_dep (by first | assumption | exact MP_rcS (by assumption) | exact MP_ar rfl (by assumption) | exact MP_sc rfl (by assumption)) (by first | omega | assumption) | exact mp_bT (by first | assumption | exact MP_rcS (by assumption) | exact MP_ar rfl (by assumption) | exact MP_sc rfl (by assumption)) (by first | omega | assumption) | exact mp_bM (by first | assumption | exact MP_rcS (by assumption) | exact MP_ar rfl (by assumption) | exact MP_sc rfl (by assumption)) (by first | omega | assumption) | exact mp_sK (by first | assumption | exact MP_rcS (by assumption) | exact MP_ar rfl (by assumption) | exact MP_sc rfl (by assumption)) (by first | omega | assumption) | exact mp_sB (by first | assumption | exact MP_rcS (by assumption) | exact MP_ar rfl (by assumption) | exact MP_sc rfl (by assumption)) (by first | omega | assumption) | exact mp_sT (by first | assumption | exact MP_rcS (by assumption) | exact MP_ar rfl (by assumption) | exact MP_sc rfl (by assumption)) (by first | omega | assumption) | exact mp_sM (by first | assumption | exact MP_rcS (by assumption) | exact MP_ar rfl (by assumption) | exact MP_sc rfl (by assumption)) (by first | omega | assumption) | exact mp_cS (by first | assumption | exact MP_rcS (by assumption) | exact MP_ar rfl (by assumption) | exact MP_sc rfl (by assumption)) (by first | omega | assumption) | exact va_g | exact va_n (by decide) | rfl) ?_
        refine V_iload_n rfl rfl ?_
        by_cases e1 : bT p i = v
        · have e2 : ¬ bM p i = w := fun z => by simp [e1, z] at hno
          refine V_icmp_neF rfl (congrArg nI e1) ?_
          refine V_aload_n rfl rfl ?_
          refine V_getfield rfl rfl (by first | assumption | exact blkW_0 | exact bAt_0 (by assumption) | rfl) (by rfl) ?_
          refine V_iload_n rfl rfl ?_
          refine V_iald rfl (by first | assumption | exact blkW_i rfl rfl | exact blkW_z rfl rfl | exact bAt_i (by assumption) rfl rfl | exact bAt_z (by assumption) rfl rfl | rfl) (by first | with_reducible rfl | exact nI_add 2 _ | exact nI_add 26 _ | exact ix45 _ _ | exact ixm45 _ | exact ix25 _ | exact fa_lit _ | assumption) (by first | omega | assumption | decide) (by first | decide | omega | assumption) (by first | exact (arS_g rfl).trans qF_g | exact (arS_g rfl).trans ((qF_o rfl).trans (rd_C (by assumption) (by first | omega | assumption))) | exact (arS_g rfl).trans ((qF_o rfl).trans (rd_P (by assumption) (by first | omega | assumption))) | exact (arS_g rfl).trans ((qF_o rfl).trans (rd_bT (by assumption) (by first | omega | assumption))) | exact (arS_g rfl).trans (rd_C (by assumption) (by first | omega | assumption)) | exact (arS_g rfl).trans (rd_P (by assumption) (by first | omega | assumption)) | exact (arS_g rfl).trans (rd_bT (by assumption) (by first | omega | assumption)) | exact (arS_g rfl).trans (rd_bM (by assumption) (by first | omega | assumption)) | exact arS_o rfl | exact arS_g rfl | exact mp_isC (by first | assumption | exact MP_rcS (by assumption) | exact MP_ar rfl (by assumption) | exact MP_sc rfl (by assumption)) (by first | omega | assumption) | exact mp_par (by first | assumption | exact MP_rcS (by assumption) | exact MP_ar rfl (by assumption) | exact MP_sc rfl (by assumption)) (by first | omega | assumption) | exact mp_abv (by first | assumption | exact MP_rcS (by assumption) | exact MP_ar rfl (by assumption) | exact MP_sc rfl (by assumption)) (by first | omega | assumption) | exact mp_dep (by first | assumption | exact MP_rcS (by assumption) | exact MP_ar rfl (by assumption) | exact MP_sc rfl (by assumption)) (by first | omega | assumption) | exact mp_bT (by first | assumption | exact MP_rcS (by assumption) | exact MP_ar rfl (by assumption) | exact MP_sc rfl (by assumption)) (by first | omega | assumption) | exact mp_bM (by first | assumption | exact MP_rcS (by assumption) | exact MP_ar rfl (by assumption) | exact MP_sc rfl (by assumption)) (by first | omega | assumption) | exact mp_sK (by first | assumption | exact MP_rcS (by assumption) | exact MP_ar rfl (by assumption) | exact MP_sc rfl (by assumption)) (by first | omega | assumption) | exact mp_sB (by first | assumption | exact MP_rcS (by assumption) | exact MP_ar rfl (by assumption) | exact MP_sc rfl (by assumption)) (by first | omega | assumption) | exact mp_sT (by first | assumption | exact MP_rcS (by assumption) | exact MP_ar rfl (by assumption) | exact MP_sc rfl (by assumption)) (by first | omega | assumption) | exact mp_sM (by first | assumption | exact MP_rcS (by assumption) | exact MP_ar rfl (by assumption) | exact MP_sc rfl (by assumption)) (by first | omega | assumption) | exact mp_cS (by first | assumption | exact MP_rcS (by assumption) | exact MP_ar rfl (by assumption) | exact MP_sc rfl (by assumption)) (by first | omega | assumption) | exact va_g | exact va_n (by decide) | rfl) ?_
          refine V_aload_n rfl rfl ?_
          refine V_getI rfl rfl (by first | assumption | exact blkW_0 | exact bAt_0 (by assumption) | rfl) (by rfl) (by first | exact (psS_g rfl).trans pF_20 | exact (psS_g rfl).trans (by assumption) | exact (psS_g rfl).trans pk_us | exact (psS_g rfl).trans ((pk_un (by decide)).trans (by assumption)) | exact (psS_g rfl).trans ((pk_un (by decide)).trans pk_us) | exact (psS_g rfl).trans ((pk_un (by decide)).trans ((pk_un (by decide)).trans (by assumption))) | exact psS_g rfl | rfl) ?_
          refine V_icmp_neT rfl (fun z => e2 ((nI_eq (by omega) (by omega)).mp z)) ?_
          refine V_iconst (v := 0) rfl (by decide) ?_
          refine V_is1 rfl (by first | rfl | assumption) ?_
          refine V_inc3 rfl (by first | exact mInc _ | rfl) (by first | rfl | assumption) ?_
          refine V_goto rfl ?_
          exact ih
        · refine V_icmp_neT rfl (fun z => e1 ((nI_eq (by omega) (by omega)).mp z)) ?_
          refine V_iconst (v := 0) rfl (by decide) ?_
          refine V_is1 rfl (by first | rfl | assumption) ?_
          refine V_inc3 rfl (by first | exact mInc _ | rfl) (by first | rfl | assumption) ?_
          refine V_goto rfl ?_
          exact ih
      · by_cases hlt : fBod p v w < nB p
        · have hyes := fa_first_yes (fun b => bT p b == v && bM p b == w) (nB p) hlt
          have hyes : (bT p (fBod p v w) == v && bM p (fBod p v w) == w) = true := hyes
          rw [Bool.and_eq_true, beq_iff_eq, beq_iff_eq] at hyes
          refine V_iload_n rfl rfl ?_
          refine V_aload_n rfl rfl ?_
          refine V_getI rfl rfl (by first | assumption | exact blkW_0 | exact bAt_0 (by assumption) | rfl) (by rfl) (by first | exact (psS_g rfl).trans ((pF_o rfl).trans (by assumption)) | exact (psS_g rfl).trans (by assumption) | exact (psS_g rfl).trans pk_us | exact (psS_g rfl).trans ((pk_un (by decide)).trans (by assumption)) | exact (psS_g rfl).trans ((pk_un (by decide)).trans pk_us) | exact (psS_g rfl).trans ((pk_un (by decide)).trans ((pk_un (by decide)).trans (by assumption))) | exact psS_g rfl | rfl) ?_
          refine V_icmp_geF rfl (nI_ge hlt (by omega)) ?_
          refine V_iload_n rfl rfl ?_
          refine V_if_neF rfl (rfl) ?_
          refine V_aload_n rfl rfl ?_
          refine V_getfield rfl rfl (by first | assumption | exact blkW_0 | exact bAt_0 (by assumption) | rfl) (by rfl) ?_
          refine V_iload_n rfl rfl ?_
          refine V_iald rfl (by first | assumption | exact blkW_i rfl rfl | exact blkW_z rfl rfl | exact bAt_i (by assumption) rfl rfl | exact bAt_z (by assumption) rfl rfl | rfl) (by first | with_reducible rfl | exact nI_add 2 _ | exact nI_add 26 _ | exact ix45 _ _ | exact ixm45 _ | exact ix25 _ | exact fa_lit _ | assumption) (by first | omega | assumption | decide) (by first | decide | omega | assumption) (by first | exact (arS_g rfl).trans qF_g | exact (arS_g rfl).trans ((qF_o rfl).trans (rd_C (by assumption) (by first | omega | assumption))) | exact (arS_g rfl).trans ((qF_o rfl).trans (rd_P (by assumption) (by first | omega | assumption))) | exact (arS_g rfl).trans ((qF_o rfl).trans (rd_bT (by assumption) (by first | omega | assumption))) | exact (arS_g rfl).trans (rd_C (by assumption) (by first | omega | assumption)) | exact (arS_g rfl).trans (rd_P (by assumption) (by first | omega | assumption)) | exact (arS_g rfl).trans (rd_bT (by assumption) (by first | omega | assumption)) | exact (arS_g rfl).trans (rd_bM (by assumption) (by first | omega | assumption)) | exact arS_o rfl | exact arS_g rfl | exact mp_isC (by first | assumption | exact MP_rcS (by assumption) | exact MP_ar rfl (by assumption) | exact MP_sc rfl (by assumption)) (by first | omega | assumption) | exact mp_par (by first | assumption | exact MP_rcS (by assumption) | exact MP_ar rfl (by assumption) | exact MP_sc rfl (by assumption)) (by first | omega | assumption) | exact mp_abv (by first | assumption | exact MP_rcS (by assumption) | exact MP_ar rfl (by assumption) | exact MP_sc rfl (by assumption)) (by first | omega | assumption) | exact mp_dep (by first | assumption | exact MP_rcS (by assumption) | exact MP_ar rfl (by assumption) | exact MP_sc rfl (by assumption)) (by first | omega | assumption) | exact mp_bT (by first | assumption | exact MP_rcS (by assumption) | exact MP_ar rfl (by assumption) | exact MP_sc rfl (by assumption)) (by first | omega | assumption) | exact mp_bM (by first | assumption | exact MP_rcS (by assumption) | exact MP_ar rfl (by assumption) | exact MP_sc rfl (by assumption)) (by first | omega | assumption) | exact mp_sK (by first | assumption | exact MP_rcS (by assumption) | exact MP_ar rfl (by assumption) | exact MP_sc rfl (by assumption)) (by first | omega | assumption) | exact mp_sB (by first | assumption | exact MP_rcS (by assumption) | exact MP_ar rfl (by assumption) | exact MP_sc rfl (by assumption)) (by first | omega | assumption) | exact mp_sT (by first | assumption | exact MP_rcS (by assumption) | exact MP_ar rfl (by assumption) | exact MP_sc rfl (by assumption)) (by first | omega | assumption) | exact mp_sM (by first | assumption | exact MP_rcS (by assumption) | exact MP_ar rfl (by assumption) | exact MP_sc rfl (by assumption)) (by first | omega | assumption) | exact mp_cS (by first | assumption | exact MP_rcS (by assumption) | exact MP_ar rfl (by assumption) | exact MP_sc rfl (by assumption)) (by first | omega | assumption) | exact va_g | exact va_n (by decide) | rfl) ?_
          refine V_iload_n rfl rfl ?_
          refine V_icmp_neF rfl (congrArg nI hyes.1) ?_
          refine V_aload_n rfl rfl ?_
          refine V_getfield rfl rfl (by first | assumption | exact blkW_0 | exact bAt_0 (by assumption) | rfl) (by rfl) ?_
          refine V_iload_n rfl rfl ?_
          refine V_iald rfl (by first | assumption | exact blkW_i rfl rfl | exact blkW_z rfl rfl | exact bAt_i (by assumption) rfl rfl | exact bAt_z (by assumption) rfl rfl | rfl) (by first | with_reducible rfl | exact nI_add 2 _ | exact nI_add 26 _ | exact ix45 _ _ | exact ixm45 _ | exact ix25 _ | exact fa_lit _ | assumption) (by first | omega | assumption | decide) (by first | decide | omega | assumption) (by first | exact (arS_g rfl).trans qF_g | exact (arS_g rfl).trans ((qF_o rfl).trans (rd_C (by assumption) (by first | omega | assumption))) | exact (arS_g rfl).trans ((qF_o rfl).trans (rd_P (by assumption) (by first | omega | assumption))) | exact (arS_g rfl).trans ((qF_o rfl).trans (rd_bT (by assumption) (by first | omega | assumption))) | exact (arS_g rfl).trans (rd_C (by assumption) (by first | omega | assumption)) | exact (arS_g rfl).trans (rd_P (by assumption) (by first | omega | assumption)) | exact (arS_g rfl).trans (rd_bT (by assumption) (by first | omega | assumption)) | exact (arS_g rfl).trans (rd_bM (by assumption) (by first | omega | assumption)) | exact arS_o rfl | exact arS_g rfl | exact mp_isC (by first | assumption | exact MP_rcS (by assumption) | exact MP_ar rfl (by assumption) | exact MP_sc rfl (by assumption)) (by first | omega | assumption) | exact mp_par (by first | assumption | exact MP_rcS (by assumption) | exact MP_ar rfl (by assumption) | exact MP_sc rfl (by assumption)) (by first | omega | assumption) | exact mp_abv (by first | assumption | exact MP_rcS (by assumption) | exact MP_ar rfl (by assumption) | exact MP_sc rfl (by assumption)) (by first | omega | assumption) | exact mp_dep (by first | assumption | exact MP_rcS (by assumption) | exact MP_ar rfl (by assumption) | exact MP_sc rfl (by assumption)) (by first | omega | assumption) | exact mp_bT (by first | assumption | exact MP_rcS (by assumption) | exact MP_ar rfl (by assumption) | exact MP_sc rfl (by assumption)) (by first | omega | assumption) | exact mp_bM (by first | assumption | exact MP_rcS (by assumption) | exact MP_ar rfl (by assumption) | exact MP_sc rfl (by assumption)) (by first | omega | assumption) | exact mp_sK (by first | assumption | exact MP_rcS (by assumption) | exact MP_ar rfl (by assumption) | exact MP_sc rfl (by assumption)) (by first | omega | assumption) | exact mp_sB (by first | assumption | exact MP_rcS (by assumption) | exact MP_ar rfl (by assumption) | exact MP_sc rfl (by assumption)) (by first | omega | assumption) | exact mp_sT (by first | assumption | exact MP_rcS (by assumption) | exact MP_ar rfl (by assumption) | exact MP_sc rfl (by assumption)) (by first | omega | assumption) | exact mp_sM (by first | assumption | exact MP_rcS (by assumption) | exact MP_ar rfl (by assumption) | exact MP_sc rfl (by assumption)) (by first | omega | assumption) | exact mp_cS (by first | assumption | exact MP_rcS (by assumption) | exact MP_ar rfl (by assumption) | exact MP_sc rfl (by assumption)) (by first | omega | assumption) | exact va_g | exact va_n (by decide) | rfl) ?_
          refine V_aload_n rfl rfl ?_
          refine V_getI rfl rfl (by first | assumption | exact blkW_0 | exact bAt_0 (by assumption) | rfl) (by rfl) (by first | exact (psS_g rfl).trans pF_20 | exact (psS_g rfl).trans (by assumption) | exact (psS_g rfl).trans pk_us | exact (psS_g rfl).trans ((pk_un (by decide)).trans (by assumption)) | exact (psS_g rfl).trans ((pk_un (by decide)).trans pk_us) | exact (psS_g rfl).trans ((pk_un (by decide)).trans ((pk_un (by decide)).trans (by assumption))) | exact psS_g rfl | rfl) ?_
          refine V_icmp_neF rfl (congrArg nI hyes.2) ?_
          refine V_aload_n rfl rfl ?_
          refine V_iconst (v := 4) rfl (by decide) ?_
          refine V_aload_n rfl rfl ?_
          refine V_getI rfl rfl (by first | assumption | exact blkW_0 | exact bAt_0 (by assumption) | rfl) (by rfl) (by first | exact (psS_g rfl).trans pF_21 | exact (psS_g rfl).trans (by assumption) | exact (psS_g rfl).trans pk_us | exact (psS_g rfl).trans ((pk_un (by decide)).trans (by assumption)) | exact (psS_g rfl).trans ((pk_un (by decide)).trans pk_us) | exact (psS_g rfl).trans ((pk_un (by decide)).trans ((pk_un (by decide)).trans (by assumption))) | exact psS_g rfl | rfl) ?_
          refine V_callVi rfl rfl m_MD_fails_w m_MD_fails_x rfl (by decide) rfl (w_fails _ _) (by decide) rfl (by first | assumption | exact blkW_0 | exact bAt_0 (by assumption) | rfl) (Nat.le_of_ble_eq_true rfl) ?_
          refine V_goto rfl ?_
          refine V_is1 rfl (by first | rfl | assumption) ?_
          refine V_inc3 rfl (by first | exact mInc _ | rfl) (by first | rfl | assumption) ?_
          refine V_goto rfl ?_
          exact tno (k := 4) (s := s2) (by simp [hM, hasB, hlt]) (by decide) pk_us ((pk_un (by decide)).trans ((pF_o rfl).trans h26))
        · have heq : fBod p v w = nB p := by omega
          rw [heq]
          refine V_iload_n rfl rfl ?_
          refine V_aload_n rfl rfl ?_
          refine V_getI rfl rfl (by first | assumption | exact blkW_0 | exact bAt_0 (by assumption) | rfl) (by rfl) (by first | exact (psS_g rfl).trans ((pF_o rfl).trans (by assumption)) | exact (psS_g rfl).trans (by assumption) | exact (psS_g rfl).trans pk_us | exact (psS_g rfl).trans ((pk_un (by decide)).trans (by assumption)) | exact (psS_g rfl).trans ((pk_un (by decide)).trans pk_us) | exact (psS_g rfl).trans ((pk_un (by decide)).trans ((pk_un (by decide)).trans (by assumption))) | exact psS_g rfl | rfl) ?_
          refine V_icmp_geT rfl (nI_le (Nat.le_refl _) (by omega)) ?_
          refine V_aload_n rfl rfl ?_
          refine V_getfield rfl rfl (by first | assumption | exact blkW_0 | exact bAt_0 (by assumption) | rfl) (by rfl) ?_
          refine V_aload_n rfl rfl ?_
          refine V_getI rfl rfl (by first | assumption | exact blkW_0 | exact bAt_0 (by assumption) | rfl) (by rfl) (by first | exact (psS_g rfl).trans ((pF_o rfl).trans (by assumption)) | exact (psS_g rfl).trans (by assumption) | exact (psS_g rfl).trans pk_us | exact (psS_g rfl).trans ((pk_un (by decide)).trans (by assumption)) | exact (psS_g rfl).trans ((pk_un (by decide)).trans pk_us) | exact (psS_g rfl).trans ((pk_un (by decide)).trans ((pk_un (by decide)).trans (by assumption))) | exact psS_g rfl | rfl) ?_
          refine V_iload_n rfl rfl ?_
          first | refine V_past rfl rfl rfl rfl (by first | with_reducible rfl | exact nI_add 2 _ | exact nI_add 26 _ | exact ix45 _ _ | exact ixm45 _ | exact ix25 _ | exact fa_lit _ | assumption) (by first | omega | assumption | decide) (by first | decide | omega | assumption) ?_ | refine V_bast rfl rfl rfl (by first | with_reducible rfl | exact nI_add 2 _ | exact nI_add 26 _ | exact ix45 _ _ | exact ixm45 _ | exact ix25 _ | exact fa_lit _ | assumption) (by first | omega | assumption | decide) (by first | decide | omega | assumption) ?_ | refine V_iastore rfl (by first | assumption | exact blkW_i rfl rfl | exact blkW_z rfl rfl | exact bAt_i (by assumption) rfl rfl | exact bAt_z (by assumption) rfl rfl | rfl) (by first | with_reducible rfl | exact nI_add 2 _ | exact nI_add 26 _ | exact ix45 _ _ | exact ixm45 _ | exact ix25 _ | exact fa_lit _ | assumption) (by first | omega | assumption | decide) (by first | decide | omega | assumption) ?_
          refine V_aload_n rfl rfl ?_
          refine V_getfield rfl rfl (by first | assumption | exact blkW_0 | exact bAt_0 (by assumption) | rfl) (by rfl) ?_
          refine V_aload_n rfl rfl ?_
          refine V_getI rfl rfl (by first | assumption | exact blkW_0 | exact bAt_0 (by assumption) | rfl) (by rfl) (by first | exact (psS_g rfl).trans ((pF_o rfl).trans (by assumption)) | exact (psS_g rfl).trans (by assumption) | exact (psS_g rfl).trans pk_us | exact (psS_g rfl).trans ((pk_un (by decide)).trans (by assumption)) | exact (psS_g rfl).trans ((pk_un (by decide)).trans pk_us) | exact (psS_g rfl).trans ((pk_un (by decide)).trans ((pk_un (by decide)).trans (by assumption))) | exact psS_g rfl | rfl) ?_
          refine V_aload_n rfl rfl ?_
          refine V_getI rfl rfl (by first | assumption | exact blkW_0 | exact bAt_0 (by assumption) | rfl) (by rfl) (by first | exact (psS_g rfl).trans pF_20 | exact (psS_g rfl).trans (by assumption) | exact (psS_g rfl).trans pk_us | exact (psS_g rfl).trans ((pk_un (by decide)).trans (by assumption)) | exact (psS_g rfl).trans ((pk_un (by decide)).trans pk_us) | exact (psS_g rfl).trans ((pk_un (by decide)).trans ((pk_un (by decide)).trans (by assumption))) | exact psS_g rfl | rfl) ?_
          first | refine V_past rfl rfl rfl rfl (by first | with_reducible rfl | exact nI_add 2 _ | exact nI_add 26 _ | exact ix45 _ _ | exact ixm45 _ | exact ix25 _ | exact fa_lit _ | assumption) (by first | omega | assumption | decide) (by first | decide | omega | assumption) ?_ | refine V_bast rfl rfl rfl (by first | with_reducible rfl | exact nI_add 2 _ | exact nI_add 26 _ | exact ix45 _ _ | exact ixm45 _ | exact ix25 _ | exact fa_lit _ | assumption) (by first | omega | assumption | decide) (by first | decide | omega | assumption) ?_ | refine V_iastore rfl (by first | assumption | exact blkW_i rfl rfl | exact blkW_z rfl rfl | exact bAt_i (by assumption) rfl rfl | exact bAt_z (by assumption) rfl rfl | rfl) (by first | with_reducible rfl | exact nI_add 2 _ | exact nI_add 26 _ | exact ix45 _ _ | exact ixm45 _ | exact ix25 _ | exact fa_lit _ | assumption) (by first | omega | assumption | decide) (by first | decide | omega | assumption) ?_
          rw [qB_i]
          refine V_aload_n rfl rfl ?_
          refine V_dup rfl rfl ?_
          refine V_getI rfl rfl (by first | assumption | exact blkW_0 | exact bAt_0 (by assumption) | rfl) (by rfl) (by first | exact (psS_g rfl).trans ((pF_o rfl).trans (by assumption)) | exact (psS_g rfl).trans (by assumption) | exact (psS_g rfl).trans pk_us | exact (psS_g rfl).trans ((pk_un (by decide)).trans (by assumption)) | exact (psS_g rfl).trans ((pk_un (by decide)).trans pk_us) | exact (psS_g rfl).trans ((pk_un (by decide)).trans ((pk_un (by decide)).trans (by assumption))) | exact psS_g rfl | rfl) ?_
          refine V_iconst (v := 1) rfl (by decide) ?_
          refine V_iadd rfl ?_
          first | refine V_pput rfl rfl rfl rfl rfl ?_ | refine V_bput rfl rfl rfl rfl rfl rfl ?_ | refine V_bputZ rfl rfl rfl rfl rfl rfl (by decide) ?_ | refine V_put rfl rfl (by first | assumption | rfl) (by decide) (fun _ hty => by cases hty; exact ⟨rfl, rfl⟩) (by first | exact Or.inl rfl | exact Or.inr ⟨rfl, rfl⟩) rfl ?_
          refine V_iload_n rfl rfl ?_
          refine V_ireturn rfl rfl (by first | rfl | exact b2_nar _ | assumption | decide) ?_
          refine RP_ok (y := (addB p v w, e2)) (by simp [hM, hasB, hlt]) ⟨?_, ?_⟩
          · exact (pk_un (by decide)).trans pF_19
          · exact RD_addB hr (pk_us.trans (nI_1 _)) ((pk_un (by decide)).trans (pF_o rfl)) ((pk_un (by decide)).trans (pF_o rfl)) ((pk_un (by decide)).trans (pF_o rfl))
end mparse5
