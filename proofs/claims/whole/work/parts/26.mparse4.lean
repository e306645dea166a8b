def addT (p : Pg) (c : Bool) (pa F : Int32) : Pg := ((nT p + 1, nB p, nS p, nC p), (fun t => if t = nT p then c else isC p t), (fun t => if t = nT p then pa else par p t), (fun t => if t = nT p then F else abv p t), p.2.2.2.2)
def addB (p : Pg) (t m : Nat) : Pg := ((nT p, nB p + 1, nS p, nC p), p.2.1, p.2.2.1, p.2.2.2.1, p.2.2.2.2.1, (fun b => if b = nB p then t else bT p b), (fun b => if b = nB p then m else bM p b), p.2.2.2.2.2.2.2)
def addS (p : Pg) (k b t m : Nat) : Pg := ((nT p, nB p, nS p + 1, nC p), p.2.1, p.2.2.1, p.2.2.2.1, p.2.2.2.2.1, p.2.2.2.2.2.1, p.2.2.2.2.2.2.1, (fun s => if s = nS p then k else sK p s), (fun s => if s = nS p then b else sB p s), (fun s => if s = nS p then t else sT p s), (fun s => if s = nS p then m else sM p s), p.2.2.2.2.2.2.2.2.2.2.2)
def pClass (p : Pg) (T : Nat → Int32) (n a : Nat) : Rs (Pg × Nat) := match pNum T n a 100 with
  | .inl x => .inl x
  | .inr z => if ¬ z.1 = 99 ∧ nT p ≤ z.1 then .inl (2, z.2.2) else if ¬ z.1 = 99 ∧ isC p z.1 = false then .inl (4, z.2.2) else (match pFaces (isC p) T n (nT p) 2 z.2.1 0 with
    | .inl x => .inl x
    | .inr w => .inr (addT p true (if z.1 = 99 then -1 else nI z.1) w.1, w.2))
def pIface (p : Pg) (T : Nat → Int32) (n a : Nat) : Rs (Pg × Nat) := if hv T n a = 59 then .inr (addT p false (-1) 0, skp T n a) else (match pFace (isC p) T n (skp T n a) (nT p) 0 with
  | .inl x => .inl x
  | .inr z => (match pFaces (isC p) T n (nT p) 1 z.2 z.1 with
    | .inl x => .inl x
    | .inr w => .inr (addT p false (-1) w.1, w.2)))
def qP (q : Nat → Nat → Int32) (t : Nat) (v : Int32) : Nat → Nat → Int32 := va_up q 24 (upd (q 24) t v)
theorem qP_c {q : Nat → Nat → Int32} {t : Nat} {F v : Int32} : va_up (qF q t F) 24 (upd (qF q t F 24) t v) = qF (qP q t v) t F := by
  funext k j
  unfold qF qP va_up
  by_cases e : k = 25
  · subst e; simp
  · by_cases e2 : k = 24
    · subst e2; simp
    · simp [e, e2]
theorem RD_qP {p : Pg} {f : Nat → Int32} {q : Nat → Nat → Int32} {v : Int32} (h : RD p f q) : RD p f (qP q (nT p) v) := by
  obtain ⟨h1, h2, h3, h4⟩ := h
  have ho : ∀ k j, ¬ k = 24 → qP q (nT p) v k j = q k j := fun k j e => by unfold qP va_up; rw [if_neg e]
  refine ⟨h1, fun t ht => ?_, fun b hb => ?_, fun s hs => ?_⟩
  · obtain ⟨a1, a2, a3⟩ := h2 t ht
    refine ⟨(ho _ _ (by decide)).trans a1, ?_, (ho _ _ (by decide)).trans a3⟩
    unfold qP
    rw [va_g, pk_un (by omega)]
    exact a2
  · rw [ho _ _ (by decide), ho _ _ (by decide)]; exact h3 b hb
  · rw [ho _ _ (by decide), ho _ _ (by decide), ho _ _ (by decide), ho _ _ (by decide)]; exact h4 s hs
theorem RD_addT {p : Pg} {f f2 : Nat → Int32} {q : Nat → Nat → Int32} {c : Bool} {pa F x : Int32} (h : RD p f q) (h22 : f2 22 = nI (nT p + 1)) (h26 : f2 26 = f 26) (h29 : f2 29 = f 29) (h18 : f2 18 = f 18) (hx : x = b2 c) : RD (addT p c pa F) f2 (va_up (qF (qP q (nT p) pa) (nT p) F) 23 (upd (qF (qP q (nT p) pa) (nT p) F 23) (nT p) x)) := by
  obtain ⟨h1, h2, h3, h4⟩ := h
  have hq : ∀ k j, va_up (qF (qP q (nT p) pa) (nT p) F) 23 (upd (qF (qP q (nT p) pa) (nT p) F 23) (nT p) x) k j = if j = nT p then (if k = 23 then x else if k = 24 then pa else if k = 25 then F else q k j) else q k j := fun k j => by
    unfold qF qP va_up upd
    by_cases e1 : k = 23
    · subst e1; simp
    · by_cases e2 : k = 24
      · subst e2; simp
      · by_cases e3 : k = 25
        · subst e3; simp
        · simp [e1, e2, e3]
  refine ⟨⟨h22, h26.trans h1.2.1, h29.trans h1.2.2.1, h18.trans h1.2.2.2⟩, fun t ht => ?_, fun b hb => ?_, fun s hs => ?_⟩
  · have ht : t < nT p + 1 := ht
    rw [hq, hq, hq]
    show _ = b2 (if t = nT p then c else isC p t) ∧ _ = (if t = nT p then pa else par p t) ∧ _ = (if t = nT p then F else abv p t)
    by_cases e : t = nT p
    · simp only [if_pos e]
      exact ⟨hx, rfl, rfl⟩
    · simp only [if_neg e]
      exact h2 t (by omega)
  · rw [hq, hq]
    have := h3 b hb
    by_cases e : b = nT p
    · rw [if_pos e, if_pos e]; exact this
    · rw [if_neg e, if_neg e]; exact this
  · rw [hq, hq, hq, hq]
    have := h4 s hs
    by_cases e : s = nT p
    · simp only [if_pos e]; exact this
    · simp only [if_neg e]; exact this
theorem pFaces_ok {C : Nat → Bool} {T : Nat → Int32} {n m : Nat} (k : Nat) : ∀ {a e : Nat} {F F2 : Int32}, pFaces C T n m k a F = .inr (F2, e) → a < 2 ^ 30 → n ≤ 240 → a ≤ e ∧ e < 2 ^ 30 := by
  induction k with
  | zero =>
    intro a e F F2 h ha hn
    have h : (if hv T n a = 44 then .inl (1, skp T n a) else .inr (F, skp T n a) : Rs (Int32 × Nat)) = .inr (F2, e) := h
    by_cases hc : hv T n a = 44
    · rw [if_pos hc] at h; cases h
    · rw [if_neg hc] at h
      have h5 := Sum.inr.inj h
      rw [Prod.mk.injEq] at h5
      obtain ⟨rfl, rfl⟩ := h5
      exact ⟨skp_ge T n a, skp_b ha hn⟩
  | succ k ih =>
    intro a e F F2 h ha hn
    have h : (if hv T n a = 44 then (match pFace C T n (skp T n a + 1) m F with
      | .inl x => .inl x
      | .inr z => pFaces C T n m k z.2 z.1) else .inr (F, skp T n a) : Rs (Int32 × Nat)) = .inr (F2, e) := h
    by_cases hc : hv T n a = 44
    · rw [if_pos hc] at h
      generalize hN : pFace C T n (skp T n a + 1) m F = z at h
      rcases z with z | ⟨F3, e3⟩
      · cases h
      · obtain ⟨g1, g2, -⟩ := pFace_ok hN
        have := ih (a := e3) (F := F3) h (by omega) hn
        have := skp_ge T n a
        omega
    · rw [if_neg hc] at h
      have h5 := Sum.inr.inj h
      rw [Prod.mk.injEq] at h5
      obtain ⟨rfl, rfl⟩ := h5
      exact ⟨skp_ge T n a, skp_b ha hn⟩
section mparse4
variable {g : mG} {h : mH} {sz u md : Nat} {p : Pg} {sc f : Nat → Int32} {ar q : Nat → Nat → Int32}
set_option maxRecDepth 20000 in
set_option maxHeartbeats 1000000 in
theorem w_takeFaces {n a t k : Nat} {c2 x y F : Int32} (h17 : sc 17 = nI n ∧ n ≤ 240) (ha : a < 2 ^ 30) (hr : RD p f q) (hw : WR p) (ht : t < 12) (hk : k ≤ 2) (hc : c2 = nI (2 - k)) : Mt g 3 m_MD_takeFaces [.ref md, .int (nI t), .int c2] (blkW 7 h md (psS sc (pF f (nI a) x y)) (arS ar (qF q t F))) sz u (RP h md sc ar (fun _ => True) (pFaces (isC p) (ar 16) n (nT p) k a F) (fun z f' q' => (∃ x y, f' = pF f (nI z.2) x y) ∧ q' = qF q t z.1)) sz u := by
  refine Mt.of m_MD_takeFaces_w m_MD_takeFaces_x m_MD_takeFaces_c rfl rfl (ls := [.ref md, .int (nI t), .int c2, .retAddr 0, .retAddr 0]) rfl ?_
  refine V_iload_n rfl rfl ?_
  refine V_is3 rfl (by first | rfl | assumption) ?_
  refine V_iconst (v := 0) rfl (by decide) ?_
  refine V_is4 rfl (by first | rfl | assumption) ?_
  subst hc
  exact e_takeFaces h17 hr hw ht k hk a x y F ha
set_option maxRecDepth 20000 in
set_option maxHeartbeats 1000000 in
theorem w_takeClass {n a : Nat} {x y : Int32} (h17 : sc 17 = nI n ∧ n ≤ 240) (ha : a < 2 ^ 30) (hr : RD p f q) (hw : WR p) (ht : nT p < 12) : Mt g 4 m_MD_takeClass [.ref md] (blkW 7 h md (psS sc (pF f (nI a) x y)) (arS ar q)) sz u (RP h md sc ar (fun _ => True) (pClass p (ar 16) n a) (fun z f' q' => f' 19 = nI z.2 ∧ RD z.1 f' q')) sz u := by
  have h22 := hr.1.1
  have hn := h17.2
  refine Mt.of m_MD_takeClass_w m_MD_takeClass_x m_MD_takeClass_c rfl rfl (ls := [.ref md, .retAddr 0, .retAddr 0]) rfl ?_
  refine V_aload_n rfl rfl ?_
  refine V_getI rfl rfl (by first | assumption | exact blkW_0 | exact bAt_0 (by assumption) | rfl) (by rfl) (by first | exact (psS_g rfl).trans ((pF_o rfl).trans (by assumption)) | exact (psS_g rfl).trans (by assumption) | exact (psS_g rfl).trans pk_us | exact (psS_g rfl).trans ((pk_un (by decide)).trans (by assumption)) | exact (psS_g rfl).trans ((pk_un (by decide)).trans pk_us) | exact (psS_g rfl).trans ((pk_un (by decide)).trans ((pk_un (by decide)).trans (by assumption))) | exact psS_g rfl | rfl) ?_
  refine V_is1 rfl (by first | rfl | assumption) ?_
  refine V_aload_n rfl rfl ?_
  refine V_getfield rfl rfl (by first | assumption | exact blkW_0 | exact bAt_0 (by assumption) | rfl) (by rfl) ?_
  refine V_iload_n rfl rfl ?_
  refine V_iconst (v := 0) rfl (by decide) ?_
  first | refine V_past rfl rfl rfl rfl (by first | with_reducible rfl | exact nI_add 2 _ | exact nI_add 26 _ | exact ix45 _ _ | exact ixm45 _ | exact ix25 _ | exact fa_lit _ | assumption) (by first | omega | assumption | decide) (by first | decide | omega | assumption) ?_ | refine V_bast rfl rfl rfl (by first | with_reducible rfl | exact nI_add 2 _ | exact nI_add 26 _ | exact ix45 _ _ | exact ixm45 _ | exact ix25 _ | exact fa_lit _ | assumption) (by first | omega | assumption | decide) (by first | decide | omega | assumption) ?_ | refine V_iastore rfl (by first | assumption | exact blkW_i rfl rfl | exact blkW_z rfl rfl | exact bAt_i (by assumption) rfl rfl | exact bAt_z (by assumption) rfl rfl | rfl) (by first | with_reducible rfl | exact nI_add 2 _ | exact nI_add 26 _ | exact ix45 _ _ | exact ixm45 _ | exact ix25 _ | exact fa_lit _ | assumption) (by first | omega | assumption | decide) (by first | decide | omega | assumption) ?_
  rw [show va_up q 25 (upd (q 25) (nT p) 0) = qF q (nT p) 0 from rfl]
  refine V_aload_n rfl rfl ?_
  refine V_iconst (v := 0) rfl (by decide) ?_
  refine V_bipush (v := 99) rfl (by decide) ?_
  refine V_callV rfl rfl m_MD_takeNumber_w m_MD_takeNumber_x rfl (by decide) rfl (w_num h17 ha (show 100 ≤ 100 by omega) (by decide)) (by decide) rfl (by first | assumption | exact blkW_0 | exact bAt_0 (by assumption) | rfl) (Nat.le_of_ble_eq_true rfl) (by first | exact Nat.le_refl _ | omega | decide) (by first | exact Nat.le_refl _ | omega | decide) (fun r hh1 hP => ?_)
  unfold pClass
  generalize hN : pNum (ar 16) n a 100 = z at hP
  rcases z with ⟨k, s⟩ | ⟨v, e, s⟩
  · obtain ⟨hk, rfl, f1, q1, rfl, h18, -⟩ := hP
    refine V_is2 rfl (by first | rfl | assumption) ?_
    refine V_iload_n rfl rfl ?_
    refine V_if_leF rfl ((nk_pos hk).1) ?_
    refine V_iload_n rfl rfl ?_
    refine V_ireturn rfl rfl (by first | rfl | exact b2_nar _ | assumption | decide) ?_
    exact RP_no rfl hk rfl h18 trivial
  · obtain ⟨rfl, f1, q1, rfl, rfl, rfl⟩ := hP
    obtain ⟨hv1, hv2, hv3, hv4⟩ := pNum_ok hN
    have key : ∀ pa : Int32, V g 4 m_MD_takeClass (RP h md sc ar (fun _ => True) (match pFaces (isC p) (ar 16) n (nT p) 2 e 0 with
      | .inl x => .inl x
      | .inr w => .inr (addT p true pa w.1, w.2)) (fun (z : Pg × Nat) f' q' => f' 19 = nI z.2 ∧ RD z.1 f' q')) sz u 110 [.ref md, .int (nI (nT p)), .int 0] [] (blkW 7 h md (psS sc (pF f (nI e) (nI v) (nI s))) (arS ar (qF (qP q (nT p) pa) (nT p) 0))) sz u := by
      intro pa
      have hr2 := RD_qP (v := pa) hr
      refine V_aload_n rfl rfl ?_
      refine V_iload_n rfl rfl ?_
      refine V_iconst (v := 0) rfl (by decide) ?_
      refine V_callV rfl rfl m_MD_takeFaces_w m_MD_takeFaces_x rfl (by decide) rfl (w_takeFaces h17 (show e < 2 ^ 30 by omega) hr2 hw ht (show 2 ≤ 2 by omega) rfl) (by decide) rfl (by first | assumption | exact blkW_0 | exact bAt_0 (by assumption) | rfl) (Nat.le_of_ble_eq_true rfl) (by first | exact Nat.le_refl _ | omega | decide) (by first | exact Nat.le_refl _ | omega | decide) (fun r hh1 hP => ?_)
      generalize hM : pFaces (isC p) (ar 16) n (nT p) 2 e 0 = z at hP
      rcases z with ⟨k, s2⟩ | ⟨F2, e2⟩
      · obtain ⟨hk, rfl, f1, q1, rfl, h18, -⟩ := hP
        refine V_is2 rfl (by first | rfl | assumption) ?_
        refine V_aload_n rfl rfl ?_
        refine V_getfield rfl rfl (by first | assumption | exact blkW_0 | exact bAt_0 (by assumption) | rfl) (by rfl) ?_
        refine V_iload_n rfl rfl ?_
        refine V_iconst (v := 1) rfl (by decide) ?_
        first | refine V_pastZ rfl rfl rfl rfl (by first | with_reducible rfl | exact nI_add 2 _ | exact nI_add 26 _ | exact ix45 _ _ | exact ixm45 _ | exact ix25 _ | exact fa_lit _ | assumption) (by first | omega | assumption | decide) (by first | decide | omega | assumption) (by decide) ?_ | refine V_bastZ rfl rfl rfl (by first | with_reducible rfl | exact nI_add 2 _ | exact nI_add 26 _ | exact ix45 _ _ | exact ixm45 _ | exact ix25 _ | exact fa_lit _ | assumption) (by first | omega | assumption | decide) (by first | decide | omega | assumption) (by decide) ?_ | refine V_bastore rfl (by first | assumption | exact blkW_i rfl rfl | exact blkW_z rfl rfl | exact bAt_i (by assumption) rfl rfl | exact bAt_z (by assumption) rfl rfl | rfl) (by first | with_reducible rfl | exact nI_add 2 _ | exact nI_add 26 _ | exact ix45 _ _ | exact ixm45 _ | exact ix25 _ | exact fa_lit _ | assumption) (by first | omega | assumption | decide) (by first | decide | omega | assumption) (by first | rfl | assumption) ?_
        refine V_aload_n rfl rfl ?_
        refine V_dup rfl rfl ?_
        refine V_getI rfl rfl (by first | assumption | exact blkW_0 | exact bAt_0 (by assumption) | rfl) (by rfl) (by first | exact (psS_g rfl).trans ((pF_o rfl).trans (by assumption)) | exact (psS_g rfl).trans (by assumption) | exact (psS_g rfl).trans pk_us | exact (psS_g rfl).trans ((pk_un (by decide)).trans (by assumption)) | exact (psS_g rfl).trans ((pk_un (by decide)).trans pk_us) | exact (psS_g rfl).trans ((pk_un (by decide)).trans ((pk_un (by decide)).trans (by assumption))) | exact psS_g rfl | rfl) ?_
        refine V_iconst (v := 1) rfl (by decide) ?_
        refine V_iadd rfl ?_
        first | refine V_pput rfl rfl rfl rfl rfl ?_ | refine V_bput rfl rfl rfl rfl rfl rfl ?_ | refine V_bputZ rfl rfl rfl rfl rfl rfl (by decide) ?_ | refine V_put rfl rfl (by first | assumption | rfl) (by decide) (fun _ hty => by cases hty; exact ⟨rfl, rfl⟩) (by first | exact Or.inl rfl | exact Or.inr ⟨rfl, rfl⟩) rfl ?_
        refine V_iload_n rfl rfl ?_
        refine V_ireturn rfl rfl (by first | rfl | exact b2_nar _ | assumption | decide) ?_
        exact RP_no rfl hk rfl ((pk_un (by decide)).trans h18) trivial
      · obtain ⟨rfl, f1, q1, rfl, ⟨x1, y1, rfl⟩, rfl⟩ := hP
        refine V_is2 rfl (by first | rfl | assumption) ?_
        refine V_aload_n rfl rfl ?_
        refine V_getfield rfl rfl (by first | assumption | exact blkW_0 | exact bAt_0 (by assumption) | rfl) (by rfl) ?_
        refine V_iload_n rfl rfl ?_
        refine V_iconst (v := 1) rfl (by decide) ?_
        first | refine V_pastZ rfl rfl rfl rfl (by first | with_reducible rfl | exact nI_add 2 _ | exact nI_add 26 _ | exact ix45 _ _ | exact ixm45 _ | exact ix25 _ | exact fa_lit _ | assumption) (by first | omega | assumption | decide) (by first | decide | omega | assumption) (by decide) ?_ | refine V_bastZ rfl rfl rfl (by first | with_reducible rfl | exact nI_add 2 _ | exact nI_add 26 _ | exact ix45 _ _ | exact ixm45 _ | exact ix25 _ | exact fa_lit _ | assumption) (by first | omega | assumption | decide) (by first | decide | omega | assumption) (by decide) ?_ | refine V_bastore rfl (by first | assumption | exact blkW_i rfl rfl | exact blkW_z rfl rfl | exact bAt_i (by assumption) rfl rfl | exact bAt_z (by assumption) rfl rfl | rfl) (by first | with_reducible rfl | exact nI_add 2 _ | exact nI_add 26 _ | exact ix45 _ _ | exact ixm45 _ | exact ix25 _ | exact fa_lit _ | assumption) (by first | omega | assumption | decide) (by first | decide | omega | assumption) (by first | rfl | assumption) ?_
        refine V_aload_n rfl rfl ?_
        refine V_dup rfl rfl ?_
        refine V_getI rfl rfl (by first | assumption | exact blkW_0 | exact bAt_0 (by assumption) | rfl) (by rfl) (by first | exact (psS_g rfl).trans ((pF_o rfl).trans (by assumption)) | exact (psS_g rfl).trans (by assumption) | exact (psS_g rfl).trans pk_us | exact (psS_g rfl).trans ((pk_un (by decide)).trans (by assumption)) | exact (psS_g rfl).trans ((pk_un (by decide)).trans pk_us) | exact (psS_g rfl).trans ((pk_un (by decide)).trans ((pk_un (by decide)).trans (by assumption))) | exact psS_g rfl | rfl) ?_
        refine V_iconst (v := 1) rfl (by decide) ?_
        refine V_iadd rfl ?_
        first | refine V_pput rfl rfl rfl rfl rfl ?_ | refine V_bput rfl rfl rfl rfl rfl rfl ?_ | refine V_bputZ rfl rfl rfl rfl rfl rfl (by decide) ?_ | refine V_put rfl rfl (by first | assumption | rfl) (by decide) (fun _ hty => by cases hty; exact ⟨rfl, rfl⟩) (by first | exact Or.inl rfl | exact Or.inr ⟨rfl, rfl⟩) rfl ?_
        refine V_iload_n rfl rfl ?_
        refine V_ireturn rfl rfl (by first | rfl | exact b2_nar _ | assumption | decide) ?_
        refine RP_ok rfl ⟨?_, ?_⟩
        · exact (pk_un (by decide)).trans pF_19
        · exact RD_addT hr (pk_us.trans (nI_1 _)) ((pk_un (by decide)).trans (pF_o rfl)) ((pk_un (by decide)).trans (pF_o rfl)) ((pk_un (by decide)).trans (pF_o rfl)) rfl
    refine V_is2 rfl (by first | rfl | assumption) ?_
    refine V_iload_n rfl rfl ?_
    refine V_if_leT rfl (by decide) ?_
    refine V_aload_n rfl rfl ?_
    refine V_getI rfl rfl (by first | assumption | exact blkW_0 | exact bAt_0 (by assumption) | rfl) (by rfl) (by first | exact (psS_g rfl).trans pF_20 | exact (psS_g rfl).trans (by assumption) | exact (psS_g rfl).trans pk_us | exact (psS_g rfl).trans ((pk_un (by decide)).trans (by assumption)) | exact (psS_g rfl).trans ((pk_un (by decide)).trans pk_us) | exact (psS_g rfl).trans ((pk_un (by decide)).trans ((pk_un (by decide)).trans (by assumption))) | exact psS_g rfl | rfl) ?_
    refine V_bipush (v := 99) rfl (by decide) ?_
    by_cases h99 : v = 99
    · subst h99
      simp only [show ¬ (¬ 99 = 99 ∧ nT p ≤ 99) from fun z => z.1 rfl, show ¬ (¬ 99 = 99 ∧ isC p 99 = false) from fun z => z.1 rfl, if_false, if_true]
      refine V_icmp_eqT rfl (rfl) ?_
      refine V_aload_n rfl rfl ?_
      refine V_getI rfl rfl (by first | assumption | exact blkW_0 | exact bAt_0 (by assumption) | rfl) (by rfl) (by first | exact (psS_g rfl).trans pF_20 | exact (psS_g rfl).trans (by assumption) | exact (psS_g rfl).trans pk_us | exact (psS_g rfl).trans ((pk_un (by decide)).trans (by assumption)) | exact (psS_g rfl).trans ((pk_un (by decide)).trans pk_us) | exact (psS_g rfl).trans ((pk_un (by decide)).trans ((pk_un (by decide)).trans (by assumption))) | exact psS_g rfl | rfl) ?_
      refine V_bipush (v := 99) rfl (by decide) ?_
      refine V_icmp_eqT rfl (rfl) ?_
      refine V_aload_n rfl rfl ?_
      refine V_getfield rfl rfl (by first | assumption | exact blkW_0 | exact bAt_0 (by assumption) | rfl) (by rfl) ?_
      refine V_iload_n rfl rfl ?_
      refine V_aload_n rfl rfl ?_
      refine V_getI rfl rfl (by first | assumption | exact blkW_0 | exact bAt_0 (by assumption) | rfl) (by rfl) (by first | exact (psS_g rfl).trans pF_20 | exact (psS_g rfl).trans (by assumption) | exact (psS_g rfl).trans pk_us | exact (psS_g rfl).trans ((pk_un (by decide)).trans (by assumption)) | exact (psS_g rfl).trans ((pk_un (by decide)).trans pk_us) | exact (psS_g rfl).trans ((pk_un (by decide)).trans ((pk_un (by decide)).trans (by assumption))) | exact psS_g rfl | rfl) ?_
      refine V_bipush (v := 99) rfl (by decide) ?_
      refine V_icmp_neF rfl (rfl) ?_
      refine V_iconst (v := (-1)) rfl (by decide) ?_
      refine V_goto rfl ?_
      first | refine V_past rfl rfl rfl rfl (by first | with_reducible rfl | exact nI_add 2 _ | exact nI_add 26 _ | exact ix45 _ _ | exact ixm45 _ | exact ix25 _ | exact fa_lit _ | assumption) (by first | omega | assumption | decide) (by first | decide | omega | assumption) ?_ | refine V_bast rfl rfl rfl (by first | with_reducible rfl | exact nI_add 2 _ | exact nI_add 26 _ | exact ix45 _ _ | exact ixm45 _ | exact ix25 _ | exact fa_lit _ | assumption) (by first | omega | assumption | decide) (by first | decide | omega | assumption) ?_ | refine V_iastore rfl (by first | assumption | exact blkW_i rfl rfl | exact blkW_z rfl rfl | exact bAt_i (by assumption) rfl rfl | exact bAt_z (by assumption) rfl rfl | rfl) (by first | with_reducible rfl | exact nI_add 2 _ | exact nI_add 26 _ | exact ix45 _ _ | exact ixm45 _ | exact ix25 _ | exact fa_lit _ | assumption) (by first | omega | assumption | decide) (by first | decide | omega | assumption) ?_
      rw [qP_c]
      exact key (-1)
    · have hne : ¬ nI v = 99 := fun z => h99 ((nI_eq (b := 99) (by omega) (by decide)).mp z)
      refine V_icmp_eqF rfl (hne) ?_
      refine V_aload_n rfl rfl ?_
      refine V_getI rfl rfl (by first | assumption | exact blkW_0 | exact bAt_0 (by assumption) | rfl) (by rfl) (by first | exact (psS_g rfl).trans pF_20 | exact (psS_g rfl).trans (by assumption) | exact (psS_g rfl).trans pk_us | exact (psS_g rfl).trans ((pk_un (by decide)).trans (by assumption)) | exact (psS_g rfl).trans ((pk_un (by decide)).trans pk_us) | exact (psS_g rfl).trans ((pk_un (by decide)).trans ((pk_un (by decide)).trans (by assumption))) | exact psS_g rfl | rfl) ?_
      refine V_aload_n rfl rfl ?_
      refine V_getI rfl rfl (by first | assumption | exact blkW_0 | exact bAt_0 (by assumption) | rfl) (by rfl) (by first | exact (psS_g rfl).trans ((pF_o rfl).trans (by assumption)) | exact (psS_g rfl).trans (by assumption) | exact (psS_g rfl).trans pk_us | exact (psS_g rfl).trans ((pk_un (by decide)).trans (by assumption)) | exact (psS_g rfl).trans ((pk_un (by decide)).trans pk_us) | exact (psS_g rfl).trans ((pk_un (by decide)).trans ((pk_un (by decide)).trans (by assumption))) | exact psS_g rfl | rfl) ?_
      by_cases hlt : v < nT p
      · simp only [show ¬ (¬ v = 99 ∧ nT p ≤ v) from fun z => by omega, if_false, if_neg h99]
        refine V_icmp_ltT rfl (nI_lt hlt (by omega)) ?_
        refine V_aload_n rfl rfl ?_
        refine V_getI rfl rfl (by first | assumption | exact blkW_0 | exact bAt_0 (by assumption) | rfl) (by rfl) (by first | exact (psS_g rfl).trans pF_20 | exact (psS_g rfl).trans (by assumption) | exact (psS_g rfl).trans pk_us | exact (psS_g rfl).trans ((pk_un (by decide)).trans (by assumption)) | exact (psS_g rfl).trans ((pk_un (by decide)).trans pk_us) | exact (psS_g rfl).trans ((pk_un (by decide)).trans ((pk_un (by decide)).trans (by assumption))) | exact psS_g rfl | rfl) ?_
        refine V_bipush (v := 99) rfl (by decide) ?_
        refine V_icmp_eqF rfl (hne) ?_
        refine V_aload_n rfl rfl ?_
        refine V_getfield rfl rfl (by first | assumption | exact blkW_0 | exact bAt_0 (by assumption) | rfl) (by rfl) ?_
        refine V_aload_n rfl rfl ?_
        refine V_getI rfl rfl (by first | assumption | exact blkW_0 | exact bAt_0 (by assumption) | rfl) (by rfl) (by first | exact (psS_g rfl).trans pF_20 | exact (psS_g rfl).trans (by assumption) | exact (psS_g rfl).trans pk_us | exact (psS_g rfl).trans ((pk_un (by decide)).trans (by assumption)) | exact (psS_g rfl).trans ((pk_un (by decide)).trans pk_us) | exact (psS_g rfl).trans ((pk_un (by decide)).trans ((pk_un (by decide)).trans (by assumption))) | exact psS_g rfl | rfl) ?_
        refine V_bald rfl (by first | assumption | exact blkW_i rfl rfl | exact blkW_z rfl rfl | exact bAt_i (by assumption) rfl rfl | exact bAt_z (by assumption) rfl rfl | rfl) (by first | with_reducible rfl | exact nI_add 2 _ | exact nI_add 26 _ | exact ix45 _ _ | exact ixm45 _ | exact ix25 _ | exact fa_lit _ | assumption) (by first | omega | assumption | decide) (by first | decide | omega | assumption) (by first | exact (arS_g rfl).trans qF_g | exact (arS_g rfl).trans ((qF_o rfl).trans (rd_C (by assumption) (by first | omega | assumption))) | exact (arS_g rfl).trans ((qF_o rfl).trans (rd_P (by assumption) (by first | omega | assumption))) | exact (arS_g rfl).trans ((qF_o rfl).trans (rd_bT (by assumption) (by first | omega | assumption))) | exact (arS_g rfl).trans (rd_C (by assumption) (by first | omega | assumption)) | exact (arS_g rfl).trans (rd_P (by assumption) (by first | omega | assumption)) | exact (arS_g rfl).trans (rd_bT (by assumption) (by first | omega | assumption)) | exact (arS_g rfl).trans (rd_bM (by assumption) (by first | omega | assumption)) | exact arS_o rfl | exact arS_g rfl | exact mp_isC (by first | assumption | exact MP_rcS (by assumption) | exact MP_ar rfl (by assumption) | exact MP_sc rfl (by assumption)) (by first | omega | assumption) | exact mp_par (by first | assumption | exact MP_rcS (by assumption) | exact MP_ar rfl (by assumption) | exact MP_sc rfl (by assumption)) (by first | omega | assumption) | exact mp_abv (by first | assumption | exact MP_rcS (by assumption) | exact MP_ar rfl (by assumption) | exact MP_sc rfl (by assumption)) (by first | omega | assumption) | exact mp_dep (by first | assumption | exact MP_rcS (by assumption) | exact MP_ar rfl (by assumption) | exact MP_sc rfl (by assumption)) (by first | omega | assumption) | exact mp_bT (by first | assumption | exact MP_rcS (by assumption) | exact MP_ar rfl (by assumption) | exact MP_sc rfl (by assumption)) (by first | omega | assumption) | exact mp_bM (by first | assumption | exact MP_rcS (by assumption) | exact MP_ar rfl (by assumption) | exact MP_sc rfl (by assumption)) (by first | omega | assumption) | exact mp_sK (by first | assumption | exact MP_rcS (by assumption) | exact MP_ar rfl (by assumption) | exact MP_sc rfl (by assumption)) (by first | omega | assumption) | exact mp_sB (by first | assumption | exact MP_rcS (by assumption) | exact MP_ar rfl (by assumption) | exact MP_sc rfl (by assumption)) (by first | omega | assumption) | exact mp_sT (by first | assumption | exact MP_rcS (by assumption) | exact MP_ar rfl (by assumption) | exact MP_sc rfl (by assumption)) (by first | omega | assumption) | exact mp_sM (by first | assumption | exact MP_rcS (by assumption) | exact MP_ar rfl (by assumption) | exact MP_sc rfl (by assumption)) (by first | omega | assumption) | exact mp_cS (by first | assumption | exact MP_rcS (by assumption) | exact MP_ar rfl (by assumption) | exact MP_sc rfl (by assumption)) (by first | omega | assumption) | exact va_g | exact va_n (by decide) | rfl) ?_
        cases hC : isC p v
        · simp only [show (¬ v = 99 ∧ false = false) from ⟨h99, rfl⟩, if_true]
          refine V_if_neF rfl (rfl) ?_
          refine V_aload_n rfl rfl ?_
          refine V_iconst (v := 4) rfl (by decide) ?_
          refine V_aload_n rfl rfl ?_
          refine V_getI rfl rfl (by first | assumption | exact blkW_0 | exact bAt_0 (by assumption) | rfl) (by rfl) (by first | exact (psS_g rfl).trans pF_21 | exact (psS_g rfl).trans (by assumption) | exact (psS_g rfl).trans pk_us | exact (psS_g rfl).trans ((pk_un (by decide)).trans (by assumption)) | exact (psS_g rfl).trans ((pk_un (by decide)).trans pk_us) | exact (psS_g rfl).trans ((pk_un (by decide)).trans ((pk_un (by decide)).trans (by assumption))) | exact psS_g rfl | rfl) ?_
          refine V_callVi rfl rfl m_MD_fails_w m_MD_fails_x rfl (by decide) rfl (w_fails _ _) (by decide) rfl (by first | assumption | exact blkW_0 | exact bAt_0 (by assumption) | rfl) (Nat.le_of_ble_eq_true rfl) ?_
          refine V_ireturn rfl rfl (by first | rfl | exact b2_nar _ | assumption | decide) ?_
          exact RP_no (k := 4) (s := s) (by simp [h99]) (by decide) rfl pk_us trivial
        · simp only [show ¬ (¬ v = 99 ∧ true = false) from fun z => (by cases z.2), if_false]
          refine V_if_neT rfl (by decide) ?_
          refine V_aload_n rfl rfl ?_
          refine V_getfield rfl rfl (by first | assumption | exact blkW_0 | exact bAt_0 (by assumption) | rfl) (by rfl) ?_
          refine V_iload_n rfl rfl ?_
          refine V_aload_n rfl rfl ?_
          refine V_getI rfl rfl (by first | assumption | exact blkW_0 | exact bAt_0 (by assumption) | rfl) (by rfl) (by first | exact (psS_g rfl).trans pF_20 | exact (psS_g rfl).trans (by assumption) | exact (psS_g rfl).trans pk_us | exact (psS_g rfl).trans ((pk_un (by decide)).trans (by assumption)) | exact (psS_g rfl).trans ((pk_un (by decide)).trans pk_us) | exact (psS_g rfl).trans ((pk_un (by decide)).trans ((pk_un (by decide)).trans (by assumption))) | exact psS_g rfl | rfl) ?_
          refine V_bipush (v := 99) rfl (by decide) ?_
          refine V_icmp_neT rfl (hne) ?_
          refine V_aload_n rfl rfl ?_
          refine V_getI rfl rfl (by first | assumption | exact blkW_0 | exact bAt_0 (by assumption) | rfl) (by rfl) (by first | exact (psS_g rfl).trans pF_20 | exact (psS_g rfl).trans (by assumption) | exact (psS_g rfl).trans pk_us | exact (psS_g rfl).trans ((pk_un (by decide)).trans (by assumption)) | exact (psS_g rfl).trans ((pk_un (by decide)).trans pk_us) | exact (psS_g rfl).trans ((pk_un (by decide)).trans ((pk_un (by decide)).trans (by assumption))) | exact psS_g rfl | rfl) ?_
          first | refine V_past rfl rfl rfl rfl (by first | with_reducible rfl | exact nI_add 2 _ | exact nI_add 26 _ | exact ix45 _ _ | exact ixm45 _ | exact ix25 _ | exact fa_lit _ | assumption) (by first | omega | assumption | decide) (by first | decide | omega | assumption) ?_ | refine V_bast rfl rfl rfl (by first | with_reducible rfl | exact nI_add 2 _ | exact nI_add 26 _ | exact ix45 _ _ | exact ixm45 _ | exact ix25 _ | exact fa_lit _ | assumption) (by first | omega | assumption | decide) (by first | decide | omega | assumption) ?_ | refine V_iastore rfl (by first | assumption | exact blkW_i rfl rfl | exact blkW_z rfl rfl | exact bAt_i (by assumption) rfl rfl | exact bAt_z (by assumption) rfl rfl | rfl) (by first | with_reducible rfl | exact nI_add 2 _ | exact nI_add 26 _ | exact ix45 _ _ | exact ixm45 _ | exact ix25 _ | exact fa_lit _ | assumption) (by first | omega | assumption | decide) (by first | decide | omega | assumption) ?_
          rw [qP_c]
          exact key (nI v)
      · simp only [show (¬ v = 99 ∧ nT p ≤ v) from ⟨h99, by omega⟩]
        refine V_icmp_ltF rfl (nI_nlt (by omega) (by omega)) ?_
        refine V_aload_n rfl rfl ?_
        refine V_iconst (v := 2) rfl (by decide) ?_
        refine V_aload_n rfl rfl ?_
        refine V_getI rfl rfl (by first | assumption | exact blkW_0 | exact bAt_0 (by assumption) | rfl) (by rfl) (by first | exact (psS_g rfl).trans pF_21 | exact (psS_g rfl).trans (by assumption) | exact (psS_g rfl).trans pk_us | exact (psS_g rfl).trans ((pk_un (by decide)).trans (by assumption)) | exact (psS_g rfl).trans ((pk_un (by decide)).trans pk_us) | exact (psS_g rfl).trans ((pk_un (by decide)).trans ((pk_un (by decide)).trans (by assumption))) | exact psS_g rfl | rfl) ?_
        refine V_callVi rfl rfl m_MD_fails_w m_MD_fails_x rfl (by decide) rfl (w_fails _ _) (by decide) rfl (by first | assumption | exact blkW_0 | exact bAt_0 (by assumption) | rfl) (Nat.le_of_ble_eq_true rfl) ?_
        refine V_ireturn rfl rfl (by first | rfl | exact b2_nar _ | assumption | decide) ?_
        exact RP_no (k := 2) (s := s) (by simp [h99]) (by decide) rfl pk_us trivial
set_option maxRecDepth 20000 in
set_option maxHeartbeats 1000000 in
theorem w_takeInterface {n a : Nat} {x y : Int32} (h17 : sc 17 = nI n ∧ n ≤ 240) (ha : a < 2 ^ 30) (hr : RD p f q) (hw : WR p) (ht : nT p < 12) : Mt g 4 m_MD_takeInterface [.ref md] (blkW 7 h md (psS sc (pF f (nI a) x y)) (arS ar q)) sz u (RP h md sc ar (fun _ => True) (pIface p (ar 16) n a) (fun z f' q' => f' 19 = nI z.2 ∧ RD z.1 f' q')) sz u := by
  have h22 := hr.1.1
  have hn := h17.2
  have hr2 := RD_qP (v := -1) hr
  refine Mt.of m_MD_takeInterface_w m_MD_takeInterface_x m_MD_takeInterface_c rfl rfl (ls := [.ref md, .retAddr 0, .retAddr 0]) rfl ?_
  have tno : ∀ {f1 : Nat → Int32} {q1 : Nat → Nat → Int32} {k s : Nat} {X : Rs (Pg × Nat)}, X = .inl (k, s) → 1 ≤ k ∧ k ≤ 4 → f1 18 = nI s → V g 4 m_MD_takeInterface (RP h md sc ar (fun _ => True) X (fun (z : Pg × Nat) f' q' => f' 19 = nI z.2 ∧ RD z.1 f' q')) sz u 51 [.ref md, .int (nI (nT p)), .int (nI k)] [] (blkW 7 h md (psS sc f1) (arS ar q1)) sz u := by
    intro f1 q1 k s X hX hk h18
    refine V_aload_n rfl rfl ?_
    refine V_getfield rfl rfl (by first | assumption | exact blkW_0 | exact bAt_0 (by assumption) | rfl) (by rfl) ?_
    refine V_iload_n rfl rfl ?_
    refine V_iconst (v := 0) rfl (by decide) ?_
    first | refine V_pastZ rfl rfl rfl rfl (by first | with_reducible rfl | exact nI_add 2 _ | exact nI_add 26 _ | exact ix45 _ _ | exact ixm45 _ | exact ix25 _ | exact fa_lit _ | assumption) (by first | omega | assumption | decide) (by first | decide | omega | assumption) (by decide) ?_ | refine V_bastZ rfl rfl rfl (by first | with_reducible rfl | exact nI_add 2 _ | exact nI_add 26 _ | exact ix45 _ _ | exact ixm45 _ | exact ix25 _ | exact fa_lit _ | assumption) (by first | omega | assumption | decide) (by first | decide | omega | assumption) (by decide) ?_ | refine V_bastore rfl (by first | assumption | exact blkW_i rfl rfl | exact blkW_z rfl rfl | exact bAt_i (by assumption) rfl rfl | exact bAt_z (by assumption) rfl rfl | rfl) (by first | with_reducible rfl | exact nI_add 2 _ | exact nI_add 26 _ | exact ix45 _ _ | exact ixm45 _ | exact ix25 _ | exact fa_lit _ | assumption) (by first | omega | assumption | decide) (by first | decide | omega | assumption) (by first | rfl | assumption) ?_
    refine V_aload_n rfl rfl ?_
    refine V_dup rfl rfl ?_
    refine V_getI rfl rfl (by first | assumption | exact blkW_0 | exact bAt_0 (by assumption) | rfl) (by rfl) (by first | exact (psS_g rfl).trans ((pF_o rfl).trans (by assumption)) | exact (psS_g rfl).trans (by assumption) | exact (psS_g rfl).trans pk_us | exact (psS_g rfl).trans ((pk_un (by decide)).trans (by assumption)) | exact (psS_g rfl).trans ((pk_un (by decide)).trans pk_us) | exact (psS_g rfl).trans ((pk_un (by decide)).trans ((pk_un (by decide)).trans (by assumption))) | exact psS_g rfl | rfl) ?_
    refine V_iconst (v := 1) rfl (by decide) ?_
    refine V_iadd rfl ?_
    first | refine V_pput rfl rfl rfl rfl rfl ?_ | refine V_bput rfl rfl rfl rfl rfl rfl ?_ | refine V_bputZ rfl rfl rfl rfl rfl rfl (by decide) ?_ | refine V_put rfl rfl (by first | assumption | rfl) (by decide) (fun _ hty => by cases hty; exact ⟨rfl, rfl⟩) (by first | exact Or.inl rfl | exact Or.inr ⟨rfl, rfl⟩) rfl ?_
    refine V_iload_n rfl rfl ?_
    refine V_ireturn rfl rfl (by first | rfl | exact b2_nar _ | assumption | decide) ?_
    exact RP_no hX hk rfl ((pk_un (by decide)).trans h18) trivial
  have tok : ∀ {x1 y1 F2 : Int32} {e2 : Nat} {X : Rs (Pg × Nat)}, X = .inr (addT p false (-1) F2, e2) → V g 4 m_MD_takeInterface (RP h md sc ar (fun _ => True) X (fun (z : Pg × Nat) f' q' => f' 19 = nI z.2 ∧ RD z.1 f' q')) sz u 51 [.ref md, .int (nI (nT p)), .int 0] [] (blkW 7 h md (psS sc (pF f (nI e2) x1 y1)) (arS ar (qF (qP q (nT p) (-1)) (nT p) F2))) sz u := by
    intro x1 y1 F2 e2 X hX
    refine V_aload_n rfl rfl ?_
    refine V_getfield rfl rfl (by first | assumption | exact blkW_0 | exact bAt_0 (by assumption) | rfl) (by rfl) ?_
    refine V_iload_n rfl rfl ?_
    refine V_iconst (v := 0) rfl (by decide) ?_
    first | refine V_pastZ rfl rfl rfl rfl (by first | with_reducible rfl | exact nI_add 2 _ | exact nI_add 26 _ | exact ix45 _ _ | exact ixm45 _ | exact ix25 _ | exact fa_lit _ | assumption) (by first | omega | assumption | decide) (by first | decide | omega | assumption) (by decide) ?_ | refine V_bastZ rfl rfl rfl (by first | with_reducible rfl | exact nI_add 2 _ | exact nI_add 26 _ | exact ix45 _ _ | exact ixm45 _ | exact ix25 _ | exact fa_lit _ | assumption) (by first | omega | assumption | decide) (by first | decide | omega | assumption) (by decide) ?_ | refine V_bastore rfl (by first | assumption | exact blkW_i rfl rfl | exact blkW_z rfl rfl | exact bAt_i (by assumption) rfl rfl | exact bAt_z (by assumption) rfl rfl | rfl) (by first | with_reducible rfl | exact nI_add 2 _ | exact nI_add 26 _ | exact ix45 _ _ | exact ixm45 _ | exact ix25 _ | exact fa_lit _ | assumption) (by first | omega | assumption | decide) (by first | decide | omega | assumption) (by first | rfl | assumption) ?_
    refine V_aload_n rfl rfl ?_
    refine V_dup rfl rfl ?_
    refine V_getI rfl rfl (by first | assumption | exact blkW_0 | exact bAt_0 (by assumption) | rfl) (by rfl) (by first | exact (psS_g rfl).trans ((pF_o rfl).trans (by assumption)) | exact (psS_g rfl).trans (by assumption) | exact (psS_g rfl).trans pk_us | exact (psS_g rfl).trans ((pk_un (by decide)).trans (by assumption)) | exact (psS_g rfl).trans ((pk_un (by decide)).trans pk_us) | exact (psS_g rfl).trans ((pk_un (by decide)).trans ((pk_un (by decide)).trans (by assumption))) | exact psS_g rfl | rfl) ?_
    refine V_iconst (v := 1) rfl (by decide) ?_
    refine V_iadd rfl ?_
    first | refine V_pput rfl rfl rfl rfl rfl ?_ | refine V_bput rfl rfl rfl rfl rfl rfl ?_ | refine V_bputZ rfl rfl rfl rfl rfl rfl (by decide) ?_ | refine V_put rfl rfl (by first | assumption | rfl) (by decide) (fun _ hty => by cases hty; exact ⟨rfl, rfl⟩) (by first | exact Or.inl rfl | exact Or.inr ⟨rfl, rfl⟩) rfl ?_
    refine V_iload_n rfl rfl ?_
    refine V_ireturn rfl rfl (by first | rfl | exact b2_nar _ | assumption | decide) ?_
    refine RP_ok hX ⟨?_, ?_⟩
    · exact (pk_un (by decide)).trans pF_19
    · exact RD_addT hr (pk_us.trans (nI_1 _)) ((pk_un (by decide)).trans (pF_o rfl)) ((pk_un (by decide)).trans (pF_o rfl)) ((pk_un (by decide)).trans (pF_o rfl)) rfl
  refine V_aload_n rfl rfl ?_
  refine V_getI rfl rfl (by first | assumption | exact blkW_0 | exact bAt_0 (by assumption) | rfl) (by rfl) (by first | exact (psS_g rfl).trans ((pF_o rfl).trans (by assumption)) | exact (psS_g rfl).trans (by assumption) | exact (psS_g rfl).trans pk_us | exact (psS_g rfl).trans ((pk_un (by decide)).trans (by assumption)) | exact (psS_g rfl).trans ((pk_un (by decide)).trans pk_us) | exact (psS_g rfl).trans ((pk_un (by decide)).trans ((pk_un (by decide)).trans (by assumption))) | exact psS_g rfl | rfl) ?_
  refine V_is1 rfl (by first | rfl | assumption) ?_
  refine V_aload_n rfl rfl ?_
  refine V_getfield rfl rfl (by first | assumption | exact blkW_0 | exact bAt_0 (by assumption) | rfl) (by rfl) ?_
  refine V_iload_n rfl rfl ?_
  refine V_iconst (v := 0) rfl (by decide) ?_
  first | refine V_past rfl rfl rfl rfl (by first | with_reducible rfl | exact nI_add 2 _ | exact nI_add 26 _ | exact ix45 _ _ | exact ixm45 _ | exact ix25 _ | exact fa_lit _ | assumption) (by first | omega | assumption | decide) (by first | decide | omega | assumption) ?_ | refine V_bast rfl rfl rfl (by first | with_reducible rfl | exact nI_add 2 _ | exact nI_add 26 _ | exact ix45 _ _ | exact ixm45 _ | exact ix25 _ | exact fa_lit _ | assumption) (by first | omega | assumption | decide) (by first | decide | omega | assumption) ?_ | refine V_iastore rfl (by first | assumption | exact blkW_i rfl rfl | exact blkW_z rfl rfl | exact bAt_i (by assumption) rfl rfl | exact bAt_z (by assumption) rfl rfl | rfl) (by first | with_reducible rfl | exact nI_add 2 _ | exact nI_add 26 _ | exact ix45 _ _ | exact ixm45 _ | exact ix25 _ | exact fa_lit _ | assumption) (by first | omega | assumption | decide) (by first | decide | omega | assumption) ?_
  rw [show va_up q 25 (upd (q 25) (nT p) 0) = qF q (nT p) 0 from rfl]
  refine V_aload_n rfl rfl ?_
  refine V_getfield rfl rfl (by first | assumption | exact blkW_0 | exact bAt_0 (by assumption) | rfl) (by rfl) ?_
  refine V_iload_n rfl rfl ?_
  refine V_iconst (v := (-1)) rfl (by decide) ?_
  first | refine V_past rfl rfl rfl rfl (by first | with_reducible rfl | exact nI_add 2 _ | exact nI_add 26 _ | exact ix45 _ _ | exact ixm45 _ | exact ix25 _ | exact fa_lit _ | assumption) (by first | omega | assumption | decide) (by first | decide | omega | assumption) ?_ | refine V_bast rfl rfl rfl (by first | with_reducible rfl | exact nI_add 2 _ | exact nI_add 26 _ | exact ix45 _ _ | exact ixm45 _ | exact ix25 _ | exact fa_lit _ | assumption) (by first | omega | assumption | decide) (by first | decide | omega | assumption) ?_ | refine V_iastore rfl (by first | assumption | exact blkW_i rfl rfl | exact blkW_z rfl rfl | exact bAt_i (by assumption) rfl rfl | exact bAt_z (by assumption) rfl rfl | rfl) (by first | with_reducible rfl | exact nI_add 2 _ | exact nI_add 26 _ | exact ix45 _ _ | exact ixm45 _ | exact ix25 _ | exact fa_lit _ | assumption) (by first | omega | assumption | decide) (by first | decide | omega | assumption) ?_
  rw [qP_c]
  refine V_iconst (v := 0) rfl (by decide) ?_
  refine V_is2 rfl (by first | rfl | assumption) ?_
  refine V_aload_n rfl rfl ?_
  refine V_callVi rfl rfl m_MD_here_w m_MD_here_x rfl (by decide) rfl (w_here2 (by assumption) (by first | omega | assumption)) (by decide) rfl (by first | assumption | exact blkW_0 | exact bAt_0 (by assumption) | rfl) (Nat.le_of_ble_eq_true rfl) ?_
  refine V_bipush (v := 59) rfl (by decide) ?_
  unfold pIface
  have hsb := skp_b (T := ar 16) ha hn
  by_cases hc : hv (ar 16) n a = 59
  · rw [if_pos hc]
    refine V_icmp_eqT rfl (hc) ?_
    exact tok rfl
  · rw [if_neg hc]
    refine V_icmp_eqF rfl (hc) ?_
    refine V_aload_n rfl rfl ?_
    refine V_iload_n rfl rfl ?_
    refine V_callV rfl rfl m_MD_takeFace_w m_MD_takeFace_x rfl (by decide) rfl (w_takeFace h17 hsb hr2 hw ht) (by decide) rfl (by first | assumption | exact blkW_0 | exact bAt_0 (by assumption) | rfl) (Nat.le_of_ble_eq_true rfl) (by first | exact Nat.le_refl _ | omega | decide) (by first | exact Nat.le_refl _ | omega | decide) (fun r hh1 hP => ?_)
    generalize hN : pFace (isC p) (ar 16) n (skp (ar 16) n a) (nT p) 0 = z at hP
    rcases z with ⟨k, s⟩ | ⟨F1, e⟩
    · obtain ⟨hk, rfl, f1, q1, rfl, h18, -⟩ := hP
      refine V_is2 rfl (by first | rfl | assumption) ?_
      refine V_iload_n rfl rfl ?_
      refine V_if_leF rfl ((nk_pos hk).1) ?_
      refine V_iload_n rfl rfl ?_
      refine V_goto rfl ?_
      refine V_is2 rfl (by first | rfl | assumption) ?_
      exact tno rfl hk h18
    · obtain ⟨rfl, f1, q1, rfl, ⟨x1, y1, rfl⟩, rfl⟩ := hP
      obtain ⟨g1, g2, -⟩ := pFace_ok hN
      refine V_is2 rfl (by first | rfl | assumption) ?_
      refine V_iload_n rfl rfl ?_
      refine V_if_leT rfl (by decide) ?_
      refine V_aload_n rfl rfl ?_
      refine V_iload_n rfl rfl ?_
      refine V_iconst (v := 1) rfl (by decide) ?_
      refine V_callV rfl rfl m_MD_takeFaces_w m_MD_takeFaces_x rfl (by decide) rfl (w_takeFaces h17 (show e < 2 ^ 30 by omega) hr2 hw ht (show 1 ≤ 2 by omega) rfl) (by decide) rfl (by first | assumption | exact blkW_0 | exact bAt_0 (by assumption) | rfl) (Nat.le_of_ble_eq_true rfl) (by first | exact Nat.le_refl _ | omega | decide) (by first | exact Nat.le_refl _ | omega | decide) (fun r hh1 hP => ?_)
      generalize hM : pFaces (isC p) (ar 16) n (nT p) 1 e F1 = z at hP
      rcases z with ⟨k, s2⟩ | ⟨F2, e2⟩
      · obtain ⟨hk, rfl, f1, q1, rfl, h18, -⟩ := hP
        refine V_is2 rfl (by first | rfl | assumption) ?_
        exact tno (by simp [hM]) hk h18
      · obtain ⟨rfl, f1, q1, rfl, ⟨x1, y1, rfl⟩, rfl⟩ := hP
        refine V_is2 rfl (by first | rfl | assumption) ?_
        exact tok (by simp [hM])
end mparse4
