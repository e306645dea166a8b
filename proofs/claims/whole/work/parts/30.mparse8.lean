theorem addT_WR {p : Pg} {c : Bool} {pa F : Int32} (hw : WR p) (ht : nT p < 12) (hp : pa = -1 ∨ ∃ q, q < nT p ∧ isC p q = true ∧ pa = nI q) : WR (addT p c pa F) := by
  obtain ⟨w1, w2, w3, w4⟩ := hw
  have iN : nT (addT p c pa F) = nT p + 1 := rfl
  have iC : ∀ t, t < nT p → isC (addT p c pa F) t = isC p t := fun t h => by show (if t = nT p then c else isC p t) = _; rw [if_neg (by omega)]
  have iP : ∀ t, t < nT p → par (addT p c pa F) t = par p t := fun t h => by show (if t = nT p then pa else par p t) = _; rw [if_neg (by omega)]
  refine ⟨⟨by rw [iN]; omega, w1.2⟩, fun t h => ?_, fun b h => ?_, fun s h => ?_⟩
  · rw [iN] at h
    by_cases e : t = nT p
    · subst e
      have e2 : par (addT p c pa F) (nT p) = pa := by show (if nT p = nT p then pa else par p (nT p)) = _; rw [if_pos rfl]
      rw [e2]
      rcases hp with hp | ⟨q, h1, h2, h3⟩
      · exact Or.inl hp
      · exact Or.inr ⟨q, h1, (iC q h1).trans h2, h3⟩
    · rw [iP t (by omega)]
      rcases w2 t (by omega) with hq | ⟨q, h1, h2, h3⟩
      · exact Or.inl hq
      · exact Or.inr ⟨q, h1, (iC q (by omega)).trans h2, h3⟩
  · have := w3 b h
    exact ⟨by rw [iN]; show bT p b < _; omega, this.2⟩
  · obtain ⟨a1, a2, a3, a4, a5, a6⟩ := w4 s h
    have hb := w3 _ a2
    refine ⟨a1, a2, by rw [iN]; show sT p s < _; omega, a4, fun z => ?_, fun z => ?_⟩
    · show ¬ par (addT p c pa F) (bT p (sB p s)) < 0
      rw [iP _ hb.1]
      exact a5 z
    · show isC (addT p c pa F) (sT p s) = true
      rw [iC _ a3]
      exact a6 z
theorem addB_WR {p : Pg} {t m : Nat} (hw : WR p) (hb : nB p < 20) (ht : t < nT p) (hm : m < 6) : WR (addB p t m) := by
  obtain ⟨w1, w2, w3, w4⟩ := hw
  have iN : nB (addB p t m) = nB p + 1 := rfl
  have iT : ∀ b, b < nB p → bT (addB p t m) b = bT p b := fun b h => by show (if b = nB p then t else bT p b) = _; rw [if_neg (by omega)]
  have iM : ∀ b, b < nB p → bM (addB p t m) b = bM p b := fun b h => by show (if b = nB p then m else bM p b) = _; rw [if_neg (by omega)]
  refine ⟨⟨w1.1, by rw [iN]; omega, w1.2.2⟩, w2, fun b h => ?_, fun s h => ?_⟩
  · rw [iN] at h
    by_cases e : b = nB p
    · subst e
      have e1 : bT (addB p t m) (nB p) = t := by show (if nB p = nB p then t else bT p (nB p)) = _; rw [if_pos rfl]
      have e2 : bM (addB p t m) (nB p) = m := by show (if nB p = nB p then m else bM p (nB p)) = _; rw [if_pos rfl]
      rw [e1, e2]
      exact ⟨ht, hm⟩
    · rw [iT b (by omega), iM b (by omega)]
      exact w3 b (by omega)
  · obtain ⟨a1, a2, a3, a4, a5, a6⟩ := w4 s h
    refine ⟨a1, by rw [iN]; show sB p s < _; omega, a3, a4, fun z => ?_, a6⟩
    show ¬ par p (bT (addB p t m) (sB p s)) < 0
    rw [iT _ a2]
    exact a5 z
theorem addS_WR {p : Pg} {k b t m : Nat} (hw : WR p) (hs : nS p < 24) (hk : k < 3) (hb : b < nB p) (ht : t < nT p) (hm : m < 6) (h2 : k = 2 → ¬ par p (bT p b) < 0) (h0 : k = 0 → isC p t = true) : WR (addS p k b t m) := by
  obtain ⟨w1, w2, w3, w4⟩ := hw
  have iN : nS (addS p k b t m) = nS p + 1 := rfl
  refine ⟨⟨w1.1, w1.2.1, by rw [iN]; omega⟩, w2, w3, fun s h => ?_⟩
  rw [iN] at h
  show (if s = nS p then k else sK p s) < 3 ∧ (if s = nS p then b else sB p s) < nB p ∧ (if s = nS p then t else sT p s) < nT p ∧ (if s = nS p then m else sM p s) < 6 ∧ ((if s = nS p then k else sK p s) = 2 → ¬ par p (bT p (if s = nS p then b else sB p s)) < 0) ∧ ((if s = nS p then k else sK p s) = 0 → isC p (if s = nS p then t else sT p s) = true)
  by_cases e : s = nS p
  · simp only [if_pos e]
    exact ⟨hk, hb, ht, hm, h2, h0⟩
  · simp only [if_neg e]
    exact w4 s (by omega)
theorem RD_f {p : Pg} {f f2 : Nat → Int32} {q : Nat → Nat → Int32} (h : RD p f q) (h22 : f2 22 = f 22) (h26 : f2 26 = f 26) (h29 : f2 29 = f 29) (h18 : f2 18 = f 18) : RD p f2 q := ⟨⟨h22.trans h.1.1, h26.trans h.1.2.1, h29.trans h.1.2.2.1, h18.trans h.1.2.2.2⟩, h.2⟩
theorem pClass_ok {p p2 : Pg} {T : Nat → Int32} {n a e : Nat} (h : pClass p T n a = .inr (p2, e)) (hn : n ≤ 240) (hw : WR p) (ht : nT p < 12) : a ≤ e ∧ e < 2 ^ 30 ∧ WR p2 := by
  unfold pClass at h
  generalize hN : pNum T n a 100 = z at h
  rcases z with z | ⟨v, e1, s⟩
  · cases h
  · obtain ⟨h1, h2, h3, h4⟩ := pNum_ok hN
    have h : (if ¬ v = 99 ∧ nT p ≤ v then .inl (2, s) else if ¬ v = 99 ∧ isC p v = false then .inl (4, s) else (match pFaces (isC p) T n (nT p) 2 e1 0 with
      | .inl x => .inl x
      | .inr w => .inr (addT p true (if v = 99 then -1 else nI v) w.1, w.2)) : Rs (Pg × Nat)) = .inr (p2, e) := h
    by_cases c1 : ¬ v = 99 ∧ nT p ≤ v
    · rw [if_pos c1] at h; cases h
    · rw [if_neg c1] at h
      by_cases c2 : ¬ v = 99 ∧ isC p v = false
      · rw [if_pos c2] at h; cases h
      · rw [if_neg c2] at h
        generalize hM : pFaces (isC p) T n (nT p) 2 e1 0 = z at h
        rcases z with z | ⟨F2, e2⟩
        · cases h
        · have h5 := Sum.inr.inj h
          rw [Prod.mk.injEq] at h5
          obtain ⟨rfl, rfl⟩ := h5
          have := pFaces_ok 2 hM (by omega) hn
          refine ⟨by show a ≤ e2; omega, this.2, addT_WR hw ht ?_⟩
          by_cases c3 : v = 99
          · exact Or.inl (by rw [if_pos c3])
          · refine Or.inr ⟨v, by omega, ?_, by rw [if_neg c3]⟩
            cases hC : isC p v
            · exact absurd ⟨c3, hC⟩ c2
            · rfl
theorem pIface_ok {p p2 : Pg} {T : Nat → Int32} {n a e : Nat} (h : pIface p T n a = .inr (p2, e)) (ha : a < 2 ^ 30) (hn : n ≤ 240) (hw : WR p) (ht : nT p < 12) : a ≤ e ∧ e < 2 ^ 30 ∧ WR p2 := by
  unfold pIface at h
  have hg := skp_ge T n a
  by_cases c1 : hv T n a = 59
  · rw [if_pos c1] at h
    have h5 := Sum.inr.inj h
    rw [Prod.mk.injEq] at h5
    obtain ⟨rfl, rfl⟩ := h5
    exact ⟨hg, skp_b ha hn, addT_WR hw ht (Or.inl rfl)⟩
  · rw [if_neg c1] at h
    generalize hN : pFace (isC p) T n (skp T n a) (nT p) 0 = z at h
    rcases z with z | ⟨F1, e1⟩
    · cases h
    · obtain ⟨g1, g2, -⟩ := pFace_ok hN
      have h : (match pFaces (isC p) T n (nT p) 1 e1 F1 with
        | .inl x => .inl x
        | .inr w => .inr (addT p false (-1) w.1, w.2) : Rs (Pg × Nat)) = .inr (p2, e) := h
      generalize hM : pFaces (isC p) T n (nT p) 1 e1 F1 = z at h
      rcases z with z | ⟨F2, e2⟩
      · cases h
      · have h5 := Sum.inr.inj h
        rw [Prod.mk.injEq] at h5
        obtain ⟨rfl, rfl⟩ := h5
        have := pFaces_ok 1 hM (by omega) hn
        exact ⟨by show a ≤ e2; omega, this.2, addT_WR hw ht (Or.inl rfl)⟩
theorem pBody_ok {p p2 : Pg} {T : Nat → Int32} {n a e : Nat} (h : pBody p T n a = .inr (p2, e)) (hn : n ≤ 240) (hw : WR p) (hb : nB p < 20) : a ≤ e ∧ e < 2 ^ 30 ∧ WR p2 := by
  unfold pBody at h
  generalize hN : pNum T n a (nT p) = z at h
  rcases z with z | ⟨v, e1, s⟩
  · cases h
  · obtain ⟨h1, h2, h3, h4⟩ := pNum_ok hN
    have h : (match pNum T n e1 6 with
      | .inl x => .inl x
      | .inr w => if hasB p v w.1 then .inl (4, w.2.2) else .inr (addB p v w.1, w.2.1) : Rs (Pg × Nat)) = .inr (p2, e) := h
    generalize hM : pNum T n e1 6 = z at h
    rcases z with z | ⟨w, e2, s2⟩
    · cases h
    · obtain ⟨g1, g2, g3, g4⟩ := pNum_ok hM
      have h : (if hasB p v w then .inl (4, s2) else .inr (addB p v w, e2) : Rs (Pg × Nat)) = .inr (p2, e) := h
      by_cases c1 : hasB p v w = true
      · rw [if_pos c1] at h; cases h
      · rw [if_neg c1] at h
        have h5 := Sum.inr.inj h
        rw [Prod.mk.injEq] at h5
        obtain ⟨rfl, rfl⟩ := h5
        exact ⟨by omega, by omega, addB_WR hw hb h1 g1⟩
theorem pStep_ok {p p2 : Pg} {T : Nat → Int32} {n a e k : Nat} (h : pStep p T n a k = .inr (p2, e)) (hn : n ≤ 240) (hw : WR p) (hs : nS p < 24) (hk : k < 3) : a ≤ e ∧ e < 2 ^ 30 ∧ WR p2 := by
  unfold pStep at h
  generalize hN : pNum T n a (nB p) = z at h
  rcases z with z | ⟨v, e1, s⟩
  · cases h
  · obtain ⟨h1, h2, h3, h4⟩ := pNum_ok hN
    have hbv := hw.2.2.1 v h1
    have h : (if k = 2 then (if par p (bT p v) < 0 then .inl (4, s) else (match pNum T n e1 6 with
        | .inl x => .inl x
        | .inr w => .inr (addS p 2 v 0 w.1, w.2.1)))
      else (match pNum T n e1 (nT p) with
        | .inl x => .inl x
        | .inr y => if k = 0 then (if isC p y.1 then .inr (addS p 0 v y.1 0, y.2.1) else .inl (4, y.2.2)) else (match pNum T n y.2.1 6 with
          | .inl x => .inl x
          | .inr w => .inr (addS p 1 v y.1 w.1, w.2.1))) : Rs (Pg × Nat)) = .inr (p2, e) := h
    by_cases c2 : k = 2
    · rw [if_pos c2] at h
      by_cases c3 : par p (bT p v) < 0
      · rw [if_pos c3] at h; cases h
      · rw [if_neg c3] at h
        generalize hM : pNum T n e1 6 = z at h
        rcases z with z | ⟨w, e2, s2⟩
        · cases h
        · obtain ⟨g1, g2, g3, g4⟩ := pNum_ok hM
          have h5 := Sum.inr.inj h
          rw [Prod.mk.injEq] at h5
          obtain ⟨rfl, rfl⟩ := h5
          exact ⟨by show a ≤ e2; omega, by show e2 < _; omega, addS_WR hw hs (by decide) h1 (by omega) g1 (fun _ => c3) (fun z => by cases z)⟩
    · rw [if_neg c2] at h
      generalize hM : pNum T n e1 (nT p) = z at h
      rcases z with z | ⟨t, e2, s2⟩
      · cases h
      · obtain ⟨g1, g2, g3, g4⟩ := pNum_ok hM
        have h : (if k = 0 then (if isC p t then .inr (addS p 0 v t 0, e2) else .inl (4, s2)) else (match pNum T n e2 6 with
          | .inl x => .inl x
          | .inr w => .inr (addS p 1 v t w.1, w.2.1)) : Rs (Pg × Nat)) = .inr (p2, e) := h
        by_cases c0 : k = 0
        · rw [if_pos c0] at h
          by_cases c3 : isC p t = true
          · rw [if_pos c3] at h
            have h5 := Sum.inr.inj h
            rw [Prod.mk.injEq] at h5
            obtain ⟨rfl, rfl⟩ := h5
            exact ⟨by omega, by omega, addS_WR hw hs (by decide) h1 g1 (by decide) (fun z => by cases z) (fun _ => c3)⟩
          · rw [if_neg c3] at h; cases h
        · rw [if_neg c0] at h
          generalize hL : pNum T n e2 6 = z at h
          rcases z with z | ⟨w, e3, s3⟩
          · cases h
          · obtain ⟨k1, k2, k3, k4⟩ := pNum_ok hL
            have h5 := Sum.inr.inj h
            rw [Prod.mk.injEq] at h5
            obtain ⟨rfl, rfl⟩ := h5
            exact ⟨by show a ≤ e3; omega, by show e3 < _; omega, addS_WR hw hs (by decide) h1 g1 k1 (fun z => by cases z) (fun z => by cases z)⟩
theorem pOne_ok {p p2 : Pg} {T : Nat → Int32} {n a e k : Nat} (h : pOne p T n a k = .inr (p2, e)) (ha : a < 2 ^ 30) (hn : n ≤ 240) (hw : WR p) (hf : full p k = false) (hk : k < 6) : a ≤ e ∧ e < 2 ^ 30 ∧ WR p2 := by
  unfold pOne at h
  by_cases c0 : k = 0
  · rw [if_pos c0] at h
    exact pClass_ok h hn hw (full_1 hw hf (by omega))
  · rw [if_neg c0] at h
    by_cases c1 : k = 1
    · rw [if_pos c1] at h
      exact pIface_ok h ha hn hw (full_1 hw hf (by omega))
    · rw [if_neg c1] at h
      by_cases c2 : k = 2
      · rw [if_pos c2] at h
        subst c2
        exact pBody_ok h hn hw (full_2 hw hf)
      · rw [if_neg c2] at h
        exact pStep_ok h hn hw (full_3 hw hf (by omega)) (by omega)
