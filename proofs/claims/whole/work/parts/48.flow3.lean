/-! ===== what is reached is loaded, and come to from a root ===== -/
theorem bodyOf_T {p : Pg} {t m b : Nat} (hB : nB p ≤ 20) (hb : b < nB p) (h : bodyOf p t m = nI b) : bT p b = t := by
  unfold bodyOf oB at h
  by_cases hk : fBod p t m < nB p
  · rw [if_pos hk] at h
    have e : fBod p t m = b := (nI_eq (by omega) (by omega)).mp h
    have hy := fa_first_yes (fun b => bT p b == t && bM p b == m) (nB p) hk
    have hy : (bT p (fBod p t m) == t && bM p (fBod p t m) == m) = true := hy
    rw [e, Bool.and_eq_true, beq_iff_eq] at hy
    exact hy.1
  · rw [if_neg hk] at h
    exact absurd h.symm (nI_m1 (by omega))
theorem byF_abv {p : Pg} {t m b : Nat} (hw : WB p) (hb : b < nB p) (h : byF p t m = nI b) : bt (abv p t) (bT p b) = true := by
  have hB := hw.1.2.1
  have hT := hw.1.1
  unfold byF at h
  by_cases ho : oneB (leftS p t m) = true
  · rw [if_pos ho] at h
    rw [bodyOf_T hB hb h]
    have h1 := (low_in (low_lt ho)).2
    have h2 := ((bt_setF (by omega)).mp h1).2
    rw [Bool.and_eq_true] at h2
    have h3 := ((bt_setF (by omega)).mp h2.1).2
    rw [Bool.and_eq_true, Bool.and_eq_true] at h3
    exact h3.1.2
  · rw [if_neg ho] at h
    exact absurd h.symm (nI_m1 (by omega))
theorem fndU_abv {p : Pg} {t m b : Nat} (hw : WB p) (hx : WX p) (ht : t < nT p) (hb : b < nB p) : ∀ (k : Nat) (x : Int32), (x = -1 ∨ ∃ q, q < nT p ∧ x = nI q ∧ bt (abv p t) q = true) → fndU p t m k x = nI b → bt (abv p t) (bT p b) = true
  | 0, x, _, h => byF_abv hw hb h
  | k + 1, x, hq, h => by
    have hB := hw.1.2.1
    have hT := hw.1.1
    unfold fndU at h
    rcases hq with e | ⟨q, q1, e, q2⟩
    · subst e
      rw [if_pos (by decide)] at h
      exact byF_abv hw hb h
    · subst e
      rw [if_neg (nI_pos (by omega)), nI_clamp (by omega)] at h
      by_cases hh : hasB p q m = true
      · rw [if_pos hh] at h
        rw [bodyOf_T hB hb h]
        exact q2
      · rw [if_neg hh] at h
        refine fndU_abv hw hx ht hb k _ ?_ h
        rcases par_nI hw q1 with e | ⟨r, r1, r2, r3⟩
        · exact Or.inl e
        · exact Or.inr ⟨r, r2, r3, hx.2.2.1 t ht q q2 r (hx.2.2.2.2.2 q q1 r r2 r3)⟩
theorem fnd_abv {p : Pg} {t m b : Nat} (hw : WB p) (hx : WX p) (ht : t < nT p) (hb : b < nB p) (h : fnd p t m = nI b) : bt (abv p t) (bT p b) = true := fndU_abv hw hx ht hb 12 (nI t) (Or.inr ⟨t, ht, rfl, hx.1 t ht⟩) h
theorem bitB_fnd {p : Pg} {t m i : Nat} (hB : nB p ≤ 20) (h : bt (bitB (fnd p t m)) i = true) : i < nB p ∧ fnd p t m = nI i := by
  rcases fndU_is p t m 12 (nI t) with e | ⟨b, hb, e⟩
  · unfold fnd at h; rw [e, bitB_m1, b_0] at h; cases h
  · have h : bt (bitB (fndU p t m 12 (nI t))) i = true := h
    rw [e, bitB_nI (by omega), bt_bI (by omega) (bt_lt h), decide_eq_true_eq] at h
    subst h
    exact ⟨hb, e⟩
def lbS (p : Pg) (L : Int32) : Int32 := setF (nB p) fun b => bt L (bT p b)
theorem bt_lbS {p : Pg} {L : Int32} {b : Nat} (hB : nB p ≤ 20) : bt (lbS p L) b = true ↔ b < nB p ∧ bt L (bT p b) = true := bt_setF (by omega)
/-- loaded with all that is above -/
def upC (p : Pg) (L : Int32) : Prop := sub (nT p) L ∧ ∀ t, bt L t = true → le (abv p t) L
theorem dnB_lb {p : Pg} {L S : Int32} {s : Nat} (hw : WB p) (hx : WX p) (hL : upC p L) (hs : s < nS p) (hS : le S L) (hb : bt L (bT p (sB p s)) = true) : le (dnB p s S) (lbS p L) := by
  have hB := hw.1.2.1
  have hT := hw.1.1
  have hk := hw.2.2.2.1 s hs
  have hb2 := hw.2.2.1 _ hk.2.1
  intro i hi
  unfold dnB at hi
  by_cases k0 : sK p s = 0
  · rw [if_pos k0, b_0] at hi; cases hi
  · rw [if_neg k0] at hi
    by_cases k2 : sK p s = 2
    · obtain ⟨q, q1, q2⟩ := hk.2.2.2.2 k2
      rw [if_pos k2, q2, nI_clamp (by omega)] at hi
      obtain ⟨h1, h2⟩ := bitB_fnd hB hi
      have h3 := fnd_abv hw hx q1 h1 h2
      have h4 := hx.2.2.2.2.2 _ hb2.1 q q1 q2
      exact (bt_lbS hB).mpr ⟨h1, hL.2 _ hb _ (hx.2.2.1 _ hb2.1 q h4 _ h3)⟩
    · rw [if_neg k2] at hi
      obtain ⟨t, t1, t2⟩ := bt_orF.mp hi
      rw [bt_cnd, Bool.and_eq_true, Bool.and_eq_true, Bool.and_eq_true] at t2
      obtain ⟨h1, h2⟩ := bitB_fnd hB t2.2
      have h3 := fnd_abv hw hx t1 h1 h2
      exact (bt_lbS hB).mpr ⟨h1, hL.2 _ (hS _ t2.1.1.2) _ h3⟩
theorem dnB_mono {p : Pg} {s : Nat} {S S2 : Int32} (h : le S S2) : le (dnB p s S) (dnB p s S2) := by
  intro i hi
  unfold dnB at hi ⊢
  by_cases k0 : sK p s = 0
  · rw [if_pos k0] at hi ⊢; exact hi
  · rw [if_neg k0] at hi ⊢
    by_cases k2 : sK p s = 2
    · rw [if_pos k2] at hi ⊢; exact hi
    · rw [if_neg k2] at hi ⊢
      obtain ⟨t, t1, t2⟩ := bt_orF.mp hi
      refine bt_orF.mpr ⟨t, t1, ?_⟩
      rw [bt_cnd, Bool.and_eq_true, Bool.and_eq_true, Bool.and_eq_true] at t2 ⊢
      exact ⟨⟨⟨t2.1.1.1, h _ t2.1.1.2⟩, t2.1.2⟩, t2.2⟩
theorem mkS_L {p : Pg} {L : Int32} {s : Nat} (h : sT p s < 32) : le (mkS p L s) L := fun i hi => by
  have hlt := bt_lt hi
  unfold mkS at hi
  rw [bt_cnd, Bool.and_eq_true, Bool.and_eq_true, bt_bI h hlt, decide_eq_true_eq] at hi
  rw [hi.2]
  exact hi.1.2
theorem le_or2 {A B C : Int32} (h1 : le A C) (h2 : le B C) : le (A ||| B) C := fun i hi => by
  rw [b_or, Bool.or_eq_true] at hi
  exact hi.elim (h1 i) (h2 i)
theorem le_orm {A B C D : Int32} (h1 : le A C) (h2 : le B D) : le (A ||| B) (C ||| D) := fun i hi => by
  rw [b_or, Bool.or_eq_true] at hi ⊢
  exact hi.imp (h1 i) (h2 i)
theorem swp_lb {p : Pg} {L : Int32} (hw : WB p) (hx : WX p) (hL : upC p L) {x : Int32 × Int32} (h1 : le x.1 (lbS p L)) (h2 : le x.2 L) : ∀ s, s ≤ nS p → le (swp p L x s).1 (lbS p L) ∧ le (swp p L x s).2 L
  | 0, _ => ⟨h1, h2⟩
  | s + 1, hs => by
    obtain ⟨i1, i2⟩ := swp_lb hw hx hL h1 h2 s (by omega)
    have hk := hw.2.2.2.1 s (by omega)
    have hT := hw.1.1
    rw [swp_s]
    by_cases hb : bt (swp p L x s).1 (sB p s) = true
    · rw [if_pos hb]
      have hm := le_or2 i2 (mkS_L (p := p) (L := L) (s := s) (by omega))
      exact ⟨le_or2 i1 (dnB_lb hw hx hL (by omega) hm ((bt_lbS hw.1.2.1).mp (i1 _ hb)).2), hm⟩
    · rw [if_neg hb]; exact ⟨i1, i2⟩
theorem swp_mono {p : Pg} {L : Int32} {x y : Int32 × Int32} (h1 : le x.1 y.1) (h2 : le x.2 y.2) : ∀ s, le (swp p L x s).1 (swp p L y s).1 ∧ le (swp p L x s).2 (swp p L y s).2
  | 0 => ⟨h1, h2⟩
  | s + 1 => by
    obtain ⟨i1, i2⟩ := swp_mono h1 h2 s
    rw [swp_s, swp_s]
    by_cases hb : bt (swp p L x s).1 (sB p s) = true
    · rw [if_pos hb, if_pos (i1 _ hb)]
      exact ⟨le_orm i1 (dnB_mono (le_orm i2 (le_rfl _))), le_orm i2 (le_rfl _)⟩
    · rw [if_neg hb]
      by_cases hc : bt (swp p L y s).1 (sB p s) = true
      · rw [if_pos hc]
        exact ⟨le_tr i1 (le_or _ _), le_tr i2 (le_or _ _)⟩
      · rw [if_neg hc]; exact ⟨i1, i2⟩
theorem swp_up {p : Pg} {L : Int32} {x : Int32 × Int32} {s : Nat} : ∀ k, le (swp p L x s).1 (swp p L x (s + k)).1 ∧ le (swp p L x s).2 (swp p L x (s + k)).2
  | 0 => ⟨le_rfl _, le_rfl _⟩
  | k + 1 => by
    obtain ⟨i1, i2⟩ := swp_up (p := p) (L := L) (x := x) (s := s) k
    rw [← Nat.add_assoc, swp_s]
    split
    · exact ⟨le_tr i1 (le_or _ _), le_tr i2 (le_or _ _)⟩
    · exact ⟨i1, i2⟩
theorem dnB_clB {p : Pg} {R M : Int32} {s : Nat} (hs : s < nS p) (hb : bt R (sB p s) = true) : le (dnB p s M) (clB p R M (sB p s)) := fun i hi => by
  unfold clB
  rw [if_pos hb]
  exact bt_orF.mpr ⟨s, hs, by rw [bt_cnd, hi]; simp⟩
def rtS (p : Pg) (L R : Int32) : Int32 := setF (nB p) fun b => bt R b && bt L (bT p b)
/-- a root comes to c -/
def cnn (p : Pg) (L R : Int32) (F : Int32 × Int32) (c : Nat) : Prop := ∃ d r, bt (rtS p L R) r = true ∧ wk (clB p F.1 F.2) c d r
theorem swp_cn {p : Pg} {L R : Int32} {F x : Int32 × Int32} (hF : sweep p L F = F) (h1 : le x.1 F.1) (h2 : le x.2 F.2) (hc : ∀ c, bt x.1 c = true → cnn p L R F c) : ∀ s, s ≤ nS p → (∀ c, bt (swp p L x s).1 c = true → cnn p L R F c)
  | 0, _, c, h => hc c h
  | s + 1, hs, c, h => by
    have ih := swp_cn hF h1 h2 hc s (by omega)
    have hle : ∀ j, j ≤ nS p → le (swp p L x j).1 F.1 ∧ le (swp p L x j).2 F.2 := fun j hj => by
      have m := swp_mono (p := p) (L := L) h1 h2 j
      have u := swp_up (p := p) (L := L) (x := F) (s := j) (nS p - j)
      rw [show j + (nS p - j) = nS p by omega] at u
      have hF2 : swp p L F (nS p) = F := hF
      rw [hF2] at u
      exact ⟨le_tr m.1 u.1, le_tr m.2 u.2⟩
    have hl1 := (hle (s + 1) hs).2
    rw [swp_s] at h hl1
    by_cases hb : bt (swp p L x s).1 (sB p s) = true
    · rw [if_pos hb] at h hl1
      rw [b_or, Bool.or_eq_true] at h
      rcases h with h | h
      · exact ih c h
      · obtain ⟨d, r, r1, r2⟩ := ih _ hb
        have he := dnB_clB (p := p) (R := F.1) (M := F.2) (s := s) (by omega) ((hle s (by omega)).1 _ hb) c (dnB_mono hl1 c h)
        exact ⟨d + 1, r, r1, wk_snoc r2 he⟩
    · rw [if_neg hb] at h
      exact ih c h
theorem itF_le {p : Pg} {L : Int32} : ∀ (n : Nat) (x : Int32 × Int32), le x.1 (itF (sweep p L) n x).1 ∧ le x.2 (itF (sweep p L) n x).2
  | 0, x => ⟨le_rfl _, le_rfl _⟩
  | n + 1, x => by
    have h1 := itF_le (p := p) (L := L) n (sweep p L x)
    have h2 := swp_up (p := p) (L := L) (x := x) (s := 0) (nS p)
    rw [Nat.zero_add] at h2
    exact ⟨le_tr h2.1 h1.1, le_tr h2.2 h1.2⟩
theorem itF_cn {p : Pg} {L R : Int32} {F : Int32 × Int32} (hF : sweep p L F = F) : ∀ (n : Nat) (x : Int32 × Int32), itF (sweep p L) n x = F → (∀ c, bt x.1 c = true → cnn p L R F c) → ∀ c, bt F.1 c = true → cnn p L R F c
  | 0, x, e, hc, c, h => by
    have e : x = F := e
    subst e
    exact hc c h
  | n + 1, x, e, hc, c, h => by
    have hx := itF_le (p := p) (L := L) (n + 1) x
    rw [e] at hx
    exact itF_cn hF n (sweep p L x) e (swp_cn hF hx.1 hx.2 hc (nS p) (Nat.le_refl _)) c h
section rfacts
variable {p : Pg} {L R : Int32}
theorem rcX_sub (hw : WB p) (hx : WX p) (hL : upC p L) : sub (nB p) (rcX p L R false).1 ∧ le (rcX p L R false).1 (lbS p L) ∧ le (rcX p L R false).2 L := by
  have hB := hw.1.2.1
  have h1 := itF_inv (f := sweep p L) (fun x => le x.1 (lbS p L) ∧ le x.2 L) (fun x h => swp_lb hw hx hL h.1 h.2 (nS p) (Nat.le_refl _)) 33 (setF (nB p) (fun b => bt R b && bt L (bT p b)), 0) ⟨fun i hi => ?_, fun i hi => ?_⟩
  · have h2 : le (rcX p L R false).1 (lbS p L) ∧ le (rcX p L R false).2 L := h1
    exact ⟨fun i hi => ((bt_lbS hB).mp (h2.1 i hi)).1, h2⟩
  · have := (bt_setF (by omega)).mp hi
    rw [Bool.and_eq_true] at this
    exact (bt_lbS hB).mpr ⟨this.1, this.2.2⟩
  · have hi : bt 0 i = true := hi
    rw [b_0] at hi; cases hi
theorem rcX_fix (hw : WB p) : sweep p L (rcX p L R false) = rcX p L R false := sweep_fix hw L ⟨sub_setF (Nat.le_refl _) (by have := hw.1.2.1; omega), sub_0 _⟩
theorem rcX_cn (hw : WB p) {c : Nat} (h : bt (rcX p L R false).1 c = true) : cnn p L R (rcX p L R false) c := by
  refine itF_cn (rcX_fix hw) 33 (setF (nB p) (fun b => bt R b && bt L (bT p b)), 0) rfl (fun c hc => ⟨0, c, hc, rfl⟩) c h
theorem rt_rc : le (rtS p L R) (rcX p L R false).1 := (itF_le (p := p) (L := L) 33 (setF (nB p) (fun b => bt R b && bt L (bT p b)), 0)).1
/-- the least number of calls from a root to b -/
theorem way_len (hw : WB p) {b : Nat} (hb : b < nB p) (h : bt (rcX p L R false).1 b = true) : ∃ d, d < nB p ∧ (∃ r, bt (rtS p L R) r = true ∧ mn (clB p (rcX p L R false).1 (rcX p L R false).2) b d r) ∧ ∀ j, j < d → ∀ r, bt (rtS p L R) r = true → ¬ wk (clB p (rcX p L R false).1 (rcX p L R false).2) b j r := by
  have hB := hw.1.2.1
  obtain ⟨d0, r0, h1, h2⟩ := rcX_cn hw h
  obtain ⟨d, ⟨r, r1, r2⟩, d2⟩ := pk_least (fun d => ∃ r, bt (rtS p L R) r = true ∧ wk (clB p (rcX p L R false).1 (rcX p L R false).2) b d r) ⟨d0, r0, h1, h2⟩
  have hm : mn (clB p (rcX p L R false).1 (rcX p L R false).2) b d r := ⟨r2, fun j hj hq => d2 j hj ⟨r, r1, hq⟩⟩
  refine ⟨d, ?_, ⟨r, r1, hm⟩, fun j hj r hr hq => d2 j hj ⟨r, hr, hq⟩⟩
  refine mn_lt (fun x => sub_clB hB _ _ x) (fun x hx => ?_) hb hm
  have hs := (rch_sub hw (fun k => if k = 0 then L else R) (sub_0 (nT p))).1
  have hs : sub (nB p) (rcX p L R false).1 := hs
  unfold clB
  rw [if_neg fun q => by have := hs x q; omega]
end rfacts
