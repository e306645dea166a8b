/-- what is reached and made: L loaded, R the roots -/
def rcX (p : Pg) (L R : Int32) (all : Bool) : Int32 × Int32 := itF (sweep p L) 33 (setF (nB p) (fun b => bt R b && bt L (bT p b)), if all then L &&& setF (nT p) (isC p) else 0)
def FV (p : Pg) (all : Bool) (sc : Nat → Int32) (ar : Nat → Nat → Int32) : Prop := (sc 0, sc 1) = rcX p (sc 6) (sc 7) all ∧ ∀ b, b < 20 → ar 2 b = clB p (sc 0) (sc 1) b
def FO (p : Pg) (all : Bool) (sc : Nat → Int32) (ar : Nat → Nat → Int32) : Prop := sc 3 = b2 all ∧ (sc 5 = 0 ∨ sc 5 = 1 ∧ FV p all sc ar)
theorem and_setF {n : Nat} {R : Int32} {q : Nat → Bool} (hn : n ≤ 32) : R &&& setF n q = setF n (fun b => bt R b && q b) := b_ext2 fun i hi => by
  rw [b_and, Bool.and_eq_true, bt_setF hn, bt_setF hn, Bool.and_eq_true]
  constructor
  · rintro ⟨h1, h2, h3⟩; exact ⟨h2, h1, h3⟩
  · rintro ⟨h2, h1, h3⟩; exact ⟨h1, h2, h3⟩
section flow2
variable {g : mG} {h : mH} {sz u fl pl : Nat} {p : Pg} {sc psc : Nat → Int32} {ar par_ : Nat → Nat → Int32} {all : Bool} {L R : Int32}
set_option maxRecDepth 20000 in
set_option maxHeartbeats 1000000 in
theorem w_follow (hA : ∀ sc ar, bAt 3 (blkW 0 h fl sc ar) pl psc par_) (hp : CP p psc par_) (hx : WX p) (hF : FO p all sc ar) : Mt g 3 m_Flow_follow [.ref fl, .ref pl, .int L, .int R] (blkW 0 h fl sc ar) sz u (fun r h' => r = none ∧ ∃ sc' ar', h' = blkW 0 h fl sc' ar' ∧ FO p all sc' ar' ∧ sc' 6 = L ∧ sc' 7 = R ∧ FV p all sc' ar') sz u := by
  have hq := hp.1
  obtain ⟨hT, hB, hS, hC⟩ := hq.1.1
  obtain ⟨h3, h5⟩ := hF
  refine Mt.of m_Flow_follow_w m_Flow_follow_x m_Flow_follow_c rfl rfl (ls := [.ref fl, .ref pl, .int L, .int R]) rfl ?_
  have key : V g 3 m_Flow_follow (fun r h' => r = none ∧ ∃ sc' ar', h' = blkW 0 h fl sc' ar' ∧ FO p all sc' ar' ∧ sc' 6 = L ∧ sc' 7 = R ∧ FV p all sc' ar') sz u 24 [.ref fl, .ref pl, .int L, .int R] [] (blkW 0 h fl sc ar) sz u := by
    refine V_aload_n rfl rfl ?_
    refine V_iconst (v := 1) rfl (by decide) ?_
    first | refine V_pput rfl rfl rfl rfl rfl ?_ | refine V_bput rfl rfl rfl rfl rfl rfl ?_ | refine V_bputZ rfl rfl rfl rfl rfl rfl (by decide) ?_ | refine V_put rfl rfl (by first | assumption | rfl) (by decide) (fun _ hty => by cases hty; exact ⟨rfl, rfl⟩) (by first | exact Or.inl rfl | exact Or.inr ⟨rfl, rfl⟩) rfl ?_
    refine V_aload_n rfl rfl ?_
    refine V_iload_n rfl rfl ?_
    first | refine V_pput rfl rfl rfl rfl rfl ?_ | refine V_bput rfl rfl rfl rfl rfl rfl ?_ | refine V_bputZ rfl rfl rfl rfl rfl rfl (by decide) ?_ | refine V_put rfl rfl (by first | assumption | rfl) (by decide) (fun _ hty => by cases hty; exact ⟨rfl, rfl⟩) (by first | exact Or.inl rfl | exact Or.inr ⟨rfl, rfl⟩) rfl ?_
    refine V_aload_n rfl rfl ?_
    refine V_iload_n rfl rfl ?_
    first | refine V_pput rfl rfl rfl rfl rfl ?_ | refine V_bput rfl rfl rfl rfl rfl rfl ?_ | refine V_bputZ rfl rfl rfl rfl rfl rfl (by decide) ?_ | refine V_put rfl rfl (by first | assumption | rfl) (by decide) (fun _ hty => by cases hty; exact ⟨rfl, rfl⟩) (by first | exact Or.inl rfl | exact Or.inr ⟨rfl, rfl⟩) rfl ?_
    refine V_aload_n rfl rfl ?_
    refine V_aload_n rfl rfl ?_
    refine V_getI rfl rfl blkW_0 (by rfl) pk_us ?_
    refine V_aload_n rfl rfl ?_
    refine V_aload_n rfl rfl ?_
    refine V_getI rfl rfl blkW_0 (by rfl) ((pk_un (by decide)).trans pk_us) ?_
    refine V_callVi rfl rfl m_Plan_bodiesOf_w m_Plan_bodiesOf_x rfl (by decide) rfl (s_boS (by first | assumption | exact hA _ _) (by assumption) _) (by decide) rfl (by first | assumption | exact blkW_0 | exact bAt_0 (by assumption) | exact bAt_0 (hA _ _) | rfl) (Nat.le_of_ble_eq_true rfl) ?_
    refine V_iand rfl ?_
    rw [and_setF (by omega)]
    first | refine V_pput rfl rfl rfl rfl rfl ?_ | refine V_bput rfl rfl rfl rfl rfl rfl ?_ | refine V_bputZ rfl rfl rfl rfl rfl rfl (by decide) ?_ | refine V_put rfl rfl (by first | assumption | rfl) (by decide) (fun _ hty => by cases hty; exact ⟨rfl, rfl⟩) (by first | exact Or.inl rfl | exact Or.inr ⟨rfl, rfl⟩) rfl ?_
    refine V_aload_n rfl rfl ?_
    refine V_aload_n rfl rfl ?_
    refine V_getI rfl rfl blkW_0 (by rfl) ((pk_un (by decide)).trans ((pk_un (by decide)).trans ((pk_un (by decide)).trans ((pk_un (by decide)).trans h3)))) ?_
    have fin : ∀ M0 : Int32, M0 = (if all then L &&& setF (nT p) (isC p) else 0) → V g 3 m_Flow_follow (fun r h' => r = none ∧ ∃ sc' ar', h' = blkW 0 h fl sc' ar' ∧ FO p all sc' ar' ∧ sc' 6 = L ∧ sc' 7 = R ∧ FV p all sc' ar') sz u 80 [.ref fl, .ref pl, .int L, .int R] [] (blkW 0 h fl (upd (upd (upd (upd (upd sc 5 1) 6 L) 7 R) 0 (setF (nB p) fun b => bt R b && bt L (bT p b))) 1 M0) ar) sz u := by
      intro M0 hM
      generalize hs1 : upd (upd (upd (upd (upd sc 5 1) 6 L) 7 R) 0 (setF (nB p) fun b => bt R b && bt L (bT p b))) 1 M0 = s1
      have e0 : s1 0 = setF (nB p) fun b => bt R b && bt L (bT p b) := by rw [← hs1]; exact (pk_un (by decide)).trans pk_us
      have e1 : s1 1 = M0 := by rw [← hs1]; exact pk_us
      have e3 : s1 3 = b2 all := by rw [← hs1]; exact (pk_un (by decide)).trans ((pk_un (by decide)).trans ((pk_un (by decide)).trans ((pk_un (by decide)).trans ((pk_un (by decide)).trans h3))))
      have e5 : s1 5 = 1 := by rw [← hs1]; exact (pk_un (by decide)).trans ((pk_un (by decide)).trans ((pk_un (by decide)).trans ((pk_un (by decide)).trans pk_us)))
      have e6 : s1 6 = L := by rw [← hs1]; exact (pk_un (by decide)).trans ((pk_un (by decide)).trans ((pk_un (by decide)).trans pk_us))
      have e7 : s1 7 = R := by rw [← hs1]; exact (pk_un (by decide)).trans ((pk_un (by decide)).trans pk_us)
      refine V_aload_n rfl rfl ?_
      refine V_aload_n rfl rfl ?_
      refine V_callVn rfl rfl m_Flow_spread_w m_Flow_spread_x rfl (by decide) rfl (w_spread hA hp hx) (by decide) rfl (by first | assumption | exact blkW_0 | exact bAt_0 (by assumption) | exact bAt_0 (hA _ _) | rfl) (Nat.le_of_ble_eq_true rfl) ?_
      refine V_aload_n rfl rfl ?_
      refine V_aload_n rfl rfl ?_
      refine V_callVn rfl rfl m_Flow_link_w m_Flow_link_x rfl (by decide) rfl (w_link hA hp hx) (by decide) rfl (by first | assumption | exact blkW_0 | exact bAt_0 (by assumption) | exact bAt_0 (hA _ _) | rfl) (Nat.le_of_ble_eq_true rfl) ?_
      refine V_return rfl rfl ?_
      have ex : itF (sweep p (s1 6)) 33 (s1 0, s1 1) = rcX p L R all := by
        unfold rcX
        rw [e0, e1, e6, hM]
      have hV : FV p all (fS s1 (itF (sweep p (s1 6)) 33 (s1 0, s1 1))) (va_up ar 2 (lkF p (fS s1 (itF (sweep p (s1 6)) 33 (s1 0, s1 1)) 0) (fS s1 (itF (sweep p (s1 6)) 33 (s1 0, s1 1)) 1) (ar 2) (nS p))) := by
        refine ⟨?_, fun b hb => ?_⟩
        · rw [fS_0, fS_1, fS_o rfl, fS_o rfl, e6, e7, ← ex, e6]
        · rw [va_g]
          unfold lkF
          rw [if_pos hb]
          rfl
      exact ⟨rfl, _, _, rfl, ⟨(fS_o rfl).trans e3, Or.inr ⟨(fS_o rfl).trans e5, hV⟩⟩, (fS_o rfl).trans e6, (fS_o rfl).trans e7, hV⟩
    cases all
    · refine V_if_eqT rfl (rfl) ?_
      refine V_iconst (v := 0) rfl (by decide) ?_
      first | refine V_pput rfl rfl rfl rfl rfl ?_ | refine V_bput rfl rfl rfl rfl rfl rfl ?_ | refine V_bputZ rfl rfl rfl rfl rfl rfl (by decide) ?_ | refine V_put rfl rfl (by first | assumption | rfl) (by decide) (fun _ hty => by cases hty; exact ⟨rfl, rfl⟩) (by first | exact Or.inl rfl | exact Or.inr ⟨rfl, rfl⟩) rfl ?_
      exact fin 0 rfl
    · refine V_if_eqF rfl (by decide) ?_
      refine V_aload_n rfl rfl ?_
      refine V_getI rfl rfl blkW_0 (by rfl) ((pk_un (by decide)).trans ((pk_un (by decide)).trans pk_us)) ?_
      refine V_aload_n rfl rfl ?_
      refine V_getI rfl rfl (by first | assumption | exact blkW_0 | exact bAt_0 (by assumption) | exact bAt_0 (hA _ _) | rfl) (by rfl) (by first | exact cq_cl (by assumption) | rfl) ?_
      refine V_iand rfl ?_
      refine V_goto rfl ?_
      first | refine V_pput rfl rfl rfl rfl rfl ?_ | refine V_bput rfl rfl rfl rfl rfl rfl ?_ | refine V_bputZ rfl rfl rfl rfl rfl rfl (by decide) ?_ | refine V_put rfl rfl (by first | assumption | rfl) (by decide) (fun _ hty => by cases hty; exact ⟨rfl, rfl⟩) (by first | exact Or.inl rfl | exact Or.inr ⟨rfl, rfl⟩) rfl ?_
      exact fin _ rfl
  refine V_aload_n rfl rfl ?_
  refine V_getI rfl rfl (by first | assumption | exact blkW_0 | exact bAt_0 (by assumption) | exact bAt_0 (hA _ _) | rfl) (by rfl) (by first | rfl) ?_
  rcases h5 with h5 | ⟨h5, hV⟩
  · refine V_if_eqT rfl (h5) ?_
    exact key
  · refine V_if_eqF rfl (by rw [h5]; decide) ?_
    refine V_aload_n rfl rfl ?_
    refine V_getI rfl rfl (by first | assumption | exact blkW_0 | exact bAt_0 (by assumption) | exact bAt_0 (hA _ _) | rfl) (by rfl) (by first | exact fS_o rfl | rfl) ?_
    refine V_iload_n rfl rfl ?_
    by_cases e6 : sc 6 = L
    · refine V_icmp_neF rfl (e6) ?_
      refine V_aload_n rfl rfl ?_
      refine V_getI rfl rfl (by first | assumption | exact blkW_0 | exact bAt_0 (by assumption) | exact bAt_0 (hA _ _) | rfl) (by rfl) (by first | exact fS_o rfl | rfl) ?_
      refine V_iload_n rfl rfl ?_
      by_cases e7 : sc 7 = R
      · refine V_icmp_neF rfl (e7) ?_
        refine V_return rfl rfl ?_
        exact ⟨rfl, sc, ar, rfl, ⟨h3, Or.inr ⟨h5, hV⟩⟩, e6, e7, hV⟩
      · refine V_icmp_neT rfl (e7) ?_
        exact key
    · refine V_icmp_neT rfl (e6) ?_
      exact key
end flow2
/-! ===== walks: from x by d calls to b ===== -/
def wk (G : Nat → Int32) (b : Nat) : Nat → Nat → Prop
  | 0, x => x = b
  | d + 1, x => ∃ y, bt (G x) y = true ∧ wk G b d y
def mn (G : Nat → Int32) (b d x : Nat) : Prop := wk G b d x ∧ ∀ j, j < d → ¬ wk G b j x
theorem wk_snoc {G : Nat → Int32} {b c : Nat} : ∀ {d x : Nat}, wk G c d x → bt (G c) b = true → wk G b (d + 1) x
  | 0, x, h, hb => by
    have h : x = c := h
    subst h
    exact ⟨b, hb, rfl⟩
  | d + 1, x, h, hb => by
    obtain ⟨y, h1, h2⟩ := h
    exact ⟨y, h1, wk_snoc h2 hb⟩
theorem wk_min {G : Nat → Int32} {b : Nat} : ∀ {d x : Nat}, wk G b d x → ∃ j, j ≤ d ∧ mn G b j x := by
  intro d x h
  obtain ⟨j, h1, h2⟩ := pk_least (fun j => wk G b j x) ⟨d, h⟩
  refine ⟨j, ?_, h1, h2⟩
  rcases Nat.lt_or_ge d j with q | q
  · exact absurd h (h2 d q)
  · exact q
theorem mn_step {G : Nat → Int32} {b d x : Nat} (h : mn G b (d + 1) x) {y : Nat} (hy : bt (G x) y = true) : wk G b d y ↔ mn G b d y := by
  refine ⟨fun q => ⟨q, fun j hj hw => h.2 (j + 1) (by omega) ⟨y, hy, hw⟩⟩, fun q => q.1⟩
theorem mn_one {G : Nat → Int32} {b d e x : Nat} (h1 : mn G b d x) (h2 : mn G b e x) : d = e := by
  rcases Nat.lt_trichotomy d e with q | q | q
  · exact absurd h1.1 (h2.2 d q)
  · exact q
  · exact absurd h2.1 (h1.2 e q)
theorem mn_down {G : Nat → Int32} {b d x : Nat} (h : mn G b d x) : ∀ k, k ≤ d → ∃ y, mn G b (d - k) y
  | 0, _ => ⟨x, h⟩
  | k + 1, hk => by
    obtain ⟨y, hy⟩ := mn_down h k (by omega)
    rw [show d - k = d - (k + 1) + 1 by omega] at hy
    obtain ⟨z, z1, z2⟩ := hy.1
    exact ⟨z, (mn_step hy z1).mp z2⟩
theorem mn_lt {G : Nat → Int32} {b n d x : Nat} (hG : ∀ x, sub n (G x)) (hG0 : ∀ x, n ≤ x → G x = 0) (hb : b < n) (h : mn G b d x) : d < n := by
  have hv : ∀ j y, mn G b j y → y < n := fun j y hy => by
    rcases Nat.lt_or_ge y n with q | q
    · exact q
    · cases j with
      | zero => have : y = b := hy.1; omega
      | succ j =>
        obtain ⟨z, z1, -⟩ := hy.1
        rw [hG0 y q, b_0] at z1
        cases z1
  have he : ∀ j, j ≤ d → ∃ y, mn G b j y := fun j hj => by
    obtain ⟨y, hy⟩ := mn_down h (d - j) (by omega)
    rw [show d - (d - j) = j by omega] at hy
    exact ⟨y, hy⟩
  have := fb_holes n (d + 1) (fun j => if hj : j ≤ d then (he j hj).choose else 0) (fun i hi => by
    rw [dif_pos (show i ≤ d by omega)]
    exact hv _ _ (he i (by omega)).choose_spec) (fun i j hij hj e => by
    rw [dif_pos (show i ≤ d by omega), dif_pos (show j ≤ d by omega)] at e
    have h1 := (he i (by omega)).choose_spec
    have h2 := (he j (by omega)).choose_spec
    rw [e] at h1
    have := mn_one h1 h2
    omega)
  omega
/-- the reference's rounds -/
theorem lay_spec {p : Pg} {R S : Int32} {b : Nat} (hB : nB p ≤ 20) : ∀ n, n ≤ 20 → ∀ x k, k ≤ n → (lay p R S b n x = nI k ↔ mn (clB p R S) b k x)
  | 0, _, x, k, hk => by
    have : k = 0 := by omega
    subst this
    unfold lay
    constructor
    · intro h
      by_cases e : x = b
      · exact ⟨e, fun j hj => by omega⟩
      · rw [if_neg e] at h
        exact absurd h (by decide)
    · intro h
      have : x = b := h.1
      rw [if_pos this]; rfl
  | n + 1, hn, x, k, hk => by
    have ih := lay_spec (p := p) (R := R) (S := S) (b := b) hB n (by omega)
    have h1000 : ∀ j, j ≤ 20 → ¬ (1000 : Int32) = nI j := fun j hj q => by have := (nI_eq (a := 1000) (by decide) (by omega)).mp q; omega
    rw [lay_s]
    by_cases hc : (decide (lay p R S b n x = 1000) && anyF (nB p) fun y => bt (clB p R S x) y && decide (lay p R S b n y = nI n)) = true
    · rw [if_pos hc]
      rw [Bool.and_eq_true, decide_eq_true_eq] at hc
      obtain ⟨c1, c2⟩ := hc
      have hany : ∀ {m : Nat} {q : Nat → Bool}, anyF m q = true → ∃ y, y < m ∧ q y = true := by
        intro m q
        induction m with
        | zero => intro h; cases h
        | succ m ihm =>
          intro h
          rw [anyF_s, Bool.or_eq_true] at h
          rcases h with h | h
          · obtain ⟨y, y1, y2⟩ := ihm h
            exact ⟨y, by omega, y2⟩
          · exact ⟨m, by omega, h⟩
      obtain ⟨y, y1, y2⟩ := hany c2
      rw [Bool.and_eq_true, decide_eq_true_eq] at y2
      have hno : ∀ j, j ≤ n → ¬ mn (clB p R S) b j x := fun j hj hm => by
        have := (ih x j hj).mpr hm
        rw [c1] at this
        exact h1000 j (by omega) this
      have hw : wk (clB p R S) b (n + 1) x := ⟨y, y2.1, ((ih y n (Nat.le_refl _)).mp y2.2).1⟩
      have hm : mn (clB p R S) b (n + 1) x := by
        refine ⟨hw, fun j hj hq => ?_⟩
        obtain ⟨i, i1, i2⟩ := wk_min hq
        exact hno i (by omega) i2
      constructor
      · intro h
        have : n + 1 = k := (nI_eq (by omega) (by omega)).mp h
        subst this
        exact hm
      · intro h
        rw [mn_one hm h]
    · rw [if_neg hc]
      by_cases ek : k = n + 1
      · subst ek
        constructor
        · intro h
          rcases lay_is p R S b n x with q | ⟨j, j1, j2⟩
          · rw [q] at h; exact absurd h (h1000 _ (by omega))
          · rw [j2] at h
            have := (nI_eq (by omega) (by omega)).mp h
            omega
        · intro h
          exfalso
          apply hc
          rw [Bool.and_eq_true, decide_eq_true_eq]
          refine ⟨?_, ?_⟩
          · rcases lay_is p R S b n x with q | ⟨j, j1, j2⟩
            · exact q
            · have := (ih x j j1).mp j2
              have := mn_one this h
              omega
          · obtain ⟨y, y1, y2⟩ := h.1
            have hy := (ih y n (Nat.le_refl _)).mpr ((mn_step h y1).mp y2)
            have hyB := sub_clB hB R S x y y1
            have hany : ∀ {m : Nat} {q : Nat → Bool}, y < m → q y = true → anyF m q = true := by
              intro m q
              induction m with
              | zero => intro h; omega
              | succ m ihm =>
                intro h hq
                rw [anyF_s, Bool.or_eq_true]
                by_cases e : y = m
                · rw [← e]; exact Or.inr hq
                · exact Or.inl (ihm (by omega) hq)
            exact hany hyB (by rw [y1, decide_eq_true hy]; rfl)
      · exact ih x k (by omega)
