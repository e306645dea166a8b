/-- the whole text; k: how many clauses at most -/
def pAll (T : Nat → Int32) (n : Nat) : Nat → Pg → Nat → Rs Pg
  | 0, p, _ => .inr p
  | k + 1, p, a => if hv T n a < 0 then .inr p else match pClause p T n a with
    | .inl x => .inl x
    | .inr z => pAll T n k z.1 z.2
theorem skp_id {T : Nat → Int32} {n a : Nat} : skp T n (skp T n a) = skp T n a := by
  have hle := fa_first_le (fun i => !decide (T (skp T n a + i) = 32)) (n - skp T n a)
  have e : skp T n (skp T n a) = skp T n a + fa_first (fun i => !decide (T (skp T n a + i) = 32)) (n - skp T n a) := rfl
  rw [e]
  rcases Nat.eq_zero_or_pos (fa_first (fun i => !decide (T (skp T n a + i) = 32)) (n - skp T n a)) with z | z
  · rw [z, Nat.add_zero]
  · have hno := fa_first_no (fun i => !decide (T (skp T n a + i) = 32)) (n - skp T n a) 0 z
    have hno : (!decide (T (skp T n a) = 32)) = false := hno
    have e2 : skp T n a = a + fa_first (fun i => !decide (T (a + i) = 32)) (n - a) := rfl
    have hy := fa_first_yes (fun i => !decide (T (a + i) = 32)) (n - a) (by omega)
    have hy : (!decide (T (a + fa_first (fun i => !decide (T (a + i) = 32)) (n - a)) = 32)) = true := hy
    rw [← e2, hno] at hy
    cases hy
theorem pClause_skp {p : Pg} {T : Nat → Int32} {n a : Nat} : pClause p T n (skp T n a) = pClause p T n a := by
  unfold pClause hv
  rw [skp_id]
section mprog
variable {g : mG} {h : mH} {sz u md : Nat} {sc : Nat → Int32} {ar : Nat → Nat → Int32}
set_option maxRecDepth 20000 in
set_option maxHeartbeats 1000000 in
theorem e_progLoop {n : Nat} {P : Option Value → mH → Prop} (h17 : sc 17 = nI n ∧ n ≤ 240) (k : Nat) : ∀ (p : Pg) (a : Nat) (f : Nat → Int32) (q : Nat → Nat → Int32) (x y : Int32), n < a + k → a ≤ n → RD p f q → WR p →
    (∀ (j s : Nat) (f1 : Nat → Int32) (q1 : Nat → Nat → Int32), pAll (ar 16) n k p a = .inl (j, s) → 1 ≤ j ∧ j ≤ 4 → f1 18 = nI s → V g 6 m_MD_program P sz u 46 [.ref md, .int (nI j)] [] (blkW 7 h md (psS sc f1) (arS ar q1)) sz u) →
    (∀ (p2 : Pg) (f1 : Nat → Int32) (q1 : Nat → Nat → Int32), pAll (ar 16) n k p a = .inr p2 → RD p2 f1 q1 → WR p2 → V g 6 m_MD_program P sz u 46 [.ref md, .int 0] [] (blkW 7 h md (psS sc f1) (arS ar q1)) sz u) →
    V g 6 m_MD_program P sz u 27 [.ref md, .int 0] [] (blkW 7 h md (psS sc (pF f (nI a) x y)) (arS ar q)) sz u := by
  have hn := h17.2
  induction k with
  | zero => intro p a f q x y h1 h2; omega
  | succ k ih =>
    intro p a f q x y h1 h2 hr hw kno kok
    have hpe : pAll (ar 16) n (k + 1) p a = if hv (ar 16) n a < 0 then .inr p else match pClause p (ar 16) n a with
      | .inl x => .inl x
      | .inr z => pAll (ar 16) n k z.1 z.2 := rfl
    have ha : a < 2 ^ 30 := by omega
    have hsb := skp_b (T := ar 16) ha hn
    refine V_iload_n rfl rfl ?_
    refine V_if_neF rfl (rfl) ?_
    refine V_aload_n rfl rfl ?_
    refine V_callVi rfl rfl m_MD_here_w m_MD_here_x rfl (by decide) rfl (w_here2 (by assumption) (by first | omega | assumption)) (by decide) rfl (by first | assumption | exact blkW_0 | exact bAt_0 (by assumption) | rfl) (Nat.le_of_ble_eq_true rfl) ?_
    by_cases hc : hv (ar 16) n a < 0
    · rw [if_pos hc] at hpe
      refine V_if_ltT rfl (hc) ?_
      exact kok p _ _ hpe (RD_f hr (pF_o rfl) (pF_o rfl) (pF_o rfl) (pF_o rfl)) hw
    · rw [if_neg hc] at hpe
      refine V_if_ltF rfl (hc) ?_
      refine V_aload_n rfl rfl ?_
      refine V_callV rfl rfl m_MD_takeClause_w m_MD_takeClause_x rfl (by decide) rfl (w_takeClause h17 hsb hr hw) (by decide) rfl (by first | assumption | exact blkW_0 | exact bAt_0 (by assumption) | rfl) (Nat.le_of_ble_eq_true rfl) (by first | exact Nat.le_refl _ | omega | decide) (by first | exact Nat.le_refl _ | omega | decide) (fun r hh1 hP => ?_)
      rw [pClause_skp] at hP
      generalize hN : pClause p (ar 16) n a = z at hP hpe
      rcases z with ⟨j, s⟩ | ⟨p2, e⟩
      · obtain ⟨hj, rfl, f1, q1, rfl, h18, -⟩ := hP
        refine V_is1 rfl (by first | rfl | assumption) ?_
        refine V_goto rfl ?_
        refine V_iload_n rfl rfl ?_
        refine V_if_neT rfl ((nk_pos hj).2.1) ?_
        exact kno j s _ _ hpe hj h18
      · obtain ⟨rfl, f1, q1, rfl, h19, hr2⟩ := hP
        obtain ⟨o1, o2, o3⟩ := pClause_ok hN ha hn hw
        rw [show psS sc f1 = psS sc (pF f1 (nI e) (f1 20) (f1 21)) from congrArg (psS sc) (pF_self h19)]
        refine V_is1 rfl (by first | rfl | assumption) ?_
        refine V_goto rfl ?_
        exact ih p2 e f1 q1 _ _ (by omega) o2 hr2 o3 (fun j s f3 q3 e3 => kno j s f3 q3 (hpe.trans e3)) (fun p3 f3 q3 e3 => kok p3 f3 q3 (hpe.trans e3))
end mprog
