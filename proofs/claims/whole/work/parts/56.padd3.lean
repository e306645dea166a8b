def w5 (ar : Nat → Nat → Int32) (s : Nat) (a b c d : Int32) : Nat → Nat → Int32 := fun k j => if j = s then (if k = 11 then a else if k = 12 then b else if k = 13 then c else if k = 14 then d else ar k j) else ar k j
section w5s
variable {ar : Nat → Nat → Int32} {s : Nat} {a b c d v : Int32}
theorem w5_i : ar = w5 ar s (ar 11 s) (ar 12 s) (ar 13 s) (ar 14 s) := by
  funext k j
  unfold w5
  by_cases e : j = s
  · subst e
    by_cases e5 : k = 11
    · simp [e5]
    · by_cases e6 : k = 12
      · simp [e6]
      · by_cases e7 : k = 13
        · simp [e7]
        · by_cases e8 : k = 14
          · simp [e8]
          · simp [e5, e6, e7, e8]
  · simp [e]
theorem w5_u1 : va_up (w5 ar s a b c d) 11 (upd (w5 ar s a b c d 11) s v) = w5 ar s v b c d := by
  funext k j
  unfold w5 va_up upd
  by_cases e : k = 11
  · subst e; by_cases e2 : j = s <;> simp [e2]
  · simp [e]
theorem w5_u2 : va_up (w5 ar s a b c d) 12 (upd (w5 ar s a b c d 12) s v) = w5 ar s a v c d := by
  funext k j
  unfold w5 va_up upd
  by_cases e : k = 12
  · subst e; by_cases e2 : j = s <;> simp [e2]
  · simp [e]
theorem w5_u3 : va_up (w5 ar s a b c d) 13 (upd (w5 ar s a b c d 13) s v) = w5 ar s a b v d := by
  funext k j
  unfold w5 va_up upd
  by_cases e : k = 13
  · subst e; by_cases e2 : j = s <;> simp [e2]
  · simp [e]
theorem w5_u4 : va_up (w5 ar s a b c d) 14 (upd (w5 ar s a b c d 14) s v) = w5 ar s a b c v := by
  funext k j
  unfold w5 va_up upd
  by_cases e : k = 14
  · subst e; by_cases e2 : j = s <;> simp [e2]
  · simp [e]
theorem w5_k {k : Nat} (h : (Nat.beq k 11 || Nat.beq k 12 || Nat.beq k 13 || Nat.beq k 14) = false) : w5 ar s a b c d k = ar k := by
  simp only [Bool.or_eq_false_iff] at h
  have e : ∀ {j : Nat}, Nat.beq k j = false → k ≠ j := fun {j} hj q => by rw [q, show Nat.beq j j = true from Nat.beq_refl j] at hj; cases hj
  funext j
  unfold w5
  rw [if_neg (e h.1.1.1), if_neg (e h.1.1.2), if_neg (e h.1.2), if_neg (e h.2), ite_self]
end w5s
theorem CQ_addS {p : Pg} {sc sc2 : Nat → Int32} {ar : Nat → Nat → Int32} {k b t m : Nat} {tt mm : Int32} {r15 : Nat → Int32} (hq : CQ (fin p) sc ar) (hw2 : WR (addS p k b t m)) (htt : tt = if k = 2 then par p (bT p b) else nI t) (hmm : mm = if k = 0 then -1 else nI m) (s0 : sc2 0 = sc 0) (s1 : sc2 1 = sc 1) (s2 : sc2 2 = sc 2) (s3 : sc2 3 = nI (nS p + 1)) (s4 : sc2 4 = nI (if k = 1 then cnS p (nS p) + 1 else cnS p (nS p))) (h15 : ∀ j, j < cnS p (nS p) → r15 j = ar 15 j) (h15b : k = 1 → r15 (cnS p (nS p)) = nI (nS p)) : CQ (fin (addS p k b t m)) sc2 (va_up (w5 ar (nS p) (nI k) (nI b) tt mm) 15 r15) := by
  have hk : ∀ x j, x ≠ 15 → va_up (w5 ar (nS p) (nI k) (nI b) tt mm) 15 r15 x j = w5 ar (nS p) (nI k) (nI b) tt mm x j := fun x j h => va_n h
  obtain ⟨q1, q2, q3, q4, q5, q6, q7⟩ := hq
  have hab : ∀ x, abF (addS p k b t m) x = abF p x := fun x => abF_c (p := addS p k b t m) (q := p) (n := x + 1) (fun _ _ _ => rfl) x (by omega)
  have hdp : ∀ x, dpF (addS p k b t m) x = dpF p x := fun x => dpF_c (p := addS p k b t m) (q := p) (n := x + 1) (fun _ _ _ => rfl) x (by omega)
  have hsk : ∀ s, s < nS p → sK (addS p k b t m) s = sK p s := fun s hs => by
    show (if s = nS p then k else sK p s) = _
    rw [if_neg (by omega)]
  have hskn : sK (addS p k b t m) (nS p) = k := by
    show (if nS p = nS p then k else sK p (nS p)) = _
    rw [if_pos rfl]
  have hcn : cnS (addS p k b t m) (nS p) = cnS p (nS p) := cnS_c hsk
  have hcn1 : cnS (addS p k b t m) (nS p + 1) = if k = 1 then cnS p (nS p) + 1 else cnS p (nS p) := by
    show (if sK (addS p k b t m) (nS p) = 1 then cnS (addS p k b t m) (nS p) + 1 else cnS (addS p k b t m) (nS p)) = _
    rw [hskn, hcn]
  refine ⟨fin_WB hw2, ⟨s0.trans q2.1, s1.trans q2.2.1, s2.trans q2.2.2.1, s3, s4.trans (show _ = nI (cnS (addS p k b t m) (nS p + 1)) by rw [hcn1])⟩, fun x hx => ?_, fun x hx => ?_, fun s hs => ?_, fun x hx => ?_, fun x y hx hy => ?_⟩
  · rw [hk _ _ (by decide), hk _ _ (by decide), hk _ _ (by decide), hk _ _ (by decide), w5_k rfl, w5_k rfl, w5_k rfl, w5_k rfl]
    obtain ⟨a1, a2, a3, a4⟩ := q3 x hx
    refine ⟨a1, a2.trans (hab x).symm, a3.trans ?_, a4.trans (hdp x).symm⟩
    show setF (nT p) (fun y => bt (abF p y) x) = setF (nT p) (fun y => bt (abF (addS p k b t m) y) x)
    exact setF_cong fun k hk => by rw [hab]
  · rw [hk _ _ (by decide), hk _ _ (by decide), w5_k rfl, w5_k rfl]
    exact q4 x hx
  · have hs : s < nS p + 1 := hs
    rw [hk _ _ (by decide), hk _ _ (by decide), hk _ _ (by decide), hk _ _ (by decide)]
    unfold w5
    show _ = nI (if s = nS p then k else sK p s) ∧ _ = nI (if s = nS p then b else sB p s) ∧ _ = (if (if s = nS p then k else sK p s) = 2 then par p (bT p (if s = nS p then b else sB p s)) else nI (if s = nS p then t else sT p s)) ∧ _ = (if (if s = nS p then k else sK p s) = 0 then -1 else nI (if s = nS p then m else sM p s))
    by_cases e : s = nS p
    · simp only [if_pos e]
      exact ⟨rfl, rfl, htt, hmm⟩
    · simp only [if_neg e]
      exact q5 s (show s < nS p by omega)
  · have hx : x < cnS (addS p k b t m) (nS p + 1) := hx
    rw [hcn1] at hx
    rw [va_g]
    show _ = nI (csF (addS p k b t m) (nS p + 1) x)
    have ecs : csF (addS p k b t m) (nS p + 1) x = if sK (addS p k b t m) (nS p) = 1 ∧ x = cnS (addS p k b t m) (nS p) then nS p else csF (addS p k b t m) (nS p) x := rfl
    rw [ecs, hskn, hcn, csF_c (p := addS p k b t m) (q := p) hsk]
    by_cases e : k = 1 ∧ x = cnS p (nS p)
    · rw [if_pos e, e.2]
      exact h15b e.1
    · have hlt : x < cnS p (nS p) := by
        by_cases e1 : k = 1
        · rw [if_pos e1] at hx
          have : ¬ x = cnS p (nS p) := fun z => e ⟨e1, z⟩
          omega
        · rw [if_neg e1] at hx; exact hx
      rw [if_neg e, h15 x hlt]
      exact q6 x hlt
  · rw [hk _ _ (by decide), w5_k rfl]
    exact q7 x y hx hy
section padd3
variable {g : mG} {h : mH} {sz u pl : Nat} {p : Pg} {sc : Nat → Int32} {ar : Nat → Nat → Int32}
set_option maxRecDepth 20000 in
set_option maxHeartbeats 1000000 in
theorem w_addStep (hq : CQ (fin p) sc ar) {k b t m : Nat} {tt mm : Int32} (hw2 : WR (addS p k b t m)) (hk : k < 3) (htt : tt = if k = 2 then par p (bT p b) else nI t) (hmm : mm = if k = 0 then -1 else nI m) : Mt g 0 m_Plan_addStep [.ref pl, .int (nI k), .int (nI b), .int tt, .int mm] (blkW 3 h pl sc ar) sz u (fun r h' => r = none ∧ ∃ sc' ar', h' = blkW 3 h pl sc' ar' ∧ CQ (fin (addS p k b t m)) sc' ar') sz u := by
  have hS : nS p + 1 ≤ 24 := hw2.1.2.2
  have h3 : sc 3 = nI (nS p) := cq_nS (p := fin p) hq
  have h4 : sc 4 = nI (cnS p (nS p)) := cq_nC (p := fin p) hq
  have hc := cnS_le p (nS p)
  refine Mt.of m_Plan_addStep_w m_Plan_addStep_x m_Plan_addStep_c rfl rfl (ls := [.ref pl, .int (nI k), .int (nI b), .int tt, .int mm]) rfl ?_
  rw [show blkW 3 h pl sc ar = blkW 3 h pl sc (w5 ar (nS p) (ar 11 (nS p)) (ar 12 (nS p)) (ar 13 (nS p)) (ar 14 (nS p))) from congrArg _ w5_i]
  refine V_aload_n rfl rfl ?_
  refine V_getI rfl rfl blkW_0 (by rfl) h3 ?_
  refine V_bipush (v := 24) rfl (by decide) ?_
  refine V_icmp_geF rfl (nI_ge (b := 24) (by omega) (by decide)) ?_
  refine V_aload_n rfl rfl ?_
  refine V_getI rfl rfl blkW_0 (by rfl) h4 ?_
  refine V_bipush (v := 24) rfl (by decide) ?_
  refine V_icmp_ltT rfl (nI_lt (b := 24) (by omega) (by decide)) ?_
  refine V_aload_n rfl rfl ?_
  refine V_getfield rfl rfl (by first | assumption | exact blkW_0 | exact bAt_0 (by assumption) | exact bAt_0 (hA _ _) | rfl) (by rfl) ?_
  refine V_aload_n rfl rfl ?_
  refine V_getI rfl rfl blkW_0 (by rfl) h3 ?_
  refine V_iload_n rfl rfl ?_
  first | refine V_past rfl rfl rfl rfl (by first | with_reducible rfl | exact nI_add 2 _ | exact nI_add 26 _ | exact ix45 _ _ | exact ixm45 _ | exact ix25 _ | exact fa_lit _ | assumption) (by first | omega | assumption | decide) (by first | decide | omega | assumption) ?_ | refine V_bast rfl rfl rfl (by first | with_reducible rfl | exact nI_add 2 _ | exact nI_add 26 _ | exact ix45 _ _ | exact ixm45 _ | exact ix25 _ | exact fa_lit _ | assumption) (by first | omega | assumption | decide) (by first | decide | omega | assumption) ?_ | refine V_iastore rfl (by first | assumption | exact blkW_i rfl rfl | exact blkW_z rfl rfl | exact bAt_i (by assumption) rfl rfl | exact bAt_z (by assumption) rfl rfl | rfl) (by first | with_reducible rfl | exact nI_add 2 _ | exact nI_add 26 _ | exact ix45 _ _ | exact ixm45 _ | exact ix25 _ | exact fa_lit _ | assumption) (by first | omega | assumption | decide) (by first | decide | omega | assumption) ?_
  rw [w5_u1]
  refine V_aload_n rfl rfl ?_
  refine V_getfield rfl rfl (by first | assumption | exact blkW_0 | exact bAt_0 (by assumption) | exact bAt_0 (hA _ _) | rfl) (by rfl) ?_
  refine V_aload_n rfl rfl ?_
  refine V_getI rfl rfl blkW_0 (by rfl) h3 ?_
  refine V_iload_n rfl rfl ?_
  first | refine V_past rfl rfl rfl rfl (by first | with_reducible rfl | exact nI_add 2 _ | exact nI_add 26 _ | exact ix45 _ _ | exact ixm45 _ | exact ix25 _ | exact fa_lit _ | assumption) (by first | omega | assumption | decide) (by first | decide | omega | assumption) ?_ | refine V_bast rfl rfl rfl (by first | with_reducible rfl | exact nI_add 2 _ | exact nI_add 26 _ | exact ix45 _ _ | exact ixm45 _ | exact ix25 _ | exact fa_lit _ | assumption) (by first | omega | assumption | decide) (by first | decide | omega | assumption) ?_ | refine V_iastore rfl (by first | assumption | exact blkW_i rfl rfl | exact blkW_z rfl rfl | exact bAt_i (by assumption) rfl rfl | exact bAt_z (by assumption) rfl rfl | rfl) (by first | with_reducible rfl | exact nI_add 2 _ | exact nI_add 26 _ | exact ix45 _ _ | exact ixm45 _ | exact ix25 _ | exact fa_lit _ | assumption) (by first | omega | assumption | decide) (by first | decide | omega | assumption) ?_
  rw [w5_u2]
  refine V_aload_n rfl rfl ?_
  refine V_getfield rfl rfl (by first | assumption | exact blkW_0 | exact bAt_0 (by assumption) | exact bAt_0 (hA _ _) | rfl) (by rfl) ?_
  refine V_aload_n rfl rfl ?_
  refine V_getI rfl rfl blkW_0 (by rfl) h3 ?_
  refine V_iload_n rfl rfl ?_
  first | refine V_past rfl rfl rfl rfl (by first | with_reducible rfl | exact nI_add 2 _ | exact nI_add 26 _ | exact ix45 _ _ | exact ixm45 _ | exact ix25 _ | exact fa_lit _ | assumption) (by first | omega | assumption | decide) (by first | decide | omega | assumption) ?_ | refine V_bast rfl rfl rfl (by first | with_reducible rfl | exact nI_add 2 _ | exact nI_add 26 _ | exact ix45 _ _ | exact ixm45 _ | exact ix25 _ | exact fa_lit _ | assumption) (by first | omega | assumption | decide) (by first | decide | omega | assumption) ?_ | refine V_iastore rfl (by first | assumption | exact blkW_i rfl rfl | exact blkW_z rfl rfl | exact bAt_i (by assumption) rfl rfl | exact bAt_z (by assumption) rfl rfl | rfl) (by first | with_reducible rfl | exact nI_add 2 _ | exact nI_add 26 _ | exact ix45 _ _ | exact ixm45 _ | exact ix25 _ | exact fa_lit _ | assumption) (by first | omega | assumption | decide) (by first | decide | omega | assumption) ?_
  rw [w5_u3]
  refine V_aload_n rfl rfl ?_
  refine V_getfield rfl rfl (by first | assumption | exact blkW_0 | exact bAt_0 (by assumption) | exact bAt_0 (hA _ _) | rfl) (by rfl) ?_
  refine V_aload_n rfl rfl ?_
  refine V_getI rfl rfl blkW_0 (by rfl) h3 ?_
  refine V_iload rfl rfl ?_
  first | refine V_past rfl rfl rfl rfl (by first | with_reducible rfl | exact nI_add 2 _ | exact nI_add 26 _ | exact ix45 _ _ | exact ixm45 _ | exact ix25 _ | exact fa_lit _ | assumption) (by first | omega | assumption | decide) (by first | decide | omega | assumption) ?_ | refine V_bast rfl rfl rfl (by first | with_reducible rfl | exact nI_add 2 _ | exact nI_add 26 _ | exact ix45 _ _ | exact ixm45 _ | exact ix25 _ | exact fa_lit _ | assumption) (by first | omega | assumption | decide) (by first | decide | omega | assumption) ?_ | refine V_iastore rfl (by first | assumption | exact blkW_i rfl rfl | exact blkW_z rfl rfl | exact bAt_i (by assumption) rfl rfl | exact bAt_z (by assumption) rfl rfl | rfl) (by first | with_reducible rfl | exact nI_add 2 _ | exact nI_add 26 _ | exact ix45 _ _ | exact ixm45 _ | exact ix25 _ | exact fa_lit _ | assumption) (by first | omega | assumption | decide) (by first | decide | omega | assumption) ?_
  rw [w5_u4]
  refine V_iload_n rfl rfl ?_
  refine V_iconst (v := 1) rfl (by decide) ?_
  by_cases e : k = 1
  · refine V_icmp_neF rfl (by rw [e]; rfl) ?_
    refine V_aload_n rfl rfl ?_
    refine V_getfield rfl rfl (by first | assumption | exact blkW_0 | exact bAt_0 (by assumption) | exact bAt_0 (hA _ _) | rfl) (by rfl) ?_
    refine V_aload_n rfl rfl ?_
    refine V_getI rfl rfl blkW_0 (by rfl) h4 ?_
    refine V_aload_n rfl rfl ?_
    refine V_getI rfl rfl blkW_0 (by rfl) h3 ?_
    first | refine V_past rfl rfl rfl rfl (by first | with_reducible rfl | exact nI_add 2 _ | exact nI_add 26 _ | exact ix45 _ _ | exact ixm45 _ | exact ix25 _ | exact fa_lit _ | assumption) (by first | omega | assumption | decide) (by first | decide | omega | assumption) ?_ | refine V_bast rfl rfl rfl (by first | with_reducible rfl | exact nI_add 2 _ | exact nI_add 26 _ | exact ix45 _ _ | exact ixm45 _ | exact ix25 _ | exact fa_lit _ | assumption) (by first | omega | assumption | decide) (by first | decide | omega | assumption) ?_ | refine V_iastore rfl (by first | assumption | exact blkW_i rfl rfl | exact blkW_z rfl rfl | exact bAt_i (by assumption) rfl rfl | exact bAt_z (by assumption) rfl rfl | rfl) (by first | with_reducible rfl | exact nI_add 2 _ | exact nI_add 26 _ | exact ix45 _ _ | exact ixm45 _ | exact ix25 _ | exact fa_lit _ | assumption) (by first | omega | assumption | decide) (by first | decide | omega | assumption) ?_
    refine V_aload_n rfl rfl ?_
    refine V_dup rfl rfl ?_
    refine V_getI rfl rfl blkW_0 (by rfl) h4 ?_
    refine V_iconst (v := 1) rfl (by decide) ?_
    refine V_iadd rfl ?_
    first | refine V_pput rfl rfl rfl rfl rfl ?_ | refine V_bput rfl rfl rfl rfl rfl rfl ?_ | refine V_bputZ rfl rfl rfl rfl rfl rfl (by decide) ?_ | refine V_put rfl rfl (by first | assumption | rfl) (by decide) (fun _ hty => by cases hty; exact ⟨rfl, rfl⟩) (by first | exact Or.inl rfl | exact Or.inr ⟨rfl, rfl⟩) rfl ?_
    refine V_aload_n rfl rfl ?_
    refine V_dup rfl rfl ?_
    refine V_getI rfl rfl blkW_0 (by rfl) ((pk_un (by decide)).trans h3) ?_
    refine V_iconst (v := 1) rfl (by decide) ?_
    refine V_iadd rfl ?_
    first | refine V_pput rfl rfl rfl rfl rfl ?_ | refine V_bput rfl rfl rfl rfl rfl rfl ?_ | refine V_bputZ rfl rfl rfl rfl rfl rfl (by decide) ?_ | refine V_put rfl rfl (by first | assumption | rfl) (by decide) (fun _ hty => by cases hty; exact ⟨rfl, rfl⟩) (by first | exact Or.inl rfl | exact Or.inr ⟨rfl, rfl⟩) rfl ?_
    refine V_return rfl rfl ?_
    refine ⟨rfl, _, _, rfl, CQ_addS hq hw2 htt hmm ((pk_un (by decide)).trans (pk_un (by decide))) ((pk_un (by decide)).trans (pk_un (by decide))) ((pk_un (by decide)).trans (pk_un (by decide))) (pk_us.trans (nI_1 _)) ?_ ?_ ?_⟩
    · rw [pk_un (by decide), pk_us, if_pos e]; exact nI_1 _
    · intro j hj
      rw [pk_un (by omega), w5_k rfl]
    · intro _
      rw [pk_us]
  · refine V_icmp_neT rfl (fun z => e ((nI_eq (b := 1) (by omega) (by decide)).mp z)) ?_
    refine V_aload_n rfl rfl ?_
    refine V_dup rfl rfl ?_
    refine V_getI rfl rfl blkW_0 (by rfl) h3 ?_
    refine V_iconst (v := 1) rfl (by decide) ?_
    refine V_iadd rfl ?_
    first | refine V_pput rfl rfl rfl rfl rfl ?_ | refine V_bput rfl rfl rfl rfl rfl rfl ?_ | refine V_bputZ rfl rfl rfl rfl rfl rfl (by decide) ?_ | refine V_put rfl rfl (by first | assumption | rfl) (by decide) (fun _ hty => by cases hty; exact ⟨rfl, rfl⟩) (by first | exact Or.inl rfl | exact Or.inr ⟨rfl, rfl⟩) rfl ?_
    refine V_return rfl rfl ?_
    refine ⟨rfl, _, _, ?_, CQ_addS (r15 := ar 15) hq hw2 htt hmm (pk_un (by decide)) (pk_un (by decide)) (pk_un (by decide)) (pk_us.trans (nI_1 _)) ?_ ?_ ?_⟩
    · congr 1
      have := va_self (w5 ar (nS p) (nI k) (nI b) tt mm) 15
      rw [w5_k rfl] at this
      exact this.symm
    · rw [pk_un (by decide), if_neg e]; exact h4
    · intro j hj; rfl
    · intro z; exact absurd z e
set_option maxRecDepth 20000 in
set_option maxHeartbeats 1000000 in
theorem w_pclear : Mt g 1 m_Plan_clear [.ref pl] (blkW 3 h pl sc ar) sz u (fun r h' => r = none ∧ ∃ sc' ar', h' = blkW 3 h pl sc' ar' ∧ CQ (fin emp) sc' ar') sz u := by
  refine Mt.of m_Plan_clear_w m_Plan_clear_x m_Plan_clear_c rfl rfl (ls := [.ref pl]) rfl ?_
  refine V_aload_n rfl rfl ?_
  refine V_iconst (v := 0) rfl (by decide) ?_
  first | refine V_pput rfl rfl rfl rfl rfl ?_ | refine V_bput rfl rfl rfl rfl rfl rfl ?_ | refine V_bputZ rfl rfl rfl rfl rfl rfl (by decide) ?_ | refine V_put rfl rfl (by first | assumption | rfl) (by decide) (fun _ hty => by cases hty; exact ⟨rfl, rfl⟩) (by first | exact Or.inl rfl | exact Or.inr ⟨rfl, rfl⟩) rfl ?_
  refine V_aload_n rfl rfl ?_
  refine V_iconst (v := 0) rfl (by decide) ?_
  first | refine V_pput rfl rfl rfl rfl rfl ?_ | refine V_bput rfl rfl rfl rfl rfl rfl ?_ | refine V_bputZ rfl rfl rfl rfl rfl rfl (by decide) ?_ | refine V_put rfl rfl (by first | assumption | rfl) (by decide) (fun _ hty => by cases hty; exact ⟨rfl, rfl⟩) (by first | exact Or.inl rfl | exact Or.inr ⟨rfl, rfl⟩) rfl ?_
  refine V_aload_n rfl rfl ?_
  refine V_iconst (v := 0) rfl (by decide) ?_
  first | refine V_pput rfl rfl rfl rfl rfl ?_ | refine V_bput rfl rfl rfl rfl rfl rfl ?_ | refine V_bputZ rfl rfl rfl rfl rfl rfl (by decide) ?_ | refine V_put rfl rfl (by first | assumption | rfl) (by decide) (fun _ hty => by cases hty; exact ⟨rfl, rfl⟩) (by first | exact Or.inl rfl | exact Or.inr ⟨rfl, rfl⟩) rfl ?_
  refine V_aload_n rfl rfl ?_
  refine V_iconst (v := 0) rfl (by decide) ?_
  first | refine V_pput rfl rfl rfl rfl rfl ?_ | refine V_bput rfl rfl rfl rfl rfl rfl ?_ | refine V_bputZ rfl rfl rfl rfl rfl rfl (by decide) ?_ | refine V_put rfl rfl (by first | assumption | rfl) (by decide) (fun _ hty => by cases hty; exact ⟨rfl, rfl⟩) (by first | exact Or.inl rfl | exact Or.inr ⟨rfl, rfl⟩) rfl ?_
  refine V_aload_n rfl rfl ?_
  refine V_iconst (v := 0) rfl (by decide) ?_
  first | refine V_pput rfl rfl rfl rfl rfl ?_ | refine V_bput rfl rfl rfl rfl rfl rfl ?_ | refine V_bputZ rfl rfl rfl rfl rfl rfl (by decide) ?_ | refine V_put rfl rfl (by first | assumption | rfl) (by decide) (fun _ hty => by cases hty; exact ⟨rfl, rfl⟩) (by first | exact Or.inl rfl | exact Or.inr ⟨rfl, rfl⟩) rfl ?_
  refine V_aload_n rfl rfl ?_
  refine V_getfield rfl rfl (by first | assumption | exact blkW_0 | exact bAt_0 (by assumption) | exact bAt_0 (hA _ _) | rfl) (by rfl) ?_
  refine V_iconst (v := (-1)) rfl (by decide) ?_
  refine V_callSn rfl rfl (Or.inl rfl) m_Arr_fill_w m_Arr_fill_x rfl rfl (s_fill (blkW_i rfl rfl) (by decide) _) (by decide) rfl (Nat.le_of_ble_eq_true rfl) ?_
  rw [blkU_f rfl rfl]
  refine V_aload_n rfl rfl ?_
  refine V_getfield rfl rfl (by first | assumption | exact blkW_0 | exact bAt_0 (by assumption) | exact bAt_0 (hA _ _) | rfl) (by rfl) ?_
  refine V_iconst (v := (-1)) rfl (by decide) ?_
  refine V_callSn rfl rfl (Or.inl rfl) m_Arr_fill_w m_Arr_fill_x rfl rfl (s_fill (blkW_i rfl rfl) (by decide) _) (by decide) rfl (Nat.le_of_ble_eq_true rfl) ?_
  rw [blkU_f rfl rfl]
  refine V_return rfl rfl ?_
  refine ⟨rfl, _, _, rfl, fin_WB emp_WR, ⟨?_, ?_, ?_, ?_, ?_⟩, fun t ht => absurd ht (Nat.not_lt_zero t), fun t ht => absurd ht (Nat.not_lt_zero t), fun t ht => absurd ht (Nat.not_lt_zero t), fun t ht => absurd ht (Nat.not_lt_zero t), fun t m ht hm => ?_⟩
  · exact (pk_un (by decide)).trans ((pk_un (by decide)).trans ((pk_un (by decide)).trans ((pk_un (by decide)).trans pk_us)))
  · exact (pk_un (by decide)).trans ((pk_un (by decide)).trans ((pk_un (by decide)).trans pk_us))
  · exact (pk_un (by decide)).trans ((pk_un (by decide)).trans pk_us)
  · exact (pk_un (by decide)).trans pk_us
  · exact pk_us
  · rw [va_n (by decide), va_g, fa_fill_in (by omega)]
    rfl
end padd3
