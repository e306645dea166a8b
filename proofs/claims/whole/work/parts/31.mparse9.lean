section mparse9
variable {g : mG} {h : mH} {sz u md : Nat} {p : Pg} {sc f : Nat → Int32} {ar q : Nat → Nat → Int32}
set_option maxRecDepth 20000 in
set_option maxHeartbeats 1000000 in
theorem w_takeClause {n a : Nat} {x y : Int32} (h17 : sc 17 = nI n ∧ n ≤ 240) (ha : a < 2 ^ 30) (hr : RD p f q) (hw : WR p) : Mt g 5 m_MD_takeClause [.ref md] (blkW 7 h md (psS sc (pF f (nI a) x y)) (arS ar q)) sz u (RP h md sc ar (fun _ => True) (pClause p (ar 16) n a) (fun z f' q' => f' 19 = nI z.2 ∧ RD z.1 f' q')) sz u := by
  have hn := h17.2
  have hsb := skp_b (T := ar 16) ha hn
  refine Mt.of m_MD_takeClause_w m_MD_takeClause_x m_MD_takeClause_c rfl rfl (ls := [.ref md, .retAddr 0, .retAddr 0, .retAddr 0]) rfl ?_
  refine V_aload_n rfl rfl ?_
  refine V_callVi rfl rfl m_MD_here_w m_MD_here_x rfl (by decide) rfl (w_here2 (by assumption) (by first | omega | assumption)) (by decide) rfl (by first | assumption | exact blkW_0 | exact bAt_0 (by assumption) | rfl) (Nat.le_of_ble_eq_true rfl) ?_
  refine V_is1 rfl (by first | rfl | assumption) ?_
  have hlt : ∀ {c : Int32}, hv (ar 16) n a = c → ¬ c = -1 → skp (ar 16) n a < n := fun {c} h1 h2 => hv_lt h1 h2
  unfold pClause
  generalize hv (ar 16) n a = c at hlt
  have hlt : ¬ c = -1 → skp (ar 16) n a < n := fun z => hlt rfl z
  have key : ∀ k, k < 6 → kd c = k → skp (ar 16) n a < n → V g 5 m_MD_takeClause (RP h md sc ar (fun _ => True) (if kd c = 6 then .inl (1, skp (ar 16) n a) else if full p (kd c) then .inl (3, skp (ar 16) n a) else match pOne p (ar 16) n (skp (ar 16) n a + 1) (kd c) with
    | .inl x => .inl x
    | .inr z => if hv (ar 16) n z.2 = 59 then .inr (z.1, skp (ar 16) n z.2 + 1) else .inl (1, skp (ar 16) n z.2)) (fun (z : Pg × Nat) f' q' => f' 19 = nI z.2 ∧ RD z.1 f' q')) sz u 66 [.ref md, .int c, .retAddr 0, .retAddr 0] [.int (nI k)] (blkW 7 h md (psS sc (pF f (nI (skp (ar 16) n a)) x y)) (arS ar q)) sz u := by
    intro k hk hkd hsn
    rw [hkd, if_neg (show ¬ k = 6 by omega)]
    refine V_is2 rfl (by first | rfl | assumption) ?_
    refine V_iload_n rfl rfl ?_
    refine V_if_geT rfl (nI_pos' (by omega)) ?_
    refine V_aload_n rfl rfl ?_
    refine V_iload_n rfl rfl ?_
    refine V_callVi rfl rfl m_MD_isFull_w m_MD_isFull_x rfl (by decide) rfl (s_isFull (by assumption) (by assumption) (by first | omega | assumption)) (by decide) rfl (by first | assumption | exact blkW_0 | exact bAt_0 (by assumption) | rfl) (Nat.le_of_ble_eq_true rfl) ?_
    cases hF : full p k
    · rw [if_neg (by decide)]
      have key2 : ∀ r hh1, RP h md sc ar (fun _ => True) (pOne p (ar 16) n (skp (ar 16) n a + 1) k) (fun (z : Pg × Nat) f' q' => f' 19 = nI z.2 ∧ RD z.1 f' q') r hh1 → V g 5 m_MD_takeClause (RP h md sc ar (fun _ => True) (match pOne p (ar 16) n (skp (ar 16) n a + 1) k with
        | .inl x => .inl x
        | .inr z => if hv (ar 16) n z.2 = 59 then .inr (z.1, skp (ar 16) n z.2 + 1) else .inl (1, skp (ar 16) n z.2)) (fun (z : Pg × Nat) f' q' => f' 19 = nI z.2 ∧ RD z.1 f' q')) sz u 151 [.ref md, .int c, .int (nI k), .retAddr 0] (r.toList ++ []) hh1 sz u := by
        intro r hh1 hP
        generalize hO : pOne p (ar 16) n (skp (ar 16) n a + 1) k = z at hP
        rcases z with ⟨j, s⟩ | ⟨p2, e⟩
        · obtain ⟨hj, rfl, f1, q1, rfl, h18, -⟩ := hP
          refine V_is3 rfl (by first | rfl | assumption) ?_
          refine V_iload_n rfl rfl ?_
          refine V_if_neT rfl ((nk_pos hj).2.1) ?_
          refine V_aload_n rfl rfl ?_
          refine V_dup rfl rfl ?_
          refine V_getI rfl rfl (by first | assumption | exact blkW_0 | exact bAt_0 (by assumption) | rfl) (by rfl) (by first | exact (psS_g rfl).trans pF_19 | exact (psS_g rfl).trans (by assumption) | exact (psS_g rfl).trans pk_us | exact (psS_g rfl).trans ((pk_un (by decide)).trans (by assumption)) | exact (psS_g rfl).trans ((pk_un (by decide)).trans pk_us) | exact (psS_g rfl).trans ((pk_un (by decide)).trans ((pk_un (by decide)).trans (by assumption))) | exact psS_g rfl | rfl) ?_
          refine V_iconst (v := 1) rfl (by decide) ?_
          refine V_iadd rfl ?_
          first | refine V_pput rfl rfl rfl rfl rfl ?_ | refine V_bput rfl rfl rfl rfl rfl rfl ?_ | refine V_bputZ rfl rfl rfl rfl rfl rfl (by decide) ?_ | refine V_put rfl rfl (by first | assumption | rfl) (by decide) (fun _ hty => by cases hty; exact ⟨rfl, rfl⟩) (by first | exact Or.inl rfl | exact Or.inr ⟨rfl, rfl⟩) rfl ?_
          refine V_iload_n rfl rfl ?_
          refine V_ireturn rfl rfl (by first | rfl | exact b2_nar _ | assumption | decide) ?_
          exact RP_no rfl hj rfl ((pk_un (by decide)).trans h18) trivial
        · obtain ⟨rfl, f1, q1, rfl, h19, hr2⟩ := hP
          obtain ⟨o1, o2, o3⟩ := pOne_ok hO (show skp (ar 16) n a + 1 < 2 ^ 30 by omega) hn hw hF hk
          rw [show psS sc f1 = psS sc (pF f1 (nI e) (f1 20) (f1 21)) from congrArg (psS sc) (pF_self h19)]
          refine V_is3 rfl (by first | rfl | assumption) ?_
          refine V_iload_n rfl rfl ?_
          refine V_if_neF rfl (rfl) ?_
          refine V_aload_n rfl rfl ?_
          refine V_callVi rfl rfl m_MD_here_w m_MD_here_x rfl (by decide) rfl (w_here2 (by assumption) (by first | omega | assumption)) (by decide) rfl (by first | assumption | exact blkW_0 | exact bAt_0 (by assumption) | rfl) (Nat.le_of_ble_eq_true rfl) ?_
          refine V_bipush (v := 59) rfl (by decide) ?_
          by_cases hc : hv (ar 16) n e = 59
          · refine V_icmp_eqT rfl (hc) ?_
            refine V_aload_n rfl rfl ?_
            refine V_dup rfl rfl ?_
            refine V_getI rfl rfl (by first | assumption | exact blkW_0 | exact bAt_0 (by assumption) | rfl) (by rfl) (by first | exact (psS_g rfl).trans pF_19 | exact (psS_g rfl).trans (by assumption) | exact (psS_g rfl).trans pk_us | exact (psS_g rfl).trans ((pk_un (by decide)).trans (by assumption)) | exact (psS_g rfl).trans ((pk_un (by decide)).trans pk_us) | exact (psS_g rfl).trans ((pk_un (by decide)).trans ((pk_un (by decide)).trans (by assumption))) | exact psS_g rfl | rfl) ?_
            refine V_iconst (v := 1) rfl (by decide) ?_
            refine V_iadd rfl ?_
            first | refine V_pput rfl rfl rfl rfl rfl ?_ | refine V_bput rfl rfl rfl rfl rfl rfl ?_ | refine V_bputZ rfl rfl rfl rfl rfl rfl (by decide) ?_ | refine V_put rfl rfl (by first | assumption | rfl) (by decide) (fun _ hty => by cases hty; exact ⟨rfl, rfl⟩) (by first | exact Or.inl rfl | exact Or.inr ⟨rfl, rfl⟩) rfl ?_
            refine V_iload_n rfl rfl ?_
            refine V_ireturn rfl rfl (by first | rfl | exact b2_nar _ | assumption | decide) ?_
            exact RP_ok (y := (p2, skp (ar 16) n e + 1)) (by simp [hc]) ⟨pk_us.trans (nI_1 _), RD_f hr2 ((pk_un (by decide)).trans (pF_o rfl)) ((pk_un (by decide)).trans (pF_o rfl)) ((pk_un (by decide)).trans (pF_o rfl)) ((pk_un (by decide)).trans (pF_o rfl))⟩
          · refine V_icmp_eqF rfl (hc) ?_
            refine V_aload_n rfl rfl ?_
            refine V_iconst (v := 1) rfl (by decide) ?_
            refine V_aload_n rfl rfl ?_
            refine V_getI rfl rfl (by first | assumption | exact blkW_0 | exact bAt_0 (by assumption) | rfl) (by rfl) (by first | exact (psS_g rfl).trans pF_19 | exact (psS_g rfl).trans (by assumption) | exact (psS_g rfl).trans pk_us | exact (psS_g rfl).trans ((pk_un (by decide)).trans (by assumption)) | exact (psS_g rfl).trans ((pk_un (by decide)).trans pk_us) | exact (psS_g rfl).trans ((pk_un (by decide)).trans ((pk_un (by decide)).trans (by assumption))) | exact psS_g rfl | rfl) ?_
            refine V_callVi rfl rfl m_MD_fails_w m_MD_fails_x rfl (by decide) rfl (w_fails _ _) (by decide) rfl (by first | assumption | exact blkW_0 | exact bAt_0 (by assumption) | rfl) (Nat.le_of_ble_eq_true rfl) ?_
            refine V_ireturn rfl rfl (by first | rfl | exact b2_nar _ | assumption | decide) ?_
            exact RP_no (k := 1) (s := skp (ar 16) n e) (by simp [hc]) (by decide) rfl pk_us trivial
      refine V_if_eqT rfl (rfl) ?_
      refine V_aload_n rfl rfl ?_
      refine V_dup rfl rfl ?_
      refine V_getI rfl rfl (by first | assumption | exact blkW_0 | exact bAt_0 (by assumption) | rfl) (by rfl) (by first | exact (psS_g rfl).trans pF_19 | exact (psS_g rfl).trans (by assumption) | exact (psS_g rfl).trans pk_us | exact (psS_g rfl).trans ((pk_un (by decide)).trans (by assumption)) | exact (psS_g rfl).trans ((pk_un (by decide)).trans pk_us) | exact (psS_g rfl).trans ((pk_un (by decide)).trans ((pk_un (by decide)).trans (by assumption))) | exact psS_g rfl | rfl) ?_
      refine V_iconst (v := 1) rfl (by decide) ?_
      refine V_iadd rfl ?_
      rw [show nI (skp (ar 16) n a) + 1 = nI (skp (ar 16) n a + 1) from nI_1 _]
      first | refine V_pput rfl rfl rfl rfl rfl ?_ | refine V_bput rfl rfl rfl rfl rfl rfl ?_ | refine V_bputZ rfl rfl rfl rfl rfl rfl (by decide) ?_ | refine V_put rfl rfl (by first | assumption | rfl) (by decide) (fun _ hty => by cases hty; exact ⟨rfl, rfl⟩) (by first | exact Or.inl rfl | exact Or.inr ⟨rfl, rfl⟩) rfl ?_
      rw [pF_u19]
      refine V_iload_n rfl rfl ?_
      have hk6 : k = 0 ∨ k = 1 ∨ k = 2 ∨ k = 3 ∨ k = 4 ∨ k = 5 := by omega
      rcases hk6 with rfl | rfl | rfl | rfl | rfl | rfl
      · refine V_if_neF rfl (rfl) ?_
        refine V_aload_n rfl rfl ?_
        refine V_callV rfl rfl m_MD_takeClass_w m_MD_takeClass_x rfl (by decide) rfl (w_takeClass h17 (show skp (ar 16) n a + 1 < 2 ^ 30 by omega) hr hw (full_1 hw hF (by decide))) (by decide) rfl (by first | assumption | exact blkW_0 | exact bAt_0 (by assumption) | rfl) (Nat.le_of_ble_eq_true rfl) (by first | exact Nat.le_refl _ | omega | decide) (by first | exact Nat.le_refl _ | omega | decide) (fun r hh1 hP => ?_)
        refine V_goto rfl ?_
        exact key2 _ _ hP
      · refine V_if_neT rfl (by decide) ?_
        refine V_iload_n rfl rfl ?_
        refine V_iconst (v := 1) rfl (by decide) ?_
        refine V_icmp_neF rfl (rfl) ?_
        refine V_aload_n rfl rfl ?_
        refine V_callV rfl rfl m_MD_takeInterface_w m_MD_takeInterface_x rfl (by decide) rfl (w_takeInterface h17 (show skp (ar 16) n a + 1 < 2 ^ 30 by omega) hr hw (full_1 hw hF (by decide))) (by decide) rfl (by first | assumption | exact blkW_0 | exact bAt_0 (by assumption) | rfl) (Nat.le_of_ble_eq_true rfl) (by first | exact Nat.le_refl _ | omega | decide) (by first | exact Nat.le_refl _ | omega | decide) (fun r hh1 hP => ?_)
        refine V_goto rfl ?_
        exact key2 _ _ hP
      · refine V_if_neT rfl (by decide) ?_
        refine V_iload_n rfl rfl ?_
        refine V_iconst (v := 1) rfl (by decide) ?_
        refine V_icmp_neT rfl (by decide) ?_
        refine V_iload_n rfl rfl ?_
        refine V_iconst (v := 2) rfl (by decide) ?_
        refine V_icmp_neF rfl (rfl) ?_
        refine V_aload_n rfl rfl ?_
        refine V_callV rfl rfl m_MD_takeBody_w m_MD_takeBody_x rfl (by decide) rfl (w_takeBody h17 (show skp (ar 16) n a + 1 < 2 ^ 30 by omega) hr hw (full_2 hw hF)) (by decide) rfl (by first | assumption | exact blkW_0 | exact bAt_0 (by assumption) | rfl) (Nat.le_of_ble_eq_true rfl) (by first | exact Nat.le_refl _ | omega | decide) (by first | exact Nat.le_refl _ | omega | decide) (fun r hh1 hP => ?_)
        refine V_goto rfl ?_
        exact key2 _ _ hP
      · refine V_if_neT rfl (by decide) ?_
        refine V_iload_n rfl rfl ?_
        refine V_iconst (v := 1) rfl (by decide) ?_
        refine V_icmp_neT rfl (by decide) ?_
        refine V_iload_n rfl rfl ?_
        refine V_iconst (v := 2) rfl (by decide) ?_
        refine V_icmp_neT rfl (by decide) ?_
        refine V_aload_n rfl rfl ?_
        refine V_iload_n rfl rfl ?_
        refine V_iconst (v := 3) rfl (by decide) ?_
        refine V_isub rfl ?_
        refine V_callV rfl rfl m_MD_takeStep_w m_MD_takeStep_x rfl (by decide) rfl (w_takeStep (k := 0) h17 (show skp (ar 16) n a + 1 < 2 ^ 30 by omega) hr hw (full_3 hw hF (by decide)) (by decide)) (by decide) rfl (by first | assumption | exact blkW_0 | exact bAt_0 (by assumption) | rfl) (Nat.le_of_ble_eq_true rfl) (by first | exact Nat.le_refl _ | omega | decide) (by first | exact Nat.le_refl _ | omega | decide) (fun r hh1 hP => ?_)
        exact key2 _ _ hP
      · refine V_if_neT rfl (by decide) ?_
        refine V_iload_n rfl rfl ?_
        refine V_iconst (v := 1) rfl (by decide) ?_
        refine V_icmp_neT rfl (by decide) ?_
        refine V_iload_n rfl rfl ?_
        refine V_iconst (v := 2) rfl (by decide) ?_
        refine V_icmp_neT rfl (by decide) ?_
        refine V_aload_n rfl rfl ?_
        refine V_iload_n rfl rfl ?_
        refine V_iconst (v := 3) rfl (by decide) ?_
        refine V_isub rfl ?_
        refine V_callV rfl rfl m_MD_takeStep_w m_MD_takeStep_x rfl (by decide) rfl (w_takeStep (k := 1) h17 (show skp (ar 16) n a + 1 < 2 ^ 30 by omega) hr hw (full_3 hw hF (by decide)) (by decide)) (by decide) rfl (by first | assumption | exact blkW_0 | exact bAt_0 (by assumption) | rfl) (Nat.le_of_ble_eq_true rfl) (by first | exact Nat.le_refl _ | omega | decide) (by first | exact Nat.le_refl _ | omega | decide) (fun r hh1 hP => ?_)
        exact key2 _ _ hP
      · refine V_if_neT rfl (by decide) ?_
        refine V_iload_n rfl rfl ?_
        refine V_iconst (v := 1) rfl (by decide) ?_
        refine V_icmp_neT rfl (by decide) ?_
        refine V_iload_n rfl rfl ?_
        refine V_iconst (v := 2) rfl (by decide) ?_
        refine V_icmp_neT rfl (by decide) ?_
        refine V_aload_n rfl rfl ?_
        refine V_iload_n rfl rfl ?_
        refine V_iconst (v := 3) rfl (by decide) ?_
        refine V_isub rfl ?_
        refine V_callV rfl rfl m_MD_takeStep_w m_MD_takeStep_x rfl (by decide) rfl (w_takeStep (k := 2) h17 (show skp (ar 16) n a + 1 < 2 ^ 30 by omega) hr hw (full_3 hw hF (by decide)) (by decide)) (by decide) rfl (by first | assumption | exact blkW_0 | exact bAt_0 (by assumption) | rfl) (Nat.le_of_ble_eq_true rfl) (by first | exact Nat.le_refl _ | omega | decide) (by first | exact Nat.le_refl _ | omega | decide) (fun r hh1 hP => ?_)
        exact key2 _ _ hP
    · rw [if_pos rfl]
      refine V_if_eqF rfl (by decide) ?_
      refine V_aload_n rfl rfl ?_
      refine V_iconst (v := 3) rfl (by decide) ?_
      refine V_aload_n rfl rfl ?_
      refine V_getI rfl rfl (by first | assumption | exact blkW_0 | exact bAt_0 (by assumption) | rfl) (by rfl) (by first | exact (psS_g rfl).trans pF_19 | exact (psS_g rfl).trans (by assumption) | exact (psS_g rfl).trans pk_us | exact (psS_g rfl).trans ((pk_un (by decide)).trans (by assumption)) | exact (psS_g rfl).trans ((pk_un (by decide)).trans pk_us) | exact (psS_g rfl).trans ((pk_un (by decide)).trans ((pk_un (by decide)).trans (by assumption))) | exact psS_g rfl | rfl) ?_
      refine V_callVi rfl rfl m_MD_fails_w m_MD_fails_x rfl (by decide) rfl (w_fails _ _) (by decide) rfl (by first | assumption | exact blkW_0 | exact bAt_0 (by assumption) | rfl) (Nat.le_of_ble_eq_true rfl) ?_
      refine V_ireturn rfl rfl (by first | rfl | exact b2_nar _ | assumption | decide) ?_
      exact RP_no rfl (by decide) rfl pk_us trivial
  refine V_iload_n rfl rfl ?_
  refine V_bipush (v := 99) rfl (by decide) ?_
  by_cases c1 : c = 99
  · refine V_icmp_neF rfl (c1) ?_
    refine V_iconst (v := 0) rfl (by decide) ?_
    refine V_goto rfl ?_
    exact key 0 (by decide) (by rw [c1]; decide) (hlt (by rw [c1]; decide))
  · refine V_icmp_neT rfl (c1) ?_
    refine V_iload_n rfl rfl ?_
    refine V_bipush (v := 105) rfl (by decide) ?_
    by_cases c2 : c = 105
    · refine V_icmp_neF rfl (c2) ?_
      refine V_iconst (v := 1) rfl (by decide) ?_
      refine V_goto rfl ?_
      exact key 1 (by decide) (by rw [c2]; decide) (hlt (by rw [c2]; decide))
    · refine V_icmp_neT rfl (c2) ?_
      refine V_iload_n rfl rfl ?_
      refine V_bipush (v := 109) rfl (by decide) ?_
      by_cases c3 : c = 109
      · refine V_icmp_neF rfl (c3) ?_
        refine V_iconst (v := 2) rfl (by decide) ?_
        refine V_goto rfl ?_
        exact key 2 (by decide) (by rw [c3]; decide) (hlt (by rw [c3]; decide))
      · refine V_icmp_neT rfl (c3) ?_
        refine V_iload_n rfl rfl ?_
        refine V_bipush (v := 110) rfl (by decide) ?_
        by_cases c4 : c = 110
        · refine V_icmp_neF rfl (c4) ?_
          refine V_iconst (v := 3) rfl (by decide) ?_
          refine V_goto rfl ?_
          exact key 3 (by decide) (by rw [c4]; decide) (hlt (by rw [c4]; decide))
        · refine V_icmp_neT rfl (c4) ?_
          refine V_iload_n rfl rfl ?_
          refine V_bipush (v := 118) rfl (by decide) ?_
          by_cases c5 : c = 118
          · refine V_icmp_neF rfl (c5) ?_
            refine V_iconst (v := 4) rfl (by decide) ?_
            refine V_goto rfl ?_
            exact key 4 (by decide) (by rw [c5]; decide) (hlt (by rw [c5]; decide))
          · refine V_icmp_neT rfl (c5) ?_
            refine V_iload_n rfl rfl ?_
            refine V_bipush (v := 115) rfl (by decide) ?_
            by_cases c6 : c = 115
            · refine V_icmp_neF rfl (c6) ?_
              refine V_iconst (v := 5) rfl (by decide) ?_
              refine V_goto rfl ?_
              exact key 5 (by decide) (by rw [c6]; decide) (hlt (by rw [c6]; decide))
            · refine V_icmp_neT rfl (c6) ?_
              have hk6 : kd c = 6 := by unfold kd; rw [if_neg c1, if_neg c2, if_neg c3, if_neg c4, if_neg c5, if_neg c6]
              rw [if_pos hk6]
              refine V_iconst (v := (-1)) rfl (by decide) ?_
              refine V_is2 rfl (by first | rfl | assumption) ?_
              refine V_iload_n rfl rfl ?_
              refine V_if_geF rfl (by decide) ?_
              refine V_aload_n rfl rfl ?_
              refine V_iconst (v := 1) rfl (by decide) ?_
              refine V_aload_n rfl rfl ?_
              refine V_getI rfl rfl (by first | assumption | exact blkW_0 | exact bAt_0 (by assumption) | rfl) (by rfl) (by first | exact (psS_g rfl).trans pF_19 | exact (psS_g rfl).trans (by assumption) | exact (psS_g rfl).trans pk_us | exact (psS_g rfl).trans ((pk_un (by decide)).trans (by assumption)) | exact (psS_g rfl).trans ((pk_un (by decide)).trans pk_us) | exact (psS_g rfl).trans ((pk_un (by decide)).trans ((pk_un (by decide)).trans (by assumption))) | exact psS_g rfl | rfl) ?_
              refine V_callVi rfl rfl m_MD_fails_w m_MD_fails_x rfl (by decide) rfl (w_fails _ _) (by decide) rfl (by first | assumption | exact blkW_0 | exact bAt_0 (by assumption) | rfl) (Nat.le_of_ble_eq_true rfl) ?_
              refine V_ireturn rfl rfl (by first | rfl | exact b2_nar _ | assumption | decide) ?_
              exact RP_no rfl (by decide) rfl pk_us trivial
theorem pClause_ok {p2 : Pg} {T : Nat → Int32} {n a e : Nat} (h : pClause p T n a = .inr (p2, e)) (ha : a < 2 ^ 30) (hn : n ≤ 240) (hw : WR p) : a < e ∧ e ≤ n ∧ WR p2 := by
  unfold pClause at h
  have hg := skp_ge T n a
  by_cases c1 : kd (hv T n a) = 6
  · rw [if_pos c1] at h; cases h
  · rw [if_neg c1] at h
    have hm1 : ¬ hv T n a = -1 := fun z => c1 (by rw [z]; decide)
    have hs := hv_lt rfl hm1
    have hk : kd (hv T n a) < 6 := by
      have : kd (hv T n a) ≤ 6 := by
        unfold kd
        repeat' split
        all_goals decide
      omega
    cases hF : full p (kd (hv T n a))
    · rw [hF, if_neg (by decide)] at h
      generalize hO : pOne p T n (skp T n a + 1) (kd (hv T n a)) = z at h
      rcases z with z | ⟨p3, e3⟩
      · cases h
      · obtain ⟨o1, o2, o3⟩ := pOne_ok hO (by omega) hn hw hF hk
        have h : (if hv T n e3 = 59 then .inr (p3, skp T n e3 + 1) else .inl (1, skp T n e3) : Rs (Pg × Nat)) = .inr (p2, e) := h
        by_cases c2 : hv T n e3 = 59
        · rw [if_pos c2] at h
          have h5 := Sum.inr.inj h
          rw [Prod.mk.injEq] at h5
          obtain ⟨rfl, rfl⟩ := h5
          have := hv_lt c2 (by decide)
          have := skp_ge T n e3
          exact ⟨by omega, by omega, o3⟩
        · rw [if_neg c2] at h; cases h
    · rw [hF, if_pos rfl] at h; cases h
end mparse9
