theorem lw_i3 {L i : Nat} (hL : L ≤ 1536) (hi : i ≤ 1536) (h : ¬ nI L - 3 < nI i) : i + 3 ≤ L := by
  by_cases e : 3 ≤ L
  · have e1 : nI L - 3 = nI (L - 3) := by
      have := nI_add (L - 3) 3
      rw [show L - 3 + 3 = L by omega] at this
      rw [← this]
      exact Int32.add_sub_cancel _ _
    rw [e1] at h
    exact Classical.byContradiction fun z => h (nI_lt (by omega) (by omega))
  · refine absurd ?_ h
    rw [fa_lt, nI_toInt (by omega)]
    rcases (show L = 0 ∨ L = 1 ∨ L = 2 by omega) with rfl | rfl | rfl
    · rw [show (nI 0 - 3 : Int32).toInt = -3 by decide]; omega
    · rw [show (nI 1 - 3 : Int32).toInt = -2 by decide]; omega
    · rw [show (nI 2 - 3 : Int32).toInt = -1 by decide]; omega
set_option maxRecDepth 100000 in
theorem m_Law_law_c : mCodeOk m_Law_law = true := by decide +kernel
section law
variable {g : mG}
abbrev pL : Option Value → mH → Prop := fun r _ => r = some (.int 1)
set_option maxRecDepth 20000 in
set_option maxHeartbeats 1000000 in
theorem z_feed {h : mH} {i : Nat} (hi : i + 2 < gn g) (hg : gn g ≤ 1536) (hl : LI h) (kk : ∀ h2, LI h2 → V g 10 m_Law_law pL 135 3202 826 [.ref 0, .ref 1, .ref 108, .int (nI i)] [] h2 135 3202) : V g 10 m_Law_law pL 135 3202 152 [.ref 0, .ref 1, .ref 108, .int (nI i)] [] h 135 3202 := by
  obtain ⟨⟨fs1, hf1⟩, v, R, a1, a2⟩ := t_feed (g := g) hl (gx g (i + 1))
  refine V_aload_n rfl rfl ?_
  refine V_aload_n rfl rfl ?_
  refine V_iload_n rfl rfl ?_
  refine V_iconst (v := 1) rfl (by decide) ?_
  refine V_iadd rfl ?_
  refine V_sld (j := i + 1) rfl rfl (nI_add i 1) (by omega) (by omega) ?_
  refine V_callV rfl rfl m_EB_feed_w m_EB_feed_x rfl (by decide) rfl (a1 _ _) (by decide) rfl (by first | assumption | exact blkW_0 | exact bAt_0 (by assumption) | exact bAt_0 (hA _ _) | rfl) (Nat.le_of_ble_eq_true rfl) (by first | exact Nat.le_refl _ | omega | decide) (by first | exact Nat.le_refl _ | omega | decide) (fun r hh1 hP => ?_)
  obtain ⟨rfl, r1⟩ := hP
  obtain ⟨⟨fs2, hf2⟩, a3⟩ := a2 _ r1
  refine V_aload_n rfl rfl ?_
  refine V_aload_n rfl rfl ?_
  refine V_iload_n rfl rfl ?_
  refine V_iconst (v := 1) rfl (by decide) ?_
  refine V_iadd rfl ?_
  refine V_sld (j := i + 1) rfl rfl (nI_add i 1) (by omega) (by omega) ?_
  refine V_callV rfl rfl m_MD_feed_w m_MD_feed_x rfl (by decide) rfl (a3 _ _) (by decide) rfl (by first | assumption | exact blkW_0 | exact bAt_0 (by assumption) | exact bAt_0 (hA _ _) | rfl) (Nat.le_of_ble_eq_true rfl) (by first | exact Nat.le_refl _ | omega | decide) (by first | exact Nat.le_refl _ | omega | decide) (fun r hh1 hP => ?_)
  obtain ⟨rfl, r2⟩ := hP
  refine V_icmp_eqT rfl (rfl) ?_
  exact kk _ r2
set_option maxRecDepth 20000 in
set_option maxHeartbeats 1000000 in
theorem z_program {h : mH} {i : Nat} (hi : i + 2 < gn g) (hg : gn g ≤ 1536) (hl : LI h) (kk : ∀ h2, LI h2 → V g 10 m_Law_law pL 135 3202 826 [.ref 0, .ref 1, .ref 108, .int (nI i)] [] h2 135 3202) : V g 10 m_Law_law pL 135 3202 175 [.ref 0, .ref 1, .ref 108, .int (nI i)] [] h 135 3202 := by
  obtain ⟨⟨fs1, hf1⟩, v, R, a1, a2⟩ := t_program (g := g) hl
  refine V_aload_n rfl rfl ?_
  refine V_callV rfl rfl m_EB_program_w m_EB_program_x rfl (by decide) rfl (a1 _ _) (by decide) rfl (by first | assumption | exact blkW_0 | exact bAt_0 (by assumption) | exact bAt_0 (hA _ _) | rfl) (Nat.le_of_ble_eq_true rfl) (by first | exact Nat.le_refl _ | omega | decide) (by first | exact Nat.le_refl _ | omega | decide) (fun r hh1 hP => ?_)
  obtain ⟨rfl, r1⟩ := hP
  obtain ⟨⟨fs2, hf2⟩, a3⟩ := a2 _ r1
  refine V_aload_n rfl rfl ?_
  refine V_callV rfl rfl m_MD_program_w m_MD_program_x rfl (by decide) rfl (a3 _ _) (by decide) rfl (by first | assumption | exact blkW_0 | exact bAt_0 (by assumption) | exact bAt_0 (hA _ _) | rfl) (Nat.le_of_ble_eq_true rfl) (by first | exact Nat.le_refl _ | omega | decide) (by first | exact Nat.le_refl _ | omega | decide) (fun r hh1 hP => ?_)
  obtain ⟨rfl, r2⟩ := hP
  refine V_icmp_eqT rfl (rfl) ?_
  exact kk _ r2
set_option maxRecDepth 20000 in
set_option maxHeartbeats 1000000 in
theorem z_fault {h : mH} {i : Nat} (hi : i + 2 < gn g) (hg : gn g ≤ 1536) (hl : LI h) (kk : ∀ h2, LI h2 → V g 10 m_Law_law pL 135 3202 826 [.ref 0, .ref 1, .ref 108, .int (nI i)] [] h2 135 3202) : V g 10 m_Law_law pL 135 3202 188 [.ref 0, .ref 1, .ref 108, .int (nI i)] [] h 135 3202 := by
  obtain ⟨⟨fs1, hf1⟩, v, R, a1, a2⟩ := t_fault (g := g) hl
  refine V_aload_n rfl rfl ?_
  refine V_callV rfl rfl m_EB_fault_w m_EB_fault_x rfl (by decide) rfl (a1 _ _) (by decide) rfl (by first | assumption | exact blkW_0 | exact bAt_0 (by assumption) | exact bAt_0 (hA _ _) | rfl) (Nat.le_of_ble_eq_true rfl) (by first | exact Nat.le_refl _ | omega | decide) (by first | exact Nat.le_refl _ | omega | decide) (fun r hh1 hP => ?_)
  obtain ⟨rfl, r1⟩ := hP
  obtain ⟨⟨fs2, hf2⟩, a3⟩ := a2 _ r1
  refine V_aload_n rfl rfl ?_
  refine V_callV rfl rfl m_MD_fault_w m_MD_fault_x rfl (by decide) rfl (a3 _ _) (by decide) rfl (by first | assumption | exact blkW_0 | exact bAt_0 (by assumption) | exact bAt_0 (hA _ _) | rfl) (Nat.le_of_ble_eq_true rfl) (by first | exact Nat.le_refl _ | omega | decide) (by first | exact Nat.le_refl _ | omega | decide) (fun r hh1 hP => ?_)
  obtain ⟨rfl, r2⟩ := hP
  refine V_icmp_eqT rfl (rfl) ?_
  exact kk _ r2
set_option maxRecDepth 20000 in
set_option maxHeartbeats 1000000 in
theorem z_told {h : mH} {i : Nat} (hi : i + 2 < gn g) (hg : gn g ≤ 1536) (hl : LI h) (kk : ∀ h2, LI h2 → V g 10 m_Law_law pL 135 3202 826 [.ref 0, .ref 1, .ref 108, .int (nI i)] [] h2 135 3202) : V g 10 m_Law_law pL 135 3202 201 [.ref 0, .ref 1, .ref 108, .int (nI i)] [] h 135 3202 := by
  obtain ⟨⟨fs1, hf1⟩, v, R, a1, a2⟩ := t_told (g := g) hl (gx g (i + 1))
  refine V_aload_n rfl rfl ?_
  refine V_aload_n rfl rfl ?_
  refine V_iload_n rfl rfl ?_
  refine V_iconst (v := 1) rfl (by decide) ?_
  refine V_iadd rfl ?_
  refine V_sld (j := i + 1) rfl rfl (nI_add i 1) (by omega) (by omega) ?_
  refine V_callV rfl rfl m_EB_told_w m_EB_told_x rfl (by decide) rfl (a1 _ _) (by decide) rfl (by first | assumption | exact blkW_0 | exact bAt_0 (by assumption) | exact bAt_0 (hA _ _) | rfl) (Nat.le_of_ble_eq_true rfl) (by first | exact Nat.le_refl _ | omega | decide) (by first | exact Nat.le_refl _ | omega | decide) (fun r hh1 hP => ?_)
  obtain ⟨rfl, r1⟩ := hP
  obtain ⟨⟨fs2, hf2⟩, a3⟩ := a2 _ r1
  refine V_aload_n rfl rfl ?_
  refine V_aload_n rfl rfl ?_
  refine V_iload_n rfl rfl ?_
  refine V_iconst (v := 1) rfl (by decide) ?_
  refine V_iadd rfl ?_
  refine V_sld (j := i + 1) rfl rfl (nI_add i 1) (by omega) (by omega) ?_
  refine V_callV rfl rfl m_MD_told_w m_MD_told_x rfl (by decide) rfl (a3 _ _) (by decide) rfl (by first | assumption | exact blkW_0 | exact bAt_0 (by assumption) | exact bAt_0 (hA _ _) | rfl) (Nat.le_of_ble_eq_true rfl) (by first | exact Nat.le_refl _ | omega | decide) (by first | exact Nat.le_refl _ | omega | decide) (fun r hh1 hP => ?_)
  obtain ⟨rfl, r2⟩ := hP
  refine V_icmp_eqT rfl (rfl) ?_
  exact kk _ r2
set_option maxRecDepth 20000 in
set_option maxHeartbeats 1000000 in
theorem z_type {h : mH} {i : Nat} (hi : i + 2 < gn g) (hg : gn g ≤ 1536) (hl : LI h) (kk : ∀ h2, LI h2 → V g 10 m_Law_law pL 135 3202 826 [.ref 0, .ref 1, .ref 108, .int (nI i)] [] h2 135 3202) : V g 10 m_Law_law pL 135 3202 224 [.ref 0, .ref 1, .ref 108, .int (nI i)] [] h 135 3202 := by
  obtain ⟨⟨fs1, hf1⟩, v, R, a1, a2⟩ := t_type (g := g) hl (gx g (i + 1)) (gx g (i + 2))
  refine V_aload_n rfl rfl ?_
  refine V_aload_n rfl rfl ?_
  refine V_iload_n rfl rfl ?_
  refine V_iconst (v := 1) rfl (by decide) ?_
  refine V_iadd rfl ?_
  refine V_sld (j := i + 1) rfl rfl (nI_add i 1) (by omega) (by omega) ?_
  refine V_aload_n rfl rfl ?_
  refine V_iload_n rfl rfl ?_
  refine V_iconst (v := 2) rfl (by decide) ?_
  refine V_iadd rfl ?_
  refine V_sld (j := i + 2) rfl rfl (nI_add i 2) (by omega) (by omega) ?_
  refine V_callV rfl rfl m_EB_type_w m_EB_type_x rfl (by decide) rfl (a1 _ _) (by decide) rfl (by first | assumption | exact blkW_0 | exact bAt_0 (by assumption) | exact bAt_0 (hA _ _) | rfl) (Nat.le_of_ble_eq_true rfl) (by first | exact Nat.le_refl _ | omega | decide) (by first | exact Nat.le_refl _ | omega | decide) (fun r hh1 hP => ?_)
  obtain ⟨rfl, r1⟩ := hP
  obtain ⟨⟨fs2, hf2⟩, a3⟩ := a2 _ r1
  refine V_aload_n rfl rfl ?_
  refine V_aload_n rfl rfl ?_
  refine V_iload_n rfl rfl ?_
  refine V_iconst (v := 1) rfl (by decide) ?_
  refine V_iadd rfl ?_
  refine V_sld (j := i + 1) rfl rfl (nI_add i 1) (by omega) (by omega) ?_
  refine V_aload_n rfl rfl ?_
  refine V_iload_n rfl rfl ?_
  refine V_iconst (v := 2) rfl (by decide) ?_
  refine V_iadd rfl ?_
  refine V_sld (j := i + 2) rfl rfl (nI_add i 2) (by omega) (by omega) ?_
  refine V_callV rfl rfl m_MD_type_w m_MD_type_x rfl (by decide) rfl (a3 _ _) (by decide) rfl (by first | assumption | exact blkW_0 | exact bAt_0 (by assumption) | exact bAt_0 (hA _ _) | rfl) (Nat.le_of_ble_eq_true rfl) (by first | exact Nat.le_refl _ | omega | decide) (by first | exact Nat.le_refl _ | omega | decide) (fun r hh1 hP => ?_)
  obtain ⟨rfl, r2⟩ := hP
  refine V_icmp_eqT rfl (rfl) ?_
  exact kk _ r2
set_option maxRecDepth 20000 in
set_option maxHeartbeats 1000000 in
theorem z_above {h : mH} {i : Nat} (hi : i + 2 < gn g) (hg : gn g ≤ 1536) (hl : LI h) (kk : ∀ h2, LI h2 → V g 10 m_Law_law pL 135 3202 826 [.ref 0, .ref 1, .ref 108, .int (nI i)] [] h2 135 3202) : V g 10 m_Law_law pL 135 3202 257 [.ref 0, .ref 1, .ref 108, .int (nI i)] [] h 135 3202 := by
  obtain ⟨⟨fs1, hf1⟩, v, R, a1, a2⟩ := t_above (g := g) hl (gx g (i + 1))
  refine V_aload_n rfl rfl ?_
  refine V_aload_n rfl rfl ?_
  refine V_iload_n rfl rfl ?_
  refine V_iconst (v := 1) rfl (by decide) ?_
  refine V_iadd rfl ?_
  refine V_sld (j := i + 1) rfl rfl (nI_add i 1) (by omega) (by omega) ?_
  refine V_callV rfl rfl m_EB_above_w m_EB_above_x rfl (by decide) rfl (a1 _ _) (by decide) rfl (by first | assumption | exact blkW_0 | exact bAt_0 (by assumption) | exact bAt_0 (hA _ _) | rfl) (Nat.le_of_ble_eq_true rfl) (by first | exact Nat.le_refl _ | omega | decide) (by first | exact Nat.le_refl _ | omega | decide) (fun r hh1 hP => ?_)
  obtain ⟨rfl, r1⟩ := hP
  obtain ⟨⟨fs2, hf2⟩, a3⟩ := a2 _ r1
  refine V_aload_n rfl rfl ?_
  refine V_aload_n rfl rfl ?_
  refine V_iload_n rfl rfl ?_
  refine V_iconst (v := 1) rfl (by decide) ?_
  refine V_iadd rfl ?_
  refine V_sld (j := i + 1) rfl rfl (nI_add i 1) (by omega) (by omega) ?_
  refine V_callV rfl rfl m_MD_above_w m_MD_above_x rfl (by decide) rfl (a3 _ _) (by decide) rfl (by first | assumption | exact blkW_0 | exact bAt_0 (by assumption) | exact bAt_0 (hA _ _) | rfl) (Nat.le_of_ble_eq_true rfl) (by first | exact Nat.le_refl _ | omega | decide) (by first | exact Nat.le_refl _ | omega | decide) (fun r hh1 hP => ?_)
  obtain ⟨rfl, r2⟩ := hP
  refine V_icmp_eqT rfl (rfl) ?_
  exact kk _ r2
set_option maxRecDepth 20000 in
set_option maxHeartbeats 1000000 in
theorem z_users {h : mH} {i : Nat} (hi : i + 2 < gn g) (hg : gn g ≤ 1536) (hl : LI h) (kk : ∀ h2, LI h2 → V g 10 m_Law_law pL 135 3202 826 [.ref 0, .ref 1, .ref 108, .int (nI i)] [] h2 135 3202) : V g 10 m_Law_law pL 135 3202 280 [.ref 0, .ref 1, .ref 108, .int (nI i)] [] h 135 3202 := by
  obtain ⟨⟨fs1, hf1⟩, v, R, a1, a2⟩ := t_users (g := g) hl (gx g (i + 1))
  refine V_aload_n rfl rfl ?_
  refine V_aload_n rfl rfl ?_
  refine V_iload_n rfl rfl ?_
  refine V_iconst (v := 1) rfl (by decide) ?_
  refine V_iadd rfl ?_
  refine V_sld (j := i + 1) rfl rfl (nI_add i 1) (by omega) (by omega) ?_
  refine V_callV rfl rfl m_EB_users_w m_EB_users_x rfl (by decide) rfl (a1 _ _) (by decide) rfl (by first | assumption | exact blkW_0 | exact bAt_0 (by assumption) | exact bAt_0 (hA _ _) | rfl) (Nat.le_of_ble_eq_true rfl) (by first | exact Nat.le_refl _ | omega | decide) (by first | exact Nat.le_refl _ | omega | decide) (fun r hh1 hP => ?_)
  obtain ⟨rfl, r1⟩ := hP
  obtain ⟨⟨fs2, hf2⟩, a3⟩ := a2 _ r1
  refine V_aload_n rfl rfl ?_
  refine V_aload_n rfl rfl ?_
  refine V_iload_n rfl rfl ?_
  refine V_iconst (v := 1) rfl (by decide) ?_
  refine V_iadd rfl ?_
  refine V_sld (j := i + 1) rfl rfl (nI_add i 1) (by omega) (by omega) ?_
  refine V_callV rfl rfl m_MD_users_w m_MD_users_x rfl (by decide) rfl (a3 _ _) (by decide) rfl (by first | assumption | exact blkW_0 | exact bAt_0 (by assumption) | exact bAt_0 (hA _ _) | rfl) (Nat.le_of_ble_eq_true rfl) (by first | exact Nat.le_refl _ | omega | decide) (by first | exact Nat.le_refl _ | omega | decide) (fun r hh1 hP => ?_)
  obtain ⟨rfl, r2⟩ := hP
  refine V_icmp_eqT rfl (rfl) ?_
  exact kk _ r2
set_option maxRecDepth 20000 in
set_option maxHeartbeats 1000000 in
theorem z_common {h : mH} {i : Nat} (hi : i + 2 < gn g) (hg : gn g ≤ 1536) (hl : LI h) (kk : ∀ h2, LI h2 → V g 10 m_Law_law pL 135 3202 826 [.ref 0, .ref 1, .ref 108, .int (nI i)] [] h2 135 3202) : V g 10 m_Law_law pL 135 3202 303 [.ref 0, .ref 1, .ref 108, .int (nI i)] [] h 135 3202 := by
  obtain ⟨⟨fs1, hf1⟩, v, R, a1, a2⟩ := t_common (g := g) hl (gx g (i + 1)) (gx g (i + 2))
  refine V_aload_n rfl rfl ?_
  refine V_aload_n rfl rfl ?_
  refine V_iload_n rfl rfl ?_
  refine V_iconst (v := 1) rfl (by decide) ?_
  refine V_iadd rfl ?_
  refine V_sld (j := i + 1) rfl rfl (nI_add i 1) (by omega) (by omega) ?_
  refine V_aload_n rfl rfl ?_
  refine V_iload_n rfl rfl ?_
  refine V_iconst (v := 2) rfl (by decide) ?_
  refine V_iadd rfl ?_
  refine V_sld (j := i + 2) rfl rfl (nI_add i 2) (by omega) (by omega) ?_
  refine V_callV rfl rfl m_EB_common_w m_EB_common_x rfl (by decide) rfl (a1 _ _) (by decide) rfl (by first | assumption | exact blkW_0 | exact bAt_0 (by assumption) | exact bAt_0 (hA _ _) | rfl) (Nat.le_of_ble_eq_true rfl) (by first | exact Nat.le_refl _ | omega | decide) (by first | exact Nat.le_refl _ | omega | decide) (fun r hh1 hP => ?_)
  obtain ⟨rfl, r1⟩ := hP
  obtain ⟨⟨fs2, hf2⟩, a3⟩ := a2 _ r1
  refine V_aload_n rfl rfl ?_
  refine V_aload_n rfl rfl ?_
  refine V_iload_n rfl rfl ?_
  refine V_iconst (v := 1) rfl (by decide) ?_
  refine V_iadd rfl ?_
  refine V_sld (j := i + 1) rfl rfl (nI_add i 1) (by omega) (by omega) ?_
  refine V_aload_n rfl rfl ?_
  refine V_iload_n rfl rfl ?_
  refine V_iconst (v := 2) rfl (by decide) ?_
  refine V_iadd rfl ?_
  refine V_sld (j := i + 2) rfl rfl (nI_add i 2) (by omega) (by omega) ?_
  refine V_callV rfl rfl m_MD_common_w m_MD_common_x rfl (by decide) rfl (a3 _ _) (by decide) rfl (by first | assumption | exact blkW_0 | exact bAt_0 (by assumption) | exact bAt_0 (hA _ _) | rfl) (Nat.le_of_ble_eq_true rfl) (by first | exact Nat.le_refl _ | omega | decide) (by first | exact Nat.le_refl _ | omega | decide) (fun r hh1 hP => ?_)
  obtain ⟨rfl, r2⟩ := hP
  refine V_icmp_eqT rfl (rfl) ?_
  exact kk _ r2
set_option maxRecDepth 20000 in
set_option maxHeartbeats 1000000 in
theorem z_isBelow {h : mH} {i : Nat} (hi : i + 2 < gn g) (hg : gn g ≤ 1536) (hl : LI h) (kk : ∀ h2, LI h2 → V g 10 m_Law_law pL 135 3202 826 [.ref 0, .ref 1, .ref 108, .int (nI i)] [] h2 135 3202) : V g 10 m_Law_law pL 135 3202 336 [.ref 0, .ref 1, .ref 108, .int (nI i)] [] h 135 3202 := by
  obtain ⟨⟨fs1, hf1⟩, v, R, a1, a2⟩ := t_isBelow (g := g) hl (gx g (i + 1)) (gx g (i + 2))
  refine V_aload_n rfl rfl ?_
  refine V_aload_n rfl rfl ?_
  refine V_iload_n rfl rfl ?_
  refine V_iconst (v := 1) rfl (by decide) ?_
  refine V_iadd rfl ?_
  refine V_sld (j := i + 1) rfl rfl (nI_add i 1) (by omega) (by omega) ?_
  refine V_aload_n rfl rfl ?_
  refine V_iload_n rfl rfl ?_
  refine V_iconst (v := 2) rfl (by decide) ?_
  refine V_iadd rfl ?_
  refine V_sld (j := i + 2) rfl rfl (nI_add i 2) (by omega) (by omega) ?_
  refine V_callV rfl rfl m_EB_isBelow_w m_EB_isBelow_x rfl (by decide) rfl (a1 _ _) (by decide) rfl (by first | assumption | exact blkW_0 | exact bAt_0 (by assumption) | exact bAt_0 (hA _ _) | rfl) (Nat.le_of_ble_eq_true rfl) (by first | exact Nat.le_refl _ | omega | decide) (by first | exact Nat.le_refl _ | omega | decide) (fun r hh1 hP => ?_)
  obtain ⟨rfl, r1⟩ := hP
  obtain ⟨⟨fs2, hf2⟩, a3⟩ := a2 _ r1
  refine V_aload_n rfl rfl ?_
  refine V_aload_n rfl rfl ?_
  refine V_iload_n rfl rfl ?_
  refine V_iconst (v := 1) rfl (by decide) ?_
  refine V_iadd rfl ?_
  refine V_sld (j := i + 1) rfl rfl (nI_add i 1) (by omega) (by omega) ?_
  refine V_aload_n rfl rfl ?_
  refine V_iload_n rfl rfl ?_
  refine V_iconst (v := 2) rfl (by decide) ?_
  refine V_iadd rfl ?_
  refine V_sld (j := i + 2) rfl rfl (nI_add i 2) (by omega) (by omega) ?_
  refine V_callV rfl rfl m_MD_isBelow_w m_MD_isBelow_x rfl (by decide) rfl (a3 _ _) (by decide) rfl (by first | assumption | exact blkW_0 | exact bAt_0 (by assumption) | exact bAt_0 (hA _ _) | rfl) (Nat.le_of_ble_eq_true rfl) (by first | exact Nat.le_refl _ | omega | decide) (by first | exact Nat.le_refl _ | omega | decide) (fun r hh1 hP => ?_)
  obtain ⟨rfl, r2⟩ := hP
  refine V_icmp_eqT rfl (rfl) ?_
  exact kk _ r2
set_option maxRecDepth 20000 in
set_option maxHeartbeats 1000000 in
theorem z_makers {h : mH} {i : Nat} (hi : i + 2 < gn g) (hg : gn g ≤ 1536) (hl : LI h) (kk : ∀ h2, LI h2 → V g 10 m_Law_law pL 135 3202 826 [.ref 0, .ref 1, .ref 108, .int (nI i)] [] h2 135 3202) : V g 10 m_Law_law pL 135 3202 369 [.ref 0, .ref 1, .ref 108, .int (nI i)] [] h 135 3202 := by
  obtain ⟨⟨fs1, hf1⟩, v, R, a1, a2⟩ := t_makers (g := g) hl (gx g (i + 1))
  refine V_aload_n rfl rfl ?_
  refine V_aload_n rfl rfl ?_
  refine V_iload_n rfl rfl ?_
  refine V_iconst (v := 1) rfl (by decide) ?_
  refine V_iadd rfl ?_
  refine V_sld (j := i + 1) rfl rfl (nI_add i 1) (by omega) (by omega) ?_
  refine V_callV rfl rfl m_EB_makers_w m_EB_makers_x rfl (by decide) rfl (a1 _ _) (by decide) rfl (by first | assumption | exact blkW_0 | exact bAt_0 (by assumption) | exact bAt_0 (hA _ _) | rfl) (Nat.le_of_ble_eq_true rfl) (by first | exact Nat.le_refl _ | omega | decide) (by first | exact Nat.le_refl _ | omega | decide) (fun r hh1 hP => ?_)
  obtain ⟨rfl, r1⟩ := hP
  obtain ⟨⟨fs2, hf2⟩, a3⟩ := a2 _ r1
  refine V_aload_n rfl rfl ?_
  refine V_aload_n rfl rfl ?_
  refine V_iload_n rfl rfl ?_
  refine V_iconst (v := 1) rfl (by decide) ?_
  refine V_iadd rfl ?_
  refine V_sld (j := i + 1) rfl rfl (nI_add i 1) (by omega) (by omega) ?_
  refine V_callV rfl rfl m_MD_makers_w m_MD_makers_x rfl (by decide) rfl (a3 _ _) (by decide) rfl (by first | assumption | exact blkW_0 | exact bAt_0 (by assumption) | exact bAt_0 (hA _ _) | rfl) (Nat.le_of_ble_eq_true rfl) (by first | exact Nat.le_refl _ | omega | decide) (by first | exact Nat.le_refl _ | omega | decide) (fun r hh1 hP => ?_)
  obtain ⟨rfl, r2⟩ := hP
  refine V_icmp_eqT rfl (rfl) ?_
  exact kk _ r2
set_option maxRecDepth 20000 in
set_option maxHeartbeats 1000000 in
theorem z_found {h : mH} {i : Nat} (hi : i + 2 < gn g) (hg : gn g ≤ 1536) (hl : LI h) (kk : ∀ h2, LI h2 → V g 10 m_Law_law pL 135 3202 826 [.ref 0, .ref 1, .ref 108, .int (nI i)] [] h2 135 3202) : V g 10 m_Law_law pL 135 3202 392 [.ref 0, .ref 1, .ref 108, .int (nI i)] [] h 135 3202 := by
  obtain ⟨⟨fs1, hf1⟩, v, R, a1, a2⟩ := t_found (g := g) hl (gx g (i + 1)) (gx g (i + 2))
  refine V_aload_n rfl rfl ?_
  refine V_aload_n rfl rfl ?_
  refine V_iload_n rfl rfl ?_
  refine V_iconst (v := 1) rfl (by decide) ?_
  refine V_iadd rfl ?_
  refine V_sld (j := i + 1) rfl rfl (nI_add i 1) (by omega) (by omega) ?_
  refine V_aload_n rfl rfl ?_
  refine V_iload_n rfl rfl ?_
  refine V_iconst (v := 2) rfl (by decide) ?_
  refine V_iadd rfl ?_
  refine V_sld (j := i + 2) rfl rfl (nI_add i 2) (by omega) (by omega) ?_
  refine V_callV rfl rfl m_EB_found_w m_EB_found_x rfl (by decide) rfl (a1 _ _) (by decide) rfl (by first | assumption | exact blkW_0 | exact bAt_0 (by assumption) | exact bAt_0 (hA _ _) | rfl) (Nat.le_of_ble_eq_true rfl) (by first | exact Nat.le_refl _ | omega | decide) (by first | exact Nat.le_refl _ | omega | decide) (fun r hh1 hP => ?_)
  obtain ⟨rfl, r1⟩ := hP
  obtain ⟨⟨fs2, hf2⟩, a3⟩ := a2 _ r1
  refine V_aload_n rfl rfl ?_
  refine V_aload_n rfl rfl ?_
  refine V_iload_n rfl rfl ?_
  refine V_iconst (v := 1) rfl (by decide) ?_
  refine V_iadd rfl ?_
  refine V_sld (j := i + 1) rfl rfl (nI_add i 1) (by omega) (by omega) ?_
  refine V_aload_n rfl rfl ?_
  refine V_iload_n rfl rfl ?_
  refine V_iconst (v := 2) rfl (by decide) ?_
  refine V_iadd rfl ?_
  refine V_sld (j := i + 2) rfl rfl (nI_add i 2) (by omega) (by omega) ?_
  refine V_callV rfl rfl m_MD_found_w m_MD_found_x rfl (by decide) rfl (a3 _ _) (by decide) rfl (by first | assumption | exact blkW_0 | exact bAt_0 (by assumption) | exact bAt_0 (hA _ _) | rfl) (Nat.le_of_ble_eq_true rfl) (by first | exact Nat.le_refl _ | omega | decide) (by first | exact Nat.le_refl _ | omega | decide) (fun r hh1 hP => ?_)
  obtain ⟨rfl, r2⟩ := hP
  refine V_icmp_eqT rfl (rfl) ?_
  exact kk _ r2
set_option maxRecDepth 20000 in
set_option maxHeartbeats 1000000 in
theorem z_body {h : mH} {i : Nat} (hi : i + 2 < gn g) (hg : gn g ≤ 1536) (hl : LI h) (kk : ∀ h2, LI h2 → V g 10 m_Law_law pL 135 3202 826 [.ref 0, .ref 1, .ref 108, .int (nI i)] [] h2 135 3202) : V g 10 m_Law_law pL 135 3202 425 [.ref 0, .ref 1, .ref 108, .int (nI i)] [] h 135 3202 := by
  obtain ⟨⟨fs1, hf1⟩, v, R, a1, a2⟩ := t_body (g := g) hl (gx g (i + 1)) (gx g (i + 2))
  refine V_aload_n rfl rfl ?_
  refine V_aload_n rfl rfl ?_
  refine V_iload_n rfl rfl ?_
  refine V_iconst (v := 1) rfl (by decide) ?_
  refine V_iadd rfl ?_
  refine V_sld (j := i + 1) rfl rfl (nI_add i 1) (by omega) (by omega) ?_
  refine V_aload_n rfl rfl ?_
  refine V_iload_n rfl rfl ?_
  refine V_iconst (v := 2) rfl (by decide) ?_
  refine V_iadd rfl ?_
  refine V_sld (j := i + 2) rfl rfl (nI_add i 2) (by omega) (by omega) ?_
  refine V_callV rfl rfl m_EB_body_w m_EB_body_x rfl (by decide) rfl (a1 _ _) (by decide) rfl (by first | assumption | exact blkW_0 | exact bAt_0 (by assumption) | exact bAt_0 (hA _ _) | rfl) (Nat.le_of_ble_eq_true rfl) (by first | exact Nat.le_refl _ | omega | decide) (by first | exact Nat.le_refl _ | omega | decide) (fun r hh1 hP => ?_)
  obtain ⟨rfl, r1⟩ := hP
  obtain ⟨⟨fs2, hf2⟩, a3⟩ := a2 _ r1
  refine V_aload_n rfl rfl ?_
  refine V_aload_n rfl rfl ?_
  refine V_iload_n rfl rfl ?_
  refine V_iconst (v := 1) rfl (by decide) ?_
  refine V_iadd rfl ?_
  refine V_sld (j := i + 1) rfl rfl (nI_add i 1) (by omega) (by omega) ?_
  refine V_aload_n rfl rfl ?_
  refine V_iload_n rfl rfl ?_
  refine V_iconst (v := 2) rfl (by decide) ?_
  refine V_iadd rfl ?_
  refine V_sld (j := i + 2) rfl rfl (nI_add i 2) (by omega) (by omega) ?_
  refine V_callV rfl rfl m_MD_body_w m_MD_body_x rfl (by decide) rfl (a3 _ _) (by decide) rfl (by first | assumption | exact blkW_0 | exact bAt_0 (by assumption) | exact bAt_0 (hA _ _) | rfl) (Nat.le_of_ble_eq_true rfl) (by first | exact Nat.le_refl _ | omega | decide) (by first | exact Nat.le_refl _ | omega | decide) (fun r hh1 hP => ?_)
  obtain ⟨rfl, r2⟩ := hP
  refine V_icmp_eqT rfl (rfl) ?_
  exact kk _ r2
set_option maxRecDepth 20000 in
set_option maxHeartbeats 1000000 in
theorem z_callers {h : mH} {i : Nat} (hi : i + 2 < gn g) (hg : gn g ≤ 1536) (hl : LI h) (kk : ∀ h2, LI h2 → V g 10 m_Law_law pL 135 3202 826 [.ref 0, .ref 1, .ref 108, .int (nI i)] [] h2 135 3202) : V g 10 m_Law_law pL 135 3202 458 [.ref 0, .ref 1, .ref 108, .int (nI i)] [] h 135 3202 := by
  obtain ⟨⟨fs1, hf1⟩, v, R, a1, a2⟩ := t_callers (g := g) hl (gx g (i + 1))
  refine V_aload_n rfl rfl ?_
  refine V_aload_n rfl rfl ?_
  refine V_iload_n rfl rfl ?_
  refine V_iconst (v := 1) rfl (by decide) ?_
  refine V_iadd rfl ?_
  refine V_sld (j := i + 1) rfl rfl (nI_add i 1) (by omega) (by omega) ?_
  refine V_callV rfl rfl m_EB_callers_w m_EB_callers_x rfl (by decide) rfl (a1 _ _) (by decide) rfl (by first | assumption | exact blkW_0 | exact bAt_0 (by assumption) | exact bAt_0 (hA _ _) | rfl) (Nat.le_of_ble_eq_true rfl) (by first | exact Nat.le_refl _ | omega | decide) (by first | exact Nat.le_refl _ | omega | decide) (fun r hh1 hP => ?_)
  obtain ⟨rfl, r1⟩ := hP
  obtain ⟨⟨fs2, hf2⟩, a3⟩ := a2 _ r1
  refine V_aload_n rfl rfl ?_
  refine V_aload_n rfl rfl ?_
  refine V_iload_n rfl rfl ?_
  refine V_iconst (v := 1) rfl (by decide) ?_
  refine V_iadd rfl ?_
  refine V_sld (j := i + 1) rfl rfl (nI_add i 1) (by omega) (by omega) ?_
  refine V_callV rfl rfl m_MD_callers_w m_MD_callers_x rfl (by decide) rfl (a3 _ _) (by decide) rfl (by first | assumption | exact blkW_0 | exact bAt_0 (by assumption) | exact bAt_0 (hA _ _) | rfl) (Nat.le_of_ble_eq_true rfl) (by first | exact Nat.le_refl _ | omega | decide) (by first | exact Nat.le_refl _ | omega | decide) (fun r hh1 hP => ?_)
  obtain ⟨rfl, r2⟩ := hP
  refine V_icmp_eqT rfl (rfl) ?_
  exact kk _ r2
set_option maxRecDepth 20000 in
set_option maxHeartbeats 1000000 in
theorem z_call {h : mH} {i : Nat} (hi : i + 2 < gn g) (hg : gn g ≤ 1536) (hl : LI h) (kk : ∀ h2, LI h2 → V g 10 m_Law_law pL 135 3202 826 [.ref 0, .ref 1, .ref 108, .int (nI i)] [] h2 135 3202) : V g 10 m_Law_law pL 135 3202 481 [.ref 0, .ref 1, .ref 108, .int (nI i)] [] h 135 3202 := by
  obtain ⟨⟨fs1, hf1⟩, v, R, a1, a2⟩ := t_call (g := g) hl (gx g (i + 1)) (gx g (i + 2))
  refine V_aload_n rfl rfl ?_
  refine V_aload_n rfl rfl ?_
  refine V_iload_n rfl rfl ?_
  refine V_iconst (v := 1) rfl (by decide) ?_
  refine V_iadd rfl ?_
  refine V_sld (j := i + 1) rfl rfl (nI_add i 1) (by omega) (by omega) ?_
  refine V_aload_n rfl rfl ?_
  refine V_iload_n rfl rfl ?_
  refine V_iconst (v := 2) rfl (by decide) ?_
  refine V_iadd rfl ?_
  refine V_sld (j := i + 2) rfl rfl (nI_add i 2) (by omega) (by omega) ?_
  refine V_callV rfl rfl m_EB_call_w m_EB_call_x rfl (by decide) rfl (a1 _ _) (by decide) rfl (by first | assumption | exact blkW_0 | exact bAt_0 (by assumption) | exact bAt_0 (hA _ _) | rfl) (Nat.le_of_ble_eq_true rfl) (by first | exact Nat.le_refl _ | omega | decide) (by first | exact Nat.le_refl _ | omega | decide) (fun r hh1 hP => ?_)
  obtain ⟨rfl, r1⟩ := hP
  obtain ⟨⟨fs2, hf2⟩, a3⟩ := a2 _ r1
  refine V_aload_n rfl rfl ?_
  refine V_aload_n rfl rfl ?_
  refine V_iload_n rfl rfl ?_
  refine V_iconst (v := 1) rfl (by decide) ?_
  refine V_iadd rfl ?_
  refine V_sld (j := i + 1) rfl rfl (nI_add i 1) (by omega) (by omega) ?_
  refine V_aload_n rfl rfl ?_
  refine V_iload_n rfl rfl ?_
  refine V_iconst (v := 2) rfl (by decide) ?_
  refine V_iadd rfl ?_
  refine V_sld (j := i + 2) rfl rfl (nI_add i 2) (by omega) (by omega) ?_
  refine V_callV rfl rfl m_MD_call_w m_MD_call_x rfl (by decide) rfl (a3 _ _) (by decide) rfl (by first | assumption | exact blkW_0 | exact bAt_0 (by assumption) | exact bAt_0 (hA _ _) | rfl) (Nat.le_of_ble_eq_true rfl) (by first | exact Nat.le_refl _ | omega | decide) (by first | exact Nat.le_refl _ | omega | decide) (fun r hh1 hP => ?_)
  obtain ⟨rfl, r2⟩ := hP
  refine V_icmp_eqT rfl (rfl) ?_
  exact kk _ r2
set_option maxRecDepth 20000 in
set_option maxHeartbeats 1000000 in
theorem z_load {h : mH} {i : Nat} (hi : i + 2 < gn g) (hg : gn g ≤ 1536) (hl : LI h) (kk : ∀ h2, LI h2 → V g 10 m_Law_law pL 135 3202 826 [.ref 0, .ref 1, .ref 108, .int (nI i)] [] h2 135 3202) : V g 10 m_Law_law pL 135 3202 514 [.ref 0, .ref 1, .ref 108, .int (nI i)] [] h 135 3202 := by
  obtain ⟨⟨fs1, hf1⟩, v, R, a1, a2⟩ := t_load (g := g) hl (gx g (i + 1))
  refine V_aload_n rfl rfl ?_
  refine V_aload_n rfl rfl ?_
  refine V_iload_n rfl rfl ?_
  refine V_iconst (v := 1) rfl (by decide) ?_
  refine V_iadd rfl ?_
  refine V_sld (j := i + 1) rfl rfl (nI_add i 1) (by omega) (by omega) ?_
  refine V_callV rfl rfl m_EB_load_w m_EB_load_x rfl (by decide) rfl (a1 _ _) (by decide) rfl (by first | assumption | exact blkW_0 | exact bAt_0 (by assumption) | exact bAt_0 (hA _ _) | rfl) (Nat.le_of_ble_eq_true rfl) (by first | exact Nat.le_refl _ | omega | decide) (by first | exact Nat.le_refl _ | omega | decide) (fun r hh1 hP => ?_)
  obtain ⟨rfl, r1⟩ := hP
  obtain ⟨⟨fs2, hf2⟩, a3⟩ := a2 _ r1
  refine V_aload_n rfl rfl ?_
  refine V_aload_n rfl rfl ?_
  refine V_iload_n rfl rfl ?_
  refine V_iconst (v := 1) rfl (by decide) ?_
  refine V_iadd rfl ?_
  refine V_sld (j := i + 1) rfl rfl (nI_add i 1) (by omega) (by omega) ?_
  refine V_callV rfl rfl m_MD_load_w m_MD_load_x rfl (by decide) rfl (a3 _ _) (by decide) rfl (by first | assumption | exact blkW_0 | exact bAt_0 (by assumption) | exact bAt_0 (hA _ _) | rfl) (Nat.le_of_ble_eq_true rfl) (by first | exact Nat.le_refl _ | omega | decide) (by first | exact Nat.le_refl _ | omega | decide) (fun r hh1 hP => ?_)
  obtain ⟨rfl, r2⟩ := hP
  refine V_icmp_eqT rfl (rfl) ?_
  exact kk _ r2
set_option maxRecDepth 20000 in
set_option maxHeartbeats 1000000 in
theorem z_root {h : mH} {i : Nat} (hi : i + 2 < gn g) (hg : gn g ≤ 1536) (hl : LI h) (kk : ∀ h2, LI h2 → V g 10 m_Law_law pL 135 3202 826 [.ref 0, .ref 1, .ref 108, .int (nI i)] [] h2 135 3202) : V g 10 m_Law_law pL 135 3202 537 [.ref 0, .ref 1, .ref 108, .int (nI i)] [] h 135 3202 := by
  by_cases hz : gx g (i + 2) = 0
  · show _
    obtain ⟨⟨fs1, hf1⟩, v, R, a1, a2⟩ := t_root (g := g) hl (gx g (i + 1)) false
    refine V_aload_n rfl rfl ?_
    refine V_aload_n rfl rfl ?_
    refine V_iload_n rfl rfl ?_
    refine V_iconst (v := 1) rfl (by decide) ?_
    refine V_iadd rfl ?_
    refine V_sld (j := i + 1) rfl rfl (nI_add i 1) (by omega) (by omega) ?_
    refine V_aload_n rfl rfl ?_
    refine V_iload_n rfl rfl ?_
    refine V_iconst (v := 2) rfl (by decide) ?_
    refine V_iadd rfl ?_
    refine V_sld (j := i + 2) rfl rfl (nI_add i 2) (by omega) (by omega) ?_
    refine V_if_eqT rfl (hz) ?_
    refine V_iconst (v := 0) rfl (by decide) ?_
    refine V_callV rfl rfl m_EB_root_w m_EB_root_x rfl (by decide) rfl (a1 _ _) (by decide) rfl (by first | assumption | exact blkW_0 | exact bAt_0 (by assumption) | exact bAt_0 (hA _ _) | rfl) (Nat.le_of_ble_eq_true rfl) (by first | exact Nat.le_refl _ | omega | decide) (by first | exact Nat.le_refl _ | omega | decide) (fun r hh1 hP => ?_)
    obtain ⟨rfl, r1⟩ := hP
    obtain ⟨⟨fs2, hf2⟩, a3⟩ := a2 _ r1
    refine V_aload_n rfl rfl ?_
    refine V_aload_n rfl rfl ?_
    refine V_iload_n rfl rfl ?_
    refine V_iconst (v := 1) rfl (by decide) ?_
    refine V_iadd rfl ?_
    refine V_sld (j := i + 1) rfl rfl (nI_add i 1) (by omega) (by omega) ?_
    refine V_aload_n rfl rfl ?_
    refine V_iload_n rfl rfl ?_
    refine V_iconst (v := 2) rfl (by decide) ?_
    refine V_iadd rfl ?_
    refine V_sld (j := i + 2) rfl rfl (nI_add i 2) (by omega) (by omega) ?_
    refine V_if_eqT rfl (hz) ?_
    refine V_iconst (v := 0) rfl (by decide) ?_
    refine V_callV rfl rfl m_MD_root_w m_MD_root_x rfl (by decide) rfl (a3 _ _) (by decide) rfl (by first | assumption | exact blkW_0 | exact bAt_0 (by assumption) | exact bAt_0 (hA _ _) | rfl) (Nat.le_of_ble_eq_true rfl) (by first | exact Nat.le_refl _ | omega | decide) (by first | exact Nat.le_refl _ | omega | decide) (fun r hh1 hP => ?_)
    obtain ⟨rfl, r2⟩ := hP
    refine V_icmp_eqT rfl (rfl) ?_
    exact kk _ r2
  · show _
    obtain ⟨⟨fs1, hf1⟩, v, R, a1, a2⟩ := t_root (g := g) hl (gx g (i + 1)) true
    refine V_aload_n rfl rfl ?_
    refine V_aload_n rfl rfl ?_
    refine V_iload_n rfl rfl ?_
    refine V_iconst (v := 1) rfl (by decide) ?_
    refine V_iadd rfl ?_
    refine V_sld (j := i + 1) rfl rfl (nI_add i 1) (by omega) (by omega) ?_
    refine V_aload_n rfl rfl ?_
    refine V_iload_n rfl rfl ?_
    refine V_iconst (v := 2) rfl (by decide) ?_
    refine V_iadd rfl ?_
    refine V_sld (j := i + 2) rfl rfl (nI_add i 2) (by omega) (by omega) ?_
    refine V_if_eqF rfl (hz) ?_
    refine V_iconst (v := 1) rfl (by decide) ?_
    refine V_goto rfl ?_
    refine V_callV rfl rfl m_EB_root_w m_EB_root_x rfl (by decide) rfl (a1 _ _) (by decide) rfl (by first | assumption | exact blkW_0 | exact bAt_0 (by assumption) | exact bAt_0 (hA _ _) | rfl) (Nat.le_of_ble_eq_true rfl) (by first | exact Nat.le_refl _ | omega | decide) (by first | exact Nat.le_refl _ | omega | decide) (fun r hh1 hP => ?_)
    obtain ⟨rfl, r1⟩ := hP
    obtain ⟨⟨fs2, hf2⟩, a3⟩ := a2 _ r1
    refine V_aload_n rfl rfl ?_
    refine V_aload_n rfl rfl ?_
    refine V_iload_n rfl rfl ?_
    refine V_iconst (v := 1) rfl (by decide) ?_
    refine V_iadd rfl ?_
    refine V_sld (j := i + 1) rfl rfl (nI_add i 1) (by omega) (by omega) ?_
    refine V_aload_n rfl rfl ?_
    refine V_iload_n rfl rfl ?_
    refine V_iconst (v := 2) rfl (by decide) ?_
    refine V_iadd rfl ?_
    refine V_sld (j := i + 2) rfl rfl (nI_add i 2) (by omega) (by omega) ?_
    refine V_if_eqF rfl (hz) ?_
    refine V_iconst (v := 1) rfl (by decide) ?_
    refine V_goto rfl ?_
    refine V_callV rfl rfl m_MD_root_w m_MD_root_x rfl (by decide) rfl (a3 _ _) (by decide) rfl (by first | assumption | exact blkW_0 | exact bAt_0 (by assumption) | exact bAt_0 (hA _ _) | rfl) (Nat.le_of_ble_eq_true rfl) (by first | exact Nat.le_refl _ | omega | decide) (by first | exact Nat.le_refl _ | omega | decide) (fun r hh1 hP => ?_)
    obtain ⟨rfl, r2⟩ := hP
    refine V_icmp_eqT rfl (rfl) ?_
    exact kk _ r2
set_option maxRecDepth 20000 in
set_option maxHeartbeats 1000000 in
theorem z_bind {h : mH} {i : Nat} (hi : i + 2 < gn g) (hg : gn g ≤ 1536) (hl : LI h) (kk : ∀ h2, LI h2 → V g 10 m_Law_law pL 135 3202 826 [.ref 0, .ref 1, .ref 108, .int (nI i)] [] h2 135 3202) : V g 10 m_Law_law pL 135 3202 586 [.ref 0, .ref 1, .ref 108, .int (nI i)] [] h 135 3202 := by
  obtain ⟨⟨fs1, hf1⟩, v, R, a1, a2⟩ := t_bind (g := g) hl (gx g (i + 1))
  refine V_aload_n rfl rfl ?_
  refine V_aload_n rfl rfl ?_
  refine V_iload_n rfl rfl ?_
  refine V_iconst (v := 1) rfl (by decide) ?_
  refine V_iadd rfl ?_
  refine V_sld (j := i + 1) rfl rfl (nI_add i 1) (by omega) (by omega) ?_
  refine V_callV rfl rfl m_EB_bind_w m_EB_bind_x rfl (by decide) rfl (a1 _ _) (by decide) rfl (by first | assumption | exact blkW_0 | exact bAt_0 (by assumption) | exact bAt_0 (hA _ _) | rfl) (Nat.le_of_ble_eq_true rfl) (by first | exact Nat.le_refl _ | omega | decide) (by first | exact Nat.le_refl _ | omega | decide) (fun r hh1 hP => ?_)
  obtain ⟨rfl, r1⟩ := hP
  obtain ⟨⟨fs2, hf2⟩, a3⟩ := a2 _ r1
  refine V_aload_n rfl rfl ?_
  refine V_aload_n rfl rfl ?_
  refine V_iload_n rfl rfl ?_
  refine V_iconst (v := 1) rfl (by decide) ?_
  refine V_iadd rfl ?_
  refine V_sld (j := i + 1) rfl rfl (nI_add i 1) (by omega) (by omega) ?_
  refine V_callV rfl rfl m_MD_bind_w m_MD_bind_x rfl (by decide) rfl (a3 _ _) (by decide) rfl (by first | assumption | exact blkW_0 | exact bAt_0 (by assumption) | exact bAt_0 (hA _ _) | rfl) (Nat.le_of_ble_eq_true rfl) (by first | exact Nat.le_refl _ | omega | decide) (by first | exact Nat.le_refl _ | omega | decide) (fun r hh1 hP => ?_)
  obtain ⟨rfl, r2⟩ := hP
  refine V_icmp_eqT rfl (rfl) ?_
  exact kk _ r2
set_option maxRecDepth 20000 in
set_option maxHeartbeats 1000000 in
theorem z_bindAll {h : mH} {i : Nat} (hi : i + 2 < gn g) (hg : gn g ≤ 1536) (hl : LI h) (kk : ∀ h2, LI h2 → V g 10 m_Law_law pL 135 3202 826 [.ref 0, .ref 1, .ref 108, .int (nI i)] [] h2 135 3202) : V g 10 m_Law_law pL 135 3202 609 [.ref 0, .ref 1, .ref 108, .int (nI i)] [] h 135 3202 := by
  obtain ⟨⟨fs1, hf1⟩, v, R, a1, a2⟩ := t_bindAll (g := g) hl
  refine V_aload_n rfl rfl ?_
  refine V_callV rfl rfl m_EB_bindAll_w m_EB_bindAll_x rfl (by decide) rfl (a1 _ _) (by decide) rfl (by first | assumption | exact blkW_0 | exact bAt_0 (by assumption) | exact bAt_0 (hA _ _) | rfl) (Nat.le_of_ble_eq_true rfl) (by first | exact Nat.le_refl _ | omega | decide) (by first | exact Nat.le_refl _ | omega | decide) (fun r hh1 hP => ?_)
  obtain ⟨rfl, r1⟩ := hP
  obtain ⟨⟨fs2, hf2⟩, a3⟩ := a2 _ r1
  refine V_aload_n rfl rfl ?_
  refine V_callV rfl rfl m_MD_bindAll_w m_MD_bindAll_x rfl (by decide) rfl (a3 _ _) (by decide) rfl (by first | assumption | exact blkW_0 | exact bAt_0 (by assumption) | exact bAt_0 (hA _ _) | rfl) (Nat.le_of_ble_eq_true rfl) (by first | exact Nat.le_refl _ | omega | decide) (by first | exact Nat.le_refl _ | omega | decide) (fun r hh1 hP => ?_)
  obtain ⟨rfl, r2⟩ := hP
  refine V_icmp_eqT rfl (rfl) ?_
  exact kk _ r2
set_option maxRecDepth 20000 in
set_option maxHeartbeats 1000000 in
theorem z_loose {h : mH} {i : Nat} (hi : i + 2 < gn g) (hg : gn g ≤ 1536) (hl : LI h) (kk : ∀ h2, LI h2 → V g 10 m_Law_law pL 135 3202 826 [.ref 0, .ref 1, .ref 108, .int (nI i)] [] h2 135 3202) : V g 10 m_Law_law pL 135 3202 622 [.ref 0, .ref 1, .ref 108, .int (nI i)] [] h 135 3202 := by
  obtain ⟨⟨fs1, hf1⟩, v, R, a1, a2⟩ := t_loose (g := g) hl (gx g (i + 1))
  refine V_aload_n rfl rfl ?_
  refine V_aload_n rfl rfl ?_
  refine V_iload_n rfl rfl ?_
  refine V_iconst (v := 1) rfl (by decide) ?_
  refine V_iadd rfl ?_
  refine V_sld (j := i + 1) rfl rfl (nI_add i 1) (by omega) (by omega) ?_
  refine V_callV rfl rfl m_EB_loose_w m_EB_loose_x rfl (by decide) rfl (a1 _ _) (by decide) rfl (by first | assumption | exact blkW_0 | exact bAt_0 (by assumption) | exact bAt_0 (hA _ _) | rfl) (Nat.le_of_ble_eq_true rfl) (by first | exact Nat.le_refl _ | omega | decide) (by first | exact Nat.le_refl _ | omega | decide) (fun r hh1 hP => ?_)
  obtain ⟨rfl, r1⟩ := hP
  obtain ⟨⟨fs2, hf2⟩, a3⟩ := a2 _ r1
  refine V_aload_n rfl rfl ?_
  refine V_aload_n rfl rfl ?_
  refine V_iload_n rfl rfl ?_
  refine V_iconst (v := 1) rfl (by decide) ?_
  refine V_iadd rfl ?_
  refine V_sld (j := i + 1) rfl rfl (nI_add i 1) (by omega) (by omega) ?_
  refine V_callV rfl rfl m_MD_loose_w m_MD_loose_x rfl (by decide) rfl (a3 _ _) (by decide) rfl (by first | assumption | exact blkW_0 | exact bAt_0 (by assumption) | exact bAt_0 (hA _ _) | rfl) (Nat.le_of_ble_eq_true rfl) (by first | exact Nat.le_refl _ | omega | decide) (by first | exact Nat.le_refl _ | omega | decide) (fun r hh1 hP => ?_)
  obtain ⟨rfl, r2⟩ := hP
  refine V_icmp_eqT rfl (rfl) ?_
  exact kk _ r2
set_option maxRecDepth 20000 in
set_option maxHeartbeats 1000000 in
theorem z_drift {h : mH} {i : Nat} (hi : i + 2 < gn g) (hg : gn g ≤ 1536) (hl : LI h) (kk : ∀ h2, LI h2 → V g 10 m_Law_law pL 135 3202 826 [.ref 0, .ref 1, .ref 108, .int (nI i)] [] h2 135 3202) : V g 10 m_Law_law pL 135 3202 645 [.ref 0, .ref 1, .ref 108, .int (nI i)] [] h 135 3202 := by
  obtain ⟨⟨fs1, hf1⟩, v, R, a1, a2⟩ := t_drift (g := g) hl (gx g (i + 1)) (gx g (i + 2))
  refine V_aload_n rfl rfl ?_
  refine V_aload_n rfl rfl ?_
  refine V_iload_n rfl rfl ?_
  refine V_iconst (v := 1) rfl (by decide) ?_
  refine V_iadd rfl ?_
  refine V_sld (j := i + 1) rfl rfl (nI_add i 1) (by omega) (by omega) ?_
  refine V_aload_n rfl rfl ?_
  refine V_iload_n rfl rfl ?_
  refine V_iconst (v := 2) rfl (by decide) ?_
  refine V_iadd rfl ?_
  refine V_sld (j := i + 2) rfl rfl (nI_add i 2) (by omega) (by omega) ?_
  refine V_callV rfl rfl m_EB_drift_w m_EB_drift_x rfl (by decide) rfl (a1 _ _) (by decide) rfl (by first | assumption | exact blkW_0 | exact bAt_0 (by assumption) | exact bAt_0 (hA _ _) | rfl) (Nat.le_of_ble_eq_true rfl) (by first | exact Nat.le_refl _ | omega | decide) (by first | exact Nat.le_refl _ | omega | decide) (fun r hh1 hP => ?_)
  obtain ⟨rfl, r1⟩ := hP
  obtain ⟨⟨fs2, hf2⟩, a3⟩ := a2 _ r1
  refine V_aload_n rfl rfl ?_
  refine V_aload_n rfl rfl ?_
  refine V_iload_n rfl rfl ?_
  refine V_iconst (v := 1) rfl (by decide) ?_
  refine V_iadd rfl ?_
  refine V_sld (j := i + 1) rfl rfl (nI_add i 1) (by omega) (by omega) ?_
  refine V_aload_n rfl rfl ?_
  refine V_iload_n rfl rfl ?_
  refine V_iconst (v := 2) rfl (by decide) ?_
  refine V_iadd rfl ?_
  refine V_sld (j := i + 2) rfl rfl (nI_add i 2) (by omega) (by omega) ?_
  refine V_callV rfl rfl m_MD_drift_w m_MD_drift_x rfl (by decide) rfl (a3 _ _) (by decide) rfl (by first | assumption | exact blkW_0 | exact bAt_0 (by assumption) | exact bAt_0 (hA _ _) | rfl) (Nat.le_of_ble_eq_true rfl) (by first | exact Nat.le_refl _ | omega | decide) (by first | exact Nat.le_refl _ | omega | decide) (fun r hh1 hP => ?_)
  obtain ⟨rfl, r2⟩ := hP
  refine V_icmp_eqT rfl (rfl) ?_
  exact kk _ r2
set_option maxRecDepth 20000 in
set_option maxHeartbeats 1000000 in
theorem z_undo {h : mH} {i : Nat} (hi : i + 2 < gn g) (hg : gn g ≤ 1536) (hl : LI h) (kk : ∀ h2, LI h2 → V g 10 m_Law_law pL 135 3202 826 [.ref 0, .ref 1, .ref 108, .int (nI i)] [] h2 135 3202) : V g 10 m_Law_law pL 135 3202 678 [.ref 0, .ref 1, .ref 108, .int (nI i)] [] h 135 3202 := by
  obtain ⟨⟨fs1, hf1⟩, v, R, a1, a2⟩ := t_undo (g := g) hl
  refine V_aload_n rfl rfl ?_
  refine V_callV rfl rfl m_EB_undo_w m_EB_undo_x rfl (by decide) rfl (a1 _ _) (by decide) rfl (by first | assumption | exact blkW_0 | exact bAt_0 (by assumption) | exact bAt_0 (hA _ _) | rfl) (Nat.le_of_ble_eq_true rfl) (by first | exact Nat.le_refl _ | omega | decide) (by first | exact Nat.le_refl _ | omega | decide) (fun r hh1 hP => ?_)
  obtain ⟨rfl, r1⟩ := hP
  obtain ⟨⟨fs2, hf2⟩, a3⟩ := a2 _ r1
  refine V_aload_n rfl rfl ?_
  refine V_callV rfl rfl m_MD_undo_w m_MD_undo_x rfl (by decide) rfl (a3 _ _) (by decide) rfl (by first | assumption | exact blkW_0 | exact bAt_0 (by assumption) | exact bAt_0 (hA _ _) | rfl) (Nat.le_of_ble_eq_true rfl) (by first | exact Nat.le_refl _ | omega | decide) (by first | exact Nat.le_refl _ | omega | decide) (fun r hh1 hP => ?_)
  obtain ⟨rfl, r2⟩ := hP
  refine V_icmp_eqT rfl (rfl) ?_
  exact kk _ r2
set_option maxRecDepth 20000 in
set_option maxHeartbeats 1000000 in
theorem z_way {h : mH} {i : Nat} (hi : i + 2 < gn g) (hg : gn g ≤ 1536) (hl : LI h) (kk : ∀ h2, LI h2 → V g 10 m_Law_law pL 135 3202 826 [.ref 0, .ref 1, .ref 108, .int (nI i)] [] h2 135 3202) : V g 10 m_Law_law pL 135 3202 691 [.ref 0, .ref 1, .ref 108, .int (nI i)] [] h 135 3202 := by
  obtain ⟨⟨fs1, hf1⟩, v, R, a1, a2⟩ := t_way (g := g) hl (gx g (i + 1)) (gx g (i + 2))
  refine V_aload_n rfl rfl ?_
  refine V_aload_n rfl rfl ?_
  refine V_iload_n rfl rfl ?_
  refine V_iconst (v := 1) rfl (by decide) ?_
  refine V_iadd rfl ?_
  refine V_sld (j := i + 1) rfl rfl (nI_add i 1) (by omega) (by omega) ?_
  refine V_aload_n rfl rfl ?_
  refine V_iload_n rfl rfl ?_
  refine V_iconst (v := 2) rfl (by decide) ?_
  refine V_iadd rfl ?_
  refine V_sld (j := i + 2) rfl rfl (nI_add i 2) (by omega) (by omega) ?_
  refine V_callV rfl rfl m_EB_way_w m_EB_way_x rfl (by decide) rfl (a1 _ _) (by decide) rfl (by first | assumption | exact blkW_0 | exact bAt_0 (by assumption) | exact bAt_0 (hA _ _) | rfl) (Nat.le_of_ble_eq_true rfl) (by first | exact Nat.le_refl _ | omega | decide) (by first | exact Nat.le_refl _ | omega | decide) (fun r hh1 hP => ?_)
  obtain ⟨rfl, r1⟩ := hP
  obtain ⟨⟨fs2, hf2⟩, a3⟩ := a2 _ r1
  refine V_aload_n rfl rfl ?_
  refine V_aload_n rfl rfl ?_
  refine V_iload_n rfl rfl ?_
  refine V_iconst (v := 1) rfl (by decide) ?_
  refine V_iadd rfl ?_
  refine V_sld (j := i + 1) rfl rfl (nI_add i 1) (by omega) (by omega) ?_
  refine V_aload_n rfl rfl ?_
  refine V_iload_n rfl rfl ?_
  refine V_iconst (v := 2) rfl (by decide) ?_
  refine V_iadd rfl ?_
  refine V_sld (j := i + 2) rfl rfl (nI_add i 2) (by omega) (by omega) ?_
  refine V_callV rfl rfl m_MD_way_w m_MD_way_x rfl (by decide) rfl (a3 _ _) (by decide) rfl (by first | assumption | exact blkW_0 | exact bAt_0 (by assumption) | exact bAt_0 (hA _ _) | rfl) (Nat.le_of_ble_eq_true rfl) (by first | exact Nat.le_refl _ | omega | decide) (by first | exact Nat.le_refl _ | omega | decide) (fun r hh1 hP => ?_)
  obtain ⟨rfl, r2⟩ := hP
  refine V_icmp_eqT rfl (rfl) ?_
  exact kk _ r2
set_option maxRecDepth 20000 in
set_option maxHeartbeats 1000000 in
theorem z_journal {h : mH} {i : Nat} (hi : i + 2 < gn g) (hg : gn g ≤ 1536) (hl : LI h) (kk : ∀ h2, LI h2 → V g 10 m_Law_law pL 135 3202 826 [.ref 0, .ref 1, .ref 108, .int (nI i)] [] h2 135 3202) : V g 10 m_Law_law pL 135 3202 724 [.ref 0, .ref 1, .ref 108, .int (nI i)] [] h 135 3202 := by
  obtain ⟨⟨fs1, hf1⟩, v, R, a1, a2⟩ := t_journal (g := g) hl (gx g (i + 1)) (gx g (i + 2))
  refine V_aload_n rfl rfl ?_
  refine V_aload_n rfl rfl ?_
  refine V_iload_n rfl rfl ?_
  refine V_iconst (v := 1) rfl (by decide) ?_
  refine V_iadd rfl ?_
  refine V_sld (j := i + 1) rfl rfl (nI_add i 1) (by omega) (by omega) ?_
  refine V_aload_n rfl rfl ?_
  refine V_iload_n rfl rfl ?_
  refine V_iconst (v := 2) rfl (by decide) ?_
  refine V_iadd rfl ?_
  refine V_sld (j := i + 2) rfl rfl (nI_add i 2) (by omega) (by omega) ?_
  refine V_callV rfl rfl m_EB_journal_w m_EB_journal_x rfl (by decide) rfl (a1 _ _) (by decide) rfl (by first | assumption | exact blkW_0 | exact bAt_0 (by assumption) | exact bAt_0 (hA _ _) | rfl) (Nat.le_of_ble_eq_true rfl) (by first | exact Nat.le_refl _ | omega | decide) (by first | exact Nat.le_refl _ | omega | decide) (fun r hh1 hP => ?_)
  obtain ⟨rfl, r1⟩ := hP
  obtain ⟨⟨fs2, hf2⟩, a3⟩ := a2 _ r1
  refine V_aload_n rfl rfl ?_
  refine V_aload_n rfl rfl ?_
  refine V_iload_n rfl rfl ?_
  refine V_iconst (v := 1) rfl (by decide) ?_
  refine V_iadd rfl ?_
  refine V_sld (j := i + 1) rfl rfl (nI_add i 1) (by omega) (by omega) ?_
  refine V_aload_n rfl rfl ?_
  refine V_iload_n rfl rfl ?_
  refine V_iconst (v := 2) rfl (by decide) ?_
  refine V_iadd rfl ?_
  refine V_sld (j := i + 2) rfl rfl (nI_add i 2) (by omega) (by omega) ?_
  refine V_callV rfl rfl m_MD_journal_w m_MD_journal_x rfl (by decide) rfl (a3 _ _) (by decide) rfl (by first | assumption | exact blkW_0 | exact bAt_0 (by assumption) | exact bAt_0 (hA _ _) | rfl) (Nat.le_of_ble_eq_true rfl) (by first | exact Nat.le_refl _ | omega | decide) (by first | exact Nat.le_refl _ | omega | decide) (fun r hh1 hP => ?_)
  obtain ⟨rfl, r2⟩ := hP
  refine V_icmp_eqT rfl (rfl) ?_
  exact kk _ r2
set_option maxRecDepth 20000 in
set_option maxHeartbeats 1000000 in
theorem z_holds {h : mH} {i : Nat} (hi : i + 2 < gn g) (hg : gn g ≤ 1536) (hl : LI h) (kk : ∀ h2, LI h2 → V g 10 m_Law_law pL 135 3202 826 [.ref 0, .ref 1, .ref 108, .int (nI i)] [] h2 135 3202) : V g 10 m_Law_law pL 135 3202 757 [.ref 0, .ref 1, .ref 108, .int (nI i)] [] h 135 3202 := by
  obtain ⟨⟨fs1, hf1⟩, v, R, a1, a2⟩ := t_holds (g := g) hl (gx g (i + 1))
  refine V_aload_n rfl rfl ?_
  refine V_aload_n rfl rfl ?_
  refine V_iload_n rfl rfl ?_
  refine V_iconst (v := 1) rfl (by decide) ?_
  refine V_iadd rfl ?_
  refine V_sld (j := i + 1) rfl rfl (nI_add i 1) (by omega) (by omega) ?_
  refine V_callV rfl rfl m_EB_holds_w m_EB_holds_x rfl (by decide) rfl (a1 _ _) (by decide) rfl (by first | assumption | exact blkW_0 | exact bAt_0 (by assumption) | exact bAt_0 (hA _ _) | rfl) (Nat.le_of_ble_eq_true rfl) (by first | exact Nat.le_refl _ | omega | decide) (by first | exact Nat.le_refl _ | omega | decide) (fun r hh1 hP => ?_)
  obtain ⟨rfl, r1⟩ := hP
  obtain ⟨⟨fs2, hf2⟩, a3⟩ := a2 _ r1
  refine V_aload_n rfl rfl ?_
  refine V_aload_n rfl rfl ?_
  refine V_iload_n rfl rfl ?_
  refine V_iconst (v := 1) rfl (by decide) ?_
  refine V_iadd rfl ?_
  refine V_sld (j := i + 1) rfl rfl (nI_add i 1) (by omega) (by omega) ?_
  refine V_callV rfl rfl m_MD_holds_w m_MD_holds_x rfl (by decide) rfl (a3 _ _) (by decide) rfl (by first | assumption | exact blkW_0 | exact bAt_0 (by assumption) | exact bAt_0 (hA _ _) | rfl) (Nat.le_of_ble_eq_true rfl) (by first | exact Nat.le_refl _ | omega | decide) (by first | exact Nat.le_refl _ | omega | decide) (fun r hh1 hP => ?_)
  obtain ⟨rfl, r2⟩ := hP
  refine V_icmp_eqT rfl (rfl) ?_
  exact kk _ r2
set_option maxRecDepth 20000 in
set_option maxHeartbeats 1000000 in
theorem z_keep {h : mH} {i : Nat} (hi : i + 2 < gn g) (hg : gn g ≤ 1536) (hl : LI h) (kk : ∀ h2, LI h2 → V g 10 m_Law_law pL 135 3202 826 [.ref 0, .ref 1, .ref 108, .int (nI i)] [] h2 135 3202) : V g 10 m_Law_law pL 135 3202 780 [.ref 0, .ref 1, .ref 108, .int (nI i)] [] h 135 3202 := by
  obtain ⟨⟨fs1, hf1⟩, v, R, a1, a2⟩ := t_keep (g := g) hl (gx g (i + 1))
  refine V_aload_n rfl rfl ?_
  refine V_aload_n rfl rfl ?_
  refine V_iload_n rfl rfl ?_
  refine V_iconst (v := 1) rfl (by decide) ?_
  refine V_iadd rfl ?_
  refine V_sld (j := i + 1) rfl rfl (nI_add i 1) (by omega) (by omega) ?_
  refine V_callV rfl rfl m_EB_keep_w m_EB_keep_x rfl (by decide) rfl (a1 _ _) (by decide) rfl (by first | assumption | exact blkW_0 | exact bAt_0 (by assumption) | exact bAt_0 (hA _ _) | rfl) (Nat.le_of_ble_eq_true rfl) (by first | exact Nat.le_refl _ | omega | decide) (by first | exact Nat.le_refl _ | omega | decide) (fun r hh1 hP => ?_)
  obtain ⟨rfl, r1⟩ := hP
  obtain ⟨⟨fs2, hf2⟩, a3⟩ := a2 _ r1
  refine V_aload_n rfl rfl ?_
  refine V_aload_n rfl rfl ?_
  refine V_iload_n rfl rfl ?_
  refine V_iconst (v := 1) rfl (by decide) ?_
  refine V_iadd rfl ?_
  refine V_sld (j := i + 1) rfl rfl (nI_add i 1) (by omega) (by omega) ?_
  refine V_callV rfl rfl m_MD_keep_w m_MD_keep_x rfl (by decide) rfl (a3 _ _) (by decide) rfl (by first | assumption | exact blkW_0 | exact bAt_0 (by assumption) | exact bAt_0 (hA _ _) | rfl) (Nat.le_of_ble_eq_true rfl) (by first | exact Nat.le_refl _ | omega | decide) (by first | exact Nat.le_refl _ | omega | decide) (fun r hh1 hP => ?_)
  obtain ⟨rfl, r2⟩ := hP
  refine V_icmp_eqT rfl (rfl) ?_
  exact kk _ r2
set_option maxRecDepth 20000 in
set_option maxHeartbeats 1000000 in
theorem z_goBack {h : mH} {i : Nat} (hi : i + 2 < gn g) (hg : gn g ≤ 1536) (hl : LI h) (kk : ∀ h2, LI h2 → V g 10 m_Law_law pL 135 3202 826 [.ref 0, .ref 1, .ref 108, .int (nI i)] [] h2 135 3202) : V g 10 m_Law_law pL 135 3202 803 [.ref 0, .ref 1, .ref 108, .int (nI i)] [] h 135 3202 := by
  obtain ⟨⟨fs1, hf1⟩, v, R, a1, a2⟩ := t_goBack (g := g) hl (gx g (i + 1))
  refine V_aload_n rfl rfl ?_
  refine V_aload_n rfl rfl ?_
  refine V_iload_n rfl rfl ?_
  refine V_iconst (v := 1) rfl (by decide) ?_
  refine V_iadd rfl ?_
  refine V_sld (j := i + 1) rfl rfl (nI_add i 1) (by omega) (by omega) ?_
  refine V_callV rfl rfl m_EB_goBack_w m_EB_goBack_x rfl (by decide) rfl (a1 _ _) (by decide) rfl (by first | assumption | exact blkW_0 | exact bAt_0 (by assumption) | exact bAt_0 (hA _ _) | rfl) (Nat.le_of_ble_eq_true rfl) (by first | exact Nat.le_refl _ | omega | decide) (by first | exact Nat.le_refl _ | omega | decide) (fun r hh1 hP => ?_)
  obtain ⟨rfl, r1⟩ := hP
  obtain ⟨⟨fs2, hf2⟩, a3⟩ := a2 _ r1
  refine V_aload_n rfl rfl ?_
  refine V_aload_n rfl rfl ?_
  refine V_iload_n rfl rfl ?_
  refine V_iconst (v := 1) rfl (by decide) ?_
  refine V_iadd rfl ?_
  refine V_sld (j := i + 1) rfl rfl (nI_add i 1) (by omega) (by omega) ?_
  refine V_callV rfl rfl m_MD_goBack_w m_MD_goBack_x rfl (by decide) rfl (a3 _ _) (by decide) rfl (by first | assumption | exact blkW_0 | exact bAt_0 (by assumption) | exact bAt_0 (hA _ _) | rfl) (Nat.le_of_ble_eq_true rfl) (by first | exact Nat.le_refl _ | omega | decide) (by first | exact Nat.le_refl _ | omega | decide) (fun r hh1 hP => ?_)
  obtain ⟨rfl, r2⟩ := hP
  refine V_icmp_eqT rfl (rfl) ?_
  exact kk _ r2
set_option maxRecDepth 20000 in
set_option maxHeartbeats 1000000 in
theorem e_law (hg : gn g ≤ 1536) : ∀ (n i : Nat) (h : mH), gn g ≤ i + n → i ≤ 1536 → LI h → V g 10 m_Law_law pL 135 3202 18 [.ref 0, .ref 1, .ref 108, .int (nI i)] [] h 135 3202 := by
  intro n
  induction n with
  | zero =>
    intro i h hn hi hl
    refine V_iload_n rfl rfl ?_
    refine V_aload_n rfl rfl ?_
    refine V_slen rfl rfl ?_
    refine V_iconst (v := 3) rfl (by decide) ?_
    refine V_isub rfl ?_
    refine V_icmp_gt rfl (fun hc => ?_) (fun hc => ?_)
    · refine V_iconst (v := 1) rfl (by decide) ?_
      refine V_ireturn rfl rfl (by first | rfl | exact b2_nar _ | assumption | decide) ?_
      rfl
    · exact absurd (lw_i3 hg hi hc) (by omega)
  | succ n ih =>
    intro i h hn hi hl
    refine V_iload_n rfl rfl ?_
    refine V_aload_n rfl rfl ?_
    refine V_slen rfl rfl ?_
    refine V_iconst (v := 3) rfl (by decide) ?_
    refine V_isub rfl ?_
    refine V_icmp_gt rfl (fun hc => ?_) (fun hc => ?_)
    · refine V_iconst (v := 1) rfl (by decide) ?_
      refine V_ireturn rfl rfl (by first | rfl | exact b2_nar _ | assumption | decide) ?_
      rfl
    have hi3 := lw_i3 hg hi hc
    have kk : ∀ h2, LI h2 → V g 10 m_Law_law pL 135 3202 826 [.ref 0, .ref 1, .ref 108, .int (nI i)] [] h2 135 3202 := fun h2 l2 => by
      refine V_inc3 rfl (nI_add i 3) rfl ?_
      refine V_goto rfl ?_
      exact ih (i + 3) h2 (by omega) (by omega) l2
    refine V_aload_n rfl rfl ?_
    refine V_iload_n rfl rfl ?_
    refine V_sld (j := i) rfl rfl rfl (by omega) (by omega) ?_
    refine V_bipush (v := 31) rfl (by decide) ?_
    refine V_iand rfl ?_
    generalize gx g i &&& 31 = x
    cases hw : inN x 26
    · refine V_tabOut (tg := 826) rfl (inN_sw hw (by decide)) (by decide) ?_
      exact kk h hl
    · obtain ⟨j, hj, rfl⟩ := inN_t (by decide) hw
      rcases (show j = 0 ∨ j = 1 ∨ j = 2 ∨ j = 3 ∨ j = 4 ∨ j = 5 ∨ j = 6 ∨ j = 7 ∨ j = 8 ∨ j = 9 ∨ j = 10 ∨ j = 11 ∨ j = 12 ∨ j = 13 ∨ j = 14 ∨ j = 15 ∨ j = 16 ∨ j = 17 ∨ j = 18 ∨ j = 19 ∨ j = 20 ∨ j = 21 ∨ j = 22 ∨ j = 23 ∨ j = 24 ∨ j = 25 by omega) with rfl | rfl | rfl | rfl | rfl | rfl | rfl | rfl | rfl | rfl | rfl | rfl | rfl | rfl | rfl | rfl | rfl | rfl | rfl | rfl | rfl | rfl | rfl | rfl | rfl | rfl
      · refine V_tabIn (off := 120) (tg := 152) rfl (by decide) (by decide) (by decide) (by decide) ?_
        exact z_feed (by omega) hg hl kk
      · refine V_tabIn (off := 143) (tg := 175) rfl (by decide) (by decide) (by decide) (by decide) ?_
        exact z_program (by omega) hg hl kk
      · refine V_tabIn (off := 156) (tg := 188) rfl (by decide) (by decide) (by decide) (by decide) ?_
        exact z_fault (by omega) hg hl kk
      · refine V_tabIn (off := 169) (tg := 201) rfl (by decide) (by decide) (by decide) (by decide) ?_
        exact z_told (by omega) hg hl kk
      · refine V_tabIn (off := 192) (tg := 224) rfl (by decide) (by decide) (by decide) (by decide) ?_
        exact z_type (by omega) hg hl kk
      · refine V_tabIn (off := 225) (tg := 257) rfl (by decide) (by decide) (by decide) (by decide) ?_
        exact z_above (by omega) hg hl kk
      · refine V_tabIn (off := 248) (tg := 280) rfl (by decide) (by decide) (by decide) (by decide) ?_
        exact z_users (by omega) hg hl kk
      · refine V_tabIn (off := 271) (tg := 303) rfl (by decide) (by decide) (by decide) (by decide) ?_
        exact z_common (by omega) hg hl kk
      · refine V_tabIn (off := 304) (tg := 336) rfl (by decide) (by decide) (by decide) (by decide) ?_
        exact z_isBelow (by omega) hg hl kk
      · refine V_tabIn (off := 337) (tg := 369) rfl (by decide) (by decide) (by decide) (by decide) ?_
        exact z_makers (by omega) hg hl kk
      · refine V_tabIn (off := 360) (tg := 392) rfl (by decide) (by decide) (by decide) (by decide) ?_
        exact z_found (by omega) hg hl kk
      · refine V_tabIn (off := 393) (tg := 425) rfl (by decide) (by decide) (by decide) (by decide) ?_
        exact z_body (by omega) hg hl kk
      · refine V_tabIn (off := 426) (tg := 458) rfl (by decide) (by decide) (by decide) (by decide) ?_
        exact z_callers (by omega) hg hl kk
      · refine V_tabIn (off := 449) (tg := 481) rfl (by decide) (by decide) (by decide) (by decide) ?_
        exact z_call (by omega) hg hl kk
      · refine V_tabIn (off := 482) (tg := 514) rfl (by decide) (by decide) (by decide) (by decide) ?_
        exact z_load (by omega) hg hl kk
      · refine V_tabIn (off := 505) (tg := 537) rfl (by decide) (by decide) (by decide) (by decide) ?_
        exact z_root (by omega) hg hl kk
      · refine V_tabIn (off := 554) (tg := 586) rfl (by decide) (by decide) (by decide) (by decide) ?_
        exact z_bind (by omega) hg hl kk
      · refine V_tabIn (off := 577) (tg := 609) rfl (by decide) (by decide) (by decide) (by decide) ?_
        exact z_bindAll (by omega) hg hl kk
      · refine V_tabIn (off := 590) (tg := 622) rfl (by decide) (by decide) (by decide) (by decide) ?_
        exact z_loose (by omega) hg hl kk
      · refine V_tabIn (off := 613) (tg := 645) rfl (by decide) (by decide) (by decide) (by decide) ?_
        exact z_drift (by omega) hg hl kk
      · refine V_tabIn (off := 646) (tg := 678) rfl (by decide) (by decide) (by decide) (by decide) ?_
        exact z_undo (by omega) hg hl kk
      · refine V_tabIn (off := 659) (tg := 691) rfl (by decide) (by decide) (by decide) (by decide) ?_
        exact z_way (by omega) hg hl kk
      · refine V_tabIn (off := 692) (tg := 724) rfl (by decide) (by decide) (by decide) (by decide) ?_
        exact z_journal (by omega) hg hl kk
      · refine V_tabIn (off := 725) (tg := 757) rfl (by decide) (by decide) (by decide) (by decide) ?_
        exact z_holds (by omega) hg hl kk
      · refine V_tabIn (off := 748) (tg := 780) rfl (by decide) (by decide) (by decide) (by decide) ?_
        exact z_keep (by omega) hg hl kk
      · refine V_tabIn (off := 771) (tg := 803) rfl (by decide) (by decide) (by decide) (by decide) ?_
        exact z_goBack (by omega) hg hl kk
set_option maxRecDepth 20000 in
set_option maxHeartbeats 1000000 in
theorem e_start (hg : gn g ≤ 1536) : V g 10 m_Law_law pL 135 3202 0 [.ref 0, .retAddr 0, .retAddr 0, .retAddr 0] [] hB0 1 0 := by
  refine V_new rfl rfl rfl rfl rfl ?_
  refine V_dup rfl rfl ?_
  refine V_callIn rfl rfl (Or.inl rfl) m_EB_init_w m_EB_init_x rfl rfl rfl rfl (i_6) (by decide) rfl (Nat.le_of_ble_eq_true rfl) ?_
  refine V_as1 rfl (by first | rfl | assumption) ?_
  refine V_new rfl rfl rfl rfl rfl ?_
  refine V_dup rfl rfl ?_
  refine V_callIn rfl rfl (Or.inl rfl) m_MD_init_w m_MD_init_x rfl rfl rfl rfl (i_7 (b := 108)) (by decide) rfl (Nat.le_of_ble_eq_true rfl) ?_
  refine V_as2 rfl (by first | rfl | assumption) ?_
  refine V_iconst (v := 0) rfl (by decide) ?_
  refine V_is3 rfl (by first | rfl | assumption) ?_
  exact e_law hg (gn g) 0 _ (by omega) (by omega) LI_0
end law
