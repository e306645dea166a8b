theorem imf : ∀ j, j < 2 → (va_up (va_up (fun _ => none) 0 (some 11)) 1 (some 17) : Nat → Option Nat) j = some (11 + 6 * j) := by decide
section pubd3
variable {g : mG} {h : mH} {sz u : Nat} {fp : Int32} {kp : Nat → Int32} {p : Pg} {N : Nat → Int32} {tx : Nat} {T : Nat → Int32} {un : Nat} {Pa Im msc : Nat → Int32} {mar : Nat → Nat → Int32}
theorem d_keep (hc : CI h fp kp p N tx T un Pa Im msc mar) (i : Int32) : Mt g 3 m_EB_keep [.ref 1, .int i] h sz u (fun r h' => if inN i 2 then r = some (.int 1) ∧ CI h' fp (upd kp i.toNatClampNeg 1) p N tx T 0 Pa (fb_put Im N (45 * i.toNatClampNeg) 45) msc mar else r = some (.int UNK) ∧ CI h' fp kp p N tx T un Pa Im msc mar) sz u := by
  have hc0 := hc
  obtain ⟨pl, sp, cnt, nx, S, A, rfl, rfl, rfl, hx⟩ := hc
  have hm := CIx_mem hx
  have h1 : wld pl sp fp cnt nx kp S A 1 = ebO pl sp fp := wd_1
  obtain ⟨q1, q2, q3, q4, q5, q6, q7, q8, ⟨x, hx8, hun, hcnt, hnx, hPR⟩, q10⟩ := id hx
  have hC := q2.1.1.1.2.2.2
  refine Mt.of m_EB_keep_w m_EB_keep_x m_EB_keep_c rfl rfl (ls := [.ref 1, .int i]) rfl ?_
  refine V_iload_n rfl rfl ?_
  refine V_callSi rfl rfl (Or.inl rfl) m_EB_isImage_w m_EB_isImage_x rfl rfl (s_isIm _) (by decide) rfl (Nat.le_of_ble_eq_true rfl) ?_
  cases ho : inN i 2
  · refine V_if_neF rfl (rfl) ?_
    refine V_ldc rfl rfl ?_
    refine V_ireturn rfl rfl (by first | rfl | exact b2_nar _ | assumption | decide) ?_
    exact ⟨rfl, hc0⟩
  · refine V_if_neT rfl (by decide) ?_
    obtain ⟨j, hj, rfl⟩ := inN_t (by decide) ho
    rw [nI_clamp (n := j) (by omega)]
    have m5 := im5 j hj
    have m1 := im1 j hj
    refine V_aload_n rfl rfl ?_
    refine V_getfield rfl rfl (by first | assumption | exact blkW_0 | exact bAt_0 (by assumption) | exact bAt_0 (hA _ _) | rfl) (by rfl) ?_
    refine V_iload_n rfl rfl ?_
    refine V_aaload rfl wd_10 rfl hj (by decide) (imf j hj) ?_
    refine V_aload_n rfl rfl ?_
    refine V_getfield rfl rfl (by first | assumption | exact blkW_0 | exact bAt_0 (by assumption) | exact bAt_0 (hA _ _) | rfl) (by rfl) ?_
    rw [show wld pl sp fp cnt nx kp S A = scW (wld pl sp fp cnt nx kp S A) (11 + 6 * j) (S (11 + 6 * j)) (A (11 + 6 * j)) (S (11 + 6 * j + 1)) (A (11 + 6 * j + 1)) from (scW_self m5 m1).symm]
    refine V_callV rfl rfl m_Scen_become_w m_Scen_become_x rfl (by decide) rfl (w_sbecome (ss2 := S 4) (sa2 := A 4) (js2 := S 5) (ja2 := A 5) (fun _ _ _ _ => scW_at5 m5 m1 (by decide) (by omega) (by omega)) (fun _ _ _ _ => scW_at5 m5 m1 (b2 := 5) (by decide) (by omega) (by omega))) (by decide) rfl (by first | assumption | exact blkW_0 | exact bAt_0 (by assumption) | exact bAt_0 (hA _ _) | rfl) (Nat.le_of_ble_eq_true rfl) (by first | exact Nat.le_refl _ | omega | decide) (by first | exact Nat.le_refl _ | omega | decide) (fun r hh1 hP => ?_)
    obtain ⟨rfl, ss', sa', js', ja', rfl, hB⟩ := hP
    rw [scW_set m5 m1]
    generalize hS' : va_up (va_up S (11 + 6 * j + 1) js') (11 + 6 * j) ss' = S'
    generalize hA' : va_up (va_up A (11 + 6 * j + 1) ja') (11 + 6 * j) sa' = A'
    have eo : ∀ b, b ≠ 11 + 6 * j → b ≠ 11 + 6 * j + 1 → S' b = S b ∧ A' b = A b := fun b b1 b2 => by
      rw [← hS', ← hA']
      exact ⟨(va_ne b1).trans (va_ne b2), (va_ne b1).trans (va_ne b2)⟩
    have eb : S' (11 + 6 * j) = ss' ∧ A' (11 + 6 * j) = sa' ∧ S' (11 + 6 * j + 1) = js' ∧ A' (11 + 6 * j + 1) = ja' := by
      rw [← hS', ← hA']
      exact ⟨va_eq, va_eq, (va_ne (by omega)).trans va_eq, (va_ne (by omega)).trans va_eq⟩
    have h1 : wld pl sp fp cnt nx kp S' A' 1 = ebO pl sp fp := wd_1
    refine V_aload_n rfl rfl ?_
    refine V_getfield rfl rfl (by first | assumption | exact blkW_0 | exact bAt_0 (by assumption) | exact bAt_0 (hA _ _) | rfl) (by rfl) ?_
    refine V_iload_n rfl rfl ?_
    refine V_iconst (v := 1) rfl (by decide) ?_
    refine V_bastore rfl wd_23 rfl hj (by decide) rfl ?_
    rw [wd_u23]
    have h1 : wld pl sp fp cnt nx (upd kp j 1) S' A' 1 = ebO pl sp fp := wd_1
    have h24 : wld pl sp fp cnt nx (upd kp j 1) S' A' 24 = cO 2 [.int cnt, .int nx, .ref 25] := wd_24
    refine V_aload_n rfl rfl ?_
    refine V_getfield rfl rfl (by first | assumption | exact blkW_0 | exact bAt_0 (by assumption) | exact bAt_0 (hA _ _) | rfl) (by rfl) ?_
    refine V_callVn rfl rfl m_Past_clear_w m_Past_clear_x rfl (by decide) rfl (w_pclr) (by decide) rfl (by first | assumption | exact blkW_0 | exact bAt_0 (by assumption) | exact bAt_0 (hA _ _) | rfl) (Nat.le_of_ble_eq_true rfl) ?_
    refine V_iconst (v := 1) rfl (by decide) ?_
    refine V_ireturn rfl rfl (by first | rfl | exact b2_nar _ | assumption | decide) ?_
    refine ⟨rfl, pl, sp, _, _, S', A', rfl, (eo 108 (by omega) (by omega)).1, (eo 108 (by omega) (by omega)).2, q1, ?_, q3, ?_, q5, RDx_c q6 (eo 2 (by omega) (by omega)), ?_, ?_, ⟨x, hx8, by omega, rfl, hnx, fun i hi => by omega⟩, fun j2 hj2 => ?_⟩
    · rw [(eo pl (by omega) (by omega)).1, (eo pl (by omega) (by omega)).2]; exact q2
    · rw [(eo 4 (by omega) (by omega)).1, (eo 4 (by omega) (by omega)).2, (eo 5 (by omega) (by omega)).1, (eo 5 (by omega) (by omega)).2]; exact q4
    · rw [(eo 74 (by omega) (by omega)).1, (eo 74 (by omega) (by omega)).2]; exact q7
    · rw [(eo 77 (by omega) (by omega)).1, (eo 77 (by omega) (by omega)).2]; exact q8
    · by_cases ej : j2 = j
      · subst ej
        rw [pk_us, eb.1, eb.2.1, eb.2.2.1, eb.2.2.2]
        have eN : ∀ k, k < 45 → fb_put Im N (45 * j2) 45 (45 * j2 + k) = N k := fun k hk => by rw [fb_put_in (by omega) (by omega), Nat.add_sub_cancel_left]
        exact ⟨Or.inr rfl, fun _ => ⟨SR_cong hC (hB _ _ hC q4) eN, GN_cong hC q5 eN⟩⟩
      · rw [pk_un ej, (eo _ (by omega) (by omega)).1, (eo _ (by omega) (by omega)).2, (eo (11 + 6 * j2 + 1) (by omega) (by omega)).1, (eo (11 + 6 * j2 + 1) (by omega) (by omega)).2]
        have eN : ∀ k, k < 45 → fb_put Im N (45 * j) 45 (45 * j2 + k) = Im (45 * j2 + k) := fun k hk => fb_put_out (by omega)
        obtain ⟨s1, s2⟩ := q10 j2 hj2
        exact ⟨s1, fun z => ⟨SR_cong hC (s2 z).1 eN, GN_cong hC (s2 z).2 eN⟩⟩
theorem d_goBack (hc : CI h fp kp p N tx T un Pa Im msc mar) (i : Int32) : Mt g 3 m_EB_goBack [.ref 1, .int i] h sz u (fun r h' => if inN i 2 then (if kp i.toNatClampNeg = 0 then r = some (.int NOTv) ∧ CI h' fp kp p N tx T un Pa Im msc mar else r = some (.int 1) ∧ CI h' fp kp p (fa_fill (fun k => Im (45 * i.toNatClampNeg + k)) N 45) tx T 0 Pa Im msc mar) else r = some (.int UNK) ∧ CI h' fp kp p N tx T un Pa Im msc mar) sz u := by
  have hc0 := hc
  obtain ⟨pl, sp, cnt, nx, S, A, rfl, rfl, rfl, hx⟩ := hc
  have hm := CIx_mem hx
  have h1 : wld pl sp fp cnt nx kp S A 1 = ebO pl sp fp := wd_1
  have h24 : wld pl sp fp cnt nx kp S A 24 = cO 2 [.int cnt, .int nx, .ref 25] := wd_24
  obtain ⟨q1, q2, q3, q4, q5, q6, q7, q8, ⟨x, hx8, hun, hcnt, hnx, hPR⟩, q10⟩ := id hx
  have hC := q2.1.1.1.2.2.2
  refine Mt.of m_EB_goBack_w m_EB_goBack_x m_EB_goBack_c rfl rfl (ls := [.ref 1, .int i]) rfl ?_
  refine V_iload_n rfl rfl ?_
  refine V_callSi rfl rfl (Or.inl rfl) m_EB_isImage_w m_EB_isImage_x rfl rfl (s_isIm _) (by decide) rfl (Nat.le_of_ble_eq_true rfl) ?_
  cases ho : inN i 2
  · refine V_if_neF rfl (rfl) ?_
    refine V_ldc rfl rfl ?_
    refine V_ireturn rfl rfl (by first | rfl | exact b2_nar _ | assumption | decide) ?_
    exact ⟨rfl, hc0⟩
  · refine V_if_neT rfl (by decide) ?_
    obtain ⟨j, hj, rfl⟩ := inN_t (by decide) ho
    rw [nI_clamp (n := j) (by omega)]
    have m5 := im5 j hj
    have m1 := im1 j hj
    obtain ⟨k01, kS⟩ := q10 j hj
    refine V_aload_n rfl rfl ?_
    refine V_getfield rfl rfl (by first | assumption | exact blkW_0 | exact bAt_0 (by assumption) | exact bAt_0 (hA _ _) | rfl) (by rfl) ?_
    refine V_iload_n rfl rfl ?_
    refine V_bald rfl wd_23 rfl hj (by decide) rfl ?_
    by_cases e0 : kp j = 0
    · simp only [if_pos e0]
      refine V_if_neF rfl (e0) ?_
      refine V_ldc rfl rfl ?_
      refine V_ireturn rfl rfl (by first | rfl | exact b2_nar _ | assumption | decide) ?_
      exact ⟨rfl, hc0⟩
    · simp only [if_neg e0]
      obtain ⟨s1, s2⟩ := kS (k01.resolve_left e0)
      refine V_if_neT rfl (e0) ?_
      refine V_aload_n rfl rfl ?_
      refine V_getfield rfl rfl (by first | assumption | exact blkW_0 | exact bAt_0 (by assumption) | exact bAt_0 (hA _ _) | rfl) (by rfl) ?_
      refine V_aload_n rfl rfl ?_
      refine V_getfield rfl rfl (by first | assumption | exact blkW_0 | exact bAt_0 (by assumption) | exact bAt_0 (hA _ _) | rfl) (by rfl) ?_
      refine V_iload_n rfl rfl ?_
      refine V_aaload rfl wd_10 rfl hj (by decide) (imf j hj) ?_
      rw [← scW_self (b := 4) (pl := pl) (sp := sp) (fp := fp) (cnt := cnt) (nx := nx) (kp := kp) (S := S) (A := A) (by decide) (by decide)]
      refine V_callV rfl rfl m_Scen_become_w m_Scen_become_x rfl (by decide) rfl (w_sbecome (b2 := 11 + 6 * j) (fun _ _ _ _ => scW_at5 (by decide) (by decide) m5 (by omega) (by omega)) (fun _ _ _ _ => scW_at5 (by decide) (by decide) m1 (by omega) (by omega))) (by decide) rfl (by first | assumption | exact blkW_0 | exact bAt_0 (by assumption) | exact bAt_0 (hA _ _) | rfl) (Nat.le_of_ble_eq_true rfl) (by first | exact Nat.le_refl _ | omega | decide) (by first | exact Nat.le_refl _ | omega | decide) (fun r hh1 hP => ?_)
      obtain ⟨rfl, ss', sa', js', ja', rfl, hB⟩ := hP
      rw [scW_set (by decide) (by decide)]
      have eN : ∀ k, k < 45 → fa_fill (fun k => Im (45 * j + k)) N 45 k = Im (45 * j + k) := fun k hk => fa_fill_in hk
      have hx2 : CIx pl sp 0 nx kp S A p N tx T 0 Pa Im := ⟨q1, q2, q3, q4, q5, q6, q7, q8, ⟨x, hx8, by omega, rfl, hnx, fun i hi => by omega⟩, q10⟩
      have hx3 := CIx_4 (ss := ss') (js := js') (sa := sa') (ja := ja') hx2 (SR_cong hC (hB _ _ hC s1) eN) (GN_cong hC s2 eN)
      generalize hS' : va_up (va_up S (4 + 1) js') 4 ss' = S' at hx3
      generalize hA' : va_up (va_up A (4 + 1) ja') 4 sa' = A' at hx3
      have h1 : wld pl sp fp cnt nx kp S' A' 1 = ebO pl sp fp := wd_1
      have h24 : wld pl sp fp cnt nx kp S' A' 24 = cO 2 [.int cnt, .int nx, .ref 25] := wd_24
      refine V_aload_n rfl rfl ?_
      refine V_getfield rfl rfl (by first | assumption | exact blkW_0 | exact bAt_0 (by assumption) | exact bAt_0 (hA _ _) | rfl) (by rfl) ?_
      refine V_callVn rfl rfl m_Past_clear_w m_Past_clear_x rfl (by decide) rfl (w_pclr) (by decide) rfl (by first | assumption | exact blkW_0 | exact bAt_0 (by assumption) | exact bAt_0 (hA _ _) | rfl) (Nat.le_of_ble_eq_true rfl) ?_
      refine V_iconst (v := 1) rfl (by decide) ?_
      refine V_ireturn rfl rfl (by first | rfl | exact b2_nar _ | assumption | decide) ?_
      exact ⟨rfl, pl, sp, _, _, S', A', rfl, by rw [← hS']; exact (va_ne (by decide)).trans (va_ne (by decide)), by rw [← hA']; exact (va_ne (by decide)).trans (va_ne (by decide)), hx3⟩
set_option maxRecDepth 20000 in
set_option maxHeartbeats 1000000 in
theorem w_forget {fb : Nat} {sc : Nat → Int32} {ar : Nat → Nat → Int32} : Mt g 0 m_Flow_forget [.ref fb] (blkW 0 h fb sc ar) sz u (Pn (blkW 0 h fb (upd sc 5 0) ar)) sz u := by
  refine Mt.of m_Flow_forget_w m_Flow_forget_x m_Flow_forget_c rfl rfl (ls := [.ref fb]) rfl ?_
  refine V_aload_n rfl rfl ?_
  refine V_iconst (v := 0) rfl (by decide) ?_
  first | refine V_pput rfl rfl rfl rfl rfl ?_ | refine V_bput rfl rfl rfl rfl rfl rfl ?_ | refine V_bputZ rfl rfl rfl rfl rfl rfl (by decide) ?_ | refine V_put rfl rfl (by first | assumption | rfl) (by decide) (fun _ hty => by cases hty; exact ⟨rfl, rfl⟩) (by first | exact Or.inl rfl | exact Or.inr ⟨rfl, rfl⟩) rfl ?_
  refine V_return rfl rfl ?_
  exact ⟨rfl, rfl⟩
set_option maxRecDepth 20000 in
set_option maxHeartbeats 1000000 in
theorem w_startAnew {pl sp : Nat} {cnt nx : Int32} {S : Nat → Nat → Int32} {A : Nat → Nat → Nat → Int32} : Mt g 2 m_EB_startAnew [.ref 1] (wld pl sp fp cnt nx kp S A) sz u (fun r h' => r = none ∧ ∃ S' A', h' = wld pl sp fp 0 nx (upd (upd kp 0 0) 1 0) S' A' ∧ (∀ b, b ≠ 4 → b ≠ 5 → b ≠ 74 → b ≠ 77 → S' b = S b ∧ A' b = A b) ∧ (∀ (n : Nat) (N : Nat → Int32), n ≤ 24 → (∀ k, k < 45 → N k = nw0 k) → SR n N (S' 4) (A' 4 5) (S' 5) (A' 5)) ∧ S' 74 = upd (S 74) 5 0 ∧ A' 74 = A 74 ∧ S' 77 = upd (S 77) 5 0 ∧ A' 77 = A 77) sz u := by
  have h1 : wld pl sp fp cnt nx kp S A 1 = ebO pl sp fp := wd_1
  have m74 : (0, 74) ∈ wL := by decide
  have m77 : (0, 77) ∈ wL := by decide
  refine Mt.of m_EB_startAnew_w m_EB_startAnew_x m_EB_startAnew_c rfl rfl (ls := [.ref 1, .retAddr 0]) rfl ?_
  refine V_aload_n rfl rfl ?_
  refine V_getfield rfl rfl (by first | assumption | exact blkW_0 | exact bAt_0 (by assumption) | exact bAt_0 (hA _ _) | rfl) (by rfl) ?_
  rw [← scW_self (b := 4) (pl := pl) (sp := sp) (fp := fp) (cnt := cnt) (nx := nx) (kp := kp) (S := S) (A := A) (by decide) (by decide)]
  refine V_callV rfl rfl m_Scen_clear_w m_Scen_clear_x rfl (by decide) rfl (w_sclear) (by decide) rfl (by first | assumption | exact blkW_0 | exact bAt_0 (by assumption) | exact bAt_0 (hA _ _) | rfl) (Nat.le_of_ble_eq_true rfl) (by first | exact Nat.le_refl _ | omega | decide) (by first | exact Nat.le_refl _ | omega | decide) (fun r hh1 hP => ?_)
  obtain ⟨rfl, ss', sa', js', ja', rfl, hB⟩ := hP
  rw [scW_set (by decide) (by decide)]
  generalize hS' : va_up (va_up S (4 + 1) js') 4 ss' = S1
  generalize hA' : va_up (va_up A (4 + 1) ja') 4 sa' = A1
  have eo : ∀ b, b ≠ 4 → b ≠ 5 → S1 b = S b ∧ A1 b = A b := fun b b1 b2 => by
    rw [← hS', ← hA']
    exact ⟨(va_ne b1).trans (va_ne b2), (va_ne b1).trans (va_ne b2)⟩
  have eb : S1 4 = ss' ∧ A1 4 = sa' ∧ S1 5 = js' ∧ A1 5 = ja' := by
    rw [← hS', ← hA']
    exact ⟨va_eq, va_eq, (va_ne (by decide)).trans va_eq, (va_ne (by decide)).trans va_eq⟩
  have h1 : wld pl sp fp cnt nx kp S1 A1 1 = ebO pl sp fp := wd_1
  have h24 : wld pl sp fp cnt nx kp S1 A1 24 = cO 2 [.int cnt, .int nx, .ref 25] := wd_24
  refine V_aload_n rfl rfl ?_
  refine V_getfield rfl rfl (by first | assumption | exact blkW_0 | exact bAt_0 (by assumption) | exact bAt_0 (hA _ _) | rfl) (by rfl) ?_
  refine V_callVn rfl rfl m_Past_clear_w m_Past_clear_x rfl (by decide) rfl (w_pclr) (by decide) rfl (by first | assumption | exact blkW_0 | exact bAt_0 (by assumption) | exact bAt_0 (hA _ _) | rfl) (Nat.le_of_ble_eq_true rfl) ?_
  refine V_iconst (v := 0) rfl (by decide) ?_
  refine V_is1 rfl (by first | rfl | assumption) ?_
  have h1 : wld pl sp fp 0 nx kp S1 A1 1 = ebO pl sp fp := wd_1
  refine V_iload_n rfl rfl ?_
  refine V_iconst (v := 2) rfl (by decide) ?_
  refine V_icmp_geF rfl (by decide) ?_
  refine V_aload_n rfl rfl ?_
  refine V_getfield rfl rfl (by first | assumption | exact blkW_0 | exact bAt_0 (by assumption) | exact bAt_0 (hA _ _) | rfl) (by rfl) ?_
  refine V_iload_n rfl rfl ?_
  refine V_iconst (v := 0) rfl (by decide) ?_
  refine V_bastore (j := 0) rfl wd_23 rfl (by decide) (by decide) rfl ?_
  rw [wd_u23]
  have h1 : wld pl sp fp 0 nx (upd kp 0 0) S1 A1 1 = ebO pl sp fp := wd_1
  refine V_inc1 rfl (by first | exact mInc _ | rfl) (by first | rfl | assumption) ?_
  refine V_goto rfl ?_
  refine V_iload_n rfl rfl ?_
  refine V_iconst (v := 2) rfl (by decide) ?_
  refine V_icmp_geF rfl (by decide) ?_
  refine V_aload_n rfl rfl ?_
  refine V_getfield rfl rfl (by first | assumption | exact blkW_0 | exact bAt_0 (by assumption) | exact bAt_0 (hA _ _) | rfl) (by rfl) ?_
  refine V_iload_n rfl rfl ?_
  refine V_iconst (v := 0) rfl (by decide) ?_
  refine V_bastore (j := 1) rfl wd_23 rfl (by decide) (by decide) rfl ?_
  rw [wd_u23]
  have h1 : wld pl sp fp 0 nx (upd (upd kp 0 0) 1 0) S1 A1 1 = ebO pl sp fp := wd_1
  refine V_inc1 rfl (by first | exact mInc _ | rfl) (by first | rfl | assumption) ?_
  refine V_goto rfl ?_
  refine V_iload_n rfl rfl ?_
  refine V_iconst (v := 2) rfl (by decide) ?_
  refine V_icmp_geT rfl (by decide) ?_
  refine V_aload_n rfl rfl ?_
  refine V_getfield rfl rfl (by first | assumption | exact blkW_0 | exact bAt_0 (by assumption) | exact bAt_0 (hA _ _) | rfl) (by rfl) ?_
  rw [show wld pl sp fp 0 nx (upd (upd kp 0 0) 1 0) S1 A1 = blkW 0 (wld pl sp fp 0 nx (upd (upd kp 0 0) 1 0) S1 A1) 74 (S1 74) (A1 74) from (wd_self m74).symm]
  refine V_callVn rfl rfl m_Flow_forget_w m_Flow_forget_x rfl (by decide) rfl (w_forget) (by decide) rfl (by first | assumption | exact blkW_0 | exact bAt_0 (by assumption) | exact bAt_0 (hA _ _) | rfl) (Nat.le_of_ble_eq_true rfl) ?_
  rw [wd_set m74]
  have h1 : wld pl sp fp 0 nx (upd (upd kp 0 0) 1 0) (va_up S1 74 (upd (S1 74) 5 0)) (va_up A1 74 (A1 74)) 1 = ebO pl sp fp := wd_1
  refine V_aload_n rfl rfl ?_
  refine V_getfield rfl rfl (by first | assumption | exact blkW_0 | exact bAt_0 (by assumption) | exact bAt_0 (hA _ _) | rfl) (by rfl) ?_
  rw [show wld pl sp fp 0 nx (upd (upd kp 0 0) 1 0) (va_up S1 74 (upd (S1 74) 5 0)) (va_up A1 74 (A1 74)) = blkW 0 (wld pl sp fp 0 nx (upd (upd kp 0 0) 1 0) (va_up S1 74 (upd (S1 74) 5 0)) (va_up A1 74 (A1 74))) 77 (S1 77) (A1 77) from ?_]
  rotate_left
  · have := wd_self (pl := pl) (sp := sp) (fp := fp) (cnt := 0) (nx := nx) (kp := upd (upd kp 0 0) 1 0) (S := va_up S1 74 (upd (S1 74) 5 0)) (A := va_up A1 74 (A1 74)) m77
    rw [va_ne (by decide), va_ne (by decide)] at this
    exact this.symm
  refine V_callVn rfl rfl m_Flow_forget_w m_Flow_forget_x rfl (by decide) rfl (w_forget) (by decide) rfl (by first | assumption | exact blkW_0 | exact bAt_0 (by assumption) | exact bAt_0 (hA _ _) | rfl) (Nat.le_of_ble_eq_true rfl) ?_
  rw [wd_set m77]
  refine V_return rfl rfl ?_
  refine ⟨rfl, _, _, rfl, fun b b1 b2 b3 b4 => ?_, fun n N hn hN => ?_, ?_, ?_, ?_, ?_⟩
  · rw [va_ne b4, va_ne b3, va_ne b4, va_ne b3]; exact eo b b1 b2
  · rw [va_ne (by decide), va_ne (by decide), va_ne (by decide), va_ne (by decide), va_ne (by decide), va_ne (by decide), va_ne (by decide), va_ne (by decide), eb.1, eb.2.1, eb.2.2.1, eb.2.2.2]
    exact hB n N hn hN
  · rw [va_ne (by decide), va_eq, (eo 74 (by decide) (by decide)).1]
  · rw [va_ne (by decide), va_eq, (eo 74 (by decide) (by decide)).2]
  · rw [va_eq, (eo 77 (by decide) (by decide)).1]
  · rw [va_eq, (eo 77 (by decide) (by decide)).2]
end pubd3
