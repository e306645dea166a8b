section told
variable {g : mG} {h : mH} {sz u : Nat} {fp : Int32} {kp : Nat → Int32} {p : Pg} {N : Nat → Int32} {tx : Nat} {T : Nat → Int32} {un : Nat} {Pa Im msc : Nat → Int32} {mar : Nat → Nat → Int32}
theorem d_fault (hc : CI h fp kp p N tx T un Pa Im msc mar) : Mt g 0 m_EB_fault [.ref 1] h sz u (fun r h' => r = some (.int fp) ∧ CI h' fp kp p N tx T un Pa Im msc mar) sz u := by
  have hc0 := hc
  obtain ⟨pl, sp, cnt, nx, S, A, rfl, e1, e2, hx⟩ := hc
  have h1 : wld pl sp fp cnt nx kp S A 1 = ebO pl sp fp := wd_1
  refine Mt.of m_EB_fault_w m_EB_fault_x m_EB_fault_c rfl rfl (ls := [.ref 1]) rfl ?_
  refine V_aload_n rfl rfl ?_
  refine V_getI rfl rfl (by first | assumption | exact blkW_0 | exact bAt_0 (by assumption) | exact bAt_0 (hA _ _) | rfl) (by rfl) (by first | rfl) ?_
  refine V_ireturn rfl rfl (by first | rfl | exact b2_nar _ | assumption | decide) ?_
  exact ⟨rfl, hc0⟩
theorem d_journal (hc : CI h fp kp p N tx T un Pa Im msc mar) (i w : Int32) {e : Nat} (he : N 42 = nI e) (he2 : e ≤ 16) : Mt g 2 m_EB_journal [.ref 1, .int i, .int w] h sz u (fun r h' => r = some (.int (A_journal N e i w)) ∧ CI h' fp kp p N tx T un Pa Im msc mar) sz u := by
  have hc0 := hc
  obtain ⟨pl, sp, cnt, nx, S, A, rfl, e1, e2, hx⟩ := hc
  have h1 : wld pl sp fp cnt nx kp S A 1 = ebO pl sp fp := wd_1
  have hN : bAt 5 (wld pl sp fp cnt nx kp S A) 4 (S 4) (A 4) := wd_at (by decide)
  have hJ : bAt 1 (wld pl sp fp cnt nx kp S A) 5 (S 5) (A 5) := wd_at (by decide)
  have hJR := hx.2.2.2.1.2.2.2
  unfold A_journal
  refine Mt.of m_EB_journal_w m_EB_journal_x m_EB_journal_c rfl rfl (ls := [.ref 1, .int i, .int w]) rfl ?_
  refine V_iload_n rfl rfl ?_
  refine V_if_lt rfl (fun c1 => ?_) (fun c1 => ?_)
  · rw [inN_no1 c1]
    refine V_ldc rfl rfl ?_
    refine V_ireturn rfl rfl (by first | rfl | exact b2_nar _ | assumption | decide) ?_
    exact ⟨rfl, hc0⟩
  · refine V_iload_n rfl rfl ?_
    refine V_iconst (v := 2) rfl (by decide) ?_
    by_cases c6 : w ≤ 2
    · have hin : inN w 3 = true := decide_eq_true ⟨fa_of_nlt c1, by rw [fa_lt]; rw [fa_le] at c6; have e3 : (nI 3).toInt = 3 := rfl; have e2 : (2 : Int32).toInt = 2 := rfl; omega⟩
      obtain ⟨k, hk, rfl⟩ := inN_t (by decide) hin
      rw [hin, if_pos rfl, nI_clamp (n := k) (by omega)]
      refine V_icmp_leT rfl (c6) ?_
      refine V_aload_n rfl rfl ?_
      refine V_getfield rfl rfl (by first | assumption | exact blkW_0 | exact bAt_0 (by assumption) | exact bAt_0 (hA _ _) | rfl) (by rfl) ?_
      refine V_getfield rfl rfl (by first | assumption | exact blkW_0 | exact bAt_0 (by assumption) | exact bAt_0 (hA _ _) | rfl) (by rfl) ?_
      refine V_iload_n rfl rfl ?_
      refine V_iload_n rfl rfl ?_
      refine V_callVi rfl rfl m_Jour_entry_w m_Jour_entry_x rfl (by decide) rfl (s_jentry (jb := 4 + 1) hJ hJR he he2 hk i) (by decide) rfl (by first | assumption | exact blkW_0 | exact bAt_0 (by assumption) | exact bAt_0 (hA _ _) | rfl) (Nat.le_of_ble_eq_true rfl) ?_
      refine V_ireturn rfl rfl (by first | rfl | exact b2_nar _ | assumption | decide) ?_
      exact ⟨rfl, hc0⟩
    · have hin : inN w 3 = false := decide_eq_false fun z => c6 (by have z2 := (fa_lt _ _).mp z.2; rw [fa_le]; have e3 : (nI 3).toInt = 3 := rfl; have e2 : (2 : Int32).toInt = 2 := rfl; omega)
      rw [hin]
      refine V_icmp_leF rfl (c6) ?_
      refine V_ldc rfl rfl ?_
      refine V_ireturn rfl rfl (by first | rfl | exact b2_nar _ | assumption | decide) ?_
      exact ⟨rfl, hc0⟩
theorem d_feed (hc : CI h fp kp p N tx T un Pa Im msc mar) (c : Int32) : Mt g 1 m_EB_feed [.ref 1, .int c] h sz u (fun r h' => if inN c 256 && decide (tx < 240) then r = some (.int (nI (tx + 1))) ∧ CI h' fp kp p N (tx + 1) (upd T tx c) un Pa Im msc mar else r = some (.int (if inN c 256 then FUL else OUT)) ∧ CI h' fp kp p N tx T un Pa Im msc mar) sz u := by
  have hc0 := hc
  obtain ⟨pl, sp, cnt, nx, S, A, rfl, e1, e2, hx⟩ := hc
  have h1 : wld pl sp fp cnt nx kp S A 1 = ebO pl sp fp := wd_1
  have h2m : (4, 2) ∈ wL := by decide
  obtain ⟨r1, r2, r3, r4⟩ := hx.2.2.2.2.2.1
  refine Mt.of m_EB_feed_w m_EB_feed_x m_EB_feed_c rfl rfl (ls := [.ref 1, .int c]) rfl ?_
  refine V_iload_n rfl rfl ?_
  refine V_if_lt rfl (fun c1 => ?_) (fun c1 => ?_)
  · rw [inN_no1 c1]
    refine V_ldc rfl rfl ?_
    refine V_ireturn rfl rfl (by first | rfl | exact b2_nar _ | assumption | decide) ?_
    exact ⟨rfl, hc0⟩
  · refine V_iload_n rfl rfl ?_
    refine V_sipush (v := 255) rfl (by decide) ?_
    by_cases c8 : c ≤ 255
    · have hin : inN c 256 = true := decide_eq_true ⟨fa_of_nlt c1, by rw [fa_lt]; rw [fa_le] at c8; have e3 : (nI 256).toInt = 256 := rfl; have e2 : (255 : Int32).toInt = 255 := rfl; omega⟩
      rw [hin, Bool.true_and]
      refine V_icmp_leT rfl (c8) ?_
      refine V_aload_n rfl rfl ?_
      refine V_getfield rfl rfl (by first | assumption | exact blkW_0 | exact bAt_0 (by assumption) | exact bAt_0 (hA _ _) | rfl) (by rfl) ?_
      refine V_iload_n rfl rfl ?_
      rw [show wld pl sp fp cnt nx kp S A = blkW 4 (wld pl sp fp cnt nx kp S A) 2 (S 2) (A 2) from (wd_self h2m).symm]
      refine V_callVi rfl rfl m_Read_takeLetter_w m_Read_takeLetter_x rfl (by decide) rfl (w_takeLetter r1 r2 c) (by decide) rfl (by first | assumption | exact blkW_0 | exact bAt_0 (by assumption) | exact bAt_0 (hA _ _) | rfl) (Nat.le_of_ble_eq_true rfl) ?_
      by_cases e : tx < 240
      · rw [decide_eq_true e, if_pos e, if_pos rfl, wd_set h2m]
        have h1 : wld pl sp fp cnt nx kp (va_up S 2 (upd (S 2) 1 (nI (tx + 1)))) (va_up A 2 (va_up (A 2) 0 (upd (A 2 0) tx c))) 1 = ebO pl sp fp := wd_1
        have hRd := wd_at (pl := pl) (sp := sp) (fp := fp) (cnt := cnt) (nx := nx) (kp := kp) (S := va_up S 2 (upd (S 2) 1 (nI (tx + 1)))) (A := va_up A 2 (va_up (A 2) 0 (upd (A 2 0) tx c))) h2m
        rw [show va_up S 2 (upd (S 2) 1 (nI (tx + 1))) 2 = upd (S 2) 1 (nI (tx + 1)) from va_eq] at hRd
        refine V_if_eqF rfl (by decide) ?_
        refine V_aload_n rfl rfl ?_
        refine V_getfield rfl rfl (by first | assumption | exact blkW_0 | exact bAt_0 (by assumption) | exact bAt_0 (hA _ _) | rfl) (by rfl) ?_
        refine V_getI rfl rfl (bAt_0 hRd) (by rfl) pk_us ?_
        refine V_goto rfl ?_
        refine V_ireturn rfl rfl (by first | rfl | exact b2_nar _ | assumption | decide) ?_
        refine ⟨rfl, pl, sp, cnt, nx, _, _, rfl, (va_ne (by decide)).trans e1, (va_ne (by decide)).trans e2, CIx_2 hx ⟨pk_us, by omega, ?_, fun j hj => ?_⟩⟩
        · rw [va_eq, r3]
        · rw [va_g]
          by_cases ej : j = tx
          · subst ej
            rw [pk_us]
            obtain ⟨q, q1, q2⟩ := inN_t (by decide) hin
            exact ⟨q, q1, q2⟩
          · rw [pk_un ej]; exact r4 j (by omega)
      · rw [decide_eq_false e, if_neg e, wd_self h2m]
        refine V_if_eqT rfl (rfl) ?_
        refine V_ldc rfl rfl ?_
        refine V_ireturn rfl rfl (by first | rfl | exact b2_nar _ | assumption | decide) ?_
        exact ⟨rfl, hc0⟩
    · have hin : inN c 256 = false := decide_eq_false fun z => c8 (by have z2 := (fa_lt _ _).mp z.2; rw [fa_le]; have e3 : (nI 256).toInt = 256 := rfl; have e2 : (255 : Int32).toInt = 255 := rfl; omega)
      rw [hin]
      refine V_icmp_leF rfl (c8) ?_
      refine V_ldc rfl rfl ?_
      refine V_ireturn rfl rfl (by first | rfl | exact b2_nar _ | assumption | decide) ?_
      exact ⟨rfl, hc0⟩
theorem d_told (hc : CI h fp kp p N tx T un Pa Im msc mar) (w : Int32) : Mt g 5 m_EB_told [.ref 1, .int w] h sz u (fun r h' => r = some (.int (A_told p N (nI tx) (nI un) w)) ∧ CI h' fp kp p N tx T un Pa Im msc mar) sz u := by
  have hc0 := hc
  obtain ⟨pl, sp, cnt, nx, S, A, rfl, e1, e2, hx⟩ := hc
  have hm := CIx_mem hx
  have h74 : (0, 74) ∈ wL := by decide
  have h77 : (0, 77) ∈ wL := by decide
  have h1 : wld pl sp fp cnt nx kp S A 1 = ebO pl sp fp := wd_1
  have h24 : wld pl sp fp cnt nx kp S A 24 = cO 2 [.int cnt, .int nx, .ref 25] := wd_24
  have hN : bAt 5 (wld pl sp fp cnt nx kp S A) 4 (S 4) (A 4) := wd_at (by decide)
  have hJ : bAt 1 (wld pl sp fp cnt nx kp S A) 5 (S 5) (A 5) := wd_at (by decide)
  have hRd : bAt 4 (wld pl sp fp cnt nx kp S A) 2 (S 2) (A 2) := wd_at (by decide)
  have hP : bAt 3 (wld pl sp fp cnt nx kp S A) pl (S pl) (A pl) := wd_at hm.1
  have hE := CIx_EW (fp := fp) hx
  obtain ⟨-, hp, hwx, hSR, hG, hR, hF, hF2, hPR, -⟩ := id hx
  have hq := hp.1
  obtain ⟨hT, hB, hS, hC⟩ := hq.1.1
  have hL := hSR.1.1
  have hRt := hSR.1.2.1
  have r1 := hR.1
  obtain ⟨xx, -, -, hcnt, -, -⟩ := hPR
  have key : ∀ fsc far, FO p false fsc far → CI (blkW 0 (wld pl sp fp cnt nx kp S A) 74 fsc far) fp kp p N tx T un Pa Im msc mar := fun fsc far hF => ⟨pl, sp, cnt, nx, va_up S 74 fsc, va_up A 74 far, wd_set h74, (va_ne (by decide)).trans e1, (va_ne (by decide)).trans e2, CIx_74 hx hF⟩
  unfold A_told
  refine Mt.of m_EB_told_w m_EB_told_x m_EB_told_c rfl rfl (ls := [.ref 1, .int w]) rfl ?_
  refine V_iload_n rfl rfl ?_
  cases hw : inN w 16
  · rw [if_neg (by decide)]
    refine V_tabOut (tg := 253) rfl (inN_sw hw (by decide)) (by decide) ?_
    refine V_ldc rfl rfl ?_
    refine V_ireturn rfl rfl (by first | rfl | exact b2_nar _ | assumption | decide) ?_
    exact ⟨rfl, hc0⟩
  · obtain ⟨j, hj, rfl⟩ := inN_t (by decide) hw
    rw [if_pos rfl, nI_clamp (by omega)]
    rcases (show j = 0 ∨ j = 1 ∨ j = 2 ∨ j = 3 ∨ j = 4 ∨ j = 5 ∨ j = 6 ∨ j = 7 ∨ j = 8 ∨ j = 9 ∨ j = 10 ∨ j = 11 ∨ j = 12 ∨ j = 13 ∨ j = 14 ∨ j = 15 by omega) with rfl | rfl | rfl | rfl | rfl | rfl | rfl | rfl | rfl | rfl | rfl | rfl | rfl | rfl | rfl | rfl
    · refine V_tabIn (off := 79) (tg := 80) rfl (by decide) (by decide) (by decide) (by decide) ?_
      refine V_aload_n rfl rfl ?_
      refine V_getfield rfl rfl (by first | assumption | exact blkW_0 | exact bAt_0 (by assumption) | exact bAt_0 (hA _ _) | rfl) (by rfl) ?_
      refine V_getI rfl rfl (by first | assumption | exact blkW_0 | exact bAt_0 (by assumption) | exact bAt_0 (hA _ _) | rfl) (by rfl) (by first | exact cq_nT (by assumption) | rfl) ?_
      refine V_ireturn rfl rfl (by first | rfl | exact b2_nar _ | assumption | decide) ?_
      exact ⟨rfl, hc0⟩
    · refine V_tabIn (off := 87) (tg := 88) rfl (by decide) (by decide) (by decide) (by decide) ?_
      refine V_aload_n rfl rfl ?_
      refine V_getfield rfl rfl (by first | assumption | exact blkW_0 | exact bAt_0 (by assumption) | exact bAt_0 (hA _ _) | rfl) (by rfl) ?_
      refine V_getI rfl rfl (by first | assumption | exact blkW_0 | exact bAt_0 (by assumption) | exact bAt_0 (hA _ _) | rfl) (by rfl) (by first | exact cq_nB (by assumption) | rfl) ?_
      refine V_ireturn rfl rfl (by first | rfl | exact b2_nar _ | assumption | decide) ?_
      exact ⟨rfl, hc0⟩
    · refine V_tabIn (off := 95) (tg := 96) rfl (by decide) (by decide) (by decide) (by decide) ?_
      refine V_aload_n rfl rfl ?_
      refine V_getfield rfl rfl (by first | assumption | exact blkW_0 | exact bAt_0 (by assumption) | exact bAt_0 (hA _ _) | rfl) (by rfl) ?_
      refine V_getI rfl rfl (by first | assumption | exact blkW_0 | exact bAt_0 (by assumption) | exact bAt_0 (hA _ _) | rfl) (by rfl) (by first | exact cq_nS (by assumption) | rfl) ?_
      refine V_ireturn rfl rfl (by first | rfl | exact b2_nar _ | assumption | decide) ?_
      exact ⟨rfl, hc0⟩
    · refine V_tabIn (off := 103) (tg := 104) rfl (by decide) (by decide) (by decide) (by decide) ?_
      refine V_aload_n rfl rfl ?_
      refine V_getfield rfl rfl (by first | assumption | exact blkW_0 | exact bAt_0 (by assumption) | exact bAt_0 (hA _ _) | rfl) (by rfl) ?_
      refine V_getI rfl rfl (by first | assumption | exact blkW_0 | exact bAt_0 (by assumption) | exact bAt_0 (hA _ _) | rfl) (by rfl) (by first | exact cq_nC (by assumption) | rfl) ?_
      refine V_ireturn rfl rfl (by first | rfl | exact b2_nar _ | assumption | decide) ?_
      exact ⟨rfl, hc0⟩
    · refine V_tabIn (off := 111) (tg := 112) rfl (by decide) (by decide) (by decide) (by decide) ?_
      refine V_aload_n rfl rfl ?_
      refine V_getfield rfl rfl (by first | assumption | exact blkW_0 | exact bAt_0 (by assumption) | exact bAt_0 (hA _ _) | rfl) (by rfl) ?_
      refine V_getI rfl rfl (by first | assumption | exact blkW_0 | exact bAt_0 (by assumption) | exact bAt_0 (hA _ _) | rfl) (by rfl) (by first | exact (rS_o rfl).trans (by assumption) | exact (by assumption) | rfl) ?_
      refine V_ireturn rfl rfl (by first | rfl | exact b2_nar _ | assumption | decide) ?_
      exact ⟨rfl, hc0⟩
    · refine V_tabIn (off := 119) (tg := 120) rfl (by decide) (by decide) (by decide) (by decide) ?_
      refine V_aload_n rfl rfl ?_
      refine V_getfield rfl rfl (by first | assumption | exact blkW_0 | exact bAt_0 (by assumption) | exact bAt_0 (hA _ _) | rfl) (by rfl) ?_
      refine V_getI rfl rfl (by first | assumption | exact blkW_0 | exact bAt_0 (by assumption) | exact bAt_0 (hA _ _) | rfl) (by rfl) (by first | exact (by assumption) | rfl) ?_
      refine V_ireturn rfl rfl (by first | rfl | exact b2_nar _ | assumption | decide) ?_
      exact ⟨rfl, hc0⟩
    · refine V_tabIn (off := 127) (tg := 128) rfl (by decide) (by decide) (by decide) (by decide) ?_
      refine V_aload_n rfl rfl ?_
      refine V_getfield rfl rfl (by first | assumption | exact blkW_0 | exact bAt_0 (by assumption) | exact bAt_0 (hA _ _) | rfl) (by rfl) ?_
      refine V_getI rfl rfl (by first | assumption | exact blkW_0 | exact bAt_0 (by assumption) | exact bAt_0 (hA _ _) | rfl) (by rfl) (by first | exact (by assumption) | rfl) ?_
      refine V_ireturn rfl rfl (by first | rfl | exact b2_nar _ | assumption | decide) ?_
      exact ⟨rfl, hc0⟩
    · refine V_tabIn (off := 135) (tg := 136) rfl (by decide) (by decide) (by decide) (by decide) ?_
      refine V_aload_n rfl rfl ?_
      rw [show wld pl sp fp cnt nx kp S A = blkW 0 (wld pl sp fp cnt nx kp S A) 74 (S 74) (A 74) from (wd_self h74).symm]
      refine V_callV rfl rfl m_EB_flowNow_w m_EB_flowNow_x rfl (by decide) rfl (w_flowNow hE hp hwx hF hL hRt) (by decide) rfl (by first | assumption | exact blkW_0 | exact bAt_0 (by assumption) | exact bAt_0 (hA _ _) | rfl) (Nat.le_of_ble_eq_true rfl) (by first | exact Nat.le_refl _ | omega | decide) (by first | exact Nat.le_refl _ | omega | decide) (fun r hh1 hP => ?_)
      obtain ⟨rfl, fsc', far', rfl, hFF⟩ := hP
      refine V_getI rfl rfl blkW_0 (by rfl) (FF_1 hFF) ?_
      refine V_ireturn rfl rfl (by first | rfl | exact b2_nar _ | assumption | decide) ?_
      exact ⟨rfl, key _ _ hFF.1⟩
    · refine V_tabIn (off := 143) (tg := 144) rfl (by decide) (by decide) (by decide) (by decide) ?_
      refine V_aload_n rfl rfl ?_
      rw [show wld pl sp fp cnt nx kp S A = blkW 0 (wld pl sp fp cnt nx kp S A) 74 (S 74) (A 74) from (wd_self h74).symm]
      refine V_callV rfl rfl m_EB_flowNow_w m_EB_flowNow_x rfl (by decide) rfl (w_flowNow hE hp hwx hF hL hRt) (by decide) rfl (by first | assumption | exact blkW_0 | exact bAt_0 (by assumption) | exact bAt_0 (hA _ _) | rfl) (Nat.le_of_ble_eq_true rfl) (by first | exact Nat.le_refl _ | omega | decide) (by first | exact Nat.le_refl _ | omega | decide) (fun r hh1 hP => ?_)
      obtain ⟨rfl, fsc', far', rfl, hFF⟩ := hP
      refine V_getI rfl rfl blkW_0 (by rfl) (FF_0 hFF) ?_
      refine V_ireturn rfl rfl (by first | rfl | exact b2_nar _ | assumption | decide) ?_
      exact ⟨rfl, key _ _ hFF.1⟩
    · refine V_tabIn (off := 151) (tg := 152) rfl (by decide) (by decide) (by decide) (by decide) ?_
      refine V_aload_n rfl rfl ?_
      refine V_getfield rfl rfl (by first | assumption | exact blkW_0 | exact bAt_0 (by assumption) | exact bAt_0 (hA _ _) | rfl) (by rfl) ?_
      refine V_aload_n rfl rfl ?_
      refine V_getfield rfl rfl (by first | assumption | exact blkW_0 | exact bAt_0 (by assumption) | exact bAt_0 (hA _ _) | rfl) (by rfl) ?_
      refine V_getI rfl rfl (by first | assumption | exact blkW_0 | exact bAt_0 (by assumption) | exact bAt_0 (hA _ _) | rfl) (by rfl) (by first | exact (by assumption) | rfl) ?_
      refine V_callVi rfl rfl m_Plan_bodiesOf_w m_Plan_bodiesOf_x rfl (by decide) rfl (s_boS (by first | assumption | exact hA _ _) (by assumption) _) (by decide) rfl (by first | assumption | exact blkW_0 | exact bAt_0 (by assumption) | exact bAt_0 (hA _ _) | rfl) (Nat.le_of_ble_eq_true rfl) ?_
      refine V_aload_n rfl rfl ?_
      rw [show wld pl sp fp cnt nx kp S A = blkW 0 (wld pl sp fp cnt nx kp S A) 74 (S 74) (A 74) from (wd_self h74).symm]
      refine V_callV rfl rfl m_EB_flowNow_w m_EB_flowNow_x rfl (by decide) rfl (w_flowNow hE hp hwx hF hL hRt) (by decide) rfl (by first | assumption | exact blkW_0 | exact bAt_0 (by assumption) | exact bAt_0 (hA _ _) | rfl) (Nat.le_of_ble_eq_true rfl) (by first | exact Nat.le_refl _ | omega | decide) (by first | exact Nat.le_refl _ | omega | decide) (fun r hh1 hP => ?_)
      obtain ⟨rfl, fsc', far', rfl, hFF⟩ := hP
      refine V_getI rfl rfl blkW_0 (by rfl) (FF_0 hFF) ?_
      refine V_iconst (v := (-1)) rfl (by decide) ?_
      refine V_ixor rfl ?_
      refine V_iand rfl ?_
      refine V_ireturn rfl rfl (by first | rfl | exact b2_nar _ | assumption | decide) ?_
      exact ⟨rfl, key _ _ hFF.1⟩
    · have hA77 : ∀ sc ar, bAt 3 (blkW 0 (wld pl sp fp cnt nx kp S A) 77 sc ar) pl (S pl) (A pl) := fun sc ar => by
        rw [wd_set h77]
        have := wd_at (pl := pl) (sp := sp) (fp := fp) (cnt := cnt) (nx := nx) (kp := kp) (S := va_up S 77 sc) (A := va_up A 77 ar) hm.1
        rw [va_ne (by omega), va_ne (by omega)] at this
        exact this
      refine V_tabIn (off := 176) (tg := 177) rfl (by decide) (by decide) (by decide) (by decide) ?_
      refine V_aload_n rfl rfl ?_
      refine V_getfield rfl rfl (by first | assumption | exact blkW_0 | exact bAt_0 (by assumption) | exact bAt_0 (hA _ _) | rfl) (by rfl) ?_
      refine V_aload_n rfl rfl ?_
      refine V_getfield rfl rfl (by first | assumption | exact blkW_0 | exact bAt_0 (by assumption) | exact bAt_0 (hA _ _) | rfl) (by rfl) ?_
      refine V_aload_n rfl rfl ?_
      refine V_getfield rfl rfl (by first | assumption | exact blkW_0 | exact bAt_0 (by assumption) | exact bAt_0 (hA _ _) | rfl) (by rfl) ?_
      refine V_getI rfl rfl (by first | assumption | exact blkW_0 | exact bAt_0 (by assumption) | exact bAt_0 (hA _ _) | rfl) (by rfl) (by first | exact (by assumption) | rfl) ?_
      refine V_aload_n rfl rfl ?_
      refine V_getfield rfl rfl (by first | assumption | exact blkW_0 | exact bAt_0 (by assumption) | exact bAt_0 (hA _ _) | rfl) (by rfl) ?_
      refine V_getI rfl rfl (by first | assumption | exact blkW_0 | exact bAt_0 (by assumption) | exact bAt_0 (hA _ _) | rfl) (by rfl) (by first | exact (by assumption) | rfl) ?_
      rw [show wld pl sp fp cnt nx kp S A = blkW 0 (wld pl sp fp cnt nx kp S A) 77 (S 77) (A 77) from (wd_self h77).symm]
      refine V_callV rfl rfl m_Flow_follow_w m_Flow_follow_x rfl (by decide) rfl (w_follow hA77 hp hwx hF2) (by decide) rfl (by first | assumption | exact blkW_0 | exact bAt_0 (by assumption) | exact bAt_0 (hA _ _) | rfl) (Nat.le_of_ble_eq_true rfl) (by first | exact Nat.le_refl _ | omega | decide) (by first | exact Nat.le_refl _ | omega | decide) (fun r hh1 hP => ?_)
      obtain ⟨rfl, fsc', far', rfl, f1, f2, f3, f4⟩ := hP
      have h1 : blkW 0 (wld pl sp fp cnt nx kp S A) 77 fsc' far' 1 = ebO pl sp fp := by rw [wd_set h77]; exact wd_1
      have e0 : fsc' 0 = (rch p N (N 0 &&& setF (nT p) fun x => isC p x)).1 := by
        have := f4.1
        rw [f2, f3] at this
        exact congrArg Prod.fst this
      refine V_aload_n rfl rfl ?_
      refine V_getfield rfl rfl (by first | assumption | exact blkW_0 | exact bAt_0 (by assumption) | exact bAt_0 (hA _ _) | rfl) (by rfl) ?_
      refine V_getI rfl rfl blkW_0 (by rfl) e0 ?_
      refine V_ireturn rfl rfl (by first | rfl | exact b2_nar _ | assumption | decide) ?_
      exact ⟨rfl, pl, sp, cnt, nx, va_up S 77 fsc', va_up A 77 far', wd_set h77, (va_ne (by decide)).trans e1, (va_ne (by decide)).trans e2, CIx_77 hx f1⟩
    · refine V_tabIn (off := 209) (tg := 210) rfl (by decide) (by decide) (by decide) (by decide) ?_
      refine V_aload_n rfl rfl ?_
      refine V_getfield rfl rfl (by first | assumption | exact blkW_0 | exact bAt_0 (by assumption) | exact bAt_0 (hA _ _) | rfl) (by rfl) ?_
      refine V_callVi rfl rfl m_Scen_boundCalls_w m_Scen_boundCalls_x rfl (by decide) rfl (s_bdC (by assumption)) (by decide) rfl (by first | assumption | exact blkW_0 | exact bAt_0 (by assumption) | exact bAt_0 (hA _ _) | rfl) (Nat.le_of_ble_eq_true rfl) ?_
      refine V_ireturn rfl rfl (by first | rfl | exact b2_nar _ | assumption | decide) ?_
      exact ⟨by rw [boC_eq hq.1 hG hSR.2.1 hSR.2.2.1]; rfl, hc0⟩
    · have h3 := hSR.1.2.2.1
      refine V_tabIn (off := 217) (tg := 218) rfl (by decide) (by decide) (by decide) (by decide) ?_
      refine V_aload_n rfl rfl ?_
      refine V_getfield rfl rfl (by first | assumption | exact blkW_0 | exact bAt_0 (by assumption) | exact bAt_0 (hA _ _) | rfl) (by rfl) ?_
      refine V_getI rfl rfl (by first | assumption | exact blkW_0 | exact bAt_0 (by assumption) | exact bAt_0 (hA _ _) | rfl) (by rfl) (by first | exact (by assumption) | rfl) ?_
      refine V_ireturn rfl rfl (by first | rfl | exact b2_nar _ | assumption | decide) ?_
      exact ⟨rfl, hc0⟩
    · have h3 := hSR.1.2.2.2
      refine V_tabIn (off := 225) (tg := 226) rfl (by decide) (by decide) (by decide) (by decide) ?_
      refine V_aload_n rfl rfl ?_
      refine V_getfield rfl rfl (by first | assumption | exact blkW_0 | exact bAt_0 (by assumption) | exact bAt_0 (hA _ _) | rfl) (by rfl) ?_
      refine V_getI rfl rfl (by first | assumption | exact blkW_0 | exact bAt_0 (by assumption) | exact bAt_0 (hA _ _) | rfl) (by rfl) (by first | exact (by assumption) | rfl) ?_
      refine V_ireturn rfl rfl (by first | rfl | exact b2_nar _ | assumption | decide) ?_
      exact ⟨rfl, hc0⟩
    · obtain ⟨e, l, -, -, j1, -, j2, -⟩ := hSR.2.2.2
      have j3 : S 5 0 = N 42 := j1.trans j2.symm
      refine V_tabIn (off := 233) (tg := 234) rfl (by decide) (by decide) (by decide) (by decide) ?_
      refine V_aload_n rfl rfl ?_
      refine V_getfield rfl rfl (by first | assumption | exact blkW_0 | exact bAt_0 (by assumption) | exact bAt_0 (hA _ _) | rfl) (by rfl) ?_
      refine V_getfield rfl rfl (by first | assumption | exact blkW_0 | exact bAt_0 (by assumption) | exact bAt_0 (hA _ _) | rfl) (by rfl) ?_
      refine V_getI rfl rfl (bAt_0 (b := 4 + 1) hJ) (by rfl) j3 ?_
      refine V_ireturn rfl rfl (by first | rfl | exact b2_nar _ | assumption | decide) ?_
      exact ⟨rfl, hc0⟩
    · refine V_tabIn (off := 244) (tg := 245) rfl (by decide) (by decide) (by decide) (by decide) ?_
      refine V_aload_n rfl rfl ?_
      refine V_getfield rfl rfl (by first | assumption | exact blkW_0 | exact bAt_0 (by assumption) | exact bAt_0 (hA _ _) | rfl) (by rfl) ?_
      refine V_getI rfl rfl h24 (by rfl) hcnt ?_
      refine V_ireturn rfl rfl (by first | rfl | exact b2_nar _ | assumption | decide) ?_
      exact ⟨rfl, hc0⟩
end told
