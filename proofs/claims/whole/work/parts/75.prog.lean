theorem dj_rs {sp : Nat} (h : sp = 80 ∨ sp = 94) : djN (4, 2) (3, sp) := by
  rcases h with rfl | rfl <;> exact djB_ok (by decide)
section prog
variable {g : mG} {h : mH} {sz u : Nat} {fp : Int32} {kp : Nat → Int32} {p : Pg} {N : Nat → Int32} {tx : Nat} {T : Nat → Int32} {un : Nat} {Pa Im msc : Nat → Int32} {mar : Nat → Nat → Int32}
theorem d_program (hc : CI h fp kp p N tx T un Pa Im msc mar) : Mt g 6 m_EB_program [.ref 1] h sz u (fun r h' => match pAll T tx 241 emp 0 with
    | .inl y => r = some (.int (-10 - nI y.1)) ∧ CI h' (nI y.2) kp p N 0 T un Pa Im msc mar
    | .inr p2 => r = some (.int (nI (nT p2))) ∧ ∀ N2 Pa2 Im2 : Nat → Int32, (∀ k, k < 45 → N2 k = nw0 k) → CI h' (-1) (upd (upd kp 0 0) 1 0) (fin p2) N2 0 T 0 Pa2 Im2 msc mar) sz u := by
  obtain ⟨pl, sp, cnt, nx, S, A, rfl, rfl, rfl, hx⟩ := hc
  have hm := CIx_mem hx
  have h1 : wld pl sp fp cnt nx kp S A 1 = ebO pl sp fp := wd_1
  have m2 : (4, 2) ∈ wL := by decide
  obtain ⟨q1, q2, q3, q4, q5, ⟨r1, r2, r3, r4⟩, q7, q8, ⟨x, hx8, hun, hcnt, hnx, hPR⟩, q10⟩ := id hx
  have hd := dj_rs (sp := sp) (by omega)
  have hsp2 : sp ≠ 2 := by omega
  refine Mt.of m_EB_program_w m_EB_program_x m_EB_program_c rfl rfl (ls := [.ref 1, .retAddr 0, .retAddr 0]) rfl ?_
  refine V_aload_n rfl rfl ?_
  refine V_getfield rfl rfl (by first | assumption | exact blkW_0 | exact bAt_0 (by assumption) | exact bAt_0 (hA _ _) | rfl) (by rfl) ?_
  refine V_aload_n rfl rfl ?_
  refine V_getfield rfl rfl (by first | assumption | exact blkW_0 | exact bAt_0 (by assumption) | exact bAt_0 (hA _ _) | rfl) (by rfl) ?_
  rw [show wld pl sp fp cnt nx kp S A = rpW (wld pl sp fp cnt nx kp S A) 2 sp (S 2) (A 2) (S sp) (A sp) from by show _ = blkW 4 (blkW 3 (wld pl sp fp cnt nx kp S A) sp (S sp) (A sp)) 2 (S 2) (A 2); rw [wd_self hm.2.1, wd_self m2]]
  refine V_callV rfl rfl m_Read_readInto_w m_Read_readInto_x rfl (by decide) rfl (w_readInto hd r1 r2 r4) (by decide) rfl (by first | assumption | exact blkW_0 | exact bAt_0 (by assumption) | exact bAt_0 (hA _ _) | rfl) (Nat.le_of_ble_eq_true rfl) (by first | exact Nat.le_refl _ | omega | decide) (by first | exact Nat.le_refl _ | omega | decide) (fun r hh1 hP => ?_)
  rw [r3] at hP
  obtain ⟨rsc, psc, par', rfl, t1, hX⟩ := hP
  rw [show rpW (wld pl sp fp cnt nx kp S A) 2 sp rsc (A 2) psc par' = wld pl sp fp cnt nx kp (va_up (va_up S sp psc) 2 rsc) (va_up (va_up A sp par') 2 (A 2)) from by show blkW 4 (blkW 3 (wld pl sp fp cnt nx kp S A) sp psc par') 2 rsc (A 2) = _; rw [wd_set hm.2.1, wd_set m2]]
  generalize hS1 : va_up (va_up S sp psc) 2 rsc = S1
  generalize hA1 : va_up (va_up A sp par') 2 (A 2) = A1
  have eo : ∀ b, b ≠ 2 → b ≠ sp → S1 b = S b ∧ A1 b = A b := fun b b1 b2 => by
    rw [← hS1, ← hA1]
    exact ⟨(va_ne b1).trans (va_ne b2), (va_ne b1).trans (va_ne b2)⟩
  have es : S1 2 = rsc ∧ A1 2 = A 2 ∧ S1 sp = psc ∧ A1 sp = par' := by
    rw [← hS1, ← hA1]
    exact ⟨va_eq, va_eq, (va_ne hsp2).trans va_eq, (va_ne hsp2).trans va_eq⟩
  clear hS1 hA1
  have hRd : bAt 4 (wld pl sp fp cnt nx kp S1 A1) 2 (S1 2) (A1 2) := wd_at m2
  have h1 : wld pl sp fp cnt nx kp S1 A1 1 = ebO pl sp fp := wd_1
  have hRDx : ∀ S2 A2, S2 2 = S1 2 → A2 2 = A1 2 → RDx S2 A2 0 T := fun S2 A2 z1 z2 => by
    unfold RDx
    rw [z1, z2, es.1, es.2.1]
    exact ⟨t1, by omega, r3, fun i hi => by omega⟩
  generalize pAll T tx 241 emp 0 = X at hX
  rcases X with y | p2
  · obtain ⟨hy, rfl, t2⟩ := hX
    have e2 : S1 2 2 = nI y.2 := by rw [es.1]; exact t2
    refine V_is1 rfl (by first | rfl | assumption) ?_
    refine V_aload_n rfl rfl ?_
    refine V_aload_n rfl rfl ?_
    refine V_getfield rfl rfl (by first | assumption | exact blkW_0 | exact bAt_0 (by assumption) | exact bAt_0 (hA _ _) | rfl) (by rfl) ?_
    refine V_getI rfl rfl (bAt_0 hRd) (by rfl) e2 ?_
    refine V_put rfl rfl wd_1 (Nat.le_of_ble_eq_true rfl) (fun _ hty => by cases hty; exact ⟨rfl, rfl⟩) (Or.inl rfl) rfl ?_
    rw [show va_up (wld pl sp fp cnt nx kp S1 A1) 1 (cO 6 ([Value.ref 2, Value.ref 4, Value.ref 10, Value.ref 23, Value.ref 24, Value.ref 74, Value.ref 77, Value.ref pl, Value.ref sp, Value.int fp].set 9 (Value.int (nI y.2)))) = wld pl sp (nI y.2) cnt nx kp S1 A1 from wd_u1]
    refine V_iload_n rfl rfl ?_
    refine V_if_eqF rfl ((nk_pos hy).2.1) ?_
    refine V_bipush (v := (-10)) rfl (by decide) ?_
    refine V_iload_n rfl rfl ?_
    refine V_isub rfl ?_
    refine V_ireturn rfl rfl (by first | rfl | exact b2_nar _ | assumption | decide) ?_
    refine ⟨rfl, pl, sp, cnt, nx, S1, A1, rfl, (eo 108 (by omega) (by omega)).1, (eo 108 (by omega) (by omega)).2, q1, ?_, q3, ?_, q5, hRDx _ _ rfl rfl, ?_, ?_, PRx_c ⟨x, hx8, hun, hcnt, hnx, hPR⟩ fun b b1 b2 => eo b (by omega) (by omega), IRx_c q10 fun b b1 b2 => eo b (by omega) (by omega)⟩
    · rw [(eo pl (by omega) (by omega)).1, (eo pl (by omega) (by omega)).2]; exact q2
    · rw [(eo 4 (by omega) (by omega)).1, (eo 4 (by omega) (by omega)).2, (eo 5 (by omega) (by omega)).1, (eo 5 (by omega) (by omega)).2]; exact q4
    · rw [(eo 74 (by omega) (by omega)).1, (eo 74 (by omega) (by omega)).2]; exact q7
    · rw [(eo 77 (by omega) (by omega)).1, (eo 77 (by omega) (by omega)).2]; exact q8
  · obtain ⟨rfl, t2, hq, hw⟩ := hX
    have e2 : S1 2 2 = -1 := by rw [es.1]; exact t2
    have hwx := fin_WX hw
    refine V_is1 rfl (by first | rfl | assumption) ?_
    refine V_aload_n rfl rfl ?_
    refine V_aload_n rfl rfl ?_
    refine V_getfield rfl rfl (by first | assumption | exact blkW_0 | exact bAt_0 (by assumption) | exact bAt_0 (hA _ _) | rfl) (by rfl) ?_
    refine V_getI rfl rfl (bAt_0 hRd) (by rfl) e2 ?_
    refine V_put rfl rfl wd_1 (Nat.le_of_ble_eq_true rfl) (fun _ hty => by cases hty; exact ⟨rfl, rfl⟩) (Or.inl rfl) rfl ?_
    rw [show va_up (wld pl sp fp cnt nx kp S1 A1) 1 (cO 6 ([Value.ref 2, Value.ref 4, Value.ref 10, Value.ref 23, Value.ref 24, Value.ref 74, Value.ref 77, Value.ref pl, Value.ref sp, Value.int fp].set 9 (Value.int (-1)))) = wld pl sp (-1) cnt nx kp S1 A1 from wd_u1]
    refine V_iload_n rfl rfl ?_
    refine V_if_eqT rfl (rfl) ?_
    have h1 : wld pl sp (-1) cnt nx kp S1 A1 1 = ebO pl sp (-1) := wd_1
    refine V_aload_n rfl rfl ?_
    refine V_getfield rfl rfl (by first | assumption | exact blkW_0 | exact bAt_0 (by assumption) | exact bAt_0 (hA _ _) | rfl) (by rfl) ?_
    rw [show wld pl sp (-1) cnt nx kp S1 A1 = blkW 3 (wld pl sp (-1) cnt nx kp S1 A1) sp psc par' from by rw [← es.2.2.1, ← es.2.2.2]; exact (wd_self hm.2.1).symm]
    refine V_callVn rfl rfl m_Plan_lookUpAll_w m_Plan_lookUpAll_x rfl (by decide) rfl (w_lookUpAll hq hwx) (by decide) rfl (by first | assumption | exact blkW_0 | exact bAt_0 (by assumption) | exact bAt_0 (hA _ _) | rfl) (Nat.le_of_ble_eq_true rfl) ?_
    have hCP := CP_17 (r := par' 17) hq
    rw [wd_set hm.2.1]
    generalize hpar2 : va_up par' 17 (fkF (fin p2) (par' 17) (nT (fin p2) * 6)) = par2 at hCP
    generalize hS2 : va_up S1 sp psc = S2
    generalize hA2 : va_up A1 sp par2 = A2
    have eo2 : ∀ b, b ≠ sp → S2 b = S1 b ∧ A2 b = A1 b := fun b b1 => by
      rw [← hS2, ← hA2]
      exact ⟨va_ne b1, va_ne b1⟩
    have es2 : S2 sp = psc ∧ A2 sp = par2 := by
      rw [← hS2, ← hA2]
      exact ⟨va_eq, va_eq⟩
    clear hS2 hA2 hpar2
    have h1 : wld pl sp (-1) cnt nx kp S2 A2 1 = ebO pl sp (-1) := wd_1
    refine V_aload_n rfl rfl ?_
    refine V_getfield rfl rfl (by first | assumption | exact blkW_0 | exact bAt_0 (by assumption) | exact bAt_0 (hA _ _) | rfl) (by rfl) ?_
    refine V_as2 rfl (by first | rfl | assumption) ?_
    refine V_aload_n rfl rfl ?_
    refine V_aload_n rfl rfl ?_
    refine V_getfield rfl rfl (by first | assumption | exact blkW_0 | exact bAt_0 (by assumption) | exact bAt_0 (hA _ _) | rfl) (by rfl) ?_
    refine V_put rfl rfl wd_1 (Nat.le_of_ble_eq_true rfl) (fun _ hty => by cases hty; exact ⟨rfl, rfl⟩) (Or.inl rfl) rfl ?_
    rw [show va_up (wld pl sp (-1) cnt nx kp S2 A2) 1 (cO 6 ([Value.ref 2, Value.ref 4, Value.ref 10, Value.ref 23, Value.ref 24, Value.ref 74, Value.ref 77, Value.ref pl, Value.ref sp, Value.int (-1)].set 7 (Value.ref sp))) = wld sp sp (-1) cnt nx kp S2 A2 from wd_u1]
    refine V_aload_n rfl rfl ?_
    refine V_aload_n rfl rfl ?_
    refine V_put rfl rfl wd_1 (Nat.le_of_ble_eq_true rfl) (fun _ hty => by cases hty; exact ⟨rfl, rfl⟩) (Or.inl rfl) rfl ?_
    rw [show va_up (wld sp sp (-1) cnt nx kp S2 A2) 1 (cO 6 ([Value.ref 2, Value.ref 4, Value.ref 10, Value.ref 23, Value.ref 24, Value.ref 74, Value.ref 77, Value.ref sp, Value.ref sp, Value.int (-1)].set 8 (Value.ref pl))) = wld sp pl (-1) cnt nx kp S2 A2 from wd_u1]
    have h1 : wld sp pl (-1) cnt nx kp S2 A2 1 = ebO sp pl (-1) := wd_1
    refine V_aload_n rfl rfl ?_
    refine V_callV rfl rfl m_EB_startAnew_w m_EB_startAnew_x rfl (by decide) rfl (w_startAnew) (by decide) rfl (by first | assumption | exact blkW_0 | exact bAt_0 (by assumption) | exact bAt_0 (hA _ _) | rfl) (Nat.le_of_ble_eq_true rfl) (by first | exact Nat.le_refl _ | omega | decide) (by first | exact Nat.le_refl _ | omega | decide) (fun r hh1 hP => ?_)
    obtain ⟨rfl, S3, A3, rfl, eo3, hSR3, f1, f2, f3, f4⟩ := hP
    have h1 : wld sp pl (-1) 0 nx (upd (upd kp 0 0) 1 0) S3 A3 1 = ebO sp pl (-1) := wd_1
    have hPl : bAt 3 (wld sp pl (-1) 0 nx (upd (upd kp 0 0) 1 0) S3 A3) sp (S3 sp) (A3 sp) := wd_at hm.2.1
    have eo3s := eo3 sp (by omega) (by omega) (by omega) (by omega)
    rw [eo3s.1, eo3s.2, es2.1, es2.2] at hPl
    have hq0 : psc 0 = nI (nT p2) := cq_nT (p := fin p2) hCP.1
    refine V_aload_n rfl rfl ?_
    refine V_getfield rfl rfl (by first | assumption | exact blkW_0 | exact bAt_0 (by assumption) | exact bAt_0 (hA _ _) | rfl) (by rfl) ?_
    refine V_getI rfl rfl (bAt_0 hPl) (by rfl) hq0 ?_
    refine V_ireturn rfl rfl (by first | rfl | exact b2_nar _ | assumption | decide) ?_
    refine ⟨rfl, fun N2 Pa2 Im2 hN2 => ?_⟩
    have hC : nC (fin p2) ≤ 24 := hCP.1.1.1.2.2.2
    have e108 := eo3 108 (by decide) (by decide) (by decide) (by decide)
    have e2' := eo3 2 (by decide) (by decide) (by decide) (by decide)
    refine ⟨sp, pl, 0, nx, S3, A3, rfl, ?_, ?_, ?_, ?_, hwx, hSR3 _ N2 hC hN2, ?_, ?_, ?_, ?_, ⟨x, hx8, by omega, rfl, hnx, fun i hi => by omega⟩, fun j hj => ?_⟩
    · rw [e108.1, (eo2 108 (by omega)).1, (eo 108 (by omega) (by omega)).1]
    · rw [e108.2, (eo2 108 (by omega)).2, (eo 108 (by omega) (by omega)).2]
    · rcases q1 with ⟨a, b⟩ | ⟨a, b⟩
      · exact Or.inr ⟨b, a⟩
      · exact Or.inl ⟨b, a⟩
    · rw [eo3s.1, eo3s.2, es2.1, es2.2]; exact hCP
    · refine ⟨⟨fun i hi => ?_, fun t ht => ?_⟩, fun c hc => ?_, ?_, ?_⟩
      · rw [hN2 0 (by decide)] at hi
        exact absurd hi (by rw [show nw0 0 = 0 from rfl, b_0]; decide)
      · rw [hN2 0 (by decide)] at ht
        exact absurd ht (by rw [show nw0 0 = 0 from rfl, b_0]; decide)
      · refine Or.inl ((hN2 (2 + c) (by omega)).trans ?_)
        unfold nw0
        rw [if_pos (by omega)]
      · exact ⟨0, by decide, hN2 43 (by decide)⟩
      · exact ⟨0, by decide, hN2 44 (by decide)⟩
    · exact hRDx _ _ (e2'.1.trans (eo2 2 (by omega)).1) (e2'.2.trans (eo2 2 (by omega)).2)
    · refine ⟨?_, Or.inl ?_⟩
      · rw [f1, pk_un (by decide), (eo2 74 (by omega)).1, (eo 74 (by omega) (by omega)).1]; exact q7.1
      · rw [f1, pk_us]
    · refine ⟨?_, Or.inl ?_⟩
      · rw [f3, pk_un (by decide), (eo2 77 (by omega)).1, (eo 77 (by omega) (by omega)).1]; exact q8.1
      · rw [f3, pk_us]
    · have : upd (upd kp 0 0) 1 0 j = 0 := by
        rcases (show j = 0 ∨ j = 1 by omega) with rfl | rfl
        · rfl
        · rfl
      rw [this]
      exact ⟨Or.inl rfl, fun z => absurd z (by decide)⟩
end prog
