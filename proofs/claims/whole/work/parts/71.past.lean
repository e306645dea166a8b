/-! ===== Past, and the images ===== -/
theorem pm5 : ∀ x, x < 8 → (5, 26 + 6 * x) ∈ wL := by decide
theorem pm1 : ∀ x, x < 8 → (1, 26 + 6 * x + 1) ∈ wL := by decide
theorem im5 : ∀ x, x < 2 → (5, 11 + 6 * x) ∈ wL := by decide
theorem im1 : ∀ x, x < 2 → (1, 11 + 6 * x + 1) ∈ wL := by decide
section scwd
variable {pl sp : Nat} {fp cnt nx : Int32} {kp : Nat → Int32} {S : Nat → Nat → Int32} {A : Nat → Nat → Nat → Int32}
theorem scW_set {b : Nat} (h5 : (5, b) ∈ wL) (h1 : (1, b + 1) ∈ wL) {ss js : Nat → Int32} {sa ja : Nat → Nat → Int32} : scW (wld pl sp fp cnt nx kp S A) b ss sa js ja = wld pl sp fp cnt nx kp (va_up (va_up S (b + 1) js) b ss) (va_up (va_up A (b + 1) ja) b sa) := by
  show blkW 5 (blkW 1 (wld pl sp fp cnt nx kp S A) (b + 1) js ja) b ss sa = _
  rw [wd_set h1, wd_set h5]
theorem scW_self {b : Nat} (h5 : (5, b) ∈ wL) (h1 : (1, b + 1) ∈ wL) : scW (wld pl sp fp cnt nx kp S A) b (S b) (A b) (S (b + 1)) (A (b + 1)) = wld pl sp fp cnt nx kp S A := by
  show blkW 5 (blkW 1 (wld pl sp fp cnt nx kp S A) (b + 1) (S (b + 1)) (A (b + 1))) b (S b) (A b) = _
  rw [wd_self h1, wd_self h5]
theorem scW_at5 {b b2 : Nat} (h5 : (5, b) ∈ wL) (h1 : (1, b + 1) ∈ wL) {ci : Nat} (h2 : (ci, b2) ∈ wL) (n1 : b2 ≠ b) (n2 : b2 ≠ b + 1) {ss js : Nat → Int32} {sa ja : Nat → Nat → Int32} : bAt ci (scW (wld pl sp fp cnt nx kp S A) b ss sa js ja) b2 (S b2) (A b2) := by
  rw [scW_set h5 h1]
  have := wd_at (pl := pl) (sp := sp) (fp := fp) (cnt := cnt) (nx := nx) (kp := kp) (S := va_up (va_up S (b + 1) js) b ss) (A := va_up (va_up A (b + 1) ja) b sa) h2
  rw [va_ne n1, va_ne n2, va_ne n1, va_ne n2] at this
  exact this
end scwd
section past
variable {g : mG} {sz u pl sp : Nat} {fp cnt nx : Int32} {kp : Nat → Int32} {S : Nat → Nat → Int32} {A : Nat → Nat → Nat → Int32} {p : Pg} {N : Nat → Int32} {tx : Nat} {T : Nat → Int32} {un : Nat} {Pa Im : Nat → Int32}
set_option maxRecDepth 20000 in
set_option maxHeartbeats 1000000 in
theorem w_crem (hx : CIx pl sp cnt nx kp S A p N tx T un Pa Im) : Mt g 3 m_Past_remember [.ref 24, .ref 4] (wld pl sp fp cnt nx kp S A) sz u (fun r h' => r = none ∧ ∃ cnt' nx' S' A', h' = wld pl sp fp cnt' nx' kp S' A' ∧ S' 108 = S 108 ∧ A' 108 = A 108 ∧ CIx pl sp cnt' nx' kp S' A' p N tx T (rmU un + 1) (rmP N Pa un) Im) sz u := by
  have hm := CIx_mem hx
  obtain ⟨q1, q2, q3, q4, q5, q6, q7, q8, ⟨x, hx8, hun, hcnt, hnx, hPR⟩, q10⟩ := id hx
  have hC := q2.1.1.1.2.2.2
  have m5 := pm5 x hx8
  have m1 := pm1 x hx8
  have h24 : wld pl sp fp cnt nx kp S A 24 = cO 2 [.int cnt, .int nx, .ref 25] := wd_24
  have h25 : wld pl sp fp cnt nx kp S A 25 = cR 8 (fun i => if i < 8 then some (26 + 6 * i) else none) := wd_25
  refine Mt.of m_Past_remember_w m_Past_remember_x m_Past_remember_c rfl rfl (ls := [.ref 24, .ref 4]) rfl ?_
  refine V_aload_n rfl rfl ?_
  refine V_getfield rfl rfl (by first | assumption | exact blkW_0 | exact bAt_0 (by assumption) | exact bAt_0 (hA _ _) | rfl) (by rfl) ?_
  refine V_aload_n rfl rfl ?_
  refine V_getI rfl rfl h24 (by rfl) hnx ?_
  refine V_aaload rfl h25 rfl hx8 (by decide) (if_pos hx8) ?_
  refine V_aload_n rfl rfl ?_
  rw [show wld pl sp fp cnt nx kp S A = scW (wld pl sp fp cnt nx kp S A) (26 + 6 * x) (S (26 + 6 * x)) (A (26 + 6 * x)) (S (26 + 6 * x + 1)) (A (26 + 6 * x + 1)) from (scW_self m5 m1).symm]
  refine V_callV rfl rfl m_Scen_become_w m_Scen_become_x rfl (by decide) rfl (w_sbecome (ss2 := S 4) (sa2 := A 4) (js2 := S 5) (ja2 := A 5) (fun _ _ _ _ => scW_at5 m5 m1 (by decide) (by omega) (by omega)) (fun _ _ _ _ => scW_at5 m5 m1 (b2 := 5) (by decide) (by omega) (by omega))) (by decide) rfl (by first | assumption | exact blkW_0 | exact bAt_0 (by assumption) | exact bAt_0 (hA _ _) | rfl) (Nat.le_of_ble_eq_true rfl) (by first | exact Nat.le_refl _ | omega | decide) (by first | exact Nat.le_refl _ | omega | decide) (fun r hh1 hP => ?_)
  obtain ⟨rfl, ss', sa', js', ja', rfl, hB⟩ := hP
  rw [scW_set m5 m1]
  generalize hS' : va_up (va_up S (26 + 6 * x + 1) js') (26 + 6 * x) ss' = S'
  generalize hA' : va_up (va_up A (26 + 6 * x + 1) ja') (26 + 6 * x) sa' = A'
  have eo : ∀ b, b ≠ 26 + 6 * x → b ≠ 26 + 6 * x + 1 → S' b = S b ∧ A' b = A b := fun b b1 b2 => by
    rw [← hS', ← hA']
    exact ⟨(va_ne b1).trans (va_ne b2), (va_ne b1).trans (va_ne b2)⟩
  have eb : S' (26 + 6 * x) = ss' ∧ A' (26 + 6 * x) = sa' ∧ S' (26 + 6 * x + 1) = js' ∧ A' (26 + 6 * x + 1) = ja' := by
    rw [← hS', ← hA']
    exact ⟨va_eq, va_eq, (va_ne (by omega)).trans va_eq, (va_ne (by omega)).trans va_eq⟩
  refine V_aload_n rfl rfl ?_
  refine V_aload_n rfl rfl ?_
  refine V_getI rfl rfl wd_24 (by rfl) hnx ?_
  refine V_iconst (v := 1) rfl (by decide) ?_
  refine V_iadd rfl ?_
  refine V_bipush (v := 8) rfl (by decide) ?_
  refine V_callSi rfl rfl (Or.inl rfl) m_Mat_floorMod_w m_Mat_floorMod_x rfl rfl (s_fm _ _ (by decide)) (by decide) rfl (Nat.le_of_ble_eq_true rfl) ?_
  rw [fm8s x hx8]
  refine V_put rfl rfl wd_24 (Nat.le_of_ble_eq_true rfl) (fun _ hty => by cases hty; exact ⟨rfl, rfl⟩) (Or.inl rfl) rfl ?_
  rw [show va_up (wld pl sp fp cnt nx kp S' A') 24 (cO 2 ([Value.int cnt, Value.int nx, Value.ref 25].set 1 (Value.int (nI ((x + 1) % 8))))) = wld pl sp fp cnt (nI ((x + 1) % 8)) kp S' A' from wd_u24]
  refine V_aload_n rfl rfl ?_
  refine V_aload_n rfl rfl ?_
  refine V_getI rfl rfl wd_24 (by rfl) hcnt ?_
  refine V_iconst (v := 1) rfl (by decide) ?_
  refine V_iadd rfl ?_
  refine V_bipush (v := 8) rfl (by decide) ?_
  refine V_callSi rfl rfl (Or.inl rfl) m_Mat_min_w m_Mat_min_x rfl rfl (s_min _ _) (by decide) rfl (Nat.le_of_ble_eq_true rfl) ?_
  rw [show (if (8 : Int32) < nI un + 1 then 8 else nI un + 1) = nI (rmU un + 1) from ?_]
  rotate_left
  · refine (mnE 8 hun (by decide)).trans ?_
    unfold rmU
    by_cases e : un = 8
    · subst e; decide
    · rw [if_neg e, if_pos (nI_lt (show un < 8 by omega) (by decide)), nI_1]
  refine V_put rfl rfl wd_24 (Nat.le_of_ble_eq_true rfl) (fun _ hty => by cases hty; exact ⟨rfl, rfl⟩) (Or.inl rfl) rfl ?_
  rw [show va_up (wld pl sp fp cnt (nI ((x + 1) % 8)) kp S' A') 24 (cO 2 ([Value.int cnt, Value.int (nI ((x + 1) % 8)), Value.ref 25].set 0 (Value.int (nI (rmU un + 1))))) = wld pl sp fp (nI (rmU un + 1)) (nI ((x + 1) % 8)) kp S' A' from wd_u24]
  refine V_return rfl rfl ?_
  refine ⟨rfl, _, _, S', A', rfl, (eo 108 (by omega) (by omega)).1, (eo 108 (by omega) (by omega)).2, q1, ?_, q3, ?_, q5, RDx_c q6 (eo 2 (by omega) (by omega)), ?_, ?_, ?_, IRx_c q10 fun b b1 b2 => eo b (by omega) (by omega)⟩
  · rw [(eo pl (by omega) (by omega)).1, (eo pl (by omega) (by omega)).2]; exact q2
  · rw [(eo 4 (by omega) (by omega)).1, (eo 4 (by omega) (by omega)).2, (eo 5 (by omega) (by omega)).1, (eo 5 (by omega) (by omega)).2]; exact q4
  · rw [(eo 74 (by omega) (by omega)).1, (eo 74 (by omega) (by omega)).2]; exact q7
  · rw [(eo 77 (by omega) (by omega)).1, (eo 77 (by omega) (by omega)).2]; exact q8
  · have hru : rmU un ≤ 7 ∧ (un = 8 → rmU un = 7) ∧ (un ≠ 8 → rmU un = un) := by
      unfold rmU
      by_cases e : un = 8
      · rw [if_pos e]; omega
      · rw [if_neg e]; omega
    refine ⟨(x + 1) % 8, Nat.mod_lt _ (by decide), by omega, rfl, rfl, fun i hi => ?_⟩
    by_cases el : i = rmU un
    · have ep : ((x + 1) % 8 + 8 - (rmU un + 1) + i) % 8 = x := by omega
      have eN : ∀ k, k < 45 → rmP N Pa un (45 * i + k) = N k := fun k hk => by
        unfold rmP
        rw [el, fb_put_in (by omega) (by omega), Nat.add_sub_cancel_left]
      rw [ep, eb.1, eb.2.1, eb.2.2.1, eb.2.2.2]
      exact ⟨SR_cong hC (hB _ _ hC q4) eN, GN_cong hC q5 eN⟩
    · have hi2 : i < rmU un := by omega
      by_cases e8 : un = 8
      · have e7 := hru.2.1 e8
        have ep : ((x + 1) % 8 + 8 - (rmU un + 1) + i) % 8 = (x + 8 - un + (i + 1)) % 8 := by omega
        have eN : ∀ k, k < 45 → rmP N Pa un (45 * i + k) = Pa (45 * (i + 1) + k) := fun k hk => by
          unfold rmP
          rw [if_pos e8, fb_put_out (by omega), fa_fill_in (by omega), show 45 * i + k + 45 = 45 * (i + 1) + k by omega]
        have hne : (x + 8 - un + (i + 1)) % 8 ≠ x := by omega
        rw [ep, (eo _ (by omega) (by omega)).1, (eo _ (by omega) (by omega)).2, (eo (26 + 6 * ((x + 8 - un + (i + 1)) % 8) + 1) (by omega) (by omega)).1, (eo (26 + 6 * ((x + 8 - un + (i + 1)) % 8) + 1) (by omega) (by omega)).2]
        obtain ⟨s1, s2⟩ := hPR (i + 1) (by omega)
        exact ⟨SR_cong hC s1 eN, GN_cong hC s2 eN⟩
      · have e7 := hru.2.2 e8
        have ep : ((x + 1) % 8 + 8 - (rmU un + 1) + i) % 8 = (x + 8 - un + i) % 8 := by omega
        have eN : ∀ k, k < 45 → rmP N Pa un (45 * i + k) = Pa (45 * i + k) := fun k hk => by
          unfold rmP
          rw [if_neg e8, fb_put_out (by omega)]
        have hne : (x + 8 - un + i) % 8 ≠ x := by omega
        rw [ep, (eo _ (by omega) (by omega)).1, (eo _ (by omega) (by omega)).2, (eo (26 + 6 * ((x + 8 - un + i) % 8) + 1) (by omega) (by omega)).1, (eo (26 + 6 * ((x + 8 - un + i) % 8) + 1) (by omega) (by omega)).2]
        obtain ⟨s1, s2⟩ := hPR i (by omega)
        exact ⟨SR_cong hC s1 eN, GN_cong hC s2 eN⟩
end past
