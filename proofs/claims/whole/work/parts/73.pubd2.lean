section pubd2
variable {g : mG} {h : mH} {sz u : Nat} {fp : Int32} {kp : Nat → Int32} {p : Pg} {N : Nat → Int32} {tx : Nat} {T : Nat → Int32} {un : Nat} {Pa Im msc : Nat → Int32} {mar : Nat → Nat → Int32}
set_option maxRecDepth 20000 in
set_option maxHeartbeats 1000000 in
theorem e_dr {pl sp : Nat} {h : mH} {psc : Nat → Int32} {par_ : Nat → Nat → Int32} (E1 : ∀ ss sa js ja, scW h 4 ss sa js ja 1 = ebO pl sp fp) (E3 : ∀ ss sa js ja, bAt 3 (scW h 4 ss sa js ja) pl psc par_) (hp : CP p psc par_) (hwx : WX p) (h0 : 0 < nT p) {s n : Nat} (hs : s ≤ 999999) (hn : n ≤ 40) (k : Nat) : k ≤ n → ∀ (ss : Nat → Int32) (sa : Nat → Nat → Int32) (js : Nat → Int32) (ja : Nat → Nat → Int32), SR (nC p) (drF p N s (n - k)) ss (sa 5) js ja → GN p (drF p N s (n - k)) → V g 6 m_EB_drift (fun r h' => PS h (nC p) (drF p N s n) (some (.int (drF p N s n 0))) r h' ∧ GN p (drF p N s n)) sz u 56 [.ref 1, .int (nI n), .int (nI s), .long (lN (lotN s (n - k))), .retAddr 0, .int (nI (n - k))] [] (scW h 4 ss sa js ja) sz u := by
  have hq := hp.1
  induction k with
  | zero =>
    intro hk ss sa js ja hSR hG
    have h1 := E1 ss sa js ja
    have hN : bAt 5 (scW h 4 ss sa js ja) 4 ss sa := blkW_at
    rw [Nat.sub_zero] at hSR hG ⊢
    have hL := hSR.1.1
    refine V_iload rfl rfl ?_
    refine V_iload_n rfl rfl ?_
    refine V_icmp_geT rfl (nI_le (Nat.le_refl _) (by omega)) ?_
    refine V_aload_n rfl rfl ?_
    refine V_getfield rfl rfl (by first | assumption | exact blkW_0 | exact bAt_0 (by assumption) | exact bAt_0 (hA _ _) | rfl) (by rfl) ?_
    refine V_getI rfl rfl (by first | assumption | exact blkW_0 | exact bAt_0 (by assumption) | exact bAt_0 (hA _ _) | rfl) (by rfl) (by first | exact (by assumption) | rfl) ?_
    refine V_ireturn rfl rfl (by first | rfl | exact b2_nar _ | assumption | decide) ?_
    exact ⟨⟨rfl, ss, sa, js, ja, rfl, hSR⟩, hG⟩
  | succ k ih =>
    intro hk ss sa js ja hSR hG
    have h1 := E1 ss sa js ja
    obtain ⟨i, hi⟩ : ∃ i, i = n - (k + 1) := ⟨_, rfl⟩
    rw [← hi] at hSR hG ⊢
    have hl := lotN_lt s (by omega) i
    have hl2 := lotN_lt s (by omega) (i + 1)
    have hs2 : lotN s (i + 1) = lotN s i * 16807 % 2147483647 := rfl
    have hd : drF p N s (i + 1) = stB p (drF p N s i) (lotN s (i + 1) % 4) (lotN s (i + 1) / 4) := rfl
    refine V_iload rfl rfl ?_
    refine V_iload_n rfl rfl ?_
    refine V_icmp_geF rfl (nI_ge (show i < n by omega) (by omega)) ?_
    refine V_lload_n rfl rfl ?_
    refine V_ldc2 rfl rfl ?_
    refine V_lmul rfl ?_
    rw [lt1]
    refine V_ldc2 rfl rfl ?_
    refine V_lrem rfl (by decide) ?_
    rw [lt2 (by omega), ← hs2]
    refine V_lst3 rfl (by first | rfl | assumption) ?_
    refine V_aload_n rfl rfl ?_
    refine V_lload_n rfl rfl ?_
    refine V_l2i rfl ?_
    rw [lN_i]
    refine V_callV rfl rfl m_EB_driftOnce_w m_EB_driftOnce_x rfl (by decide) rfl (w_dOnce E1 E3 hp hwx hG hSR h0 (show lotN s (i + 1) < 2 ^ 31 by omega)) (by decide) rfl (by first | assumption | exact blkW_0 | exact bAt_0 (by assumption) | exact bAt_0 (hA _ _) | rfl) (Nat.le_of_ble_eq_true rfl) (by first | exact Nat.le_refl _ | omega | decide) (by first | exact Nat.le_refl _ | omega | decide) (fun r hh1 hP => ?_)
    obtain ⟨rfl, ss', sa', js', ja', rfl, hSR3⟩ := hP
    refine V_inc5 rfl (by first | exact mInc _ | rfl) (by first | rfl | assumption) ?_
    rw [show i + 1 = n - k by omega] at *
    refine V_goto rfl ?_
    exact ih (by omega) ss' sa' js' ja' (by rw [hd]; exact hSR3) (by rw [hd]; exact GN_stB hq.1 hwx h0 hG)
theorem d_drift (hc : CI h fp kp p N tx T un Pa Im msc mar) (n seed : Int32) : Mt g 6 m_EB_drift [.ref 1, .int n, .int seed] h sz u (fun r h' => if drOk n seed && decide (0 < nT p) then r = some (.int (drF p N seed.toNatClampNeg n.toNatClampNeg 0)) ∧ CI h' fp kp p (drF p N seed.toNatClampNeg n.toNatClampNeg) tx T (rmU un + 1) (rmP N Pa un) Im msc mar else r = some (.int (if drOk n seed then NOTv else OUT)) ∧ CI h' fp kp p N tx T un Pa Im msc mar) sz u := by
  have hc0 := hc
  obtain ⟨pl, sp, cnt, nx, S, A, rfl, rfl, rfl, hx⟩ := hc
  have hm := CIx_mem hx
  have h1 : wld pl sp fp cnt nx kp S A 1 = ebO pl sp fp := wd_1
  have hP : bAt 3 (wld pl sp fp cnt nx kp S A) pl (S pl) (A pl) := wd_at hm.1
  have h24 : wld pl sp fp cnt nx kp S A 24 = cO 2 [.int cnt, .int nx, .ref 25] := wd_24
  obtain ⟨-, hp, hwx, hSR, hG, -, -, -, -, -⟩ := id hx
  have hq := hp.1
  obtain ⟨hT, hB, hS, hC⟩ := hq.1.1
  refine Mt.of m_EB_drift_w m_EB_drift_x m_EB_drift_c rfl rfl (ls := [.ref 1, .int n, .int seed, .retAddr 0, .retAddr 0, .retAddr 0]) rfl ?_
  have no : drOk n seed = false → V g 6 m_EB_drift (fun r h' => if drOk n seed && decide (0 < nT p) then r = some (.int (drF p N seed.toNatClampNeg n.toNatClampNeg 0)) ∧ CI h' fp kp p (drF p N seed.toNatClampNeg n.toNatClampNeg) tx T (rmU un + 1) (rmP N Pa un) Im (S 108) (A 108) else r = some (.int (if drOk n seed then NOTv else OUT)) ∧ CI h' fp kp p N tx T un Pa Im (S 108) (A 108)) sz u 23 [.ref 1, .int n, .int seed, .retAddr 0, .retAddr 0, .retAddr 0] [] (wld pl sp fp cnt nx kp S A) sz u := by
    intro e
    rw [e]
    refine V_ldc rfl rfl ?_
    refine V_ireturn rfl rfl (by first | rfl | exact b2_nar _ | assumption | decide) ?_
    exact ⟨rfl, hc0⟩
  have dk : drOk n seed = (decide (1 ≤ n ∧ n ≤ 40) && decide (1 ≤ seed ∧ seed ≤ 999999)) := rfl
  refine V_iload_n rfl rfl ?_
  refine V_iconst (v := 1) rfl (by decide) ?_
  refine V_icmp_lt rfl (fun c2 => ?_) (fun c2 => ?_)
  · exact no (by rw [dk, decide_eq_false (fun z => fa_of_nlt2 z.1 c2)]; rfl)
  · refine V_iload_n rfl rfl ?_
    refine V_bipush (v := 40) rfl (by decide) ?_
    refine V_icmp_gt rfl (fun c8 => ?_) (fun c8 => ?_)
    · exact no (by rw [dk, decide_eq_false (fun z => fa_of_nlt2 z.2 c8)]; rfl)
    · refine V_iload_n rfl rfl ?_
      refine V_iconst (v := 1) rfl (by decide) ?_
      refine V_icmp_lt rfl (fun c13 => ?_) (fun c13 => ?_)
      · exact no (by rw [dk, decide_eq_false (p := 1 ≤ seed ∧ seed ≤ 999999) (fun z => fa_of_nlt2 z.1 c13), Bool.and_false])
      · refine V_iload_n rfl rfl ?_
        refine V_ldcw rfl rfl ?_
        by_cases c20 : seed ≤ 999999
        · refine V_icmp_leT rfl (c20) ?_
          have hok : drOk n seed = true := by rw [dk, decide_eq_true ⟨fa_of_nlt c2, fa_of_nlt c8⟩, decide_eq_true ⟨fa_of_nlt c13, c20⟩]; rfl
          obtain ⟨k, k1, k2, rfl⟩ := nI_of1 (n := 40) (by decide) (fa_of_nlt c2) (fa_of_nlt c8)
          obtain ⟨s, s1, s2, rfl⟩ := nI_of1 (n := 999999) (by decide) (fa_of_nlt c13) c20
          rw [hok, nI_clamp (n := k) (by omega), nI_clamp (n := s) (by omega), Bool.true_and]
          clear no dk
          refine V_aload_n rfl rfl ?_
          refine V_getfield rfl rfl (by first | assumption | exact blkW_0 | exact bAt_0 (by assumption) | exact bAt_0 (hA _ _) | rfl) (by rfl) ?_
          refine V_getI rfl rfl (by first | assumption | exact blkW_0 | exact bAt_0 (by assumption) | exact bAt_0 (hA _ _) | rfl) (by rfl) (by first | exact cq_nT (by assumption) | rfl) ?_
          by_cases h0 : 0 < nT p
          · rw [decide_eq_true h0]
            refine V_if_neT rfl (nI_ne0 h0 (by omega)) ?_
            refine V_aload_n rfl rfl ?_
            refine V_getfield rfl rfl (by first | assumption | exact blkW_0 | exact bAt_0 (by assumption) | exact bAt_0 (hA _ _) | rfl) (by rfl) ?_
            refine V_aload_n rfl rfl ?_
            refine V_getfield rfl rfl (by first | assumption | exact blkW_0 | exact bAt_0 (by assumption) | exact bAt_0 (hA _ _) | rfl) (by rfl) ?_
            refine V_callV rfl rfl m_Past_remember_w m_Past_remember_x rfl (by decide) rfl (w_crem hx) (by decide) rfl (by first | assumption | exact blkW_0 | exact bAt_0 (by assumption) | exact bAt_0 (hA _ _) | rfl) (Nat.le_of_ble_eq_true rfl) (by first | exact Nat.le_refl _ | omega | decide) (by first | exact Nat.le_refl _ | omega | decide) (fun r hh1 hP => ?_)
            obtain ⟨rfl, cnt2, nx2, S2, A2, rfl, e1, e2, hx2⟩ := hP
            obtain ⟨-, hp2, -, hSR2, -, -, -, -, -, -⟩ := id hx2
            rw [← scW_self (b := 4) (pl := pl) (sp := sp) (fp := fp) (cnt := cnt2) (nx := nx2) (kp := kp) (S := S2) (A := A2) (by decide) (by decide)]
            refine V_iload_n rfl rfl ?_
            refine V_i2l rfl ?_
            rw [show (nI s).toInt64 = lN s from nI_l (by omega)]
            refine V_lst3 rfl (by first | rfl | assumption) ?_
            refine V_iconst (v := 0) rfl (by decide) ?_
            refine V_is5 rfl (by first | rfl | assumption) ?_
            have hz : k - k = 0 := by omega
            have key := e_dr (g := g) (sz := sz) (u := u) (N := N) CIx_E1 (CIx_E3 (fp := fp) hx2) hp2 hwx h0 s2 k2 k (Nat.le_refl _) (S2 4) (A2 4) (S2 (4 + 1)) (A2 (4 + 1)) (by rw [hz]; exact hSR2) (by rw [hz]; exact hG)
            rw [hz] at key
            refine key.mono fun r h' hr => ?_
            obtain ⟨⟨rfl, ss', sa', js', ja', rfl, hSR3⟩, hG3⟩ := hr
            refine ⟨rfl, ?_⟩
            rw [← e1, ← e2]
            exact CI_PS hx2 hSR3 hG3
          · rw [decide_eq_false h0]
            refine V_if_neF rfl (by rw [show nT p = 0 by omega]; rfl) ?_
            refine V_ldc rfl rfl ?_
            refine V_ireturn rfl rfl (by first | rfl | exact b2_nar _ | assumption | decide) ?_
            exact ⟨rfl, hc0⟩
        · refine V_icmp_leF rfl (c20) ?_
          exact no (by rw [dk, decide_eq_false (p := 1 ≤ seed ∧ seed ≤ 999999) (fun z => c20 z.2), Bool.and_false])
set_option maxRecDepth 20000 in
set_option maxHeartbeats 1000000 in
theorem w_pclr {pl sp : Nat} {cnt nx : Int32} {S : Nat → Nat → Int32} {A : Nat → Nat → Nat → Int32} : Mt g 0 m_Past_clear [.ref 24] (wld pl sp fp cnt nx kp S A) sz u (Pn (wld pl sp fp 0 nx kp S A)) sz u := by
  refine Mt.of m_Past_clear_w m_Past_clear_x m_Past_clear_c rfl rfl (ls := [.ref 24]) rfl ?_
  refine V_aload_n rfl rfl ?_
  refine V_iconst (v := 0) rfl (by decide) ?_
  refine V_put rfl rfl wd_24 (Nat.le_of_ble_eq_true rfl) (fun _ hty => by cases hty; exact ⟨rfl, rfl⟩) (Or.inl rfl) rfl ?_
  rw [show va_up (wld pl sp fp cnt nx kp S A) 24 (cO 2 ([Value.int cnt, Value.int nx, Value.ref 25].set 0 (Value.int 0))) = wld pl sp fp 0 nx kp S A from wd_u24]
  refine V_return rfl rfl ?_
  exact ⟨rfl, rfl⟩
set_option maxRecDepth 20000 in
set_option maxHeartbeats 1000000 in
theorem w_cgb {pl sp : Nat} {cnt nx : Int32} {S : Nat → Nat → Int32} {A : Nat → Nat → Nat → Int32} (hx : CIx pl sp cnt nx kp S A p N tx T un Pa Im) : Mt g 3 m_Past_giveBack [.ref 24, .ref 4] (wld pl sp fp cnt nx kp S A) sz u (fun r h' => if un = 0 then r = some (.int 0) ∧ h' = wld pl sp fp cnt nx kp S A else r = some (.int 1) ∧ ∃ nx' S' A', h' = wld pl sp fp (nI (un - 1)) nx' kp S' A' ∧ S' 108 = S 108 ∧ A' 108 = A 108 ∧ CIx pl sp (nI (un - 1)) nx' kp S' A' p (fa_fill (fun k => Pa (45 * (un - 1) + k)) N 45) tx T (un - 1) Pa Im) sz u := by
  have hm := CIx_mem hx
  obtain ⟨q1, q2, q3, q4, q5, q6, q7, q8, ⟨x, hx8, hun, hcnt, hnx, hPR⟩, q10⟩ := id hx
  have hC := q2.1.1.1.2.2.2
  have h24 : wld pl sp fp cnt nx kp S A 24 = cO 2 [.int cnt, .int nx, .ref 25] := wd_24
  refine Mt.of m_Past_giveBack_w m_Past_giveBack_x m_Past_giveBack_c rfl rfl (ls := [.ref 24, .ref 4]) rfl ?_
  refine V_aload_n rfl rfl ?_
  refine V_getI rfl rfl h24 (by rfl) hcnt ?_
  by_cases e0 : un = 0
  · simp only [if_pos e0]
    refine V_if_gtF rfl (by rw [e0]; decide) ?_
    refine V_iconst (v := 0) rfl (by decide) ?_
    refine V_ireturn rfl rfl (by first | rfl | exact b2_nar _ | assumption | decide) ?_
    exact ⟨rfl, rfl⟩
  · simp only [if_neg e0]
    have hy8 : (x + 7) % 8 < 8 := Nat.mod_lt _ (by decide)
    have m5 := pm5 _ hy8
    have m1 := pm1 _ hy8
    refine V_if_gtT rfl (nI_lt (a := 0) (by omega) (by omega)) ?_
    refine V_aload_n rfl rfl ?_
    refine V_aload_n rfl rfl ?_
    refine V_getI rfl rfl wd_24 (by rfl) hnx ?_
    refine V_iconst (v := 1) rfl (by decide) ?_
    refine V_isub rfl ?_
    refine V_bipush (v := 8) rfl (by decide) ?_
    refine V_callSi rfl rfl (Or.inl rfl) m_Mat_floorMod_w m_Mat_floorMod_x rfl rfl (s_fm _ _ (by decide)) (by decide) rfl (Nat.le_of_ble_eq_true rfl) ?_
    rw [fm8p x hx8]
    refine V_put rfl rfl wd_24 (Nat.le_of_ble_eq_true rfl) (fun _ hty => by cases hty; exact ⟨rfl, rfl⟩) (Or.inl rfl) rfl ?_
    rw [show va_up (wld pl sp fp cnt nx kp S A) 24 (cO 2 ([Value.int cnt, Value.int nx, Value.ref 25].set 1 (Value.int (nI ((x + 7) % 8))))) = wld pl sp fp cnt (nI ((x + 7) % 8)) kp S A from wd_u24]
    refine V_aload_n rfl rfl ?_
    refine V_dup rfl rfl ?_
    refine V_getI rfl rfl wd_24 (by rfl) hcnt ?_
    refine V_iconst (v := 1) rfl (by decide) ?_
    refine V_isub rfl ?_
    rw [show nI un - 1 = nI (un - 1) from pk_sub (b := 1) (by omega)]
    refine V_put rfl rfl wd_24 (Nat.le_of_ble_eq_true rfl) (fun _ hty => by cases hty; exact ⟨rfl, rfl⟩) (Or.inl rfl) rfl ?_
    rw [show va_up (wld pl sp fp cnt (nI ((x + 7) % 8)) kp S A) 24 (cO 2 ([Value.int cnt, Value.int (nI ((x + 7) % 8)), Value.ref 25].set 0 (Value.int (nI (un - 1))))) = wld pl sp fp (nI (un - 1)) (nI ((x + 7) % 8)) kp S A from wd_u24]
    refine V_aload_n rfl rfl ?_
    refine V_aload_n rfl rfl ?_
    refine V_getfield rfl rfl wd_24 (by rfl) ?_
    refine V_aload_n rfl rfl ?_
    refine V_getI rfl rfl wd_24 (by rfl) rfl ?_
    refine V_aaload rfl wd_25 rfl hy8 (by decide) (if_pos hy8) ?_
    rw [← scW_self (b := 4) (pl := pl) (sp := sp) (fp := fp) (cnt := nI (un - 1)) (nx := nI ((x + 7) % 8)) (kp := kp) (S := S) (A := A) (by decide) (by decide)]
    refine V_callV rfl rfl m_Scen_become_w m_Scen_become_x rfl (by decide) rfl (w_sbecome (b2 := 26 + 6 * ((x + 7) % 8)) (fun _ _ _ _ => scW_at5 (by decide) (by decide) m5 (by omega) (by omega)) (fun _ _ _ _ => scW_at5 (by decide) (by decide) m1 (by omega) (by omega))) (by decide) rfl (by first | assumption | exact blkW_0 | exact bAt_0 (by assumption) | exact bAt_0 (hA _ _) | rfl) (Nat.le_of_ble_eq_true rfl) (by first | exact Nat.le_refl _ | omega | decide) (by first | exact Nat.le_refl _ | omega | decide) (fun r hh1 hP => ?_)
    obtain ⟨rfl, ss', sa', js', ja', rfl, hB⟩ := hP
    rw [scW_set (by decide) (by decide)]
    refine V_iconst (v := 1) rfl (by decide) ?_
    refine V_ireturn rfl rfl (by first | rfl | exact b2_nar _ | assumption | decide) ?_
    have eN : ∀ k, k < 45 → fa_fill (fun k => Pa (45 * (un - 1) + k)) N 45 k = Pa (45 * (un - 1) + k) := fun k hk => fa_fill_in hk
    obtain ⟨s1, s2⟩ := hPR (un - 1) (by omega)
    rw [show (x + 8 - un + (un - 1)) % 8 = (x + 7) % 8 by omega] at s1
    have hx2 : CIx pl sp (nI (un - 1)) (nI ((x + 7) % 8)) kp S A p N tx T (un - 1) Pa Im := by
      refine ⟨q1, q2, q3, q4, q5, q6, q7, q8, ⟨(x + 7) % 8, hy8, by omega, rfl, rfl, fun i hi => ?_⟩, q10⟩
      rw [show ((x + 7) % 8 + 8 - (un - 1) + i) % 8 = (x + 8 - un + i) % 8 by omega]
      exact hPR i (by omega)
    exact ⟨rfl, _, _, _, rfl, (va_ne (by decide)).trans (va_ne (by decide)), (va_ne (by decide)).trans (va_ne (by decide)), CIx_4 hx2 (SR_cong hC (hB _ _ hC s1) eN) (GN_cong hC s2 eN)⟩
theorem d_undo (hc : CI h fp kp p N tx T un Pa Im msc mar) : Mt g 4 m_EB_undo [.ref 1] h sz u (fun r h' => if un = 0 then r = some (.int NOTv) ∧ CI h' fp kp p N tx T un Pa Im msc mar else r = some (.int (nI (un - 1))) ∧ CI h' fp kp p (fa_fill (fun k => Pa (45 * (un - 1) + k)) N 45) tx T (un - 1) Pa Im msc mar) sz u := by
  have hc0 := hc
  obtain ⟨pl, sp, cnt, nx, S, A, rfl, rfl, rfl, hx⟩ := hc
  have h1 : wld pl sp fp cnt nx kp S A 1 = ebO pl sp fp := wd_1
  have h24 : wld pl sp fp cnt nx kp S A 24 = cO 2 [.int cnt, .int nx, .ref 25] := wd_24
  refine Mt.of m_EB_undo_w m_EB_undo_x m_EB_undo_c rfl rfl (ls := [.ref 1]) rfl ?_
  refine V_aload_n rfl rfl ?_
  refine V_getfield rfl rfl (by first | assumption | exact blkW_0 | exact bAt_0 (by assumption) | exact bAt_0 (hA _ _) | rfl) (by rfl) ?_
  refine V_aload_n rfl rfl ?_
  refine V_getfield rfl rfl (by first | assumption | exact blkW_0 | exact bAt_0 (by assumption) | exact bAt_0 (hA _ _) | rfl) (by rfl) ?_
  refine V_callV rfl rfl m_Past_giveBack_w m_Past_giveBack_x rfl (by decide) rfl (w_cgb hx) (by decide) rfl (by first | assumption | exact blkW_0 | exact bAt_0 (by assumption) | exact bAt_0 (hA _ _) | rfl) (Nat.le_of_ble_eq_true rfl) (by first | exact Nat.le_refl _ | omega | decide) (by first | exact Nat.le_refl _ | omega | decide) (fun r hh1 hP => ?_)
  by_cases e0 : un = 0
  · simp only [if_pos e0] at hP ⊢
    obtain ⟨rfl, rfl⟩ := hP
    refine V_if_eqT rfl (rfl) ?_
    refine V_ldc rfl rfl ?_
    refine V_ireturn rfl rfl (by first | rfl | exact b2_nar _ | assumption | decide) ?_
    exact ⟨rfl, hc0⟩
  · simp only [if_neg e0] at hP ⊢
    obtain ⟨rfl, nx', S', A', rfl, e1, e2, hx2⟩ := hP
    have h1 : wld pl sp fp (nI (un - 1)) nx' kp S' A' 1 = ebO pl sp fp := wd_1
    have h24 : wld pl sp fp (nI (un - 1)) nx' kp S' A' 24 = cO 2 [.int (nI (un - 1)), .int nx', .ref 25] := wd_24
    refine V_if_eqF rfl (by decide) ?_
    refine V_aload_n rfl rfl ?_
    refine V_getfield rfl rfl (by first | assumption | exact blkW_0 | exact bAt_0 (by assumption) | exact bAt_0 (hA _ _) | rfl) (by rfl) ?_
    refine V_getI rfl rfl (by first | assumption | exact blkW_0 | exact bAt_0 (by assumption) | exact bAt_0 (hA _ _) | rfl) (by rfl) (by first | rfl) ?_
    refine V_goto rfl ?_
    refine V_ireturn rfl rfl (by first | rfl | exact b2_nar _ | assumption | decide) ?_
    exact ⟨rfl, pl, sp, _, _, S', A', rfl, e1, e2, hx2⟩
end pubd2
