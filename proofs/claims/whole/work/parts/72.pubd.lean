/-! ===== EarlyBinder: its deeds ===== -/
section pubd0
variable {pl sp : Nat} {fp cnt nx : Int32} {kp : Nat → Int32} {S : Nat → Nat → Int32} {A : Nat → Nat → Nat → Int32} {p : Pg} {N : Nat → Int32} {tx : Nat} {T : Nat → Int32} {un : Nat} {Pa Im : Nat → Int32}
theorem CIx_E1 : ∀ ss sa js ja, scW (wld pl sp fp cnt nx kp S A) 4 ss sa js ja 1 = ebO pl sp fp := fun ss sa js ja => by
  rw [scW_set (by decide) (by decide)]; exact wd_1
theorem CIx_E3 (h : CIx pl sp cnt nx kp S A p N tx T un Pa Im) : ∀ ss sa js ja, bAt 3 (scW (wld pl sp fp cnt nx kp S A) 4 ss sa js ja) pl (S pl) (A pl) := fun ss sa js ja => by
  have hm := CIx_mem h
  exact scW_at5 (by decide) (by decide) hm.1 (by omega) (by omega)
theorem CI_PS (h : CIx pl sp cnt nx kp S A p N tx T un Pa Im) {ss js N2 : Nat → Int32} {sa ja : Nat → Nat → Int32} (hS : SR (nC p) N2 ss (sa 5) js ja) (hG : GN p N2) : CI (scW (wld pl sp fp cnt nx kp S A) 4 ss sa js ja) fp kp p N2 tx T un Pa Im (S 108) (A 108) :=
  ⟨pl, sp, cnt, nx, _, _, scW_set (by decide) (by decide), (va_ne (by decide)).trans (va_ne (by decide)), (va_ne (by decide)).trans (va_ne (by decide)), CIx_4 h hS hG⟩
end pubd0
section pubd
variable {g : mG} {h : mH} {sz u : Nat} {fp : Int32} {kp : Nat → Int32} {p : Pg} {N : Nat → Int32} {tx : Nat} {T : Nat → Int32} {un : Nat} {Pa Im msc : Nat → Int32} {mar : Nat → Nat → Int32}
theorem d_load (hc : CI h fp kp p N tx T un Pa Im msc mar) (t : Int32) : Mt g 5 m_EB_load [.ref 1, .int t] h sz u (fun r h' => if inN t (nT p) && !bt (N 0) t.toNatClampNeg then r = some (.int (cnF 12 (bt (ldF p N t.toNatClampNeg (nC p) 0)) - cnF 12 (bt (N 0)))) ∧ CI h' fp kp p (ldF p N t.toNatClampNeg (nC p)) tx T (rmU un + 1) (rmP N Pa un) Im msc mar else r = some (.int (if inN t (nT p) then NOTv else UNK)) ∧ CI h' fp kp p N tx T un Pa Im msc mar) sz u := by
  have hc0 := hc
  obtain ⟨pl, sp, cnt, nx, S, A, rfl, rfl, rfl, hx⟩ := hc
  have hm := CIx_mem hx
  have h1 : wld pl sp fp cnt nx kp S A 1 = ebO pl sp fp := wd_1
  have hN : bAt 5 (wld pl sp fp cnt nx kp S A) 4 (S 4) (A 4) := wd_at (by decide)
  have hP : bAt 3 (wld pl sp fp cnt nx kp S A) pl (S pl) (A pl) := wd_at hm.1
  have h24 : wld pl sp fp cnt nx kp S A 24 = cO 2 [.int cnt, .int nx, .ref 25] := wd_24
  obtain ⟨-, hp, hwx, hSR, hG, -, -, -, -, -⟩ := id hx
  have hq := hp.1
  obtain ⟨hT, hB, hS, hC⟩ := hq.1.1
  have hL := hSR.1.1
  refine Mt.of m_EB_load_w m_EB_load_x m_EB_load_c rfl rfl (ls := [.ref 1, .int t]) rfl ?_
  refine V_aload_n rfl rfl ?_
  refine V_iload_n rfl rfl ?_
  refine V_callVi rfl rfl m_EB_isType_w m_EB_isType_x rfl (by decide) rfl (s_eT (by assumption) (by assumption) (by assumption) _) (by decide) rfl (by first | assumption | exact blkW_0 | exact bAt_0 (by assumption) | exact bAt_0 (hA _ _) | rfl) (Nat.le_of_ble_eq_true rfl) ?_
  cases ho : inN t (nT p)
  · refine V_if_neF rfl (rfl) ?_
    refine V_ldc rfl rfl ?_
    refine V_ireturn rfl rfl (by first | rfl | exact b2_nar _ | assumption | decide) ?_
    exact ⟨rfl, hc0⟩
  · refine V_if_neT rfl (by decide) ?_
    obtain ⟨t, ht, rfl⟩ := inN_t (by omega) ho
    rw [nI_clamp (n := t) (by omega)]
    refine V_aload_n rfl rfl ?_
    refine V_getfield rfl rfl (by first | assumption | exact blkW_0 | exact bAt_0 (by assumption) | exact bAt_0 (hA _ _) | rfl) (by rfl) ?_
    refine V_getI rfl rfl (by first | assumption | exact blkW_0 | exact bAt_0 (by assumption) | exact bAt_0 (hA _ _) | rfl) (by rfl) (by first | exact (by assumption) | rfl) ?_
    refine V_iload_n rfl rfl ?_
    refine V_callSi rfl rfl (Or.inl rfl) m_EB_has_w m_EB_has_x rfl rfl (s_hasv _ _ (by first | exact hasV_b (by first | omega | assumption) _ | exact hasV_m1 _ | rfl)) (by decide) rfl (Nat.le_of_ble_eq_true rfl) ?_
    cases hb : bt (N 0) t
    · refine V_if_eqT rfl (rfl) ?_
      refine V_aload_n rfl rfl ?_
      refine V_getfield rfl rfl (by first | assumption | exact blkW_0 | exact bAt_0 (by assumption) | exact bAt_0 (hA _ _) | rfl) (by rfl) ?_
      refine V_aload_n rfl rfl ?_
      refine V_getfield rfl rfl (by first | assumption | exact blkW_0 | exact bAt_0 (by assumption) | exact bAt_0 (hA _ _) | rfl) (by rfl) ?_
      refine V_callV rfl rfl m_Past_remember_w m_Past_remember_x rfl (by decide) rfl (w_crem hx) (by decide) rfl (by first | assumption | exact blkW_0 | exact bAt_0 (by assumption) | exact bAt_0 (hA _ _) | rfl) (Nat.le_of_ble_eq_true rfl) (by first | exact Nat.le_refl _ | omega | decide) (by first | exact Nat.le_refl _ | omega | decide) (fun r hh1 hP => ?_)
      obtain ⟨rfl, cnt2, nx2, S2, A2, rfl, e1, e2, hx2⟩ := hP
      obtain ⟨-, hp2, -, hSR2, -, -, -, -, -, -⟩ := id hx2
      rw [← scW_self (b := 4) (pl := pl) (sp := sp) (fp := fp) (cnt := cnt2) (nx := nx2) (kp := kp) (S := S2) (A := A2) (by decide) (by decide)]
      refine V_aload_n rfl rfl ?_
      refine V_iload_n rfl rfl ?_
      refine V_callV rfl rfl m_EB_loadWithAbove_w m_EB_loadWithAbove_x rfl (by decide) rfl (w_lwa CIx_E1 (CIx_E3 hx2) hp2 hwx hG hSR2 ht) (by decide) rfl (by first | assumption | exact blkW_0 | exact bAt_0 (by assumption) | exact bAt_0 (hA _ _) | rfl) (Nat.le_of_ble_eq_true rfl) (by first | exact Nat.le_refl _ | omega | decide) (by first | exact Nat.le_refl _ | omega | decide) (fun r hh1 hP => ?_)
      obtain ⟨rfl, ss', sa', js', ja', rfl, hSR3⟩ := hP
      refine V_ireturn rfl rfl (by first | rfl | exact b2_nar _ | assumption | decide) ?_
      refine ⟨rfl, ?_⟩
      rw [← e1, ← e2]
      exact CI_PS hx2 hSR3 (GN_ld hq.1 hwx ht hG)
    · refine V_if_eqF rfl (by decide) ?_
      refine V_ldc rfl rfl ?_
      refine V_ireturn rfl rfl (by first | rfl | exact b2_nar _ | assumption | decide) ?_
      exact ⟨rfl, hc0⟩
theorem d_root (hc : CI h fp kp p N tx T un Pa Im msc mar) (b : Int32) (is : Bool) : Mt g 4 m_EB_root [.ref 1, .int b, .int (b2 is)] h sz u (fun r h' => if inN b (nB p) && (bt (N 1) b.toNatClampNeg ^^ is) then r = some (.int (N 1 ^^^ bI b.toNatClampNeg)) ∧ CI h' fp kp p (upd N 1 (N 1 ^^^ bI b.toNatClampNeg)) tx T (rmU un + 1) (rmP N Pa un) Im msc mar else r = some (.int (if inN b (nB p) then NOTv else UNK)) ∧ CI h' fp kp p N tx T un Pa Im msc mar) sz u := by
  have hc0 := hc
  obtain ⟨pl, sp, cnt, nx, S, A, rfl, rfl, rfl, hx⟩ := hc
  have hm := CIx_mem hx
  have h1 : wld pl sp fp cnt nx kp S A 1 = ebO pl sp fp := wd_1
  have hN : bAt 5 (wld pl sp fp cnt nx kp S A) 4 (S 4) (A 4) := wd_at (by decide)
  have hP : bAt 3 (wld pl sp fp cnt nx kp S A) pl (S pl) (A pl) := wd_at hm.1
  have h24 : wld pl sp fp cnt nx kp S A 24 = cO 2 [.int cnt, .int nx, .ref 25] := wd_24
  obtain ⟨-, hp, hwx, hSR, hG, -, -, -, -, -⟩ := id hx
  have hq := hp.1
  obtain ⟨hT, hB, hS, hC⟩ := hq.1.1
  have hR := hSR.1.2.1
  refine Mt.of m_EB_root_w m_EB_root_x m_EB_root_c rfl rfl (ls := [.ref 1, .int b, .int (b2 is)]) rfl ?_
  refine V_aload_n rfl rfl ?_
  refine V_iload_n rfl rfl ?_
  refine V_callVi rfl rfl m_EB_isBody_w m_EB_isBody_x rfl (by decide) rfl (s_eB (by assumption) (by assumption) (by assumption) _) (by decide) rfl (by first | assumption | exact blkW_0 | exact bAt_0 (by assumption) | exact bAt_0 (hA _ _) | rfl) (Nat.le_of_ble_eq_true rfl) ?_
  cases ho : inN b (nB p)
  · refine V_if_neF rfl (rfl) ?_
    refine V_ldc rfl rfl ?_
    refine V_ireturn rfl rfl (by first | rfl | exact b2_nar _ | assumption | decide) ?_
    exact ⟨rfl, hc0⟩
  · refine V_if_neT rfl (by decide) ?_
    obtain ⟨b, hb, rfl⟩ := inN_t (by omega) ho
    rw [nI_clamp (n := b) (by omega)]
    refine V_aload_n rfl rfl ?_
    refine V_getfield rfl rfl (by first | assumption | exact blkW_0 | exact bAt_0 (by assumption) | exact bAt_0 (hA _ _) | rfl) (by rfl) ?_
    refine V_getI rfl rfl (by first | assumption | exact blkW_0 | exact bAt_0 (by assumption) | exact bAt_0 (hA _ _) | rfl) (by rfl) (by first | exact (by assumption) | rfl) ?_
    refine V_iload_n rfl rfl ?_
    refine V_callSi rfl rfl (Or.inl rfl) m_EB_has_w m_EB_has_x rfl rfl (s_hasv _ _ (by first | exact hasV_b (by first | omega | assumption) _ | exact hasV_m1 _ | rfl)) (by decide) rfl (Nat.le_of_ble_eq_true rfl) ?_
    refine V_iload_n rfl rfl ?_
    cases h2 : (bt (N 1) b ^^ is)
    · have e : bt (N 1) b = is := by
        revert h2
        cases bt (N 1) b <;> cases is <;> decide
      refine V_icmp_neF rfl (by rw [e]) ?_
      refine V_ldc rfl rfl ?_
      refine V_ireturn rfl rfl (by first | rfl | exact b2_nar _ | assumption | decide) ?_
      exact ⟨rfl, hc0⟩
    · have e : ¬ b2 (bt (N 1) b) = b2 is := by
        revert h2
        cases bt (N 1) b <;> cases is <;> decide
      refine V_icmp_neT rfl (e) ?_
      refine V_aload_n rfl rfl ?_
      refine V_getfield rfl rfl (by first | assumption | exact blkW_0 | exact bAt_0 (by assumption) | exact bAt_0 (hA _ _) | rfl) (by rfl) ?_
      refine V_aload_n rfl rfl ?_
      refine V_getfield rfl rfl (by first | assumption | exact blkW_0 | exact bAt_0 (by assumption) | exact bAt_0 (hA _ _) | rfl) (by rfl) ?_
      refine V_callV rfl rfl m_Past_remember_w m_Past_remember_x rfl (by decide) rfl (w_crem hx) (by decide) rfl (by first | assumption | exact blkW_0 | exact bAt_0 (by assumption) | exact bAt_0 (hA _ _) | rfl) (Nat.le_of_ble_eq_true rfl) (by first | exact Nat.le_refl _ | omega | decide) (by first | exact Nat.le_refl _ | omega | decide) (fun r hh1 hP => ?_)
      obtain ⟨rfl, cnt2, nx2, S2, A2, rfl, e1, e2, hx2⟩ := hP
      obtain ⟨-, hp2, -, hSR2, -, -, -, -, -, -⟩ := id hx2
      have hR2 := hSR2.1.2.1
      rw [← scW_self (b := 4) (pl := pl) (sp := sp) (fp := fp) (cnt := cnt2) (nx := nx2) (kp := kp) (S := S2) (A := A2) (by decide) (by decide)]
      have h1 := CIx_E1 (pl := pl) (sp := sp) (fp := fp) (cnt := cnt2) (nx := nx2) (kp := kp) (S := S2) (A := A2) (S2 4) (A2 4) (S2 (4 + 1)) (A2 (4 + 1))
      refine V_aload_n rfl rfl ?_
      refine V_getfield rfl rfl (by first | assumption | exact blkW_0 | exact bAt_0 (by assumption) | exact bAt_0 (hA _ _) | rfl) (by rfl) ?_
      refine V_dup rfl rfl ?_
      refine V_getI rfl rfl (by first | assumption | exact blkW_0 | exact bAt_0 (by assumption) | exact bAt_0 (hA _ _) | rfl) (by rfl) (by first | exact (by assumption) | rfl) ?_
      refine V_iload_n rfl rfl ?_
      refine V_callSi rfl rfl (Or.inl rfl) m_EB_bit_w m_EB_bit_x rfl rfl (s_bitv _ (by first | exact bitV_b (by first | omega | assumption) | exact bitV_m1 | rfl)) (by decide) rfl (Nat.le_of_ble_eq_true rfl) ?_
      refine V_ixor rfl ?_
      first | refine V_pput rfl rfl rfl rfl rfl ?_ | refine V_bput rfl rfl rfl rfl rfl rfl ?_ | refine V_bputZ rfl rfl rfl rfl rfl rfl (by decide) ?_ | refine V_put rfl rfl (by first | assumption | rfl) (by decide) (fun _ hty => by cases hty; exact ⟨rfl, rfl⟩) (by first | exact Or.inl rfl | exact Or.inr ⟨rfl, rfl⟩) rfl ?_
      have h1 := CIx_E1 (pl := pl) (sp := sp) (fp := fp) (cnt := cnt2) (nx := nx2) (kp := kp) (S := S2) (A := A2) (upd (S2 4) 1 (N 1 ^^^ bI b)) (A2 4) (S2 (4 + 1)) (A2 (4 + 1))
      refine V_aload_n rfl rfl ?_
      refine V_getfield rfl rfl (by first | assumption | exact blkW_0 | exact bAt_0 (by assumption) | exact bAt_0 (hA _ _) | rfl) (by rfl) ?_
      refine V_getI rfl rfl blkW_0 (by rfl) pk_us ?_
      refine V_ireturn rfl rfl (by first | rfl | exact b2_nar _ | assumption | decide) ?_
      refine ⟨rfl, ?_⟩
      rw [← e1, ← e2]
      exact CI_PS hx2 (SR_root hSR2) (GN_root hG)
theorem d_bind (hc : CI h fp kp p N tx T un Pa Im msc mar) (c : Int32) : Mt g 4 m_EB_bind [.ref 1, .int c] h sz u (fun r h' => if inN c (nC p) && canB p N c.toNatClampNeg then r = some (.int (nI (low (may p c.toNatClampNeg (N 0))))) ∧ CI h' fp kp p (bndF p N c.toNatClampNeg) tx T (rmU un + 1) (rmP N Pa un) Im msc mar else r = some (.int (if inN c (nC p) then NOTv else UNK)) ∧ CI h' fp kp p N tx T un Pa Im msc mar) sz u := by
  have hc0 := hc
  obtain ⟨pl, sp, cnt, nx, S, A, rfl, rfl, rfl, hx⟩ := hc
  have hm := CIx_mem hx
  have h1 : wld pl sp fp cnt nx kp S A 1 = ebO pl sp fp := wd_1
  have hN : bAt 5 (wld pl sp fp cnt nx kp S A) 4 (S 4) (A 4) := wd_at (by decide)
  have hP : bAt 3 (wld pl sp fp cnt nx kp S A) pl (S pl) (A pl) := wd_at hm.1
  have h24 : wld pl sp fp cnt nx kp S A 24 = cO 2 [.int cnt, .int nx, .ref 25] := wd_24
  obtain ⟨-, hp, hwx, hSR, hG, -, -, -, -, -⟩ := id hx
  have hq := hp.1
  obtain ⟨hT, hB, hS, hC⟩ := hq.1.1
  have hL := hSR.1.1
  have hb := hSR.2.1
  have hBN := GN_BN hq.1 hG
  refine Mt.of m_EB_bind_w m_EB_bind_x m_EB_bind_c rfl rfl (ls := [.ref 1, .int c, .retAddr 0]) rfl ?_
  refine V_aload_n rfl rfl ?_
  refine V_iload_n rfl rfl ?_
  refine V_callVi rfl rfl m_EB_isCall_w m_EB_isCall_x rfl (by decide) rfl (s_eC (by assumption) (by assumption) (by assumption) _) (by decide) rfl (by first | assumption | exact blkW_0 | exact bAt_0 (by assumption) | exact bAt_0 (hA _ _) | rfl) (Nat.le_of_ble_eq_true rfl) ?_
  cases ho : inN c (nC p)
  · refine V_if_neF rfl (rfl) ?_
    refine V_ldc rfl rfl ?_
    refine V_ireturn rfl rfl (by first | rfl | exact b2_nar _ | assumption | decide) ?_
    exact ⟨rfl, hc0⟩
  · refine V_if_neT rfl (by decide) ?_
    obtain ⟨c, hc, rfl⟩ := inN_t (by omega) ho
    rw [nI_clamp (n := c) (by omega)]
    refine V_aload_n rfl rfl ?_
    refine V_iload_n rfl rfl ?_
    refine V_callVi rfl rfl m_EB_bodyToBind_w m_EB_bodyToBind_x rfl (by decide) rfl (s_btb (by assumption) (by assumption) (by assumption) (by assumption) (by assumption) (by assumption) (by assumption) (by assumption) (by first | omega | assumption)) (by decide) rfl (by first | assumption | exact blkW_0 | exact bAt_0 (by assumption) | exact bAt_0 (hA _ _) | rfl) (Nat.le_of_ble_eq_true rfl) ?_
    refine V_is2 rfl (by first | rfl | assumption) ?_
    cases hcb : canB p N c
    · rw [show (if (false : Bool) = true then nI (low (may p c (N 0))) else (-1 : Int32)) = -1 from rfl]
      refine V_iload_n rfl rfl ?_
      refine V_iconst (v := (-1)) rfl (by decide) ?_
      refine V_icmp_neF rfl (rfl) ?_
      refine V_ldc rfl rfl ?_
      refine V_ireturn rfl rfl (by first | rfl | exact b2_nar _ | assumption | decide) ?_
      exact ⟨rfl, hc0⟩
    · rw [show (if (true : Bool) = true then nI (low (may p c (N 0))) else (-1 : Int32)) = nI (low (may p c (N 0))) from rfl]
      obtain ⟨l1, l2, l3⟩ := canB_is hq.1 hcb
      refine V_iload_n rfl rfl ?_
      refine V_iconst (v := (-1)) rfl (by decide) ?_
      refine V_icmp_neT rfl (nI_m1 (by omega)) ?_
      refine V_aload_n rfl rfl ?_
      refine V_getfield rfl rfl (by first | assumption | exact blkW_0 | exact bAt_0 (by assumption) | exact bAt_0 (hA _ _) | rfl) (by rfl) ?_
      refine V_aload_n rfl rfl ?_
      refine V_getfield rfl rfl (by first | assumption | exact blkW_0 | exact bAt_0 (by assumption) | exact bAt_0 (hA _ _) | rfl) (by rfl) ?_
      refine V_callV rfl rfl m_Past_remember_w m_Past_remember_x rfl (by decide) rfl (w_crem hx) (by decide) rfl (by first | assumption | exact blkW_0 | exact bAt_0 (by assumption) | exact bAt_0 (hA _ _) | rfl) (Nat.le_of_ble_eq_true rfl) (by first | exact Nat.le_refl _ | omega | decide) (by first | exact Nat.le_refl _ | omega | decide) (fun r hh1 hP => ?_)
      obtain ⟨rfl, cnt2, nx2, S2, A2, rfl, e1, e2, hx2⟩ := hP
      obtain ⟨-, hp2, -, hSR2, -, -, -, -, -, -⟩ := id hx2
      rw [← scW_self (b := 4) (pl := pl) (sp := sp) (fp := fp) (cnt := cnt2) (nx := nx2) (kp := kp) (S := S2) (A := A2) (by decide) (by decide)]
      have h1 := CIx_E1 (pl := pl) (sp := sp) (fp := fp) (cnt := cnt2) (nx := nx2) (kp := kp) (S := S2) (A := A2) (S2 4) (A2 4) (S2 (4 + 1)) (A2 (4 + 1))
      refine V_aload_n rfl rfl ?_
      refine V_getfield rfl rfl (by first | assumption | exact blkW_0 | exact bAt_0 (by assumption) | exact bAt_0 (hA _ _) | rfl) (by rfl) ?_
      refine V_iload_n rfl rfl ?_
      refine V_iload_n rfl rfl ?_
      refine V_callV rfl rfl m_Scen_bindTo_w m_Scen_bindTo_x rfl (by decide) rfl (w_bindTo hSR2 hC hG.2.2.1 hc (show low (may p c (N 0)) < 20 by omega)) (by decide) rfl (by first | assumption | exact blkW_0 | exact bAt_0 (by assumption) | exact bAt_0 (hA _ _) | rfl) (Nat.le_of_ble_eq_true rfl) (by first | exact Nat.le_refl _ | omega | decide) (by first | exact Nat.le_refl _ | omega | decide) (fun r hh1 hP => ?_)
      obtain ⟨rfl, ss', sa', js', ja', rfl, hSR3⟩ := hP
      refine V_iload_n rfl rfl ?_
      refine V_ireturn rfl rfl (by first | rfl | exact b2_nar _ | assumption | decide) ?_
      refine ⟨rfl, ?_⟩
      rw [← e1, ← e2]
      exact CI_PS hx2 hSR3 (GN_bnd hq.1 hG hc hcb)
theorem d_loose (hc : CI h fp kp p N tx T un Pa Im msc mar) (c : Int32) : Mt g 4 m_EB_loose [.ref 1, .int c] h sz u (fun r h' => if inN c (nC p) && !decide (N (2 + c.toNatClampNeg) < 0) then r = some (.int (N (2 + c.toNatClampNeg))) ∧ CI h' fp kp p (upd N (2 + c.toNatClampNeg) (-1)) tx T (rmU un + 1) (rmP N Pa un) Im msc mar else r = some (.int (if inN c (nC p) then NOTv else UNK)) ∧ CI h' fp kp p N tx T un Pa Im msc mar) sz u := by
  have hc0 := hc
  obtain ⟨pl, sp, cnt, nx, S, A, rfl, rfl, rfl, hx⟩ := hc
  have hm := CIx_mem hx
  have h1 : wld pl sp fp cnt nx kp S A 1 = ebO pl sp fp := wd_1
  have hN : bAt 5 (wld pl sp fp cnt nx kp S A) 4 (S 4) (A 4) := wd_at (by decide)
  have hP : bAt 3 (wld pl sp fp cnt nx kp S A) pl (S pl) (A pl) := wd_at hm.1
  have h24 : wld pl sp fp cnt nx kp S A 24 = cO 2 [.int cnt, .int nx, .ref 25] := wd_24
  obtain ⟨-, hp, hwx, hSR, hG, -, -, -, -, -⟩ := id hx
  have hq := hp.1
  obtain ⟨hT, hB, hS, hC⟩ := hq.1.1
  have hBN := GN_BN hq.1 hG
  refine Mt.of m_EB_loose_w m_EB_loose_x m_EB_loose_c rfl rfl (ls := [.ref 1, .int c, .retAddr 0]) rfl ?_
  refine V_aload_n rfl rfl ?_
  refine V_iload_n rfl rfl ?_
  refine V_callVi rfl rfl m_EB_isCall_w m_EB_isCall_x rfl (by decide) rfl (s_eC (by assumption) (by assumption) (by assumption) _) (by decide) rfl (by first | assumption | exact blkW_0 | exact bAt_0 (by assumption) | exact bAt_0 (hA _ _) | rfl) (Nat.le_of_ble_eq_true rfl) ?_
  cases ho : inN c (nC p)
  · refine V_if_neF rfl (rfl) ?_
    refine V_ldc rfl rfl ?_
    refine V_ireturn rfl rfl (by first | rfl | exact b2_nar _ | assumption | decide) ?_
    exact ⟨rfl, hc0⟩
  · refine V_if_neT rfl (by decide) ?_
    obtain ⟨c, hc, rfl⟩ := inN_t (by omega) ho
    rw [nI_clamp (n := c) (by omega)]
    have hlt := BN_lt hBN hc
    refine V_aload_n rfl rfl ?_
    refine V_getfield rfl rfl (by first | assumption | exact blkW_0 | exact bAt_0 (by assumption) | exact bAt_0 (hA _ _) | rfl) (by rfl) ?_
    refine V_iload_n rfl rfl ?_
    refine V_callVi rfl rfl m_Scen_boundBody_w m_Scen_boundBody_x rfl (by decide) rfl (s_bdB (by assumption) (by first | omega | assumption)) (by decide) rfl (by first | assumption | exact blkW_0 | exact bAt_0 (by assumption) | exact bAt_0 (hA _ _) | rfl) (Nat.le_of_ble_eq_true rfl) ?_
    rw [hSR.2.1 c hc]
    refine V_is2 rfl (by first | rfl | assumption) ?_
    refine V_iload_n rfl rfl ?_
    refine V_iconst (v := (-1)) rfl (by decide) ?_
    by_cases e : N (2 + c) = -1
    · rw [decide_eq_true (hlt.mpr e)]
      refine V_icmp_neF rfl (e) ?_
      refine V_ldc rfl rfl ?_
      refine V_ireturn rfl rfl (by first | rfl | exact b2_nar _ | assumption | decide) ?_
      exact ⟨rfl, hc0⟩
    · rw [decide_eq_false (fun z => e (hlt.mp z))]
      refine V_icmp_neT rfl (e) ?_
      refine V_aload_n rfl rfl ?_
      refine V_getfield rfl rfl (by first | assumption | exact blkW_0 | exact bAt_0 (by assumption) | exact bAt_0 (hA _ _) | rfl) (by rfl) ?_
      refine V_aload_n rfl rfl ?_
      refine V_getfield rfl rfl (by first | assumption | exact blkW_0 | exact bAt_0 (by assumption) | exact bAt_0 (hA _ _) | rfl) (by rfl) ?_
      refine V_callV rfl rfl m_Past_remember_w m_Past_remember_x rfl (by decide) rfl (w_crem hx) (by decide) rfl (by first | assumption | exact blkW_0 | exact bAt_0 (by assumption) | exact bAt_0 (hA _ _) | rfl) (Nat.le_of_ble_eq_true rfl) (by first | exact Nat.le_refl _ | omega | decide) (by first | exact Nat.le_refl _ | omega | decide) (fun r hh1 hP => ?_)
      obtain ⟨rfl, cnt2, nx2, S2, A2, rfl, e1, e2, hx2⟩ := hP
      obtain ⟨-, hp2, -, hSR2, -, -, -, -, -, -⟩ := id hx2
      rw [← scW_self (b := 4) (pl := pl) (sp := sp) (fp := fp) (cnt := cnt2) (nx := nx2) (kp := kp) (S := S2) (A := A2) (by decide) (by decide)]
      have h1 := CIx_E1 (pl := pl) (sp := sp) (fp := fp) (cnt := cnt2) (nx := nx2) (kp := kp) (S := S2) (A := A2) (S2 4) (A2 4) (S2 (4 + 1)) (A2 (4 + 1))
      refine V_aload_n rfl rfl ?_
      refine V_getfield rfl rfl (by first | assumption | exact blkW_0 | exact bAt_0 (by assumption) | exact bAt_0 (hA _ _) | rfl) (by rfl) ?_
      refine V_iload_n rfl rfl ?_
      refine V_callVn rfl rfl m_Scen_setFree_w m_Scen_setFree_x rfl (by decide) rfl (w_setFree (show c < 24 by omega)) (by decide) rfl (by first | assumption | exact blkW_0 | exact bAt_0 (by assumption) | exact bAt_0 (hA _ _) | rfl) (Nat.le_of_ble_eq_true rfl) ?_
      refine V_iload_n rfl rfl ?_
      refine V_ireturn rfl rfl (by first | rfl | exact b2_nar _ | assumption | decide) ?_
      refine ⟨rfl, ?_⟩
      rw [← e1, ← e2]
      exact CI_PS hx2 (by simp only [va_up, if_pos]; exact SR_free hc hC hSR2) (GN_free (by omega) hG)
set_option maxRecDepth 20000 in
set_option maxHeartbeats 1000000 in
theorem e_ba {pl sp : Nat} {h : mH} {psc : Nat → Int32} {par_ : Nat → Nat → Int32} (E1 : ∀ ss sa js ja, scW h 4 ss sa js ja 1 = ebO pl sp fp) (E3 : ∀ ss sa js ja, bAt 3 (scW h 4 ss sa js ja) pl psc par_) (hp : CP p psc par_) (hwx : WX p) (k : Nat) : k ≤ nC p → ∀ (ss : Nat → Int32) (sa : Nat → Nat → Int32) (js : Nat → Int32) (ja : Nat → Nat → Int32), SR (nC p) (baF p N (nC p - k)) ss (sa 5) js ja → GN p (baF p N (nC p - k)) → V g 4 m_EB_bindAll (fun r h' => PS h (nC p) (baF p N (nC p)) (some (.int (baN p N (nC p)))) r h' ∧ GN p (baF p N (nC p))) sz u 15 [.ref 1, .int (baN p N (nC p - k)), .int (nI (nC p - k)), .retAddr 0] [] (scW h 4 ss sa js ja) sz u := by
  have hq := hp.1
  obtain ⟨hT, hB, hS, hC⟩ := hp.1.1.1
  induction k with
  | zero =>
    intro hk ss sa js ja hSR hG
    have h1 := E1 ss sa js ja
    have hP := E3 ss sa js ja
    rw [Nat.sub_zero] at hSR hG ⊢
    refine V_iload_n rfl rfl ?_
    refine V_aload_n rfl rfl ?_
    refine V_getfield rfl rfl (by first | assumption | exact blkW_0 | exact bAt_0 (by assumption) | exact bAt_0 (hA _ _) | rfl) (by rfl) ?_
    refine V_getI rfl rfl (by first | assumption | exact blkW_0 | exact bAt_0 (by assumption) | exact bAt_0 (hA _ _) | rfl) (by rfl) (by first | exact cq_nC (by assumption) | rfl) ?_
    refine V_icmp_geT rfl (nI_le (Nat.le_refl _) (by omega)) ?_
    refine V_iload_n rfl rfl ?_
    refine V_ireturn rfl rfl (by first | rfl | exact b2_nar _ | assumption | decide) ?_
    exact ⟨⟨rfl, ss, sa, js, ja, rfl, hSR⟩, hG⟩
  | succ k ih =>
    intro hk ss sa js ja hSR hG
    have h1 := E1 ss sa js ja
    have hP := E3 ss sa js ja
    have hN : bAt 5 (scW h 4 ss sa js ja) 4 ss sa := blkW_at
    obtain ⟨i, hi⟩ : ∃ i, i = nC p - (k + 1) := ⟨_, rfl⟩
    rw [← hi] at hSR hG ⊢
    have hL := hSR.1.1
    have hb := hSR.2.1
    have hBN := GN_BN hq.1 hG
    have hl : baF p N (i + 1) = if canB p (baF p N i) i then bndF p (baF p N i) i else baF p N i := rfl
    have hl2 : baN p N (i + 1) = baN p N i + b2 (canB p (baF p N i) i) := rfl
    have hin : i < nC p := by omega
    refine V_iload_n rfl rfl ?_
    refine V_aload_n rfl rfl ?_
    refine V_getfield rfl rfl (by first | assumption | exact blkW_0 | exact bAt_0 (by assumption) | exact bAt_0 (hA _ _) | rfl) (by rfl) ?_
    refine V_getI rfl rfl (by first | assumption | exact blkW_0 | exact bAt_0 (by assumption) | exact bAt_0 (hA _ _) | rfl) (by rfl) (by first | exact cq_nC (by assumption) | rfl) ?_
    refine V_icmp_geF rfl (nI_ge hin (by omega)) ?_
    refine V_aload_n rfl rfl ?_
    refine V_iload_n rfl rfl ?_
    refine V_callVi rfl rfl m_EB_bodyToBind_w m_EB_bodyToBind_x rfl (by decide) rfl (s_btb (by assumption) (by assumption) (by assumption) (by assumption) (by assumption) (by assumption) (by assumption) (by assumption) (by first | omega | assumption)) (by decide) rfl (by first | assumption | exact blkW_0 | exact bAt_0 (by assumption) | exact bAt_0 (hA _ _) | rfl) (Nat.le_of_ble_eq_true rfl) ?_
    refine V_is3 rfl (by first | rfl | assumption) ?_
    cases hcb : canB p (baF p N i) i
    · rw [hcb] at hl hl2
      rw [if_neg (by decide)] at hl
      rw [if_neg (by decide)]
      refine V_iload_n rfl rfl ?_
      refine V_iconst (v := (-1)) rfl (by decide) ?_
      refine V_icmp_eqT rfl (rfl) ?_
      refine V_inc2 rfl (by first | exact mInc _ | rfl) (by first | rfl | assumption) ?_
      rw [show i + 1 = nC p - k by omega]
      refine V_goto rfl ?_
      have := ih (by omega) ss sa js ja (by rw [show nC p - k = i + 1 by omega, hl]; exact hSR) (by rw [show nC p - k = i + 1 by omega, hl]; exact hG)
      rw [show baN p N (nC p - k) = baN p N i by rw [show nC p - k = i + 1 by omega, hl2]; exact Int32.add_zero _] at this
      exact V_wk this (by simp [mWk])
    · rw [hcb] at hl hl2
      rw [if_pos rfl] at hl
      rw [if_pos rfl]
      obtain ⟨l1, l2, l3⟩ := canB_is hq.1 hcb
      refine V_iload_n rfl rfl ?_
      refine V_iconst (v := (-1)) rfl (by decide) ?_
      refine V_icmp_eqF rfl (nI_m1 (by omega)) ?_
      refine V_aload_n rfl rfl ?_
      refine V_getfield rfl rfl (by first | assumption | exact blkW_0 | exact bAt_0 (by assumption) | exact bAt_0 (hA _ _) | rfl) (by rfl) ?_
      refine V_iload_n rfl rfl ?_
      refine V_iload_n rfl rfl ?_
      refine V_callV rfl rfl m_Scen_bindTo_w m_Scen_bindTo_x rfl (by decide) rfl (w_bindTo hSR hC hG.2.2.1 hin (show low (may p i (baF p N i 0)) < 20 by omega)) (by decide) rfl (by first | assumption | exact blkW_0 | exact bAt_0 (by assumption) | exact bAt_0 (hA _ _) | rfl) (Nat.le_of_ble_eq_true rfl) (by first | exact Nat.le_refl _ | omega | decide) (by first | exact Nat.le_refl _ | omega | decide) (fun r hh1 hP => ?_)
      obtain ⟨rfl, ss', sa', js', ja', rfl, hSR3⟩ := hP
      refine V_inc1 rfl (by first | exact mInc _ | rfl) (by first | rfl | assumption) ?_
      refine V_inc2 rfl (by first | exact mInc _ | rfl) (by first | rfl | assumption) ?_
      rw [show i + 1 = nC p - k by omega]
      refine V_goto rfl ?_
      have := ih (by omega) ss' sa' js' ja' (by rw [show nC p - k = i + 1 by omega, hl]; exact hSR3) (by rw [show nC p - k = i + 1 by omega, hl]; exact GN_bnd hq.1 hG hin hcb)
      rw [show baN p N (nC p - k) = baN p N i + 1 by rw [show nC p - k = i + 1 by omega, hl2]; rfl] at this
      exact V_wk this (by simp [mWk])
theorem d_bindAll (hc : CI h fp kp p N tx T un Pa Im msc mar) : Mt g 4 m_EB_bindAll [.ref 1] h sz u (fun r h' => r = some (.int (baN p N (nC p))) ∧ CI h' fp kp p (baF p N (nC p)) tx T (rmU un + 1) (rmP N Pa un) Im msc mar) sz u := by
  obtain ⟨pl, sp, cnt, nx, S, A, rfl, rfl, rfl, hx⟩ := hc
  have h1 : wld pl sp fp cnt nx kp S A 1 = ebO pl sp fp := wd_1
  have h24 : wld pl sp fp cnt nx kp S A 24 = cO 2 [.int cnt, .int nx, .ref 25] := wd_24
  obtain ⟨-, hp, hwx, hSR, hG, -, -, -, -, -⟩ := id hx
  refine Mt.of m_EB_bindAll_w m_EB_bindAll_x m_EB_bindAll_c rfl rfl (ls := [.ref 1, .retAddr 0, .retAddr 0, .retAddr 0]) rfl ?_
  refine V_aload_n rfl rfl ?_
  refine V_getfield rfl rfl (by first | assumption | exact blkW_0 | exact bAt_0 (by assumption) | exact bAt_0 (hA _ _) | rfl) (by rfl) ?_
  refine V_aload_n rfl rfl ?_
  refine V_getfield rfl rfl (by first | assumption | exact blkW_0 | exact bAt_0 (by assumption) | exact bAt_0 (hA _ _) | rfl) (by rfl) ?_
  refine V_callV rfl rfl m_Past_remember_w m_Past_remember_x rfl (by decide) rfl (w_crem hx) (by decide) rfl (by first | assumption | exact blkW_0 | exact bAt_0 (by assumption) | exact bAt_0 (hA _ _) | rfl) (Nat.le_of_ble_eq_true rfl) (by first | exact Nat.le_refl _ | omega | decide) (by first | exact Nat.le_refl _ | omega | decide) (fun r hh1 hP => ?_)
  obtain ⟨rfl, cnt2, nx2, S2, A2, rfl, e1, e2, hx2⟩ := hP
  obtain ⟨-, hp2, -, hSR2, -, -, -, -, -, -⟩ := id hx2
  rw [← scW_self (b := 4) (pl := pl) (sp := sp) (fp := fp) (cnt := cnt2) (nx := nx2) (kp := kp) (S := S2) (A := A2) (by decide) (by decide)]
  refine V_iconst (v := 0) rfl (by decide) ?_
  refine V_is1 rfl (by first | rfl | assumption) ?_
  refine V_iconst (v := 0) rfl (by decide) ?_
  refine V_is2 rfl (by first | rfl | assumption) ?_
  have hz : nC p - nC p = 0 := by omega
  have key := e_ba (g := g) (sz := sz) (u := u) (N := N) CIx_E1 (CIx_E3 (fp := fp) hx2) hp2 hwx (nC p) (Nat.le_refl _) (S2 4) (A2 4) (S2 (4 + 1)) (A2 (4 + 1)) (by rw [hz]; exact hSR2) (by rw [hz]; exact hG)
  rw [hz] at key
  refine key.mono fun r h' hr => ?_
  obtain ⟨⟨rfl, ss', sa', js', ja', rfl, hSR3⟩, hG3⟩ := hr
  refine ⟨rfl, ?_⟩
  rw [← e1, ← e2]
  exact CI_PS hx2 hSR3 hG3
end pubd
