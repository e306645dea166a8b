section pth
variable {p : Pg} {R M rt : Int32} {b d : Nat}
/-- the reference's way: at each place a body that has so many to go -/
theorem pth_ok (hB : nB p ≤ 20) (hd : d < nB p) (hr : ∃ r, r < nB p ∧ bt rt r = true ∧ mn (clB p R M) b d r) : ∀ i, i ≤ d → ∃ y, y < nB p ∧ pthF p R M (lay p R M b (nB p)) rt (nI d) i = nI y ∧ mn (clB p R M) b (d - i) y ∧ (i = 0 → y = fa_first (fun x => bt rt x && decide (lay p R M b (nB p) x = nI d)) (nB p))
  | 0, _ => by
    obtain ⟨r, r1, r2, r3⟩ := hr
    have e := (lay_spec hB (nB p) hB r d (by omega)).mpr r3
    generalize hK : fa_first (fun x => bt rt x && decide (lay p R M b (nB p) x = nI d)) (nB p) = K
    have hlt : K < nB p := by
      rcases Nat.lt_or_ge K (nB p) with q | q
      · exact q
      · have := fa_first_no (fun x => bt rt x && decide (lay p R M b (nB p) x = nI d)) (nB p) r (by omega)
        rw [r2, decide_eq_true e] at this; cases this
    have hy := fa_first_yes (fun x => bt rt x && decide (lay p R M b (nB p) x = nI d)) (nB p) (by omega)
    rw [hK, Bool.and_eq_true, decide_eq_true_eq] at hy
    refine ⟨K, hlt, ?_, (lay_spec hB (nB p) hB K d (by omega)).mp hy.2, fun _ => rfl⟩
    show oB (nB p) (fa_first (fun x => bt rt x && decide (lay p R M b (nB p) x = nI d)) (nB p)) = _
    unfold oB
    rw [hK, if_pos hlt]
  | i + 1, hi => by
    obtain ⟨y, y1, y2, y3, -⟩ := pth_ok hB hd hr i (by omega)
    have hc : clX p R M (pthF p R M (lay p R M b (nB p)) rt (nI d) i) = clB p R M y := by
      rw [y2]
      unfold clX
      rw [if_neg (nI_pos (by omega)), nI_clamp (by omega)]
    rw [show d - i = d - (i + 1) + 1 by omega] at y3
    obtain ⟨z, z1, z2⟩ := y3.1
    have z3 := (mn_step y3 z1).mp z2
    have zB := sub_clB hB R M y z z1
    have e := (lay_spec hB (nB p) hB z (d - (i + 1)) (by omega)).mpr z3
    have hsub : nI d - nI (i + 1) = nI (d - (i + 1)) := pk_sub (by omega)
    generalize hK : fa_first (fun x => bt (clB p R M y) x && decide (lay p R M b (nB p) x = nI (d - (i + 1)))) (nB p) = K
    have hlt : K < nB p := by
      rcases Nat.lt_or_ge K (nB p) with q | q
      · exact q
      · have := fa_first_no (fun x => bt (clB p R M y) x && decide (lay p R M b (nB p) x = nI (d - (i + 1)))) (nB p) z (by omega)
        rw [z1, decide_eq_true e] at this; cases this
    have hy := fa_first_yes (fun x => bt (clB p R M y) x && decide (lay p R M b (nB p) x = nI (d - (i + 1)))) (nB p) (by omega)
    rw [hK, Bool.and_eq_true, decide_eq_true_eq] at hy
    refine ⟨K, hlt, ?_, (lay_spec hB (nB p) hB K (d - (i + 1)) (by omega)).mp hy.2, fun z => by omega⟩
    show fst1 p (lay p R M b (nB p)) (clX p R M (pthF p R M (lay p R M b (nB p)) rt (nI d) i)) (nI d - nI (i + 1)) = _
    rw [hc, hsub]
    unfold fst1 oB
    rw [hK, if_pos hlt]
end pth
section flow5
variable {g : mG} {h : mH} {sz u fb : Nat} {p : Pg} {sc N : Nat → Int32} {ar : Nat → Nat → Int32}
set_option maxRecDepth 20000 in
set_option maxHeartbeats 1000000 in
theorem w_wayTo (hV : FV p false sc ar) (hw : WB p) (hx : WX p) (hL : upC p (sc 6)) (h0 : N 0 = sc 6) (h1 : N 1 = sc 7) {b : Nat} (hb : b < nB p) (k : Int32) (hk : ¬ k < -1) : Mt g 3 m_Flow_wayTo [.ref fb, .int (nI b), .int k] (blkW 0 h fb sc ar) sz u (fun r h' => r = some (.int (wayM p N b k)) ∧ ∃ row, h' = blkW 0 h fb sc (va_up ar 4 row)) sz u := by
  have hB := hw.1.2.1
  have e0 : sc 0 = (rcX p (sc 6) (sc 7) false).1 := congrArg Prod.fst hV.1
  have e1 : sc 1 = (rcX p (sc 6) (sc 7) false).2 := congrArg Prod.snd hV.1
  have er : rch p N 0 = (sc 0, sc 1) := by
    rw [hV.1, ← h0, ← h1]
    rfl
  have ert : (N 1 &&& setF (nB p) fun c => bt (N 0) (bT p c)) = rtS p (sc 6) (sc 7) := by
    rw [and_setF (by omega), h0, h1]
    rfl
  have hs := rcX_sub (R := sc 7) hw hx hL
  rw [← e0] at hs
  unfold wayM
  rw [er, ert]
  dsimp only
  cases hr : bt (sc 0) b
  · rw [if_neg (by decide)]
    refine Mt.of m_Flow_wayTo_w m_Flow_wayTo_x m_Flow_wayTo_c rfl rfl (ls := [.ref fb, .int (nI b), .int k, .retAddr 0, .retAddr 0, .retAddr 0]) rfl ?_
    refine V_aload_n rfl rfl ?_
    refine V_iload_n rfl rfl ?_
    refine V_callVi rfl rfl m_Flow_layTo_w m_Flow_layTo_x rfl (by decide) rfl (w_layTo0 (by omega) hr) (by decide) rfl (by first | assumption | exact blkW_0 | exact bAt_0 (by assumption) | exact bAt_0 (hA _ _) | rfl) (Nat.le_of_ble_eq_true rfl) ?_
    refine V_is3 rfl (by first | rfl | assumption) ?_
    refine V_iload_n rfl rfl ?_
    refine V_iconst (v := (-1)) rfl (by decide) ?_
    refine V_icmp_eqT rfl (rfl) ?_
    refine V_iload_n rfl rfl ?_
    refine V_ireturn rfl rfl (by first | rfl | exact b2_nar _ | assumption | decide) ?_
    exact ⟨rfl, ar 4, by rw [va_self]⟩
  · rw [if_pos rfl]
    obtain ⟨d, d1, ⟨r, r1, r2⟩, d2⟩ := way_len (R := sc 7) (L := sc 6) hw hb (by rw [← e0]; exact hr)
    rw [← e0, ← e1] at r2 d2
    have hrB : r < nB p := ((bt_setF (by omega)).mp r1).1
    have el : lstF (lay p (sc 0) (sc 1) b (nB p)) (rtS p (sc 6) (sc 7)) (nB p) = nI d := lst_d hB d1 ⟨r, hrB, r1, r2⟩ d2
    rw [el]
    have hp := pth_ok (rt := rtS p (sc 6) (sc 7)) hB d1 ⟨r, hrB, r1, r2⟩
    have hG : ∀ x, sub 20 (clB p (sc 0) (sc 1) x) := fun x => sub_mono (sub_clB hB _ _ x) hB
    have hLy := bt_Ly (G := clB p (sc 0) (sc 1)) (b := b) (by omega) hG
    have hla := lay_spec (p := p) (R := sc 0) (S := sc 1) (b := b) hB (nB p) hB
    refine Mt.of m_Flow_wayTo_w m_Flow_wayTo_x m_Flow_wayTo_c rfl rfl (ls := [.ref fb, .int (nI b), .int k, .retAddr 0, .retAddr 0, .retAddr 0]) rfl ?_
    refine V_aload_n rfl rfl ?_
    refine V_iload_n rfl rfl ?_
    refine V_callVi rfl rfl m_Flow_layTo_w m_Flow_layTo_x rfl (by decide) rfl (w_layTo hV hw hx hL hb hr d1 ⟨r, r1, r2⟩ d2) (by decide) rfl (by first | assumption | exact blkW_0 | exact bAt_0 (by assumption) | exact bAt_0 (hA _ _) | rfl) (Nat.le_of_ble_eq_true rfl) ?_
    refine V_is3 rfl (by first | rfl | assumption) ?_
    refine V_iload_n rfl rfl ?_
    refine V_iconst (v := (-1)) rfl (by decide) ?_
    refine V_icmp_eqF rfl (nI_m1 (by omega)) ?_
    refine V_iload_n rfl rfl ?_
    refine V_iconst (v := (-1)) rfl (by decide) ?_
    by_cases ek : k = -1
    · rw [if_pos ek]
      refine V_icmp_neF rfl (ek) ?_
      refine V_iload_n rfl rfl ?_
      refine V_ireturn rfl rfl (by first | rfl | exact b2_nar _ | assumption | decide) ?_
      exact ⟨rfl, _, rfl⟩
    · rw [if_neg ek]
      refine V_icmp_neT rfl (ek) ?_
      refine V_iload_n rfl rfl ?_
      refine V_iload_n rfl rfl ?_
      by_cases hkl : nI d < k
      · rw [if_pos hkl]
        refine V_icmp_leF rfl (fun q => fa_of_nlt2 q hkl) ?_
        refine V_iconst (v := (-1)) rfl (by decide) ?_
        refine V_ireturn rfl rfl (by first | rfl | exact b2_nar _ | assumption | decide) ?_
        exact ⟨rfl, _, rfl⟩
      · rw [if_neg hkl]
        obtain ⟨K, hK31, hK⟩ : ∃ K : Nat, K < 2 ^ 31 ∧ k = nI K := nI_of (x := k) (fun q => by
          rw [fa_lt] at q
          rw [fa_lt] at hk
          have e0 : (0 : Int32).toInt = 0 := rfl
          have e1 : (-1 : Int32).toInt = -1 := rfl
          exact ek (Int32.toInt_inj.mp (by omega)))
        subst hK
        have hKd : K ≤ d := by
          rcases Nat.lt_or_ge d K with q | q
          · exact absurd (nI_lt q hK31) hkl
          · exact q
        rw [nI_clamp hK31]
        generalize hrow : fa_fill (Ly (clB p (sc 0) (sc 1)) b) (ar 4) (d + 1) = row
        have hro : ∀ j, j ≤ d → row j = Ly (clB p (sc 0) (sc 1)) b j := fun j hj => by rw [← hrow, fa_fill_in (by omega)]
        have ero : va_up ar 4 row 4 = row := by funext j; rw [va_g]
        have ero2 : ∀ j, j < 20 → va_up ar 4 row 2 j = clB p (sc 0) (sc 1) j := fun j hj => by rw [va_n (by decide)]; exact hV.2 j hj
        refine V_icmp_leT rfl (nI_le hKd (by omega)) ?_
        refine V_aload_n rfl rfl ?_
        refine V_getfield rfl rfl (by first | assumption | exact blkW_0 | exact bAt_0 (by assumption) | exact bAt_0 (hA _ _) | rfl) (by rfl) ?_
        refine V_iload_n rfl rfl ?_
        refine V_callSi rfl rfl (Or.inr rfl) m_EB_at_w m_EB_at_x rfl rfl (s_atv (blkW_i rfl rfl) (by decide) _ ((atV_in (show d < 20 by omega) (by decide)).trans (va_g.trans (hro d (Nat.le_refl _))))) (by decide) rfl (Nat.le_of_ble_eq_true rfl) ?_
        refine V_aload_n rfl rfl ?_
        refine V_getI rfl rfl (by first | assumption | exact blkW_0 | exact bAt_0 (by assumption) | exact bAt_0 (hA _ _) | rfl) (by rfl) (by first | exact fS_o rfl | rfl) ?_
        refine V_iand rfl ?_
        refine V_aload_n rfl rfl ?_
        refine V_getI rfl rfl (by first | assumption | exact blkW_0 | exact bAt_0 (by assumption) | exact bAt_0 (hA _ _) | rfl) (by rfl) (by first | exact fS_0 | rfl) ?_
        refine V_iand rfl ?_
        refine V_callSi rfl rfl (Or.inr rfl) m_EB_least_w m_EB_least_x rfl rfl (s_least _) (by decide) rfl (Nat.le_of_ble_eq_true rfl) ?_
        have hc0 : leastV (Ly (clB p (sc 0) (sc 1)) b d &&& sc 7 &&& sc 0) = pthF p (sc 0) (sc 1) (lay p (sc 0) (sc 1) b (nB p)) (rtS p (sc 6) (sc 7)) (nI d) 0 := by
          refine (least_first (q := fun x => bt (rtS p (sc 6) (sc 7)) x && decide (lay p (sc 0) (sc 1) b (nB p) x = nI d)) (n := nB p) (by omega) (fun x => ?_) ⟨r, ?_⟩).1
          · rw [b_and, b_and, Bool.and_eq_true, Bool.and_eq_true, hLy, Bool.and_eq_true, decide_eq_true_eq, hla x d (by omega)]
            constructor
            · rintro ⟨⟨⟨x1, x2⟩, x3⟩, x4⟩
              have hxl := (bt_lbS hB).mp (hs.2.1 x x4)
              have hxr : bt (rtS p (sc 6) (sc 7)) x = true := (bt_setF (by omega)).mpr ⟨hxl.1, by rw [x3, hxl.2]; rfl⟩
              exact ⟨hxl.1, hxr, x2, fun j hj hq => d2 j hj x hxr hq⟩
            · rintro ⟨x1, x2, x3⟩
              have hxr := (bt_setF (by omega)).mp x2
              rw [Bool.and_eq_true] at hxr
              exact ⟨⟨⟨by omega, x3.1⟩, hxr.2.1⟩, by rw [e0]; exact rt_rc x x2⟩
          · have hxr := (bt_setF (by omega)).mp r1
            rw [Bool.and_eq_true] at hxr
            rw [b_and, b_and, Bool.and_eq_true, Bool.and_eq_true, hLy]
            exact ⟨⟨⟨by omega, r2.1⟩, hxr.2.1⟩, by rw [e0]; exact rt_rc r r1⟩
        rw [hc0]
        refine V_is4 rfl (by first | rfl | assumption) ?_
        refine V_iconst (v := 1) rfl (by decide) ?_
        refine V_is5 rfl (by first | rfl | assumption) ?_
        refine V_for2 K (fun i => [.ref fb, .int (nI b), .int (nI K), .int (nI d), .int (pthF p (sc 0) (sc 1) (lay p (sc 0) (sc 1) b (nB p)) (rtS p (sc 6) (sc 7)) (nI d) i), .int (nI (i + 1))]) (fun _ => blkW 0 h fb sc (va_up ar 4 row)) rfl rfl (fun i hi ih => ?_) ?_
        · obtain ⟨y, y1, y2, y3, -⟩ := hp i (by omega)
          have hc : clX p (sc 0) (sc 1) (pthF p (sc 0) (sc 1) (lay p (sc 0) (sc 1) b (nB p)) (rtS p (sc 6) (sc 7)) (nI d) i) = clB p (sc 0) (sc 1) y := by
            rw [y2]
            unfold clX
            rw [if_neg (nI_pos (by omega)), nI_clamp (by omega)]
          have hsub : nI d - nI (i + 1) = nI (d - (i + 1)) := pk_sub (by omega)
          rw [show d - i = d - (i + 1) + 1 by omega] at y3
          have hnx : leastV (clB p (sc 0) (sc 1) y &&& Ly (clB p (sc 0) (sc 1)) b (d - (i + 1))) = pthF p (sc 0) (sc 1) (lay p (sc 0) (sc 1) b (nB p)) (rtS p (sc 6) (sc 7)) (nI d) (i + 1) := by
            show _ = fst1 p (lay p (sc 0) (sc 1) b (nB p)) (clX p (sc 0) (sc 1) (pthF p (sc 0) (sc 1) (lay p (sc 0) (sc 1) b (nB p)) (rtS p (sc 6) (sc 7)) (nI d) i)) (nI d - nI (i + 1))
            rw [hc, hsub]
            obtain ⟨z, z1, z2⟩ := y3.1
            refine (least_first (q := fun x => bt (clB p (sc 0) (sc 1) y) x && decide (lay p (sc 0) (sc 1) b (nB p) x = nI (d - (i + 1)))) (n := nB p) (by omega) (fun x => ?_) ⟨z, ?_⟩).1
            · rw [b_and, Bool.and_eq_true, hLy, Bool.and_eq_true, decide_eq_true_eq, hla x _ (by omega)]
              constructor
              · rintro ⟨x1, x2, x3⟩
                exact ⟨sub_clB hB _ _ y x x1, x1, (mn_step y3 x1).mp x3⟩
              · rintro ⟨x1, x2, x3⟩
                exact ⟨x2, by omega, x3.1⟩
            · rw [b_and, Bool.and_eq_true, hLy]
              exact ⟨z1, hG y z z1, z2⟩
          rw [y2]
          refine V_iload rfl rfl ?_
          refine V_iload_n rfl rfl ?_
          refine V_icmp_gtF rfl (nI_nlt (show i + 1 ≤ K by omega) (by omega)) ?_
          refine V_iload rfl rfl ?_
          refine V_bipush (v := 20) rfl (by decide) ?_
          refine V_icmp_geF rfl (nI_ge (b := 20) (show i + 1 < 20 by omega) (by decide)) ?_
          refine V_aload_n rfl rfl ?_
          refine V_getfield rfl rfl (by first | assumption | exact blkW_0 | exact bAt_0 (by assumption) | exact bAt_0 (hA _ _) | rfl) (by rfl) ?_
          refine V_iload rfl rfl ?_
          refine V_callSi rfl rfl (Or.inr rfl) m_EB_at_w m_EB_at_x rfl rfl (s_atv (blkW_i rfl rfl) (by decide) _ ((atV_in (show y < 20 by omega) (by decide)).trans (ero2 y (by omega)))) (by decide) rfl (Nat.le_of_ble_eq_true rfl) ?_
          refine V_aload_n rfl rfl ?_
          refine V_getfield rfl rfl (by first | assumption | exact blkW_0 | exact bAt_0 (by assumption) | exact bAt_0 (hA _ _) | rfl) (by rfl) ?_
          refine V_iload_n rfl rfl ?_
          refine V_iload rfl rfl ?_
          refine V_isub rfl ?_
          rw [hsub]
          refine V_callSi rfl rfl (Or.inr rfl) m_EB_at_w m_EB_at_x rfl rfl (s_atv (blkW_i rfl rfl) (by decide) _ ((atV_in (show d - (i + 1) < 20 by omega) (by decide)).trans (va_g.trans (hro _ (by omega))))) (by decide) rfl (Nat.le_of_ble_eq_true rfl) ?_
          refine V_iand rfl ?_
          refine V_callSi rfl rfl (Or.inr rfl) m_EB_least_w m_EB_least_x rfl rfl (s_least _) (by decide) rfl (Nat.le_of_ble_eq_true rfl) ?_
          rw [hnx]
          refine V_is4 rfl (by first | rfl | assumption) ?_
          refine V_inc5 rfl (by first | exact mInc _ | rfl) (by first | rfl | assumption) ?_
          refine V_goto rfl ?_
          exact ih
        · refine V_iload rfl rfl ?_
          refine V_iload_n rfl rfl ?_
          refine V_icmp_gtT rfl (nI_lt (by omega) (by omega)) ?_
          refine V_iload rfl rfl ?_
          refine V_ireturn rfl rfl (by first | rfl | exact b2_nar _ | assumption | decide) ?_
          exact ⟨rfl, _, rfl⟩
end flow5
