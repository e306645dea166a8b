/-! ===== blocks beside one another ===== -/
def cellsOf (q : Nat × Nat) : List Nat := q.2 :: (arL q.1).map (fun r => q.2 + r.1)
theorem arG_some : ∀ {l : List (Nat × Nat × Nat × Nat)} {o : Nat} {x : Nat × Nat × Nat}, (o, x) ∈ l → ∃ y, arG l o = some y
  | [], _, _, h => by cases h
  | (a, y) :: t, o, x, h => by
    unfold arG
    cases hb : Nat.beq (a, y).1 o with
    | true => exact ⟨y, rfl⟩
    | false =>
      rcases List.mem_cons.mp h with h | h
      · have e : o = a := congrArg Prod.fst h
        rw [e, show Nat.beq (a, y).1 a = true from Nat.beq_refl a] at hb
        cases hb
      · exact arG_some h
section beside
variable {c1 c2 b1 b2 : Nat} {h : mH} {s1 s2 : Nat → Int32} {a1 a2 : Nat → Nat → Int32}
theorem blkW_nin {ci b a : Nat} {sc : Nat → Int32} {ar : Nat → Nat → Int32} (hn : a ∉ cellsOf (ci, b)) : blkW ci h b sc ar a = h a := by
  unfold cellsOf at hn
  rw [List.mem_cons, not_or] at hn
  refine blkW_out hn.1 ?_
  by_cases hb : b ≤ a
  · refine Or.inr ?_
    unfold arC
    cases hc : arT ci (a - b) with
    | none => rfl
    | some x => exact absurd (List.mem_map.mpr ⟨(a - b, x), arG_mem hc, by show b + (a - b) = a; omega⟩) hn.2
  · exact Or.inl (by omega)
theorem blkW_inn {ci b a : Nat} {sc : Nat → Int32} {ar : Nat → Nat → Int32} (h2 : mH) (hi : a ∈ cellsOf (ci, b)) : blkW ci h b sc ar a = blkW ci h2 b sc ar a := by
  unfold cellsOf at hi
  rcases List.mem_cons.mp hi with e | hi
  · have e : a = b := e
    subst e
    rw [blkW_0, blkW_0]
  · obtain ⟨⟨o, x⟩, h1, h2⟩ := List.mem_map.mp hi
    have h2 : b + o = a := h2
    obtain ⟨y, hy⟩ := arG_some h1
    have hy : arT ci o = some y := hy
    unfold blkW
    by_cases e : a = b
    · rw [if_pos e, if_pos e]
    · rw [if_neg e, if_neg e, if_pos (by omega), if_pos (by omega), show a - b = o by omega]
      unfold arC
      rw [hy]
      rfl
theorem blkW_comm (hd : ∀ a, a ∈ cellsOf (c1, b1) → a ∉ cellsOf (c2, b2)) : blkW c1 (blkW c2 h b2 s2 a2) b1 s1 a1 = blkW c2 (blkW c1 h b1 s1 a1) b2 s2 a2 := by
  funext a
  by_cases e1 : a ∈ cellsOf (c1, b1)
  · rw [blkW_nin (hd a e1)]
    exact blkW_inn _ e1
  · rw [blkW_nin e1]
    by_cases e2 : a ∈ cellsOf (c2, b2)
    · exact blkW_inn _ e2
    · rw [blkW_nin e2, blkW_nin e2, blkW_nin e1]
theorem bAt_out (hd : ∀ a, a ∈ cellsOf (c1, b1) → a ∉ cellsOf (c2, b2)) (hA : bAt c1 h b1 s1 a1) : bAt c1 (blkW c2 h b2 s2 a2) b1 s1 a1 := by
  refine ⟨by rw [blkW_nin (hd b1 List.mem_cons_self)]; exact hA.1, fun o c ho hc => ?_⟩
  have hm : b1 + o ∈ cellsOf (c1, b1) := by
    unfold arC at hc
    cases ht : arT c1 o with
    | none => rw [ht] at hc; cases hc
    | some x => exact List.mem_cons_of_mem _ (List.mem_map.mpr ⟨(o, x), arG_mem ht, rfl⟩)
  rw [blkW_nin (hd _ hm)]
  exact hA.2 o c ho hc
theorem dj_sj {b : Nat} : ∀ a, a ∈ cellsOf (5, b) → a ∉ cellsOf (1, b + 1) := fun a h1 h2 => by
  simp [cellsOf, arL] at h1 h2
  omega
theorem dj_js {b : Nat} : ∀ a, a ∈ cellsOf (1, b + 1) → a ∉ cellsOf (5, b) := fun a h1 h2 => dj_sj a h2 h1
end beside
/-! ===== Scene ===== -/
def SR (n : Nat) (N ss bd js : Nat → Int32) (ja : Nat → Nat → Int32) : Prop := (ss 0 = N 0 ∧ ss 1 = N 1 ∧ ss 2 = N 43 ∧ ss 3 = N 44) ∧ (∀ c, c < n → bd c = N (2 + c)) ∧ (∀ c, n ≤ c → c < 24 → bd c = -1) ∧ JR N js ja
abbrev scW (h : mH) (b : Nat) (ss : Nat → Int32) (sa : Nat → Nat → Int32) (js : Nat → Int32) (ja : Nat → Nat → Int32) : mH := blkW 5 (blkW 1 h (b + 1) js ja) b ss sa
theorem scW_c {h : mH} {b : Nat} {ss js : Nat → Int32} {sa ja : Nat → Nat → Int32} : scW h b ss sa js ja = blkW 1 (blkW 5 h b ss sa) (b + 1) js ja := blkW_comm dj_sj
theorem scW_u {h : mH} {b : Nat} {ss js : Nat → Int32} {sa ja : Nat → Nat → Int32} : blkW 5 (blkW 1 h (b + 1) js ja) b ss sa = blkW 1 (blkW 5 h b ss sa) (b + 1) js ja := blkW_comm dj_sj
theorem scW_j {h : mH} {b : Nat} {ss js : Nat → Int32} {sa ja : Nat → Nat → Int32} : bAt 1 (scW h b ss sa js ja) (b + 1) js ja := bAt_out dj_js blkW_at
/-- counts -/
def cnt9 (x : Int32) : Prop := ∃ a : Nat, a ≤ 9999 ∧ x = nI a
theorem min9 {x : Int32} (h : cnt9 x) : (if (9999 : Int32) < x + 1 then 9999 else x + 1) = x + if x < 9999 then 1 else 0 := by
  obtain ⟨a, ha, rfl⟩ := h
  exact mnE 9999 ha (by decide)
theorem JR_cong {N N2 js : Nat → Int32} {ja : Nat → Nat → Int32} (h : JR N js ja) (he : ∀ i, 26 ≤ i → i ≤ 42 → N2 i = N i) : JR N2 js ja := by
  obtain ⟨e, l, h1, h2, h3, h4, h5, h6⟩ := h
  refine ⟨e, l, h1, h2, h3, h4, (he 42 (by decide) (by decide)).trans h5, fun i hi => ?_⟩
  obtain ⟨c, b, s, a1, a2, a3, a4, a5, a6, a7⟩ := h6 i hi
  exact ⟨c, b, s, a1, a2, a3, a4, a5, a6, (he _ (by omega) (by omega)).trans a7⟩
section scene
variable {g : mG} {h : mH} {sz u b n : Nat} {N ss js : Nat → Int32} {sa ja : Nat → Nat → Int32}
set_option maxRecDepth 20000 in
set_option maxHeartbeats 1000000 in
theorem s_bdB (hA : bAt 5 h b ss sa) {c : Nat} (hc : c < 24) : Mt g 1 m_Scen_boundBody [.ref b, .int (nI c)] h sz u (Pi (sa 5 c) h) sz u := by
  refine Mt.of m_Scen_boundBody_w m_Scen_boundBody_x m_Scen_boundBody_c rfl rfl (ls := [.ref b, .int (nI c)]) rfl ?_
  refine V_aload_n rfl rfl ?_
  refine V_getfield rfl rfl (by first | assumption | exact blkW_0 | exact bAt_0 (by assumption) | exact bAt_0 (hA _ _) | rfl) (by rfl) ?_
  refine V_iload_n rfl rfl ?_
  refine V_callSi rfl rfl (Or.inr rfl) m_EB_at_w m_EB_at_x rfl rfl (s_atv (by first | assumption | exact blkW_i rfl rfl | exact bAt_i (by assumption) rfl rfl | exact bAt_i (hA _ _) rfl rfl) (by decide) _ (by first | exact (atV_in (by first | omega | assumption) (by decide)).trans (cq_par (by assumption) (by first | omega | assumption)) | exact (atV_in (by first | omega | assumption) (by decide)).trans (cq_abv (by assumption) (by first | omega | assumption)) | exact (atV_in (by first | omega | assumption) (by decide)).trans (cq_bel (by assumption) (by first | omega | assumption)) | exact (atV_in (by first | omega | assumption) (by decide)).trans (cq_dep (by assumption) (by first | omega | assumption)) | exact (atV_in (by first | omega | assumption) (by decide)).trans (cq_bT (by assumption) (by first | omega | assumption)) | exact (atV_in (by first | omega | assumption) (by decide)).trans (cq_bM (by assumption) (by first | omega | assumption)) | exact (atV_in (by first | omega | assumption) (by decide)).trans (cq_sK (by assumption) (by first | omega | assumption)) | exact (atV_in (by first | omega | assumption) (by decide)).trans (cq_sB (by assumption) (by first | omega | assumption)) | exact (atV_in (by first | omega | assumption) (by decide)).trans (cq_sT (by assumption) (by first | omega | assumption)) | exact (atV_in (by first | omega | assumption) (by decide)).trans (cq_sM (by assumption) (by first | omega | assumption)) | exact (atV_in (by first | omega | assumption) (by decide)).trans (cq_cS (by assumption) (by first | omega | assumption)) | exact atV_in (by first | omega | assumption) (by decide) | exact atV_m1 | rfl)) (by decide) rfl (Nat.le_of_ble_eq_true rfl) ?_
  refine V_ireturn rfl rfl (by first | rfl | exact b2_nar _ | assumption | decide) ?_
  exact P_ret rfl rfl
set_option maxRecDepth 20000 in
set_option maxHeartbeats 1000000 in
theorem s_bdC (hA : bAt 5 h b ss sa) : Mt g 1 m_Scen_boundCalls [.ref b] h sz u (Pi (setF 24 fun c => !decide (sa 5 c = -1)) h) sz u := by
  refine Mt.of m_Scen_boundCalls_w m_Scen_boundCalls_x m_Scen_boundCalls_c rfl rfl (ls := [.ref b, .retAddr 0, .retAddr 0]) rfl ?_
  refine V_iconst (v := 0) rfl (by decide) ?_
  refine V_is1 rfl (by first | rfl | assumption) ?_
  refine V_iconst (v := 0) rfl (by decide) ?_
  refine V_is2 rfl (by first | rfl | assumption) ?_
  refine V_for2 24 (fun i => [.ref b, .int (setF i fun c => !decide (sa 5 c = -1)), .int (nI i)]) (fun _ => h) rfl rfl (fun i hi ih => ?_) ?_
  · refine V_iload_n rfl rfl ?_
    refine V_bipush (v := 24) rfl (by decide) ?_
    refine V_icmp_geF rfl (nI_ge (b := 24) hi (by decide)) ?_
    refine V_aload_n rfl rfl ?_
    refine V_getfield rfl rfl (by first | assumption | exact blkW_0 | exact bAt_0 (by assumption) | exact bAt_0 (hA _ _) | rfl) (by rfl) ?_
    refine V_iload_n rfl rfl ?_
    refine V_iald rfl (by first | assumption | exact blkW_i rfl rfl | exact blkW_z rfl rfl | exact bAt_i (by assumption) rfl rfl | exact bAt_z (by assumption) rfl rfl | exact bAt_i (hA _ _) rfl rfl | rfl) (by first | with_reducible rfl | exact nI_add 2 _ | exact nI_add 26 _ | exact ix45 _ _ | exact ixm45 _ | exact ix25 _ | exact fa_lit _ | assumption) (by first | omega | assumption | decide) (by first | decide | omega | assumption) (by first | exact (arS_g rfl).trans qF_g | exact (arS_g rfl).trans ((qF_o rfl).trans (rd_C (by assumption) (by first | omega | assumption))) | exact (arS_g rfl).trans ((qF_o rfl).trans (rd_P (by assumption) (by first | omega | assumption))) | exact (arS_g rfl).trans ((qF_o rfl).trans (rd_bT (by assumption) (by first | omega | assumption))) | exact (arS_g rfl).trans (rd_C (by assumption) (by first | omega | assumption)) | exact (arS_g rfl).trans (rd_P (by assumption) (by first | omega | assumption)) | exact (arS_g rfl).trans (rd_bT (by assumption) (by first | omega | assumption)) | exact (arS_g rfl).trans (rd_bM (by assumption) (by first | omega | assumption)) | exact arS_o rfl | exact arS_g rfl | exact mp_isC (by first | assumption | exact MP_rcS (by assumption) | exact MP_ar rfl (by assumption) | exact MP_sc rfl (by assumption)) (by first | omega | assumption) | exact mp_par (by first | assumption | exact MP_rcS (by assumption) | exact MP_ar rfl (by assumption) | exact MP_sc rfl (by assumption)) (by first | omega | assumption) | exact mp_abv (by first | assumption | exact MP_rcS (by assumption) | exact MP_ar rfl (by assumption) | exact MP_sc rfl (by assumption)) (by first | omega | assumption) | exact mp_dep (by first | assumption | exact MP_rcS (by assumption) | exact MP_ar rfl (by assumption) | exact MP_sc rfl (by assumption)) (by first | omega | assumption) | exact mp_bT (by first | assumption | exact MP_rcS (by assumption) | exact MP_ar rfl (by assumption) | exact MP_sc rfl (by assumption)) (by first | omega | assumption) | exact mp_bM (by first | assumption | exact MP_rcS (by assumption) | exact MP_ar rfl (by assumption) | exact MP_sc rfl (by assumption)) (by first | omega | assumption) | exact mp_sK (by first | assumption | exact MP_rcS (by assumption) | exact MP_ar rfl (by assumption) | exact MP_sc rfl (by assumption)) (by first | omega | assumption) | exact mp_sB (by first | assumption | exact MP_rcS (by assumption) | exact MP_ar rfl (by assumption) | exact MP_sc rfl (by assumption)) (by first | omega | assumption) | exact mp_sT (by first | assumption | exact MP_rcS (by assumption) | exact MP_ar rfl (by assumption) | exact MP_sc rfl (by assumption)) (by first | omega | assumption) | exact mp_sM (by first | assumption | exact MP_rcS (by assumption) | exact MP_ar rfl (by assumption) | exact MP_sc rfl (by assumption)) (by first | omega | assumption) | exact mp_cS (by first | assumption | exact MP_rcS (by assumption) | exact MP_ar rfl (by assumption) | exact MP_sc rfl (by assumption)) (by first | omega | assumption) | exact va_g | exact va_n (by decide) | rfl) ?_
    refine V_iconst (v := (-1)) rfl (by decide) ?_
    refine V_icmp_eq rfl (fun h17 => ?_) (fun h17 => ?_)
    · refine V_inc2 rfl (by first | exact mInc _ | rfl) (by first | rfl | assumption) ?_
      refine V_goto rfl ?_
      exact V_wk ih (by simp [mWk, setF_s, cnd, *])
    · refine V_iload_n rfl rfl ?_
      refine V_iload_n rfl rfl ?_
      refine V_callSi rfl rfl (Or.inr rfl) m_EB_bit_w m_EB_bit_x rfl rfl (s_bitv _ (by first | exact bitV_b (by first | omega | assumption) | exact bitV_m1 | rfl)) (by decide) rfl (Nat.le_of_ble_eq_true rfl) ?_
      refine V_ior rfl ?_
      refine V_is1 rfl (by first | rfl | assumption) ?_
      refine V_inc2 rfl (by first | exact mInc _ | rfl) (by first | rfl | assumption) ?_
      refine V_goto rfl ?_
      exact V_wk ih (by simp [mWk, setF_s, cnd, *])
  · refine V_iload_n rfl rfl ?_
    refine V_bipush (v := 24) rfl (by decide) ?_
    refine V_icmp_geT rfl (nI_le (a := 24) (Nat.le_refl _) (by decide)) ?_
    refine V_iload_n rfl rfl ?_
    refine V_ireturn rfl rfl (by first | rfl | exact b2_nar _ | assumption | decide) ?_
    exact P_ret rfl rfl
set_option maxRecDepth 20000 in
set_option maxHeartbeats 1000000 in
theorem w_setFree {c : Nat} (hc : c < 24) : Mt g 0 m_Scen_setFree [.ref b, .int (nI c)] (blkW 5 h b ss sa) sz u (Pn (blkW 5 h b ss (va_up sa 5 (upd (sa 5) c (-1))))) sz u := by
  refine Mt.of m_Scen_setFree_w m_Scen_setFree_x m_Scen_setFree_c rfl rfl (ls := [.ref b, .int (nI c)]) rfl ?_
  refine V_iload_n rfl rfl ?_
  refine V_if_ltF rfl (nI_pos (by omega)) ?_
  refine V_iload_n rfl rfl ?_
  refine V_bipush (v := 24) rfl (by decide) ?_
  refine V_icmp_geF rfl (nI_ge (b := 24) hc (by decide)) ?_
  refine V_aload_n rfl rfl ?_
  refine V_getfield rfl rfl (by first | assumption | exact blkW_0 | exact bAt_0 (by assumption) | exact bAt_0 (hA _ _) | rfl) (by rfl) ?_
  refine V_iload_n rfl rfl ?_
  refine V_iconst (v := (-1)) rfl (by decide) ?_
  first | refine V_past rfl rfl rfl rfl (by first | with_reducible rfl | exact nI_add 2 _ | exact nI_add 26 _ | exact ix45 _ _ | exact ixm45 _ | exact ix25 _ | exact fa_lit _ | assumption) (by first | omega | assumption | decide) (by first | decide | omega | assumption) ?_ | refine V_bast rfl rfl rfl (by first | with_reducible rfl | exact nI_add 2 _ | exact nI_add 26 _ | exact ix45 _ _ | exact ixm45 _ | exact ix25 _ | exact fa_lit _ | assumption) (by first | omega | assumption | decide) (by first | decide | omega | assumption) ?_ | refine V_iastore rfl (by first | assumption | exact blkW_i rfl rfl | exact blkW_z rfl rfl | exact bAt_i (by assumption) rfl rfl | exact bAt_z (by assumption) rfl rfl | rfl) (by first | with_reducible rfl | exact nI_add 2 _ | exact nI_add 26 _ | exact ix45 _ _ | exact ixm45 _ | exact ix25 _ | exact fa_lit _ | assumption) (by first | omega | assumption | decide) (by first | decide | omega | assumption) ?_
  refine V_return rfl rfl ?_
  exact ⟨rfl, rfl⟩
set_option maxRecDepth 20000 in
set_option maxHeartbeats 1000000 in
theorem w_setFree0 : Mt g 0 m_Scen_setFree [.ref b, .int (-1)] h sz u (Pn h) sz u := by
  refine Mt.of m_Scen_setFree_w m_Scen_setFree_x m_Scen_setFree_c rfl rfl (ls := [.ref b, .int (-1)]) rfl ?_
  refine V_iload_n rfl rfl ?_
  refine V_if_ltT rfl (by decide) ?_
  refine V_return rfl rfl ?_
  exact ⟨rfl, rfl⟩
set_option maxRecDepth 20000 in
set_option maxHeartbeats 1000000 in
theorem w_bindTo (hS : SR n N ss (sa 5) js ja) (hn : n ≤ 24) (h9 : cnt9 (N 43)) {c d : Nat} (hcn : c < n) (hd : d < 20) : Mt g 2 m_Scen_bindTo [.ref b, .int (nI c), .int (nI d)] (scW h b ss sa js ja) sz u (fun r h' => r = none ∧ ∃ ss' sa' js' ja', h' = scW h b ss' sa' js' ja' ∧ SR n (wrt (upd N (2 + c) (nI d)) c (nI d) 1) ss' (sa' 5) js' ja') sz u := by
  have h2 : ss 2 = N 43 := hS.1.2.2.1
  have hc : c < 24 := by omega
  refine Mt.of m_Scen_bindTo_w m_Scen_bindTo_x m_Scen_bindTo_c rfl rfl (ls := [.ref b, .int (nI c), .int (nI d)]) rfl ?_
  refine V_iload_n rfl rfl ?_
  refine V_if_ltF rfl (nI_pos (by omega)) ?_
  refine V_iload_n rfl rfl ?_
  refine V_bipush (v := 24) rfl (by decide) ?_
  refine V_icmp_ltT rfl (nI_lt (b := 24) hc (by decide)) ?_
  refine V_aload_n rfl rfl ?_
  refine V_getfield rfl rfl (by first | assumption | exact blkW_0 | exact bAt_0 (by assumption) | exact bAt_0 (hA _ _) | rfl) (by rfl) ?_
  refine V_iload_n rfl rfl ?_
  refine V_iload_n rfl rfl ?_
  first | refine V_past rfl rfl rfl rfl (by first | with_reducible rfl | exact nI_add 2 _ | exact nI_add 26 _ | exact ix45 _ _ | exact ixm45 _ | exact ix25 _ | exact fa_lit _ | assumption) (by first | omega | assumption | decide) (by first | decide | omega | assumption) ?_ | refine V_bast rfl rfl rfl (by first | with_reducible rfl | exact nI_add 2 _ | exact nI_add 26 _ | exact ix45 _ _ | exact ixm45 _ | exact ix25 _ | exact fa_lit _ | assumption) (by first | omega | assumption | decide) (by first | decide | omega | assumption) ?_ | refine V_iastore rfl (by first | assumption | exact blkW_i rfl rfl | exact blkW_z rfl rfl | exact bAt_i (by assumption) rfl rfl | exact bAt_z (by assumption) rfl rfl | rfl) (by first | with_reducible rfl | exact nI_add 2 _ | exact nI_add 26 _ | exact ix45 _ _ | exact ixm45 _ | exact ix25 _ | exact fa_lit _ | assumption) (by first | omega | assumption | decide) (by first | decide | omega | assumption) ?_
  refine V_aload_n rfl rfl ?_
  refine V_aload_n rfl rfl ?_
  refine V_getI rfl rfl blkW_0 (by rfl) h2 ?_
  refine V_iconst (v := 1) rfl (by decide) ?_
  refine V_iadd rfl ?_
  refine V_sipush (v := 9999) rfl (by decide) ?_
  refine V_callSi rfl rfl (Or.inl rfl) m_Mat_min_w m_Mat_min_x rfl rfl (s_min _ _) (by decide) rfl (Nat.le_of_ble_eq_true rfl) ?_
  rw [min9 h9]
  first | refine V_pput rfl rfl rfl rfl rfl ?_ | refine V_bput rfl rfl rfl rfl rfl rfl ?_ | refine V_bputZ rfl rfl rfl rfl rfl rfl (by decide) ?_ | refine V_put rfl rfl (by first | assumption | rfl) (by decide) (fun _ hty => by cases hty; exact ⟨rfl, rfl⟩) (by first | exact Or.inl rfl | exact Or.inr ⟨rfl, rfl⟩) rfl ?_
  refine V_aload_n rfl rfl ?_
  refine V_getfield rfl rfl (by first | assumption | exact blkW_0 | exact bAt_0 (by assumption) | exact bAt_0 (hA _ _) | rfl) (by rfl) ?_
  refine V_iload_n rfl rfl ?_
  refine V_iconst (v := 1) rfl (by decide) ?_
  refine V_iload_n rfl rfl ?_
  rw [scW_u]
  refine V_callV rfl rfl m_Jour_write_w m_Jour_write_x rfl (by decide) rfl (w_jwrite hS.2.2.2 hc hd (show 1 < 2 by decide) rfl rfl) (by decide) rfl (by first | assumption | exact blkW_0 | exact bAt_0 (by assumption) | exact bAt_0 (hA _ _) | rfl) (Nat.le_of_ble_eq_true rfl) (by first | exact Nat.le_refl _ | omega | decide) (by first | exact Nat.le_refl _ | omega | decide) (fun r hh1 hP => ?_)
  obtain ⟨rfl, js', ja', rfl, hJ⟩ := hP
  refine V_return rfl rfl ?_
  refine ⟨rfl, _, _, js', ja', scW_c.symm, ⟨?_, ?_, ?_, ?_⟩, ?_, ?_, ?_⟩
  · rw [pk_un (by decide), wrt_o (by decide), pk_un (by omega)]; exact hS.1.1
  · rw [pk_un (by decide), wrt_o (by decide), pk_un (by omega)]; exact hS.1.2.1
  · rw [pk_us]
    have := wrt_c (N := upd N (2 + c) (nI d)) (c := c) (b := nI d) (is := 1)
    rw [if_pos rfl, pk_un (by omega)] at this
    exact this.symm
  · have := wrt_d (N := upd N (2 + c) (nI d)) (c := c) (b := nI d) (is := 1)
    rw [if_pos rfl, pk_un (by omega)] at this
    rw [pk_un (by decide), this]
    exact hS.1.2.2.2
  · intro j hj
    rw [va_g, wrt_o (by omega)]
    by_cases e : j = c
    · subst e; rw [pk_us, pk_us]
    · rw [pk_un e, pk_un (by omega)]; exact hS.2.1 j hj
  · intro j hj1 hj2
    rw [va_g, pk_un (by omega)]
    exact hS.2.2.1 j hj1 hj2
  · refine hJ _ fun i h1 h2 => ?_
    have e : ∀ k, 26 ≤ k → upd N (2 + c) (nI d) k = N k := fun k hk => pk_un (by omega)
    by_cases e1 : i = 26
    · subst e1; rw [wrt_26, wrt_26]; rfl
    · by_cases e2 : i = 42
      · subst e2; rw [wrt_42, wrt_42, e _ (by decide)]
      · rw [wrt_j (by omega) (by omega), wrt_j (by omega) (by omega), e _ (by omega)]
set_option maxRecDepth 20000 in
set_option maxHeartbeats 1000000 in
theorem w_withdraw (hS : SR n N ss (sa 5) js ja) (hn : n ≤ 24) (h9 : cnt9 (N 44)) {c d : Nat} (hcn : c < n) (hd : d < 20) (hb : N (2 + c) = nI d) : Mt g 2 m_Scen_withdraw [.ref b, .int (nI c)] (scW h b ss sa js ja) sz u (fun r h' => r = none ∧ ∃ ss' sa' js' ja', h' = scW h b ss' sa' js' ja' ∧ SR n (upd (wrt N c (N (2 + c)) 0) (2 + c) (-1)) ss' (sa' 5) js' ja') sz u := by
  have h2 : ss 3 = N 44 := hS.1.2.2.2
  have hc : c < 24 := by omega
  have hbc : sa 5 c = nI d := (hS.2.1 c hcn).trans hb
  refine Mt.of m_Scen_withdraw_w m_Scen_withdraw_x m_Scen_withdraw_c rfl rfl (ls := [.ref b, .int (nI c)]) rfl ?_
  refine V_aload_n rfl rfl ?_
  refine V_getfield rfl rfl (by first | assumption | exact blkW_0 | exact bAt_0 (by assumption) | exact bAt_0 (hA _ _) | rfl) (by rfl) ?_
  refine V_iload_n rfl rfl ?_
  refine V_iconst (v := 0) rfl (by decide) ?_
  refine V_aload_n rfl rfl ?_
  refine V_iload_n rfl rfl ?_
  refine V_callVi rfl rfl m_Scen_boundBody_w m_Scen_boundBody_x rfl (by decide) rfl (s_bdB blkW_at hc) (by decide) rfl (by first | assumption | exact blkW_0 | exact bAt_0 (by assumption) | exact bAt_0 (hA _ _) | rfl) (Nat.le_of_ble_eq_true rfl) ?_
  rw [scW_u, hbc]
  refine V_callV rfl rfl m_Jour_write_w m_Jour_write_x rfl (by decide) rfl (w_jwrite hS.2.2.2 hc hd (show 0 < 2 by decide) rfl rfl) (by decide) rfl (by first | assumption | exact blkW_0 | exact bAt_0 (by assumption) | exact bAt_0 (hA _ _) | rfl) (Nat.le_of_ble_eq_true rfl) (by first | exact Nat.le_refl _ | omega | decide) (by first | exact Nat.le_refl _ | omega | decide) (fun r hh1 hP => ?_)
  obtain ⟨rfl, js', ja', rfl, hJ⟩ := hP
  rw [show blkW 1 (blkW 5 h b ss sa) (b + 1) js' ja' = scW h b ss sa js' ja' from scW_c.symm]
  refine V_aload_n rfl rfl ?_
  refine V_aload_n rfl rfl ?_
  refine V_getI rfl rfl blkW_0 (by rfl) h2 ?_
  refine V_iconst (v := 1) rfl (by decide) ?_
  refine V_iadd rfl ?_
  refine V_sipush (v := 9999) rfl (by decide) ?_
  refine V_callSi rfl rfl (Or.inl rfl) m_Mat_min_w m_Mat_min_x rfl rfl (s_min _ _) (by decide) rfl (Nat.le_of_ble_eq_true rfl) ?_
  rw [min9 h9]
  first | refine V_pput rfl rfl rfl rfl rfl ?_ | refine V_bput rfl rfl rfl rfl rfl rfl ?_ | refine V_bputZ rfl rfl rfl rfl rfl rfl (by decide) ?_ | refine V_put rfl rfl (by first | assumption | rfl) (by decide) (fun _ hty => by cases hty; exact ⟨rfl, rfl⟩) (by first | exact Or.inl rfl | exact Or.inr ⟨rfl, rfl⟩) rfl ?_
  refine V_aload_n rfl rfl ?_
  refine V_iload_n rfl rfl ?_
  refine V_callVn rfl rfl m_Scen_setFree_w m_Scen_setFree_x rfl (by decide) rfl (w_setFree hc) (by decide) rfl (by first | assumption | exact blkW_0 | exact bAt_0 (by assumption) | exact bAt_0 (hA _ _) | rfl) (Nat.le_of_ble_eq_true rfl) ?_
  refine V_return rfl rfl ?_
  refine ⟨rfl, _, _, js', ja', rfl, ⟨?_, ?_, ?_, ?_⟩, ?_, ?_, ?_⟩
  · rw [pk_un (by decide), pk_un (by omega), wrt_o (by decide)]; exact hS.1.1
  · rw [pk_un (by decide), pk_un (by omega), wrt_o (by decide)]; exact hS.1.2.1
  · have := wrt_d (N := N) (c := c) (b := N (2 + c)) (is := 0)
    rw [if_neg (by decide)] at this
    rw [pk_un (by decide), pk_un (by omega), this]
    exact hS.1.2.2.1
  · rw [pk_us, pk_un (by omega)]
    have := wrt_c (N := N) (c := c) (b := N (2 + c)) (is := 0)
    rw [if_neg (by decide)] at this
    exact this.symm
  · intro j hj
    rw [va_g]
    by_cases e : j = c
    · subst e; rw [pk_us, pk_us]
    · rw [pk_un e, pk_un (by omega), wrt_o (by omega)]; exact hS.2.1 j hj
  · intro j hj1 hj2
    rw [va_g, pk_un (by omega)]
    exact hS.2.2.1 j hj1 hj2
  · refine hJ _ fun i h1 h2 => ?_
    rw [pk_un (by omega), hb]
    rfl
end scene
