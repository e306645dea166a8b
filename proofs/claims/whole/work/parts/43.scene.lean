/-! ===== the class's Plan: what is found, looked up once; its Journal and Scene ===== -/
def fkF (p : Pg) (r : Nat → Int32) (k : Nat) : Nat → Int32 := fun x => if x < k ∧ isC p (x / 6) = true then fnd p (x / 6) (x % 6) else r x
theorem fkF_0 (p : Pg) (r : Nat → Int32) : fkF p r 0 = r := by
  funext x
  unfold fkF
  rw [if_neg (fun z => by omega)]
theorem fkF_y {p : Pg} {r : Nat → Int32} {t m : Nat} (hm : m < 6) (hc : isC p t = true) : upd (fkF p r (t * 6 + m)) (t * 6 + m) (fnd p t m) = fkF p r (t * 6 + (m + 1)) := by
  funext x
  unfold upd fkF
  by_cases e : x = t * 6 + m
  · subst e
    rw [show (t * 6 + m) / 6 = t by omega, show (t * 6 + m) % 6 = m by omega, if_pos rfl, if_pos ⟨by omega, hc⟩]
  · rw [if_neg e]
    by_cases c : isC p (x / 6) = true
    · by_cases l : x < t * 6 + m
      · rw [if_pos ⟨l, c⟩, if_pos ⟨by omega, c⟩]
      · rw [if_neg (fun z => l z.1), if_neg (fun z => by omega)]
    · rw [if_neg (fun z => c z.2), if_neg (fun z => c z.2)]
theorem fkF_n {p : Pg} {r : Nat → Int32} {t m : Nat} (hm : m < 6) (hc : isC p t = false) : fkF p r (t * 6 + m) = fkF p r (t * 6 + (m + 1)) := by
  funext x
  unfold fkF
  by_cases e : x = t * 6 + m
  · subst e
    rw [show (t * 6 + m) / 6 = t by omega, hc, if_neg (fun z => by cases z.2), if_neg (fun z => by cases z.2)]
  · by_cases c : isC p (x / 6) = true
    · by_cases l : x < t * 6 + m
      · rw [if_pos ⟨l, c⟩, if_pos ⟨by omega, c⟩]
      · rw [if_neg (fun z => l z.1), if_neg (fun z => by omega)]
    · rw [if_neg (fun z => c z.2), if_neg (fun z => c z.2)]
theorem CQ_17 {p : Pg} {sc : Nat → Int32} {ar : Nat → Nat → Int32} {f : Nat → Int32} (hq : CQ p sc ar) : CQ p sc (va_up ar 17 f) := by
  have h0 : ∀ j, j ≠ 17 → va_up ar 17 f j = ar j := fun j hj => by simp only [va_up, if_neg hj]
  obtain ⟨h1, h2, h3, h4, h5, h6, h7⟩ := hq
  refine ⟨h1, h2, ?_, ?_, ?_, ?_, ?_⟩
  · rw [h0 5 (by decide), h0 6 (by decide), h0 7 (by decide), h0 8 (by decide)]; exact h3
  · rw [h0 9 (by decide), h0 10 (by decide)]; exact h4
  · rw [h0 11 (by decide), h0 12 (by decide), h0 13 (by decide), h0 14 (by decide)]; exact h5
  · rw [h0 15 (by decide)]; exact h6
  · rw [h0 16 (by decide)]; exact h7
theorem CP_17 {p : Pg} {sc : Nat → Int32} {ar : Nat → Nat → Int32} {r : Nat → Int32} (hq : CQ p sc ar) : CP p sc (va_up ar 17 (fkF p r (nT p * 6))) := by
  refine ⟨CQ_17 hq, fun t ht hc m hm => ?_⟩
  rw [va_g]
  unfold fkF
  rw [show (t * 6 + m) / 6 = t by omega, show (t * 6 + m) % 6 = m by omega, if_pos ⟨by omega, hc⟩]
section scene0
variable {g : mG} {h : mH} {sz u pl : Nat} {p : Pg} {sc : Nat → Int32} {ar : Nat → Nat → Int32}
set_option maxRecDepth 20000 in
set_option maxHeartbeats 1000000 in
theorem w_lookUpAll (hq : CQ p sc ar) (hx : WX p) : Mt g 4 m_Plan_lookUpAll [.ref pl] (blkW 3 h pl sc ar) sz u (Pn (blkW 3 h pl sc (va_up ar 17 (fkF p (ar 17) (nT p * 6))))) sz u := by
  obtain ⟨hT, hB, hS, hC⟩ := hq.1.1
  refine Mt.of m_Plan_lookUpAll_w m_Plan_lookUpAll_x m_Plan_lookUpAll_c rfl rfl (ls := [.ref pl, .retAddr 0, .retAddr 0, .retAddr 0]) rfl ?_
  refine V_iconst (v := 0) rfl (by decide) ?_
  refine V_is1 rfl (by first | rfl | assumption) ?_
  refine V_for2 (nT p) (fun i => [.ref pl, .int (nI i), .retAddr 0, .retAddr 0]) (fun i => blkW 3 h pl sc (va_up ar 17 (fkF p (ar 17) (i * 6)))) rfl (by rw [Nat.zero_mul, fkF_0, va_self]) (fun i hi ih => ?_) ?_
  · have hq0 := CQ_17 (f := fkF p (ar 17) (i * 6)) hq
    refine V_iload_n rfl rfl ?_
    refine V_aload_n rfl rfl ?_
    refine V_getI rfl rfl (by first | assumption | exact blkW_0 | exact bAt_0 (by assumption) | rfl) (by rfl) (by first | exact cq_nT (by assumption) | rfl) ?_
    refine V_icmp_geF rfl (nI_ge hi (by omega)) ?_
    refine V_iconst (v := 0) rfl (by decide) ?_
    refine V_is2 rfl (by first | rfl | assumption) ?_
    refine V_for2 6 (fun j => [.ref pl, .int (nI i), .int (nI j), .retAddr 0]) (fun j => blkW 3 h pl sc (va_up ar 17 (fkF p (ar 17) (i * 6 + j)))) rfl rfl (fun j hj ih2 => ?_) ?_
    · have hq1 := CQ_17 (f := fkF p (ar 17) (i * 6 + j)) hq
      have hA1 : bAt 3 (blkW 3 h pl sc (va_up ar 17 (fkF p (ar 17) (i * 6 + j)))) pl sc (va_up ar 17 (fkF p (ar 17) (i * 6 + j))) := blkW_at
      have hy : nI i = -1 ∨ ∃ q, q < nT p ∧ nI i = nI q := Or.inr ⟨i, hi, rfl⟩
      refine V_iload_n rfl rfl ?_
      refine V_bipush (v := 6) rfl (by decide) ?_
      refine V_icmp_geF rfl (nI_ge (b := 6) hj (by decide)) ?_
      refine V_iload_n rfl rfl ?_
      refine V_iload_n rfl rfl ?_
      refine V_callSi rfl rfl (Or.inl rfl) m_Plan_key_w m_Plan_key_x rfl rfl (s_keyv _ _ (by first | exact keyV_in (by first | omega | assumption) (by first | omega | assumption) | rfl)) (by decide) rfl (Nat.le_of_ble_eq_true rfl) ?_
      refine V_is3 rfl (by first | rfl | assumption) ?_
      refine V_aload_n rfl rfl ?_
      refine V_iload_n rfl rfl ?_
      refine V_callVi rfl rfl m_Plan_isClass_w m_Plan_isClass_x rfl (by decide) rfl (s_isCl (by assumption) (by assumption) (by first | omega | assumption)) (by decide) rfl (by first | assumption | exact blkW_0 | exact bAt_0 (by assumption) | rfl) (Nat.le_of_ble_eq_true rfl) ?_
      cases hc : isC p i
      · refine V_if_eqT rfl (rfl) ?_
        refine V_inc2 rfl (by first | exact mInc _ | rfl) (by first | rfl | assumption) ?_
        refine V_goto rfl ?_
        rw [← fkF_n hj hc] at ih2
        exact V_wk ih2 (by simp [mWk])
      · refine V_if_eqF rfl (by decide) ?_
        refine V_iload_n rfl rfl ?_
        refine V_iconst (v := (-1)) rfl (by decide) ?_
        refine V_icmp_eqF rfl (nI_m1 (by omega)) ?_
        refine V_aload_n rfl rfl ?_
        refine V_getfield rfl rfl (by first | assumption | exact blkW_0 | exact bAt_0 (by assumption) | rfl) (by rfl) ?_
        refine V_iload_n rfl rfl ?_
        refine V_aload_n rfl rfl ?_
        refine V_iload_n rfl rfl ?_
        refine V_iload_n rfl rfl ?_
        refine V_iload_n rfl rfl ?_
        refine V_callVi rfl rfl m_Plan_lookUp_w m_Plan_lookUp_x rfl (by decide) rfl (s_lku (by assumption) (by assumption) (by first | omega | assumption) (by first | omega | assumption) (by assumption) _ (by assumption)) (by decide) rfl (by first | assumption | exact blkW_0 | exact bAt_0 (by assumption) | rfl) (Nat.le_of_ble_eq_true rfl) ?_
        first | refine V_past rfl rfl rfl rfl (by first | with_reducible rfl | exact nI_add 2 _ | exact nI_add 26 _ | exact ix45 _ _ | exact ixm45 _ | exact ix25 _ | exact fa_lit _ | assumption) (by first | omega | assumption | decide) (by first | decide | omega | assumption) ?_ | refine V_bast rfl rfl rfl (by first | with_reducible rfl | exact nI_add 2 _ | exact nI_add 26 _ | exact ix45 _ _ | exact ixm45 _ | exact ix25 _ | exact fa_lit _ | assumption) (by first | omega | assumption | decide) (by first | decide | omega | assumption) ?_ | refine V_iastore rfl (by first | assumption | exact blkW_i rfl rfl | exact blkW_z rfl rfl | exact bAt_i (by assumption) rfl rfl | exact bAt_z (by assumption) rfl rfl | rfl) (by first | with_reducible rfl | exact nI_add 2 _ | exact nI_add 26 _ | exact ix45 _ _ | exact ixm45 _ | exact ix25 _ | exact fa_lit _ | assumption) (by first | omega | assumption | decide) (by first | decide | omega | assumption) ?_
        rw [va_st, show fndU p i j 12 (nI i) = fnd p i j from rfl, fkF_y hj hc]
        refine V_inc2 rfl (by first | exact mInc _ | rfl) (by first | rfl | assumption) ?_
        refine V_goto rfl ?_
        exact V_wk ih2 (by simp [mWk])
    · refine V_iload_n rfl rfl ?_
      refine V_bipush (v := 6) rfl (by decide) ?_
      refine V_icmp_geT rfl (nI_le (a := 6) (Nat.le_refl _) (by decide)) ?_
      refine V_inc1 rfl (by first | exact mInc _ | rfl) (by first | rfl | assumption) ?_
      refine V_goto rfl ?_
      rw [show (i + 1) * 6 = i * 6 + 6 by omega] at ih
      exact V_wk ih (by simp [mWk])
  · have hq0 := CQ_17 (f := fkF p (ar 17) (nT p * 6)) hq
    refine V_iload_n rfl rfl ?_
    refine V_aload_n rfl rfl ?_
    refine V_getI rfl rfl (by first | assumption | exact blkW_0 | exact bAt_0 (by assumption) | rfl) (by rfl) (by first | exact cq_nT (by assumption) | rfl) ?_
    refine V_icmp_geT rfl (nI_le (Nat.le_refl _) (by omega)) ?_
    refine V_return rfl rfl ?_
    exact ⟨rfl, rfl⟩
end scene0
/-- the journal holds what the reference's row N says -/
def JE (N : Nat → Int32) (ja : Nat → Nat → Int32) (l i : Nat) : Prop := ∃ c b s : Nat, c < 24 ∧ b < 20 ∧ s < 2 ∧ ja 2 ((l + 16 - i) % 16) = nI c ∧ ja 3 ((l + 16 - i) % 16) = nI s ∧ ja 4 ((l + 16 - i) % 16) = nI b ∧ N (26 + i) = nI (100 * c + 2 * b + s)
def JR (N js : Nat → Int32) (ja : Nat → Nat → Int32) : Prop := ∃ e l : Nat, e ≤ 16 ∧ l < 16 ∧ js 0 = nI e ∧ js 1 = nI l ∧ N 42 = nI e ∧ ∀ i, i < e → JE N ja l i
theorem wrt_26 {N : Nat → Int32} {c : Nat} {b is : Int32} : wrt N c b is 26 = 100 * nI c + 2 * b + is := by
  unfold wrt
  rw [pk_un (by split <;> decide), pk_un (by decide), pk_us]
theorem wrt_j {N : Nat → Int32} {c j : Nat} {b is : Int32} (h1 : 26 < j) (h2 : j ≤ 41) : wrt N c b is j = N (j - 1) := by
  unfold wrt
  rw [pk_un (by split <;> omega), pk_un (by omega), pk_un (by omega)]
  unfold shJ
  rw [if_pos (by omega)]
theorem wrt_o {N : Nat → Int32} {c j : Nat} {b is : Int32} (h : j < 26 ∨ 44 < j) : wrt N c b is j = N j := by
  unfold wrt
  rw [pk_un (by split <;> omega), pk_un (by omega), pk_un (by omega)]
  unfold shJ
  rw [if_neg (by omega)]
theorem wrt_42 {N : Nat → Int32} {c : Nat} {b is : Int32} : wrt N c b is 42 = N 42 + if N 42 < 16 then 1 else 0 := by
  unfold wrt
  rw [pk_un (by split <;> decide), pk_us, pk_un (by decide)]
  rfl
theorem wrt_c {N : Nat → Int32} {c : Nat} {b is : Int32} : wrt N c b is (if is = 1 then 43 else 44) = N (if is = 1 then 43 else 44) + if N (if is = 1 then 43 else 44) < 9999 then 1 else 0 := by
  have e : ∀ N2 : Nat → Int32, ∀ v, upd N2 42 v (if is = 1 then 43 else 44) = N2 (if is = 1 then 43 else 44) := fun N2 v => pk_un (by split <;> decide)
  have e2 : ∀ v, upd (shJ N 15) 26 v (if is = 1 then 43 else 44) = N (if is = 1 then 43 else 44) := fun v => by
    rw [pk_un (by split <;> decide)]
    unfold shJ
    rw [if_neg (by split <;> omega)]
  unfold wrt
  rw [pk_us, e, e2]
theorem wrt_d {N : Nat → Int32} {c : Nat} {b is : Int32} : wrt N c b is (if is = 1 then 44 else 43) = N (if is = 1 then 44 else 43) := by
  unfold wrt
  rw [pk_un (by split <;> decide), pk_un (by split <;> decide), pk_un (by split <;> decide)]
  unfold shJ
  rw [if_neg (by split <;> omega)]
theorem mnE (m : Nat) {e : Nat} (he : e ≤ m) (hm : m < 10000) : (if nI m < nI e + 1 then nI m else nI e + 1) = nI e + if nI e < nI m then 1 else 0 := by
  rw [show nI e + 1 = nI (e + 1) from nI_1 e]
  by_cases h : e < m
  · rw [if_neg (nI_nlt (by omega) (by omega)), if_pos (nI_lt h (by omega)), nI_1]
  · have : e = m := by omega
    subst this
    rw [if_pos (nI_lt (by omega) (by omega)), if_neg (nI_nlt (Nat.le_refl _) (by omega)), Int32.add_zero]
section jour
variable {g : mG} {h : mH} {sz u jb : Nat} {N js : Nat → Int32} {ja : Nat → Nat → Int32}
set_option maxRecDepth 20000 in
set_option maxHeartbeats 1000000 in
theorem w_jwrite (hJ : JR N js ja) {c b s : Nat} (hc : c < 24) (hb : b < 20) (hs : s < 2) {bs ss : Int32} (e1 : bs = nI b) (e2 : ss = nI s) : Mt g 1 m_Jour_write [.ref jb, .int (nI c), .int ss, .int bs] (blkW 1 h jb js ja) sz u (fun r h' => r = none ∧ ∃ js' ja', h' = blkW 1 h jb js' ja' ∧ ∀ N2 : Nat → Int32, (∀ i, 26 ≤ i → i ≤ 42 → N2 i = wrt N c bs ss i) → JR N2 js' ja') sz u := by
  refine Mt.of m_Jour_write_w m_Jour_write_x m_Jour_write_c rfl rfl (ls := [.ref jb, .int (nI c), .int ss, .int bs]) rfl ?_
  subst e1; subst e2
  obtain ⟨e, l, he, hl, j0, j1, n42, hE⟩ := hJ
  have hl2 : (l + 1) % 16 < 16 := Nat.mod_lt _ (by decide)
  refine V_aload_n rfl rfl ?_
  refine V_aload_n rfl rfl ?_
  refine V_getI rfl rfl blkW_0 (by rfl) j1 ?_
  refine V_iconst (v := 1) rfl (by decide) ?_
  refine V_iadd rfl ?_
  refine V_bipush (v := 16) rfl (by decide) ?_
  refine V_callSi rfl rfl (Or.inl rfl) m_Mat_floorMod_w m_Mat_floorMod_x rfl rfl (s_fm _ _ (by decide)) (by decide) rfl (Nat.le_of_ble_eq_true rfl) ?_
  rw [fm16s l hl]
  first | refine V_pput rfl rfl rfl rfl rfl ?_ | refine V_bput rfl rfl rfl rfl rfl rfl ?_ | refine V_bputZ rfl rfl rfl rfl rfl rfl (by decide) ?_ | refine V_put rfl rfl (by first | assumption | rfl) (by decide) (fun _ hty => by cases hty; exact ⟨rfl, rfl⟩) (by first | exact Or.inl rfl | exact Or.inr ⟨rfl, rfl⟩) rfl ?_
  refine V_aload_n rfl rfl ?_
  refine V_getfield rfl rfl (by first | assumption | exact blkW_0 | exact bAt_0 (by assumption) | rfl) (by rfl) ?_
  refine V_aload_n rfl rfl ?_
  refine V_getI rfl rfl (by first | assumption | exact blkW_0 | exact bAt_0 (by assumption) | rfl) (by rfl) (by first | rfl) ?_
  refine V_iload_n rfl rfl ?_
  first | refine V_past rfl rfl rfl rfl (by first | with_reducible rfl | exact nI_add 2 _ | exact nI_add 26 _ | exact ix45 _ _ | exact ixm45 _ | exact ix25 _ | exact fa_lit _ | assumption) (by first | omega | assumption | decide) (by first | decide | omega | assumption) ?_ | refine V_bast rfl rfl rfl (by first | with_reducible rfl | exact nI_add 2 _ | exact nI_add 26 _ | exact ix45 _ _ | exact ixm45 _ | exact ix25 _ | exact fa_lit _ | assumption) (by first | omega | assumption | decide) (by first | decide | omega | assumption) ?_ | refine V_iastore rfl (by first | assumption | exact blkW_i rfl rfl | exact blkW_z rfl rfl | exact bAt_i (by assumption) rfl rfl | exact bAt_z (by assumption) rfl rfl | rfl) (by first | with_reducible rfl | exact nI_add 2 _ | exact nI_add 26 _ | exact ix45 _ _ | exact ixm45 _ | exact ix25 _ | exact fa_lit _ | assumption) (by first | omega | assumption | decide) (by first | decide | omega | assumption) ?_
  refine V_aload_n rfl rfl ?_
  refine V_getfield rfl rfl (by first | assumption | exact blkW_0 | exact bAt_0 (by assumption) | rfl) (by rfl) ?_
  refine V_aload_n rfl rfl ?_
  refine V_getI rfl rfl (by first | assumption | exact blkW_0 | exact bAt_0 (by assumption) | rfl) (by rfl) (by first | rfl) ?_
  refine V_iload_n rfl rfl ?_
  first | refine V_past rfl rfl rfl rfl (by first | with_reducible rfl | exact nI_add 2 _ | exact nI_add 26 _ | exact ix45 _ _ | exact ixm45 _ | exact ix25 _ | exact fa_lit _ | assumption) (by first | omega | assumption | decide) (by first | decide | omega | assumption) ?_ | refine V_bast rfl rfl rfl (by first | with_reducible rfl | exact nI_add 2 _ | exact nI_add 26 _ | exact ix45 _ _ | exact ixm45 _ | exact ix25 _ | exact fa_lit _ | assumption) (by first | omega | assumption | decide) (by first | decide | omega | assumption) ?_ | refine V_iastore rfl (by first | assumption | exact blkW_i rfl rfl | exact blkW_z rfl rfl | exact bAt_i (by assumption) rfl rfl | exact bAt_z (by assumption) rfl rfl | rfl) (by first | with_reducible rfl | exact nI_add 2 _ | exact nI_add 26 _ | exact ix45 _ _ | exact ixm45 _ | exact ix25 _ | exact fa_lit _ | assumption) (by first | omega | assumption | decide) (by first | decide | omega | assumption) ?_
  refine V_aload_n rfl rfl ?_
  refine V_getfield rfl rfl (by first | assumption | exact blkW_0 | exact bAt_0 (by assumption) | rfl) (by rfl) ?_
  refine V_aload_n rfl rfl ?_
  refine V_getI rfl rfl (by first | assumption | exact blkW_0 | exact bAt_0 (by assumption) | rfl) (by rfl) (by first | rfl) ?_
  refine V_iload_n rfl rfl ?_
  first | refine V_past rfl rfl rfl rfl (by first | with_reducible rfl | exact nI_add 2 _ | exact nI_add 26 _ | exact ix45 _ _ | exact ixm45 _ | exact ix25 _ | exact fa_lit _ | assumption) (by first | omega | assumption | decide) (by first | decide | omega | assumption) ?_ | refine V_bast rfl rfl rfl (by first | with_reducible rfl | exact nI_add 2 _ | exact nI_add 26 _ | exact ix45 _ _ | exact ixm45 _ | exact ix25 _ | exact fa_lit _ | assumption) (by first | omega | assumption | decide) (by first | decide | omega | assumption) ?_ | refine V_iastore rfl (by first | assumption | exact blkW_i rfl rfl | exact blkW_z rfl rfl | exact bAt_i (by assumption) rfl rfl | exact bAt_z (by assumption) rfl rfl | rfl) (by first | with_reducible rfl | exact nI_add 2 _ | exact nI_add 26 _ | exact ix45 _ _ | exact ixm45 _ | exact ix25 _ | exact fa_lit _ | assumption) (by first | omega | assumption | decide) (by first | decide | omega | assumption) ?_
  refine V_aload_n rfl rfl ?_
  refine V_aload_n rfl rfl ?_
  refine V_getI rfl rfl (by first | assumption | exact blkW_0 | exact bAt_0 (by assumption) | rfl) (by rfl) (by first | rfl) ?_
  refine V_iconst (v := 1) rfl (by decide) ?_
  refine V_iadd rfl ?_
  refine V_bipush (v := 16) rfl (by decide) ?_
  refine V_callSi rfl rfl (Or.inl rfl) m_Mat_min_w m_Mat_min_x rfl rfl (s_min _ _) (by decide) rfl (Nat.le_of_ble_eq_true rfl) ?_
  first | refine V_pput rfl rfl rfl rfl rfl ?_ | refine V_bput rfl rfl rfl rfl rfl rfl ?_ | refine V_bputZ rfl rfl rfl rfl rfl rfl (by decide) ?_ | refine V_put rfl rfl (by first | assumption | rfl) (by decide) (fun _ hty => by cases hty; exact ⟨rfl, rfl⟩) (by first | exact Or.inl rfl | exact Or.inr ⟨rfl, rfl⟩) rfl ?_
  refine V_return rfl rfl ?_
  refine ⟨rfl, _, _, rfl, fun N2 hN => ⟨e + (if e < 16 then 1 else 0), (l + 1) % 16, ?_, hl2, ?_, ?_, ?_, ?_⟩⟩
  · split <;> omega
  · rw [pk_us]
    have : upd js 1 (nI ((l + 1) % 16)) 0 = nI e := (pk_un (by decide)).trans j0
    rw [this]
    refine (mnE 16 he (by decide)).trans ?_
    by_cases h : e < 16
    · rw [if_pos (nI_lt h (by decide)), if_pos h, nI_1]
    · rw [if_neg (nI_nlt (by omega) (by omega)), if_neg h, Int32.add_zero]; rfl
  · rw [pk_un (by decide), pk_us]
  · rw [hN 42 (by decide) (by decide), wrt_42, n42]
    by_cases h : e < 16
    · rw [if_pos (show nI e < 16 from nI_lt (b := 16) h (by decide)), if_pos h, nI_1]
    · rw [if_neg (show ¬ nI e < 16 from nI_nlt (b := 16) (by omega) (by omega)), if_neg h, Int32.add_zero]; rfl
  · intro i hi
    have f4 : ∀ x, va_up (va_up (va_up ja 2 (upd (ja 2) ((l + 1) % 16) (nI c))) 3 (upd (va_up ja 2 (upd (ja 2) ((l + 1) % 16) (nI c)) 3) ((l + 1) % 16) (nI s))) 4 (upd (va_up (va_up ja 2 (upd (ja 2) ((l + 1) % 16) (nI c))) 3 (upd (va_up ja 2 (upd (ja 2) ((l + 1) % 16) (nI c)) 3) ((l + 1) % 16) (nI s)) 4) ((l + 1) % 16) (nI b)) 2 x = if x = (l + 1) % 16 then nI c else ja 2 x := fun x => by
      simp [va_up, upd]
    have f5 : ∀ x, va_up (va_up (va_up ja 2 (upd (ja 2) ((l + 1) % 16) (nI c))) 3 (upd (va_up ja 2 (upd (ja 2) ((l + 1) % 16) (nI c)) 3) ((l + 1) % 16) (nI s))) 4 (upd (va_up (va_up ja 2 (upd (ja 2) ((l + 1) % 16) (nI c))) 3 (upd (va_up ja 2 (upd (ja 2) ((l + 1) % 16) (nI c)) 3) ((l + 1) % 16) (nI s)) 4) ((l + 1) % 16) (nI b)) 3 x = if x = (l + 1) % 16 then nI s else ja 3 x := fun x => by
      simp [va_up, upd]
    have f6 : ∀ x, va_up (va_up (va_up ja 2 (upd (ja 2) ((l + 1) % 16) (nI c))) 3 (upd (va_up ja 2 (upd (ja 2) ((l + 1) % 16) (nI c)) 3) ((l + 1) % 16) (nI s))) 4 (upd (va_up (va_up ja 2 (upd (ja 2) ((l + 1) % 16) (nI c))) 3 (upd (va_up ja 2 (upd (ja 2) ((l + 1) % 16) (nI c)) 3) ((l + 1) % 16) (nI s)) 4) ((l + 1) % 16) (nI b)) 4 x = if x = (l + 1) % 16 then nI b else ja 4 x := fun x => by
      simp [va_up, upd]
    unfold JE
    rw [f4, f5, f6]
    have hi16 : i < 16 := by
      by_cases h : e < 16
      · rw [if_pos h] at hi; omega
      · rw [if_neg h] at hi; omega
    by_cases e0 : i = 0
    · subst e0
      have ep : ((l + 1) % 16 + 16 - 0) % 16 = (l + 1) % 16 := by omega
      rw [ep]
      simp only [if_pos]
      refine ⟨c, b, s, hc, hb, hs, rfl, rfl, rfl, ?_⟩
      rw [hN 26 (by decide) (by decide), wrt_26, show (100 : Int32) = nI 100 from rfl, show (2 : Int32) = nI 2 from rfl, pk_mul, pk_mul, nI_add, nI_add]
    · have ep : ((l + 1) % 16 + 16 - i) % 16 = (l + 16 - (i - 1)) % 16 := by omega
      have hne : ¬ (l + 16 - (i - 1)) % 16 = (l + 1) % 16 := by omega
      rw [ep]
      simp only [if_neg hne]
      have hlt : i - 1 < e := by
        by_cases h : e < 16
        · rw [if_pos h] at hi; omega
        · rw [if_neg h] at hi; omega
      obtain ⟨c2, b2, s2, a1, a2, a3, a4, a5, a6, a7⟩ := hE (i - 1) hlt
      refine ⟨c2, b2, s2, a1, a2, a3, a4, a5, a6, ?_⟩
      rw [hN (26 + i) (by omega) (by omega), wrt_j (by omega) (by omega), show 26 + i - 1 = 26 + (i - 1) by omega]
      exact a7
end jour
