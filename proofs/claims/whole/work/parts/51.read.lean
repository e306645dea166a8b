/-! ===== the class's Reader: signs ===== -/
def rS (sc : Nat → Int32) (nx sg pl nu fi : Int32) : Nat → Int32 := fun k => if k = 4 then nx else if k = 5 then sg else if k = 6 then pl else if k = 7 then nu else if k = 8 then fi else sc k
section rSs
variable {sc : Nat → Int32} {nx sg pl nu fi v : Int32}
theorem rS_4 : rS sc nx sg pl nu fi 4 = nx := rfl
theorem rS_5 : rS sc nx sg pl nu fi 5 = sg := rfl
theorem rS_6 : rS sc nx sg pl nu fi 6 = pl := rfl
theorem rS_7 : rS sc nx sg pl nu fi 7 = nu := rfl
theorem rS_8 : rS sc nx sg pl nu fi 8 = fi := rfl
theorem rS_o {k : Nat} (h : (Nat.beq k 4 || Nat.beq k 5 || Nat.beq k 6 || Nat.beq k 7 || Nat.beq k 8) = false) : rS sc nx sg pl nu fi k = sc k := by
  simp only [Bool.or_eq_false_iff] at h
  have e : ∀ {j : Nat}, Nat.beq k j = false → k ≠ j := fun {j} hj q => by rw [q, show Nat.beq j j = true from Nat.beq_refl j] at hj; cases hj
  unfold rS
  rw [if_neg (e h.1.1.1.1), if_neg (e h.1.1.1.2), if_neg (e h.1.1.2), if_neg (e h.1.2), if_neg (e h.2)]
theorem rS_id : rS sc (sc 4) (sc 5) (sc 6) (sc 7) (sc 8) = sc := by
  funext k
  unfold rS
  by_cases e4 : k = 4
  · simp [e4]
  · by_cases e5 : k = 5
    · simp [e5]
    · by_cases e6 : k = 6
      · simp [e6]
      · by_cases e7 : k = 7
        · simp [e7]
        · by_cases e8 : k = 8
          · simp [e8]
          · simp [e4, e5, e6, e7, e8]
theorem rS_u4 : upd (rS sc nx sg pl nu fi) 4 v = rS sc v sg pl nu fi := by
  funext k; unfold rS upd
  by_cases e : k = 4
  · simp [e]
  · simp [e]
theorem rS_u5 : upd (rS sc nx sg pl nu fi) 5 v = rS sc nx v pl nu fi := by
  funext k; unfold rS upd
  by_cases e : k = 5
  · simp [e]
  · simp [e]
theorem rS_u6 : upd (rS sc nx sg pl nu fi) 6 v = rS sc nx sg v nu fi := by
  funext k; unfold rS upd
  by_cases e : k = 6
  · simp [e]
  · simp [e]
theorem rS_u7 : upd (rS sc nx sg pl nu fi) 7 v = rS sc nx sg pl v fi := by
  funext k; unfold rS upd
  by_cases e : k = 7
  · simp [e]
  · simp [e]
theorem rS_u8 : upd (rS sc nx sg pl nu fi) 8 v = rS sc nx sg pl nu v := by
  funext k; unfold rS upd
  by_cases e : k = 8
  · simp [e]
  · simp [e]
end rSs
/-- letters are 0 .. 255 -/
def ltr (T : Nat → Int32) (n : Nat) : Prop := ∀ i, i < n → ∃ c : Nat, c < 256 ∧ T i = nI c
/-- the number of k figures from s on, as the class counts -/
def nuC (T : Nat → Int32) (s : Nat) : Nat → Int32
  | 0 => 0
  | k + 1 => nuC T s k * 10 + T (s + k) - 48
def dgn (T : Nat → Int32) (n a : Nat) : Nat := dgE T n (skp T n a) - skp T n a
def sgn (T : Nat → Int32) (n a : Nat) : Int32 := if isNm T n a then -2 else hv T n a
def nxt (T : Nat → Int32) (n a : Nat) : Nat := if isNm T n a then dgE T n (skp T n a) else if skp T n a < n then skp T n a + 1 else skp T n a
theorem dgE_nD {T : Nat → Int32} {n s : Nat} (h : s < n → isD (T s) = false) : dgE T n s = s := by
  unfold dgE
  rcases Nat.eq_zero_or_pos (fa_first (fun i => !isD (T (s + i))) (n - s)) with e | e
  · omega
  · have hle := fa_first_le (fun i => !isD (T (s + i))) (n - s)
    have hn := fa_first_no (fun i => !isD (T (s + i))) (n - s) 0 e
    rw [Nat.add_zero, h (by omega)] at hn
    cases hn
theorem isNm_iff {T : Nat → Int32} {n a : Nat} : isNm T n a = true ↔ skp T n a < n ∧ isD (T (skp T n a)) = true := by
  unfold isNm
  rw [Bool.and_eq_true, decide_eq_true_eq]
theorem dgn_0 {T : Nat → Int32} {n a : Nat} (h : isNm T n a = false) : dgE T n (skp T n a) = skp T n a := dgE_nD fun hs => by
  cases hd : isD (T (skp T n a))
  · rfl
  · rw [isNm_iff.mpr ⟨hs, hd⟩] at h; cases h
theorem dgn_1 {T : Nat → Int32} {n a : Nat} (h : isNm T n a = true) : 1 ≤ dgn T n a := by
  have h := isNm_iff.mp h
  have := dgE_1 h.1 h.2
  unfold dgn
  omega
theorem nxt_le {T : Nat → Int32} {n a : Nat} (h : a ≤ n) : nxt T n a ≤ n := by
  have hs := skp_le (T := T) h
  unfold nxt
  split
  · exact dgE_le hs
  · split <;> omega
theorem hv_m1 {T : Nat → Int32} {n a : Nat} (hl : ltr T n) : hv T n a = -1 ↔ ¬ skp T n a < n := by
  unfold hv
  by_cases e : skp T n a < n
  · rw [if_pos e]
    obtain ⟨c, hc, q⟩ := hl _ e
    rw [q]
    exact ⟨fun z => absurd z (nI_m1 (by omega)), fun z => absurd e z⟩
  · rw [if_neg e]
    exact ⟨fun _ => e, fun _ => rfl⟩
def FT (f : Option (Nat × Nat)) (sc : Nat → Int32) : Prop := match f with
  | none => sc 2 = -1 ∧ sc 3 = 0
  | some y => sc 2 = nI y.2 ∧ sc 3 = nI y.1 ∧ 1 ≤ y.1 ∧ y.1 ≤ 4
/-- the sign that stands next was looked for from a on -/
def ST (T : Nat → Int32) (n : Nat) (sc : Nat → Int32) (f : Option (Nat × Nat)) (a : Nat) : Prop := a ≤ n ∧ sc 1 = nI n ∧ sc 4 = nI (nxt T n a) ∧ sc 5 = sgn T n a ∧ sc 6 = nI (skp T n a) ∧ sc 7 = nuC T (skp T n a) (dgn T n a) ∧ sc 8 = nI (dgn T n a) ∧ FT f sc
def fo (f : Option (Nat × Nat)) (y : Nat × Nat) : Option (Nat × Nat) := match f with
  | none => some y
  | some z => some z
theorem FT_o {f : Option (Nat × Nat)} {sc sc2 : Nat → Int32} (h : FT f sc) (h2 : sc2 2 = sc 2) (h3 : sc2 3 = sc 3) : FT f sc2 := by
  cases f with
  | none => exact ⟨h2.trans h.1, h3.trans h.2⟩
  | some y => exact ⟨h2.trans h.1, h3.trans h.2.1, h.2.2⟩
section read
variable {g : mG} {h : mH} {sz u rd n a : Nat} {sc : Nat → Int32} {ar : Nat → Nat → Int32} {f : Option (Nat × Nat)}
set_option maxRecDepth 20000 in
set_option maxHeartbeats 1000000 in
theorem s_isF (x : Int32) : Mt g 0 m_Read_isFigure [.int x] h sz u (Pi (b2 (isD x)) h) sz u := by
  refine Mt.of m_Read_isFigure_w m_Read_isFigure_x m_Read_isFigure_c rfl rfl (ls := [.int x]) rfl ?_
  refine V_iload_n rfl rfl ?_
  refine V_bipush (v := 48) rfl (by decide) ?_
  refine V_icmp_lt rfl (fun h3 => ?_) (fun h3 => ?_)
  · refine V_iconst (v := 0) rfl (by decide) ?_
    refine V_ireturn rfl rfl (by first | rfl | exact b2_nar _ | assumption | decide) ?_
    exact P_ret (by unfold isD; rw [decide_eq_false (fun q => fa_of_nlt2 q.1 h3)]; rfl) rfl
  · refine V_iload_n rfl rfl ?_
    refine V_bipush (v := 57) rfl (by decide) ?_
    refine V_icmp_gt rfl (fun h9 => ?_) (fun h9 => ?_)
    · refine V_iconst (v := 0) rfl (by decide) ?_
      refine V_ireturn rfl rfl (by first | rfl | exact b2_nar _ | assumption | decide) ?_
      exact P_ret (by unfold isD; rw [decide_eq_false (fun q => fa_of_nlt2 q.2 h9)]; rfl) rfl
    · refine V_iconst (v := 1) rfl (by decide) ?_
      refine V_goto rfl ?_
      refine V_ireturn rfl rfl (by first | rfl | exact b2_nar _ | assumption | decide) ?_
      exact P_ret (by unfold isD; rw [decide_eq_true ⟨fa_of_nlt h3, fa_of_nlt h9⟩]; rfl) rfl
set_option maxRecDepth 20000 in
set_option maxHeartbeats 1000000 in
theorem w_advance (h1 : sc 1 = nI n) (hn : n ≤ 240) (h4 : sc 4 = nI a) (ha : a ≤ n) (hl : ltr (ar 0) n) (hf : FT f sc) : Mt g 1 m_Read_advance [.ref rd] (blkW 4 h rd sc ar) sz u (fun r h' => r = none ∧ ∃ sc', h' = blkW 4 h rd sc' ar ∧ ST (ar 0) n sc' f a ∧ sc' 9 = sc 9) sz u := by
  refine Mt.of m_Read_advance_w m_Read_advance_x m_Read_advance_c rfl rfl (ls := [.ref rd, .retAddr 0]) rfl ?_
  have hsl := skp_le (T := ar 0) ha
  have hsg := skp_ge (ar 0) n a
  have hsd : skp (ar 0) n a = a + fa_first (fun i => !decide (ar 0 (a + i) = 32)) (n - a) := rfl
  rw [show blkW 4 h rd sc ar = blkW 4 h rd (rS sc (nI a) (sc 5) (sc 6) (sc 7) (sc 8)) ar by rw [← h4, rS_id]]
  refine V_iconst (v := 0) rfl (by decide) ?_
  refine V_is1 rfl (by first | rfl | assumption) ?_
  refine V_for2 (skp (ar 0) n a - a) (fun i => [.ref rd, .int (nI i)]) (fun i => blkW 4 h rd (rS sc (nI (a + i)) (sc 5) (sc 6) (sc 7) (sc 8)) ar) rfl rfl (fun i hi ih => ?_) ?_
  · have hb := fa_first_no (fun i => !decide (ar 0 (a + i) = 32)) (n - a) i (by omega)
    have hb : ar 0 (a + i) = 32 := by simpa using hb
    refine V_iload_n rfl rfl ?_
    refine V_sipush (v := 240) rfl (by decide) ?_
    refine V_icmp_geF rfl (nI_ge (b := 240) (show i < 240 by omega) (by decide)) ?_
    refine V_aload_n rfl rfl ?_
    refine V_getI rfl rfl (by first | assumption | exact blkW_0 | exact bAt_0 (by assumption) | exact bAt_0 (hA _ _) | rfl) (by rfl) (by first | exact rS_4 | exact (by assumption) | rfl) ?_
    refine V_aload_n rfl rfl ?_
    refine V_getI rfl rfl (by first | assumption | exact blkW_0 | exact bAt_0 (by assumption) | exact bAt_0 (hA _ _) | rfl) (by rfl) (by first | exact (rS_o rfl).trans (by assumption) | exact (by assumption) | rfl) ?_
    refine V_icmp_geF rfl (nI_ge (show a + i < n by omega) (by omega)) ?_
    refine V_aload_n rfl rfl ?_
    refine V_getfield rfl rfl (by first | assumption | exact blkW_0 | exact bAt_0 (by assumption) | exact bAt_0 (hA _ _) | rfl) (by rfl) ?_
    refine V_aload_n rfl rfl ?_
    refine V_getI rfl rfl (by first | assumption | exact blkW_0 | exact bAt_0 (by assumption) | exact bAt_0 (hA _ _) | rfl) (by rfl) (by first | exact rS_4 | exact (by assumption) | rfl) ?_
    refine V_callSi rfl rfl (Or.inr rfl) m_EB_at_w m_EB_at_x rfl rfl (s_atv (blkW_i rfl rfl) (by decide) _ (atV_in (by omega) (by decide))) (by decide) rfl (Nat.le_of_ble_eq_true rfl) ?_
    refine V_bipush (v := 32) rfl (by decide) ?_
    refine V_icmp_neF rfl (hb) ?_
    refine V_aload_n rfl rfl ?_
    refine V_dup rfl rfl ?_
    refine V_getI rfl rfl (by first | assumption | exact blkW_0 | exact bAt_0 (by assumption) | exact bAt_0 (hA _ _) | rfl) (by rfl) (by first | exact rS_4 | exact (by assumption) | rfl) ?_
    refine V_iconst (v := 1) rfl (by decide) ?_
    refine V_iadd rfl ?_
    rw [show nI (a + i) + 1 = nI (a + (i + 1)) from nI_1 (a + i)]
    first | refine V_pput rfl rfl rfl rfl rfl ?_ | refine V_bput rfl rfl rfl rfl rfl rfl ?_ | refine V_bputZ rfl rfl rfl rfl rfl rfl (by decide) ?_ | refine V_put rfl rfl (by first | assumption | rfl) (by decide) (fun _ hty => by cases hty; exact ⟨rfl, rfl⟩) (by first | exact Or.inl rfl | exact Or.inr ⟨rfl, rfl⟩) rfl ?_
    rw [rS_u4]
    refine V_inc1 rfl (by first | exact mInc _ | rfl) (by first | rfl | assumption) ?_
    refine V_goto rfl ?_
    exact ih
  · have k52 : V g 1 m_Read_advance (fun r h' => r = none ∧ ∃ sc', h' = blkW 4 h rd sc' ar ∧ ST (ar 0) n sc' f a ∧ sc' 9 = sc 9) sz u 52 [.ref rd, .int (nI (skp (ar 0) n a - a))] [] (blkW 4 h rd (rS sc (nI (a + (skp (ar 0) n a - a))) (sc 5) (sc 6) (sc 7) (sc 8)) ar) sz u := by
      rw [show a + (skp (ar 0) n a - a) = skp (ar 0) n a by omega]
      have hve : hv (ar 0) n a = if skp (ar 0) n a < n then ar 0 (skp (ar 0) n a) else -1 := rfl
      have hnm := isNm_iff (T := ar 0) (n := n) (a := a)
      have hd0 := dgn_0 (T := ar 0) (n := n) (a := a)
      have hd1 := dgn_1 (T := ar 0) (n := n) (a := a)
      have hm1 := hv_m1 (a := a) hl
      have hdl := dgE_le (T := ar 0) hsl
      have hST : ∀ sc' : Nat → Int32, sc' 4 = nI (nxt (ar 0) n a) → sc' 5 = sgn (ar 0) n a → sc' 6 = nI (skp (ar 0) n a) → sc' 7 = nuC (ar 0) (skp (ar 0) n a) (dgn (ar 0) n a) → sc' 8 = nI (dgn (ar 0) n a) → (∀ k, (Nat.beq k 4 || Nat.beq k 5 || Nat.beq k 6 || Nat.beq k 7 || Nat.beq k 8) = false → sc' k = sc k) → ST (ar 0) n sc' f a ∧ sc' 9 = sc 9 := fun sc' q4 q5 q6 q7 q8 qo => ⟨⟨ha, (qo 1 rfl).trans h1, q4, q5, q6, q7, q8, FT_o hf (qo 2 rfl) (qo 3 rfl)⟩, qo 9 rfl⟩
      have hdd : dgn (ar 0) n a = dgE (ar 0) n (skp (ar 0) n a) - skp (ar 0) n a := rfl
      unfold nxt sgn at hST
      generalize hs : skp (ar 0) n a = s at *
      refine V_aload_n rfl rfl ?_
      refine V_aload_n rfl rfl ?_
      refine V_getI rfl rfl (by first | assumption | exact blkW_0 | exact bAt_0 (by assumption) | exact bAt_0 (hA _ _) | rfl) (by rfl) (by first | exact rS_4 | exact (by assumption) | rfl) ?_
      first | refine V_pput rfl rfl rfl rfl rfl ?_ | refine V_bput rfl rfl rfl rfl rfl rfl ?_ | refine V_bputZ rfl rfl rfl rfl rfl rfl (by decide) ?_ | refine V_put rfl rfl (by first | assumption | rfl) (by decide) (fun _ hty => by cases hty; exact ⟨rfl, rfl⟩) (by first | exact Or.inl rfl | exact Or.inr ⟨rfl, rfl⟩) rfl ?_
      rw [rS_u6]
      have k87 : V g 1 m_Read_advance (fun r h' => r = none ∧ ∃ sc', h' = blkW 4 h rd sc' ar ∧ ST (ar 0) n sc' f a ∧ sc' 9 = sc 9) sz u 87 [.ref rd, .int (nI (s - a))] [.int (hv (ar 0) n a), .ref rd] (blkW 4 h rd (rS sc (nI s) (sc 5) (nI s) (sc 7) (sc 8)) ar) sz u := by
        first | refine V_pput rfl rfl rfl rfl rfl ?_ | refine V_bput rfl rfl rfl rfl rfl rfl ?_ | refine V_bputZ rfl rfl rfl rfl rfl rfl (by decide) ?_ | refine V_put rfl rfl (by first | assumption | rfl) (by decide) (fun _ hty => by cases hty; exact ⟨rfl, rfl⟩) (by first | exact Or.inl rfl | exact Or.inr ⟨rfl, rfl⟩) rfl ?_
        rw [rS_u5]
        refine V_aload_n rfl rfl ?_
        refine V_iconst (v := 0) rfl (by decide) ?_
        first | refine V_pput rfl rfl rfl rfl rfl ?_ | refine V_bput rfl rfl rfl rfl rfl rfl ?_ | refine V_bputZ rfl rfl rfl rfl rfl rfl (by decide) ?_ | refine V_put rfl rfl (by first | assumption | rfl) (by decide) (fun _ hty => by cases hty; exact ⟨rfl, rfl⟩) (by first | exact Or.inl rfl | exact Or.inr ⟨rfl, rfl⟩) rfl ?_
        rw [rS_u7]
        refine V_aload_n rfl rfl ?_
        refine V_iconst (v := 0) rfl (by decide) ?_
        first | refine V_pput rfl rfl rfl rfl rfl ?_ | refine V_bput rfl rfl rfl rfl rfl rfl ?_ | refine V_bputZ rfl rfl rfl rfl rfl rfl (by decide) ?_ | refine V_put rfl rfl (by first | assumption | rfl) (by decide) (fun _ hty => by cases hty; exact ⟨rfl, rfl⟩) (by first | exact Or.inl rfl | exact Or.inr ⟨rfl, rfl⟩) rfl ?_
        rw [rS_u8]
        refine V_for2 (dgE (ar 0) n s - s) (fun _ => [.ref rd, .int (nI (s - a))]) (fun j => blkW 4 h rd (rS sc (nI (s + j)) (hv (ar 0) n a) (nI s) (nuC (ar 0) s j) (nI j)) ar) rfl rfl (fun j hj ih => ?_) ?_
        · have hD : isD (ar 0 (s + j)) = true := dgE_D (n := n) (by omega)
          have hnu : nuC (ar 0) s (j + 1) = nuC (ar 0) s j * 10 + ar 0 (s + j) - 48 := rfl
          refine V_aload_n rfl rfl ?_
          refine V_getI rfl rfl (by first | assumption | exact blkW_0 | exact bAt_0 (by assumption) | exact bAt_0 (hA _ _) | rfl) (by rfl) (by first | exact rS_8 | exact (by assumption) | rfl) ?_
          refine V_sipush (v := 240) rfl (by decide) ?_
          refine V_icmp_geF rfl (nI_ge (b := 240) (show j < 240 by omega) (by decide)) ?_
          refine V_aload_n rfl rfl ?_
          refine V_getI rfl rfl (by first | assumption | exact blkW_0 | exact bAt_0 (by assumption) | exact bAt_0 (hA _ _) | rfl) (by rfl) (by first | exact rS_4 | exact (by assumption) | rfl) ?_
          refine V_aload_n rfl rfl ?_
          refine V_getI rfl rfl (by first | assumption | exact blkW_0 | exact bAt_0 (by assumption) | exact bAt_0 (hA _ _) | rfl) (by rfl) (by first | exact (rS_o rfl).trans (by assumption) | exact (by assumption) | rfl) ?_
          refine V_icmp_geF rfl (nI_ge (show s + j < n by omega) (by omega)) ?_
          refine V_aload_n rfl rfl ?_
          refine V_getfield rfl rfl (by first | assumption | exact blkW_0 | exact bAt_0 (by assumption) | exact bAt_0 (hA _ _) | rfl) (by rfl) ?_
          refine V_aload_n rfl rfl ?_
          refine V_getI rfl rfl (by first | assumption | exact blkW_0 | exact bAt_0 (by assumption) | exact bAt_0 (hA _ _) | rfl) (by rfl) (by first | exact rS_4 | exact (by assumption) | rfl) ?_
          refine V_callSi rfl rfl (Or.inr rfl) m_EB_at_w m_EB_at_x rfl rfl (s_atv (blkW_i rfl rfl) (by decide) _ (atV_in (by omega) (by decide))) (by decide) rfl (Nat.le_of_ble_eq_true rfl) ?_
          refine V_callSi rfl rfl (Or.inl rfl) m_Read_isFigure_w m_Read_isFigure_x rfl rfl (s_isF _) (by decide) rfl (Nat.le_of_ble_eq_true rfl) ?_
          rw [hD]
          refine V_if_eqF rfl (by decide) ?_
          refine V_aload_n rfl rfl ?_
          refine V_aload_n rfl rfl ?_
          refine V_getI rfl rfl (by first | assumption | exact blkW_0 | exact bAt_0 (by assumption) | exact bAt_0 (hA _ _) | rfl) (by rfl) (by first | exact rS_7 | exact (by assumption) | rfl) ?_
          refine V_bipush (v := 10) rfl (by decide) ?_
          refine V_imul rfl ?_
          refine V_aload_n rfl rfl ?_
          refine V_getfield rfl rfl (by first | assumption | exact blkW_0 | exact bAt_0 (by assumption) | exact bAt_0 (hA _ _) | rfl) (by rfl) ?_
          refine V_aload_n rfl rfl ?_
          refine V_getI rfl rfl (by first | assumption | exact blkW_0 | exact bAt_0 (by assumption) | exact bAt_0 (hA _ _) | rfl) (by rfl) (by first | exact rS_4 | exact (by assumption) | rfl) ?_
          refine V_callSi rfl rfl (Or.inr rfl) m_EB_at_w m_EB_at_x rfl rfl (s_atv (blkW_i rfl rfl) (by decide) _ (atV_in (by omega) (by decide))) (by decide) rfl (Nat.le_of_ble_eq_true rfl) ?_
          refine V_iadd rfl ?_
          refine V_bipush (v := 48) rfl (by decide) ?_
          refine V_isub rfl ?_
          first | refine V_pput rfl rfl rfl rfl rfl ?_ | refine V_bput rfl rfl rfl rfl rfl rfl ?_ | refine V_bputZ rfl rfl rfl rfl rfl rfl (by decide) ?_ | refine V_put rfl rfl (by first | assumption | rfl) (by decide) (fun _ hty => by cases hty; exact ⟨rfl, rfl⟩) (by first | exact Or.inl rfl | exact Or.inr ⟨rfl, rfl⟩) rfl ?_
          rw [rS_u7, ← hnu]
          refine V_aload_n rfl rfl ?_
          refine V_dup rfl rfl ?_
          refine V_getI rfl rfl (by first | assumption | exact blkW_0 | exact bAt_0 (by assumption) | exact bAt_0 (hA _ _) | rfl) (by rfl) (by first | exact rS_4 | exact (by assumption) | rfl) ?_
          refine V_iconst (v := 1) rfl (by decide) ?_
          refine V_iadd rfl ?_
          rw [show nI (s + j) + 1 = nI (s + (j + 1)) from nI_1 (s + j)]
          first | refine V_pput rfl rfl rfl rfl rfl ?_ | refine V_bput rfl rfl rfl rfl rfl rfl ?_ | refine V_bputZ rfl rfl rfl rfl rfl rfl (by decide) ?_ | refine V_put rfl rfl (by first | assumption | rfl) (by decide) (fun _ hty => by cases hty; exact ⟨rfl, rfl⟩) (by first | exact Or.inl rfl | exact Or.inr ⟨rfl, rfl⟩) rfl ?_
          rw [rS_u4]
          refine V_aload_n rfl rfl ?_
          refine V_dup rfl rfl ?_
          refine V_getI rfl rfl (by first | assumption | exact blkW_0 | exact bAt_0 (by assumption) | exact bAt_0 (hA _ _) | rfl) (by rfl) (by first | exact rS_8 | exact (by assumption) | rfl) ?_
          refine V_iconst (v := 1) rfl (by decide) ?_
          refine V_iadd rfl ?_
          rw [show nI j + 1 = nI (j + 1) from nI_1 j]
          first | refine V_pput rfl rfl rfl rfl rfl ?_ | refine V_bput rfl rfl rfl rfl rfl rfl ?_ | refine V_bputZ rfl rfl rfl rfl rfl rfl (by decide) ?_ | refine V_put rfl rfl (by first | assumption | rfl) (by decide) (fun _ hty => by cases hty; exact ⟨rfl, rfl⟩) (by first | exact Or.inl rfl | exact Or.inr ⟨rfl, rfl⟩) rfl ?_
          rw [rS_u8]
          refine V_goto rfl ?_
          exact ih
        · have k187 : V g 1 m_Read_advance (fun r h' => r = none ∧ ∃ sc', h' = blkW 4 h rd sc' ar ∧ ST (ar 0) n sc' f a ∧ sc' 9 = sc 9) sz u 187 [.ref rd, .int (nI (s - a))] [] (blkW 4 h rd (rS sc (nI (s + (dgE (ar 0) n s - s))) (hv (ar 0) n a) (nI s) (nuC (ar 0) s (dgE (ar 0) n s - s)) (nI (dgE (ar 0) n s - s))) ar) sz u := by
            cases hN : isNm (ar 0) n a
            · have e0 := hd0 hN
              rw [hN] at hST
              rw [e0, Nat.sub_self]
              refine V_aload_n rfl rfl ?_
              refine V_getI rfl rfl (by first | assumption | exact blkW_0 | exact bAt_0 (by assumption) | exact bAt_0 (hA _ _) | rfl) (by rfl) (by first | exact rS_8 | exact (by assumption) | rfl) ?_
              refine V_if_leT rfl (by decide) ?_
              refine V_aload_n rfl rfl ?_
              refine V_getI rfl rfl (by first | assumption | exact blkW_0 | exact bAt_0 (by assumption) | exact bAt_0 (hA _ _) | rfl) (by rfl) (by first | exact rS_5 | exact (by assumption) | rfl) ?_
              refine V_iconst (v := (-1)) rfl (by decide) ?_
              by_cases hlt : s < n
              · rw [if_neg (by decide), if_pos hlt] at hST
                refine V_icmp_eqF rfl (fun z => (hm1.mp z) hlt) ?_
                refine V_aload_n rfl rfl ?_
                refine V_dup rfl rfl ?_
                refine V_getI rfl rfl (by first | assumption | exact blkW_0 | exact bAt_0 (by assumption) | exact bAt_0 (hA _ _) | rfl) (by rfl) (by first | exact rS_4 | exact (by assumption) | rfl) ?_
                refine V_iconst (v := 1) rfl (by decide) ?_
                refine V_iadd rfl ?_
                rw [show nI (s + 0) + 1 = nI (s + 1) from nI_1 s]
                first | refine V_pput rfl rfl rfl rfl rfl ?_ | refine V_bput rfl rfl rfl rfl rfl rfl ?_ | refine V_bputZ rfl rfl rfl rfl rfl rfl (by decide) ?_ | refine V_put rfl rfl (by first | assumption | rfl) (by decide) (fun _ hty => by cases hty; exact ⟨rfl, rfl⟩) (by first | exact Or.inl rfl | exact Or.inr ⟨rfl, rfl⟩) rfl ?_
                rw [rS_u4]
                refine V_return rfl rfl ?_
                exact ⟨rfl, _, rfl, hST _ rS_4 rS_5 rS_6 (by rw [rS_7, hdd, e0, Nat.sub_self]) (by rw [rS_8, hdd, e0, Nat.sub_self]) (fun k hk => rS_o hk)⟩
              · rw [if_neg (by decide), if_neg hlt] at hST
                refine V_icmp_eqT rfl (hm1.mpr hlt) ?_
                refine V_return rfl rfl ?_
                exact ⟨rfl, _, rfl, hST _ rS_4 rS_5 rS_6 (by rw [rS_7, hdd, e0, Nat.sub_self]) (by rw [rS_8, hdd, e0, Nat.sub_self]) (fun k hk => rS_o hk)⟩
            · have e1 := hd1 hN
              rw [hN, if_pos rfl, if_pos rfl] at hST
              rw [← hdd, show s + dgn (ar 0) n a = dgE (ar 0) n s by omega]
              refine V_aload_n rfl rfl ?_
              refine V_getI rfl rfl (by first | assumption | exact blkW_0 | exact bAt_0 (by assumption) | exact bAt_0 (hA _ _) | rfl) (by rfl) (by first | exact rS_8 | exact (by assumption) | rfl) ?_
              refine V_if_leF rfl (nI_nle (by omega) (by omega)) ?_
              refine V_aload_n rfl rfl ?_
              refine V_bipush (v := (-2)) rfl (by decide) ?_
              first | refine V_pput rfl rfl rfl rfl rfl ?_ | refine V_bput rfl rfl rfl rfl rfl rfl ?_ | refine V_bputZ rfl rfl rfl rfl rfl rfl (by decide) ?_ | refine V_put rfl rfl (by first | assumption | rfl) (by decide) (fun _ hty => by cases hty; exact ⟨rfl, rfl⟩) (by first | exact Or.inl rfl | exact Or.inr ⟨rfl, rfl⟩) rfl ?_
              rw [rS_u5]
              refine V_goto rfl ?_
              refine V_return rfl rfl ?_
              exact ⟨rfl, _, rfl, hST _ rS_4 rS_5 rS_6 rS_7 rS_8 (fun k hk => rS_o hk)⟩
          refine V_aload_n rfl rfl ?_
          refine V_getI rfl rfl (by first | assumption | exact blkW_0 | exact bAt_0 (by assumption) | exact bAt_0 (hA _ _) | rfl) (by rfl) (by first | exact rS_8 | exact (by assumption) | rfl) ?_
          refine V_sipush (v := 240) rfl (by decide) ?_
          refine V_icmp_ge rfl (fun c107 => ?_) (fun c107 => ?_)
          · exact k187
          · refine V_aload_n rfl rfl ?_
            refine V_getI rfl rfl (by first | assumption | exact blkW_0 | exact bAt_0 (by assumption) | exact bAt_0 (hA _ _) | rfl) (by rfl) (by first | exact rS_4 | exact (by assumption) | rfl) ?_
            refine V_aload_n rfl rfl ?_
            refine V_getI rfl rfl (by first | assumption | exact blkW_0 | exact bAt_0 (by assumption) | exact bAt_0 (hA _ _) | rfl) (by rfl) (by first | exact (rS_o rfl).trans (by assumption) | exact (by assumption) | rfl) ?_
            by_cases c118 : s + (dgE (ar 0) n s - s) < n
            · have hnD : isD (ar 0 (s + (dgE (ar 0) n s - s))) = false := by
                have hde : dgE (ar 0) n s = s + fa_first (fun i => !isD (ar 0 (s + i))) (n - s) := rfl
                have hy := fa_first_yes (fun i => !isD (ar 0 (s + i))) (n - s) (by omega)
                rw [show fa_first (fun i => !isD (ar 0 (s + i))) (n - s) = dgE (ar 0) n s - s by omega] at hy
                simpa using hy
              refine V_icmp_geF rfl (nI_ge c118 (by omega)) ?_
              refine V_aload_n rfl rfl ?_
              refine V_getfield rfl rfl (by first | assumption | exact blkW_0 | exact bAt_0 (by assumption) | exact bAt_0 (hA _ _) | rfl) (by rfl) ?_
              refine V_aload_n rfl rfl ?_
              refine V_getI rfl rfl (by first | assumption | exact blkW_0 | exact bAt_0 (by assumption) | exact bAt_0 (hA _ _) | rfl) (by rfl) (by first | exact rS_4 | exact (by assumption) | rfl) ?_
              refine V_callSi rfl rfl (Or.inr rfl) m_EB_at_w m_EB_at_x rfl rfl (s_atv (blkW_i rfl rfl) (by decide) _ (atV_in (by omega) (by decide))) (by decide) rfl (Nat.le_of_ble_eq_true rfl) ?_
              refine V_callSi rfl rfl (Or.inl rfl) m_Read_isFigure_w m_Read_isFigure_x rfl rfl (s_isF _) (by decide) rfl (Nat.le_of_ble_eq_true rfl) ?_
              rw [hnD]
              refine V_if_eqT rfl (rfl) ?_
              exact k187
            · refine V_icmp_geT rfl (nI_le (by omega) (by omega)) ?_
              exact k187
      refine V_aload_n rfl rfl ?_
      refine V_aload_n rfl rfl ?_
      refine V_getI rfl rfl (by first | assumption | exact blkW_0 | exact bAt_0 (by assumption) | exact bAt_0 (hA _ _) | rfl) (by rfl) (by first | exact rS_4 | exact (by assumption) | rfl) ?_
      refine V_aload_n rfl rfl ?_
      refine V_getI rfl rfl (by first | assumption | exact blkW_0 | exact bAt_0 (by assumption) | exact bAt_0 (hA _ _) | rfl) (by rfl) (by first | exact (rS_o rfl).trans (by assumption) | exact (by assumption) | rfl) ?_
      by_cases hlt : s < n
      · rw [if_pos hlt] at hve
        refine V_icmp_geF rfl (nI_ge hlt (by omega)) ?_
        refine V_aload_n rfl rfl ?_
        refine V_getfield rfl rfl (by first | assumption | exact blkW_0 | exact bAt_0 (by assumption) | exact bAt_0 (hA _ _) | rfl) (by rfl) ?_
        refine V_aload_n rfl rfl ?_
        refine V_getI rfl rfl (by first | assumption | exact blkW_0 | exact bAt_0 (by assumption) | exact bAt_0 (hA _ _) | rfl) (by rfl) (by first | exact rS_4 | exact (by assumption) | rfl) ?_
        refine V_callSi rfl rfl (Or.inr rfl) m_EB_at_w m_EB_at_x rfl rfl (s_atv (blkW_i rfl rfl) (by decide) _ (atV_in (by omega) (by decide))) (by decide) rfl (Nat.le_of_ble_eq_true rfl) ?_
        rw [← hve]
        refine V_goto rfl ?_
        exact k87
      · rw [if_neg hlt] at hve
        refine V_icmp_geT rfl (nI_le (by omega) (by omega)) ?_
        refine V_iconst (v := (-1)) rfl (by decide) ?_
        rw [hve] at k87
        exact k87
    refine V_iload_n rfl rfl ?_
    refine V_sipush (v := 240) rfl (by decide) ?_
    refine V_icmp_ge rfl (fun c6 => ?_) (fun c6 => ?_)
    · exact k52
    · refine V_aload_n rfl rfl ?_
      refine V_getI rfl rfl (by first | assumption | exact blkW_0 | exact bAt_0 (by assumption) | exact bAt_0 (hA _ _) | rfl) (by rfl) (by first | exact rS_4 | exact (by assumption) | rfl) ?_
      refine V_aload_n rfl rfl ?_
      refine V_getI rfl rfl (by first | assumption | exact blkW_0 | exact bAt_0 (by assumption) | exact bAt_0 (hA _ _) | rfl) (by rfl) (by first | exact (rS_o rfl).trans (by assumption) | exact (by assumption) | rfl) ?_
      by_cases c17 : a + (skp (ar 0) n a - a) < n
      · have hnb : ¬ ar 0 (a + (skp (ar 0) n a - a)) = 32 := by
          have hy := fa_first_yes (fun i => !decide (ar 0 (a + i) = 32)) (n - a) (by omega)
          rw [show fa_first (fun i => !decide (ar 0 (a + i) = 32)) (n - a) = skp (ar 0) n a - a by omega] at hy
          simpa using hy
        refine V_icmp_geF rfl (nI_ge c17 (by omega)) ?_
        refine V_aload_n rfl rfl ?_
        refine V_getfield rfl rfl (by first | assumption | exact blkW_0 | exact bAt_0 (by assumption) | exact bAt_0 (hA _ _) | rfl) (by rfl) ?_
        refine V_aload_n rfl rfl ?_
        refine V_getI rfl rfl (by first | assumption | exact blkW_0 | exact bAt_0 (by assumption) | exact bAt_0 (hA _ _) | rfl) (by rfl) (by first | exact rS_4 | exact (by assumption) | rfl) ?_
        refine V_callSi rfl rfl (Or.inr rfl) m_EB_at_w m_EB_at_x rfl rfl (s_atv (blkW_i rfl rfl) (by decide) _ (atV_in (by omega) (by decide))) (by decide) rfl (Nat.le_of_ble_eq_true rfl) ?_
        refine V_bipush (v := 32) rfl (by decide) ?_
        refine V_icmp_neT rfl (hnb) ?_
        exact k52
      · refine V_icmp_geT rfl (nI_le (by omega) (by omega)) ?_
        exact k52
end read
