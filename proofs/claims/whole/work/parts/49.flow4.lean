/-! ===== layers from the end backwards, and the way by them ===== -/
def Ly (G : Nat → Int32) (b : Nat) : Nat → Int32
  | 0 => bI b
  | d + 1 => setF 20 fun x => !decide (G x &&& Ly G b d = 0)
theorem and_ne0 {A B : Int32} : ¬ A &&& B = 0 ↔ ∃ i, bt A i = true ∧ bt B i = true := by
  constructor
  · intro h
    refine Classical.byContradiction fun q => h (b_ext fun i hi => ?_)
    rw [b_0, b_and]
    cases h1 : bt A i
    · rfl
    · cases h2 : bt B i
      · rfl
      · exact absurd ⟨i, h1, h2⟩ q
  · rintro ⟨i, h1, h2⟩ e
    have := congrArg (fun z => bt z i) e
    simp only [b_and, b_0, h1, h2] at this
    cases this
theorem bt_Ly {G : Nat → Int32} {b : Nat} (hb : b < 20) (hG : ∀ x, sub 20 (G x)) : ∀ d x, bt (Ly G b d) x = true ↔ x < 20 ∧ wk G b d x
  | 0, x => by
    show bt (bI b) x = true ↔ x < 20 ∧ x = b
    constructor
    · intro h
      rw [bt_bI (by omega) (bt_lt h), decide_eq_true_eq] at h
      exact ⟨by omega, h⟩
    · rintro ⟨h1, h2⟩
      rw [bt_bI (by omega) (by omega), decide_eq_true h2]
  | d + 1, x => by
    show bt (setF 20 fun x => !decide (G x &&& Ly G b d = 0)) x = true ↔ _
    rw [bt_setF (by decide), Bool.not_eq_true', decide_eq_false_iff_not, and_ne0]
    constructor
    · rintro ⟨h1, y, h2, h3⟩
      exact ⟨h1, y, h2, ((bt_Ly hb hG d y).mp h3).2⟩
    · rintro ⟨h1, y, h2, h3⟩
      exact ⟨h1, y, h2, (bt_Ly hb hG d y).mpr ⟨hG x y h2, h3⟩⟩
theorem least_first {S : Int32} {q : Nat → Bool} {n : Nat} (hn : n ≤ 32) (h : ∀ x, bt S x = true ↔ x < n ∧ q x = true) (hx : ∃ x, bt S x = true) : leastV S = oB n (fa_first q n) ∧ ∃ y, fa_first q n = y ∧ bt S y = true := by
  obtain ⟨x, hx⟩ := hx
  have hl := low_in ⟨x, bt_lt hx, hx⟩
  have h1 := (h _).mp hl.2
  have hle := fa_first_le q n
  have hlt : fa_first q n ≤ low S := by
    rcases Nat.lt_or_ge (low S) (fa_first q n) with z | z
    · have := fa_first_no q n _ z
      rw [h1.2] at this; cases this
    · exact z
  have hy := fa_first_yes q n (by omega)
  have hb := (h _).mpr ⟨by omega, hy⟩
  have hge := low_le hb
  have e : fa_first q n = low S := by omega
  refine ⟨?_, _, rfl, hb⟩
  unfold leastV oB
  rw [if_neg (fun z => by rw [z, b_0] at hx; cases hx), if_pos (by omega), e]
section lst
variable {f : Nat → Int32} {S : Int32}
theorem lstF_low : ∀ n x, x < n → bt S x = true → (lstF f S n).toInt ≤ (f x).toInt
  | 0, x, h, _ => by omega
  | n + 1, x, h, hb => by
    unfold lstF
    by_cases e : x = n
    · subst e
      by_cases c : bt S x = true ∧ f x < lstF f S x
      · rw [if_pos c]; exact Int.le_refl _
      · rw [if_neg c]
        have : ¬ f x < lstF f S x := fun z => c ⟨hb, z⟩
        rw [fa_lt] at this
        omega
    · have ih := lstF_low n x (by omega) hb
      by_cases c : bt S n = true ∧ f n < lstF f S n
      · rw [if_pos c]
        have := (fa_lt _ _).mp c.2
        omega
      · rw [if_neg c]; exact ih
theorem lstF_is : ∀ n, lstF f S n = 1000 ∨ ∃ x, x < n ∧ bt S x = true ∧ lstF f S n = f x
  | 0 => Or.inl rfl
  | n + 1 => by
    unfold lstF
    by_cases c : bt S n = true ∧ f n < lstF f S n
    · rw [if_pos c]; exact Or.inr ⟨n, by omega, c.1, rfl⟩
    · rw [if_neg c]
      rcases lstF_is n with h | ⟨x, h1, h2, h3⟩
      · exact Or.inl h
      · exact Or.inr ⟨x, by omega, h2, h3⟩
end lst
theorem lst_d {p : Pg} {R M : Int32} {rt : Int32} {b d : Nat} (hB : nB p ≤ 20) (hd : d < nB p) (hr : ∃ r, r < nB p ∧ bt rt r = true ∧ mn (clB p R M) b d r) (hm : ∀ j, j < d → ∀ r, bt rt r = true → ¬ wk (clB p R M) b j r) : lstF (lay p R M b (nB p)) rt (nB p) = nI d := by
  obtain ⟨r, r1, r2, r3⟩ := hr
  have e := (lay_spec hB (nB p) hB r d (by omega)).mpr r3
  have hle := lstF_low (f := lay p R M b (nB p)) (S := rt) (nB p) r r1 r2
  rw [e, nI_toInt (by omega)] at hle
  rcases lstF_is (f := lay p R M b (nB p)) (S := rt) (nB p) with h | ⟨x, x1, x2, x3⟩
  · rw [h] at hle
    have : (1000 : Int32).toInt = 1000 := rfl
    omega
  · rw [x3] at hle ⊢
    rcases lay_is p R M b (nB p) x with q | ⟨k, k1, k2⟩
    · rw [q] at hle
      have : (1000 : Int32).toInt = 1000 := rfl
      omega
    · have hk := (lay_spec hB (nB p) hB x k k1).mp k2
      rw [k2, nI_toInt (by omega)] at hle
      have : ¬ k < d := fun z => hm k z x x2 hk.1
      rw [k2]
      congr 1
      omega
section flow4
variable {g : mG} {h : mH} {sz u fb : Nat} {p : Pg} {sc N : Nat → Int32} {ar : Nat → Nat → Int32}
set_option maxRecDepth 20000 in
set_option maxHeartbeats 1000000 in
theorem w_layTo (hV : FV p false sc ar) (hw : WB p) (hx : WX p) (hL : upC p (sc 6)) {b d : Nat} (hb : b < nB p) (hr : bt (sc 0) b = true) (hd : d < nB p) (hd1 : ∃ r, bt (rtS p (sc 6) (sc 7)) r = true ∧ mn (clB p (sc 0) (sc 1)) b d r) (hd2 : ∀ j, j < d → ∀ r, bt (rtS p (sc 6) (sc 7)) r = true → ¬ wk (clB p (sc 0) (sc 1)) b j r) : Mt g 2 m_Flow_layTo [.ref fb, .int (nI b)] (blkW 0 h fb sc ar) sz u (Pi (nI d) (blkW 0 h fb sc (va_up ar 4 (fa_fill (Ly (clB p (sc 0) (sc 1)) b) (ar 4) (d + 1))))) sz u := by
  have hB := hw.1.2.1
  have e0 : sc 0 = (rcX p (sc 6) (sc 7) false).1 := congrArg Prod.fst hV.1
  have hs := rcX_sub (R := sc 7) hw hx hL
  rw [← e0] at hs
  have hG : ∀ x, sub 20 (clB p (sc 0) (sc 1) x) := fun x => sub_mono (sub_clB hB _ _ x) hB
  have hLy := bt_Ly (G := clB p (sc 0) (sc 1)) (b := b) (by omega) hG
  have hwr : ∀ j x, wk (clB p (sc 0) (sc 1)) b j x → bt (sc 0) x = true := fun j x hj => by
    cases j with
    | zero =>
      have : x = b := hj
      rw [this]; exact hr
    | succ j =>
      obtain ⟨y, y1, -⟩ := hj
      unfold clB at y1
      by_cases q : bt (sc 0) x = true
      · exact q
      · rw [if_neg q, b_0] at y1; cases y1
  have hrt : ∀ x, bt (sc 0) x = true → bt (sc 7) x = true → bt (rtS p (sc 6) (sc 7)) x = true := fun x x1 x2 => by
    have := (bt_lbS hB).mp (hs.2.1 x x1)
    exact (bt_setF (by omega)).mpr ⟨this.1, by rw [x2, this.2]; rfl⟩
  obtain ⟨r, r1, r2⟩ := hd1
  have hr1 := (bt_setF (by omega)).mp r1
  rw [Bool.and_eq_true] at hr1
  have hne : ∀ i, i ≤ d → ¬ Ly (clB p (sc 0) (sc 1)) b i = 0 := fun i hi e => by
    obtain ⟨y, hy⟩ := mn_down r2 (d - i) (by omega)
    rw [show d - (d - i) = i by omega] at hy
    have hyB : y < 20 := by
      have := hs.1 y (hwr i y hy.1)
      omega
    have := (hLy i y).mpr ⟨hyB, hy.1⟩
    rw [e, b_0] at this; cases this
  have e1 : bI b &&& sc 0 = bI b := b_ext fun i hi => by
    rw [b_and, bt_bI (by omega) hi]
    by_cases e : i = b
    · rw [e, hr]; simp
    · rw [decide_eq_false e, Bool.false_and]
  refine Mt.of m_Flow_layTo_w m_Flow_layTo_x m_Flow_layTo_c rfl rfl (ls := [.ref fb, .int (nI b), .retAddr 0, .retAddr 0]) rfl ?_
  refine V_iload_n rfl rfl ?_
  refine V_callSi rfl rfl (Or.inr rfl) m_EB_bit_w m_EB_bit_x rfl rfl (s_bitv _ (by first | exact bitV_b (by first | omega | assumption) | exact bitV_m1 | rfl)) (by decide) rfl (Nat.le_of_ble_eq_true rfl) ?_
  refine V_aload_n rfl rfl ?_
  refine V_getI rfl rfl (by first | assumption | exact blkW_0 | exact bAt_0 (by assumption) | exact bAt_0 (hA _ _) | rfl) (by rfl) (by first | exact fS_0 | rfl) ?_
  refine V_iand rfl ?_
  rw [e1]
  refine V_is2 rfl (by first | rfl | assumption) ?_
  refine V_iconst (v := 0) rfl (by decide) ?_
  refine V_is3 rfl (by first | rfl | assumption) ?_
  refine V_for2 d (fun i => [.ref fb, .int (nI b), .int (Ly (clB p (sc 0) (sc 1)) b i), .int (nI i)]) (fun i => blkW 0 h fb sc (va_up ar 4 (fa_fill (Ly (clB p (sc 0) (sc 1)) b) (ar 4) i))) rfl (by rw [fa_fill_0, va_self]) (fun i hi ih => ?_) ?_
  · have hz : Ly (clB p (sc 0) (sc 1)) b i &&& sc 7 = 0 := Classical.byContradiction fun q => by
      obtain ⟨x, x1, x2⟩ := and_ne0.mp q
      have hwx := ((hLy i x).mp x1).2
      exact hd2 i hi x (hrt x (hwr i x hwx) x2) hwx
    refine V_iload_n rfl rfl ?_
    refine V_bipush (v := 20) rfl (by decide) ?_
    refine V_icmp_geF rfl (nI_ge (b := 20) (show i < 20 by omega) (by decide)) ?_
    refine V_iload_n rfl rfl ?_
    refine V_if_eqF rfl (hne i (by omega)) ?_
    refine V_aload_n rfl rfl ?_
    refine V_getfield rfl rfl (by first | assumption | exact blkW_0 | exact bAt_0 (by assumption) | exact bAt_0 (hA _ _) | rfl) (by rfl) ?_
    refine V_iload_n rfl rfl ?_
    refine V_iload_n rfl rfl ?_
    first | refine V_past rfl rfl rfl rfl (by first | with_reducible rfl | exact nI_add 2 _ | exact nI_add 26 _ | exact ix45 _ _ | exact ixm45 _ | exact ix25 _ | exact fa_lit _ | assumption) (by first | omega | assumption | decide) (by first | decide | omega | assumption) ?_ | refine V_bast rfl rfl rfl (by first | with_reducible rfl | exact nI_add 2 _ | exact nI_add 26 _ | exact ix45 _ _ | exact ixm45 _ | exact ix25 _ | exact fa_lit _ | assumption) (by first | omega | assumption | decide) (by first | decide | omega | assumption) ?_ | refine V_iastore rfl (by first | assumption | exact blkW_i rfl rfl | exact blkW_z rfl rfl | exact bAt_i (by assumption) rfl rfl | exact bAt_z (by assumption) rfl rfl | rfl) (by first | with_reducible rfl | exact nI_add 2 _ | exact nI_add 26 _ | exact ix45 _ _ | exact ixm45 _ | exact ix25 _ | exact fa_lit _ | assumption) (by first | omega | assumption | decide) (by first | decide | omega | assumption) ?_
    rw [va_st, fa_fill_succ]
    refine V_iload_n rfl rfl ?_
    refine V_aload_n rfl rfl ?_
    refine V_getI rfl rfl (by first | assumption | exact blkW_0 | exact bAt_0 (by assumption) | exact bAt_0 (hA _ _) | rfl) (by rfl) (by first | exact fS_o rfl | rfl) ?_
    refine V_iand rfl ?_
    refine V_if_eqT rfl (hz) ?_
    refine V_aload_n rfl rfl ?_
    refine V_iload_n rfl rfl ?_
    refine V_callVi rfl rfl m_Flow_whoCalls_w m_Flow_whoCalls_x rfl (by decide) rfl (s_who blkW_at _) (by decide) rfl (by first | assumption | exact blkW_0 | exact bAt_0 (by assumption) | exact bAt_0 (hA _ _) | rfl) (Nat.le_of_ble_eq_true rfl) ?_
    rw [show (setF 20 fun c => !decide (va_up ar 4 (fa_fill (Ly (clB p (sc 0) (sc 1)) b) (ar 4) (i + 1)) 2 c &&& Ly (clB p (sc 0) (sc 1)) b i = 0)) = Ly (clB p (sc 0) (sc 1)) b (i + 1) from setF_cong fun c hc => by rw [va_n (by decide), hV.2 c hc]]
    refine V_is2 rfl (by first | rfl | assumption) ?_
    refine V_inc3 rfl (by first | exact mInc _ | rfl) (by first | rfl | assumption) ?_
    refine V_goto rfl ?_
    exact ih
  · have hnz : ¬ Ly (clB p (sc 0) (sc 1)) b d &&& sc 7 = 0 := and_ne0.mpr ⟨r, (hLy d r).mpr ⟨by omega, r2.1⟩, hr1.2.1⟩
    refine V_iload_n rfl rfl ?_
    refine V_bipush (v := 20) rfl (by decide) ?_
    refine V_icmp_geF rfl (nI_ge (b := 20) (show d < 20 by omega) (by decide)) ?_
    refine V_iload_n rfl rfl ?_
    refine V_if_eqF rfl (hne d (by omega)) ?_
    refine V_aload_n rfl rfl ?_
    refine V_getfield rfl rfl (by first | assumption | exact blkW_0 | exact bAt_0 (by assumption) | exact bAt_0 (hA _ _) | rfl) (by rfl) ?_
    refine V_iload_n rfl rfl ?_
    refine V_iload_n rfl rfl ?_
    first | refine V_past rfl rfl rfl rfl (by first | with_reducible rfl | exact nI_add 2 _ | exact nI_add 26 _ | exact ix45 _ _ | exact ixm45 _ | exact ix25 _ | exact fa_lit _ | assumption) (by first | omega | assumption | decide) (by first | decide | omega | assumption) ?_ | refine V_bast rfl rfl rfl (by first | with_reducible rfl | exact nI_add 2 _ | exact nI_add 26 _ | exact ix45 _ _ | exact ixm45 _ | exact ix25 _ | exact fa_lit _ | assumption) (by first | omega | assumption | decide) (by first | decide | omega | assumption) ?_ | refine V_iastore rfl (by first | assumption | exact blkW_i rfl rfl | exact blkW_z rfl rfl | exact bAt_i (by assumption) rfl rfl | exact bAt_z (by assumption) rfl rfl | rfl) (by first | with_reducible rfl | exact nI_add 2 _ | exact nI_add 26 _ | exact ix45 _ _ | exact ixm45 _ | exact ix25 _ | exact fa_lit _ | assumption) (by first | omega | assumption | decide) (by first | decide | omega | assumption) ?_
    rw [va_st, fa_fill_succ]
    refine V_iload_n rfl rfl ?_
    refine V_aload_n rfl rfl ?_
    refine V_getI rfl rfl (by first | assumption | exact blkW_0 | exact bAt_0 (by assumption) | exact bAt_0 (hA _ _) | rfl) (by rfl) (by first | exact fS_o rfl | rfl) ?_
    refine V_iand rfl ?_
    refine V_if_eqF rfl (hnz) ?_
    refine V_iload_n rfl rfl ?_
    refine V_ireturn rfl rfl (by first | rfl | exact b2_nar _ | assumption | decide) ?_
    exact P_ret rfl rfl
set_option maxRecDepth 20000 in
set_option maxHeartbeats 1000000 in
theorem w_layTo0 {b : Nat} (hb : b < 20) (hr : bt (sc 0) b = false) : Mt g 2 m_Flow_layTo [.ref fb, .int (nI b)] (blkW 0 h fb sc ar) sz u (Pi (-1) (blkW 0 h fb sc ar)) sz u := by
  have e1 : bI b &&& sc 0 = 0 := b_ext fun i hi => by
    rw [b_and, bt_bI (by omega) hi, b_0]
    by_cases e : i = b
    · rw [e, hr, Bool.and_false]
    · rw [decide_eq_false e, Bool.false_and]
  refine Mt.of m_Flow_layTo_w m_Flow_layTo_x m_Flow_layTo_c rfl rfl (ls := [.ref fb, .int (nI b), .retAddr 0, .retAddr 0]) rfl ?_
  refine V_iload_n rfl rfl ?_
  refine V_callSi rfl rfl (Or.inr rfl) m_EB_bit_w m_EB_bit_x rfl rfl (s_bitv _ (by first | exact bitV_b (by first | omega | assumption) | exact bitV_m1 | rfl)) (by decide) rfl (Nat.le_of_ble_eq_true rfl) ?_
  refine V_aload_n rfl rfl ?_
  refine V_getI rfl rfl (by first | assumption | exact blkW_0 | exact bAt_0 (by assumption) | exact bAt_0 (hA _ _) | rfl) (by rfl) (by first | exact fS_0 | rfl) ?_
  refine V_iand rfl ?_
  rw [e1]
  refine V_is2 rfl (by first | rfl | assumption) ?_
  refine V_iconst (v := 0) rfl (by decide) ?_
  refine V_is3 rfl (by first | rfl | assumption) ?_
  refine V_iload_n rfl rfl ?_
  refine V_bipush (v := 20) rfl (by decide) ?_
  refine V_icmp_geF rfl (by decide) ?_
  refine V_iload_n rfl rfl ?_
  refine V_if_eqT rfl (rfl) ?_
  refine V_iconst (v := (-1)) rfl (by decide) ?_
  refine V_ireturn rfl rfl (by first | rfl | exact b2_nar _ | assumption | decide) ?_
  exact P_ret rfl rfl
end flow4
