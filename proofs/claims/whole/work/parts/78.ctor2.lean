def sA0 : Nat → Nat → Int32 := va_up zA 5 (fa_fill (fun _ => -1) z0 24)
theorem va_swap {h : mH} {a b : Nat} {x y : mC} (e : a ≠ b) : va_up (va_up h a x) b y = va_up (va_up h b y) a x := by
  funext k
  unfold va_up
  by_cases e1 : k = a
  · have : ¬ k = b := fun z => e (e1.symm.trans z)
    simp [e1, e]
  · simp [e1]
theorem blk5 {X : mH} {b : Nat} {sc : Nat → Int32} {ar : Nat → Nat → Int32} : va_up (va_up X b (cO 5 (obF 5 b sc))) (b + 5) (cI 24 (ar 5)) = blkW 5 X b sc ar := by
  funext a
  by_cases e : a = b
  · subst e
    rw [blkW_0, va_ne (by omega), va_eq]
  · by_cases e2 : a = b + 5
    · subst e2
      rw [va_eq]
      exact (blkW_i (o := 5) rfl rfl).symm
    · rw [va_ne e2, va_ne e]
      refine (blkW_nin ?_).symm
      simp [cellsOf, arL, e, e2]
theorem V_eput {g : mG} {d : Nat} {M : mM} {P : Option Value → mH → Prop} {sz' u' pc n t : Nat} {ls st : List Value} {h : mH} {sz u : Nat} {ci b : Nat} {fs fs2 : List Value} {i k w : Nat} {v : Value} (hf : mF M pc = some (.putfield i, 3, n, t)) (hl : mFld M.1 i = some (ci, k, w)) (hk2 : Nat.blt k fs.length = true) (hn : ∀ ty, mTy ci k = ty → narrow ty (mRl g v) = mRl g v ∧ fits ty (mRl g v) = true)
    (hfin : ((vwCl[ci]?.map fun r => (r.2.1 k).2.2.2) = some false) ∨ ((vwCl[ci]?.map fun r => ((r.2.1 k).2.2.2, (r.2.1 k).1)) = some (true, mRn M.1) ∧ (mMy M).name = "<init>")) (h2 : fs.set k v = fs2)
    (kk : V g d M P sz' u' n ls st (va_up h b (cO ci fs2)) sz u) : V g d M P sz' u' pc ls (v :: .ref b :: st) (va_up h b (cO ci fs)) sz u :=
  V_put hf hl va_eq (Nat.le_of_ble_eq_true hk2) hn hfin h2 (by rw [bx_uu]; exact kk)
section ctor2
variable {g : mG} {h : mH} {u b : Nat}
theorem i_5 : Mt g 2 m_Scen_init [.ref b] (va_up h b (cO 5 [.int 0, .int 0, .int 0, .int 0, .null, .null])) (b + 1) u (Pn (scW h b z0 sA0 z0 zA)) (b + 6) (u + 77) := by
  refine Mt.of m_Scen_init_w m_Scen_init_x m_Scen_init_c rfl rfl (ls := [.ref b]) rfl ?_
  refine V_aload_n rfl rfl ?_
  refine V_objInit rfl rfl (by decide) (Nat.le_of_ble_eq_true rfl) ?_
  refine V_aload_n rfl rfl ?_
  refine V_iconst (v := 0) rfl (by decide) ?_
  refine V_eput (fs2 := [.int 0, .int 0, .int 0, .int 0, .null, .null]) rfl rfl rfl (fun _ hty => by cases hty; exact ⟨rfl, rfl⟩) (by first | exact Or.inl rfl | exact Or.inr ⟨rfl, rfl⟩) rfl ?_
  refine V_aload_n rfl rfl ?_
  refine V_iconst (v := 0) rfl (by decide) ?_
  refine V_eput (fs2 := [.int 0, .int 0, .int 0, .int 0, .null, .null]) rfl rfl rfl (fun _ hty => by cases hty; exact ⟨rfl, rfl⟩) (by first | exact Or.inl rfl | exact Or.inr ⟨rfl, rfl⟩) rfl ?_
  refine V_aload_n rfl rfl ?_
  refine V_iconst (v := 0) rfl (by decide) ?_
  refine V_eput (fs2 := [.int 0, .int 0, .int 0, .int 0, .null, .null]) rfl rfl rfl (fun _ hty => by cases hty; exact ⟨rfl, rfl⟩) (by first | exact Or.inl rfl | exact Or.inr ⟨rfl, rfl⟩) rfl ?_
  refine V_aload_n rfl rfl ?_
  refine V_iconst (v := 0) rfl (by decide) ?_
  refine V_eput (fs2 := [.int 0, .int 0, .int 0, .int 0, .null, .null]) rfl rfl rfl (fun _ hty => by cases hty; exact ⟨rfl, rfl⟩) (by first | exact Or.inl rfl | exact Or.inr ⟨rfl, rfl⟩) rfl ?_
  refine V_aload_n rfl rfl ?_
  refine V_new rfl rfl rfl rfl rfl ?_
  refine V_dup rfl rfl ?_
  refine V_callIn rfl rfl (Or.inr rfl) m_Jour_init_w m_Jour_init_x rfl rfl rfl rfl (i_1) (by decide) rfl (Nat.le_of_ble_eq_true rfl) ?_
  rw [← blkW_up (ci := 1) (b := b + 1) (by simp [cellsOf, arL]; try omega)]
  refine V_eput (fs2 := [.int 0, .int 0, .int 0, .int 0, .ref (b + 1), .null]) rfl rfl rfl (fun _ hty => by cases hty; exact ⟨rfl, rfl⟩) (by first | exact Or.inl rfl | exact Or.inr ⟨rfl, rfl⟩) rfl ?_
  refine V_aload_n rfl rfl ?_
  refine V_bipush (v := 24) rfl (by decide) ?_
  refine V_newarr (N := 24) (tk := 0) (w := 5) rfl rfl (Or.inl ⟨rfl, rfl, rfl⟩) rfl (by decide) ?_
  show V g _ m_Scen_init _ _ _ 40 _ [.ref (b + 5), .ref b] (va_up (va_up (blkW 1 h (b + 1) z0 zA) b (cO 5 [.int 0, .int 0, .int 0, .int 0, .ref (b + 1), .null])) (b + 5) (cI 24 fun _ => 0)) (b + 6) _
  rw [va_swap (by omega)]
  refine V_eput (fs2 := [.int 0, .int 0, .int 0, .int 0, .ref (b + 1), .ref (b + 5)]) rfl rfl rfl (fun _ hty => by cases hty; exact ⟨rfl, rfl⟩) (by first | exact Or.inl rfl | exact Or.inr ⟨rfl, rfl⟩) rfl ?_
  refine V_aload_n rfl rfl ?_
  refine V_getfield rfl rfl va_eq (by rfl) ?_
  refine V_iconst (v := (-1)) rfl (by decide) ?_
  rw [va_swap (by omega)]
  refine V_callSn rfl rfl (Or.inl rfl) m_Arr_fill_w m_Arr_fill_x rfl rfl (s_fill va_eq (by decide) _) (by decide) rfl (Nat.le_of_ble_eq_true rfl) ?_
  rw [bx_uu]
  refine V_return rfl rfl ?_
  exact ⟨rfl, blk5 (sc := z0) (ar := sA0)⟩
def sc8 (h : mH) : Nat → mH
  | 0 => h
  | i + 1 => scW (sc8 h i) (26 + 6 * i) z0 sA0 z0 zA
theorem sc8_nin {a i : Nat} (ha : a < 26) : a ∉ cellsOf (5, 26 + 6 * i) ∧ a ∉ cellsOf (1, 26 + 6 * i + 1) := by
  simp [cellsOf, arL]
  omega
theorem sc8_out {h : mH} {a : Nat} (ha : a < 26) : ∀ k, sc8 h k a = h a
  | 0 => rfl
  | i + 1 => by
    show blkW 5 (blkW 1 (sc8 h i) (26 + 6 * i + 1) z0 zA) (26 + 6 * i) z0 sA0 a = _
    rw [blkW_nin (sc8_nin ha).1, blkW_nin (sc8_nin ha).2]
    exact sc8_out ha i
theorem sc8_up {h : mH} {a : Nat} {c : mC} (ha : a < 26) : ∀ k, va_up (sc8 h k) a c = sc8 (va_up h a c) k
  | 0 => rfl
  | i + 1 => by
    show va_up (blkW 5 (blkW 1 (sc8 h i) (26 + 6 * i + 1) z0 zA) (26 + 6 * i) z0 sA0) a c = blkW 5 (blkW 1 (sc8 (va_up h a c) i) (26 + 6 * i + 1) z0 zA) (26 + 6 * i) z0 sA0
    rw [blkW_up (sc8_nin ha).1, blkW_up (sc8_nin ha).2, sc8_up ha i]
def r8 (i : Nat) : Nat → Option Nat := fun j => if j < i then some (26 + 6 * j) else none
theorem r8_s (i : Nat) : va_up (r8 i) i (some (26 + 6 * i)) = r8 (i + 1) := by
  funext j
  unfold r8 va_up
  by_cases e : j = i
  · subst e; simp
  · by_cases e2 : j < i
    · simp [e, e2, show j < i + 1 by omega]
    · simp [e, e2, show ¬ j < i + 1 by omega]
set_option maxRecDepth 20000 in
set_option maxHeartbeats 1000000 in
theorem e_past (k : Nat) : k ≤ 8 → V g 3 m_Past_init (Pn (sc8 (va_up (va_up h 24 (cO 2 [.int 0, .int 0, .ref 25])) 25 (cR 8 (r8 8))) 8)) 74 (u + 664) 25 [.ref 24, .int (nI (8 - k))] [] (sc8 (va_up (va_up h 24 (cO 2 [.int 0, .int 0, .ref 25])) 25 (cR 8 (r8 (8 - k)))) (8 - k)) (26 + 6 * (8 - k)) (u + 83 * (8 - k)) := by
  induction k with
  | zero =>
    intro hk
    show V g 3 m_Past_init _ _ _ _ [.ref 24, .int (nI 8)] _ (sc8 (va_up (va_up h 24 (cO 2 [.int 0, .int 0, .ref 25])) 25 (cR 8 (r8 8))) 8) 74 (u + 664)
    refine V_iload_n rfl rfl ?_
    refine V_bipush (v := 8) rfl (by decide) ?_
    refine V_icmp_geT rfl (by decide) ?_
    refine V_return rfl rfl ?_
    exact ⟨rfl, rfl⟩
  | succ k ih =>
    intro hk
    obtain ⟨i, hi⟩ : ∃ i, i = 8 - (k + 1) := ⟨_, rfl⟩
    rw [show 8 - k = i + 1 by omega] at ih
    rw [← hi]
    have h24 : sc8 (va_up (va_up h 24 (cO 2 [.int 0, .int 0, .ref 25])) 25 (cR 8 (r8 i))) i 24 = cO 2 [.int 0, .int 0, .ref 25] := by rw [sc8_out (by decide), va_ne (by decide), va_eq]
    refine V_iload_n rfl rfl ?_
    refine V_bipush (v := 8) rfl (by decide) ?_
    refine V_icmp_geF rfl (nI_ge (b := 8) (show i < 8 by omega) (by decide)) ?_
    refine V_aload_n rfl rfl ?_
    refine V_getfield rfl rfl (by first | assumption | exact blkW_0 | exact bAt_0 (by assumption) | exact bAt_0 (hA _ _) | rfl) (by rfl) ?_
    refine V_iload_n rfl rfl ?_
    refine V_new rfl rfl rfl rfl rfl ?_
    refine V_dup rfl rfl ?_
    refine V_callIn rfl rfl (Or.inl rfl) m_Scen_init_w m_Scen_init_x rfl rfl rfl rfl (i_5) (by decide) rfl (Nat.le_of_ble_eq_true rfl) ?_
    show V g 3 m_Past_init _ _ _ 43 _ _ (sc8 (va_up (va_up h 24 (cO 2 [.int 0, .int 0, .ref 25])) 25 (cR 8 (r8 i))) (i + 1)) (26 + 6 * i + 6) (u + 83 * i + 6 + 77)
    refine V_aastore (N := 8) (j := i) (f := r8 i) rfl (by rw [sc8_out (by decide), va_eq]) (blkW_0 (ci := 5)) rfl (by omega) (by decide) ?_
    rw [sc8_up (by decide), bx_uu, r8_s]
    refine V_inc1 rfl (by first | exact mInc _ | rfl) (by first | rfl | assumption) ?_
    refine V_goto rfl ?_
    have := ih (by omega)
    rw [show 26 + 6 * i + 6 = 26 + 6 * (i + 1) by omega, show u + 83 * i + 6 + 77 = u + 83 * (i + 1) by omega]
    exact this
theorem i_2 : Mt g 3 m_Past_init [.ref 24] (va_up h 24 (cO 2 [.int 0, .int 0, .null])) 25 u (Pn (sc8 (va_up (va_up h 24 (cO 2 [.int 0, .int 0, .ref 25])) 25 (cR 8 (r8 8))) 8)) 74 (u + 8 + 664) := by
  refine Mt.of m_Past_init_w m_Past_init_x m_Past_init_c rfl rfl (ls := [.ref 24, .retAddr 0]) rfl ?_
  refine V_aload_n rfl rfl ?_
  refine V_objInit rfl rfl (by decide) (Nat.le_of_ble_eq_true rfl) ?_
  refine V_aload_n rfl rfl ?_
  refine V_iconst (v := 0) rfl (by decide) ?_
  refine V_eput (fs2 := [.int 0, .int 0, .null]) rfl rfl rfl (fun _ hty => by cases hty; exact ⟨rfl, rfl⟩) (by first | exact Or.inl rfl | exact Or.inr ⟨rfl, rfl⟩) rfl ?_
  refine V_aload_n rfl rfl ?_
  refine V_iconst (v := 0) rfl (by decide) ?_
  refine V_eput (fs2 := [.int 0, .int 0, .null]) rfl rfl rfl (fun _ hty => by cases hty; exact ⟨rfl, rfl⟩) (by first | exact Or.inl rfl | exact Or.inr ⟨rfl, rfl⟩) rfl ?_
  refine V_aload_n rfl rfl ?_
  refine V_bipush (v := 8) rfl (by decide) ?_
  refine V_anew (N := 8) rfl rfl rfl (by decide) ?_
  show V g 3 m_Past_init _ _ _ 20 _ [.ref 25, .ref 24] (va_up (va_up h 24 (cO 2 [.int 0, .int 0, .null])) 25 (cR 8 fun _ => none)) 26 _
  rw [show va_up (va_up h 24 (cO 2 [.int 0, .int 0, .null])) 25 (cR 8 fun _ => none) = va_up (va_up h 25 (cR 8 fun _ => none)) 24 (cO 2 [.int 0, .int 0, .null]) from va_swap (by decide)]
  refine V_eput (fs2 := [.int 0, .int 0, .ref 25]) rfl rfl rfl (fun _ hty => by cases hty; exact ⟨rfl, rfl⟩) (by first | exact Or.inl rfl | exact Or.inr ⟨rfl, rfl⟩) rfl ?_
  rw [show va_up (va_up h 25 (cR 8 fun _ => none)) 24 (cO 2 [.int 0, .int 0, .ref 25]) = va_up (va_up h 24 (cO 2 [.int 0, .int 0, .ref 25])) 25 (cR 8 fun _ => none) from va_swap (by decide)]
  refine V_iconst (v := 0) rfl (by decide) ?_
  refine V_is1 rfl (by first | rfl | assumption) ?_
  have := e_past (g := g) (h := h) (u := u + 8) 8 (by omega)
  have e0 : r8 (8 - 8) = fun _ => none := by
    funext j
    unfold r8
    rw [if_neg (by omega)]
  rw [e0] at this
  exact this
end ctor2
