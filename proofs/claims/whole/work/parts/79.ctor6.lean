/-! ===== the class made anew ===== -/
def S0 : Nat → Nat → Int32 := fun a => if a = 2 then upd (upd z0 2 (-1)) 5 (-1) else if a = 74 then upd z0 3 (b2 false) else if a = 77 then upd z0 3 (b2 true) else if a = 108 then upd z0 18 (-1) else z0
def plA0 : Nat → Nat → Int32 := va_up (va_up zA 16 (fa_fill (fun _ => -1) z0 72)) 17 (fa_fill (fun _ => -1) z0 72)
def A0 : Nat → Nat → Nat → Int32 := fun a => if a = 80 ∨ a = 94 then plA0 else if a = 4 ∨ a = 11 ∨ a = 17 ∨ (26 ≤ a ∧ a ≤ 68 ∧ a % 6 = 2) then sA0 else zA
def eH (Y : mH) (c : mC) (L : List (Nat × Nat)) : mH := wldL (va_up Y 1 c) S0 A0 L
def oL (L : List (Nat × Nat)) (a : Nat) : Bool := L.all fun q => !(cellsOf q).contains a
theorem oL_ok {L : List (Nat × Nat)} {a : Nat} (h : oL L a = true) : ∀ q, q ∈ L → a ∉ cellsOf q := fun q hq h2 => by
  have := List.all_eq_true.mp h q hq
  rw [Bool.not_eq_true', List.contains_eq_mem, decide_eq_false_iff_not] at this
  exact this h2
theorem eH_new {Y : mH} {c x : mC} {L : List (Nat × Nat)} {a : Nat} (h : oL L a = true) (e : a ≠ 1) : va_up (eH Y c L) a x = eH (va_up Y a x) c L := by
  unfold eH
  rw [wl_base (oL_ok h), va_swap (Ne.symm e)]
theorem eH_put {Y : mH} {c x : mC} {L : List (Nat × Nat)} (h : oL L 1 = true) : va_up (eH Y c L) 1 x = eH Y x L := by
  unfold eH
  rw [wl_base (oL_ok h), bx_uu]
theorem eH_1 {Y : mH} {c : mC} {L : List (Nat × Nat)} (h : oL L 1 = true) : eH Y c L 1 = c := by
  unfold eH
  rw [wl_out (oL_ok h), va_eq]
theorem eH_o {Y : mH} {c : mC} {L : List (Nat × Nat)} {a : Nat} (h : oL L a = true) (e : a ≠ 1) : eH Y c L a = Y a := by
  unfold eH
  rw [wl_out (oL_ok h), va_ne e]
theorem eH_b {Y : mH} {c : mC} {L : List (Nat × Nat)} {ci b : Nat} : eH Y c ((ci, b) :: L) b = cO ci (obF ci b (S0 b)) := blkW_0 (h := eH Y c L)
theorem V_gput {g : mG} {d : Nat} {M : mM} {P : Option Value → mH → Prop} {sz' u' pc n t : Nat} {ls st : List Value} {Y : mH} {sz u : Nat} {L : List (Nat × Nat)} {fs fs2 : List Value} {i k w : Nat} {v : Value} (hf : mF M pc = some (.putfield i, 3, n, t)) (hl : mFld M.1 i = some (6, k, w)) (hk2 : Nat.blt k fs.length = true) (hn : ∀ ty, mTy 6 k = ty → narrow ty (mRl g v) = mRl g v ∧ fits ty (mRl g v) = true)
    (hfin : ((vwCl[6]?.map fun r => (r.2.1 k).2.2.2) = some false) ∨ ((vwCl[6]?.map fun r => ((r.2.1 k).2.2.2, (r.2.1 k).1)) = some (true, mRn M.1) ∧ (mMy M).name = "<init>")) (h2 : fs.set k v = fs2) (ho : oL L 1 = true)
    (kk : V g d M P sz' u' n ls st (eH Y (cO 6 fs2) L) sz u) : V g d M P sz' u' pc ls (v :: .ref 1 :: st) (eH Y (cO 6 fs) L) sz u :=
  V_put hf hl (eH_1 ho) (Nat.le_of_ble_eq_true hk2) hn hfin h2 (by rw [eH_put ho]; exact kk)
def hB0 : mH := fun _ => mBad
def yH : mH := va_up (va_up (va_up (va_up hB0 10 (cR 2 (va_up (va_up (fun _ => none) 0 (some 11)) 1 (some 17)))) 23 (cB 2 fun _ => 0)) 24 (cO 2 [.int 0, .int 0, .ref 25])) 25 (cR 8 (r8 8))
theorem yH_wB : va_up yH 1 (cO 6 [.ref 2, .ref 4, .ref 10, .ref 23, .ref 24, .ref 74, .ref 77, .ref 80, .ref 94, .int (-1)]) = wB 80 94 (-1) 0 0 z0 := by
  funext a
  unfold yH wB
  by_cases e1 : a = 1
  · subst e1; rw [va_eq, if_pos rfl]
  rw [va_ne e1, if_neg e1]
  by_cases e2 : a = 25
  · subst e2; rw [va_eq]; rfl
  rw [va_ne e2]
  by_cases e3 : a = 24
  · subst e3; rw [va_eq]; rfl
  rw [va_ne e3]
  by_cases e4 : a = 23
  · subst e4; rw [va_eq]; rfl
  rw [va_ne e4]
  by_cases e5 : a = 10
  · subst e5; rw [va_eq]; rfl
  rw [va_ne e5, if_neg e5, if_neg e4, if_neg e3, if_neg e2]
  rfl
section ctor6
variable {g : mG} {u : Nat}
theorem i_6 : Mt g 4 m_EB_init [.ref 1] (va_up hB0 1 (cO 6 [.null, .null, .null, .null, .null, .null, .null, .null, .null, .int 0])) 2 u (Pn (wldL (wB 80 94 (-1) 0 0 z0) S0 A0 wL.tail)) 108 (u + 2014) := by
  refine Mt.of m_EB_init_w m_EB_init_x m_EB_init_c rfl rfl (ls := [.ref 1, .retAddr 0]) rfl ?_
  refine V_aload_n rfl rfl ?_
  refine V_objInit rfl rfl (by decide) (Nat.le_of_ble_eq_true rfl) ?_
  refine V_aload_n rfl rfl ?_
  refine V_new rfl rfl rfl rfl rfl ?_
  refine V_dup rfl rfl ?_
  refine V_callIn rfl rfl (Or.inr rfl) m_Read_init_w m_Read_init_x rfl rfl rfl rfl (i_4 (b := 2)) (by decide) rfl (Nat.le_of_ble_eq_true rfl) ?_
  show V g 4 m_EB_init _ _ _ 12 _ [.ref 2, .ref 1] (eH hB0 (cO 6 [.null, .null, .null, .null, .null, .null, .null, .null, .null, .int 0]) [(4, 2)]) 4 _
  refine V_gput (fs2 := [.ref 2, .null, .null, .null, .null, .null, .null, .null, .null, .int 0]) rfl rfl rfl (fun _ hty => by cases hty; exact ⟨rfl, rfl⟩) (by first | exact Or.inl rfl | exact Or.inr ⟨rfl, rfl⟩) rfl (by decide +kernel) ?_
  refine V_aload_n rfl rfl ?_
  refine V_new rfl rfl rfl rfl rfl ?_
  refine V_dup rfl rfl ?_
  refine V_callIn rfl rfl (Or.inl rfl) m_Scen_init_w m_Scen_init_x rfl rfl rfl rfl (i_5 (b := 4)) (by decide) rfl (Nat.le_of_ble_eq_true rfl) ?_
  show V g 4 m_EB_init _ _ _ 23 _ [.ref 4, .ref 1] (eH hB0 (cO 6 [.ref 2, .null, .null, .null, .null, .null, .null, .null, .null, .int 0]) [(5, 4), (1, 5), (4, 2)]) 10 _
  refine V_gput (fs2 := [.ref 2, .ref 4, .null, .null, .null, .null, .null, .null, .null, .int 0]) rfl rfl rfl (fun _ hty => by cases hty; exact ⟨rfl, rfl⟩) (by first | exact Or.inl rfl | exact Or.inr ⟨rfl, rfl⟩) rfl (by decide +kernel) ?_
  refine V_aload_n rfl rfl ?_
  refine V_iconst (v := 2) rfl (by decide) ?_
  refine V_anew (N := 2) rfl rfl rfl (by decide) ?_
  rw [show va_up (eH hB0 (cO 6 [.ref 2, .ref 4, .null, .null, .null, .null, .null, .null, .null, .int 0]) [(5, 4), (1, 5), (4, 2)]) 10 (cR 2 fun _ => none) = eH (va_up hB0 10 (cR 2 fun _ => none)) (cO 6 [.ref 2, .ref 4, .null, .null, .null, .null, .null, .null, .null, .int 0]) [(5, 4), (1, 5), (4, 2)] from eH_new (by decide +kernel) (by decide)]
  refine V_gput (fs2 := [.ref 2, .ref 4, .ref 10, .null, .null, .null, .null, .null, .null, .int 0]) rfl rfl rfl (fun _ hty => by cases hty; exact ⟨rfl, rfl⟩) (by first | exact Or.inl rfl | exact Or.inr ⟨rfl, rfl⟩) rfl (by decide +kernel) ?_
  refine V_iconst (v := 0) rfl (by decide) ?_
  refine V_is1 rfl (by first | rfl | assumption) ?_
  refine V_iload_n rfl rfl ?_
  refine V_iconst (v := 2) rfl (by decide) ?_
  refine V_icmp_geF rfl (by decide) ?_
  refine V_aload_n rfl rfl ?_
  refine V_getfield rfl rfl (eH_1 (by decide +kernel)) (by rfl) ?_
  refine V_iload_n rfl rfl ?_
  refine V_new rfl rfl rfl rfl rfl ?_
  refine V_dup rfl rfl ?_
  refine V_callIn rfl rfl (Or.inl rfl) m_Scen_init_w m_Scen_init_x rfl rfl rfl rfl (i_5 (b := 11)) (by decide) rfl (Nat.le_of_ble_eq_true rfl) ?_
  show V g 4 m_EB_init _ _ _ 53 _ [.ref 11, .int 0, .ref 10] (eH (va_up hB0 10 (cR 2 fun _ => none)) (cO 6 [.ref 2, .ref 4, .ref 10, .null, .null, .null, .null, .null, .null, .int 0]) [(5, 11), (1, 12), (5, 4), (1, 5), (4, 2)]) 17 _
  refine V_aastore (N := 2) (j := 0) (f := fun _ => none) rfl (by rw [eH_o (by decide +kernel) (by decide), va_eq]) eH_b rfl (by omega) (by decide) ?_
  rw [eH_new (by decide +kernel) (by decide), bx_uu]
  refine V_inc1 rfl (by first | exact mInc _ | rfl) (by first | rfl | assumption) ?_
  refine V_goto rfl ?_
  refine V_iload_n rfl rfl ?_
  refine V_iconst (v := 2) rfl (by decide) ?_
  refine V_icmp_geF rfl (by decide) ?_
  refine V_aload_n rfl rfl ?_
  refine V_getfield rfl rfl (eH_1 (by decide +kernel)) (by rfl) ?_
  refine V_iload_n rfl rfl ?_
  refine V_new rfl rfl rfl rfl rfl ?_
  refine V_dup rfl rfl ?_
  refine V_callIn rfl rfl (Or.inl rfl) m_Scen_init_w m_Scen_init_x rfl rfl rfl rfl (i_5 (b := 17)) (by decide) rfl (Nat.le_of_ble_eq_true rfl) ?_
  show V g 4 m_EB_init _ _ _ 53 _ [.ref 17, .int 1, .ref 10] (eH (va_up hB0 10 (cR 2 (va_up (fun _ => none) 0 (some 11)))) (cO 6 [.ref 2, .ref 4, .ref 10, .null, .null, .null, .null, .null, .null, .int 0]) [(5, 17), (1, 18), (5, 11), (1, 12), (5, 4), (1, 5), (4, 2)]) 23 _
  refine V_aastore (N := 2) (j := 1) (f := va_up (fun _ => none) 0 (some 11)) rfl (by rw [eH_o (by decide +kernel) (by decide), va_eq]) eH_b rfl (by omega) (by decide) ?_
  rw [eH_new (by decide +kernel) (by decide), bx_uu]
  refine V_inc1 rfl (by first | exact mInc _ | rfl) (by first | rfl | assumption) ?_
  refine V_goto rfl ?_
  refine V_iload_n rfl rfl ?_
  refine V_iconst (v := 2) rfl (by decide) ?_
  refine V_icmp_geT rfl (by decide) ?_
  refine V_aload_n rfl rfl ?_
  refine V_iconst (v := 2) rfl (by decide) ?_
  refine V_newarr (N := 2) (tk := 1) (w := 6) rfl rfl (Or.inr ⟨rfl, rfl, rfl⟩) rfl (by decide) ?_
  rw [eH_new (by decide +kernel) (by decide)]
  refine V_gput (fs2 := [.ref 2, .ref 4, .ref 10, .ref 23, .null, .null, .null, .null, .null, .int 0]) rfl rfl rfl (fun _ hty => by cases hty; exact ⟨rfl, rfl⟩) (by first | exact Or.inl rfl | exact Or.inr ⟨rfl, rfl⟩) rfl (by decide +kernel) ?_
  refine V_aload_n rfl rfl ?_
  refine V_new rfl rfl rfl rfl rfl ?_
  refine V_dup rfl rfl ?_
  refine V_callIn rfl rfl (Or.inl rfl) m_Past_init_w m_Past_init_x rfl rfl rfl rfl (i_2) (by decide) rfl (Nat.le_of_ble_eq_true rfl) ?_
  rw [eH_new (by decide +kernel) (by decide), eH_new (by decide +kernel) (by decide)]
  show V g 4 m_EB_init _ _ _ 75 _ [.ref 24, .ref 1] (eH yH (cO 6 [.ref 2, .ref 4, .ref 10, .ref 23, .null, .null, .null, .null, .null, .int 0]) (wL.drop 5)) 74 _
  refine V_gput (fs2 := [.ref 2, .ref 4, .ref 10, .ref 23, .ref 24, .null, .null, .null, .null, .int 0]) rfl rfl rfl (fun _ hty => by cases hty; exact ⟨rfl, rfl⟩) (by first | exact Or.inl rfl | exact Or.inr ⟨rfl, rfl⟩) rfl (by decide +kernel) ?_
  refine V_aload_n rfl rfl ?_
  refine V_new rfl rfl rfl rfl rfl ?_
  refine V_dup rfl rfl ?_
  refine V_iconst (v := 0) rfl (by decide) ?_
  refine V_callIn rfl rfl (Or.inl rfl) m_Flow_init_w m_Flow_init_x rfl rfl rfl rfl (i_0 (b := 74) false) (by decide) rfl (Nat.le_of_ble_eq_true rfl) ?_
  show V g 4 m_EB_init _ _ _ 87 _ [.ref 74, .ref 1] (eH yH (cO 6 [.ref 2, .ref 4, .ref 10, .ref 23, .ref 24, .null, .null, .null, .null, .int 0]) (wL.drop 4)) 77 _
  refine V_gput (fs2 := [.ref 2, .ref 4, .ref 10, .ref 23, .ref 24, .ref 74, .null, .null, .null, .int 0]) rfl rfl rfl (fun _ hty => by cases hty; exact ⟨rfl, rfl⟩) (by first | exact Or.inl rfl | exact Or.inr ⟨rfl, rfl⟩) rfl (by decide +kernel) ?_
  refine V_aload_n rfl rfl ?_
  refine V_new rfl rfl rfl rfl rfl ?_
  refine V_dup rfl rfl ?_
  refine V_iconst (v := 1) rfl (by decide) ?_
  refine V_callIn rfl rfl (Or.inl rfl) m_Flow_init_w m_Flow_init_x rfl rfl rfl rfl (i_0 (b := 77) true) (by decide) rfl (Nat.le_of_ble_eq_true rfl) ?_
  show V g 4 m_EB_init _ _ _ 99 _ [.ref 77, .ref 1] (eH yH (cO 6 [.ref 2, .ref 4, .ref 10, .ref 23, .ref 24, .ref 74, .null, .null, .null, .int 0]) (wL.drop 3)) 80 _
  refine V_gput (fs2 := [.ref 2, .ref 4, .ref 10, .ref 23, .ref 24, .ref 74, .ref 77, .null, .null, .int 0]) rfl rfl rfl (fun _ hty => by cases hty; exact ⟨rfl, rfl⟩) (by first | exact Or.inl rfl | exact Or.inr ⟨rfl, rfl⟩) rfl (by decide +kernel) ?_
  refine V_aload_n rfl rfl ?_
  refine V_new rfl rfl rfl rfl rfl ?_
  refine V_dup rfl rfl ?_
  refine V_callIn rfl rfl (Or.inl rfl) m_Plan_init_w m_Plan_init_x rfl rfl rfl rfl (i_3 (b := 80)) (by decide) rfl (Nat.le_of_ble_eq_true rfl) ?_
  show V g 4 m_EB_init _ _ _ 110 _ [.ref 80, .ref 1] (eH yH (cO 6 [.ref 2, .ref 4, .ref 10, .ref 23, .ref 24, .ref 74, .ref 77, .null, .null, .int 0]) (wL.drop 2)) 94 _
  refine V_gput (fs2 := [.ref 2, .ref 4, .ref 10, .ref 23, .ref 24, .ref 74, .ref 77, .ref 80, .null, .int 0]) rfl rfl rfl (fun _ hty => by cases hty; exact ⟨rfl, rfl⟩) (by first | exact Or.inl rfl | exact Or.inr ⟨rfl, rfl⟩) rfl (by decide +kernel) ?_
  refine V_aload_n rfl rfl ?_
  refine V_new rfl rfl rfl rfl rfl ?_
  refine V_dup rfl rfl ?_
  refine V_callIn rfl rfl (Or.inl rfl) m_Plan_init_w m_Plan_init_x rfl rfl rfl rfl (i_3 (b := 94)) (by decide) rfl (Nat.le_of_ble_eq_true rfl) ?_
  show V g 4 m_EB_init _ _ _ 121 _ [.ref 94, .ref 1] (eH yH (cO 6 [.ref 2, .ref 4, .ref 10, .ref 23, .ref 24, .ref 74, .ref 77, .ref 80, .null, .int 0]) wL.tail) 108 _
  refine V_gput (fs2 := [.ref 2, .ref 4, .ref 10, .ref 23, .ref 24, .ref 74, .ref 77, .ref 80, .ref 94, .int 0]) rfl rfl rfl (fun _ hty => by cases hty; exact ⟨rfl, rfl⟩) (by first | exact Or.inl rfl | exact Or.inr ⟨rfl, rfl⟩) rfl (by decide +kernel) ?_
  refine V_aload_n rfl rfl ?_
  refine V_iconst (v := (-1)) rfl (by decide) ?_
  refine V_gput (fs2 := [.ref 2, .ref 4, .ref 10, .ref 23, .ref 24, .ref 74, .ref 77, .ref 80, .ref 94, .int (-1)]) rfl rfl rfl (fun _ hty => by cases hty; exact ⟨rfl, rfl⟩) (by first | exact Or.inl rfl | exact Or.inr ⟨rfl, rfl⟩) rfl (by decide +kernel) ?_
  refine V_return rfl rfl ?_
  refine ⟨rfl, ?_⟩
  unfold eH
  rw [yH_wB]
end ctor6
