/-! ===== constructors ===== -/
/-- an object under construction, with its rows so far -/
def pbl (ci : Nat) (h : mH) (b : Nat) (fs : List Value) (L : List mC) : mH := fun a => if a = b then cO ci fs else if b < a then (L[a - b - 1]?).getD (h a) else h a
section pb
variable {ci : Nat} {h : mH} {b : Nat} {fs fs2 : List Value} {L : List mC} {c : mC}
theorem pb_0 : pbl ci h b fs L b = cO ci fs := if_pos rfl
theorem pb_i : va_up h b (cO ci fs) = pbl ci h b fs [] := by
  funext a
  unfold pbl va_up
  by_cases e : a = b
  · simp [e]
  · simp [e]
theorem pb_put : va_up (pbl ci h b fs L) b (cO ci fs2) = pbl ci h b fs2 L := by
  funext a
  unfold pbl va_up
  by_cases e : a = b
  · simp [e]
  · simp [e]
theorem pb_new {a : Nat} (ha : a = b + 1 + L.length) : va_up (pbl ci h b fs L) a c = pbl ci h b fs (L ++ [c]) := by
  funext x
  unfold pbl va_up
  by_cases e : x = b
  · have : ¬ b = a := by omega
    simp [e, this]
  · by_cases e2 : x = a
    · have h1 : b < a := by omega
      have h2 : a - b - 1 = L.length := by omega
      have h3 : ¬ a = b := by omega
      simp [e2, h1, h2, h3]
    · by_cases e3 : b < x
      · have h1 : (L ++ [c])[x - b - 1]? = L[x - b - 1]? := by
          by_cases l : x - b - 1 < L.length
          · rw [List.getElem?_append_left l]
          · rw [List.getElem?_eq_none (by simp; omega), List.getElem?_eq_none (by omega)]
        simp [e, e2, e3, h1]
      · simp [e, e2, e3]
theorem pb_fin {sc : Nat → Int32} {ar : Nat → Nat → Int32} (h1 : obF ci b sc = fs) (h2 : ∀ o, arC ci (o + 1) ar = L[o]?) : pbl ci h b fs L = blkW ci h b sc ar := by
  funext a
  unfold pbl blkW
  by_cases e : a = b
  · rw [if_pos e, if_pos e, h1]
  · rw [if_neg e, if_neg e]
    by_cases e2 : b < a
    · have := h2 (a - b - 1)
      rw [show a - b - 1 + 1 = a - b by omega] at this
      rw [if_pos e2, if_pos (by omega), this]
    · rw [if_neg e2, if_neg (by omega)]
end pb
section pbV
variable {g : mG} {d : Nat} {M : mM} {P : Option Value → mH → Prop} {sz' u' pc n t : Nat} {ls st : List Value} {h : mH} {sz u : Nat} {ci b : Nat} {fs : List Value} {L : List mC}
theorem V_cput {i k w : Nat} {v : Value} (hf : mF M pc = some (.putfield i, 3, n, t)) (hl : mFld M.1 i = some (ci, k, w)) (hk2 : Nat.blt k fs.length = true) (hn : ∀ ty, mTy ci k = ty → narrow ty (mRl g v) = mRl g v ∧ fits ty (mRl g v) = true)
    (hfin : ((vwCl[ci]?.map fun r => (r.2.1 k).2.2.2) = some false) ∨ ((vwCl[ci]?.map fun r => ((r.2.1 k).2.2.2, (r.2.1 k).1)) = some (true, mRn M.1) ∧ (mMy M).name = "<init>"))
    (kk : V g d M P sz' u' n ls st (pbl ci h b (fs.set k v) L) sz u) : V g d M P sz' u' pc ls (v :: .ref b :: st) (pbl ci h b fs L) sz u :=
  V_put hf hl pb_0 (Nat.le_of_ble_eq_true hk2) hn hfin rfl (by rw [pb_put]; exact kk)
theorem V_cnew {at0 : ArrayType} {N tk w : Nat} {i : Int32} {ty : FieldType} (hf : mF M pc = some (.newarray at0, 2, n, t)) (hty : newarray.typeOf at0 = ty) (hk : ty = .int ∧ tk = 0 ∧ w = 5 ∨ ty = .boolean ∧ tk = 1 ∧ w = 6) (hi : i = nI N) (hN : N ≤ 100000) (hs : sz = b + 1 + L.length)
    (kk : V g d M P sz' u' n ls (.ref sz :: st) (pbl ci h b fs (L ++ [.inl (tk, N, fun _ => 0)])) (sz + 1) (u + N)) : V g d M P sz' u' pc ls (.int i :: st) (pbl ci h b fs L) sz u :=
  V_newarr hf hty hk hi hN (by rw [pb_new hs]; exact kk)
end pbV
def z0 : Nat → Int32 := fun _ => 0
def zA : Nat → Nat → Int32 := fun _ _ => 0
section ctor
variable {g : mG} {h : mH} {sz u b : Nat}
theorem i_1 : Mt g 1 m_Jour_init [.ref b] (va_up h b (cO 1 [.int 0, .int 0, .null, .null, .null])) (b + 1) u (Pn (blkW 1 h b z0 zA)) (b + 1 + 3) (u + 48) := by
  rw [pb_i]
  refine Mt.of m_Jour_init_w m_Jour_init_x m_Jour_init_c rfl rfl (ls := [.ref b]) rfl ?_
  refine V_aload_n rfl rfl ?_
  refine V_objInit rfl rfl (by decide) (Nat.le_of_ble_eq_true rfl) ?_
  refine V_aload_n rfl rfl ?_
  refine V_iconst (v := 0) rfl (by decide) ?_
  refine V_cput rfl rfl rfl (fun _ hty => by cases hty; exact ⟨rfl, rfl⟩) (by first | exact Or.inl rfl | exact Or.inr ⟨rfl, rfl⟩) ?_
  refine V_aload_n rfl rfl ?_
  refine V_iconst (v := 0) rfl (by decide) ?_
  refine V_cput rfl rfl rfl (fun _ hty => by cases hty; exact ⟨rfl, rfl⟩) (by first | exact Or.inl rfl | exact Or.inr ⟨rfl, rfl⟩) ?_
  refine V_aload_n rfl rfl ?_
  refine V_bipush (v := 16) rfl (by decide) ?_
  refine V_cnew (N := 16) rfl rfl (by first | exact Or.inl ⟨rfl, rfl, rfl⟩ | exact Or.inr ⟨rfl, rfl, rfl⟩) rfl (by decide) rfl ?_
  refine V_cput rfl rfl rfl (fun _ hty => by cases hty; exact ⟨rfl, rfl⟩) (by first | exact Or.inl rfl | exact Or.inr ⟨rfl, rfl⟩) ?_
  refine V_aload_n rfl rfl ?_
  refine V_bipush (v := 16) rfl (by decide) ?_
  refine V_cnew (N := 16) rfl rfl (by first | exact Or.inl ⟨rfl, rfl, rfl⟩ | exact Or.inr ⟨rfl, rfl, rfl⟩) rfl (by decide) rfl ?_
  refine V_cput rfl rfl rfl (fun _ hty => by cases hty; exact ⟨rfl, rfl⟩) (by first | exact Or.inl rfl | exact Or.inr ⟨rfl, rfl⟩) ?_
  refine V_aload_n rfl rfl ?_
  refine V_bipush (v := 16) rfl (by decide) ?_
  refine V_cnew (N := 16) rfl rfl (by first | exact Or.inl ⟨rfl, rfl, rfl⟩ | exact Or.inr ⟨rfl, rfl, rfl⟩) rfl (by decide) rfl ?_
  refine V_cput rfl rfl rfl (fun _ hty => by cases hty; exact ⟨rfl, rfl⟩) (by first | exact Or.inl rfl | exact Or.inr ⟨rfl, rfl⟩) ?_
  rw [pb_fin (sc := z0) (ar := zA) ?_ ?_]
  rotate_left
  · rfl
  · intro o
    match o with
    | 0 => rfl
    | 1 => rfl
    | 2 => rfl
    | o + 3 => rfl
  refine V_return rfl rfl ?_
  exact ⟨rfl, rfl⟩
theorem i_0 (al : Bool) : Mt g 1 m_Flow_init [.ref b, .int (b2 al)] (va_up h b (cO 0 [.int 0, .int 0, .null, .int 0, .null, .int 0, .int 0, .int 0])) (b + 1) u (Pn (blkW 0 h b (upd z0 3 (b2 al)) zA)) (b + 1 + 2) (u + 40) := by
  rw [pb_i]
  refine Mt.of m_Flow_init_w m_Flow_init_x m_Flow_init_c rfl rfl (ls := [.ref b, .int (b2 al)]) rfl ?_
  refine V_aload_n rfl rfl ?_
  refine V_objInit rfl rfl (by decide) (Nat.le_of_ble_eq_true rfl) ?_
  refine V_aload_n rfl rfl ?_
  refine V_iconst (v := 0) rfl (by decide) ?_
  refine V_cput rfl rfl rfl (fun _ hty => by cases hty; exact ⟨rfl, rfl⟩) (by first | exact Or.inl rfl | exact Or.inr ⟨rfl, rfl⟩) ?_
  refine V_aload_n rfl rfl ?_
  refine V_iconst (v := 0) rfl (by decide) ?_
  refine V_cput rfl rfl rfl (fun _ hty => by cases hty; exact ⟨rfl, rfl⟩) (by first | exact Or.inl rfl | exact Or.inr ⟨rfl, rfl⟩) ?_
  refine V_aload_n rfl rfl ?_
  refine V_bipush (v := 20) rfl (by decide) ?_
  refine V_cnew (N := 20) rfl rfl (by first | exact Or.inl ⟨rfl, rfl, rfl⟩ | exact Or.inr ⟨rfl, rfl, rfl⟩) rfl (by decide) rfl ?_
  refine V_cput rfl rfl rfl (fun _ hty => by cases hty; exact ⟨rfl, rfl⟩) (by first | exact Or.inl rfl | exact Or.inr ⟨rfl, rfl⟩) ?_
  refine V_aload_n rfl rfl ?_
  refine V_bipush (v := 20) rfl (by decide) ?_
  refine V_cnew (N := 20) rfl rfl (by first | exact Or.inl ⟨rfl, rfl, rfl⟩ | exact Or.inr ⟨rfl, rfl, rfl⟩) rfl (by decide) rfl ?_
  refine V_cput rfl rfl rfl (fun _ hty => by cases hty; exact ⟨rfl, rfl⟩) (by first | exact Or.inl rfl | exact Or.inr ⟨rfl, rfl⟩) ?_
  refine V_aload_n rfl rfl ?_
  refine V_iconst (v := 0) rfl (by decide) ?_
  refine V_cput rfl rfl rfl (fun _ hty => by cases hty; exact ⟨rfl, rfl⟩) (by first | exact Or.inl rfl | exact Or.inr ⟨rfl, rfl⟩) ?_
  refine V_aload_n rfl rfl ?_
  refine V_iconst (v := 0) rfl (by decide) ?_
  refine V_cput rfl rfl rfl (fun _ hty => by cases hty; exact ⟨rfl, rfl⟩) (by first | exact Or.inl rfl | exact Or.inr ⟨rfl, rfl⟩) ?_
  refine V_aload_n rfl rfl ?_
  refine V_iconst (v := 0) rfl (by decide) ?_
  refine V_cput rfl rfl rfl (fun _ hty => by cases hty; exact ⟨rfl, rfl⟩) (by first | exact Or.inl rfl | exact Or.inr ⟨rfl, rfl⟩) ?_
  refine V_aload_n rfl rfl ?_
  refine V_iload_n rfl rfl ?_
  refine V_cput rfl rfl rfl (fun _ hty => by cases hty; cases al <;> exact ⟨rfl, rfl⟩) (by first | exact Or.inl rfl | exact Or.inr ⟨rfl, rfl⟩) ?_
  rw [pb_fin (sc := (upd z0 3 (b2 al))) (ar := zA) ?_ ?_]
  rotate_left
  · cases al <;> rfl
  · intro o
    match o with
    | 0 => rfl
    | 1 => rfl
    | o + 2 => rfl
  refine V_return rfl rfl ?_
  exact ⟨rfl, rfl⟩
theorem i_4 : Mt g 1 m_Read_init [.ref b] (va_up h b (cO 4 [.null, .int 0, .int 0, .int 0, .int 0, .int 0, .int 0, .int 0, .int 0, .int 0])) (b + 1) u (Pn (blkW 4 h b (upd (upd z0 2 (-1)) 5 (-1)) zA)) (b + 1 + 1) (u + 240) := by
  rw [pb_i]
  refine Mt.of m_Read_init_w m_Read_init_x m_Read_init_c rfl rfl (ls := [.ref b]) rfl ?_
  refine V_aload_n rfl rfl ?_
  refine V_objInit rfl rfl (by decide) (Nat.le_of_ble_eq_true rfl) ?_
  refine V_aload_n rfl rfl ?_
  refine V_sipush (v := 240) rfl (by decide) ?_
  refine V_cnew (N := 240) rfl rfl (by first | exact Or.inl ⟨rfl, rfl, rfl⟩ | exact Or.inr ⟨rfl, rfl, rfl⟩) rfl (by decide) rfl ?_
  refine V_cput rfl rfl rfl (fun _ hty => by cases hty; exact ⟨rfl, rfl⟩) (by first | exact Or.inl rfl | exact Or.inr ⟨rfl, rfl⟩) ?_
  refine V_aload_n rfl rfl ?_
  refine V_iconst (v := 0) rfl (by decide) ?_
  refine V_cput rfl rfl rfl (fun _ hty => by cases hty; exact ⟨rfl, rfl⟩) (by first | exact Or.inl rfl | exact Or.inr ⟨rfl, rfl⟩) ?_
  refine V_aload_n rfl rfl ?_
  refine V_iconst (v := (-1)) rfl (by decide) ?_
  refine V_cput rfl rfl rfl (fun _ hty => by cases hty; exact ⟨rfl, rfl⟩) (by first | exact Or.inl rfl | exact Or.inr ⟨rfl, rfl⟩) ?_
  refine V_aload_n rfl rfl ?_
  refine V_iconst (v := 0) rfl (by decide) ?_
  refine V_cput rfl rfl rfl (fun _ hty => by cases hty; exact ⟨rfl, rfl⟩) (by first | exact Or.inl rfl | exact Or.inr ⟨rfl, rfl⟩) ?_
  refine V_aload_n rfl rfl ?_
  refine V_iconst (v := 0) rfl (by decide) ?_
  refine V_cput rfl rfl rfl (fun _ hty => by cases hty; exact ⟨rfl, rfl⟩) (by first | exact Or.inl rfl | exact Or.inr ⟨rfl, rfl⟩) ?_
  refine V_aload_n rfl rfl ?_
  refine V_iconst (v := (-1)) rfl (by decide) ?_
  refine V_cput rfl rfl rfl (fun _ hty => by cases hty; exact ⟨rfl, rfl⟩) (by first | exact Or.inl rfl | exact Or.inr ⟨rfl, rfl⟩) ?_
  refine V_aload_n rfl rfl ?_
  refine V_iconst (v := 0) rfl (by decide) ?_
  refine V_cput rfl rfl rfl (fun _ hty => by cases hty; exact ⟨rfl, rfl⟩) (by first | exact Or.inl rfl | exact Or.inr ⟨rfl, rfl⟩) ?_
  refine V_aload_n rfl rfl ?_
  refine V_iconst (v := 0) rfl (by decide) ?_
  refine V_cput rfl rfl rfl (fun _ hty => by cases hty; exact ⟨rfl, rfl⟩) (by first | exact Or.inl rfl | exact Or.inr ⟨rfl, rfl⟩) ?_
  refine V_aload_n rfl rfl ?_
  refine V_iconst (v := 0) rfl (by decide) ?_
  refine V_cput rfl rfl rfl (fun _ hty => by cases hty; exact ⟨rfl, rfl⟩) (by first | exact Or.inl rfl | exact Or.inr ⟨rfl, rfl⟩) ?_
  refine V_aload_n rfl rfl ?_
  refine V_iconst (v := 0) rfl (by decide) ?_
  refine V_cput rfl rfl rfl (fun _ hty => by cases hty; exact ⟨rfl, rfl⟩) (by first | exact Or.inl rfl | exact Or.inr ⟨rfl, rfl⟩) ?_
  rw [pb_fin (sc := (upd (upd z0 2 (-1)) 5 (-1))) (ar := zA) ?_ ?_]
  rotate_left
  · rfl
  · intro o
    match o with
    | 0 => rfl
    | o + 1 => rfl
  refine V_return rfl rfl ?_
  exact ⟨rfl, rfl⟩
theorem i_3 : Mt g 1 m_Plan_init [.ref b] (va_up h b (cO 3 [.int 0, .int 0, .int 0, .int 0, .int 0, .null, .null, .null, .null, .null, .null, .null, .null, .null, .null, .null, .null, .null])) (b + 1) u (Pn (blkW 3 h b z0 (va_up (va_up zA 16 (fa_fill (fun _ => -1) z0 72)) 17 (fa_fill (fun _ => -1) z0 72)))) (b + 1 + 13) (u + 352) := by
  rw [pb_i]
  refine Mt.of m_Plan_init_w m_Plan_init_x m_Plan_init_c rfl rfl (ls := [.ref b]) rfl ?_
  refine V_aload_n rfl rfl ?_
  refine V_objInit rfl rfl (by decide) (Nat.le_of_ble_eq_true rfl) ?_
  refine V_aload_n rfl rfl ?_
  refine V_iconst (v := 0) rfl (by decide) ?_
  refine V_cput rfl rfl rfl (fun _ hty => by cases hty; exact ⟨rfl, rfl⟩) (by first | exact Or.inl rfl | exact Or.inr ⟨rfl, rfl⟩) ?_
  refine V_aload_n rfl rfl ?_
  refine V_iconst (v := 0) rfl (by decide) ?_
  refine V_cput rfl rfl rfl (fun _ hty => by cases hty; exact ⟨rfl, rfl⟩) (by first | exact Or.inl rfl | exact Or.inr ⟨rfl, rfl⟩) ?_
  refine V_aload_n rfl rfl ?_
  refine V_iconst (v := 0) rfl (by decide) ?_
  refine V_cput rfl rfl rfl (fun _ hty => by cases hty; exact ⟨rfl, rfl⟩) (by first | exact Or.inl rfl | exact Or.inr ⟨rfl, rfl⟩) ?_
  refine V_aload_n rfl rfl ?_
  refine V_iconst (v := 0) rfl (by decide) ?_
  refine V_cput rfl rfl rfl (fun _ hty => by cases hty; exact ⟨rfl, rfl⟩) (by first | exact Or.inl rfl | exact Or.inr ⟨rfl, rfl⟩) ?_
  refine V_aload_n rfl rfl ?_
  refine V_iconst (v := 0) rfl (by decide) ?_
  refine V_cput rfl rfl rfl (fun _ hty => by cases hty; exact ⟨rfl, rfl⟩) (by first | exact Or.inl rfl | exact Or.inr ⟨rfl, rfl⟩) ?_
  refine V_aload_n rfl rfl ?_
  refine V_bipush (v := 12) rfl (by decide) ?_
  refine V_cnew (N := 12) rfl rfl (by first | exact Or.inl ⟨rfl, rfl, rfl⟩ | exact Or.inr ⟨rfl, rfl, rfl⟩) rfl (by decide) rfl ?_
  refine V_cput rfl rfl rfl (fun _ hty => by cases hty; exact ⟨rfl, rfl⟩) (by first | exact Or.inl rfl | exact Or.inr ⟨rfl, rfl⟩) ?_
  refine V_aload_n rfl rfl ?_
  refine V_bipush (v := 12) rfl (by decide) ?_
  refine V_cnew (N := 12) rfl rfl (by first | exact Or.inl ⟨rfl, rfl, rfl⟩ | exact Or.inr ⟨rfl, rfl, rfl⟩) rfl (by decide) rfl ?_
  refine V_cput rfl rfl rfl (fun _ hty => by cases hty; exact ⟨rfl, rfl⟩) (by first | exact Or.inl rfl | exact Or.inr ⟨rfl, rfl⟩) ?_
  refine V_aload_n rfl rfl ?_
  refine V_bipush (v := 12) rfl (by decide) ?_
  refine V_cnew (N := 12) rfl rfl (by first | exact Or.inl ⟨rfl, rfl, rfl⟩ | exact Or.inr ⟨rfl, rfl, rfl⟩) rfl (by decide) rfl ?_
  refine V_cput rfl rfl rfl (fun _ hty => by cases hty; exact ⟨rfl, rfl⟩) (by first | exact Or.inl rfl | exact Or.inr ⟨rfl, rfl⟩) ?_
  refine V_aload_n rfl rfl ?_
  refine V_bipush (v := 12) rfl (by decide) ?_
  refine V_cnew (N := 12) rfl rfl (by first | exact Or.inl ⟨rfl, rfl, rfl⟩ | exact Or.inr ⟨rfl, rfl, rfl⟩) rfl (by decide) rfl ?_
  refine V_cput rfl rfl rfl (fun _ hty => by cases hty; exact ⟨rfl, rfl⟩) (by first | exact Or.inl rfl | exact Or.inr ⟨rfl, rfl⟩) ?_
  refine V_aload_n rfl rfl ?_
  refine V_bipush (v := 20) rfl (by decide) ?_
  refine V_cnew (N := 20) rfl rfl (by first | exact Or.inl ⟨rfl, rfl, rfl⟩ | exact Or.inr ⟨rfl, rfl, rfl⟩) rfl (by decide) rfl ?_
  refine V_cput rfl rfl rfl (fun _ hty => by cases hty; exact ⟨rfl, rfl⟩) (by first | exact Or.inl rfl | exact Or.inr ⟨rfl, rfl⟩) ?_
  refine V_aload_n rfl rfl ?_
  refine V_bipush (v := 20) rfl (by decide) ?_
  refine V_cnew (N := 20) rfl rfl (by first | exact Or.inl ⟨rfl, rfl, rfl⟩ | exact Or.inr ⟨rfl, rfl, rfl⟩) rfl (by decide) rfl ?_
  refine V_cput rfl rfl rfl (fun _ hty => by cases hty; exact ⟨rfl, rfl⟩) (by first | exact Or.inl rfl | exact Or.inr ⟨rfl, rfl⟩) ?_
  refine V_aload_n rfl rfl ?_
  refine V_bipush (v := 24) rfl (by decide) ?_
  refine V_cnew (N := 24) rfl rfl (by first | exact Or.inl ⟨rfl, rfl, rfl⟩ | exact Or.inr ⟨rfl, rfl, rfl⟩) rfl (by decide) rfl ?_
  refine V_cput rfl rfl rfl (fun _ hty => by cases hty; exact ⟨rfl, rfl⟩) (by first | exact Or.inl rfl | exact Or.inr ⟨rfl, rfl⟩) ?_
  refine V_aload_n rfl rfl ?_
  refine V_bipush (v := 24) rfl (by decide) ?_
  refine V_cnew (N := 24) rfl rfl (by first | exact Or.inl ⟨rfl, rfl, rfl⟩ | exact Or.inr ⟨rfl, rfl, rfl⟩) rfl (by decide) rfl ?_
  refine V_cput rfl rfl rfl (fun _ hty => by cases hty; exact ⟨rfl, rfl⟩) (by first | exact Or.inl rfl | exact Or.inr ⟨rfl, rfl⟩) ?_
  refine V_aload_n rfl rfl ?_
  refine V_bipush (v := 24) rfl (by decide) ?_
  refine V_cnew (N := 24) rfl rfl (by first | exact Or.inl ⟨rfl, rfl, rfl⟩ | exact Or.inr ⟨rfl, rfl, rfl⟩) rfl (by decide) rfl ?_
  refine V_cput rfl rfl rfl (fun _ hty => by cases hty; exact ⟨rfl, rfl⟩) (by first | exact Or.inl rfl | exact Or.inr ⟨rfl, rfl⟩) ?_
  refine V_aload_n rfl rfl ?_
  refine V_bipush (v := 24) rfl (by decide) ?_
  refine V_cnew (N := 24) rfl rfl (by first | exact Or.inl ⟨rfl, rfl, rfl⟩ | exact Or.inr ⟨rfl, rfl, rfl⟩) rfl (by decide) rfl ?_
  refine V_cput rfl rfl rfl (fun _ hty => by cases hty; exact ⟨rfl, rfl⟩) (by first | exact Or.inl rfl | exact Or.inr ⟨rfl, rfl⟩) ?_
  refine V_aload_n rfl rfl ?_
  refine V_bipush (v := 24) rfl (by decide) ?_
  refine V_cnew (N := 24) rfl rfl (by first | exact Or.inl ⟨rfl, rfl, rfl⟩ | exact Or.inr ⟨rfl, rfl, rfl⟩) rfl (by decide) rfl ?_
  refine V_cput rfl rfl rfl (fun _ hty => by cases hty; exact ⟨rfl, rfl⟩) (by first | exact Or.inl rfl | exact Or.inr ⟨rfl, rfl⟩) ?_
  refine V_aload_n rfl rfl ?_
  refine V_bipush (v := 72) rfl (by decide) ?_
  refine V_cnew (N := 72) rfl rfl (by first | exact Or.inl ⟨rfl, rfl, rfl⟩ | exact Or.inr ⟨rfl, rfl, rfl⟩) rfl (by decide) rfl ?_
  refine V_cput rfl rfl rfl (fun _ hty => by cases hty; exact ⟨rfl, rfl⟩) (by first | exact Or.inl rfl | exact Or.inr ⟨rfl, rfl⟩) ?_
  refine V_aload_n rfl rfl ?_
  refine V_bipush (v := 72) rfl (by decide) ?_
  refine V_cnew (N := 72) rfl rfl (by first | exact Or.inl ⟨rfl, rfl, rfl⟩ | exact Or.inr ⟨rfl, rfl, rfl⟩) rfl (by decide) rfl ?_
  refine V_cput rfl rfl rfl (fun _ hty => by cases hty; exact ⟨rfl, rfl⟩) (by first | exact Or.inl rfl | exact Or.inr ⟨rfl, rfl⟩) ?_
  rw [pb_fin (sc := z0) (ar := zA) ?_ ?_]
  rotate_left
  · rfl
  · intro o
    match o with
    | 0 => rfl
    | 1 => rfl
    | 2 => rfl
    | 3 => rfl
    | 4 => rfl
    | 5 => rfl
    | 6 => rfl
    | 7 => rfl
    | 8 => rfl
    | 9 => rfl
    | 10 => rfl
    | 11 => rfl
    | 12 => rfl
    | o + 13 => rfl
  refine V_aload_n rfl rfl ?_
  refine V_getfield rfl rfl blkW_0 (by rfl) ?_
  refine V_iconst (v := (-1)) rfl (by decide) ?_
  refine V_callSn rfl rfl (Or.inl rfl) m_Arr_fill_w m_Arr_fill_x rfl rfl (s_fill (blkW_i rfl rfl) (by decide) _) (by decide) rfl (Nat.le_of_ble_eq_true rfl) ?_
  rw [blkU_f rfl rfl]
  refine V_aload_n rfl rfl ?_
  refine V_getfield rfl rfl blkW_0 (by rfl) ?_
  refine V_iconst (v := (-1)) rfl (by decide) ?_
  refine V_callSn rfl rfl (Or.inl rfl) m_Arr_fill_w m_Arr_fill_x rfl rfl (s_fill (blkW_i rfl rfl) (by decide) _) (by decide) rfl (Nat.le_of_ble_eq_true rfl) ?_
  rw [blkU_f rfl rfl]
  refine V_return rfl rfl ?_
  exact ⟨rfl, rfl⟩
end ctor
