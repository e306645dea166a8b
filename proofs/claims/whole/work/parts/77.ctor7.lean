section pbW
variable {g : mG} {d : Nat} {M : mM} {P : Option Value → mH → Prop} {sz' u' pc n t : Nat} {ls st : List Value} {h : mH} {u : Nat} {ci b : Nat} {fs : List Value} {L : List mC}
theorem V_dput {i k w sz : Nat} {v : Value} {fs2 : List Value} (hf : mF M pc = some (.putfield i, 3, n, t)) (hl : mFld M.1 i = some (ci, k, w)) (hk2 : Nat.blt k fs.length = true) (hn : ∀ ty, mTy ci k = ty → narrow ty (mRl g v) = mRl g v ∧ fits ty (mRl g v) = true)
    (hfin : ((vwCl[ci]?.map fun r => (r.2.1 k).2.2.2) = some false) ∨ ((vwCl[ci]?.map fun r => ((r.2.1 k).2.2.2, (r.2.1 k).1)) = some (true, mRn M.1) ∧ (mMy M).name = "<init>")) (h2 : fs.set k v = fs2)
    (kk : V g d M P sz' u' n ls st (pbl ci h b fs2 L) sz u) : V g d M P sz' u' pc ls (v :: .ref b :: st) (pbl ci h b fs L) sz u :=
  V_cput hf hl hk2 hn hfin (by rw [h2]; exact kk)
theorem V_dnew {at0 : ArrayType} {N tk w j j1 : Nat} {i : Int32} {ty : FieldType} {L2 : List mC} (hf : mF M pc = some (.newarray at0, 2, n, t)) (hty : newarray.typeOf at0 = ty) (hk : ty = .int ∧ tk = 0 ∧ w = 5 ∨ ty = .boolean ∧ tk = 1 ∧ w = 6) (hi : i = nI N) (hN : N ≤ 100000) (hj : j = L.length + 1) (hj1 : j1 = j + 1) (hL : L ++ [.inl (tk, N, fun _ => 0)] = L2)
    (kk : V g d M P sz' u' n ls (.ref (b + j) :: st) (pbl ci h b fs L2) (b + j1) (u + N)) : V g d M P sz' u' pc ls (.int i :: st) (pbl ci h b fs L) (b + j) u := by
  subst hj1
  exact V_cnew hf hty hk hi hN (by omega) (by rw [hL]; exact kk)
end pbW
section ctor7
variable {g : mG} {h : mH} {u b : Nat}
theorem i_7 : Mt g 1 m_MD_init [.ref b] (va_up h b (cO 7 [.int 0, .null, .null, .null, .null, .int 0, .null, .null, .int 0, .null, .null, .null, .null, .int 0, .null, .null, .null, .int 0, .int 0, .int 0, .int 0, .int 0, .int 0, .null, .null, .null, .int 0, .null, .null, .int 0, .null, .null, .null, .null, .int 0, .int 0, .int 0, .null, .null, .null, .null])) (b + 1) u (Pn (blkW 7 h b (upd z0 18 (-1)) zA)) (b + 27) (u + 1137) := by
  rw [pb_i]
  refine Mt.of m_MD_init_w m_MD_init_x m_MD_init_c rfl rfl (ls := [.ref b]) rfl ?_
  refine V_aload_n rfl rfl ?_
  refine V_objInit rfl rfl (by decide) (Nat.le_of_ble_eq_true rfl) ?_
  refine V_aload_n rfl rfl ?_
  refine V_bipush (v := 12) rfl (by decide) ?_
  refine V_dnew (N := 12) (j1 := 2) (L2 := [cB 12 (fun _ => 0)]) rfl rfl (by first | exact Or.inl ⟨rfl, rfl, rfl⟩ | exact Or.inr ⟨rfl, rfl, rfl⟩) rfl (by decide) rfl rfl rfl ?_
  refine V_dput (fs2 := [.int 0, .ref (b + 1), .null, .null, .null, .int 0, .null, .null, .int 0, .null, .null, .null, .null, .int 0, .null, .null, .null, .int 0, .int 0, .int 0, .int 0, .int 0, .int 0, .null, .null, .null, .int 0, .null, .null, .int 0, .null, .null, .null, .null, .int 0, .int 0, .int 0, .null, .null, .null, .null]) rfl rfl rfl (fun _ hty => by cases hty; exact ⟨rfl, rfl⟩) (by first | exact Or.inl rfl | exact Or.inr ⟨rfl, rfl⟩) rfl ?_
  refine V_aload_n rfl rfl ?_
  refine V_bipush (v := 12) rfl (by decide) ?_
  refine V_dnew (N := 12) (j1 := 3) (L2 := [cB 12 (fun _ => 0), cI 12 (fun _ => 0)]) rfl rfl (by first | exact Or.inl ⟨rfl, rfl, rfl⟩ | exact Or.inr ⟨rfl, rfl, rfl⟩) rfl (by decide) rfl rfl rfl ?_
  refine V_dput (fs2 := [.int 0, .ref (b + 1), .ref (b + 2), .null, .null, .int 0, .null, .null, .int 0, .null, .null, .null, .null, .int 0, .null, .null, .null, .int 0, .int 0, .int 0, .int 0, .int 0, .int 0, .null, .null, .null, .int 0, .null, .null, .int 0, .null, .null, .null, .null, .int 0, .int 0, .int 0, .null, .null, .null, .null]) rfl rfl rfl (fun _ hty => by cases hty; exact ⟨rfl, rfl⟩) (by first | exact Or.inl rfl | exact Or.inr ⟨rfl, rfl⟩) rfl ?_
  refine V_aload_n rfl rfl ?_
  refine V_bipush (v := 12) rfl (by decide) ?_
  refine V_dnew (N := 12) (j1 := 4) (L2 := [cB 12 (fun _ => 0), cI 12 (fun _ => 0), cI 12 (fun _ => 0)]) rfl rfl (by first | exact Or.inl ⟨rfl, rfl, rfl⟩ | exact Or.inr ⟨rfl, rfl, rfl⟩) rfl (by decide) rfl rfl rfl ?_
  refine V_dput (fs2 := [.int 0, .ref (b + 1), .ref (b + 2), .ref (b + 3), .null, .int 0, .null, .null, .int 0, .null, .null, .null, .null, .int 0, .null, .null, .null, .int 0, .int 0, .int 0, .int 0, .int 0, .int 0, .null, .null, .null, .int 0, .null, .null, .int 0, .null, .null, .null, .null, .int 0, .int 0, .int 0, .null, .null, .null, .null]) rfl rfl rfl (fun _ hty => by cases hty; exact ⟨rfl, rfl⟩) (by first | exact Or.inl rfl | exact Or.inr ⟨rfl, rfl⟩) rfl ?_
  refine V_aload_n rfl rfl ?_
  refine V_bipush (v := 12) rfl (by decide) ?_
  refine V_dnew (N := 12) (j1 := 5) (L2 := [cB 12 (fun _ => 0), cI 12 (fun _ => 0), cI 12 (fun _ => 0), cI 12 (fun _ => 0)]) rfl rfl (by first | exact Or.inl ⟨rfl, rfl, rfl⟩ | exact Or.inr ⟨rfl, rfl, rfl⟩) rfl (by decide) rfl rfl rfl ?_
  refine V_dput (fs2 := [.int 0, .ref (b + 1), .ref (b + 2), .ref (b + 3), .ref (b + 4), .int 0, .null, .null, .int 0, .null, .null, .null, .null, .int 0, .null, .null, .null, .int 0, .int 0, .int 0, .int 0, .int 0, .int 0, .null, .null, .null, .int 0, .null, .null, .int 0, .null, .null, .null, .null, .int 0, .int 0, .int 0, .null, .null, .null, .null]) rfl rfl rfl (fun _ hty => by cases hty; exact ⟨rfl, rfl⟩) (by first | exact Or.inl rfl | exact Or.inr ⟨rfl, rfl⟩) rfl ?_
  refine V_aload_n rfl rfl ?_
  refine V_bipush (v := 20) rfl (by decide) ?_
  refine V_dnew (N := 20) (j1 := 6) (L2 := [cB 12 (fun _ => 0), cI 12 (fun _ => 0), cI 12 (fun _ => 0), cI 12 (fun _ => 0), cI 20 (fun _ => 0)]) rfl rfl (by first | exact Or.inl ⟨rfl, rfl, rfl⟩ | exact Or.inr ⟨rfl, rfl, rfl⟩) rfl (by decide) rfl rfl rfl ?_
  refine V_dput (fs2 := [.int 0, .ref (b + 1), .ref (b + 2), .ref (b + 3), .ref (b + 4), .int 0, .ref (b + 5), .null, .int 0, .null, .null, .null, .null, .int 0, .null, .null, .null, .int 0, .int 0, .int 0, .int 0, .int 0, .int 0, .null, .null, .null, .int 0, .null, .null, .int 0, .null, .null, .null, .null, .int 0, .int 0, .int 0, .null, .null, .null, .null]) rfl rfl rfl (fun _ hty => by cases hty; exact ⟨rfl, rfl⟩) (by first | exact Or.inl rfl | exact Or.inr ⟨rfl, rfl⟩) rfl ?_
  refine V_aload_n rfl rfl ?_
  refine V_bipush (v := 20) rfl (by decide) ?_
  refine V_dnew (N := 20) (j1 := 7) (L2 := [cB 12 (fun _ => 0), cI 12 (fun _ => 0), cI 12 (fun _ => 0), cI 12 (fun _ => 0), cI 20 (fun _ => 0), cI 20 (fun _ => 0)]) rfl rfl (by first | exact Or.inl ⟨rfl, rfl, rfl⟩ | exact Or.inr ⟨rfl, rfl, rfl⟩) rfl (by decide) rfl rfl rfl ?_
  refine V_dput (fs2 := [.int 0, .ref (b + 1), .ref (b + 2), .ref (b + 3), .ref (b + 4), .int 0, .ref (b + 5), .ref (b + 6), .int 0, .null, .null, .null, .null, .int 0, .null, .null, .null, .int 0, .int 0, .int 0, .int 0, .int 0, .int 0, .null, .null, .null, .int 0, .null, .null, .int 0, .null, .null, .null, .null, .int 0, .int 0, .int 0, .null, .null, .null, .null]) rfl rfl rfl (fun _ hty => by cases hty; exact ⟨rfl, rfl⟩) (by first | exact Or.inl rfl | exact Or.inr ⟨rfl, rfl⟩) rfl ?_
  refine V_aload_n rfl rfl ?_
  refine V_bipush (v := 24) rfl (by decide) ?_
  refine V_dnew (N := 24) (j1 := 8) (L2 := [cB 12 (fun _ => 0), cI 12 (fun _ => 0), cI 12 (fun _ => 0), cI 12 (fun _ => 0), cI 20 (fun _ => 0), cI 20 (fun _ => 0), cI 24 (fun _ => 0)]) rfl rfl (by first | exact Or.inl ⟨rfl, rfl, rfl⟩ | exact Or.inr ⟨rfl, rfl, rfl⟩) rfl (by decide) rfl rfl rfl ?_
  refine V_dput (fs2 := [.int 0, .ref (b + 1), .ref (b + 2), .ref (b + 3), .ref (b + 4), .int 0, .ref (b + 5), .ref (b + 6), .int 0, .ref (b + 7), .null, .null, .null, .int 0, .null, .null, .null, .int 0, .int 0, .int 0, .int 0, .int 0, .int 0, .null, .null, .null, .int 0, .null, .null, .int 0, .null, .null, .null, .null, .int 0, .int 0, .int 0, .null, .null, .null, .null]) rfl rfl rfl (fun _ hty => by cases hty; exact ⟨rfl, rfl⟩) (by first | exact Or.inl rfl | exact Or.inr ⟨rfl, rfl⟩) rfl ?_
  refine V_aload_n rfl rfl ?_
  refine V_bipush (v := 24) rfl (by decide) ?_
  refine V_dnew (N := 24) (j1 := 9) (L2 := [cB 12 (fun _ => 0), cI 12 (fun _ => 0), cI 12 (fun _ => 0), cI 12 (fun _ => 0), cI 20 (fun _ => 0), cI 20 (fun _ => 0), cI 24 (fun _ => 0), cI 24 (fun _ => 0)]) rfl rfl (by first | exact Or.inl ⟨rfl, rfl, rfl⟩ | exact Or.inr ⟨rfl, rfl, rfl⟩) rfl (by decide) rfl rfl rfl ?_
  refine V_dput (fs2 := [.int 0, .ref (b + 1), .ref (b + 2), .ref (b + 3), .ref (b + 4), .int 0, .ref (b + 5), .ref (b + 6), .int 0, .ref (b + 7), .ref (b + 8), .null, .null, .int 0, .null, .null, .null, .int 0, .int 0, .int 0, .int 0, .int 0, .int 0, .null, .null, .null, .int 0, .null, .null, .int 0, .null, .null, .null, .null, .int 0, .int 0, .int 0, .null, .null, .null, .null]) rfl rfl rfl (fun _ hty => by cases hty; exact ⟨rfl, rfl⟩) (by first | exact Or.inl rfl | exact Or.inr ⟨rfl, rfl⟩) rfl ?_
  refine V_aload_n rfl rfl ?_
  refine V_bipush (v := 24) rfl (by decide) ?_
  refine V_dnew (N := 24) (j1 := 10) (L2 := [cB 12 (fun _ => 0), cI 12 (fun _ => 0), cI 12 (fun _ => 0), cI 12 (fun _ => 0), cI 20 (fun _ => 0), cI 20 (fun _ => 0), cI 24 (fun _ => 0), cI 24 (fun _ => 0), cI 24 (fun _ => 0)]) rfl rfl (by first | exact Or.inl ⟨rfl, rfl, rfl⟩ | exact Or.inr ⟨rfl, rfl, rfl⟩) rfl (by decide) rfl rfl rfl ?_
  refine V_dput (fs2 := [.int 0, .ref (b + 1), .ref (b + 2), .ref (b + 3), .ref (b + 4), .int 0, .ref (b + 5), .ref (b + 6), .int 0, .ref (b + 7), .ref (b + 8), .ref (b + 9), .null, .int 0, .null, .null, .null, .int 0, .int 0, .int 0, .int 0, .int 0, .int 0, .null, .null, .null, .int 0, .null, .null, .int 0, .null, .null, .null, .null, .int 0, .int 0, .int 0, .null, .null, .null, .null]) rfl rfl rfl (fun _ hty => by cases hty; exact ⟨rfl, rfl⟩) (by first | exact Or.inl rfl | exact Or.inr ⟨rfl, rfl⟩) rfl ?_
  refine V_aload_n rfl rfl ?_
  refine V_bipush (v := 24) rfl (by decide) ?_
  refine V_dnew (N := 24) (j1 := 11) (L2 := [cB 12 (fun _ => 0), cI 12 (fun _ => 0), cI 12 (fun _ => 0), cI 12 (fun _ => 0), cI 20 (fun _ => 0), cI 20 (fun _ => 0), cI 24 (fun _ => 0), cI 24 (fun _ => 0), cI 24 (fun _ => 0), cI 24 (fun _ => 0)]) rfl rfl (by first | exact Or.inl ⟨rfl, rfl, rfl⟩ | exact Or.inr ⟨rfl, rfl, rfl⟩) rfl (by decide) rfl rfl rfl ?_
  refine V_dput (fs2 := [.int 0, .ref (b + 1), .ref (b + 2), .ref (b + 3), .ref (b + 4), .int 0, .ref (b + 5), .ref (b + 6), .int 0, .ref (b + 7), .ref (b + 8), .ref (b + 9), .ref (b + 10), .int 0, .null, .null, .null, .int 0, .int 0, .int 0, .int 0, .int 0, .int 0, .null, .null, .null, .int 0, .null, .null, .int 0, .null, .null, .null, .null, .int 0, .int 0, .int 0, .null, .null, .null, .null]) rfl rfl rfl (fun _ hty => by cases hty; exact ⟨rfl, rfl⟩) (by first | exact Or.inl rfl | exact Or.inr ⟨rfl, rfl⟩) rfl ?_
  refine V_aload_n rfl rfl ?_
  refine V_bipush (v := 24) rfl (by decide) ?_
  refine V_dnew (N := 24) (j1 := 12) (L2 := [cB 12 (fun _ => 0), cI 12 (fun _ => 0), cI 12 (fun _ => 0), cI 12 (fun _ => 0), cI 20 (fun _ => 0), cI 20 (fun _ => 0), cI 24 (fun _ => 0), cI 24 (fun _ => 0), cI 24 (fun _ => 0), cI 24 (fun _ => 0), cI 24 (fun _ => 0)]) rfl rfl (by first | exact Or.inl ⟨rfl, rfl, rfl⟩ | exact Or.inr ⟨rfl, rfl, rfl⟩) rfl (by decide) rfl rfl rfl ?_
  refine V_dput (fs2 := [.int 0, .ref (b + 1), .ref (b + 2), .ref (b + 3), .ref (b + 4), .int 0, .ref (b + 5), .ref (b + 6), .int 0, .ref (b + 7), .ref (b + 8), .ref (b + 9), .ref (b + 10), .int 0, .ref (b + 11), .null, .null, .int 0, .int 0, .int 0, .int 0, .int 0, .int 0, .null, .null, .null, .int 0, .null, .null, .int 0, .null, .null, .null, .null, .int 0, .int 0, .int 0, .null, .null, .null, .null]) rfl rfl rfl (fun _ hty => by cases hty; exact ⟨rfl, rfl⟩) (by first | exact Or.inl rfl | exact Or.inr ⟨rfl, rfl⟩) rfl ?_
  refine V_aload_n rfl rfl ?_
  refine V_bipush (v := 45) rfl (by decide) ?_
  refine V_dnew (N := 45) (j1 := 13) (L2 := [cB 12 (fun _ => 0), cI 12 (fun _ => 0), cI 12 (fun _ => 0), cI 12 (fun _ => 0), cI 20 (fun _ => 0), cI 20 (fun _ => 0), cI 24 (fun _ => 0), cI 24 (fun _ => 0), cI 24 (fun _ => 0), cI 24 (fun _ => 0), cI 24 (fun _ => 0), cI 45 (fun _ => 0)]) rfl rfl (by first | exact Or.inl ⟨rfl, rfl, rfl⟩ | exact Or.inr ⟨rfl, rfl, rfl⟩) rfl (by decide) rfl rfl rfl ?_
  refine V_dput (fs2 := [.int 0, .ref (b + 1), .ref (b + 2), .ref (b + 3), .ref (b + 4), .int 0, .ref (b + 5), .ref (b + 6), .int 0, .ref (b + 7), .ref (b + 8), .ref (b + 9), .ref (b + 10), .int 0, .ref (b + 11), .ref (b + 12), .null, .int 0, .int 0, .int 0, .int 0, .int 0, .int 0, .null, .null, .null, .int 0, .null, .null, .int 0, .null, .null, .null, .null, .int 0, .int 0, .int 0, .null, .null, .null, .null]) rfl rfl rfl (fun _ hty => by cases hty; exact ⟨rfl, rfl⟩) (by first | exact Or.inl rfl | exact Or.inr ⟨rfl, rfl⟩) rfl ?_
  refine V_aload_n rfl rfl ?_
  refine V_sipush (v := 240) rfl (by decide) ?_
  refine V_dnew (N := 240) (j1 := 14) (L2 := [cB 12 (fun _ => 0), cI 12 (fun _ => 0), cI 12 (fun _ => 0), cI 12 (fun _ => 0), cI 20 (fun _ => 0), cI 20 (fun _ => 0), cI 24 (fun _ => 0), cI 24 (fun _ => 0), cI 24 (fun _ => 0), cI 24 (fun _ => 0), cI 24 (fun _ => 0), cI 45 (fun _ => 0), cI 240 (fun _ => 0)]) rfl rfl (by first | exact Or.inl ⟨rfl, rfl, rfl⟩ | exact Or.inr ⟨rfl, rfl, rfl⟩) rfl (by decide) rfl rfl rfl ?_
  refine V_dput (fs2 := [.int 0, .ref (b + 1), .ref (b + 2), .ref (b + 3), .ref (b + 4), .int 0, .ref (b + 5), .ref (b + 6), .int 0, .ref (b + 7), .ref (b + 8), .ref (b + 9), .ref (b + 10), .int 0, .ref (b + 11), .ref (b + 12), .ref (b + 13), .int 0, .int 0, .int 0, .int 0, .int 0, .int 0, .null, .null, .null, .int 0, .null, .null, .int 0, .null, .null, .null, .null, .int 0, .int 0, .int 0, .null, .null, .null, .null]) rfl rfl rfl (fun _ hty => by cases hty; exact ⟨rfl, rfl⟩) (by first | exact Or.inl rfl | exact Or.inr ⟨rfl, rfl⟩) rfl ?_
  refine V_aload_n rfl rfl ?_
  refine V_iconst (v := (-1)) rfl (by decide) ?_
  refine V_dput (fs2 := [.int 0, .ref (b + 1), .ref (b + 2), .ref (b + 3), .ref (b + 4), .int 0, .ref (b + 5), .ref (b + 6), .int 0, .ref (b + 7), .ref (b + 8), .ref (b + 9), .ref (b + 10), .int 0, .ref (b + 11), .ref (b + 12), .ref (b + 13), .int 0, .int (-1), .int 0, .int 0, .int 0, .int 0, .null, .null, .null, .int 0, .null, .null, .int 0, .null, .null, .null, .null, .int 0, .int 0, .int 0, .null, .null, .null, .null]) rfl rfl rfl (fun _ hty => by cases hty; exact ⟨rfl, rfl⟩) (by first | exact Or.inl rfl | exact Or.inr ⟨rfl, rfl⟩) rfl ?_
  refine V_aload_n rfl rfl ?_
  refine V_bipush (v := 12) rfl (by decide) ?_
  refine V_dnew (N := 12) (j1 := 15) (L2 := [cB 12 (fun _ => 0), cI 12 (fun _ => 0), cI 12 (fun _ => 0), cI 12 (fun _ => 0), cI 20 (fun _ => 0), cI 20 (fun _ => 0), cI 24 (fun _ => 0), cI 24 (fun _ => 0), cI 24 (fun _ => 0), cI 24 (fun _ => 0), cI 24 (fun _ => 0), cI 45 (fun _ => 0), cI 240 (fun _ => 0), cB 12 (fun _ => 0)]) rfl rfl (by first | exact Or.inl ⟨rfl, rfl, rfl⟩ | exact Or.inr ⟨rfl, rfl, rfl⟩) rfl (by decide) rfl rfl rfl ?_
  refine V_dput (fs2 := [.int 0, .ref (b + 1), .ref (b + 2), .ref (b + 3), .ref (b + 4), .int 0, .ref (b + 5), .ref (b + 6), .int 0, .ref (b + 7), .ref (b + 8), .ref (b + 9), .ref (b + 10), .int 0, .ref (b + 11), .ref (b + 12), .ref (b + 13), .int 0, .int (-1), .int 0, .int 0, .int 0, .int 0, .ref (b + 14), .null, .null, .int 0, .null, .null, .int 0, .null, .null, .null, .null, .int 0, .int 0, .int 0, .null, .null, .null, .null]) rfl rfl rfl (fun _ hty => by cases hty; exact ⟨rfl, rfl⟩) (by first | exact Or.inl rfl | exact Or.inr ⟨rfl, rfl⟩) rfl ?_
  refine V_aload_n rfl rfl ?_
  refine V_bipush (v := 12) rfl (by decide) ?_
  refine V_dnew (N := 12) (j1 := 16) (L2 := [cB 12 (fun _ => 0), cI 12 (fun _ => 0), cI 12 (fun _ => 0), cI 12 (fun _ => 0), cI 20 (fun _ => 0), cI 20 (fun _ => 0), cI 24 (fun _ => 0), cI 24 (fun _ => 0), cI 24 (fun _ => 0), cI 24 (fun _ => 0), cI 24 (fun _ => 0), cI 45 (fun _ => 0), cI 240 (fun _ => 0), cB 12 (fun _ => 0), cI 12 (fun _ => 0)]) rfl rfl (by first | exact Or.inl ⟨rfl, rfl, rfl⟩ | exact Or.inr ⟨rfl, rfl, rfl⟩) rfl (by decide) rfl rfl rfl ?_
  refine V_dput (fs2 := [.int 0, .ref (b + 1), .ref (b + 2), .ref (b + 3), .ref (b + 4), .int 0, .ref (b + 5), .ref (b + 6), .int 0, .ref (b + 7), .ref (b + 8), .ref (b + 9), .ref (b + 10), .int 0, .ref (b + 11), .ref (b + 12), .ref (b + 13), .int 0, .int (-1), .int 0, .int 0, .int 0, .int 0, .ref (b + 14), .ref (b + 15), .null, .int 0, .null, .null, .int 0, .null, .null, .null, .null, .int 0, .int 0, .int 0, .null, .null, .null, .null]) rfl rfl rfl (fun _ hty => by cases hty; exact ⟨rfl, rfl⟩) (by first | exact Or.inl rfl | exact Or.inr ⟨rfl, rfl⟩) rfl ?_
  refine V_aload_n rfl rfl ?_
  refine V_bipush (v := 12) rfl (by decide) ?_
  refine V_dnew (N := 12) (j1 := 17) (L2 := [cB 12 (fun _ => 0), cI 12 (fun _ => 0), cI 12 (fun _ => 0), cI 12 (fun _ => 0), cI 20 (fun _ => 0), cI 20 (fun _ => 0), cI 24 (fun _ => 0), cI 24 (fun _ => 0), cI 24 (fun _ => 0), cI 24 (fun _ => 0), cI 24 (fun _ => 0), cI 45 (fun _ => 0), cI 240 (fun _ => 0), cB 12 (fun _ => 0), cI 12 (fun _ => 0), cI 12 (fun _ => 0)]) rfl rfl (by first | exact Or.inl ⟨rfl, rfl, rfl⟩ | exact Or.inr ⟨rfl, rfl, rfl⟩) rfl (by decide) rfl rfl rfl ?_
  refine V_dput (fs2 := [.int 0, .ref (b + 1), .ref (b + 2), .ref (b + 3), .ref (b + 4), .int 0, .ref (b + 5), .ref (b + 6), .int 0, .ref (b + 7), .ref (b + 8), .ref (b + 9), .ref (b + 10), .int 0, .ref (b + 11), .ref (b + 12), .ref (b + 13), .int 0, .int (-1), .int 0, .int 0, .int 0, .int 0, .ref (b + 14), .ref (b + 15), .ref (b + 16), .int 0, .null, .null, .int 0, .null, .null, .null, .null, .int 0, .int 0, .int 0, .null, .null, .null, .null]) rfl rfl rfl (fun _ hty => by cases hty; exact ⟨rfl, rfl⟩) (by first | exact Or.inl rfl | exact Or.inr ⟨rfl, rfl⟩) rfl ?_
  refine V_aload_n rfl rfl ?_
  refine V_bipush (v := 20) rfl (by decide) ?_
  refine V_dnew (N := 20) (j1 := 18) (L2 := [cB 12 (fun _ => 0), cI 12 (fun _ => 0), cI 12 (fun _ => 0), cI 12 (fun _ => 0), cI 20 (fun _ => 0), cI 20 (fun _ => 0), cI 24 (fun _ => 0), cI 24 (fun _ => 0), cI 24 (fun _ => 0), cI 24 (fun _ => 0), cI 24 (fun _ => 0), cI 45 (fun _ => 0), cI 240 (fun _ => 0), cB 12 (fun _ => 0), cI 12 (fun _ => 0), cI 12 (fun _ => 0), cI 20 (fun _ => 0)]) rfl rfl (by first | exact Or.inl ⟨rfl, rfl, rfl⟩ | exact Or.inr ⟨rfl, rfl, rfl⟩) rfl (by decide) rfl rfl rfl ?_
  refine V_dput (fs2 := [.int 0, .ref (b + 1), .ref (b + 2), .ref (b + 3), .ref (b + 4), .int 0, .ref (b + 5), .ref (b + 6), .int 0, .ref (b + 7), .ref (b + 8), .ref (b + 9), .ref (b + 10), .int 0, .ref (b + 11), .ref (b + 12), .ref (b + 13), .int 0, .int (-1), .int 0, .int 0, .int 0, .int 0, .ref (b + 14), .ref (b + 15), .ref (b + 16), .int 0, .ref (b + 17), .null, .int 0, .null, .null, .null, .null, .int 0, .int 0, .int 0, .null, .null, .null, .null]) rfl rfl rfl (fun _ hty => by cases hty; exact ⟨rfl, rfl⟩) (by first | exact Or.inl rfl | exact Or.inr ⟨rfl, rfl⟩) rfl ?_
  refine V_aload_n rfl rfl ?_
  refine V_bipush (v := 20) rfl (by decide) ?_
  refine V_dnew (N := 20) (j1 := 19) (L2 := [cB 12 (fun _ => 0), cI 12 (fun _ => 0), cI 12 (fun _ => 0), cI 12 (fun _ => 0), cI 20 (fun _ => 0), cI 20 (fun _ => 0), cI 24 (fun _ => 0), cI 24 (fun _ => 0), cI 24 (fun _ => 0), cI 24 (fun _ => 0), cI 24 (fun _ => 0), cI 45 (fun _ => 0), cI 240 (fun _ => 0), cB 12 (fun _ => 0), cI 12 (fun _ => 0), cI 12 (fun _ => 0), cI 20 (fun _ => 0), cI 20 (fun _ => 0)]) rfl rfl (by first | exact Or.inl ⟨rfl, rfl, rfl⟩ | exact Or.inr ⟨rfl, rfl, rfl⟩) rfl (by decide) rfl rfl rfl ?_
  refine V_dput (fs2 := [.int 0, .ref (b + 1), .ref (b + 2), .ref (b + 3), .ref (b + 4), .int 0, .ref (b + 5), .ref (b + 6), .int 0, .ref (b + 7), .ref (b + 8), .ref (b + 9), .ref (b + 10), .int 0, .ref (b + 11), .ref (b + 12), .ref (b + 13), .int 0, .int (-1), .int 0, .int 0, .int 0, .int 0, .ref (b + 14), .ref (b + 15), .ref (b + 16), .int 0, .ref (b + 17), .ref (b + 18), .int 0, .null, .null, .null, .null, .int 0, .int 0, .int 0, .null, .null, .null, .null]) rfl rfl rfl (fun _ hty => by cases hty; exact ⟨rfl, rfl⟩) (by first | exact Or.inl rfl | exact Or.inr ⟨rfl, rfl⟩) rfl ?_
  refine V_aload_n rfl rfl ?_
  refine V_bipush (v := 24) rfl (by decide) ?_
  refine V_dnew (N := 24) (j1 := 20) (L2 := [cB 12 (fun _ => 0), cI 12 (fun _ => 0), cI 12 (fun _ => 0), cI 12 (fun _ => 0), cI 20 (fun _ => 0), cI 20 (fun _ => 0), cI 24 (fun _ => 0), cI 24 (fun _ => 0), cI 24 (fun _ => 0), cI 24 (fun _ => 0), cI 24 (fun _ => 0), cI 45 (fun _ => 0), cI 240 (fun _ => 0), cB 12 (fun _ => 0), cI 12 (fun _ => 0), cI 12 (fun _ => 0), cI 20 (fun _ => 0), cI 20 (fun _ => 0), cI 24 (fun _ => 0)]) rfl rfl (by first | exact Or.inl ⟨rfl, rfl, rfl⟩ | exact Or.inr ⟨rfl, rfl, rfl⟩) rfl (by decide) rfl rfl rfl ?_
  refine V_dput (fs2 := [.int 0, .ref (b + 1), .ref (b + 2), .ref (b + 3), .ref (b + 4), .int 0, .ref (b + 5), .ref (b + 6), .int 0, .ref (b + 7), .ref (b + 8), .ref (b + 9), .ref (b + 10), .int 0, .ref (b + 11), .ref (b + 12), .ref (b + 13), .int 0, .int (-1), .int 0, .int 0, .int 0, .int 0, .ref (b + 14), .ref (b + 15), .ref (b + 16), .int 0, .ref (b + 17), .ref (b + 18), .int 0, .ref (b + 19), .null, .null, .null, .int 0, .int 0, .int 0, .null, .null, .null, .null]) rfl rfl rfl (fun _ hty => by cases hty; exact ⟨rfl, rfl⟩) (by first | exact Or.inl rfl | exact Or.inr ⟨rfl, rfl⟩) rfl ?_
  refine V_aload_n rfl rfl ?_
  refine V_bipush (v := 24) rfl (by decide) ?_
  refine V_dnew (N := 24) (j1 := 21) (L2 := [cB 12 (fun _ => 0), cI 12 (fun _ => 0), cI 12 (fun _ => 0), cI 12 (fun _ => 0), cI 20 (fun _ => 0), cI 20 (fun _ => 0), cI 24 (fun _ => 0), cI 24 (fun _ => 0), cI 24 (fun _ => 0), cI 24 (fun _ => 0), cI 24 (fun _ => 0), cI 45 (fun _ => 0), cI 240 (fun _ => 0), cB 12 (fun _ => 0), cI 12 (fun _ => 0), cI 12 (fun _ => 0), cI 20 (fun _ => 0), cI 20 (fun _ => 0), cI 24 (fun _ => 0), cI 24 (fun _ => 0)]) rfl rfl (by first | exact Or.inl ⟨rfl, rfl, rfl⟩ | exact Or.inr ⟨rfl, rfl, rfl⟩) rfl (by decide) rfl rfl rfl ?_
  refine V_dput (fs2 := [.int 0, .ref (b + 1), .ref (b + 2), .ref (b + 3), .ref (b + 4), .int 0, .ref (b + 5), .ref (b + 6), .int 0, .ref (b + 7), .ref (b + 8), .ref (b + 9), .ref (b + 10), .int 0, .ref (b + 11), .ref (b + 12), .ref (b + 13), .int 0, .int (-1), .int 0, .int 0, .int 0, .int 0, .ref (b + 14), .ref (b + 15), .ref (b + 16), .int 0, .ref (b + 17), .ref (b + 18), .int 0, .ref (b + 19), .ref (b + 20), .null, .null, .int 0, .int 0, .int 0, .null, .null, .null, .null]) rfl rfl rfl (fun _ hty => by cases hty; exact ⟨rfl, rfl⟩) (by first | exact Or.inl rfl | exact Or.inr ⟨rfl, rfl⟩) rfl ?_
  refine V_aload_n rfl rfl ?_
  refine V_bipush (v := 24) rfl (by decide) ?_
  refine V_dnew (N := 24) (j1 := 22) (L2 := [cB 12 (fun _ => 0), cI 12 (fun _ => 0), cI 12 (fun _ => 0), cI 12 (fun _ => 0), cI 20 (fun _ => 0), cI 20 (fun _ => 0), cI 24 (fun _ => 0), cI 24 (fun _ => 0), cI 24 (fun _ => 0), cI 24 (fun _ => 0), cI 24 (fun _ => 0), cI 45 (fun _ => 0), cI 240 (fun _ => 0), cB 12 (fun _ => 0), cI 12 (fun _ => 0), cI 12 (fun _ => 0), cI 20 (fun _ => 0), cI 20 (fun _ => 0), cI 24 (fun _ => 0), cI 24 (fun _ => 0), cI 24 (fun _ => 0)]) rfl rfl (by first | exact Or.inl ⟨rfl, rfl, rfl⟩ | exact Or.inr ⟨rfl, rfl, rfl⟩) rfl (by decide) rfl rfl rfl ?_
  refine V_dput (fs2 := [.int 0, .ref (b + 1), .ref (b + 2), .ref (b + 3), .ref (b + 4), .int 0, .ref (b + 5), .ref (b + 6), .int 0, .ref (b + 7), .ref (b + 8), .ref (b + 9), .ref (b + 10), .int 0, .ref (b + 11), .ref (b + 12), .ref (b + 13), .int 0, .int (-1), .int 0, .int 0, .int 0, .int 0, .ref (b + 14), .ref (b + 15), .ref (b + 16), .int 0, .ref (b + 17), .ref (b + 18), .int 0, .ref (b + 19), .ref (b + 20), .ref (b + 21), .null, .int 0, .int 0, .int 0, .null, .null, .null, .null]) rfl rfl rfl (fun _ hty => by cases hty; exact ⟨rfl, rfl⟩) (by first | exact Or.inl rfl | exact Or.inr ⟨rfl, rfl⟩) rfl ?_
  refine V_aload_n rfl rfl ?_
  refine V_bipush (v := 24) rfl (by decide) ?_
  refine V_dnew (N := 24) (j1 := 23) (L2 := [cB 12 (fun _ => 0), cI 12 (fun _ => 0), cI 12 (fun _ => 0), cI 12 (fun _ => 0), cI 20 (fun _ => 0), cI 20 (fun _ => 0), cI 24 (fun _ => 0), cI 24 (fun _ => 0), cI 24 (fun _ => 0), cI 24 (fun _ => 0), cI 24 (fun _ => 0), cI 45 (fun _ => 0), cI 240 (fun _ => 0), cB 12 (fun _ => 0), cI 12 (fun _ => 0), cI 12 (fun _ => 0), cI 20 (fun _ => 0), cI 20 (fun _ => 0), cI 24 (fun _ => 0), cI 24 (fun _ => 0), cI 24 (fun _ => 0), cI 24 (fun _ => 0)]) rfl rfl (by first | exact Or.inl ⟨rfl, rfl, rfl⟩ | exact Or.inr ⟨rfl, rfl, rfl⟩) rfl (by decide) rfl rfl rfl ?_
  refine V_dput (fs2 := [.int 0, .ref (b + 1), .ref (b + 2), .ref (b + 3), .ref (b + 4), .int 0, .ref (b + 5), .ref (b + 6), .int 0, .ref (b + 7), .ref (b + 8), .ref (b + 9), .ref (b + 10), .int 0, .ref (b + 11), .ref (b + 12), .ref (b + 13), .int 0, .int (-1), .int 0, .int 0, .int 0, .int 0, .ref (b + 14), .ref (b + 15), .ref (b + 16), .int 0, .ref (b + 17), .ref (b + 18), .int 0, .ref (b + 19), .ref (b + 20), .ref (b + 21), .ref (b + 22), .int 0, .int 0, .int 0, .null, .null, .null, .null]) rfl rfl rfl (fun _ hty => by cases hty; exact ⟨rfl, rfl⟩) (by first | exact Or.inl rfl | exact Or.inr ⟨rfl, rfl⟩) rfl ?_
  refine V_aload_n rfl rfl ?_
  refine V_sipush (v := 360) rfl (by decide) ?_
  refine V_dnew (N := 360) (j1 := 24) (L2 := [cB 12 (fun _ => 0), cI 12 (fun _ => 0), cI 12 (fun _ => 0), cI 12 (fun _ => 0), cI 20 (fun _ => 0), cI 20 (fun _ => 0), cI 24 (fun _ => 0), cI 24 (fun _ => 0), cI 24 (fun _ => 0), cI 24 (fun _ => 0), cI 24 (fun _ => 0), cI 45 (fun _ => 0), cI 240 (fun _ => 0), cB 12 (fun _ => 0), cI 12 (fun _ => 0), cI 12 (fun _ => 0), cI 20 (fun _ => 0), cI 20 (fun _ => 0), cI 24 (fun _ => 0), cI 24 (fun _ => 0), cI 24 (fun _ => 0), cI 24 (fun _ => 0), cI 360 (fun _ => 0)]) rfl rfl (by first | exact Or.inl ⟨rfl, rfl, rfl⟩ | exact Or.inr ⟨rfl, rfl, rfl⟩) rfl (by decide) rfl rfl rfl ?_
  refine V_dput (fs2 := [.int 0, .ref (b + 1), .ref (b + 2), .ref (b + 3), .ref (b + 4), .int 0, .ref (b + 5), .ref (b + 6), .int 0, .ref (b + 7), .ref (b + 8), .ref (b + 9), .ref (b + 10), .int 0, .ref (b + 11), .ref (b + 12), .ref (b + 13), .int 0, .int (-1), .int 0, .int 0, .int 0, .int 0, .ref (b + 14), .ref (b + 15), .ref (b + 16), .int 0, .ref (b + 17), .ref (b + 18), .int 0, .ref (b + 19), .ref (b + 20), .ref (b + 21), .ref (b + 22), .int 0, .int 0, .int 0, .ref (b + 23), .null, .null, .null]) rfl rfl rfl (fun _ hty => by cases hty; exact ⟨rfl, rfl⟩) (by first | exact Or.inl rfl | exact Or.inr ⟨rfl, rfl⟩) rfl ?_
  refine V_aload_n rfl rfl ?_
  refine V_bipush (v := 20) rfl (by decide) ?_
  refine V_dnew (N := 20) (j1 := 25) (L2 := [cB 12 (fun _ => 0), cI 12 (fun _ => 0), cI 12 (fun _ => 0), cI 12 (fun _ => 0), cI 20 (fun _ => 0), cI 20 (fun _ => 0), cI 24 (fun _ => 0), cI 24 (fun _ => 0), cI 24 (fun _ => 0), cI 24 (fun _ => 0), cI 24 (fun _ => 0), cI 45 (fun _ => 0), cI 240 (fun _ => 0), cB 12 (fun _ => 0), cI 12 (fun _ => 0), cI 12 (fun _ => 0), cI 20 (fun _ => 0), cI 20 (fun _ => 0), cI 24 (fun _ => 0), cI 24 (fun _ => 0), cI 24 (fun _ => 0), cI 24 (fun _ => 0), cI 360 (fun _ => 0), cI 20 (fun _ => 0)]) rfl rfl (by first | exact Or.inl ⟨rfl, rfl, rfl⟩ | exact Or.inr ⟨rfl, rfl, rfl⟩) rfl (by decide) rfl rfl rfl ?_
  refine V_dput (fs2 := [.int 0, .ref (b + 1), .ref (b + 2), .ref (b + 3), .ref (b + 4), .int 0, .ref (b + 5), .ref (b + 6), .int 0, .ref (b + 7), .ref (b + 8), .ref (b + 9), .ref (b + 10), .int 0, .ref (b + 11), .ref (b + 12), .ref (b + 13), .int 0, .int (-1), .int 0, .int 0, .int 0, .int 0, .ref (b + 14), .ref (b + 15), .ref (b + 16), .int 0, .ref (b + 17), .ref (b + 18), .int 0, .ref (b + 19), .ref (b + 20), .ref (b + 21), .ref (b + 22), .int 0, .int 0, .int 0, .ref (b + 23), .ref (b + 24), .null, .null]) rfl rfl rfl (fun _ hty => by cases hty; exact ⟨rfl, rfl⟩) (by first | exact Or.inl rfl | exact Or.inr ⟨rfl, rfl⟩) rfl ?_
  refine V_aload_n rfl rfl ?_
  refine V_bipush (v := 90) rfl (by decide) ?_
  refine V_dnew (N := 90) (j1 := 26) (L2 := [cB 12 (fun _ => 0), cI 12 (fun _ => 0), cI 12 (fun _ => 0), cI 12 (fun _ => 0), cI 20 (fun _ => 0), cI 20 (fun _ => 0), cI 24 (fun _ => 0), cI 24 (fun _ => 0), cI 24 (fun _ => 0), cI 24 (fun _ => 0), cI 24 (fun _ => 0), cI 45 (fun _ => 0), cI 240 (fun _ => 0), cB 12 (fun _ => 0), cI 12 (fun _ => 0), cI 12 (fun _ => 0), cI 20 (fun _ => 0), cI 20 (fun _ => 0), cI 24 (fun _ => 0), cI 24 (fun _ => 0), cI 24 (fun _ => 0), cI 24 (fun _ => 0), cI 360 (fun _ => 0), cI 20 (fun _ => 0), cI 90 (fun _ => 0)]) rfl rfl (by first | exact Or.inl ⟨rfl, rfl, rfl⟩ | exact Or.inr ⟨rfl, rfl, rfl⟩) rfl (by decide) rfl rfl rfl ?_
  refine V_dput (fs2 := [.int 0, .ref (b + 1), .ref (b + 2), .ref (b + 3), .ref (b + 4), .int 0, .ref (b + 5), .ref (b + 6), .int 0, .ref (b + 7), .ref (b + 8), .ref (b + 9), .ref (b + 10), .int 0, .ref (b + 11), .ref (b + 12), .ref (b + 13), .int 0, .int (-1), .int 0, .int 0, .int 0, .int 0, .ref (b + 14), .ref (b + 15), .ref (b + 16), .int 0, .ref (b + 17), .ref (b + 18), .int 0, .ref (b + 19), .ref (b + 20), .ref (b + 21), .ref (b + 22), .int 0, .int 0, .int 0, .ref (b + 23), .ref (b + 24), .ref (b + 25), .null]) rfl rfl rfl (fun _ hty => by cases hty; exact ⟨rfl, rfl⟩) (by first | exact Or.inl rfl | exact Or.inr ⟨rfl, rfl⟩) rfl ?_
  refine V_aload_n rfl rfl ?_
  refine V_iconst (v := 2) rfl (by decide) ?_
  refine V_dnew (N := 2) (j1 := 27) (L2 := [cB 12 (fun _ => 0), cI 12 (fun _ => 0), cI 12 (fun _ => 0), cI 12 (fun _ => 0), cI 20 (fun _ => 0), cI 20 (fun _ => 0), cI 24 (fun _ => 0), cI 24 (fun _ => 0), cI 24 (fun _ => 0), cI 24 (fun _ => 0), cI 24 (fun _ => 0), cI 45 (fun _ => 0), cI 240 (fun _ => 0), cB 12 (fun _ => 0), cI 12 (fun _ => 0), cI 12 (fun _ => 0), cI 20 (fun _ => 0), cI 20 (fun _ => 0), cI 24 (fun _ => 0), cI 24 (fun _ => 0), cI 24 (fun _ => 0), cI 24 (fun _ => 0), cI 360 (fun _ => 0), cI 20 (fun _ => 0), cI 90 (fun _ => 0), cB 2 (fun _ => 0)]) rfl rfl (by first | exact Or.inl ⟨rfl, rfl, rfl⟩ | exact Or.inr ⟨rfl, rfl, rfl⟩) rfl (by decide) rfl rfl rfl ?_
  refine V_dput (fs2 := [.int 0, .ref (b + 1), .ref (b + 2), .ref (b + 3), .ref (b + 4), .int 0, .ref (b + 5), .ref (b + 6), .int 0, .ref (b + 7), .ref (b + 8), .ref (b + 9), .ref (b + 10), .int 0, .ref (b + 11), .ref (b + 12), .ref (b + 13), .int 0, .int (-1), .int 0, .int 0, .int 0, .int 0, .ref (b + 14), .ref (b + 15), .ref (b + 16), .int 0, .ref (b + 17), .ref (b + 18), .int 0, .ref (b + 19), .ref (b + 20), .ref (b + 21), .ref (b + 22), .int 0, .int 0, .int 0, .ref (b + 23), .ref (b + 24), .ref (b + 25), .ref (b + 26)]) rfl rfl rfl (fun _ hty => by cases hty; exact ⟨rfl, rfl⟩) (by first | exact Or.inl rfl | exact Or.inr ⟨rfl, rfl⟩) rfl ?_
  refine V_aload_n rfl rfl ?_
  refine V_iconst (v := 0) rfl (by decide) ?_
  refine V_dput (fs2 := [.int 0, .ref (b + 1), .ref (b + 2), .ref (b + 3), .ref (b + 4), .int 0, .ref (b + 5), .ref (b + 6), .int 0, .ref (b + 7), .ref (b + 8), .ref (b + 9), .ref (b + 10), .int 0, .ref (b + 11), .ref (b + 12), .ref (b + 13), .int 0, .int (-1), .int 0, .int 0, .int 0, .int 0, .ref (b + 14), .ref (b + 15), .ref (b + 16), .int 0, .ref (b + 17), .ref (b + 18), .int 0, .ref (b + 19), .ref (b + 20), .ref (b + 21), .ref (b + 22), .int 0, .int 0, .int 0, .ref (b + 23), .ref (b + 24), .ref (b + 25), .ref (b + 26)]) rfl rfl rfl (fun _ hty => by cases hty; exact ⟨rfl, rfl⟩) (by first | exact Or.inl rfl | exact Or.inr ⟨rfl, rfl⟩) rfl ?_
  rw [pb_fin (sc := upd z0 18 (-1)) (ar := zA) ?_ ?_]
  rotate_left
  · rfl
  · intro o
    match o with
    | 0 => rfl
    | 1 => rfl
    | 2 => rfl
    | 3 => rfl
    | 4 => rfl
    | 5 => rfl
    | 6 => rfl
    | 7 => rfl
    | 8 => rfl
    | 9 => rfl
    | 10 => rfl
    | 11 => rfl
    | 12 => rfl
    | 13 => rfl
    | 14 => rfl
    | 15 => rfl
    | 16 => rfl
    | 17 => rfl
    | 18 => rfl
    | 19 => rfl
    | 20 => rfl
    | 21 => rfl
    | 22 => rfl
    | 23 => rfl
    | 24 => rfl
    | 25 => rfl
    | o + 26 => rfl
  refine V_return rfl rfl ?_
  exact ⟨rfl, rfl⟩
end ctor7
