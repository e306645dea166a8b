section mV3
variable {g : mG} {d : Nat} {M : mM} {P : Option Value → mH → Prop} {sz' u' pc n t : Nat} {ls st : List Value} {h : mH} {sz u : Nat}
theorem mKidx {cA : ClassId} {ty : FieldType} {s : State} {i : Nat} {q : ClassId × FieldType} (hK : mKK g s) (hq : (mTs g)[i]? = some q) (hf : s.vm.findClass ("[" ++ ty.toString) = some cA) (hty : q.2 = ty) : cA = q.1 := by
  have h1 := (hK.1.2 i q hq).2
  subst hty
  obtain ⟨qa, qt⟩ := q
  cases qt with
  | object C =>
    obtain ⟨kA, comp, h2, h3, h4, h5⟩ := h1
    exact Option.some.inj (hf.symm.trans h5)
  | _ => exact Option.some.inj (hf.symm.trans h1)
/-- a new object -/
theorem V_new {i ci w1 w2 w3 : Nat} {r : vw_C} {fs : List Value} (hf : mF M pc = some (.new i, 3, n, t)) (hl : mLk2 mNewT M.1 i = some (ci, w1, w2, w3)) (hr : vwCl[ci]? = some r) (hfs : (List.range r.2.2).map (fun k => defaultValue (mTy ci k)) = fs) (hrl : fs.map (mRl g) = fs)
    (kk : V g d M P sz' u' n ls (.ref sz :: st) (va_up h sz (cO ci fs)) (sz + 1) (u + r.2.2)) : V g d M P sz' u' pc ls st h sz u := by
  have k1 := kk.1
  have k2 := kk.2.1
  refine ⟨by omega, by omega, fun p e R s m args below meth c H locs cells slots Q arr C S F L h1 h2 K => ?_⟩
  obtain ⟨hd, rfl, -⟩ := mDec C hf
  have hT := List.all_eq_true.mp mNewT_ok _ (mLk2_mem hl)
  unfold mNewOk at hT
  dsimp only at hT
  rw [hr] at hT
  simp only [Bool.and_eq_true, decide_eq_true_eq] at hT
  have hKn := C.2.2.2.2.2.2.1.1.1 ci _ hr
  obtain ⟨cty, -, -⟩ := mCl_ty ci r hr
  refine W.newcK C.1 C.2.1 C.2.2.2.2.1 (mGwB C hT.1.1 rfl) (mGwB C hT.1.2 rfl) (mGwB C hT.2 rfl) rfl hd (by omega) (by omega) hKn.2.1 S.2.1 fun H1 kC hkC e1 z1 o1 => ?_
  have hsz : mAd g sz = gz g + sz := by unfold mAd; rw [if_neg (by have := S.1; omega)]
  have S1 : mSim g (va_up h sz (cO ci fs)) (sz + 1) H1 := by
    refine S.new ?_ (by rw [z1, S.2.1]) (fun q hq => o1 q (by rw [← S.2.1]; exact hq))
    refine ⟨r, hr, (u_born (mTy ci) C.2.2.2.2.2.1 (mLay_in hr) hKn hkC e1 cty).to fun k hk => ?_⟩
    show _ = vp_V (fs.map (mRl g)) k
    rw [hrl, ← hfs]
    simp [vp_V, hk]
  have F1 : va_S (mA g) s.heap H1 locs := ⟨Nat.le_trans F.1 (by rw [z1, S.2.1]; omega), fun q q1 q2 => (o1 q (by rw [← S.2.1]; exact Nat.lt_of_lt_of_le q1 F.1)).trans (F.2.1 q q1 q2), F.2.2⟩
  have K2 := kk.2.2 p e R s m args below meth c H1 locs (cells + 1) (slots + r.2.2) Q arr C S1 F1 L (by omega) (by omega) (fun r' h' H' locs' pc' arr' q1 q2 q3 q4 => by
    have := K r' h' H' locs' pc' arr' q1 q2 q3 q4
    rw [show cells + 1 + (sz' - (sz + 1)) = cells + (sz' - sz) by omega, show slots + r.2.2 + (u' - (u + r.2.2)) = slots + (u' - u) by omega]
    exact this)
  have e2 : (Value.ref sz :: st).map (mRl g) = .ref (gz g + sz) :: st.map (mRl g) := by rw [← hsz]; rfl
  rw [e2] at K2
  exact K2
/-- a new row -/
theorem V_newarr {at0 : ArrayType} {N tk w : Nat} {i : Int32} {ty : FieldType} (hf : mF M pc = some (.newarray at0, 2, n, t)) (hty : newarray.typeOf at0 = ty) (hk : ty = .int ∧ tk = 0 ∧ w = 5 ∨ ty = .boolean ∧ tk = 1 ∧ w = 6) (hi : i = nI N) (hN : N ≤ 100000)
    (kk : V g d M P sz' u' n ls (.ref sz :: st) (va_up h sz (.inl (tk, N, fun _ => 0))) (sz + 1) (u + N)) : V g d M P sz' u' pc ls (.int i :: st) h sz u := by
  have k1 := kk.1
  have k2 := kk.2.1
  refine ⟨by omega, by omega, fun p e R s m args below meth c H locs cells slots Q arr C S F L h1 h2 K => ?_⟩
  obtain ⟨hd, rfl, -⟩ := mDec C hf
  subst hi
  subst hty
  have hw : (Cond.arrayClass (newarray.typeOf at0)).before args s = true := by
    have ho := mOther_ok
    have hx : ∀ (j : Nat) (x : Nat) (y : Option Cond), mOtherI[j]? = some x → [some (Cond.instanceMethod objectInit), some (.code objectInit ⟨#[0xb1]⟩ 1 none), some (.native arraycopyName), some (.static arraycopyName), some (.initialized "java/lang/System"), some (.arrayClass .int), some (.arrayClass .boolean), some (.arrayOver (.object "EarlyBinder$Scene"))][j]? = some y → lw_tbl[x]? = y := by
      intro j x y hj hy
      rw [← ho, List.getElem?_map, hj] at hy
      exact Option.some.inj hy
    rcases hk with ⟨e1, -, -⟩ | ⟨e1, -, -⟩
    · rw [e1]; exact mGwB C (hx 5 _ _ rfl rfl) rfl
    · rw [e1]; exact mGwB C (hx 6 _ _ rfl rfl) rfl
  have hcl : (nI N).toNatClampNeg = N := nI_clamp (by omega)
  have hcb : N * componentBytes (newarray.typeOf at0) ≤ 536870912 := by
    rcases hk with ⟨e1, -, -⟩ | ⟨e1, -, -⟩ <;> rw [e1] <;> simp [componentBytes] <;> omega
  show W p (gL g) e R s m args below meth c H locs cells slots Q (F0 m pc arr (.int (nI N) :: st.map (mRl g)))
  refine va_newaK C.1 C.2.1 hw rfl hd rfl (nI_pos (by omega)) hcl hcb (by omega) (by omega) S.2.1 fun H1 cA e1 z1 o1 hAr hNm => ?_
  have hsz : mAd g sz = gz g + sz := by unfold mAd; rw [if_neg (by have := S.1; omega)]
  have S1 : mSim g (va_up h sz (.inl (tk, N, fun _ => 0))) (sz + 1) H1 := by
    refine S.new ?_ (by rw [z1, S.2.1]) (fun q hq => o1 q (by rw [← S.2.1]; exact hq))
    show H1[gz g + sz]? = some (vp_cell (if tk = 0 then gI g else gZ g) (N, .inl fun _ => 0))
    rw [e1]
    rcases hk with ⟨e2, e3, -⟩ | ⟨e2, e3, -⟩
    · subst e3
      rw [e2] at hNm
      have : cA = gI g := mKidx C.2.2.2.2.2.2.1 (i := 0) (q := (gI g, .int)) rfl hNm rfl
      subst this
      rw [e2]; rfl
    · subst e3
      rw [e2] at hNm
      have : cA = gZ g := mKidx C.2.2.2.2.2.2.1 (i := 1) (q := (gZ g, .boolean)) rfl hNm rfl
      subst this
      rw [e2]; rfl
  have F1 : va_S (mA g) s.heap H1 locs := ⟨Nat.le_trans F.1 (by rw [z1, S.2.1]; omega), fun q q1 q2 => (o1 q (by rw [← S.2.1]; exact Nat.lt_of_lt_of_le q1 F.1)).trans (F.2.1 q q1 q2), F.2.2⟩
  have K2 := kk.2.2 p e R s m args below meth c H1 locs (cells + 1) (slots + N) Q arr C S1 F1 L (by omega) (by omega) (fun r' h' H' locs' pc' arr' q1 q2 q3 q4 => by
    have := K r' h' H' locs' pc' arr' q1 q2 q3 q4
    rw [show cells + 1 + (sz' - (sz + 1)) = cells + (sz' - sz) by omega, show slots + N + (u' - (u + N)) = slots + (u' - u) by omega]
    exact this)
  have e2 : (Value.ref sz :: st).map (mRl g) = .ref (gz g + sz) :: st.map (mRl g) := by rw [← hsz]; rfl
  rw [e2] at K2
  exact K2
/-- a new row of Scenes -/
theorem V_anew {i w1 w2 w3 N : Nat} {x : Int32} (hf : mF M pc = some (.anewarray i, 3, n, t)) (hl : mLk2 mNewT M.1 i = some (5, w1, w2, w3)) (hi : x = nI N) (hN : N ≤ 100000)
    (kk : V g d M P sz' u' n ls (.ref sz :: st) (va_up h sz (cR N (fun _ => none))) (sz + 1) (u + N)) : V g d M P sz' u' pc ls (.int x :: st) h sz u := by
  have k1 := kk.1
  have k2 := kk.2.1
  refine ⟨by omega, by omega, fun p e R s m args below meth c H locs cells slots Q arr C S F L h1 h2 K => ?_⟩
  obtain ⟨hd, rfl, -⟩ := mDec C hf
  subst hi
  have hT := List.all_eq_true.mp mNewT_ok _ (mLk2_mem hl)
  unfold mNewOk at hT
  dsimp only at hT
  have hr : vwCl[5]? = some (RX5, TX5, 6) := rfl
  rw [hr] at hT
  simp only [Bool.and_eq_true, decide_eq_true_eq] at hT
  have hcl : (nI N).toNatClampNeg = N := nI_clamp (by omega)
  show W p (gL g) e R s m args below meth c H locs cells slots Q (F0 m pc arr (.int (nI N) :: st.map (mRl g)))
  refine W.anew C.1 C.2.1 C.2.2.2.2.1 (C := RX5) (mGwB C hT.1.1 rfl) (va_AO.use C.2.2.2.2.2.2.1.2.2) rfl hd rfl (nI_pos (by omega)) (by omega) (by omega) (by omega) fun cA kA comp f1 f2 f3 f4 => ?_
  rw [hcl]
  generalize hH1 : H.push ({ cls := cA, slots := Array.replicate N .null, vm := .none } : Cell) = H1
  have z1 : H1.size = H.size + 1 := by rw [← hH1, Array.size_push]
  have e1 : H1[H.size]? = some (arrV cA N (fun _ => .null)) := by rw [← hH1, Array.getElem?_push_size, ← arrV_new]
  have o1 : ∀ q : Nat, q < H.size → H1[q]? = H[q]? := fun q hq => by rw [← hH1, Array.getElem?_push, if_neg (Nat.ne_of_lt hq)]
  have hsz : mAd g sz = gz g + sz := by unfold mAd; rw [if_neg (by have := S.1; omega)]
  have S1 : mSim g (va_up h sz (cR N (fun _ => none))) (sz + 1) H1 := by
    refine S.new ?_ z1 o1
    have : cA = gS g := mKidx C.2.2.2.2.2.2.1 (i := 2) (q := (gS g, .object "EarlyBinder$Scene")) rfl f1 rfl
    subst this
    show H1[gz g + sz]? = some (vp_cell (gS g) (N, .inr (.inr (.inr (.inr fun i => (none : Option Nat).map (mAd g))))))
    rw [← S.2.1, e1]
    rfl
  have F1 : va_S (mA g) s.heap H1 locs := ⟨Nat.le_trans F.1 (by rw [z1]; omega), fun q q1 q2 => (o1 q (Nat.lt_of_lt_of_le q1 F.1)).trans (F.2.1 q q1 q2), F.2.2⟩
  have K2 := kk.2.2 p e R s m args below meth c H1 locs (cells + 1) (slots + N) Q arr C S1 F1 L (by omega) (by omega) (fun r' h' H' locs' pc' arr' q1 q2 q3 q4 => by
    have := K r' h' H' locs' pc' arr' q1 q2 q3 q4
    rw [show cells + 1 + (sz' - (sz + 1)) = cells + (sz' - sz) by omega, show slots + N + (u' - (u + N)) = slots + (u' - u) by omega]
    exact this)
  have e2 : (Value.ref sz :: st).map (mRl g) = .ref H.size :: st.map (mRl g) := by rw [S.2.1, ← hsz]; rfl
  rw [e2] at K2
  exact K2
/-- a Scene put into a row of Scenes -/
theorem V_aastore {a N j v : Nat} {f : Nat → Option Nat} {i : Int32} {vs : List Value} (hf : mF M pc = some (.aastore, 1, n, t)) (hh : h a = cR N f) (hv : h v = cO 5 vs) (hi : i = nI j) (hj : j < N) (hN : N < 2 ^ 31) (kk : V g d M P sz' u' n ls st (va_up h a (cR N (va_up f j (some v)))) sz u) : V g d M P sz' u' pc ls (.ref v :: .int i :: .ref a :: st) h sz u := by
  refine ⟨kk.1, kk.2.1, fun p e R s m args below meth c H locs cells slots Q arr C S F L h1 h2 K => ?_⟩
  obtain ⟨hd, rfl, -⟩ := mDec C hf
  obtain ⟨a1, a2, had, hat⟩ := S.at hh cR_bad
  obtain ⟨v1, v2, hvd, hvt⟩ := S.at hv cO_bad
  show W p (gL g) e R s m args below meth c H locs cells slots Q (F0 m pc arr (.ref (mAd g v) :: .int i :: .ref (mAd g a) :: st.map (mRl g)))
  rw [had, hvd]
  subst hi
  obtain ⟨r', hr', cellV, g1, g2, g3, -⟩ := hvt
  have hK := C.2.2.2.2.2.2.1.1
  have hcls := (hK.1 5 _ (rfl : vwCl[5]? = some (RX5, TX5, 6))).2
  obtain ⟨kA, comp, k1, k2, k3, -⟩ := (hK.2 2 (gS g, .object "EarlyBinder$Scene") rfl).2
  have hcomp : comp = (gD g).1 5 := Option.some.inj (k3.symm.trans hcls.1)
  subst hcomp
  obtain ⟨kC, hkC, hkd⟩ := hcls.2
  have hat : H[gz g + a]? = some (vp_cell (gS g) (N, .inr (.inr (.inr (.inr fun i => (f i).map (mAd g)))))) := hat
  refine W.aast C.1 C.2.1 hat (fun q h => by cases h) (fun h => by cases h) k1 k2 rfl hkC ⟨nI_pos (by omega), by show _ < (arrV _ _ _).slots.size; rw [arrV_size, nI_clamp (by omega)]; exact hj⟩ g1 (fun q h => by rw [g3] at h; cases h) (by rw [g2]; exact hkC) (by rw [g2]; exact va_assign ⟨hcls.1, kC, hkC, hkd⟩) rfl rfl hd fun H1 e1 z oq => ?_
  refine kk.2.2 p e R s m args below meth c H1 _ cells slots Q arr C (S.put a1 a2 ?_ z oq) (mS_put F a1 z oq) L h1 h2 K
  show H1[gz g + a]? = some (vp_cell (gS g) (N, .inr (.inr (.inr (.inr fun i => (va_up f j (some v) i).map (mAd g))))))
  rw [e1, nI_clamp (by omega), vp_cell_q, vp_cell_q, arrV_store]
  congr 2
  funext q
  by_cases hq : q = j
  · subst hq; simp [updV, va_up, va_rf, hvd]
  · simp [updV, va_up, hq]
theorem mOth (j : Nat) {x : Nat} {y : Option Cond} (hj : mOtherI[j]? = some x) (hy : [some (Cond.instanceMethod objectInit), some (.code objectInit ⟨#[0xb1]⟩ 1 none), some (.native arraycopyName), some (.static arraycopyName), some (.initialized "java/lang/System"), some (.arrayClass .int), some (.arrayClass .boolean), some (.arrayOver (.object "EarlyBinder$Scene"))][j]? = some y) : lw_tbl[x]? = y := by
  rw [← mOther_ok, List.getElem?_map, hj] at hy
  exact Option.some.inj hy
/-- Object's own constructor -/
theorem V_objInit {i w a : Nat} (hf : mF M pc = some (.invokespecial i, 3, n, t)) (hl : mLk2 mObjT M.1 i = some w) (hd1 : 1 ≤ d) (hst : (st.map fun v => v.category).sum ≤ 8) (kk : V g d M P sz' u' n ls st h sz u) : V g d M P sz' u' pc ls (.ref a :: st) h sz u :=
  V_op kk fun p e R s m args below meth c H locs cells slots Q arr C S F L kq => by
    obtain ⟨hd, rfl, -⟩ := mDec C hf
    have h1 := of_decide_eq_true (List.all_eq_true.mp mObjT_ok _ (mLk2_mem hl))
    have hfr := C.2.2.2.2.2.2.2.2.2.2.1
    have hlo := C.2.2.2.2.2.2.2.2.2.2.2.1
    refine W.objInit C.1 C.2.1 C.2.2.2.2.1 (mGwB C h1 rfl) (mGwB C (mOth 0 rfl rfl) rfl) (mGwB C (mOth 1 rfl rfl) rfl) rfl (by rw [C.2.2.1]; exact L.2.1) rfl hd (by omega) ?_ kq
    show 2 * 0 + ((st.map (mRl g)).map fun v => v.category).sum + 12 ≤ R.locals
    rw [List.map_map, show ((fun v : Value => v.category) ∘ mRl g) = (fun v => v.category) from funext fun v => mRl_cat g v]
    omega
/-- System.arraycopy of ints -/
theorem V_copy {i w a0 a N0 N1 sp dp k : Nat} {f0 f1 : Nat → Int32} (hf : mF M pc = some (.invokestatic i, 3, n, t)) (hl : mLk2 mCpyT M.1 i = some w) (h0 : h a0 = cI N0 f0) (h1 : h a = cI N1 f1) (hk0 : sp + k ≤ N0) (hk1 : dp + k ≤ N1) (hN0 : N0 < 2 ^ 31) (hN1 : N1 < 2 ^ 31) (hd1 : 1 ≤ d) (hst : (st.map fun v => v.category).sum ≤ 8)
    (hw : nativeFrameWords "java/lang/System" "arraycopy" 5 ≤ 20) (kk : V g d M P sz' u' n ls st (va_up h a (cI N1 (va_cpy f0 f1 sp dp k))) sz u) : V g d M P sz' u' pc ls (.int (nI k) :: .int (nI dp) :: .ref a :: .int (nI sp) :: .ref a0 :: st) h sz u := by
  refine ⟨kk.1, kk.2.1, fun p e R s m args below meth c H locs cells slots Q arr C S F L b1 b2 K => ?_⟩
  obtain ⟨hd, rfl, -⟩ := mDec C hf
  obtain ⟨p1, p2, had0, hat0⟩ := S.at h0 cI_bad
  obtain ⟨a1, a2, had, hat⟩ := S.at h1 cI_bad
  have hm := of_decide_eq_true (List.all_eq_true.mp mCpyT_ok _ (mLk2_mem hl))
  have hfr := C.2.2.2.2.2.2.2.2.2.2.1
  have hlo := C.2.2.2.2.2.2.2.2.2.2.2.1
  have hK := C.2.2.2.2.2.2.1.1
  show W p (gL g) e R s m args below meth c H locs cells slots Q (F0 m pc arr (.int (nI k) :: .int (nI dp) :: .ref (mAd g a) :: .int (nI sp) :: .ref (mAd g a0) :: st.map (mRl g)))
  rw [had, had0]
  intro T hT X
  have hc0 : H[gz g + a0]? = some (vp_cell (gI g) (N0, .inl f0)) := hat0
  have hc1 : H[gz g + a]? = some (vp_cell (gI g) (N1, .inl f1)) := hat
  obtain ⟨-, k0, hk0', cm0, hkk0⟩ := (hK.2 0 (gI g, .int) rfl).1 N0 (fun j => .int (f0 j))
  obtain ⟨-, k1, hk1', cm1, hkk1⟩ := (hK.2 0 (gI g, .int) rfl).1 N1 (fun j => .int (f1 j))
  have c1 : (nI sp).toNatClampNeg = sp := nI_clamp (by omega)
  have c2 : (nI dp).toNatClampNeg = dp := nI_clamp (by omega)
  have c3 : (nI k).toNatClampNeg = k := nI_clamp (by omega)
  have t1 : (nI sp).toInt = (sp : Int) := nI_toInt (by omega)
  have t2 : (nI dp).toInt = (dp : Int) := nI_toInt (by omega)
  have t3 : (nI k).toInt = (k : Int) := nI_toInt (by omega)
  obtain ⟨vm', X', step⟩ := X.arraycopy C.1 C.2.2.2.2.1 (mGwB C hm rfl) (mGwB C (mOth 2 rfl rfl) rfl) (mGwB C (mOth 3 rfl rfl) rfl) (mGwB C (mOth 4 rfl rfl) rfl) (src := gz g + a0) (dst := gz g + a) (cs := vp_cell (gI g) (N0, .inl f0)) (cd := vp_cell (gI g) (N1, .inl f1)) (srcPos := nI sp) (destPos := nI dp) (n := nI k) (by rw [hT]; exact hc0) (by rw [hT]; exact hc1)
    (fun _ h => by cases h) (fun _ h => by cases h) (fun h => by cases h) (fun h => by cases h) hk0' hk1' hkk0 hkk1 (by simp [refKind]) (nI_pos (by omega)) (nI_pos (by omega)) (nI_pos (by omega))
    (by rw [t1, t3]; show ¬ _ > ((arrV (gI g) N0 (fun j => .int (f0 j))).slots.size : Int); rw [arrV_size]; omega)
    (by rw [t2, t3]; show ¬ _ > ((arrV (gI g) N1 (fun j => .int (f1 j))).slots.size : Int); rw [arrV_size]; omega)
    (fun vm₁ _ i hi => by
      have e : (vp_cell (gI g) (N0, .inl f0)).slots.getD ((nI sp).toNatClampNeg + i) .null = .int (f0 ((nI sp).toNatClampNeg + i)) := by
        show (arrV (gI g) N0 (fun j => .int (f0 j))).slots.getD _ _ = _
        rw [Array.getD_eq_getD_getElem?, arrV_read _ _ (by rw [c3] at hi; rw [c1]; omega)]
        rfl
      refine ⟨?_, ?_⟩
      · rw [e]; rfl
      · rw [e]; exact trivial)
    (g := F0 m pc arr (.int (nI k) :: .int (nI dp) :: .ref (gz g + a) :: .int (nI sp) :: .ref (gz g + a0) :: st.map (mRl g))) rfl (by rw [C.2.2.1]; exact L.2.1) (rest := st.map (mRl g)) rfl (by rw [C.2.1]; exact hd) (by omega) (by
      show 2 * 0 + ((st.map (mRl g)).map fun v => v.category).sum + _ ≤ _
      rw [List.map_map, show ((fun v : Value => v.category) ∘ mRl g) = (fun v => v.category) from funext fun v => mRl_cat g v]
      omega)
  have e1 : copied (vp_cell (gI g) (N0, .inl f0)) (vp_cell (gI g) (N1, .inl f1)) (nI sp) (nI dp) (nI k) = vp_cell (gI g) (N1, .inl (va_cpy f0 f1 sp dp k)) := by
    have := va_copied (fun z => .int z) (gI g) (gI g) (n1 := N1) (dp := (nI dp).toNatClampNeg) f0 f1 (show (nI sp).toNatClampNeg + (nI k).toNatClampNeg ≤ N0 by rw [c1, c3]; exact hk0)
    refine Eq.trans this ?_
    rw [c1, c2, c3]
    rfl
  rw [e1] at X' step
  have hl2 : gz g + a < H.size := (Array.getElem?_eq_some_iff.mp hc1).1
  have hheap : ((T.setVm vm').setCell (gz g + a) (vp_cell (gI g) (N1, .inl (va_cpy f0 f1 sp dp k)))).heap = H.setIfInBounds (gz g + a) (vp_cell (gI g) (N1, .inl (va_cpy f0 f1 sp dp k))) := by rw [← hT]; rfl
  have oq : ∀ q : Nat, q ≠ gz g + a → (H.setIfInBounds (gz g + a) (vp_cell (gI g) (N1, .inl (va_cpy f0 f1 sp dp k))))[q]? = H[q]? := fun q hq => by simp [Array.getElem?_setIfInBounds, Ne.symm hq]
  obtain ⟨t2, y1, y2⟩ := kk.2.2 p e R s m args below meth c _ _ cells slots Q arr C (S.put a1 a2 (show (H.setIfInBounds (gz g + a) _)[gz g + a]? = some _ by simp [Array.getElem?_setIfInBounds, hl2]) (by simp) oq) ⟨by simp; exact F.1, fun q g1 g2 => by
      rw [oq q (fun e => g2 (by rw [e]; show gz g < gz g + a; omega))]
      exact F.2.1 q g1 g2, fun q hq => by
      rcases List.mem_append.mp hq with h | h
      · exact F.2.2 q h
      · obtain ⟨z, -, hz⟩ := List.mem_map.mp h
        rw [← hz]
        show gz g < gz g + a
        omega⟩ L b1 b2 K _ hheap X'
  exact ⟨t2, step t2 y1, y2⟩
/-- the ends -/
theorem V_ireturn {ty : FieldType} {v : Int32} (hf : mF M pc = some (.ireturn, 1, n, t)) (hr : mMr M = some ty) (hn : narrow ty (.int v) = .int v) (hP : P (some (.int v)) h) : V g d M P sz u pc ls [.int v] h sz u :=
  ⟨Nat.le_refl _, Nat.le_refl _, fun p e R s m args below meth c H locs cells slots Q arr C S F L h1 h2 K => by
    obtain ⟨hd, -, -⟩ := mDec C hf
    have := K (some (.int v)) h H locs pc arr hP S F (Or.inr (Or.inl ⟨ty, v, hr, rfl, hn, hd⟩))
    rw [Nat.sub_self, Nat.sub_self] at this
    exact this⟩
theorem V_return (hf : mF M pc = some (.return_, 1, n, t)) (hr : mMr M = none) (hP : P none h) : V g d M P sz u pc ls [] h sz u :=
  ⟨Nat.le_refl _, Nat.le_refl _, fun p e R s m args below meth c H locs cells slots Q arr C S F L h1 h2 K => by
    obtain ⟨hd, -, -⟩ := mDec C hf
    have := K none h H locs pc arr hP S F (Or.inl ⟨hr, rfl, hd⟩)
    rw [Nat.sub_self, Nat.sub_self] at this
    exact this⟩
theorem V_areturn {nm : String} {a : Nat} (hf : mF M pc = some (.areturn, 1, n, t)) (hr : mMr M = some (.object nm)) (hP : P (some (.ref a)) h) : V g d M P sz u pc ls [.ref a] h sz u :=
  ⟨Nat.le_refl _, Nat.le_refl _, fun p e R s m args below meth c H locs cells slots Q arr C S F L h1 h2 K => by
    obtain ⟨hd, -, -⟩ := mDec C hf
    have := K (some (.ref a)) h H locs pc arr hP S F (Or.inr (Or.inr ⟨nm, a, hr, rfl, hd⟩))
    rw [Nat.sub_self, Nat.sub_self] at this
    exact this⟩
theorem V.mono {P2 : Option Value → mH → Prop} (hV : V g d M P2 sz' u' pc ls st h sz u) (hP : ∀ r h', P2 r h' → P r h') : V g d M P sz' u' pc ls st h sz u :=
  ⟨hV.1, hV.2.1, fun p e R s m args below meth c H locs cells slots Q arr C S F L h1 h2 K => hV.2.2 p e R s m args below meth c H locs cells slots Q arr C S F L h1 h2 (fun r h' H' locs' pc' arr' q => K r h' H' locs' pc' arr' (hP r h' q))⟩
end mV3
/-! ===== contracts ===== -/
def mRm (d mc ms : Nat) : Room := { frames := d, cells := mc, slots := ms, locals := 40 * d }
def mQ (g : mG) (P : Option Value → mH → Prop) (sz' : Nat) : Array Value → State → Outcome → State → Prop := fun _ st o t => (∃ (r : Option Value) (h' : mH), o = .returned (r.map (mRl g)) ∧ P r h' ∧ mSim g h' sz' t.heap) ∧ va_F (mA g) st t
def mPc (g : mG) (args : List Value) (h : mH) (sz : Nat) : Array Value → State → Prop := va_Pc (args.map (mRl g)) (fun U => mSim g h sz U.heap ∧ mKK g U)
/-- method M, called with these arguments at this heap, ends; P holds of its answer and the heap -/
def Mt (g : mG) (d : Nat) (M : mM) (args : List Value) (h : mH) (sz u : Nat) (P : Option Value → mH → Prop) (sz' u' : Nat) : Prop :=
  sz ≤ sz' ∧ u ≤ u' ∧ Met (gL g) (mMy M) (mWs M) (mRm d (sz' - sz) (u' - u)) (mPc g args h sz) (mQ g P sz') (sz' - sz) (u' - u) (mA g)
theorem Mt.mono {g : mG} {d : Nat} {M : mM} {args : List Value} {h : mH} {sz u : Nat} {P P2 : Option Value → mH → Prop} {sz' u' : Nat} (hm : Mt g d M args h sz u P2 sz' u') (hP : ∀ r h', P2 r h' → P r h') : Mt g d M args h sz u P sz' u' := by
  refine ⟨hm.1, hm.2.1, ?_⟩
  intro p e ha hc hk s m a below hf happ hp hK
  obtain ⟨n, o, h1, h2, h3, h4, h5⟩ := hm.2.2 p e ha hc hk s m a below hf happ hp hK
  obtain ⟨⟨r, h', e1, e2, e3⟩, e4⟩ := h4
  exact ⟨n, o, h1, h2, h3, ⟨⟨r, h', e1, hP r h' e2, e3⟩, e4⟩, h5⟩
/-- the locals at the entry -/
def mSl : List Value → List Value
  | [] => []
  | v :: t => v :: cond (decide (v.category = 2)) (.retAddr 0 :: mSl t) (mSl t)
def mEn (M : mM) (args : List Value) : List Value := mSl args ++ List.replicate (mMl M - (mSl args).length) (.retAddr 0)
theorem mSl_len (g : mG) : ∀ vs : List Value, (lg_sl (vs.map (mRl g))).length = (mSl vs).length
  | [] => rfl
  | v :: t => by
    have ih := mSl_len g t
    have e : lg_sl ((v :: t).map (mRl g)) = (if (mRl g v).category = 2 then [Slot.val (mRl g v), .second] else [.val (mRl g v)]) ++ lg_sl (t.map (mRl g)) := by simp [lg_sl]
    rw [e, List.length_append, ih, mRl_cat]
    by_cases hc : v.category = 2
    · rw [if_pos hc]; simp [mSl, hc]; omega
    · rw [if_neg hc]; simp [mSl, hc]; omega
theorem mSl_args (g : mG) : ∀ (vs : List Value) (i k : Nat) (v : Value), (mSl vs)[k]? = some v → mOkv v = true → (i + k, mRl g v) ∈ lv_args i (vs.map (mRl g))
  | [], i, k, v, h, _ => by cases h
  | w :: t, i, k, v, h, ho => by
    show (i + k, mRl g v) ∈ (i, mRl g w) :: lv_args (if (mRl g w).category = 2 then i + 2 else i + 1) (t.map (mRl g))
    rw [mRl_cat]
    cases k with
    | zero =>
      have e : w = v := Option.some.inj h
      subst e
      exact List.mem_cons_self
    | succ k =>
      refine List.mem_cons_of_mem _ ?_
      by_cases hc : w.category = 2
      · rw [if_pos hc]
        have h : (Value.retAddr 0 :: mSl t)[k]? = some v := by
          have := h
          unfold mSl at this
          rw [decide_eq_true hc] at this
          exact this
        cases k with
        | zero => cases h; cases ho
        | succ k =>
          have := mSl_args g t (i + 2) k v h ho
          rw [show i + (k + 1 + 1) = i + 2 + k by omega]
          exact this
      · rw [if_neg hc]
        have h : (mSl t)[k]? = some v := by
          have := h
          unfold mSl at this
          rw [decide_eq_false hc] at this
          exact this
        have := mSl_args g t (i + 1) k v h ho
        rw [show i + (k + 1) = i + 1 + k by omega]
        exact this
theorem mLR_entry {g : mG} {M : mM} {args : List Value} (hlen : (mSl args).length ≤ mMl M) : mLR g M ((lg_sl (args.map (mRl g)) ++ List.replicate (mMl M - (lg_sl (args.map (mRl g))).length) Slot.unset).toArray) (mEn M args) := by
  refine ⟨by simp [mEn]; omega, lv_less (lv_entry (args.map (mRl g)) (n := mMl M) (by rw [mSl_len]; exact hlen)) fun q hq => ?_⟩
  obtain ⟨k, v, h1, h2, h3⟩ := mLA_mem.mp hq
  rw [h3]
  unfold mEn at h1
  by_cases hk : k < (mSl args).length
  · rw [List.getElem?_append_left hk] at h1
    exact mSl_args g args 0 k v h1 h2
  · rw [List.getElem?_append_right (by omega)] at h1
    have := List.getElem?_replicate (a := Value.retAddr 0) (n := mMl M - (mSl args).length) (i := k - (mSl args).length)
    rw [this] at h1
    split at h1
    · cases h1; cases h2
    · cases h1
theorem Mt.of {g : mG} {d : Nat} {M : mM} {args ls : List Value} {h : mH} {sz u : Nat} {P : Option Value → mH → Prop} {sz' u' : Nat} (hw : mWdOk M = true) (hx : mCwOk M) (hc : mCodeOk M = true) (hM : Nat.beq M.1 8 = false) (hlen : Nat.ble (mSl args).length (mMl M) = true) (he : mEn M args = ls)
    (hV : V g d M P sz' u' 0 ls [] h sz u) : Mt g d M args h sz u P sz' u' := by
  subst he
  have hlen := Nat.le_of_ble_eq_true hlen
  have hM8 : ¬ M.1 = 8 := fun q => by rw [q] at hM; cases hM
  unfold mWdOk at hw
  simp only [Bool.and_eq_true, decide_eq_true_eq] at hw
  obtain ⟨⟨⟨⟨⟨⟨⟨w1, w2⟩, w3⟩, w4⟩, w5⟩, w6⟩, w7⟩, w8⟩ := hw
  refine ⟨hV.1, hV.2.1, ?_⟩
  refine va_MetF (cc := mMb M) (maxL := mMl M) (ret := mMr M) (mPlain (by simpa using w5)) rfl ?_
  intro p e s m a below meth c s₁ B hml hp
  obtain ⟨rfl, hS, hK⟩ := hp
  have hts := atoms_spec (ws := mWs M) B.pre
  rw [lg_entry_eq]
  have hw4 : s.vm.findClass (mRn M.1) = some m.cls := by rw [← w4]; exact findClass_of_methodNamed B.named
  refine hV.2.2 p e (mRm d (sz' - sz) (u' - u)) s m _ below meth c s.heap [] 0 0 _ _ ⟨B.exec, B.bytes, hml, B.returns, hw4, fun w hw => hts w (List.mem_cons_of_mem _ hw), hK, B.notSynchronized, (name_of_methodNamed B.named B.method).1, hc, Nat.le_refl _, Nat.le_refl _, by rw [hS.2.1]; have := hS.1; omega, fun q => absurd q hM8⟩ hS va_S.rf (mLR_entry hlen) (by show 0 + _ ≤ sz' - sz; omega) (by show 0 + _ ≤ u' - u; omega) ?_
  intro r h' H' locs' pc' arr' hPr hS' hF' hret
  rw [Nat.zero_add, Nat.zero_add]
  have hq : ∀ t : State, t.heap = H' → s.WarmedH t.vm → mQ g P sz' (args.map (mRl g)).toArray s (.returned (r.map (mRl g))) t := fun t ht _ => ⟨⟨r, h', rfl, hPr, by rw [ht]; exact hS'⟩, hF'.F ht⟩
  rcases hret with ⟨r1, rfl, r2⟩ | ⟨ty, v, r1, rfl, r2, r3⟩ | ⟨nm, a, r1, rfl, r2⟩
  · exact W.vret B.exec B.bytes (B.returns.trans r1) hq hF'.2.2 r2
  · exact W.zret B.exec B.bytes (B.returns.trans r1) r2 hq hF'.2.2 r3
  · exact W.aret B.exec B.bytes (B.returns.trans r1) (Or.inl ⟨nm, rfl⟩) (Or.inr ⟨_, rfl⟩) hq hF'.2.2 r2
section mV4
variable {g : mG} {d : Nat} {M : mM} {P : Option Value → mH → Prop} {sz' u' pc n t : Nat} {ls st : List Value} {h : mH} {sz u : Nat}
theorem mPc_blind {args : List Value} : FrameBlind (mPc g args h sz) := fun a U f mk q => ⟨q.1, q.2.1, mKK.same (u := U) (U := U.calling f mk a) rfl q.2.2⟩
theorem mGood {M2 : mM} (hx : mCwOk M2) : GoodIn mGw (mWs M2) := by
  intro w hw
  rcases List.mem_cons.mp hw with rfl | hw
  · exact ⟨mGw_in hx rfl, good_of_word rfl⟩
  · exact ⟨hw, good_of_word (List.mem_filter.mp hw).2⟩
theorem mRun {p : Program} {e : Env} {R : Room} {s : State} {m : MethodId} {args : Array Value} {below : List Frame} {meth : Method} {c : Code} {H : Heap} {locs : List Loc} {cells slots mc ms : Nat} {Q : State → Prop} {arr : Array Slot} {st0 rest : List Value} {P1 : Option Value → mH → Prop} {sz1 : Nat} {a : Array Value}
    (hr : va_Run p (gL g) e R s m args below meth c H locs cells slots mc ms (F0 m pc arr st0) rest (mQ g P1 sz1 a) (mA g)) (hS : va_S (mA g) s.heap H locs)
    (kk : ∀ (r : Option Value) (h1 : mH) (H1 : Heap) (locs1 : List Loc), P1 r h1 → mSim g h1 sz1 H1 → va_S (mA g) s.heap H1 locs1 → W p (gL g) e R s m args below meth c H1 locs1 (cells + mc) (slots + ms) Q (F0 m (pc + 3) arr ((r.map (mRl g)).toList ++ rest))) : W p (gL g) e R s m args below meth c H locs cells slots Q (F0 m pc arr st0) := by
  intro T hT X
  obtain ⟨v, st₀, t, T', L, h0, X', hL, e1, e2, ⟨⟨r, h1, hv, hp, hb⟩, hz, hk⟩, stp⟩ := hr T hT X
  cases hv
  rw [h0] at hz hk
  rw [← e1] at hb
  obtain ⟨t2, a1, b1⟩ := kk r h1 T'.heap (locs ++ L) hp hb
    ⟨Nat.le_trans hS.1 (by rw [e1]; exact hz), fun q h1 h2 => by rw [e1, hk q (Nat.lt_of_lt_of_le h1 hS.1) h2]; exact hS.2.1 q h1 h2, fun q hq => by
      rcases List.mem_append.mp hq with h | h
      · exact hS.2.2 q h
      · exact hL q h⟩ T' rfl X'
  exact ⟨t2, stp t2 a1, b1⟩
theorem mSit_at {i k w : Nat} {M2 : mM} (hs : mSit M.1 i = some (k, w, M2)) : (k ≤ 2 → lw_tbl[w]? = some (.methodLink (mRn M.1) i (mMy M2))) ∧ (2 < k → lw_tbl[w]? = some (.methodLinkNest (mRn M.1) i (mMy M2) RX6)) := by
  have h1 := List.all_eq_true.mp mSitT_ok _ (mLk2_mem hs)
  unfold mSitOk at h1
  dsimp only at h1
  constructor
  · intro hk
    rw [Nat.ble_eq_true_of_le hk] at h1
    exact of_decide_eq_true h1
  · intro hk
    have : Nat.ble k 2 = false := by
      cases hb : Nat.ble k 2 with
      | false => rfl
      | true => exact absurd (Nat.le_of_ble_eq_true hb) (by omega)
    rw [this] at h1
    exact of_decide_eq_true h1
/-- what stands behind a call -/
theorem V_after {d1 sz1 u1 : Nat} {M2 : mM} {P1 : Option Value → mH → Prop} {As rest st0 : List Value} {h0 : mH} (hm : Mt g d1 M2 As h0 sz u P1 sz1 u1) (hdm : d1 + 1 ≤ d)
    (kk : ∀ (r : Option Value) (h1 : mH), P1 r h1 → V g d M P sz' u' n ls (r.toList ++ rest) h1 sz1 u1) (h1 : sz1 ≤ sz') (h2 : u1 ≤ u')
    (hs : ∀ (p : Program) (e : Env) (R : Room) (s : State) (m : MethodId) (args : Array Value) (below : List Frame) (meth : Method) (c : Code) (H : Heap) (locs : List Loc) (cells slots : Nat) (arr : Array Slot), mCtx g d M p R s m args meth c → mSim g h0 sz H → mLR g M arr ls → pc + 3 = n → cells + (sz1 - sz) ≤ R.cells → slots + (u1 - u) ≤ R.slots → d1 + 1 ≤ R.frames → 40 * (d1 + 1) ≤ R.locals →
      ∃ a, va_Run p (gL g) e R s m args below meth c H locs cells slots (sz1 - sz) (u1 - u) (F0 m pc arr (st0.map (mRl g))) (rest.map (mRl g)) (mQ g P1 sz1 a) (mA g))
    (hn : ∀ (p : Program) (R : Room) (s : State) (m : MethodId) (args : Array Value) (meth : Method) (c : Code), mCtx g d M p R s m args meth c → pc + 3 = n) : V g d M P sz' u' pc ls st0 h0 sz u := by
  have m1 := hm.1
  have m2 := hm.2.1
  refine ⟨by omega, by omega, fun p e R s m args below meth c H locs cells slots Q arr C S F L b1 b2 K => ?_⟩
  have e0 := hn p R s m args meth c C
  have hfr := C.2.2.2.2.2.2.2.2.2.2.1
  have hlo := C.2.2.2.2.2.2.2.2.2.2.2.1
  obtain ⟨a, hr⟩ := hs p e R s m args below meth c H locs cells slots arr C S L e0 (by omega) (by omega) (by omega) (by omega)
  refine mRun hr F fun r h1' H1 locs1 q1 q2 q3 => ?_
  have k1 := (kk r h1' q1).2.2 p e R s m args below meth c H1 locs1 (cells + (sz1 - sz)) (slots + (u1 - u)) Q arr C q2 q3 L (by omega) (by omega) (fun r' h' H' locs' pc' arr' z1 z2 z3 z4 => by
    have := K r' h' H' locs' pc' arr' z1 z2 z3 z4
    rw [show cells + (sz1 - sz) + (sz' - sz1) = cells + (sz' - sz) by omega, show slots + (u1 - u) + (u' - u1) = slots + (u' - u) by omega]
    exact this)
  rw [e0]
  rw [List.map_append] at k1
  have e3 : (r.map (mRl g)).toList = r.toList.map (mRl g) := by cases r <;> rfl
  rw [e3]
  exact k1
theorem mArgs {M2 : mM} {k : Nat} (h : Option.map (fun d => d.parameters.length) (parseMethodDescriptor (mMy M2).desc) = some k) : Option.map (fun d => d.parameters.length) (parseMethodDescriptor (mMy M2).desc) = some k := h
theorem mCat (g : mG) (st : List Value) : ((st.map (mRl g)).map fun v => v.category).sum = (st.map fun v => v.category).sum := by
  rw [List.map_map, show ((fun v : Value => v.category) ∘ mRl g) = (fun v => v.category) from funext fun v => mRl_cat g v]
theorem mWd_spec {M2 : mM} (hw : mWdOk M2 = true) : lw_tbl[(mMw M2).2.1]? = some (cond (mMs M2) (.static (mMy M2)) (.instanceMethod (mMy M2))) ∧ lw_tbl[(mMw M2).2.2.2]? = some (.initialized (mMy M2).cls) ∧ (mMs M2 = false → (mMy M2).name = "<init>" ∨ lw_tbl[(mMw M2).2.2.1]? = some (.selects (mMy M2).cls (mMy M2) (mMy M2))) ∧ (mMy M2).cls = mRn M2.1 ∧ mMl M2 ≤ 20 ∧ (mMy M2).cls ≠ "java/lang/invoke/MethodHandle" ∧ (mMy M2).cls ≠ "java/lang/invoke/VarHandle" := by
  unfold mWdOk at hw
  simp only [Bool.and_eq_true, decide_eq_true_eq] at hw
  obtain ⟨⟨⟨⟨⟨⟨⟨w1, w2⟩, w3⟩, w4⟩, w5⟩, w6⟩, w7⟩, w8⟩ := hw
  refine ⟨w1, w2, fun hs => ?_, w4, w6, w7, w8⟩
  rw [hs] at w3
  rcases (Bool.or_eq_true _ _).mp w3 with h | h
  · exact Or.inl (of_decide_eq_true h)
  · exact Or.inr (of_decide_eq_true h)
/-- a call of an object's method -/
theorem V_callV {i w d1 sz1 u1 a : Nat} {M2 : mM} {P1 : Option Value → mH → Prop} {As rest st0 fs : List Value} (hf : mF M pc = some (.invokevirtual i, 3, n, t)) (hs : mSit M.1 i = some (0, w, M2)) (hw : mWdOk M2 = true) (hx : mCwOk M2) (hsm : mMs M2 = false) (hni : ¬ (mMy M2).name = "<init>") (hlen : Option.map (fun d => d.parameters.length) (parseMethodDescriptor (mMy M2).desc) = some As.length)
    (hm : Mt g d1 M2 (.ref a :: As) h sz u P1 sz1 u1) (hd1 : d1 + 1 ≤ d) (hst : st0 = As.reverse ++ .ref a :: rest) (hh : h a = cO M2.1 fs) (hr8 : (rest.map fun v => v.category).sum ≤ 8) (h1 : sz1 ≤ sz') (h2 : u1 ≤ u')
    (kk : ∀ (r : Option Value) (h1 : mH), P1 r h1 → V g d M P sz' u' n ls (r.toList ++ rest) h1 sz1 u1) : V g d M P sz' u' pc ls st0 h sz u := by
  refine V_after hm hd1 kk h1 h2 ?_ (fun p R s m args meth c C => (mDec C hf).2.1)
  intro p e R s m args below meth c H locs cells slots arr C S L e0 b1 b2 b3 b4
  obtain ⟨hd, -, -⟩ := mDec C hf
  obtain ⟨w1, w2, w3, w4, w6, w7, w8⟩ := mWd_spec hw
  obtain ⟨a1, a2, had, hat⟩ := S.at hh cO_bad
  have hw3 := (w3 hsm).resolve_left hni
  rw [hsm] at w1
  have hlk := (mSit_at hs).1 (by decide)
  refine ⟨_, va_runV (Ts := mGw) (own := mRn M.1) (C := (mMy M2).cls) (bytes := mMb M2) (maxL := mMl M2) (ret := mMr M2) (As := As.map (mRl g)) (rest := rest.map (mRl g)) (b := gz g + a) (nL := mMl M) ⟨C.1, C.2.1, C.2.2.1, C.2.2.2.2.1, C.2.2.2.2.2.1⟩ hm.2.2
    (cwV As.length C.2.2.2.2.2.1 ?_ rfl rfl rfl ⟨rfl, w7, w8, hlen⟩ ⟨b3, ?_⟩) ?_ rfl (by rw [List.length_map]) L.2.1 ?_ ?_ hd ⟨b1, b2⟩⟩
  · intro x hx2
    rcases List.mem_append.mp hx2 with hx2 | hx2
    · rcases List.mem_cons.mp hx2 with rfl | hx2
      · exact ⟨mGw_in hlk rfl, good_of_word rfl⟩
      · rcases List.mem_cons.mp hx2 with rfl | hx2
        · exact ⟨mGw_in w1 rfl, good_of_word rfl⟩
        · rcases List.mem_cons.mp hx2 with rfl | hx2
          · exact ⟨mGw_in hw3 rfl, good_of_word rfl⟩
          · rcases List.mem_cons.mp hx2 with rfl | hx2
            · exact ⟨mGw_in w2 rfl, good_of_word rfl⟩
            · cases hx2
    · exact mGood hx x hx2
  · show 8 + (mMl M2 + 11) + 40 * d1 ≤ R.locals
    omega
  · refine ⟨mPc_blind, ?_, fun U hU hW => ⟨?_, by rw [hU]; exact S, C.2.2.2.2.2.2.1.warm hW⟩⟩
    · obtain ⟨r', h1', cell, g1, g2, g3, -⟩ := hat
      refine ⟨cell, g1, by rw [g3]; rfl, ?_⟩
      have := (C.2.2.2.2.2.2.1.1.1 M2.1 r' h1').2.1
      rw [(mCl_ty M2.1 r' h1').2.2] at this
      rw [w4, g2]
      exact this
    · rw [← had]; rfl
  · rw [hst, List.map_append, List.map_reverse, List.map_cons, ← had]; rfl
  · show 2 * 0 + _ ≤ 8
    rw [mCat]; omega
/-- a static call -/
theorem V_callS {i k w d1 sz1 u1 : Nat} {M2 : mM} {P1 : Option Value → mH → Prop} {As rest st0 : List Value} (hf : mF M pc = some (.invokestatic i, 3, n, t)) (hs : mSit M.1 i = some (k, w, M2)) (hk : k = 1 ∨ k = 3) (hw : mWdOk M2 = true) (hx : mCwOk M2) (hsm : mMs M2 = true) (hlen : Option.map (fun d => d.parameters.length) (parseMethodDescriptor (mMy M2).desc) = some As.length)
    (hm : Mt g d1 M2 As h sz u P1 sz1 u1) (hd1 : d1 + 1 ≤ d) (hst : st0 = As.reverse ++ rest) (hr8 : (rest.map fun v => v.category).sum ≤ 8) (h1 : sz1 ≤ sz') (h2 : u1 ≤ u')
    (kk : ∀ (r : Option Value) (h1 : mH), P1 r h1 → V g d M P sz' u' n ls (r.toList ++ rest) h1 sz1 u1) : V g d M P sz' u' pc ls st0 h sz u := by
  refine V_after hm hd1 kk h1 h2 ?_ (fun p R s m args meth c C => (mDec C hf).2.1)
  intro p e R s m args below meth c H locs cells slots arr C S L e0 b1 b2 b3 b4
  obtain ⟨hd, -, -⟩ := mDec C hf
  obtain ⟨w1, w2, w3, w4, w6, w7, w8⟩ := mWd_spec hw
  rw [hsm] at w1
  have hst2 : (F0 m pc arr (st0.map (mRl g))).stack = (As.map (mRl g)).reverse ++ rest.map (mRl g) := by show st0.map (mRl g) = _; rw [hst, List.map_append, List.map_reverse]
  have hc8 : 2 * (F0 m pc arr (st0.map (mRl g))).monitorRoom + ((rest.map (mRl g)).map fun v => v.category).sum ≤ 8 := by show 2 * 0 + _ ≤ 8; rw [mCat]; omega
  have hpre : PreS s H (mPc g As h sz) (As.map (mRl g)) := ⟨mPc_blind, fun U hU hW => ⟨rfl, by rw [hU]; exact S, C.2.2.2.2.2.2.1.warm hW⟩⟩
  have hR : (mRm d1 (sz1 - sz) (u1 - u)).frames + 1 ≤ R.frames ∧ 8 + (mMl M2 + 11) + (mRm d1 (sz1 - sz) (u1 - u)).locals ≤ R.locals := ⟨b3, by show 8 + (mMl M2 + 11) + 40 * d1 ≤ R.locals; omega⟩
  rcases hk with rfl | rfl
  · have hlk := (mSit_at hs).1 (by decide)
    exact ⟨_, va_runS (Ts := mGw) (own := mRn M.1) (bytes := mMb M2) (maxL := mMl M2) (ret := mMr M2) (As := As.map (mRl g)) (rest := rest.map (mRl g)) (nL := mMl M) ⟨C.1, C.2.1, C.2.2.1, C.2.2.2.2.1, C.2.2.2.2.2.1⟩ hm.2.2
      ⟨callB_of As.length C.2.2.2.2.2.1 (mGood hx) rfl rfl rfl (mGwB C w2 rfl) (mGwB C hlk rfl) ⟨w7, w8, hlen⟩ hR, mGwB C w1 rfl⟩ hpre rfl (by rw [List.length_map]) L.2.1 hst2 hc8 hd ⟨b1, b2⟩⟩
  · have hlk := (mSit_at hs).2 (by decide)
    exact ⟨_, va_runSN (Ts := mGw) (own := mRn M.1) (bytes := mMb M2) (maxL := mMl M2) (ret := mMr M2) (As := As.map (mRl g)) (rest := rest.map (mRl g)) (nL := mMl M) ⟨C.1, C.2.1, C.2.2.1, C.2.2.2.2.1, C.2.2.2.2.2.1⟩ hm.2.2
      ⟨va_cnB As.length C.2.2.2.2.2.1 (mGood hx) rfl rfl rfl (C.2.2.2.2.2.2.1.2.1 _ (List.mem_of_getElem? hlk) rfl) (mGwB C w2 rfl) ⟨w7, w8, hlen⟩ hR, mGwB C w1 rfl, trivial⟩ hpre rfl (by rw [List.length_map]) L.2.1 hst2 hc8 hd ⟨b1, b2⟩⟩
/-- a constructor called -/
theorem V_callI {i k w d1 sz1 u1 a : Nat} {M2 : mM} {P1 : Option Value → mH → Prop} {As rest st0 : List Value} (hf : mF M pc = some (.invokespecial i, 3, n, t)) (hs : mSit M.1 i = some (k, w, M2)) (hk : k = 2 ∨ k = 4) (hw : mWdOk M2 = true) (hx : mCwOk M2) (hsm : mMs M2 = false) (hrn : mMr M2 = none) (hni : (mMy M2).name = "<init>") (hlen : Option.map (fun d => d.parameters.length) (parseMethodDescriptor (mMy M2).desc) = some As.length)
    (hm : Mt g d1 M2 (.ref a :: As) h sz u P1 sz1 u1) (hd1 : d1 + 1 ≤ d) (hst : st0 = As.reverse ++ .ref a :: rest) (hr8 : (rest.map fun v => v.category).sum ≤ 8) (h1 : sz1 ≤ sz') (h2 : u1 ≤ u')
    (kk : ∀ (r : Option Value) (h1 : mH), P1 r h1 → V g d M P sz' u' n ls (r.toList ++ rest) h1 sz1 u1) : V g d M P sz' u' pc ls st0 h sz u := by
  refine V_after hm hd1 kk h1 h2 ?_ (fun p R s m args meth c C => (mDec C hf).2.1)
  intro p e R s m args below meth c H locs cells slots arr C S L e0 b1 b2 b3 b4
  obtain ⟨hd, -, -⟩ := mDec C hf
  obtain ⟨w1, w2, w3, w4, w6, w7, w8⟩ := mWd_spec hw
  rw [hsm] at w1
  have hst2 : (F0 m pc arr (st0.map (mRl g))).stack = (As.map (mRl g)).reverse ++ .ref (mAd g a) :: rest.map (mRl g) := by show st0.map (mRl g) = _; rw [hst, List.map_append, List.map_reverse]; rfl
  have hc8 : 2 * (F0 m pc arr (st0.map (mRl g))).monitorRoom + ((rest.map (mRl g)).map fun v => v.category).sum ≤ 8 := by show 2 * 0 + _ ≤ 8; rw [mCat]; omega
  have hpre : PreS s H (mPc g (.ref a :: As) h sz) (.ref (mAd g a) :: As.map (mRl g)) := ⟨mPc_blind, fun U hU hW => ⟨rfl, by rw [hU]; exact S, C.2.2.2.2.2.2.1.warm hW⟩⟩
  have hR : (mRm d1 (sz1 - sz) (u1 - u)).frames + 1 ≤ R.frames ∧ 8 + (mMl M2 + 11) + (mRm d1 (sz1 - sz) (u1 - u)).locals ≤ R.locals := ⟨b3, by show 8 + (mMl M2 + 11) + 40 * d1 ≤ R.locals; omega⟩
  have hG : GoodIn mGw (mWs M2) := mGood hx
  have hws : mWs M2 = Cond.code (mMy M2) (mMb M2) (mMl M2) none :: mGw := by unfold mWs; rw [hrn]
  rcases hk with rfl | rfl
  · have hlk := (mSit_at hs).1 (by decide)
    exact ⟨_, va_runI (Ts := mGw) (own := mRn M.1) (bytes := mMb M2) (maxL := mMl M2) (As := As.map (mRl g)) (rest := rest.map (mRl g)) (b := mAd g a) (nL := mMl M) ⟨C.1, C.2.1, C.2.2.1, C.2.2.2.2.1, C.2.2.2.2.2.1⟩ hm.2.2
      (cwI As.length C.2.2.2.2.2.1 hG hws rfl rfl (mGwB C w2 rfl) (mGwB C hlk rfl) (mGwB C w1 rfl) hni ⟨w7, w8, hlen⟩ hR) hpre rfl (by rw [List.length_map]) L.2.1 hst2 hc8 hd ⟨b1, b2⟩⟩
  · have hlk := (mSit_at hs).2 (by decide)
    exact ⟨_, va_runIN (Ts := mGw) (own := mRn M.1) (bytes := mMb M2) (maxL := mMl M2) (As := As.map (mRl g)) (rest := rest.map (mRl g)) (b := mAd g a) (nL := mMl M) ⟨C.1, C.2.1, C.2.2.1, C.2.2.2.2.1, C.2.2.2.2.2.1⟩ hm.2.2
      ⟨va_cnB As.length C.2.2.2.2.2.1 hG hws rfl rfl (C.2.2.2.2.2.2.1.2.1 _ (List.mem_of_getElem? hlk) rfl) (mGwB C w2 rfl) ⟨w7, w8, hlen⟩ hR, hni, mGwB C w1 rfl⟩ hpre rfl (by rw [List.length_map]) L.2.1 hst2 hc8 hd ⟨b1, b2⟩⟩
/-- a loop that goes round N times -/
theorem V_for (N : Nat) (lsf : Nat → List Value) (hf : Nat → mH) (hs : ∀ i, i < N → V g d M P sz' u' pc (lsf (i + 1)) [] (hf (i + 1)) sz u → V g d M P sz' u' pc (lsf i) [] (hf i) sz u) (he : V g d M P sz' u' pc (lsf N) [] (hf N) sz u) : V g d M P sz' u' pc (lsf 0) [] (hf 0) sz u := by
  have : ∀ k, k ≤ N → V g d M P sz' u' pc (lsf (N - k)) [] (hf (N - k)) sz u := by
    intro k
    induction k with
    | zero => intro _; exact he
    | succ k ih =>
      intro hk
      refine hs (N - (k + 1)) (by omega) ?_
      rw [show N - (k + 1) + 1 = N - k by omega]
      exact ih (by omega)
  have h0 := this N (Nat.le_refl _)
  rw [Nat.sub_self] at h0
  exact h0
end mV4
