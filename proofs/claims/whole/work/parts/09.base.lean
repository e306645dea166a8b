/-! ===== exact ends, and calls that have one ===== -/
def Pe (r0 : Option Value) (h0 : mH) : Option Value → mH → Prop := fun r h' => r = r0 ∧ h' = h0
abbrev Pi (v : Int32) (h0 : mH) : Option Value → mH → Prop := Pe (some (.int v)) h0
abbrev Pn (h0 : mH) : Option Value → mH → Prop := Pe none h0
abbrev Pr (a : Nat) (h0 : mH) : Option Value → mH → Prop := Pe (some (.ref a)) h0
section mV5
variable {g : mG} {d : Nat} {M : mM} {P : Option Value → mH → Prop} {sz' u' pc n t : Nat} {ls st : List Value} {h : mH} {sz u : Nat}
theorem V_callVi {i w d1 sz1 u1 a : Nat} {v : Int32} {h1 : mH} {M2 : mM} {As rest st0 fs : List Value} (hf : mF M pc = some (.invokevirtual i, 3, n, t)) (hs : mSit M.1 i = some (0, w, M2)) (hw : mWdOk M2 = true) (hx : mCwOk M2) (hsm : mMs M2 = false) (hni : ¬ (mMy M2).name = "<init>") (hlen : Option.map (fun d => d.parameters.length) (parseMethodDescriptor (mMy M2).desc) = some As.length)
    (hm : Mt g d1 M2 (.ref a :: As) h sz u (Pi v h1) sz1 u1) (hd1 : d1 + 1 ≤ d) (hst : st0 = As.reverse ++ .ref a :: rest) (hh : h a = cO M2.1 fs) (hr8 : (rest.map fun v => v.category).sum ≤ 8)
    (kk : V g d M P sz' u' n ls (.int v :: rest) h1 sz1 u1) : V g d M P sz' u' pc ls st0 h sz u :=
  V_callV hf hs hw hx hsm hni hlen hm hd1 hst hh hr8 kk.1 kk.2.1 (fun r h2 hP => by obtain ⟨rfl, rfl⟩ := hP; exact kk)
theorem V_callVn {i w d1 sz1 u1 a : Nat} {h1 : mH} {M2 : mM} {As rest st0 fs : List Value} (hf : mF M pc = some (.invokevirtual i, 3, n, t)) (hs : mSit M.1 i = some (0, w, M2)) (hw : mWdOk M2 = true) (hx : mCwOk M2) (hsm : mMs M2 = false) (hni : ¬ (mMy M2).name = "<init>") (hlen : Option.map (fun d => d.parameters.length) (parseMethodDescriptor (mMy M2).desc) = some As.length)
    (hm : Mt g d1 M2 (.ref a :: As) h sz u (Pn h1) sz1 u1) (hd1 : d1 + 1 ≤ d) (hst : st0 = As.reverse ++ .ref a :: rest) (hh : h a = cO M2.1 fs) (hr8 : (rest.map fun v => v.category).sum ≤ 8)
    (kk : V g d M P sz' u' n ls rest h1 sz1 u1) : V g d M P sz' u' pc ls st0 h sz u :=
  V_callV hf hs hw hx hsm hni hlen hm hd1 hst hh hr8 kk.1 kk.2.1 (fun r h2 hP => by obtain ⟨rfl, rfl⟩ := hP; exact kk)
theorem V_callVr {i w d1 sz1 u1 a v : Nat} {h1 : mH} {M2 : mM} {As rest st0 fs : List Value} (hf : mF M pc = some (.invokevirtual i, 3, n, t)) (hs : mSit M.1 i = some (0, w, M2)) (hw : mWdOk M2 = true) (hx : mCwOk M2) (hsm : mMs M2 = false) (hni : ¬ (mMy M2).name = "<init>") (hlen : Option.map (fun d => d.parameters.length) (parseMethodDescriptor (mMy M2).desc) = some As.length)
    (hm : Mt g d1 M2 (.ref a :: As) h sz u (Pr v h1) sz1 u1) (hd1 : d1 + 1 ≤ d) (hst : st0 = As.reverse ++ .ref a :: rest) (hh : h a = cO M2.1 fs) (hr8 : (rest.map fun v => v.category).sum ≤ 8)
    (kk : V g d M P sz' u' n ls (.ref v :: rest) h1 sz1 u1) : V g d M P sz' u' pc ls st0 h sz u :=
  V_callV hf hs hw hx hsm hni hlen hm hd1 hst hh hr8 kk.1 kk.2.1 (fun r h2 hP => by obtain ⟨rfl, rfl⟩ := hP; exact kk)
theorem V_callSi {i k w d1 sz1 u1 : Nat} {v : Int32} {h1 : mH} {M2 : mM} {As rest st0 : List Value} (hf : mF M pc = some (.invokestatic i, 3, n, t)) (hs : mSit M.1 i = some (k, w, M2)) (hk : k = 1 ∨ k = 3) (hw : mWdOk M2 = true) (hx : mCwOk M2) (hsm : mMs M2 = true) (hlen : Option.map (fun d => d.parameters.length) (parseMethodDescriptor (mMy M2).desc) = some As.length)
    (hm : Mt g d1 M2 As h sz u (Pi v h1) sz1 u1) (hd1 : d1 + 1 ≤ d) (hst : st0 = As.reverse ++ rest) (hr8 : (rest.map fun v => v.category).sum ≤ 8)
    (kk : V g d M P sz' u' n ls (.int v :: rest) h1 sz1 u1) : V g d M P sz' u' pc ls st0 h sz u :=
  V_callS hf hs hk hw hx hsm hlen hm hd1 hst hr8 kk.1 kk.2.1 (fun r h2 hP => by obtain ⟨rfl, rfl⟩ := hP; exact kk)
theorem V_callSn {i k w d1 sz1 u1 : Nat} {h1 : mH} {M2 : mM} {As rest st0 : List Value} (hf : mF M pc = some (.invokestatic i, 3, n, t)) (hs : mSit M.1 i = some (k, w, M2)) (hk : k = 1 ∨ k = 3) (hw : mWdOk M2 = true) (hx : mCwOk M2) (hsm : mMs M2 = true) (hlen : Option.map (fun d => d.parameters.length) (parseMethodDescriptor (mMy M2).desc) = some As.length)
    (hm : Mt g d1 M2 As h sz u (Pn h1) sz1 u1) (hd1 : d1 + 1 ≤ d) (hst : st0 = As.reverse ++ rest) (hr8 : (rest.map fun v => v.category).sum ≤ 8)
    (kk : V g d M P sz' u' n ls rest h1 sz1 u1) : V g d M P sz' u' pc ls st0 h sz u :=
  V_callS hf hs hk hw hx hsm hlen hm hd1 hst hr8 kk.1 kk.2.1 (fun r h2 hP => by obtain ⟨rfl, rfl⟩ := hP; exact kk)
theorem V_callIn {i k w d1 sz1 u1 a : Nat} {h1 : mH} {M2 : mM} {As rest st0 : List Value} (hf : mF M pc = some (.invokespecial i, 3, n, t)) (hs : mSit M.1 i = some (k, w, M2)) (hk : k = 2 ∨ k = 4) (hw : mWdOk M2 = true) (hx : mCwOk M2) (hsm : mMs M2 = false) (hrn : mMr M2 = none) (hni : (mMy M2).name = "<init>") (hlen : Option.map (fun d => d.parameters.length) (parseMethodDescriptor (mMy M2).desc) = some As.length)
    (hm : Mt g d1 M2 (.ref a :: As) h sz u (Pn h1) sz1 u1) (hd1 : d1 + 1 ≤ d) (hst : st0 = As.reverse ++ .ref a :: rest) (hr8 : (rest.map fun v => v.category).sum ≤ 8)
    (kk : V g d M P sz' u' n ls rest h1 sz1 u1) : V g d M P sz' u' pc ls st0 h sz u :=
  V_callI hf hs hk hw hx hsm hrn hni hlen hm hd1 hst hr8 kk.1 kk.2.1 (fun r h2 hP => by obtain ⟨rfl, rfl⟩ := hP; exact kk)
end mV5
section mVB
variable {g : mG} {d : Nat} {M : mM} {P : Option Value → mH → Prop} {sz' u' pc n t : Nat} {ls st : List Value} {h : mH} {sz u : Nat} {o : Int} {x y : Int32}
theorem V_icmp_eq (hf : mF M pc = some (.if_icmp .eq o, 3, n, t)) (kt : x = y → V g d M P sz' u' t ls st h sz u) (kf : ¬ x = y → V g d M P sz' u' n ls st h sz u) : V g d M P sz' u' pc ls (.int y :: .int x :: st) h sz u := V_icmp hf kt kf
theorem V_icmp_eqT (hf : mF M pc = some (.if_icmp .eq o, 3, n, t)) (hc : x = y) (kk : V g d M P sz' u' t ls st h sz u) : V g d M P sz' u' pc ls (.int y :: .int x :: st) h sz u := V_icmpT hf hc kk
theorem V_icmp_eqF (hf : mF M pc = some (.if_icmp .eq o, 3, n, t)) (hc : ¬ x = y) (kk : V g d M P sz' u' n ls st h sz u) : V g d M P sz' u' pc ls (.int y :: .int x :: st) h sz u := V_icmpF hf hc kk
theorem V_if_eq (hf : mF M pc = some (.ifCond .eq o, 3, n, t)) (kt : x = 0 → V g d M P sz' u' t ls st h sz u) (kf : ¬ x = 0 → V g d M P sz' u' n ls st h sz u) : V g d M P sz' u' pc ls (.int x :: st) h sz u := V_if hf kt kf
theorem V_if_eqT (hf : mF M pc = some (.ifCond .eq o, 3, n, t)) (hc : x = 0) (kk : V g d M P sz' u' t ls st h sz u) : V g d M P sz' u' pc ls (.int x :: st) h sz u := V_ifT hf hc kk
theorem V_if_eqF (hf : mF M pc = some (.ifCond .eq o, 3, n, t)) (hc : ¬ x = 0) (kk : V g d M P sz' u' n ls st h sz u) : V g d M P sz' u' pc ls (.int x :: st) h sz u := V_ifF hf hc kk
theorem V_icmp_ne (hf : mF M pc = some (.if_icmp .ne o, 3, n, t)) (kt : ¬ x = y → V g d M P sz' u' t ls st h sz u) (kf : x = y → V g d M P sz' u' n ls st h sz u) : V g d M P sz' u' pc ls (.int y :: .int x :: st) h sz u := V_icmp hf kt (fun q => kf (Classical.byContradiction fun z => q z))
theorem V_icmp_neT (hf : mF M pc = some (.if_icmp .ne o, 3, n, t)) (hc : ¬ x = y) (kk : V g d M P sz' u' t ls st h sz u) : V g d M P sz' u' pc ls (.int y :: .int x :: st) h sz u := V_icmpT hf hc kk
theorem V_icmp_neF (hf : mF M pc = some (.if_icmp .ne o, 3, n, t)) (hc : x = y) (kk : V g d M P sz' u' n ls st h sz u) : V g d M P sz' u' pc ls (.int y :: .int x :: st) h sz u := V_icmpF hf (fun q => q hc) kk
theorem V_if_ne (hf : mF M pc = some (.ifCond .ne o, 3, n, t)) (kt : ¬ x = 0 → V g d M P sz' u' t ls st h sz u) (kf : x = 0 → V g d M P sz' u' n ls st h sz u) : V g d M P sz' u' pc ls (.int x :: st) h sz u := V_if hf kt (fun q => kf (Classical.byContradiction fun z => q z))
theorem V_if_neT (hf : mF M pc = some (.ifCond .ne o, 3, n, t)) (hc : ¬ x = 0) (kk : V g d M P sz' u' t ls st h sz u) : V g d M P sz' u' pc ls (.int x :: st) h sz u := V_ifT hf hc kk
theorem V_if_neF (hf : mF M pc = some (.ifCond .ne o, 3, n, t)) (hc : x = 0) (kk : V g d M P sz' u' n ls st h sz u) : V g d M P sz' u' pc ls (.int x :: st) h sz u := V_ifF hf (fun q => q hc) kk
theorem V_icmp_lt (hf : mF M pc = some (.if_icmp .lt o, 3, n, t)) (kt : x < y → V g d M P sz' u' t ls st h sz u) (kf : ¬ x < y → V g d M P sz' u' n ls st h sz u) : V g d M P sz' u' pc ls (.int y :: .int x :: st) h sz u := V_icmp hf kt kf
theorem V_icmp_ltT (hf : mF M pc = some (.if_icmp .lt o, 3, n, t)) (hc : x < y) (kk : V g d M P sz' u' t ls st h sz u) : V g d M P sz' u' pc ls (.int y :: .int x :: st) h sz u := V_icmpT hf hc kk
theorem V_icmp_ltF (hf : mF M pc = some (.if_icmp .lt o, 3, n, t)) (hc : ¬ x < y) (kk : V g d M P sz' u' n ls st h sz u) : V g d M P sz' u' pc ls (.int y :: .int x :: st) h sz u := V_icmpF hf hc kk
theorem V_if_lt (hf : mF M pc = some (.ifCond .lt o, 3, n, t)) (kt : x < 0 → V g d M P sz' u' t ls st h sz u) (kf : ¬ x < 0 → V g d M P sz' u' n ls st h sz u) : V g d M P sz' u' pc ls (.int x :: st) h sz u := V_if hf kt kf
theorem V_if_ltT (hf : mF M pc = some (.ifCond .lt o, 3, n, t)) (hc : x < 0) (kk : V g d M P sz' u' t ls st h sz u) : V g d M P sz' u' pc ls (.int x :: st) h sz u := V_ifT hf hc kk
theorem V_if_ltF (hf : mF M pc = some (.ifCond .lt o, 3, n, t)) (hc : ¬ x < 0) (kk : V g d M P sz' u' n ls st h sz u) : V g d M P sz' u' pc ls (.int x :: st) h sz u := V_ifF hf hc kk
theorem V_icmp_ge (hf : mF M pc = some (.if_icmp .ge o, 3, n, t)) (kt : y ≤ x → V g d M P sz' u' t ls st h sz u) (kf : ¬ y ≤ x → V g d M P sz' u' n ls st h sz u) : V g d M P sz' u' pc ls (.int y :: .int x :: st) h sz u := V_icmp hf kt kf
theorem V_icmp_geT (hf : mF M pc = some (.if_icmp .ge o, 3, n, t)) (hc : y ≤ x) (kk : V g d M P sz' u' t ls st h sz u) : V g d M P sz' u' pc ls (.int y :: .int x :: st) h sz u := V_icmpT hf hc kk
theorem V_icmp_geF (hf : mF M pc = some (.if_icmp .ge o, 3, n, t)) (hc : ¬ y ≤ x) (kk : V g d M P sz' u' n ls st h sz u) : V g d M P sz' u' pc ls (.int y :: .int x :: st) h sz u := V_icmpF hf hc kk
theorem V_if_ge (hf : mF M pc = some (.ifCond .ge o, 3, n, t)) (kt : 0 ≤ x → V g d M P sz' u' t ls st h sz u) (kf : ¬ 0 ≤ x → V g d M P sz' u' n ls st h sz u) : V g d M P sz' u' pc ls (.int x :: st) h sz u := V_if hf kt kf
theorem V_if_geT (hf : mF M pc = some (.ifCond .ge o, 3, n, t)) (hc : 0 ≤ x) (kk : V g d M P sz' u' t ls st h sz u) : V g d M P sz' u' pc ls (.int x :: st) h sz u := V_ifT hf hc kk
theorem V_if_geF (hf : mF M pc = some (.ifCond .ge o, 3, n, t)) (hc : ¬ 0 ≤ x) (kk : V g d M P sz' u' n ls st h sz u) : V g d M P sz' u' pc ls (.int x :: st) h sz u := V_ifF hf hc kk
theorem V_icmp_gt (hf : mF M pc = some (.if_icmp .gt o, 3, n, t)) (kt : y < x → V g d M P sz' u' t ls st h sz u) (kf : ¬ y < x → V g d M P sz' u' n ls st h sz u) : V g d M P sz' u' pc ls (.int y :: .int x :: st) h sz u := V_icmp hf kt kf
theorem V_icmp_gtT (hf : mF M pc = some (.if_icmp .gt o, 3, n, t)) (hc : y < x) (kk : V g d M P sz' u' t ls st h sz u) : V g d M P sz' u' pc ls (.int y :: .int x :: st) h sz u := V_icmpT hf hc kk
theorem V_icmp_gtF (hf : mF M pc = some (.if_icmp .gt o, 3, n, t)) (hc : ¬ y < x) (kk : V g d M P sz' u' n ls st h sz u) : V g d M P sz' u' pc ls (.int y :: .int x :: st) h sz u := V_icmpF hf hc kk
theorem V_if_gt (hf : mF M pc = some (.ifCond .gt o, 3, n, t)) (kt : 0 < x → V g d M P sz' u' t ls st h sz u) (kf : ¬ 0 < x → V g d M P sz' u' n ls st h sz u) : V g d M P sz' u' pc ls (.int x :: st) h sz u := V_if hf kt kf
theorem V_if_gtT (hf : mF M pc = some (.ifCond .gt o, 3, n, t)) (hc : 0 < x) (kk : V g d M P sz' u' t ls st h sz u) : V g d M P sz' u' pc ls (.int x :: st) h sz u := V_ifT hf hc kk
theorem V_if_gtF (hf : mF M pc = some (.ifCond .gt o, 3, n, t)) (hc : ¬ 0 < x) (kk : V g d M P sz' u' n ls st h sz u) : V g d M P sz' u' pc ls (.int x :: st) h sz u := V_ifF hf hc kk
theorem V_icmp_le (hf : mF M pc = some (.if_icmp .le o, 3, n, t)) (kt : x ≤ y → V g d M P sz' u' t ls st h sz u) (kf : ¬ x ≤ y → V g d M P sz' u' n ls st h sz u) : V g d M P sz' u' pc ls (.int y :: .int x :: st) h sz u := V_icmp hf kt kf
theorem V_icmp_leT (hf : mF M pc = some (.if_icmp .le o, 3, n, t)) (hc : x ≤ y) (kk : V g d M P sz' u' t ls st h sz u) : V g d M P sz' u' pc ls (.int y :: .int x :: st) h sz u := V_icmpT hf hc kk
theorem V_icmp_leF (hf : mF M pc = some (.if_icmp .le o, 3, n, t)) (hc : ¬ x ≤ y) (kk : V g d M P sz' u' n ls st h sz u) : V g d M P sz' u' pc ls (.int y :: .int x :: st) h sz u := V_icmpF hf hc kk
theorem V_if_le (hf : mF M pc = some (.ifCond .le o, 3, n, t)) (kt : x ≤ 0 → V g d M P sz' u' t ls st h sz u) (kf : ¬ x ≤ 0 → V g d M P sz' u' n ls st h sz u) : V g d M P sz' u' pc ls (.int x :: st) h sz u := V_if hf kt kf
theorem V_if_leT (hf : mF M pc = some (.ifCond .le o, 3, n, t)) (hc : x ≤ 0) (kk : V g d M P sz' u' t ls st h sz u) : V g d M P sz' u' pc ls (.int x :: st) h sz u := V_ifT hf hc kk
theorem V_if_leF (hf : mF M pc = some (.ifCond .le o, 3, n, t)) (hc : ¬ x ≤ 0) (kk : V g d M P sz' u' n ls st h sz u) : V g d M P sz' u' pc ls (.int x :: st) h sz u := V_ifF hf hc kk
theorem V_for2 {ls0 : List Value} {h0 : mH} (N : Nat) (lsf : Nat → List Value) (hf : Nat → mH) (e1 : lsf 0 = ls0) (e2 : hf 0 = h0) (hs : ∀ i, i < N → V g d M P sz' u' pc (lsf (i + 1)) [] (hf (i + 1)) sz u → V g d M P sz' u' pc (lsf i) [] (hf i) sz u) (he : V g d M P sz' u' pc (lsf N) [] (hf N) sz u) : V g d M P sz' u' pc ls0 [] h0 sz u := by
  subst e1; subst e2
  exact V_for N lsf hf hs he
theorem V_getI {i ci k w a : Nat} {fs : List Value} (hf : mF M pc = some (.getfield i, 3, n, t)) (hl : mFld M.1 i = some (ci, k, w)) (hh : h a = cO ci fs) (hv : fs[k]? = some (.int x)) (hx : x = y) (kk : V g d M P sz' u' n ls (.int y :: st) h sz u) : V g d M P sz' u' pc ls (.ref a :: st) h sz u := by
  subst hx
  exact V_getfield hf hl hh hv kk
theorem V_iald {a N j : Nat} {f : Nat → Int32} {i : Int32} (hf : mF M pc = some (.iaload, 1, n, t)) (hh : h a = cI N f) (hi : i = nI j) (hj : j < N) (hN : N < 2 ^ 31) (hx : f j = y) (kk : V g d M P sz' u' n ls (.int y :: st) h sz u) : V g d M P sz' u' pc ls (.int i :: .ref a :: st) h sz u := by
  subst hx
  exact V_iaload hf hh hi hj hN kk
theorem V_bald {a N j : Nat} {f : Nat → Int32} {i : Int32} (hf : mF M pc = some (.baload, 1, n, t)) (hh : h a = cB N f) (hi : i = nI j) (hj : j < N) (hN : N < 2 ^ 31) (hx : f j = y) (kk : V g d M P sz' u' n ls (.int y :: st) h sz u) : V g d M P sz' u' pc ls (.int i :: .ref a :: st) h sz u := by
  subst hx
  exact V_baload hf hh hi hj hN kk
end mVB
theorem V_is0 {g : mG} {d : Nat} {M : mM} {P : Option Value → mH → Prop} {sz' u' pc n t : Nat} {st tl : List Value} {h : mH} {sz u : Nat} {x0 : Value} {v : Int32} (hf : mF M pc = some (.istore_n 0, 1, n, t)) (kk : V g d M P sz' u' n (.int v :: tl) st h sz u) : V g d M P sz' u' pc (x0 :: tl) (.int v :: st) h sz u := V_istore_n hf rfl rfl (by show (0 : Nat) < _; simp) kk
theorem V_as0 {g : mG} {d : Nat} {M : mM} {P : Option Value → mH → Prop} {sz' u' pc n t : Nat} {st tl : List Value} {h : mH} {sz u : Nat} {x0 : Value} {v : Nat} (hf : mF M pc = some (.astore_n 0, 1, n, t)) (kk : V g d M P sz' u' n (.ref v :: tl) st h sz u) : V g d M P sz' u' pc (x0 :: tl) (.ref v :: st) h sz u := V_astore_n hf rfl rfl (by show (0 : Nat) < _; simp) kk
theorem V_inc0 {g : mG} {d : Nat} {M : mM} {P : Option Value → mH → Prop} {sz' u' pc n t : Nat} {st tl : List Value} {h : mH} {sz u : Nat}  {x v : Int32} {i : Int} (hf : mF M pc = some (.iinc 0 i, 3, n, t)) (hv : x + Int32.ofInt i = v) (kk : V g d M P sz' u' n (.int v :: tl) st h sz u) : V g d M P sz' u' pc (.int x :: tl) st h sz u := V_iinc hf rfl hv rfl rfl kk
theorem V_is1 {g : mG} {d : Nat} {M : mM} {P : Option Value → mH → Prop} {sz' u' pc n t : Nat} {st tl : List Value} {h : mH} {sz u : Nat} {x0 x1 : Value} {v : Int32} (hf : mF M pc = some (.istore_n 1, 1, n, t)) (hc : x0.category = 1) (kk : V g d M P sz' u' n (x0 :: .int v :: tl) st h sz u) : V g d M P sz' u' pc (x0 :: x1 :: tl) (.int v :: st) h sz u := V_istore_n hf rfl (by simp [mPrev, hc]) (by show (1 : Nat) < _; simp) kk
theorem V_as1 {g : mG} {d : Nat} {M : mM} {P : Option Value → mH → Prop} {sz' u' pc n t : Nat} {st tl : List Value} {h : mH} {sz u : Nat} {x0 x1 : Value} {v : Nat} (hf : mF M pc = some (.astore_n 1, 1, n, t)) (hc : x0.category = 1) (kk : V g d M P sz' u' n (x0 :: .ref v :: tl) st h sz u) : V g d M P sz' u' pc (x0 :: x1 :: tl) (.ref v :: st) h sz u := V_astore_n hf rfl (by simp [mPrev, hc]) (by show (1 : Nat) < _; simp) kk
theorem V_inc1 {g : mG} {d : Nat} {M : mM} {P : Option Value → mH → Prop} {sz' u' pc n t : Nat} {st tl : List Value} {h : mH} {sz u : Nat} {x0 : Value} {x v : Int32} {i : Int} (hf : mF M pc = some (.iinc 1 i, 3, n, t)) (hv : x + Int32.ofInt i = v) (hc : x0.category = 1) (kk : V g d M P sz' u' n (x0 :: .int v :: tl) st h sz u) : V g d M P sz' u' pc (x0 :: .int x :: tl) st h sz u := V_iinc hf rfl hv rfl (by simp [mPrev, hc]) kk
theorem V_is2 {g : mG} {d : Nat} {M : mM} {P : Option Value → mH → Prop} {sz' u' pc n t : Nat} {st tl : List Value} {h : mH} {sz u : Nat} {x0 x1 x2 : Value} {v : Int32} (hf : mF M pc = some (.istore_n 2, 1, n, t)) (hc : x1.category = 1) (kk : V g d M P sz' u' n (x0 :: x1 :: .int v :: tl) st h sz u) : V g d M P sz' u' pc (x0 :: x1 :: x2 :: tl) (.int v :: st) h sz u := V_istore_n hf rfl (by simp [mPrev, hc]) (by show (2 : Nat) < _; simp) kk
theorem V_as2 {g : mG} {d : Nat} {M : mM} {P : Option Value → mH → Prop} {sz' u' pc n t : Nat} {st tl : List Value} {h : mH} {sz u : Nat} {x0 x1 x2 : Value} {v : Nat} (hf : mF M pc = some (.astore_n 2, 1, n, t)) (hc : x1.category = 1) (kk : V g d M P sz' u' n (x0 :: x1 :: .ref v :: tl) st h sz u) : V g d M P sz' u' pc (x0 :: x1 :: x2 :: tl) (.ref v :: st) h sz u := V_astore_n hf rfl (by simp [mPrev, hc]) (by show (2 : Nat) < _; simp) kk
theorem V_inc2 {g : mG} {d : Nat} {M : mM} {P : Option Value → mH → Prop} {sz' u' pc n t : Nat} {st tl : List Value} {h : mH} {sz u : Nat} {x0 x1 : Value} {x v : Int32} {i : Int} (hf : mF M pc = some (.iinc 2 i, 3, n, t)) (hv : x + Int32.ofInt i = v) (hc : x1.category = 1) (kk : V g d M P sz' u' n (x0 :: x1 :: .int v :: tl) st h sz u) : V g d M P sz' u' pc (x0 :: x1 :: .int x :: tl) st h sz u := V_iinc hf rfl hv rfl (by simp [mPrev, hc]) kk
theorem V_is3 {g : mG} {d : Nat} {M : mM} {P : Option Value → mH → Prop} {sz' u' pc n t : Nat} {st tl : List Value} {h : mH} {sz u : Nat} {x0 x1 x2 x3 : Value} {v : Int32} (hf : mF M pc = some (.istore_n 3, 1, n, t)) (hc : x2.category = 1) (kk : V g d M P sz' u' n (x0 :: x1 :: x2 :: .int v :: tl) st h sz u) : V g d M P sz' u' pc (x0 :: x1 :: x2 :: x3 :: tl) (.int v :: st) h sz u := V_istore_n hf rfl (by simp [mPrev, hc]) (by show (3 : Nat) < _; simp) kk
theorem V_as3 {g : mG} {d : Nat} {M : mM} {P : Option Value → mH → Prop} {sz' u' pc n t : Nat} {st tl : List Value} {h : mH} {sz u : Nat} {x0 x1 x2 x3 : Value} {v : Nat} (hf : mF M pc = some (.astore_n 3, 1, n, t)) (hc : x2.category = 1) (kk : V g d M P sz' u' n (x0 :: x1 :: x2 :: .ref v :: tl) st h sz u) : V g d M P sz' u' pc (x0 :: x1 :: x2 :: x3 :: tl) (.ref v :: st) h sz u := V_astore_n hf rfl (by simp [mPrev, hc]) (by show (3 : Nat) < _; simp) kk
theorem V_inc3 {g : mG} {d : Nat} {M : mM} {P : Option Value → mH → Prop} {sz' u' pc n t : Nat} {st tl : List Value} {h : mH} {sz u : Nat} {x0 x1 x2 : Value} {x v : Int32} {i : Int} (hf : mF M pc = some (.iinc 3 i, 3, n, t)) (hv : x + Int32.ofInt i = v) (hc : x2.category = 1) (kk : V g d M P sz' u' n (x0 :: x1 :: x2 :: .int v :: tl) st h sz u) : V g d M P sz' u' pc (x0 :: x1 :: x2 :: .int x :: tl) st h sz u := V_iinc hf rfl hv rfl (by simp [mPrev, hc]) kk
theorem V_is4 {g : mG} {d : Nat} {M : mM} {P : Option Value → mH → Prop} {sz' u' pc n t : Nat} {st tl : List Value} {h : mH} {sz u : Nat} {x0 x1 x2 x3 x4 : Value} {v : Int32} (hf : mF M pc = some (.istore 4, 2, n, t)) (hc : x3.category = 1) (kk : V g d M P sz' u' n (x0 :: x1 :: x2 :: x3 :: .int v :: tl) st h sz u) : V g d M P sz' u' pc (x0 :: x1 :: x2 :: x3 :: x4 :: tl) (.int v :: st) h sz u := V_istore hf rfl (by simp [mPrev, hc]) (by show (4 : Nat) < _; simp) kk
theorem V_inc4 {g : mG} {d : Nat} {M : mM} {P : Option Value → mH → Prop} {sz' u' pc n t : Nat} {st tl : List Value} {h : mH} {sz u : Nat} {x0 x1 x2 x3 : Value} {x v : Int32} {i : Int} (hf : mF M pc = some (.iinc 4 i, 3, n, t)) (hv : x + Int32.ofInt i = v) (hc : x3.category = 1) (kk : V g d M P sz' u' n (x0 :: x1 :: x2 :: x3 :: .int v :: tl) st h sz u) : V g d M P sz' u' pc (x0 :: x1 :: x2 :: x3 :: .int x :: tl) st h sz u := V_iinc hf rfl hv rfl (by simp [mPrev, hc]) kk
theorem V_is5 {g : mG} {d : Nat} {M : mM} {P : Option Value → mH → Prop} {sz' u' pc n t : Nat} {st tl : List Value} {h : mH} {sz u : Nat} {x0 x1 x2 x3 x4 x5 : Value} {v : Int32} (hf : mF M pc = some (.istore 5, 2, n, t)) (hc : x4.category = 1) (kk : V g d M P sz' u' n (x0 :: x1 :: x2 :: x3 :: x4 :: .int v :: tl) st h sz u) : V g d M P sz' u' pc (x0 :: x1 :: x2 :: x3 :: x4 :: x5 :: tl) (.int v :: st) h sz u := V_istore hf rfl (by simp [mPrev, hc]) (by show (5 : Nat) < _; simp) kk
theorem V_inc5 {g : mG} {d : Nat} {M : mM} {P : Option Value → mH → Prop} {sz' u' pc n t : Nat} {st tl : List Value} {h : mH} {sz u : Nat} {x0 x1 x2 x3 x4 : Value} {x v : Int32} {i : Int} (hf : mF M pc = some (.iinc 5 i, 3, n, t)) (hv : x + Int32.ofInt i = v) (hc : x4.category = 1) (kk : V g d M P sz' u' n (x0 :: x1 :: x2 :: x3 :: x4 :: .int v :: tl) st h sz u) : V g d M P sz' u' pc (x0 :: x1 :: x2 :: x3 :: x4 :: .int x :: tl) st h sz u := V_iinc hf rfl hv rfl (by simp [mPrev, hc]) kk
theorem V_is6 {g : mG} {d : Nat} {M : mM} {P : Option Value → mH → Prop} {sz' u' pc n t : Nat} {st tl : List Value} {h : mH} {sz u : Nat} {x0 x1 x2 x3 x4 x5 x6 : Value} {v : Int32} (hf : mF M pc = some (.istore 6, 2, n, t)) (hc : x5.category = 1) (kk : V g d M P sz' u' n (x0 :: x1 :: x2 :: x3 :: x4 :: x5 :: .int v :: tl) st h sz u) : V g d M P sz' u' pc (x0 :: x1 :: x2 :: x3 :: x4 :: x5 :: x6 :: tl) (.int v :: st) h sz u := V_istore hf rfl (by simp [mPrev, hc]) (by show (6 : Nat) < _; simp) kk
theorem V_inc6 {g : mG} {d : Nat} {M : mM} {P : Option Value → mH → Prop} {sz' u' pc n t : Nat} {st tl : List Value} {h : mH} {sz u : Nat} {x0 x1 x2 x3 x4 x5 : Value} {x v : Int32} {i : Int} (hf : mF M pc = some (.iinc 6 i, 3, n, t)) (hv : x + Int32.ofInt i = v) (hc : x5.category = 1) (kk : V g d M P sz' u' n (x0 :: x1 :: x2 :: x3 :: x4 :: x5 :: .int v :: tl) st h sz u) : V g d M P sz' u' pc (x0 :: x1 :: x2 :: x3 :: x4 :: x5 :: .int x :: tl) st h sz u := V_iinc hf rfl hv rfl (by simp [mPrev, hc]) kk
theorem V_is7 {g : mG} {d : Nat} {M : mM} {P : Option Value → mH → Prop} {sz' u' pc n t : Nat} {st tl : List Value} {h : mH} {sz u : Nat} {x0 x1 x2 x3 x4 x5 x6 x7 : Value} {v : Int32} (hf : mF M pc = some (.istore 7, 2, n, t)) (hc : x6.category = 1) (kk : V g d M P sz' u' n (x0 :: x1 :: x2 :: x3 :: x4 :: x5 :: x6 :: .int v :: tl) st h sz u) : V g d M P sz' u' pc (x0 :: x1 :: x2 :: x3 :: x4 :: x5 :: x6 :: x7 :: tl) (.int v :: st) h sz u := V_istore hf rfl (by simp [mPrev, hc]) (by show (7 : Nat) < _; simp) kk
theorem V_inc7 {g : mG} {d : Nat} {M : mM} {P : Option Value → mH → Prop} {sz' u' pc n t : Nat} {st tl : List Value} {h : mH} {sz u : Nat} {x0 x1 x2 x3 x4 x5 x6 : Value} {x v : Int32} {i : Int} (hf : mF M pc = some (.iinc 7 i, 3, n, t)) (hv : x + Int32.ofInt i = v) (hc : x6.category = 1) (kk : V g d M P sz' u' n (x0 :: x1 :: x2 :: x3 :: x4 :: x5 :: x6 :: .int v :: tl) st h sz u) : V g d M P sz' u' pc (x0 :: x1 :: x2 :: x3 :: x4 :: x5 :: x6 :: .int x :: tl) st h sz u := V_iinc hf rfl hv rfl (by simp [mPrev, hc]) kk
theorem V_is8 {g : mG} {d : Nat} {M : mM} {P : Option Value → mH → Prop} {sz' u' pc n t : Nat} {st tl : List Value} {h : mH} {sz u : Nat} {x0 x1 x2 x3 x4 x5 x6 x7 x8 : Value} {v : Int32} (hf : mF M pc = some (.istore 8, 2, n, t)) (hc : x7.category = 1) (kk : V g d M P sz' u' n (x0 :: x1 :: x2 :: x3 :: x4 :: x5 :: x6 :: x7 :: .int v :: tl) st h sz u) : V g d M P sz' u' pc (x0 :: x1 :: x2 :: x3 :: x4 :: x5 :: x6 :: x7 :: x8 :: tl) (.int v :: st) h sz u := V_istore hf rfl (by simp [mPrev, hc]) (by show (8 : Nat) < _; simp) kk
theorem V_inc8 {g : mG} {d : Nat} {M : mM} {P : Option Value → mH → Prop} {sz' u' pc n t : Nat} {st tl : List Value} {h : mH} {sz u : Nat} {x0 x1 x2 x3 x4 x5 x6 x7 : Value} {x v : Int32} {i : Int} (hf : mF M pc = some (.iinc 8 i, 3, n, t)) (hv : x + Int32.ofInt i = v) (hc : x7.category = 1) (kk : V g d M P sz' u' n (x0 :: x1 :: x2 :: x3 :: x4 :: x5 :: x6 :: x7 :: .int v :: tl) st h sz u) : V g d M P sz' u' pc (x0 :: x1 :: x2 :: x3 :: x4 :: x5 :: x6 :: x7 :: .int x :: tl) st h sz u := V_iinc hf rfl hv rfl (by simp [mPrev, hc]) kk
theorem V_is9 {g : mG} {d : Nat} {M : mM} {P : Option Value → mH → Prop} {sz' u' pc n t : Nat} {st tl : List Value} {h : mH} {sz u : Nat} {x0 x1 x2 x3 x4 x5 x6 x7 x8 x9 : Value} {v : Int32} (hf : mF M pc = some (.istore 9, 2, n, t)) (hc : x8.category = 1) (kk : V g d M P sz' u' n (x0 :: x1 :: x2 :: x3 :: x4 :: x5 :: x6 :: x7 :: x8 :: .int v :: tl) st h sz u) : V g d M P sz' u' pc (x0 :: x1 :: x2 :: x3 :: x4 :: x5 :: x6 :: x7 :: x8 :: x9 :: tl) (.int v :: st) h sz u := V_istore hf rfl (by simp [mPrev, hc]) (by show (9 : Nat) < _; simp) kk
theorem V_inc9 {g : mG} {d : Nat} {M : mM} {P : Option Value → mH → Prop} {sz' u' pc n t : Nat} {st tl : List Value} {h : mH} {sz u : Nat} {x0 x1 x2 x3 x4 x5 x6 x7 x8 : Value} {x v : Int32} {i : Int} (hf : mF M pc = some (.iinc 9 i, 3, n, t)) (hv : x + Int32.ofInt i = v) (hc : x8.category = 1) (kk : V g d M P sz' u' n (x0 :: x1 :: x2 :: x3 :: x4 :: x5 :: x6 :: x7 :: x8 :: .int v :: tl) st h sz u) : V g d M P sz' u' pc (x0 :: x1 :: x2 :: x3 :: x4 :: x5 :: x6 :: x7 :: x8 :: .int x :: tl) st h sz u := V_iinc hf rfl hv rfl (by simp [mPrev, hc]) kk
theorem V_is10 {g : mG} {d : Nat} {M : mM} {P : Option Value → mH → Prop} {sz' u' pc n t : Nat} {st tl : List Value} {h : mH} {sz u : Nat} {x0 x1 x2 x3 x4 x5 x6 x7 x8 x9 x10 : Value} {v : Int32} (hf : mF M pc = some (.istore 10, 2, n, t)) (hc : x9.category = 1) (kk : V g d M P sz' u' n (x0 :: x1 :: x2 :: x3 :: x4 :: x5 :: x6 :: x7 :: x8 :: x9 :: .int v :: tl) st h sz u) : V g d M P sz' u' pc (x0 :: x1 :: x2 :: x3 :: x4 :: x5 :: x6 :: x7 :: x8 :: x9 :: x10 :: tl) (.int v :: st) h sz u := V_istore hf rfl (by simp [mPrev, hc]) (by show (10 : Nat) < _; simp) kk
theorem V_inc10 {g : mG} {d : Nat} {M : mM} {P : Option Value → mH → Prop} {sz' u' pc n t : Nat} {st tl : List Value} {h : mH} {sz u : Nat} {x0 x1 x2 x3 x4 x5 x6 x7 x8 x9 : Value} {x v : Int32} {i : Int} (hf : mF M pc = some (.iinc 10 i, 3, n, t)) (hv : x + Int32.ofInt i = v) (hc : x9.category = 1) (kk : V g d M P sz' u' n (x0 :: x1 :: x2 :: x3 :: x4 :: x5 :: x6 :: x7 :: x8 :: x9 :: .int v :: tl) st h sz u) : V g d M P sz' u' pc (x0 :: x1 :: x2 :: x3 :: x4 :: x5 :: x6 :: x7 :: x8 :: x9 :: .int x :: tl) st h sz u := V_iinc hf rfl hv rfl (by simp [mPrev, hc]) kk
theorem V_is11 {g : mG} {d : Nat} {M : mM} {P : Option Value → mH → Prop} {sz' u' pc n t : Nat} {st tl : List Value} {h : mH} {sz u : Nat} {x0 x1 x2 x3 x4 x5 x6 x7 x8 x9 x10 x11 : Value} {v : Int32} (hf : mF M pc = some (.istore 11, 2, n, t)) (hc : x10.category = 1) (kk : V g d M P sz' u' n (x0 :: x1 :: x2 :: x3 :: x4 :: x5 :: x6 :: x7 :: x8 :: x9 :: x10 :: .int v :: tl) st h sz u) : V g d M P sz' u' pc (x0 :: x1 :: x2 :: x3 :: x4 :: x5 :: x6 :: x7 :: x8 :: x9 :: x10 :: x11 :: tl) (.int v :: st) h sz u := V_istore hf rfl (by simp [mPrev, hc]) (by show (11 : Nat) < _; simp) kk
theorem V_inc11 {g : mG} {d : Nat} {M : mM} {P : Option Value → mH → Prop} {sz' u' pc n t : Nat} {st tl : List Value} {h : mH} {sz u : Nat} {x0 x1 x2 x3 x4 x5 x6 x7 x8 x9 x10 : Value} {x v : Int32} {i : Int} (hf : mF M pc = some (.iinc 11 i, 3, n, t)) (hv : x + Int32.ofInt i = v) (hc : x10.category = 1) (kk : V g d M P sz' u' n (x0 :: x1 :: x2 :: x3 :: x4 :: x5 :: x6 :: x7 :: x8 :: x9 :: x10 :: .int v :: tl) st h sz u) : V g d M P sz' u' pc (x0 :: x1 :: x2 :: x3 :: x4 :: x5 :: x6 :: x7 :: x8 :: x9 :: x10 :: .int x :: tl) st h sz u := V_iinc hf rfl hv rfl (by simp [mPrev, hc]) kk
theorem V_is12 {g : mG} {d : Nat} {M : mM} {P : Option Value → mH → Prop} {sz' u' pc n t : Nat} {st tl : List Value} {h : mH} {sz u : Nat} {x0 x1 x2 x3 x4 x5 x6 x7 x8 x9 x10 x11 x12 : Value} {v : Int32} (hf : mF M pc = some (.istore 12, 2, n, t)) (hc : x11.category = 1) (kk : V g d M P sz' u' n (x0 :: x1 :: x2 :: x3 :: x4 :: x5 :: x6 :: x7 :: x8 :: x9 :: x10 :: x11 :: .int v :: tl) st h sz u) : V g d M P sz' u' pc (x0 :: x1 :: x2 :: x3 :: x4 :: x5 :: x6 :: x7 :: x8 :: x9 :: x10 :: x11 :: x12 :: tl) (.int v :: st) h sz u := V_istore hf rfl (by simp [mPrev, hc]) (by show (12 : Nat) < _; simp) kk
theorem V_inc12 {g : mG} {d : Nat} {M : mM} {P : Option Value → mH → Prop} {sz' u' pc n t : Nat} {st tl : List Value} {h : mH} {sz u : Nat} {x0 x1 x2 x3 x4 x5 x6 x7 x8 x9 x10 x11 : Value} {x v : Int32} {i : Int} (hf : mF M pc = some (.iinc 12 i, 3, n, t)) (hv : x + Int32.ofInt i = v) (hc : x11.category = 1) (kk : V g d M P sz' u' n (x0 :: x1 :: x2 :: x3 :: x4 :: x5 :: x6 :: x7 :: x8 :: x9 :: x10 :: x11 :: .int v :: tl) st h sz u) : V g d M P sz' u' pc (x0 :: x1 :: x2 :: x3 :: x4 :: x5 :: x6 :: x7 :: x8 :: x9 :: x10 :: x11 :: .int x :: tl) st h sz u := V_iinc hf rfl hv rfl (by simp [mPrev, hc]) kk
theorem V_lst3 {g : mG} {d : Nat} {M : mM} {P : Option Value → mH → Prop} {sz' u' pc n t : Nat} {st tl : List Value} {h : mH} {sz u : Nat} {x0 x1 x2 x3 x4 : Value} {v : Int64} (hf : mF M pc = some (.lstore_n 3, 1, n, t)) (hc : x2.category = 1) (kk : V g d M P sz' u' n (x0 :: x1 :: x2 :: .long v :: .retAddr 0 :: tl) st h sz u) : V g d M P sz' u' pc (x0 :: x1 :: x2 :: x3 :: x4 :: tl) (.long v :: st) h sz u := V_lstore_n hf rfl (by simp [mPrev, hc]) (by show (3 : Nat) + 1 < _; simp) kk
theorem mInc (k : Nat) : nI k + Int32.ofInt 1 = nI (k + 1) := nI_1 k
theorem mDcr (k : Nat) : nI (k + 1) + Int32.ofInt (-1) = nI k := pk_m1 k
/-! ===== leaves ===== -/
def atV (n : Nat) (f : Nat → Int32) (i : Int32) : Int32 := if i < 0 then -1 else if nI n ≤ i then -1 else f i.toNatClampNeg
def bitV (k : Int32) : Int32 := if k < 0 then 0 else if 31 ≤ k then 0 else 1 <<< (k &&& 31)
def hasV (S k : Int32) : Int32 := if k < 0 then 0 else if 31 ≤ k then 0 else if (S >>> (k &&& 31)) &&& 1 = 0 then 0 else 1
section leaf
variable {g : mG} {h : mH} {sz u : Nat}
theorem s_at {a n : Nat} {f : Nat → Int32} (hh : h a = cI n f) (hn : n < 2 ^ 31) (i : Int32) : Mt g 0 m_EB_at [.ref a, .int i] h sz u (Pi (atV n f i) h) sz u := by
  refine Mt.of m_EB_at_w m_EB_at_x m_EB_at_c rfl rfl (ls := [.ref a, .int i]) rfl ?_
  refine V_iload_n rfl rfl ?_
  refine V_if_lt rfl (fun h1 => ?_) (fun h1 => ?_)
  · refine V_iconst (v := (-1)) rfl (by decide) ?_
    refine V_ireturn rfl rfl (by first | rfl | exact b2_nar _ | assumption | decide) ?_
    exact ⟨by unfold atV; rw [if_pos h1], rfl⟩
  · refine V_iload_n rfl rfl ?_
    refine V_aload_n rfl rfl ?_
    refine V_alen rfl (by first | assumption | rfl) ?_
    refine V_icmp_ge rfl (fun h2 => ?_) (fun h2 => ?_)
    · refine V_iconst (v := (-1)) rfl (by decide) ?_
      refine V_ireturn rfl rfl (by first | rfl | exact b2_nar _ | assumption | decide) ?_
      exact ⟨by unfold atV; rw [if_neg h1, if_pos h2], rfl⟩
    · obtain ⟨j, hj, e⟩ : ∃ j : Nat, j < n ∧ i = nI j := by
        rcases pk_ix i hn with q | q | q
        · exact absurd q h1
        · exact absurd q h2
        · exact q
      refine V_aload_n rfl rfl ?_
      refine V_iload_n rfl rfl ?_
      refine V_iald rfl (by first | assumption | exact blkW_i rfl rfl | exact blkW_z rfl rfl | exact bAt_i (by assumption) rfl rfl | exact bAt_z (by assumption) rfl rfl | rfl) (by first | exact fa_lit _ | exact nI_add 2 _ | exact nI_add 26 _ | rfl | assumption) (by first | omega | assumption | decide) (by first | decide | omega | assumption) (by first | exact mp_isC (by assumption) (by first | omega | assumption) | exact mp_par (by assumption) (by first | omega | assumption) | exact mp_abv (by assumption) (by first | omega | assumption) | exact mp_dep (by assumption) (by first | omega | assumption) | exact mp_bT (by assumption) (by first | omega | assumption) | exact mp_bM (by assumption) (by first | omega | assumption) | exact mp_sK (by assumption) (by first | omega | assumption) | exact mp_sB (by assumption) (by first | omega | assumption) | exact mp_sT (by assumption) (by first | omega | assumption) | exact mp_sM (by assumption) (by first | omega | assumption) | exact mp_cS (by assumption) (by first | omega | assumption) | rfl) ?_
      refine V_goto rfl ?_
      refine V_ireturn rfl rfl (by first | rfl | exact b2_nar _ | assumption | decide) ?_
      exact ⟨by unfold atV; rw [if_neg h1, if_neg h2, e, nI_clamp (by omega)], rfl⟩
theorem s_bit (k : Int32) : Mt g 0 m_EB_bit [.int k] h sz u (Pi (bitV k) h) sz u := by
  refine Mt.of m_EB_bit_w m_EB_bit_x m_EB_bit_c rfl rfl (ls := [.int k]) rfl ?_
  refine V_iload_n rfl rfl ?_
  refine V_if_lt rfl (fun h1 => ?_) (fun h1 => ?_)
  · refine V_iconst (v := 0) rfl (by decide) ?_
    refine V_ireturn rfl rfl (by first | rfl | exact b2_nar _ | assumption | decide) ?_
    exact ⟨by unfold bitV; rw [if_pos h1], rfl⟩
  · refine V_iload_n rfl rfl ?_
    refine V_bipush (v := 31) rfl (by decide) ?_
    refine V_icmp_ge rfl (fun h2 => ?_) (fun h2 => ?_)
    · refine V_iconst (v := 0) rfl (by decide) ?_
      refine V_ireturn rfl rfl (by first | rfl | exact b2_nar _ | assumption | decide) ?_
      exact ⟨by unfold bitV; rw [if_neg h1, if_pos h2], rfl⟩
    · refine V_iconst (v := 1) rfl (by decide) ?_
      refine V_iload_n rfl rfl ?_
      refine V_ishl rfl ?_
      refine V_goto rfl ?_
      refine V_ireturn rfl rfl (by first | rfl | exact b2_nar _ | assumption | decide) ?_
      exact ⟨by unfold bitV; rw [if_neg h1, if_neg h2], rfl⟩
theorem s_has (S k : Int32) : Mt g 0 m_EB_has [.int S, .int k] h sz u (Pi (hasV S k) h) sz u := by
  refine Mt.of m_EB_has_w m_EB_has_x m_EB_has_c rfl rfl (ls := [.int S, .int k]) rfl ?_
  refine V_iload_n rfl rfl ?_
  refine V_if_lt rfl (fun h1 => ?_) (fun h1 => ?_)
  · refine V_iconst (v := 0) rfl (by decide) ?_
    refine V_ireturn rfl rfl (by first | rfl | exact b2_nar _ | assumption | decide) ?_
    exact ⟨by unfold hasV; rw [if_pos h1], rfl⟩
  · refine V_iload_n rfl rfl ?_
    refine V_bipush (v := 31) rfl (by decide) ?_
    refine V_icmp_ge rfl (fun h2 => ?_) (fun h2 => ?_)
    · refine V_iconst (v := 0) rfl (by decide) ?_
      refine V_ireturn rfl rfl (by first | rfl | exact b2_nar _ | assumption | decide) ?_
      exact ⟨by unfold hasV; rw [if_neg h1, if_pos h2], rfl⟩
    · refine V_iload_n rfl rfl ?_
      refine V_iload_n rfl rfl ?_
      refine V_ishr rfl ?_
      refine V_iconst (v := 1) rfl (by decide) ?_
      refine V_iand rfl ?_
      refine V_if_eq rfl (fun h3 => ?_) (fun h3 => ?_)
      · refine V_iconst (v := 0) rfl (by decide) ?_
        refine V_ireturn rfl rfl (by first | rfl | exact b2_nar _ | assumption | decide) ?_
        exact ⟨by unfold hasV; rw [if_neg h1, if_neg h2, if_pos h3], rfl⟩
      · refine V_iconst (v := 1) rfl (by decide) ?_
        refine V_goto rfl ?_
        refine V_ireturn rfl rfl (by first | rfl | exact b2_nar _ | assumption | decide) ?_
        exact ⟨by unfold hasV; rw [if_neg h1, if_neg h2, if_neg h3], rfl⟩
theorem s_fill {a n : Nat} {f : Nat → Int32} (hh : h a = cI n f) (hn : n < 2 ^ 31) (x : Int32) : Mt g 0 m_Arr_fill [.ref a, .int x] h sz u (Pn (va_up h a (cI n (fa_fill (fun _ => x) f n)))) sz u := by
  refine Mt.of m_Arr_fill_w m_Arr_fill_x m_Arr_fill_c rfl rfl (ls := [.ref a, .int x, .retAddr 0, .retAddr 0]) rfl ?_
  refine V_iconst (v := 0) rfl (by decide) ?_
  refine V_is2 rfl (by first | rfl | assumption) ?_
  refine V_aload_n rfl rfl ?_
  refine V_alen rfl (by first | assumption | rfl) ?_
  refine V_is3 rfl (by first | rfl | assumption) ?_
  have e0 : va_up h a (cI n (fa_fill (fun _ => x) f 0)) = h := by
    funext k
    by_cases hk : k = a
    · subst hk; simp only [va_up, if_pos]; rw [fa_fill_0]; exact hh.symm
    · simp only [va_up, if_neg hk]
  refine V_for2 n (fun i => [.ref a, .int x, .int (nI i), .int (nI n)]) (fun i => va_up h a (cI n (fa_fill (fun _ => x) f i))) rfl e0 (fun i hi ih => ?_) ?_
  · skip
    refine V_iload_n rfl rfl ?_
    refine V_iload_n rfl rfl ?_
    refine V_icmp_geF rfl (nI_ge hi hn) ?_
    have hh2 : va_up h a (cI n (fa_fill (fun _ => x) f i)) a = cI n (fa_fill (fun _ => x) f i) := by simp only [va_up, if_pos]
    refine V_aload_n rfl rfl ?_
    refine V_iload_n rfl rfl ?_
    refine V_iload_n rfl rfl ?_
    first | refine V_bast rfl rfl rfl (by first | exact fa_lit _ | exact nI_add 2 _ | exact nI_add 26 _ | rfl | assumption) (by first | omega | assumption | decide) (by first | decide | omega | assumption) ?_ | refine V_iastore rfl (by first | assumption | exact blkW_i rfl rfl | exact blkW_z rfl rfl | exact bAt_i (by assumption) rfl rfl | exact bAt_z (by assumption) rfl rfl | rfl) (by first | exact fa_lit _ | exact nI_add 2 _ | exact nI_add 26 _ | rfl | assumption) (by first | omega | assumption | decide) (by first | decide | omega | assumption) ?_
    refine V_inc2 rfl (by first | exact mInc _ | exact mDcr _ | rfl) (by first | rfl | assumption) ?_
    refine V_goto rfl ?_
    rw [bx_uu, show upd (fa_fill (fun _ => x) f i) i x = fa_fill (fun _ => x) f (i + 1) from fa_fill_succ (fun _ => x) f i]
    exact ih
  · skip
    refine V_iload_n rfl rfl ?_
    refine V_iload_n rfl rfl ?_
    refine V_icmp_geT rfl (nI_le (Nat.le_refl n) hn) ?_
    refine V_return rfl rfl ?_
    exact ⟨rfl, rfl⟩
theorem s_max (x y : Int32) : Mt g 0 m_Mat_max [.int x, .int y] h sz u (Pi (if x < y then y else x) h) sz u := by
  refine Mt.of m_Mat_max_w m_Mat_max_x m_Mat_max_c rfl rfl (ls := [.int x, .int y]) rfl ?_
  refine V_iload_n rfl rfl ?_
  refine V_iload_n rfl rfl ?_
  refine V_icmp_lt rfl (fun h1 => ?_) (fun h1 => ?_)
  · refine V_iload_n rfl rfl ?_
    refine V_ireturn rfl rfl (by first | rfl | exact b2_nar _ | assumption | decide) ?_
    exact ⟨by rw [if_pos h1], rfl⟩
  · refine V_iload_n rfl rfl ?_
    refine V_goto rfl ?_
    refine V_ireturn rfl rfl (by first | rfl | exact b2_nar _ | assumption | decide) ?_
    exact ⟨by rw [if_neg h1], rfl⟩
theorem s_min (x y : Int32) : Mt g 0 m_Mat_min [.int x, .int y] h sz u (Pi (if y < x then y else x) h) sz u := by
  refine Mt.of m_Mat_min_w m_Mat_min_x m_Mat_min_c rfl rfl (ls := [.int x, .int y]) rfl ?_
  refine V_iload_n rfl rfl ?_
  refine V_iload_n rfl rfl ?_
  refine V_icmp_gt rfl (fun h1 => ?_) (fun h1 => ?_)
  · refine V_iload_n rfl rfl ?_
    refine V_ireturn rfl rfl (by first | rfl | exact b2_nar _ | assumption | decide) ?_
    exact ⟨by rw [if_pos h1], rfl⟩
  · refine V_iload_n rfl rfl ?_
    refine V_goto rfl ?_
    refine V_ireturn rfl rfl (by first | rfl | exact b2_nar _ | assumption | decide) ?_
    exact ⟨by rw [if_neg h1], rfl⟩
end leaf
