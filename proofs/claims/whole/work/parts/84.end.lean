/-! THE CLAIM OUT OF ONE WALK OF THE LAW'S BODY. Your part is whole_start (and what it stands on); all else here is the same for every law, but numbers. -/
def R_law : String := "EarlyBinderLaw"
def lw_P (b : Addr) (xs : List Int32) (args : Array Value) (s : State) : Prop := args = #[.ref b] ∧ s.IntsAt b xs ∧ xs.length ≤ 1536 ∧ (Jvm.Cond.and given_1 narrow_1).before args s = true
def lw_Q (_ : Array Value) (s : State) (o : Outcome) (t : State) : Prop := o = .returned (some (.int 1)) ∧ Framed s o t [] 600000 7302250
def lw_Z (below : List Frame) (a : Array Value) (s : State) : State → Prop := fun t => ∃ o, t.status = .running ∧ Ended t below o ∧ lw_Q a s o t
/-- the law's own end, with 1 on the stack, nothing written that was there before, its room as the claim has it -/
theorem lw_ret {p : Program} {l : Launch} {e : Env} {s : State} {m : MethodId} {below : List Frame} {meth : Method} {c : Code} {b : Nat} (hx : p.tables.exec = Jvm.exec) (hb : c.code = code) (hr : meth.sig.returnType = ret) (hlocks : meth.locks = false) {pc : Nat} {H : Heap} {ls : Array Slot} (hdg : decode code pc = .ok (.ireturn, 1)) : W p l e room_1 s m #[Value.ref b] below meth c H [] 600000 7302250 (lw_Z below #[Value.ref b] s) (F0 m pc ls [.int 1]) := by
  intro T hT X
  obtain ⟨fs, hret, hrun, hended, hW, hframe⟩ := X.leave (v := some (.int 1)) (hlocks := hlocks) (fun h => by rw [hr] at h; cases h)
  have hmeth' : T.vm.method? m = some meth := X.method'
  refine ⟨T.setFrames fs, ?_, .returned (some (.int 1)), hrun, hended, rfl, ⟨_, rfl⟩, hW, hframe⟩
  jvm_step X.here [X.here.top, hx, hb, hdg, hmeth', hr, ret, narrow_b1]
  (try refine ⟨rfl, ?_⟩); (try refine ⟨rfl, ?_⟩)
  first | (intro acts; rw [hret _ acts rfl rfl rfl]) | rw [hret _ _ rfl rfl rfl]
  exact Steps.refl _
/-- what holds at the law's entry: the machine, the code, the tables' words (any of lw_tbl by 'hts w (by decide +kernel)'), the script of L ints xs at the cell b, what the Statement gives of the start (any of its parts by flat_of_before) -/
def lw_At (p : Program) (s : State) (m : MethodId) (meth : Method) (c : Code) (b L : Nat) (xs : Nat → Int32) : Prop :=
  p.tables.exec = Jvm.exec ∧ c.code = code ∧ meth.sig.returnType = ret ∧ c.maxLocals = 4 ∧ s.vm.findClass R_law = some m.cls ∧ (∀ w ∈ lw_tbl, w.before #[Value.ref b] s = true) ∧ va_X b L xs s s.heap ∧ b < s.heap.size ∧ meth.locks = false ∧ (Jvm.Cond.and given_1 narrow_1).before #[Value.ref b] s = true
theorem mInst {ci : Nat} {r : vw_C} (hr : vwCl[ci]? = some r) : Cond.instantiable r.1 r.2.2 ∈ lw_tbl := by
  match ci, hr with
  | 0, hr => cases hr; exact List.mem_of_getElem? (i := 216) (by decide +kernel)
  | 1, hr => cases hr; exact List.mem_of_getElem? (i := 145) (by decide +kernel)
  | 2, hr => cases hr; exact List.mem_of_getElem? (i := 196) (by decide +kernel)
  | 3, hr => cases hr; exact List.mem_of_getElem? (i := 250) (by decide +kernel)
  | 4, hr => cases hr; exact List.mem_of_getElem? (i := 99) (by decide +kernel)
  | 5, hr => cases hr; exact List.mem_of_getElem? (i := 139) (by decide +kernel)
  | 6, hr => cases hr; exact List.mem_of_getElem? (i := 91) (by decide +kernel)
  | 7, hr => cases hr; exact List.mem_of_getElem? (i := 823) (by decide +kernel)
  | n + 8, hr => cases hr
theorem mClasses {s : State} {args : Array Value} (hts : ∀ w ∈ lw_tbl, w.before args s = true) : ∃ D : va_G, ∀ (c : Nat) (q : vw_C), vwCl[c]? = some q → u_Kn s q.1 q.2.1 q.2.2 (D.1 c) (D.2 c) := by
  have hk : ∀ ci : Nat, ∃ q : ClassId × (Nat → Nat), ∀ r, vwCl[ci]? = some r → u_Kn s r.1 r.2.1 r.2.2 q.1 q.2 := fun ci => by
    cases hr : vwCl[ci]? with
    | none => exact ⟨(0, fun _ => 0), fun r h => by cases h⟩
    | some r =>
      obtain ⟨cC, iS, h⟩ := u_known (C := r.1) (T := r.2.1) (N := r.2.2) (n := r.2.2) hts (fun w hw => (List.mem_filter.mp (mLay_in hr w hw)).1) (hts _ (mInst hr))
      exact ⟨(cC, iS), fun r2 h2 => by cases h2; exact h⟩
  exact ⟨(fun c => (Classical.choose (hk c)).1, fun c => (Classical.choose (hk c)).2), fun c q hq => Classical.choose_spec (hk c) q hq⟩
theorem mArr {s : State} {args : Array Value} {ty : FieldType} (h : (Cond.arrayClass ty).before args s = true) : ∃ cA : ClassId, ArrOfT s cA ty ∧ s.vm.findClass ("[" ++ ty.toString) = some cA := by
  obtain ⟨cA, kA, comp, h1, h2, h3⟩ := Cond.arrayClass_spec h
  exact ⟨cA, fun n z => ⟨fun k h => (by cases h), kA, h2, comp, h3⟩, h1⟩
theorem mTbl {s : State} {args : Array Value} (hts : ∀ w ∈ lw_tbl, w.before args s = true) {i : Nat} {w : Cond} (h : lw_tbl[i]? = some w) : w.before args s = true := hts w (List.mem_of_getElem? h)
theorem mStart {s : State} {args : Array Value} (hts : ∀ w ∈ lw_tbl, w.before args s = true) (l : Launch) (z b n : Nat) (x : Nat → Int32) : ∃ (D : va_G) (t : ClassId × ClassId × ClassId), mKK (l, D, z, b, t, n, x) s := by
  obtain ⟨D, hD⟩ := mClasses hts
  obtain ⟨cI, i1, i2⟩ := mArr (mTbl hts (mOth 5 rfl rfl))
  obtain ⟨cZ, z1, z2⟩ := mArr (mTbl hts (mOth 6 rfl rfl))
  have hS : (Cond.arrayOver (.object "EarlyBinder$Scene")).before args s = true := mTbl hts (mOth 7 rfl rfl)
  obtain ⟨comp, cS, kS, s1, s2, s3, s4, s5⟩ := Cond.arrayOver_spec hS
  refine ⟨D, (cI, cZ, cS), ⟨hD, fun k q hq => ?_⟩, fun w hw hn => va_Nw.of (mNw_on hn) (hts w hw), va_AO.of hS⟩
  match k, hq with
  | 0, hq => cases hq; exact ⟨i1, i2⟩
  | 1, hq => cases hq; exact ⟨z1, z2⟩
  | 2, hq => cases hq; exact ⟨fun N z => ⟨(fun k h => by cases h), kS, s3, comp, s4⟩, kS, comp, s3, s4, s1, s5⟩
  | k + 3, hq => cases hq
/-- from the entry, for every script of at most 1536 ints, the law comes to its end with true -/
theorem whole_start {p : Program} {e : Env} {s : State} {m : MethodId} {below : List Frame} {meth : Method} {c : Code} (l : Launch) {b L : Nat} {xs : Nat → Int32} (hL : L ≤ 1536) (hnm : meth.name = "law") (C0 : lw_At p s m meth c b L xs) : W p l e room_1 s m #[Value.ref b] below meth c s.heap [] 0 0 (lw_Z below #[Value.ref b] s) (entryFrame m ([Value.ref b] : List Value).toArray 4) := by
  obtain ⟨hx, hb, hr, hml, hown, hts, hX, hbl, hlocks, hgv⟩ := id C0
  obtain ⟨D, t, hK⟩ := mStart hts l (s.heap.size - 1) b L xs
  obtain ⟨g, hg⟩ : ∃ g : mG, g = (l, D, s.heap.size - 1, b, t, L, xs) := ⟨_, rfl⟩
  rw [← hg] at hK
  have e1 : gL g = l := by rw [hg]; rfl
  have e2 : gz g = s.heap.size - 1 := by rw [hg]; rfl
  have e3 : gb g = b := by rw [hg]; rfl
  have e4 : gn g = L := by rw [hg]; rfl
  have e5 : gx g = xs := by rw [hg]; rfl
  have hV := e_start (g := g) (by rw [e4]; exact hL)
  rw [lg_entry_eq]
  have hl : mLR g m_Law_law ((lg_sl (([.ref 0] : List Value).map (mRl g)) ++ List.replicate (mMl m_Law_law - (lg_sl (([.ref 0] : List Value).map (mRl g))).length) Slot.unset).toArray) (mEn m_Law_law [.ref 0]) := mLR_entry (Nat.le_of_ble_eq_true rfl)
  rw [show ([.ref 0] : List Value).map (mRl g) = [.ref b] from by show [Value.ref (gb g)] = _; rw [e3]] at hl
  subst e1
  refine hV.2.2 p e room_1 s m #[Value.ref b] below meth c s.heap [] 0 0 (lw_Z below #[Value.ref b] s) _ ⟨hx, hb, hml, hr, hown, fun w hw => hts w (List.mem_filter.mp hw).1, hK, hlocks, hnm, m_Law_law_c, by decide, by decide, by omega, fun _ => ⟨by rw [e3, e4, e5]; exact hX, by rw [e3]; exact hbl, by omega⟩⟩ ⟨Nat.le_refl _, by omega, fun k h1 h2 => by omega, fun k _ => rfl⟩ va_S.rf hl (by decide) (by decide) ?_
  intro r h' H' locs' pc' arr' hP hS' hF' hret
  cases hP
  have hd : decode code pc' = .ok (.ireturn, 1) := by
    rcases hret with ⟨r1, r2, -⟩ | ⟨ty, v, -, -, -, r3⟩ | ⟨nm, a, -, r2, -⟩
    · cases r2
    · exact r3
    · cases r2
  refine va_forget (fun q hq => ?_) ?_
  · have : gz g < q.base := hF'.2.2 q hq
    omega
  · exact W.widen (k := 600000) (n := 7302250) (by decide) (by decide) (lw_ret hx hb hr hlocks hd)
set_option maxHeartbeats 4000000 in
theorem lw_walk (l : Launch) (b : Addr) (xs : List Int32) : MetFree l x (headSpec (Jvm.Cond.code x code maxLocals ret :: tables_1) room_1) (lw_P b xs) (fun _ _ _ _ _ => True) lw_Q := by
  refine MetFree.of_bodyS (code := code) (maxLocals := maxLocals) (ret := ret) (by decide) ?_ ?_
  · intro args s m h hn
    obtain ⟨meth, c, h1, h2, h3, h4, h5, h6, -, -⟩ := Cond.code_spec hn (atoms_spec (ws := Jvm.Cond.code x code maxLocals ret :: tables_1) h _ List.mem_cons_self)
    exact ⟨meth, c, h1, h2, h3, h4, h5, h6⟩
  · intro p e s m args below meth c s₁ B hml0 hP _
    obtain ⟨rfl, hx, hbd, hgv⟩ := hP
    obtain ⟨scr, harrAt, hlist, hof, hsmall⟩ := hx
    obtain ⟨hcb, hkn, -, -⟩ := State.arrayAt?_spec harrAt
    have hown : s.vm.findClass R_law = some m.cls := findClass_of_methodNamed B.named
    have hts0 : ∀ c ∈ (Jvm.Cond.code x code maxLocals ret :: tables_1), c.before #[Value.ref b] s = true := atoms_spec (ws := Jvm.Cond.code x code maxLocals ret :: tables_1) B.pre
    have hts : ∀ w ∈ lw_tbl, w.before #[Value.ref b] s = true := k2_hts_sels lw_privs (fun w hw => hts0 w (List.mem_cons_of_mem _ hw)) lw_privs_ok
    have hml : c.maxLocals = 4 := B.maxLocals_eq (hts0 _ List.mem_cons_self)
    have X₀ : Stand p l e room_1 s m #[Value.ref b] below meth c s₁ [] 0 0 := Stand.of_body B
    have hh0 : s₁.heap = s.heap := by rw [B.state]; rfl
    have hsz : scr.slots.size = xs.length := by rw [← Array.length_toList, hlist, List.length_map]
    have hval : ∀ j : Nat, j < xs.length → scr.slots[j]? = some (.int (xs.getD j 0)) := fun j hj => by
      rw [← Array.getElem?_toList, hlist]
      simp [hj]
    have hbl : b < s.heap.size := (Array.getElem?_eq_some_iff.mp hcb).1
    have hX : va_X b xs.length (fun j => xs.getD j 0) s s.heap := ⟨scr, hcb, hof, hkn, hsz, hval⟩
    have K : W p l e room_1 s m #[Value.ref b] below meth c s₁.heap [] 0 0 (lw_Z below #[Value.ref b] s) (entryFrame m ([Value.ref b] : List Value).toArray 4) := by
      rw [hh0]
      exact whole_start l hbd (name_of_methodNamed B.named B.method).1 ⟨B.exec, B.bytes, B.returns, hml, hown, hts, hX, hbl, B.notSynchronized, hgv⟩
    obtain ⟨t, a1, o, b1, b2, b3⟩ := K s₁ rfl X₀
    exact ⟨t, o, a1, b1, b2, b3⟩
theorem lw_pre_spec {args : Array Value} {s : State} (h : (Jvm.Cond.and given_1 narrow_1).before args s = true) (hr : rest_1_c.before args s = true) : ∃ (b : Addr) (xs : List Int32), lw_P b xs args s := by
  have hs := flat_of_before _ h
  have hq := flat_of_before _ hr
  have hc : (Cond.count 1).before args s = true := hs _ (by decide +kernel)
  have harr : (Cond.arrayOf (.arg 0) .int).before args s = true := hs _ (by decide +kernel)
  have hle : (Cond.le (.length (.arg 0)) (.int 1536)).before args s = true := hs _ (by decide +kernel)
  have hlen : (Cond.isInt (.length (.arg 0))).before args s = true := hq _ (by decide +kernel)
  have hall : (Cond.all (.arg 0) (.isInt (.elem (.arg 0) (.index 0)))).before args s = true := hq _ (by decide +kernel)
  obtain ⟨b, xs, hb, hx⟩ := State.ints_of_pre rfl harr hlen hall
  have hsm : xs.length < 2 ^ 31 := hx.choose_spec.2.2.2
  have hev : (Term.length (.arg 0)).eval args s none [] s = some (.int xs.length.toInt32) := hx.length_eval hb
  have hv := Cond.le_ints hev (show (Term.int 1536).eval args s none [] s = some (.int 1536) from rfl)
  have hd : xs.length.toInt32 ≤ 1536 := by
    simpa [Cond.before, Cond.holds, hv] using hle
  have hN : xs.length ≤ 1536 := (Int32.ofNat_le_ofNat hsm (by decide)).mp (show Int32.ofNat xs.length ≤ Int32.ofNat 1536 from hd)
  exact ⟨b, xs, Cond.one_arg hc (show args[0]? = some (.ref b) from hb), hx, hN, h⟩
theorem lw_comes (l : Launch) : Comes l x (Jvm.Cond.code x code maxLocals ret :: tables_1) room_1 (fun tb e args s => Calls_1 tb e args s ∧ rest_1 tb e args s ∧ Pre_1 tb e args s)
    (fun _ _ args s o t => lw_Q args s o t) := by
  intro p e ha hc hk s m args below hf hfit hheap happ hpre
  obtain ⟨b, xs, hP⟩ := lw_pre_spec hpre.2.2 hpre.2.1
  obtain ⟨k, o, h1, h2, h3, hQ⟩ := lw_walk l b xs p e ha hc hk s m args below hf ((Spec.applies_iff_loose hf).mp happ).1 hP trivial
  exact ⟨k, o, h1, h2, h3, hQ⟩
theorem lw_frame {s t : State} {o : Outcome} {args : Array Value} (h : Framed s o t [] 600000 7302250) :
    Framed s o t (fieldLocs frame_1_writes args s ++ arrayLocs frame_1_arrays args s ++ staticLocs frame_1_statics s) 600000 7302250 := h
theorem lw_limb (L : Cond) (hL : ∀ (args : Array Value) (s t : State), L.after args s (.returned (some (.int 1))) t = true) :
    ArmFor flags0 classFile x code maxLocals ret World_1 tables_1 room_1 Calls_1 rest_1 Pre_1
      (fun tb e a s o t => postC L tb e a s o t ∧ Framed s o t (fieldLocs frame_1_writes a s ++ arrayLocs frame_1_arrays a s ++ staticLocs frame_1_statics s) 600000 7302250) := by
  intro l _ _ _ p e ha hc hk s m args below hf hfit hheap happ hpre
  obtain ⟨k, o, h1, h2, h3, rfl, hF⟩ := lw_comes l p e ha hc hk s m args below hf hfit hheap happ hpre
  exact ⟨k, _, h1, h2, h3, hL args s _, lw_frame hF⟩
theorem i_vc : Claimed_1_1 ∧ Claimed_1_2 := ⟨lw_limb limb_1_1 (fun args s t => by simp [limb_1_1, Cond.after, Cond.holds, Cond.value]), lw_limb limb_1_2 (fun args s t => Cond.after_iff.mpr (by
  first | (rw [show limb_1_2 = Cond.eq .result (.int 1) from rfl, Cond.eq_ints (x := 1) (y := 1) rfl rfl]; simp; done) | (simp [limb_1_2, Cond.value, Term.eval]; done)))⟩
