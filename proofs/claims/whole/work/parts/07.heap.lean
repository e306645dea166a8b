section mV2
variable {g : mG} {d : Nat} {M : mM} {P : Option Value → mH → Prop} {sz' u' pc n t : Nat} {ls st : List Value} {h : mH} {sz u : Nat}
theorem V_br {pt pf : Nat} {cd : Prop} {st2 : List Value} (kt : cd → V g d M P sz' u' pt ls st2 h sz u) (kf : ¬ cd → V g d M P sz' u' pf ls st2 h sz u)
    (hs : ∀ (p : Program) (e : Env) (R : Room) (s : State) (m : MethodId) (args : Array Value) (below : List Frame) (meth : Method) (c : Code) (H : Heap) (locs : List Loc) (cells slots : Nat) (Q : State → Prop) (arr : Array Slot), mCtx g d M p R s m args meth c → mLR g M arr ls →
      (cd → W p (gL g) e R s m args below meth c H locs cells slots Q (F0 m pt arr (st2.map (mRl g)))) → (¬ cd → W p (gL g) e R s m args below meth c H locs cells slots Q (F0 m pf arr (st2.map (mRl g)))) → W p (gL g) e R s m args below meth c H locs cells slots Q (F0 m pc arr (st.map (mRl g)))) : V g d M P sz' u' pc ls st h sz u := by
  by_cases hc : cd
  · have kk := kt hc
    exact ⟨kk.1, kk.2.1, fun p e R s m args below meth c H locs cells slots Q arr C S F L h1 h2 K => hs p e R s m args below meth c H locs cells slots Q arr C L (fun _ => kk.2.2 p e R s m args below meth c H locs cells slots Q arr C S F L h1 h2 K) (fun h => absurd hc h)⟩
  · have kk := kf hc
    exact ⟨kk.1, kk.2.1, fun p e R s m args below meth c H locs cells slots Q arr C S F L h1 h2 K => hs p e R s m args below meth c H locs cells slots Q arr C L (fun h => absurd h hc) (fun _ => kk.2.2 p e R s m args below meth c H locs cells slots Q arr C S F L h1 h2 K)⟩
theorem V_icmp {cd : Jvm.ClassFile.Cond} {o : Int} {x y : Int32} (hf : mF M pc = some (.if_icmp cd o, 3, n, t)) (kt : mCmp cd x y → V g d M P sz' u' t ls st h sz u) (kf : ¬ mCmp cd x y → V g d M P sz' u' n ls st h sz u) : V g d M P sz' u' pc ls (.int y :: .int x :: st) h sz u :=
  V_br kt kf fun p e R s m args below meth c H locs cells slots Q arr C L k1 k2 => by
    obtain ⟨hd, rfl, ht⟩ := mDec C hf
    have hu : (pc : Int) + o = (t : Int) := of_decide_eq_true (show decide ((pc : Int) + o = (t : Int)) = true from ht)
    cases cd
    · exact lv_icmp_eq C.1 C.2.1 hd hu k1 k2
    · exact lv_icmp_ne C.1 C.2.1 hd hu k1 (fun q => k2 (fun z => z q))
    · exact lv_icmp_lt C.1 C.2.1 hd hu k1 k2
    · exact lv_icmp_ge C.1 C.2.1 hd hu k1 k2
    · exact lv_icmp_gt C.1 C.2.1 hd hu k1 k2
    · exact lv_icmp_le C.1 C.2.1 hd hu k1 k2
theorem V_if {cd : Jvm.ClassFile.Cond} {o : Int} {x : Int32} (hf : mF M pc = some (.ifCond cd o, 3, n, t)) (kt : mCmp cd x 0 → V g d M P sz' u' t ls st h sz u) (kf : ¬ mCmp cd x 0 → V g d M P sz' u' n ls st h sz u) : V g d M P sz' u' pc ls (.int x :: st) h sz u :=
  V_br kt kf fun p e R s m args below meth c H locs cells slots Q arr C L k1 k2 => by
    obtain ⟨hd, rfl, ht⟩ := mDec C hf
    have hu : (pc : Int) + o = (t : Int) := of_decide_eq_true (show decide ((pc : Int) + o = (t : Int)) = true from ht)
    cases cd
    · exact lv_if_eq C.1 C.2.1 hd hu k1 k2
    · exact lv_if_ne C.1 C.2.1 hd hu k1 (fun q => k2 (fun z => z q))
    · exact lv_if_lt C.1 C.2.1 hd hu k1 k2
    · exact lv_if_ge C.1 C.2.1 hd hu k1 k2
    · exact lv_if_gt C.1 C.2.1 hd hu k1 k2
    · exact lv_if_le C.1 C.2.1 hd hu k1 k2
theorem V_icmpT {cd : Jvm.ClassFile.Cond} {o : Int} {x y : Int32} (hf : mF M pc = some (.if_icmp cd o, 3, n, t)) (hc : mCmp cd x y) (kk : V g d M P sz' u' t ls st h sz u) : V g d M P sz' u' pc ls (.int y :: .int x :: st) h sz u := V_icmp hf (fun _ => kk) (fun q => absurd hc q)
theorem V_icmpF {cd : Jvm.ClassFile.Cond} {o : Int} {x y : Int32} (hf : mF M pc = some (.if_icmp cd o, 3, n, t)) (hc : ¬ mCmp cd x y) (kk : V g d M P sz' u' n ls st h sz u) : V g d M P sz' u' pc ls (.int y :: .int x :: st) h sz u := V_icmp hf (fun q => absurd q hc) (fun _ => kk)
theorem V_ifT {cd : Jvm.ClassFile.Cond} {o : Int} {x : Int32} (hf : mF M pc = some (.ifCond cd o, 3, n, t)) (hc : mCmp cd x 0) (kk : V g d M P sz' u' t ls st h sz u) : V g d M P sz' u' pc ls (.int x :: st) h sz u := V_if hf (fun _ => kk) (fun q => absurd hc q)
theorem V_ifF {cd : Jvm.ClassFile.Cond} {o : Int} {x : Int32} (hf : mF M pc = some (.ifCond cd o, 3, n, t)) (hc : ¬ mCmp cd x 0) (kk : V g d M P sz' u' n ls st h sz u) : V g d M P sz' u' pc ls (.int x :: st) h sz u := V_if hf (fun q => absurd q hc) (fun _ => kk)
/-- a switch: the number in, or out of its bounds -/
theorem V_tabIn {df lo hi off : Int} {offs : Array Int} {len tg : Nat} {x : Int32} (hf : mF M pc = some (.tableswitch df lo hi offs, len, n, t)) (h1 : ¬ x.toInt < lo) (h2 : ¬ hi < x.toInt) (ho : offs[(x.toInt - lo).toNat]? = some off) (ht : (pc : Int) + off = (tg : Int)) (kk : V g d M P sz' u' tg ls st h sz u) : V g d M P sz' u' pc ls (.int x :: st) h sz u :=
  V_op kk fun p e R s m args below meth c H locs cells slots Q arr C S F L k => by
    obtain ⟨hd, -, -⟩ := mDec C hf
    exact lv_tableIn C.1 C.2.1 hd h1 h2 ho ht k
theorem V_tabOut {df lo hi : Int} {offs : Array Int} {len tg : Nat} {x : Int32} (hf : mF M pc = some (.tableswitch df lo hi offs, len, n, t)) (h1 : x.toInt < lo ∨ hi < x.toInt) (ht : (pc : Int) + df = (tg : Int)) (kk : V g d M P sz' u' tg ls st h sz u) : V g d M P sz' u' pc ls (.int x :: st) h sz u :=
  V_op kk fun p e R s m args below meth c H locs cells slots Q arr C S F L k => by
    obtain ⟨hd, -, -⟩ := mDec C hf
    exact lv_tableOut C.1 C.2.1 hd h1 ht k
theorem mLR.lt {g : mG} {M : mM} {arr : Array Slot} {ls : List Value} (L : mLR g M arr ls) {i : Nat} (hi : i < ls.length) : i < mMl M := by rw [← L.1]; exact hi
/-- locals written -/
theorem V_st1 {i : Nat} {v : Value} {ls2 : List Value} (kk : V g d M P sz' u' n ls2 st h sz u) (h2 : ls2 = ls.set i v) (hp : mPrev ls i = true) (hi : i < ls.length) {st2 : List Value}
    (hs : ∀ (p : Program) (e : Env) (R : Room) (s : State) (m : MethodId) (args : Array Value) (below : List Frame) (meth : Method) (c : Code) (H : Heap) (locs : List Loc) (cells slots : Nat) (Q : State → Prop) (arr : Array Slot), mCtx g d M p R s m args meth c → mLR g M arr ls →
      (∀ arr', lv_has arr' (mMl M) ((i, mRl g v) :: (mLA g 0 ls).filter (fun q => !(q.1 == i) && !(q.1 + 1 == i && q.2.category == 2))) → W p (gL g) e R s m args below meth c H locs cells slots Q (F0 m n arr' (st.map (mRl g)))) → W p (gL g) e R s m args below meth c H locs cells slots Q (F0 m pc arr (st2.map (mRl g)))) : V g d M P sz' u' pc ls st2 h sz u := by
  subst h2
  exact ⟨kk.1, kk.2.1, fun p e R s m args below meth c H locs cells slots Q arr C S F L h1 h2 K => hs p e R s m args below meth c H locs cells slots Q arr C L (fun arr' hn => kk.2.2 p e R s m args below meth c H locs cells slots Q arr' C S F (L.set1 hp rfl hn) h1 h2 K)⟩
theorem V_istore_n {k : Fin 4} {x : Int32} {ls2 : List Value} (hf : mF M pc = some (.istore_n k, 1, n, t)) (h2 : ls.set (k : Nat) (.int x) = ls2) (hp : mPrev ls (k : Nat) = true) (hi : (k : Nat) < ls.length) (kk : V g d M P sz' u' n ls2 st h sz u) : V g d M P sz' u' pc ls (.int x :: st) h sz u :=
  V_st1 kk h2.symm hp hi fun p e R s m args below meth c H locs cells slots Q arr C L k => by
    obtain ⟨hd, rfl, -⟩ := mDec C hf
    exact lv_istore_n C.1 C.2.1 hd rfl L.2 (L.lt hi) rfl k
theorem V_istore {k : Nat} {x : Int32} {ls2 : List Value} (hf : mF M pc = some (.istore k, 2, n, t)) (h2 : ls.set k (.int x) = ls2) (hp : mPrev ls k = true) (hi : k < ls.length) (kk : V g d M P sz' u' n ls2 st h sz u) : V g d M P sz' u' pc ls (.int x :: st) h sz u :=
  V_st1 kk h2.symm hp hi fun p e R s m args below meth c H locs cells slots Q arr C L k => by
    obtain ⟨hd, rfl, -⟩ := mDec C hf
    exact lv_istore C.1 C.2.1 hd L.2 (L.lt hi) rfl k
theorem V_astore_n {k : Fin 4} {x : Nat} {ls2 : List Value} (hf : mF M pc = some (.astore_n k, 1, n, t)) (h2 : ls.set (k : Nat) (.ref x) = ls2) (hp : mPrev ls (k : Nat) = true) (hi : (k : Nat) < ls.length) (kk : V g d M P sz' u' n ls2 st h sz u) : V g d M P sz' u' pc ls (.ref x :: st) h sz u :=
  V_st1 kk h2.symm hp hi fun p e R s m args below meth c H locs cells slots Q arr C L k => by
    obtain ⟨hd, rfl, -⟩ := mDec C hf
    exact lv_astore_n C.1 C.2.1 hd rfl L.2 (L.lt hi) rfl k
theorem V_iinc {k : Nat} {i : Int} {x v : Int32} {ls2 : List Value} (hf : mF M pc = some (.iinc k i, 3, n, t)) (hx : ls[k]? = some (.int x)) (hv : x + Int32.ofInt i = v) (h2 : ls.set k (.int v) = ls2) (hp : mPrev ls k = true) (kk : V g d M P sz' u' n ls2 st h sz u) : V g d M P sz' u' pc ls st h sz u :=
  V_st1 kk h2.symm hp (List.getElem?_eq_some_iff.mp hx).1 fun p e R s m args below meth c H locs cells slots Q arr C L kq => by
    obtain ⟨hd, rfl, -⟩ := mDec C hf
    obtain ⟨j, hj⟩ := List.getElem?_of_mem (mLA_mem.mpr ⟨k, .int x, hx, rfl, by rw [Nat.zero_add]; rfl⟩ : (k, Value.int x) ∈ mLA g 0 ls)
    exact lv_iinc C.1 C.2.1 hd L.2 hj hv (L.lt (List.getElem?_eq_some_iff.mp hx).1) rfl kq
theorem V_lst {i : Nat} {x : Int64} {ls2 : List Value} (kk : V g d M P sz' u' n ls2 st h sz u) (h2 : ls2 = (ls.set i (.long x)).set (i + 1) (.retAddr 0)) (hp : mPrev ls i = true)
    (hs : ∀ (p : Program) (e : Env) (R : Room) (s : State) (m : MethodId) (args : Array Value) (below : List Frame) (meth : Method) (c : Code) (H : Heap) (locs : List Loc) (cells slots : Nat) (Q : State → Prop) (arr : Array Slot), mCtx g d M p R s m args meth c → mLR g M arr ls →
      (∀ arr', lv_has arr' (mMl M) ((i, .long x) :: (mLA g 0 ls).filter (fun q => !(q.1 == i) && (!(q.1 == i + 1) && !(q.1 + 1 == i && q.2.category == 2)))) → W p (gL g) e R s m args below meth c H locs cells slots Q (F0 m n arr' (st.map (mRl g)))) → W p (gL g) e R s m args below meth c H locs cells slots Q (F0 m pc arr ((Value.long x :: st).map (mRl g)))) : V g d M P sz' u' pc ls (.long x :: st) h sz u := by
  subst h2
  exact ⟨kk.1, kk.2.1, fun p e R s m args below meth c H locs cells slots Q arr C S F L h1 h2 K => hs p e R s m args below meth c H locs cells slots Q arr C L (fun arr' hn => kk.2.2 p e R s m args below meth c H locs cells slots Q arr' C S F (L.set2 hp rfl hn) h1 h2 K)⟩
theorem V_lstore_n {k : Fin 4} {x : Int64} {ls2 : List Value} (hf : mF M pc = some (.lstore_n k, 1, n, t)) (h2 : (ls.set (k : Nat) (.long x)).set ((k : Nat) + 1) (.retAddr 0) = ls2) (hp : mPrev ls (k : Nat) = true) (hi : (k : Nat) + 1 < ls.length) (kk : V g d M P sz' u' n ls2 st h sz u) : V g d M P sz' u' pc ls (.long x :: st) h sz u :=
  V_lst kk h2.symm hp fun p e R s m args below meth c H locs cells slots Q arr C L k => by
    obtain ⟨hd, rfl, -⟩ := mDec C hf
    exact lv_lstore_n C.1 C.2.1 hd rfl L.2 (L.lt hi) rfl k
/-- a cell that is there -/
theorem mSim.at {H : Heap} (S : mSim g h sz H) {a : Nat} {c : mC} (hc : h a = c) (hb : c ≠ mBad) : 1 ≤ a ∧ a < sz ∧ mAd g a = gz g + a ∧ va_at (gD g) vwCl (gz g + a, mRe g c) H := by
  have h1 : ¬ (a = 0 ∨ sz ≤ a) := fun q => hb (hc.symm.trans (S.2.2.2 a q))
  have h2 : 1 ≤ a ∧ a < sz := by omega
  refine ⟨h2.1, h2.2, by unfold mAd; rw [if_neg (by omega)], ?_⟩
  rw [← hc]
  exact S.2.2.1 a h2.1 h2.2
theorem mSim.put {H H1 : Heap} (S : mSim g h sz H) {a : Nat} {c : mC} (h1 : 1 ≤ a) (h2 : a < sz) (hv : va_at (gD g) vwCl (gz g + a, mRe g c) H1) (hz : H1.size = H.size) (oq : ∀ q : Nat, q ≠ gz g + a → H1[q]? = H[q]?) : mSim g (va_up h a c) sz H1 := by
  refine ⟨S.1, hz.trans S.2.1, fun k k1 k2 => ?_, fun k hk => ?_⟩
  · by_cases e : k = a
    · subst e
      simp only [va_up, if_pos]
      exact hv
    · simp only [va_up, if_neg e]
      exact (S.2.2.1 k k1 k2).kept (oq _ (by show gz g + k ≠ gz g + a; omega))
  · have e : k ≠ a := by omega
    simp only [va_up, if_neg e]
    exact S.2.2.2 k hk
theorem mSim.new {H H1 : Heap} (S : mSim g h sz H) {c : mC} (hv : va_at (gD g) vwCl (gz g + sz, mRe g c) H1) (hz : H1.size = H.size + 1) (oq : ∀ q : Nat, q < H.size → H1[q]? = H[q]?) : mSim g (va_up h sz c) (sz + 1) H1 := by
  refine ⟨by omega, by rw [hz, S.2.1]; omega, fun k k1 k2 => ?_, fun k hk => ?_⟩
  · by_cases e : k = sz
    · subst e
      simp only [va_up, if_pos]
      exact hv
    · simp only [va_up, if_neg e]
      exact (S.2.2.1 k k1 (by omega)).kept (oq _ (by show gz g + k < H.size; rw [S.2.1]; omega))
  · have e : k ≠ sz := by have := S.1; omega
    simp only [va_up, if_neg e]
    exact S.2.2.2 k (by omega)
theorem cO_bad {ci : Nat} {fs : List Value} : cO ci fs ≠ mBad := fun h => by cases h
theorem cR_bad {n : Nat} {f : Nat → Option Nat} : cR n f ≠ mBad := fun h => by cases h
theorem cI_bad {n : Nat} {f : Nat → Int32} : cI n f ≠ mBad := fun h => by
  have h2 := congrArg (fun x : mC => match x with | .inl q => q.1 | _ => 0) h
  cases h2
theorem cB_bad {n : Nat} {f : Nat → Int32} : cB n f ≠ mBad := fun h => by
  have h2 := congrArg (fun x : mC => match x with | .inl q => q.1 | _ => 0) h
  cases h2
theorem mS_put {s : State} {H H1 : Heap} {locs : List Loc} {a k : Nat} (F : va_S (mA g) s.heap H locs) (h1 : 1 ≤ a) (hz : H1.size = H.size) (oq : ∀ q : Nat, q ≠ gz g + a → H1[q]? = H[q]?) : va_S (mA g) s.heap H1 (locs ++ [⟨gz g + a, k⟩]) := F.put hz oq (by show gz g < gz g + a; omega)
theorem mFld_at {i ci k w : Nat} (hl : mFld M.1 i = some (ci, k, w)) : ∃ r : vw_C, vwCl[ci]? = some r ∧ k < r.2.2 ∧ lw_tbl[w]? = some (.fieldLink (mRn M.1) i (r.2.1 k).1 (r.2.1 k).2.1 (r.2.1 k).2.2.1) := by
  have h1 := List.all_eq_true.mp mFldT_ok _ (mLk2_mem hl)
  unfold mFldOk at h1
  dsimp only at h1
  cases hr : vwCl[ci]? with
  | none => rw [hr] at h1; cases h1
  | some r =>
    rw [hr] at h1
    simp only [Bool.and_eq_true, decide_eq_true_eq] at h1
    exact ⟨r, rfl, h1.1, h1.2⟩
theorem mLay_in {ci : Nat} {r : vw_C} (hr : vwCl[ci]? = some r) : ∀ w ∈ u_ws r.1 r.2.1 r.2.2, w ∈ mGw := by
  have hz : ∃ q, (vwCl.zip mLayI)[ci]? = some (r, q) := by
    match ci, hr with
    | 0, hr => cases hr; exact ⟨_, rfl⟩
    | 1, hr => cases hr; exact ⟨_, rfl⟩
    | 2, hr => cases hr; exact ⟨_, rfl⟩
    | 3, hr => cases hr; exact ⟨_, rfl⟩
    | 4, hr => cases hr; exact ⟨_, rfl⟩
    | 5, hr => cases hr; exact ⟨_, rfl⟩
    | 6, hr => cases hr; exact ⟨_, rfl⟩
    | 7, hr => cases hr; exact ⟨_, rfl⟩
    | n + 8, hr => cases hr
  obtain ⟨q, hz⟩ := hz
  have h1 := of_decide_eq_true (List.all_eq_true.mp (show (vwCl.zip mLayI).all (fun q => decide (u_ws q.1.1 q.1.2.1 q.1.2.2 = q.2.filterMap fun i => lw_tbl[i]?)) = true from mLayT_ok) _ (List.mem_of_getElem? hz))
  dsimp only at h1
  intro w hw
  have hw0 := hw
  rw [h1] at hw
  obtain ⟨i, -, hi⟩ := List.mem_filterMap.mp hw
  refine mGw_in hi ?_
  obtain ⟨k, -, rfl⟩ := List.mem_map.mp hw0
  unfold u_lay
  split <;> rfl
/-- a field read -/
theorem V_getfield {i ci k w a : Nat} {fs : List Value} {v : Value} (hf : mF M pc = some (.getfield i, 3, n, t)) (hl : mFld M.1 i = some (ci, k, w)) (hh : h a = cO ci fs) (hv : fs[k]? = some v) (kk : V g d M P sz' u' n ls (v :: st) h sz u) : V g d M P sz' u' pc ls (.ref a :: st) h sz u :=
  V_op kk fun p e R s m args below meth c H locs cells slots Q arr C S F L kq => by
    obtain ⟨hd, rfl, -⟩ := mDec C hf
    obtain ⟨r, hr, hk, hw⟩ := mFld_at hl
    obtain ⟨-, -, had, hat⟩ := S.at hh cO_bad
    show W p (gL g) e R s m args below meth c H locs cells slots Q (F0 m pc arr (.ref (mAd g a) :: st.map (mRl g)))
    rw [had]
    refine va_get (D := gD g) (ci := ci) (v := mRl g v) (fs := fs.map (mRl g)) (C := r.1) (T := r.2.1) (N := r.2.2) (ws := [(gz g + a, .inr (ci, fs.map (mRl g)))]) C.1 C.2.1 (Ts := mGw) C.2.2.2.2.2.1 (mLay_in hr) C.2.2.2.2.1 C.2.2.2.2.2.2.1.1 (fun j q hq => ?_) 0 rfl hr k hk (mGwB C hw rfl) (fun _ h9 => h9) ?_ hd kq
    · match j, hq with
      | 0, hq => cases hq; exact hat
    · rw [List.getElem?_map, hv]; rfl
/-- a field written: of the method's own object under construction, or a field that isn't final -/
theorem V_put {i ci k w a : Nat} {fs fs2 : List Value} {v : Value} (hf : mF M pc = some (.putfield i, 3, n, t)) (hl : mFld M.1 i = some (ci, k, w)) (hh : h a = cO ci fs) (hk2 : k < fs.length) (hn : ∀ ty, mTy ci k = ty → narrow ty (mRl g v) = mRl g v ∧ fits ty (mRl g v) = true)
    (hfin : ((vwCl[ci]?.map fun r => (r.2.1 k).2.2.2) = some false) ∨ ((vwCl[ci]?.map fun r => ((r.2.1 k).2.2.2, (r.2.1 k).1)) = some (true, mRn M.1) ∧ (mMy M).name = "<init>")) (h2 : fs.set k v = fs2)
    (kk : V g d M P sz' u' n ls st (va_up h a (cO ci fs2)) sz u) : V g d M P sz' u' pc ls (v :: .ref a :: st) h sz u := by
  subst h2
  refine ⟨kk.1, kk.2.1, fun p e R s m args below meth c H locs cells slots Q arr C S F L h1 h2 K => ?_⟩
  obtain ⟨hd, rfl, -⟩ := mDec C hf
  obtain ⟨r, hr, hk, hw⟩ := mFld_at hl
  obtain ⟨a1, a2, had, hat⟩ := S.at hh cO_bad
  have hlay := mLay_in hr
  have hts := C.2.2.2.2.2.1
  have hK := C.2.2.2.2.2.2.1.1
  obtain ⟨cty, cnm, -⟩ := mCl_ty ci r hr
  have hap := va_apart (own := r.1) hts hlay (mTy ci) cty cnm hK hr
  show W p (gL g) e R s m args below meth c H locs cells slots Q (F0 m pc arr (mRl g v :: .ref (mAd g a) :: st.map (mRl g)))
  rw [had]
  obtain ⟨r', hr', cell, q1, q2, q3, q4⟩ := hat
  cases hr'.symm.trans hr
  obtain ⟨hS, hfc, kC, hkC, hkind⟩ := hK.1 ci _ hr
  obtain ⟨cf, kf, fi, f, hi, hsl⟩ := hS k hk
  obtain ⟨hn1, hn2⟩ := hn _ rfl
  have hlw := hts _ (hlay _ (u_in_lay hk))
  have hst := (u_facts hfc hkC (u_lays hts hlay hk) hi).1
  have fin : ∀ H' : Heap, H'[gz g + a]? = some (cell.setSlot f.slot (mRl g v)) → H'.size = H.size → (∀ q, q ≠ gz g + a → H'[q]? = H[q]?) → W p (gL g) e R s m args below meth c H' (locs ++ [⟨gz g + a, f.slot⟩]) cells slots Q (F0 m (pc + 3) arr (st.map (mRl g))) := by
    intro H' e1 e2 e3
    refine kk.2.2 p e R s m args below meth c H' _ cells slots Q arr C (S.put a1 a2 ?_ e2 e3) (mS_put F a1 e2 e3) L h1 h2 K
    rw [hsl] at e1
    refine ⟨r, hr, t_OB.to (V := updV (vp_V (fs.map (mRl g))) k (mRl g v)) ⟨_, e1, q2, q3, t_set q4 hap hk (mRl g v)⟩ (fun j _ => ?_)⟩
    rw [vp_updV_set (by rw [List.length_map]; exact hk2), List.map_set]
  unfold u_lay at hlw
  rcases hfin with hfin | ⟨hfin, hin⟩
  · rw [hr] at hfin
    have hfin : (r.2.1 k).2.2.2 = false := Option.some.inj hfin
    rw [if_neg (by rw [hfin]; decide)] at hlw
    have h6 := u_store hfc hkC hkind hlw hi (cty k hk) hn1 hn2
    exact W.putK C.1 C.2.1 (f := f) ⟨C.2.2.2.2.1, mGwB C hw rfl, ⟨_, _, _, hi⟩, hst⟩ (by rw [q2]; exact h6) q1 q3 (by rw [hsl]; exact k2_hasslot (q4 k hk)) rfl rfl hd fin
  · rw [hr] at hfin
    have hfin2 : ((r.2.1 k).2.2.2, (r.2.1 k).1) = (true, mRn M.1) := Option.some.inj hfin
    have hf1 : (r.2.1 k).2.2.2 = true := congrArg Prod.fst hfin2
    have hf2 : (r.2.1 k).1 = mRn M.1 := congrArg Prod.snd hfin2
    rw [if_pos hf1] at hlw
    have hcf : m.cls = cf := by
      obtain ⟨_, _, c', _, _, _, -, -, hf', -, -, -, hown2, -⟩ := Cond.laysFinal_spec hlw
      have e1 : c' = cf := by have := hi.symm.trans hf'; simp at this; exact this.1.symm
      rw [hf2] at hown2
      rw [← e1]; exact Option.some.inj (C.2.2.2.2.1.symm.trans hown2)
    have h6 := u_fits hfc hkC hkind (Or.inr hlw) hi (cty k hk) hn1 hn2
    exact W.putFinK C.1 C.2.1 C.2.2.2.2.1 (mGwB C hw rfl) hi hst hcf (by rw [C.2.2.2.2.2.2.2.2.1]; exact hin) (by rw [q2]; exact h6) q1 q3 (by rw [hsl]; exact k2_hasslot (q4 k hk)) rfl rfl hd fin
/-- arrays of ints -/
theorem V_iaload {a N j : Nat} {f : Nat → Int32} {i : Int32} (hf : mF M pc = some (.iaload, 1, n, t)) (hh : h a = cI N f) (hi : i = nI j) (hj : j < N) (hN : N < 2 ^ 31) (kk : V g d M P sz' u' n ls (.int (f j) :: st) h sz u) : V g d M P sz' u' pc ls (.int i :: .ref a :: st) h sz u :=
  V_op kk fun p e R s m args below meth c H locs cells slots Q arr C S F L kq => by
    obtain ⟨hd, rfl, -⟩ := mDec C hf
    obtain ⟨-, -, had, hat⟩ := S.at hh cI_bad
    show W p (gL g) e R s m args below meth c H locs cells slots Q (F0 m pc arr (.int i :: .ref (mAd g a) :: st.map (mRl g)))
    rw [had]
    subst hi
    refine va_iald (D := gD g) (cl := vwCl) (tys := mTs g) (ws := [(gz g + a, .inl (gI g, N, .inl f))]) C.1 C.2.1 C.2.2.2.2.2.2.1.1 (fun q x hq => ?_) 0 0 rfl rfl (vp_in_nI hj hN) hd ?_
    · match q, hq with
      | 0, hq => cases hq; exact hat
    · rw [nI_clamp (by omega)]
      exact kq
theorem V_baload {a N j : Nat} {f : Nat → Int32} {i : Int32} (hf : mF M pc = some (.baload, 1, n, t)) (hh : h a = cB N f) (hi : i = nI j) (hj : j < N) (hN : N < 2 ^ 31) (kk : V g d M P sz' u' n ls (.int (f j) :: st) h sz u) : V g d M P sz' u' pc ls (.int i :: .ref a :: st) h sz u :=
  V_op kk fun p e R s m args below meth c H locs cells slots Q arr C S F L kq => by
    obtain ⟨hd, rfl, -⟩ := mDec C hf
    obtain ⟨-, -, had, hat⟩ := S.at hh cB_bad
    show W p (gL g) e R s m args below meth c H locs cells slots Q (F0 m pc arr (.int i :: .ref (mAd g a) :: st.map (mRl g)))
    rw [had]
    subst hi
    refine va_zald (D := gD g) (cl := vwCl) (tys := mTs g) (ws := [(gz g + a, .inl (gZ g, N, .inl f))]) C.1 C.2.1 C.2.2.2.2.2.2.1.1 (fun q x hq => ?_) 0 1 rfl rfl (vp_in_nI hj hN) hd ?_
    · match q, hq with
      | 0, hq => cases hq; exact hat
    · rw [nI_clamp (by omega)]
      exact kq
theorem V_aaload {a N j x : Nat} {f : Nat → Option Nat} {i : Int32} (hf : mF M pc = some (.aaload, 1, n, t)) (hh : h a = cR N f) (hi : i = nI j) (hj : j < N) (hN : N < 2 ^ 31) (hx : f j = some x) (kk : V g d M P sz' u' n ls (.ref x :: st) h sz u) : V g d M P sz' u' pc ls (.int i :: .ref a :: st) h sz u :=
  V_op kk fun p e R s m args below meth c H locs cells slots Q arr C S F L kq => by
    obtain ⟨hd, rfl, -⟩ := mDec C hf
    obtain ⟨-, -, had, hat⟩ := S.at hh cR_bad
    show W p (gL g) e R s m args below meth c H locs cells slots Q (F0 m pc arr (.int i :: .ref (mAd g a) :: st.map (mRl g)))
    rw [had]
    subst hi
    refine va_aldq (D := gD g) (cl := vwCl) (tys := mTs g) (ws := [(gz g + a, .inl (gS g, N, .inr (.inr (.inr (.inr (fun i => (f i).map (mAd g)))))))]) C.1 C.2.1 C.2.2.2.2.2.2.1.1 (fun q x hq => ?_) 0 2 rfl rfl (vp_in_nI hj hN) hd ?_
    · match q, hq with
      | 0, hq => cases hq; exact hat
    · rw [nI_clamp (by omega), hx]
      exact kq
theorem V_alen {a N : Nat} {f : Nat → Int32} (hf : mF M pc = some (.arraylength, 1, n, t)) (hh : h a = cI N f) (kk : V g d M P sz' u' n ls (.int (nI N) :: st) h sz u) : V g d M P sz' u' pc ls (.ref a :: st) h sz u :=
  V_op kk fun p e R s m args below meth c H locs cells slots Q arr C S F L kq => by
    obtain ⟨hd, rfl, -⟩ := mDec C hf
    obtain ⟨-, -, had, hat⟩ := S.at hh cI_bad
    show W p (gL g) e R s m args below meth c H locs cells slots Q (F0 m pc arr (.ref (mAd g a) :: st.map (mRl g)))
    rw [had]
    refine va_alen (D := gD g) (cl := vwCl) (tys := mTs g) (ws := [(gz g + a, .inl (gI g, N, .inl f))]) C.1 C.2.1 C.2.2.2.2.2.2.1.1 (fun q x hq => ?_) 0 0 rfl rfl rfl hd kq
    match q, hq with
    | 0, hq => cases hq; exact hat
/-- the law's script -/
theorem V_sld {j : Nat} {i : Int32} (hf : mF M pc = some (.iaload, 1, n, t)) (hM : M.1 = 8) (hi : i = nI j) (hj : j < gn g) (hN : gn g < 2 ^ 31) (kk : V g d M P sz' u' n ls (.int (gx g j) :: st) h sz u) : V g d M P sz' u' pc ls (.int i :: .ref 0 :: st) h sz u :=
  V_op kk fun p e R s m args below meth c H locs cells slots Q arr C S F L kq => by
    obtain ⟨hd, rfl, -⟩ := mDec C hf
    obtain ⟨hX, hbl, hbz⟩ := C.2.2.2.2.2.2.2.2.2.2.2.2.2 hM
    subst hi
    refine va_sld C.1 C.2.1 hX hbl (A := mA g) (fun q => Nat.lt_irrefl _ (Nat.lt_of_le_of_lt hbz q)) F (vp_in_nI hj hN) hd ?_
    rw [nI_clamp (by omega)]
    exact kq
theorem V_slen (hf : mF M pc = some (.arraylength, 1, n, t)) (hM : M.1 = 8) (kk : V g d M P sz' u' n ls (.int (nI (gn g)) :: st) h sz u) : V g d M P sz' u' pc ls (.ref 0 :: st) h sz u :=
  V_op kk fun p e R s m args below meth c H locs cells slots Q arr C S F L kq => by
    obtain ⟨hd, rfl, -⟩ := mDec C hf
    obtain ⟨hX, hbl, hbz⟩ := C.2.2.2.2.2.2.2.2.2.2.2.2.2 hM
    exact va_slen C.1 C.2.1 hX hbl (A := mA g) (fun q => Nat.lt_irrefl _ (Nat.lt_of_le_of_lt hbz q)) F hd kq
theorem V_iastore {a N j : Nat} {f : Nat → Int32} {i x : Int32} (hf : mF M pc = some (.iastore, 1, n, t)) (hh : h a = cI N f) (hi : i = nI j) (hj : j < N) (hN : N < 2 ^ 31) (kk : V g d M P sz' u' n ls st (va_up h a (cI N (upd f j x))) sz u) : V g d M P sz' u' pc ls (.int x :: .int i :: .ref a :: st) h sz u := by
  refine ⟨kk.1, kk.2.1, fun p e R s m args below meth c H locs cells slots Q arr C S F L h1 h2 K => ?_⟩
  obtain ⟨hd, rfl, -⟩ := mDec C hf
  obtain ⟨a1, a2, had, hat⟩ := S.at hh cI_bad
  show W p (gL g) e R s m args below meth c H locs cells slots Q (F0 m pc arr (.int x :: .int i :: .ref (mAd g a) :: st.map (mRl g)))
  rw [had]
  subst hi
  refine W.iast C.1 C.2.1 hat ((C.2.2.2.2.2.2.1.1.2 0 _ rfl).1 N (fun j => .int (f j))) (fun q => by cases q) (by show ¬ (_ ∨ (arrV _ _ _).slots.size ≤ _); rw [arrV_size]; exact vp_in_nI hj hN) rfl rfl hd fun H1 e1 z oq => ?_
  refine kk.2.2 p e R s m args below meth c H1 _ cells slots Q arr C (S.put a1 a2 ?_ z oq) (mS_put F a1 z oq) L h1 h2 K
  show H1[gz g + a]? = some (vp_cell (gI g) (N, .inl (upd f j x)))
  rw [e1, nI_clamp (by omega)]
  show some ((arrV (gI g) N (fun j => .int (f j))).setSlot j (.int x)) = _
  rw [vp_cell_i, arrV_store]
  congr 2
  funext q
  by_cases hq : q = j
  · subst hq; simp [updV, upd]
  · simp [updV, upd, hq]
theorem V_bastore {a N j : Nat} {f : Nat → Int32} {i x : Int32} (hf : mF M pc = some (.bastore, 1, n, t)) (hh : h a = cB N f) (hi : i = nI j) (hj : j < N) (hN : N < 2 ^ 31) (hx : narrow .boolean (.int x) = .int x) (kk : V g d M P sz' u' n ls st (va_up h a (cB N (upd f j x))) sz u) : V g d M P sz' u' pc ls (.int x :: .int i :: .ref a :: st) h sz u := by
  refine ⟨kk.1, kk.2.1, fun p e R s m args below meth c H locs cells slots Q arr C S F L h1 h2 K => ?_⟩
  obtain ⟨hd, rfl, -⟩ := mDec C hf
  obtain ⟨a1, a2, had, hat⟩ := S.at hh cB_bad
  show W p (gL g) e R s m args below meth c H locs cells slots Q (F0 m pc arr (.int x :: .int i :: .ref (mAd g a) :: st.map (mRl g)))
  rw [had]
  subst hi
  refine W.zast C.1 C.2.1 hat ((C.2.2.2.2.2.2.1.1.2 1 _ rfl).1 N (fun j => .int (f j))) (fun q => by cases q) (by show ¬ (_ ∨ (arrV _ _ _).slots.size ≤ _); rw [arrV_size]; exact vp_in_nI hj hN) rfl rfl hd fun H1 e1 z oq => ?_
  refine kk.2.2 p e R s m args below meth c H1 _ cells slots Q arr C (S.put a1 a2 ?_ z oq) (mS_put F a1 z oq) L h1 h2 K
  show H1[gz g + a]? = some (vp_cell (gZ g) (N, .inl (upd f j x)))
  rw [e1, nI_clamp (by omega), hx]
  show some ((arrV (gZ g) N (fun j => .int (f j))).setSlot j (.int x)) = _
  rw [vp_cell_i, arrV_store]
  congr 2
  funext q
  by_cases hq : q = j
  · subst hq; simp [updV, upd]
  · simp [updV, upd, hq]
end mV2
