/-! ===== a small judgement over the kit's W: a heap of numbered cells, locals as a list, a method by its table ===== -/
/-- launch, class numbers, the place before the first new cell, the script's cell, the array classes (int, boolean, Scene), the script -/
abbrev mG : Type := Launch × va_G × Nat × Nat × (ClassId × ClassId × ClassId) × Nat × (Nat → Int32)
def gL (g : mG) : Launch := g.1
def gD (g : mG) : va_G := g.2.1
def gz (g : mG) : Nat := g.2.2.1
def gb (g : mG) : Nat := g.2.2.2.1
def gI (g : mG) : ClassId := g.2.2.2.2.1.1
def gZ (g : mG) : ClassId := g.2.2.2.2.1.2.1
def gS (g : mG) : ClassId := g.2.2.2.2.1.2.2
def gn (g : mG) : Nat := g.2.2.2.2.2.1
def gx (g : mG) : Nat → Int32 := g.2.2.2.2.2.2
abbrev mC : Type := (Nat × Nat × (Nat → Int32)) ⊕ (Nat × (Nat → Option Nat)) ⊕ (Nat × List Value)
abbrev mH : Type := Nat → mC
abbrev cI (n : Nat) (f : Nat → Int32) : mC := .inl (0, n, f)
abbrev cB (n : Nat) (f : Nat → Int32) : mC := .inl (1, n, f)
abbrev cR (n : Nat) (f : Nat → Option Nat) : mC := .inr (.inl (n, f))
abbrev cO (ci : Nat) (fs : List Value) : mC := .inr (.inr (ci, fs))
def mBad : mC := .inl (2, 0, fun _ => 0)
def mAd (g : mG) (k : Nat) : Nat := if k = 0 then gb g else gz g + k
def mRl (g : mG) : Value → Value
  | .ref a => .ref (mAd g a)
  | v => v
def mRe (g : mG) : mC → va_E
  | .inl (k, n, f) => .inl (if k = 0 then gI g else gZ g, n, .inl f)
  | .inr (.inl (n, f)) => .inl (gS g, n, .inr (.inr (.inr (.inr (fun i => (f i).map (mAd g))))))
  | .inr (.inr (ci, fs)) => .inr (ci, fs.map (mRl g))
def mA (g : mG) : Nat → Prop := fun q => gz g < q
def mTs (g : mG) : List (ClassId × FieldType) := [(gI g, .int), (gZ g, .boolean), (gS g, .object "EarlyBinder$Scene")]
def mSim (g : mG) (h : mH) (sz : Nat) (H : Heap) : Prop := 1 ≤ sz ∧ H.size = gz g + sz ∧ (∀ k, 1 ≤ k → k < sz → va_at (gD g) vwCl (gz g + k, mRe g (h k)) H) ∧ ∀ k, (k = 0 ∨ sz ≤ k) → h k = mBad
def mGw : List Cond := lw_tbl.filter goodWord
def mWs (M : mM) : List Cond := .code (mMy M) (mMb M) (mMl M) (mMr M) :: mGw
def mIsN : Cond → Bool
  | .methodLinkNest _ _ _ _ => true
  | _ => false
def mKK (g : mG) (U : State) : Prop := va_K (gD g) vwCl (mTs g) U ∧ (∀ w ∈ lw_tbl, mIsN w = true → va_Nw w U) ∧ va_AO "EarlyBinder$Scene" U
theorem mGw_in {w : Cond} {i : Nat} (h : lw_tbl[i]? = some w) (hg : goodWord w = true) : w ∈ mGw := List.mem_filter.mpr ⟨List.mem_of_getElem? h, hg⟩
theorem mNw_on {w : Cond} (h : mIsN w = true) : w.onTables = true := by
  cases w <;> first | (cases h; done) | rfl
theorem mKK.warm {g : mG} {s U : State} (hW : s.WarmedH U.vm) (h : mKK g s) : mKK g U := by
  obtain ⟨h1, h2, h3⟩ := h
  refine ⟨va_K.moved hW.alike h1, fun w hw hn => ?_, h3.moved hW.alike⟩
  have h4 := h2 w hw hn
  cases w <;> first | (cases hn; done) | exact va_Nw.warmM hW h4
theorem mKK.same {g : mG} {u U : State} (hv : u.vm = U.vm) (h : mKK g u) : mKK g U := by
  obtain ⟨h1, h2, h3⟩ := h
  have hA : u.vm.Alike U.vm := by rw [hv]; exact Vm.Alike.refl U.vm
  exact ⟨va_K.moved hA h1, fun w hw hn => va_Nw.same (mNw_on hn) hv (h2 w hw hn), h3.moved hA⟩
/-- the locals that are there -/
def mOkv : Value → Bool
  | .retAddr _ => false
  | _ => true
def mLA (g : mG) : Nat → List Value → List (Nat × Value)
  | _, [] => []
  | i, v :: t => cond (mOkv v) ((i, mRl g v) :: mLA g (i + 1) t) (mLA g (i + 1) t)
theorem mLA_mem {g : mG} : ∀ {ls : List Value} {i : Nat} {q : Nat × Value}, q ∈ mLA g i ls ↔ ∃ (k : Nat) (v : Value), ls[k]? = some v ∧ mOkv v = true ∧ q = (i + k, mRl g v)
  | [], i, q => by simp [mLA]
  | w :: t, i, q => by
    have ih := mLA_mem (g := g) (ls := t) (i := i + 1) (q := q)
    constructor
    · intro h
      have hc : q = (i, mRl g w) ∧ mOkv w = true ∨ q ∈ mLA g (i + 1) t := by
        unfold mLA at h
        cases ho : mOkv w with
        | true => rw [ho] at h; rcases List.mem_cons.mp h with h | h
                  · exact Or.inl ⟨h, rfl⟩
                  · exact Or.inr h
        | false => rw [ho] at h; exact Or.inr h
      rcases hc with ⟨rfl, ho⟩ | h
      · exact ⟨0, w, rfl, ho, rfl⟩
      · obtain ⟨k, v, h1, h2, h3⟩ := ih.mp h
        exact ⟨k + 1, v, h1, h2, by rw [h3, Nat.add_assoc, Nat.add_comm 1 k]⟩
    · rintro ⟨k, v, h1, h2, h3⟩
      unfold mLA
      cases k with
      | zero =>
        have e : w = v := Option.some.inj h1
        subst e
        rw [h2]
        exact List.mem_cons.mpr (Or.inl h3)
      | succ k =>
        have h4 : q ∈ mLA g (i + 1) t := ih.mpr ⟨k, v, h1, h2, by rw [h3, Nat.add_assoc, Nat.add_comm 1 k]⟩
        cases mOkv w with
        | true => exact List.mem_cons_of_mem _ h4
        | false => exact h4
def mLR (g : mG) (M : mM) (arr : Array Slot) (ls : List Value) : Prop := ls.length = mMl M ∧ lv_has arr (mMl M) (mLA g 0 ls)
theorem mLR.at {g : mG} {M : mM} {arr : Array Slot} {ls : List Value} (h : mLR g M arr ls) {i : Nat} {v : Value} (hv : ls[i]? = some v) (ho : mOkv v = true) : arr[i]? = some (.val (mRl g v)) :=
  h.2.2.2 (i, mRl g v) (mLA_mem.mpr ⟨i, v, hv, ho, by rw [Nat.zero_add]⟩)
theorem mRl_cat (g : mG) (v : Value) : (mRl g v).category = v.category := by cases v <;> rfl
/-- a place may be overwritten: no long stands just ahead of it -/
def mPrev (ls : List Value) (i : Nat) : Bool := match i with
  | 0 => true
  | j + 1 => match ls[j]? with
    | some v => decide (v.category = 1)
    | none => true
theorem lv_less {ls : Array Slot} {nL : Nat} {l l' : List (Nat × Value)} (h : lv_has ls nL l) (hs : ∀ q ∈ l', q ∈ l) : lv_has ls nL l' := ⟨h.1, h.2.1, fun q hq => h.2.2 q (hs q hq)⟩
theorem mPrev_cat {ls : List Value} {j : Nat} (hp : mPrev ls (j + 1) = true) {v : Value} (hv : ls[j]? = some v) : v.category = 1 := by
  unfold mPrev at hp
  simp only [hv] at hp
  exact of_decide_eq_true hp
theorem mLR.set1 {g : mG} {M : mM} {arr arr' : Array Slot} {ls : List Value} {i : Nat} {v w : Value} (h : mLR g M arr ls) (hp : mPrev ls i = true) (hw : mRl g v = w)
    (hn : lv_has arr' (mMl M) ((i, w) :: (mLA g 0 ls).filter (fun q => !(q.1 == i) && !(q.1 + 1 == i && q.2.category == 2)))) : mLR g M arr' (ls.set i v) := by
  refine ⟨by rw [List.length_set]; exact h.1, lv_less hn fun q hq => ?_⟩
  obtain ⟨k, x, h1, h2, h3⟩ := mLA_mem.mp hq
  rw [Nat.zero_add] at h3
  by_cases hk : i = k
  · subst hk
    have hlt : i < ls.length := by
      have := (List.getElem?_eq_some_iff.mp h1).1
      rwa [List.length_set] at this
    rw [List.getElem?_set_self hlt] at h1
    cases h1
    rw [h3, hw]
    exact List.mem_cons_self
  · rw [List.getElem?_set_ne hk] at h1
    refine List.mem_cons_of_mem _ (List.mem_filter.mpr ⟨mLA_mem.mpr ⟨k, x, h1, h2, by rw [h3, Nat.zero_add]⟩, ?_⟩)
    rw [h3]
    have e1 : (k == i) = false := by simp [Ne.symm hk]
    have e2 : (k + 1 == i && (mRl g x).category == 2) = false := by
      by_cases hj : k + 1 = i
      · subst hj
        rw [mRl_cat, mPrev_cat hp h1]
        simp
      · simp [hj]
    simp only [e1, e2]
    rfl
theorem mLR.set2 {g : mG} {M : mM} {arr arr' : Array Slot} {ls : List Value} {i : Nat} {v w : Value} (h : mLR g M arr ls) (hp : mPrev ls i = true) (hw : mRl g v = w)
    (hn : lv_has arr' (mMl M) ((i, w) :: (mLA g 0 ls).filter (fun q => !(q.1 == i) && (!(q.1 == i + 1) && !(q.1 + 1 == i && q.2.category == 2))))) : mLR g M arr' ((ls.set i v).set (i + 1) (.retAddr 0)) := by
  refine ⟨by rw [List.length_set, List.length_set]; exact h.1, lv_less hn fun q hq => ?_⟩
  obtain ⟨k, x, h1, h2, h3⟩ := mLA_mem.mp hq
  rw [Nat.zero_add] at h3
  have hlt := (List.getElem?_eq_some_iff.mp h1).1
  rw [List.length_set, List.length_set] at hlt
  by_cases hk1 : i + 1 = k
  · subst hk1
    rw [List.getElem?_set_self (by rw [List.length_set]; exact hlt)] at h1
    cases h1
    cases h2
  · rw [List.getElem?_set_ne hk1] at h1
    by_cases hk : i = k
    · subst hk
      rw [List.getElem?_set_self hlt] at h1
      cases h1
      rw [h3, hw]
      exact List.mem_cons_self
    · rw [List.getElem?_set_ne hk] at h1
      refine List.mem_cons_of_mem _ (List.mem_filter.mpr ⟨mLA_mem.mpr ⟨k, x, h1, h2, by rw [h3, Nat.zero_add]⟩, ?_⟩)
      rw [h3]
      have e1 : (k == i) = false := by simp [Ne.symm hk]
      have e3 : (k == i + 1) = false := by simp [Ne.symm hk1]
      have e2 : (k + 1 == i && (mRl g x).category == 2) = false := by
        by_cases hj : k + 1 = i
        · subst hj
          rw [mRl_cat, mPrev_cat hp h1]
          simp
        · simp [hj]
      simp only [e1, e2, e3]
      rfl
/-- what stands while a method runs -/
def mCtx (g : mG) (d : Nat) (M : mM) (p : Program) (R : Room) (s : State) (m : MethodId) (args : Array Value) (meth : Method) (c : Code) : Prop :=
  p.tables.exec = Jvm.exec ∧ c.code = mMb M ∧ c.maxLocals = mMl M ∧ meth.sig.returnType = mMr M ∧ s.vm.findClass (mRn M.1) = some m.cls ∧ (∀ w ∈ mGw, w.before args s = true) ∧ mKK g s ∧ meth.locks = false ∧ meth.name = (mMy M).name ∧ mCodeOk M = true ∧ d ≤ R.frames ∧ 40 * d ≤ R.locals ∧ gz g < s.heap.size ∧ (M.1 = 8 → va_X (gb g) (gn g) (gx g) s s.heap ∧ gb g < s.heap.size ∧ gb g ≤ gz g)
/-- the instruction that leaves -/
def mRet (M : mM) (pc : Nat) (r : Option Value) : Prop :=
  (mMr M = none ∧ r = none ∧ decode (mMb M) pc = .ok (.return_, 1)) ∨ (∃ (ty : FieldType) (v : Int32), mMr M = some ty ∧ r = some (.int v) ∧ narrow ty (.int v) = .int v ∧ decode (mMb M) pc = .ok (.ireturn, 1)) ∨ (∃ (n : String) (a : Nat), mMr M = some (.object n) ∧ r = some (.ref a) ∧ decode (mMb M) pc = .ok (.areturn, 1))
/-- from this place on the method comes to its end, with an answer and a heap of which P holds; sz', u' cells and slots there are then -/
def V (g : mG) (d : Nat) (M : mM) (P : Option Value → mH → Prop) (sz' u' : Nat) (pc : Nat) (ls st : List Value) (h : mH) (sz u : Nat) : Prop :=
  sz ≤ sz' ∧ u ≤ u' ∧ ∀ (p : Program) (e : Env) (R : Room) (s : State) (m : MethodId) (args : Array Value) (below : List Frame) (meth : Method) (c : Code) (H : Heap) (locs : List Loc) (cells slots : Nat) (Q : State → Prop) (arr : Array Slot),
    mCtx g d M p R s m args meth c → mSim g h sz H → va_S (mA g) s.heap H locs → mLR g M arr ls → cells + (sz' - sz) ≤ R.cells → slots + (u' - u) ≤ R.slots →
    (∀ (r : Option Value) (h' : mH) (H' : Heap) (locs' : List Loc) (pc' : Nat) (arr' : Array Slot), P r h' → mSim g h' sz' H' → va_S (mA g) s.heap H' locs' → mRet M pc' r → W p (gL g) e R s m args below meth c H' locs' (cells + (sz' - sz)) (slots + (u' - u)) Q (F0 m pc' arr' (r.toList.map (mRl g)))) →
    W p (gL g) e R s m args below meth c H locs cells slots Q (F0 m pc arr (st.map (mRl g)))
theorem mLook_mem : ∀ {l : List (Nat × Instr × Nat × Nat × Nat)} {pc : Nat} {x : Instr × Nat × Nat × Nat}, mLook l pc = some x → (pc, x) ∈ l
  | [], _, _, h => by cases h
  | (a, y) :: t, pc, x, h => by
    unfold mLook at h
    cases hb : Nat.beq (a, y).1 pc with
    | true =>
      have e : a = pc := Nat.eq_of_beq_eq_true hb
      rw [hb] at h
      cases h
      subst e
      exact List.mem_cons_self
    | false =>
      rw [hb] at h
      exact List.mem_cons_of_mem _ (mLook_mem h)
section mDEC
variable {g : mG} {d : Nat} {M : mM} {p : Program} {R : Room} {s : State} {m : MethodId} {args : Array Value} {meth : Method} {c : Code}
theorem mDecB {pc len n t : Nat} {I : Instr} (C : mCodeOk M = true) (hf : mF M pc = some (I, len, n, t)) : decode (mMb M) pc = .ok (I, len) ∧ pc + len = n ∧ mTgOk pc t I = true := by
  have h1 := List.all_eq_true.mp C _ (mLook_mem hf)
  unfold mInsOk at h1
  simp only [Bool.and_eq_true, decide_eq_true_eq] at h1
  exact ⟨h1.1.1, h1.1.2, h1.2⟩
theorem mDec {pc len n t : Nat} {I : Instr} (C : mCtx g d M p R s m args meth c) (hf : mF M pc = some (I, len, n, t)) : decode (mMb M) pc = .ok (I, len) ∧ pc + len = n ∧ mTgOk pc t I = true := mDecB C.2.2.2.2.2.2.2.2.2.1 hf
theorem mGwB {w : Cond} {i : Nat} (C : mCtx g d M p R s m args meth c) (h : lw_tbl[i]? = some w) (hg : goodWord w = true) : w.before args s = true := C.2.2.2.2.2.1 w (mGw_in h hg)
end mDEC
section mV
variable {g : mG} {d : Nat} {M : mM} {P : Option Value → mH → Prop} {sz' u' pc n t : Nat} {ls st : List Value} {h : mH} {sz u : Nat}
/-- an instruction that touches the stack alone -/
theorem V_op {pc2 : Nat} {st2 : List Value} (kk : V g d M P sz' u' pc2 ls st2 h sz u)
    (hs : ∀ (p : Program) (e : Env) (R : Room) (s : State) (m : MethodId) (args : Array Value) (below : List Frame) (meth : Method) (c : Code) (H : Heap) (locs : List Loc) (cells slots : Nat) (Q : State → Prop) (arr : Array Slot), mCtx g d M p R s m args meth c → mSim g h sz H → va_S (mA g) s.heap H locs → mLR g M arr ls →
      W p (gL g) e R s m args below meth c H locs cells slots Q (F0 m pc2 arr (st2.map (mRl g))) → W p (gL g) e R s m args below meth c H locs cells slots Q (F0 m pc arr (st.map (mRl g)))) : V g d M P sz' u' pc ls st h sz u :=
  ⟨kk.1, kk.2.1, fun p e R s m args below meth c H locs cells slots Q arr C S F L h1 h2 K => hs p e R s m args below meth c H locs cells slots Q arr C S F L (kk.2.2 p e R s m args below meth c H locs cells slots Q arr C S F L h1 h2 K)⟩
theorem V_iconst {i : Int} {v : Int32} (hf : mF M pc = some (.iconst i, 1, n, t)) (hv : Int32.ofInt i = v) (kk : V g d M P sz' u' n ls (.int v :: st) h sz u) : V g d M P sz' u' pc ls st h sz u :=
  V_op kk fun p e R s m args below meth c H locs cells slots Q arr C S F L k => by
    obtain ⟨hd, rfl, -⟩ := mDec C hf
    exact lv_iconst C.1 C.2.1 hd hv k
theorem V_bipush {i : Int} {v : Int32} (hf : mF M pc = some (.bipush i, 2, n, t)) (hv : (Int8.ofInt i).toInt32 = v) (kk : V g d M P sz' u' n ls (.int v :: st) h sz u) : V g d M P sz' u' pc ls st h sz u :=
  V_op kk fun p e R s m args below meth c H locs cells slots Q arr C S F L k => by
    obtain ⟨hd, rfl, -⟩ := mDec C hf
    exact lv_bipush C.1 C.2.1 hd hv k
theorem V_sipush {i : Int} {v : Int32} (hf : mF M pc = some (.sipush i, 3, n, t)) (hv : (Int16.ofInt i).toInt32 = v) (kk : V g d M P sz' u' n ls (.int v :: st) h sz u) : V g d M P sz' u' pc ls st h sz u :=
  V_op kk fun p e R s m args below meth c H locs cells slots Q arr C S F L k => by
    obtain ⟨hd, rfl, -⟩ := mDec C hf
    exact lv_sipush C.1 C.2.1 hd hv k
theorem V_lconst {i : Fin 2} {v : Int64} (hf : mF M pc = some (.lconst i, 1, n, t)) (hv : Int64.ofNat (i : Nat) = v) (kk : V g d M P sz' u' n ls (.long v :: st) h sz u) : V g d M P sz' u' pc ls st h sz u :=
  V_op kk fun p e R s m args below meth c H locs cells slots Q arr C S F L k => by
    obtain ⟨hd, rfl, -⟩ := mDec C hf
    exact lv_lconst C.1 C.2.1 hd hv k
theorem V_ldc {i w : Nat} {v : Int32} (hf : mF M pc = some (.ldc i, 2, n, t)) (hv : mLk2 mCstT M.1 i = some (v, w)) (kk : V g d M P sz' u' n ls (.int v :: st) h sz u) : V g d M P sz' u' pc ls st h sz u :=
  V_op kk fun p e R s m args below meth c H locs cells slots Q arr C S F L k => by
    obtain ⟨hd, rfl, -⟩ := mDec C hf
    have h1 := of_decide_eq_true (List.all_eq_true.mp mCstT_ok _ (mLk2_mem hv))
    exact lv_ldc C.1 C.2.1 C.2.2.2.2.1 (mGwB C h1 rfl) hd k
theorem V_ldcw {i w : Nat} {v : Int32} (hf : mF M pc = some (.ldc_w i, 3, n, t)) (hv : mLk2 mCstT M.1 i = some (v, w)) (kk : V g d M P sz' u' n ls (.int v :: st) h sz u) : V g d M P sz' u' pc ls st h sz u :=
  V_op kk fun p e R s m args below meth c H locs cells slots Q arr C S F L k => by
    obtain ⟨hd, rfl, -⟩ := mDec C hf
    have h1 := of_decide_eq_true (List.all_eq_true.mp mCstT_ok _ (mLk2_mem hv))
    exact lv_ldcw C.1 C.2.1 C.2.2.2.2.1 (mGwB C h1 rfl) hd k
theorem V_ldc2 {i w : Nat} {v : Int64} (hf : mF M pc = some (.ldc2_w i, 3, n, t)) (hv : mLk2 mCslT M.1 i = some (v, w)) (kk : V g d M P sz' u' n ls (.long v :: st) h sz u) : V g d M P sz' u' pc ls st h sz u :=
  V_op kk fun p e R s m args below meth c H locs cells slots Q arr C S F L k => by
    obtain ⟨hd, rfl, -⟩ := mDec C hf
    have h1 := of_decide_eq_true (List.all_eq_true.mp mCslT_ok _ (mLk2_mem hv))
    exact lv_ldc2 C.1 C.2.1 C.2.2.2.2.1 (mGwB C h1 rfl) hd k
theorem V_iload_n {k : Fin 4} {x : Int32} (hf : mF M pc = some (.iload_n k, 1, n, t)) (hl : ls[(k : Nat)]? = some (.int x)) (kk : V g d M P sz' u' n ls (.int x :: st) h sz u) : V g d M P sz' u' pc ls st h sz u :=
  V_op kk fun p e R s m args below meth c H locs cells slots Q arr C S F L k => by
    obtain ⟨hd, rfl, -⟩ := mDec C hf
    exact lv_iload_n C.1 C.2.1 hd rfl (L.at hl rfl) k
theorem V_iload {k : Nat} {x : Int32} (hf : mF M pc = some (.iload k, 2, n, t)) (hl : ls[k]? = some (.int x)) (kk : V g d M P sz' u' n ls (.int x :: st) h sz u) : V g d M P sz' u' pc ls st h sz u :=
  V_op kk fun p e R s m args below meth c H locs cells slots Q arr C S F L k => by
    obtain ⟨hd, rfl, -⟩ := mDec C hf
    exact lv_iload C.1 C.2.1 hd (L.at hl rfl) k
theorem V_lload_n {k : Fin 4} {x : Int64} (hf : mF M pc = some (.lload_n k, 1, n, t)) (hl : ls[(k : Nat)]? = some (.long x)) (kk : V g d M P sz' u' n ls (.long x :: st) h sz u) : V g d M P sz' u' pc ls st h sz u :=
  V_op kk fun p e R s m args below meth c H locs cells slots Q arr C S F L k => by
    obtain ⟨hd, rfl, -⟩ := mDec C hf
    exact lv_lload_n C.1 C.2.1 hd rfl (L.at hl rfl) k
theorem V_lload {k : Nat} {x : Int64} (hf : mF M pc = some (.lload k, 2, n, t)) (hl : ls[k]? = some (.long x)) (kk : V g d M P sz' u' n ls (.long x :: st) h sz u) : V g d M P sz' u' pc ls st h sz u :=
  V_op kk fun p e R s m args below meth c H locs cells slots Q arr C S F L k => by
    obtain ⟨hd, rfl, -⟩ := mDec C hf
    exact lv_lload C.1 C.2.1 hd (L.at hl rfl) k
theorem V_aload_n {k : Fin 4} {x : Nat} (hf : mF M pc = some (.aload_n k, 1, n, t)) (hl : ls[(k : Nat)]? = some (.ref x)) (kk : V g d M P sz' u' n ls (.ref x :: st) h sz u) : V g d M P sz' u' pc ls st h sz u :=
  V_op kk fun p e R s m args below meth c H locs cells slots Q arr C S F L k => by
    obtain ⟨hd, rfl, -⟩ := mDec C hf
    exact lv_aload_n C.1 C.2.1 hd rfl (L.at hl rfl) k
theorem V_aload {k : Nat} {x : Nat} (hf : mF M pc = some (.aload k, 2, n, t)) (hl : ls[k]? = some (.ref x)) (kk : V g d M P sz' u' n ls (.ref x :: st) h sz u) : V g d M P sz' u' pc ls st h sz u :=
  V_op kk fun p e R s m args below meth c H locs cells slots Q arr C S F L k => by
    obtain ⟨hd, rfl, -⟩ := mDec C hf
    exact lv_aload C.1 C.2.1 hd (L.at hl rfl) k
theorem V_iadd {x y : Int32} (hf : mF M pc = some (.iadd, 1, n, t)) (kk : V g d M P sz' u' n ls (.int (x + y) :: st) h sz u) : V g d M P sz' u' pc ls (.int y :: .int x :: st) h sz u :=
  V_op kk fun p e R s m args below meth c H locs cells slots Q arr C S F L k => by
    obtain ⟨hd, rfl, -⟩ := mDec C hf
    exact lv_iadd C.1 C.2.1 hd k
theorem V_isub {x y : Int32} (hf : mF M pc = some (.isub, 1, n, t)) (kk : V g d M P sz' u' n ls (.int (x - y) :: st) h sz u) : V g d M P sz' u' pc ls (.int y :: .int x :: st) h sz u :=
  V_op kk fun p e R s m args below meth c H locs cells slots Q arr C S F L k => by
    obtain ⟨hd, rfl, -⟩ := mDec C hf
    exact lv_isub C.1 C.2.1 hd k
theorem V_imul {x y : Int32} (hf : mF M pc = some (.imul, 1, n, t)) (kk : V g d M P sz' u' n ls (.int (x * y) :: st) h sz u) : V g d M P sz' u' pc ls (.int y :: .int x :: st) h sz u :=
  V_op kk fun p e R s m args below meth c H locs cells slots Q arr C S F L k => by
    obtain ⟨hd, rfl, -⟩ := mDec C hf
    exact lv_imul C.1 C.2.1 hd k
theorem V_iand {x y : Int32} (hf : mF M pc = some (.iand, 1, n, t)) (kk : V g d M P sz' u' n ls (.int (x &&& y) :: st) h sz u) : V g d M P sz' u' pc ls (.int y :: .int x :: st) h sz u :=
  V_op kk fun p e R s m args below meth c H locs cells slots Q arr C S F L k => by
    obtain ⟨hd, rfl, -⟩ := mDec C hf
    exact lv_iand C.1 C.2.1 hd k
theorem V_ior {x y : Int32} (hf : mF M pc = some (.ior, 1, n, t)) (kk : V g d M P sz' u' n ls (.int (x ||| y) :: st) h sz u) : V g d M P sz' u' pc ls (.int y :: .int x :: st) h sz u :=
  V_op kk fun p e R s m args below meth c H locs cells slots Q arr C S F L k => by
    obtain ⟨hd, rfl, -⟩ := mDec C hf
    exact lv_ior C.1 C.2.1 hd k
theorem V_ixor {x y : Int32} (hf : mF M pc = some (.ixor, 1, n, t)) (kk : V g d M P sz' u' n ls (.int (x ^^^ y) :: st) h sz u) : V g d M P sz' u' pc ls (.int y :: .int x :: st) h sz u :=
  V_op kk fun p e R s m args below meth c H locs cells slots Q arr C S F L k => by
    obtain ⟨hd, rfl, -⟩ := mDec C hf
    exact lv_ixor C.1 C.2.1 hd k
theorem V_idiv {x y : Int32} (hf : mF M pc = some (.idiv, 1, n, t)) (hy : ¬ y = 0) (kk : V g d M P sz' u' n ls (.int (x / y) :: st) h sz u) : V g d M P sz' u' pc ls (.int y :: .int x :: st) h sz u :=
  V_op kk fun p e R s m args below meth c H locs cells slots Q arr C S F L k => by
    obtain ⟨hd, rfl, -⟩ := mDec C hf
    exact lv_idiv C.1 C.2.1 hd hy k
theorem V_irem {x y : Int32} (hf : mF M pc = some (.irem, 1, n, t)) (hy : ¬ y = 0) (kk : V g d M P sz' u' n ls (.int (x - x / y * y) :: st) h sz u) : V g d M P sz' u' pc ls (.int y :: .int x :: st) h sz u :=
  V_op kk fun p e R s m args below meth c H locs cells slots Q arr C S F L k => by
    obtain ⟨hd, rfl, -⟩ := mDec C hf
    exact lv_irem C.1 C.2.1 hd hy k
theorem V_lmul {x y : Int64} (hf : mF M pc = some (.lmul, 1, n, t)) (kk : V g d M P sz' u' n ls (.long (x * y) :: st) h sz u) : V g d M P sz' u' pc ls (.long y :: .long x :: st) h sz u :=
  V_op kk fun p e R s m args below meth c H locs cells slots Q arr C S F L k => by
    obtain ⟨hd, rfl, -⟩ := mDec C hf
    exact lv_lmul C.1 C.2.1 hd k
theorem V_ldiv {x y : Int64} (hf : mF M pc = some (.ldiv, 1, n, t)) (hy : ¬ y = 0) (kk : V g d M P sz' u' n ls (.long (x / y) :: st) h sz u) : V g d M P sz' u' pc ls (.long y :: .long x :: st) h sz u :=
  V_op kk fun p e R s m args below meth c H locs cells slots Q arr C S F L k => by
    obtain ⟨hd, rfl, -⟩ := mDec C hf
    exact lv_ldiv C.1 C.2.1 hd hy k
theorem V_lrem {x y : Int64} (hf : mF M pc = some (.lrem, 1, n, t)) (hy : ¬ y = 0) (kk : V g d M P sz' u' n ls (.long (x - x / y * y) :: st) h sz u) : V g d M P sz' u' pc ls (.long y :: .long x :: st) h sz u :=
  V_op kk fun p e R s m args below meth c H locs cells slots Q arr C S F L k => by
    obtain ⟨hd, rfl, -⟩ := mDec C hf
    exact lv_lrem C.1 C.2.1 hd hy k
theorem V_ishl {x y : Int32} (hf : mF M pc = some (.ishl, 1, n, t)) (kk : V g d M P sz' u' n ls (.int (x <<< (y &&& 31)) :: st) h sz u) : V g d M P sz' u' pc ls (.int y :: .int x :: st) h sz u :=
  V_op kk fun p e R s m args below meth c H locs cells slots Q arr C S F L k => by
    obtain ⟨hd, rfl, -⟩ := mDec C hf
    exact lv_ishl C.1 C.2.1 hd k
theorem V_ishr {x y : Int32} (hf : mF M pc = some (.ishr, 1, n, t)) (kk : V g d M P sz' u' n ls (.int (x >>> (y &&& 31)) :: st) h sz u) : V g d M P sz' u' pc ls (.int y :: .int x :: st) h sz u :=
  V_op kk fun p e R s m args below meth c H locs cells slots Q arr C S F L k => by
    obtain ⟨hd, rfl, -⟩ := mDec C hf
    exact lv_ishr C.1 C.2.1 hd k
theorem V_iushr {x y : Int32} (hf : mF M pc = some (.iushr, 1, n, t)) (kk : V g d M P sz' u' n ls (.int ((x.toUInt32 >>> (y.toUInt32 &&& Int32.toUInt32 31)).toInt32) :: st) h sz u) : V g d M P sz' u' pc ls (.int y :: .int x :: st) h sz u :=
  V_op kk fun p e R s m args below meth c H locs cells slots Q arr C S F L k => by
    obtain ⟨hd, rfl, -⟩ := mDec C hf
    exact lv_iushr C.1 C.2.1 hd rfl k
theorem V_i2l {x : Int32} (hf : mF M pc = some (.i2l, 1, n, t)) (kk : V g d M P sz' u' n ls (.long x.toInt64 :: st) h sz u) : V g d M P sz' u' pc ls (.int x :: st) h sz u :=
  V_op kk fun p e R s m args below meth c H locs cells slots Q arr C S F L k => by
    obtain ⟨hd, rfl, -⟩ := mDec C hf
    exact lv_i2l C.1 C.2.1 hd rfl k
theorem V_l2i {x : Int64} (hf : mF M pc = some (.l2i, 1, n, t)) (kk : V g d M P sz' u' n ls (.int x.toInt32 :: st) h sz u) : V g d M P sz' u' pc ls (.long x :: st) h sz u :=
  V_op kk fun p e R s m args below meth c H locs cells slots Q arr C S F L k => by
    obtain ⟨hd, rfl, -⟩ := mDec C hf
    exact lv_l2i C.1 C.2.1 hd rfl k
theorem V_lcmp {x y : Int64} (hf : mF M pc = some (.lcmp, 1, n, t)) (kk : V g d M P sz' u' n ls (.int (lg_cmp x y) :: st) h sz u) : V g d M P sz' u' pc ls (.long y :: .long x :: st) h sz u :=
  V_op kk fun p e R s m args below meth c H locs cells slots Q arr C S F L k => by
    obtain ⟨hd, rfl, -⟩ := mDec C hf
    exact W.lcmp C.1 C.2.1 hd k
theorem V_dup {v : Value} (hf : mF M pc = some (.dup, 1, n, t)) (hv : v.category = 1) (kk : V g d M P sz' u' n ls (v :: v :: st) h sz u) : V g d M P sz' u' pc ls (v :: st) h sz u :=
  V_op kk fun p e R s m args below meth c H locs cells slots Q arr C S F L k => by
    obtain ⟨hd, rfl, -⟩ := mDec C hf
    exact lv_dup C.1 C.2.1 hd (by rw [mRl_cat]; exact hv) k
theorem V_pop {v : Value} (hf : mF M pc = some (.pop, 1, n, t)) (hv : v.category = 1) (kk : V g d M P sz' u' n ls st h sz u) : V g d M P sz' u' pc ls (v :: st) h sz u :=
  V_op kk fun p e R s m args below meth c H locs cells slots Q arr C S F L k => by
    obtain ⟨hd, rfl, -⟩ := mDec C hf
    exact lv_pop C.1 C.2.1 hd (by rw [mRl_cat]; exact hv) k
theorem V_dup2 {v w : Value} (hf : mF M pc = some (.dup2, 1, n, t)) (hv : v.category = 1) (hw : w.category = 1) (kk : V g d M P sz' u' n ls (v :: w :: v :: w :: st) h sz u) : V g d M P sz' u' pc ls (v :: w :: st) h sz u :=
  V_op kk fun p e R s m args below meth c H locs cells slots Q arr C S F L k => by
    obtain ⟨hd, rfl, -⟩ := mDec C hf
    exact lv_dup2_11 C.1 C.2.1 hd (by rw [mRl_cat]; exact hv) (by rw [mRl_cat]; exact hw) k
theorem V_goto {o : Int} (hf : mF M pc = some (.goto o, 3, n, t)) (kk : V g d M P sz' u' t ls st h sz u) : V g d M P sz' u' pc ls st h sz u :=
  V_op kk fun p e R s m args below meth c H locs cells slots Q arr C S F L k => by
    obtain ⟨hd, -, ht⟩ := mDec C hf
    exact lv_goto C.1 C.2.1 hd (of_decide_eq_true ht) k
abbrev mCmp (cd : Jvm.ClassFile.Cond) (x y : Int32) : Prop := match cd with
  | .eq => x = y
  | .ne => ¬ x = y
  | .lt => x < y
  | .ge => y ≤ x
  | .gt => y < x
  | .le => x ≤ y
end mV
