/-! ===== what holds of a program that was read ===== -/
theorem aAcc_str {p : Pg} {X : Nat → Int32} {t w : Nat} (hs : str p t w = true) : ∀ n, w < n → le (X w) (aAcc p X t n)
  | 0, h => by omega
  | n + 1, h => by
    show le (X w) (aAcc p X t n ||| cnd (str p t n) (X n))
    by_cases e : w = n
    · subst e
      rw [hs]
      intro i hi
      rw [b_or, bt_cnd, hi]; simp
    · exact le_tr (aAcc_str hs n (by omega)) (le_or _ _)
theorem aAcc_cs {p : Pg} {X : Nat → Int32} {t x : Nat} (ht : t < 32) : ∀ n, bt (aAcc p X t n) x = true → x = t ∨ ∃ w, w < n ∧ str p t w = true ∧ bt (X w) x = true
  | 0, h => by
    have h : bt (bI t) x = true := h
    rw [bt_bI ht (bt_lt h), decide_eq_true_eq] at h
    exact Or.inl h
  | n + 1, h => by
    have h : bt (aAcc p X t n ||| cnd (str p t n) (X n)) x = true := h
    rw [b_or, Bool.or_eq_true, bt_cnd, Bool.and_eq_true] at h
    rcases h with h | h
    · rcases aAcc_cs ht n h with e | ⟨w, w1, w2⟩
      · exact Or.inl e
      · exact Or.inr ⟨w, by omega, w2⟩
    · exact Or.inr ⟨n, by omega, h⟩
theorem abF_tr {p : Pg} : ∀ t, t < 32 → ∀ x, bt (abF p t) x = true → le (abF p x) (abF p t) := by
  intro t
  induction t using Nat.strongRecOn with
  | ind t ih =>
    intro ht x h
    rw [abF_e p t] at h
    rcases aAcc_cs ht t h with e | ⟨w, w1, w2, w3⟩
    · rw [e]; exact le_rfl _
    · refine le_tr (ih w w1 (by omega) x w3) ?_
      rw [abF_e p t]
      exact aAcc_str w2 t w1
theorem fin_WX {p : Pg} (hw : WR p) : WX (fin p) := by
  have hT := hw.1.1
  refine ⟨fun t ht => ?_, fun t ht x hx => ?_, fun t ht x hx => ?_, fun t ht q hq hp => ?_, fun s hs hk => ?_, fun t ht q hq hp => ?_⟩
  · have ht : t < nT p := ht
    exact abF_self (by omega)
  · have ht : t < nT p := ht
    exact abF_le t (by omega) hx
  · have ht : t < nT p := ht
    exact abF_tr t (by omega) x hx
  · have ht : t < nT p := ht
    have hq : q < nT p := hq
    have hp : par p t = nI q := hp
    rcases hw.2.1 t ht with e | ⟨r, r1, r2, r3⟩
    · rw [e] at hp; exact absurd hp.symm (nI_m1 (by omega))
    · have : r = q := (nI_eq (by omega) (by omega)).mp (r3.symm.trans hp)
      subst this
      exact r2
  · exact (hw.2.2.2 s hs).2.2.2.2.2 hk
  · have ht : t < nT p := ht
    have hq : q < nT p := hq
    have hp : par p t = nI q := hp
    rcases hw.2.1 t ht with e | ⟨r, r1, r2, r3⟩
    · rw [e] at hp; exact absurd hp.symm (nI_m1 (by omega))
    · have : r = q := (nI_eq (by omega) (by omega)).mp (r3.symm.trans hp)
      subst this
      show bt (abF p t) r = true
      rw [abF_e p t]
      exact aAcc_str (by unfold str; rw [hp, decide_eq_true rfl]; rfl) t r1 r (abF_self (by omega))
/-! ===== the world: blocks side by side ===== -/
def djB (q r : Nat × Nat) : Bool := (cellsOf q).all fun a => !(cellsOf r).contains a
def pwB : List (Nat × Nat) → Bool
  | [] => true
  | q :: t => t.all (djB q) && pwB t
theorem djB_ok {q r : Nat × Nat} (h : djB q r = true) : djN q r := fun a h1 h2 => by
  have := List.all_eq_true.mp h a h1
  rw [Bool.not_eq_true', List.contains_eq_mem, decide_eq_false_iff_not] at this
  exact this h2
def wldL (h0 : mH) (S : Nat → Nat → Int32) (A : Nat → Nat → Nat → Int32) : List (Nat × Nat) → mH
  | [] => h0
  | q :: t => blkW q.1 (wldL h0 S A t) q.2 (S q.2) (A q.2)
section wl
variable {h0 : mH} {S S2 : Nat → Nat → Int32} {A A2 : Nat → Nat → Nat → Int32}
theorem wl_cong : ∀ {L : List (Nat × Nat)}, (∀ r, r ∈ L → S r.2 = S2 r.2 ∧ A r.2 = A2 r.2) → wldL h0 S A L = wldL h0 S2 A2 L
  | [], _ => rfl
  | q :: t, h => by
    show blkW q.1 (wldL h0 S A t) q.2 (S q.2) (A q.2) = blkW q.1 (wldL h0 S2 A2 t) q.2 (S2 q.2) (A2 q.2)
    rw [wl_cong (fun r hr => h r (List.mem_cons_of_mem _ hr)), (h q List.mem_cons_self).1, (h q List.mem_cons_self).2]
theorem wl_at : ∀ {L : List (Nat × Nat)} {q : Nat × Nat}, pwB L = true → q ∈ L → bAt q.1 (wldL h0 S A L) q.2 (S q.2) (A q.2)
  | [], _, _, h => by cases h
  | r :: t, q, hp, h => by
    unfold pwB at hp
    rw [Bool.and_eq_true] at hp
    rcases List.mem_cons.mp h with e | h
    · subst e
      exact blkW_at
    · exact bAt_out (djB_ok (List.all_eq_true.mp hp.1 q h)).sym (wl_at hp.2 h)
theorem wl_set : ∀ {L : List (Nat × Nat)} {q : Nat × Nat} {sc : Nat → Int32} {ar : Nat → Nat → Int32}, pwB L = true → q ∈ L → blkW q.1 (wldL h0 S A L) q.2 sc ar = wldL h0 (va_up S q.2 sc) (va_up A q.2 ar) L
  | [], _, _, _, _, h => by cases h
  | r :: t, q, sc, ar, hp, h => by
    unfold pwB at hp
    rw [Bool.and_eq_true] at hp
    have hne : ∀ x y : Nat × Nat, djN x y → x.2 ≠ y.2 := fun x y hd e => hd x.2 List.mem_cons_self (by rw [e]; exact List.mem_cons_self)
    show blkW q.1 (blkW r.1 (wldL h0 S A t) r.2 (S r.2) (A r.2)) q.2 sc ar = blkW r.1 (wldL h0 (va_up S q.2 sc) (va_up A q.2 ar) t) r.2 (va_up S q.2 sc r.2) (va_up A q.2 ar r.2)
    rcases List.mem_cons.mp h with e | h
    · subst e
      rw [blkW_W]
      have e1 : va_up S q.2 sc q.2 = sc := by simp [va_up]
      have e2 : va_up A q.2 ar q.2 = ar := by simp [va_up]
      have hc : wldL h0 (va_up S q.2 sc) (va_up A q.2 ar) t = wldL h0 S A t := wl_cong fun x hx => by
        have := hne _ _ (djB_ok (List.all_eq_true.mp hp.1 x hx))
        simp [va_up, Ne.symm this]
      rw [e1, e2, hc]
    · have hd := djB_ok (List.all_eq_true.mp hp.1 q h)
      have hn := hne _ _ hd
      have e1 : va_up S q.2 sc r.2 = S r.2 := by simp [va_up, hn]
      have e2 : va_up A q.2 ar r.2 = A r.2 := by simp [va_up, hn]
      rw [blkW_comm hd.sym, e1, e2, wl_set hp.2 h]
theorem wl_out : ∀ {L : List (Nat × Nat)} {a : Nat}, (∀ q, q ∈ L → a ∉ cellsOf q) → wldL h0 S A L a = h0 a
  | [], _, _ => rfl
  | r :: t, a, h => by
    show blkW r.1 (wldL h0 S A t) r.2 (S r.2) (A r.2) a = _
    rw [blkW_nin (h r List.mem_cons_self)]
    exact wl_out fun q hq => h q (List.mem_cons_of_mem _ hq)
theorem blkW_up {ci b a : Nat} {h : mH} {sc : Nat → Int32} {ar : Nat → Nat → Int32} {c : mC} (hn : a ∉ cellsOf (ci, b)) : va_up (blkW ci h b sc ar) a c = blkW ci (va_up h a c) b sc ar := by
  funext x
  by_cases e : x = a
  · subst e
    rw [blkW_nin hn]
    simp [va_up]
  · have e1 : va_up (blkW ci h b sc ar) a c x = blkW ci h b sc ar x := by simp [va_up, e]
    rw [e1]
    by_cases hi : x ∈ cellsOf (ci, b)
    · exact blkW_inn _ hi
    · rw [blkW_nin hi, blkW_nin hi]
      simp [va_up, e]
theorem wl_base : ∀ {L : List (Nat × Nat)} {a : Nat} {c : mC}, (∀ q, q ∈ L → a ∉ cellsOf q) → va_up (wldL h0 S A L) a c = wldL (va_up h0 a c) S A L
  | [], _, _, _ => rfl
  | r :: t, a, c, h => by
    show va_up (blkW r.1 (wldL h0 S A t) r.2 (S r.2) (A r.2)) a c = blkW r.1 (wldL (va_up h0 a c) S A t) r.2 (S r.2) (A r.2)
    rw [blkW_up (h r List.mem_cons_self), wl_base fun q hq => h q (List.mem_cons_of_mem _ hq)]
end wl
def wL : List (Nat × Nat) := [(7, 108), (3, 94), (3, 80), (0, 77), (0, 74), (5, 68), (1, 69), (5, 62), (1, 63), (5, 56), (1, 57), (5, 50), (1, 51), (5, 44), (1, 45), (5, 38), (1, 39), (5, 32), (1, 33), (5, 26), (1, 27), (5, 17), (1, 18), (5, 11), (1, 12), (5, 4), (1, 5), (4, 2)]
theorem wL_pw : pwB wL = true := by decide +kernel
def wB (pl sp : Nat) (fp cnt nx : Int32) (kp : Nat → Int32) : mH := fun a =>
  if a = 1 then cO 6 [.ref 2, .ref 4, .ref 10, .ref 23, .ref 24, .ref 74, .ref 77, .ref pl, .ref sp, .int fp]
  else if a = 10 then cR 2 (va_up (va_up (fun _ => none) 0 (some 11)) 1 (some 17))
  else if a = 23 then cB 2 kp
  else if a = 24 then cO 2 [.int cnt, .int nx, .ref 25]
  else if a = 25 then cR 8 (fun i => if i < 8 then some (26 + 6 * i) else none)
  else mBad
abbrev wld (pl sp : Nat) (fp cnt nx : Int32) (kp : Nat → Int32) (S : Nat → Nat → Int32) (A : Nat → Nat → Nat → Int32) : mH := wldL (wB pl sp fp cnt nx kp) S A wL
def wLo (a : Nat) : Bool := wL.all fun q => !(cellsOf q).contains a
theorem wLo_ok {a : Nat} (h : wLo a = true) : ∀ q, q ∈ wL → a ∉ cellsOf q := fun q hq h2 => by
  have := List.all_eq_true.mp h q hq
  rw [Bool.not_eq_true', List.contains_eq_mem, decide_eq_false_iff_not] at this
  exact this h2
section wlds
variable {pl sp : Nat} {fp cnt nx : Int32} {kp : Nat → Int32} {S : Nat → Nat → Int32} {A : Nat → Nat → Nat → Int32}
theorem wd_1 : wld pl sp fp cnt nx kp S A 1 = cO 6 [.ref 2, .ref 4, .ref 10, .ref 23, .ref 24, .ref 74, .ref 77, .ref pl, .ref sp, .int fp] := wl_out (wLo_ok (by decide +kernel))
theorem wd_10 : wld pl sp fp cnt nx kp S A 10 = cR 2 (va_up (va_up (fun _ => none) 0 (some 11)) 1 (some 17)) := wl_out (wLo_ok (by decide +kernel))
theorem wd_23 : wld pl sp fp cnt nx kp S A 23 = cB 2 kp := wl_out (wLo_ok (by decide +kernel))
theorem wd_24 : wld pl sp fp cnt nx kp S A 24 = cO 2 [.int cnt, .int nx, .ref 25] := wl_out (wLo_ok (by decide +kernel))
theorem wd_25 : wld pl sp fp cnt nx kp S A 25 = cR 8 (fun i => if i < 8 then some (26 + 6 * i) else none) := wl_out (wLo_ok (by decide +kernel))
theorem wd_at {ci b : Nat} (h : (ci, b) ∈ wL) : bAt ci (wld pl sp fp cnt nx kp S A) b (S b) (A b) := wl_at wL_pw h
theorem wd_set {ci b : Nat} {sc : Nat → Int32} {ar : Nat → Nat → Int32} (h : (ci, b) ∈ wL) : blkW ci (wld pl sp fp cnt nx kp S A) b sc ar = wld pl sp fp cnt nx kp (va_up S b sc) (va_up A b ar) := wl_set wL_pw h
theorem wd_self {ci b : Nat} (h : (ci, b) ∈ wL) : blkW ci (wld pl sp fp cnt nx kp S A) b (S b) (A b) = wld pl sp fp cnt nx kp S A := (wd_at h).self
theorem va_far {a b c : Nat} {h : mH} {x y : mC} (e : a ≠ b) : va_up h a x b = h b := by simp [va_up, Ne.symm e]
theorem wd_u1 {pl2 sp2 : Nat} {fp2 : Int32} : va_up (wld pl sp fp cnt nx kp S A) 1 (cO 6 [.ref 2, .ref 4, .ref 10, .ref 23, .ref 24, .ref 74, .ref 77, .ref pl2, .ref sp2, .int fp2]) = wld pl2 sp2 fp2 cnt nx kp S A := by
  rw [wl_base (wLo_ok (by decide +kernel))]
  congr 1
  funext x
  unfold wB va_up
  by_cases e : x = 1
  · simp [e]
  · simp [e]
theorem wd_u23 {kp2 : Nat → Int32} : va_up (wld pl sp fp cnt nx kp S A) 23 (cB 2 kp2) = wld pl sp fp cnt nx kp2 S A := by
  rw [wl_base (wLo_ok (by decide +kernel))]
  congr 1
  funext x
  unfold wB va_up
  by_cases e : x = 23
  · simp [e]
  · simp [e]
theorem wd_u24 {cnt2 nx2 : Int32} : va_up (wld pl sp fp cnt nx kp S A) 24 (cO 2 [.int cnt2, .int nx2, .ref 25]) = wld pl sp fp cnt2 nx2 kp S A := by
  rw [wl_base (wLo_ok (by decide +kernel))]
  congr 1
  funext x
  unfold wB va_up
  by_cases e : x = 24
  · simp [e]
  · simp [e]
end wlds
