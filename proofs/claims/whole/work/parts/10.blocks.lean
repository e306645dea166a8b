/-! ===== objects with their rows, as blocks of the heap (printed by gen10.py) ===== -/
def obF (ci b : Nat) (sc : Nat → Int32) : List Value := match ci with
  | 0 => [.int (sc 0), .int (sc 1), .ref (b + 1), .int (sc 3), .ref (b + 2), .int (sc 5), .int (sc 6), .int (sc 7)]
  | 1 => [.int (sc 0), .int (sc 1), .ref (b + 1), .ref (b + 2), .ref (b + 3)]
  | 3 => [.int (sc 0), .int (sc 1), .int (sc 2), .int (sc 3), .int (sc 4), .ref (b + 1), .ref (b + 2), .ref (b + 3), .ref (b + 4), .ref (b + 5), .ref (b + 6), .ref (b + 7), .ref (b + 8), .ref (b + 9), .ref (b + 10), .ref (b + 11), .ref (b + 12), .ref (b + 13)]
  | 4 => [.ref (b + 1), .int (sc 1), .int (sc 2), .int (sc 3), .int (sc 4), .int (sc 5), .int (sc 6), .int (sc 7), .int (sc 8), .int (sc 9)]
  | 5 => [.int (sc 0), .int (sc 1), .int (sc 2), .int (sc 3), .ref (b + 1), .ref (b + 5)]
  | 7 => [.int (sc 0), .ref (b + 1), .ref (b + 2), .ref (b + 3), .ref (b + 4), .int (sc 5), .ref (b + 5), .ref (b + 6), .int (sc 8), .ref (b + 7), .ref (b + 8), .ref (b + 9), .ref (b + 10), .int (sc 13), .ref (b + 11), .ref (b + 12), .ref (b + 13), .int (sc 17), .int (sc 18), .int (sc 19), .int (sc 20), .int (sc 21), .int (sc 22), .ref (b + 14), .ref (b + 15), .ref (b + 16), .int (sc 26), .ref (b + 17), .ref (b + 18), .int (sc 29), .ref (b + 19), .ref (b + 20), .ref (b + 21), .ref (b + 22), .int (sc 34), .int (sc 35), .int (sc 36), .ref (b + 23), .ref (b + 24), .ref (b + 25), .ref (b + 26)]
  | _ => []
/-- which fields are numbers -/
def obS (ci k : Nat) : Bool := match ci with
  | 0 => [0, 1, 3, 5, 6, 7].contains k
  | 1 => [0, 1].contains k
  | 3 => [0, 1, 2, 3, 4].contains k
  | 4 => [1, 2, 3, 4, 5, 6, 7, 8, 9].contains k
  | 5 => [0, 1, 2, 3].contains k
  | 7 => [0, 5, 8, 13, 17, 18, 19, 20, 21, 22, 26, 29, 34, 35, 36].contains k
  | _ => false
/-- the rows: place behind the object, kind, field, length -/
def arL (ci : Nat) : List (Nat × Nat × Nat × Nat) := match ci with
  | 0 => [(1, 0, 2, 20), (2, 0, 4, 20)]
  | 1 => [(1, 0, 2, 16), (2, 0, 3, 16), (3, 0, 4, 16)]
  | 3 => [(1, 0, 5, 12), (2, 0, 6, 12), (3, 0, 7, 12), (4, 0, 8, 12), (5, 0, 9, 20), (6, 0, 10, 20), (7, 0, 11, 24), (8, 0, 12, 24), (9, 0, 13, 24), (10, 0, 14, 24), (11, 0, 15, 24), (12, 0, 16, 72), (13, 0, 17, 72)]
  | 4 => [(1, 0, 0, 240)]
  | 5 => [(5, 0, 5, 24)]
  | 7 => [(1, 1, 1, 12), (2, 0, 2, 12), (3, 0, 3, 12), (4, 0, 4, 12), (5, 0, 6, 20), (6, 0, 7, 20), (7, 0, 9, 24), (8, 0, 10, 24), (9, 0, 11, 24), (10, 0, 12, 24), (11, 0, 14, 24), (12, 0, 15, 45), (13, 0, 16, 240), (14, 1, 23, 12), (15, 0, 24, 12), (16, 0, 25, 12), (17, 0, 27, 20), (18, 0, 28, 20), (19, 0, 30, 24), (20, 0, 31, 24), (21, 0, 32, 24), (22, 0, 33, 24), (23, 0, 37, 360), (24, 0, 38, 20), (25, 0, 39, 90), (26, 1, 40, 2)]
  | _ => []
def arG : List (Nat × Nat × Nat × Nat) → Nat → Option (Nat × Nat × Nat)
  | [], _ => none
  | q :: t, o => cond (Nat.beq q.1 o) (some q.2) (arG t o)
def arT (ci o : Nat) : Option (Nat × Nat × Nat) := arG (arL ci) o
def arC (ci o : Nat) (ar : Nat → Nat → Int32) : Option mC := (arT ci o).map fun q => .inl (q.1, q.2.2, ar q.2.1)
def blkW (ci : Nat) (h : mH) (b : Nat) (sc : Nat → Int32) (ar : Nat → Nat → Int32) : mH := fun a => if a = b then cO ci (obF ci b sc) else if b ≤ a then (arC ci (a - b) ar).getD (h a) else h a
/-- the heap holds the object and its rows -/
def bAt (ci : Nat) (h : mH) (b : Nat) (sc : Nat → Int32) (ar : Nat → Nat → Int32) : Prop := h b = cO ci (obF ci b sc) ∧ ∀ o c, 1 ≤ o → arC ci o ar = some c → h (b + o) = c
theorem obF_set (ci b k : Nat) (sc : Nat → Int32) (x : Int32) (hk : obS ci k = true) : (obF ci b sc).set k (.int x) = obF ci b (upd sc k x) := by
  match ci, hk with
  | 0, hk =>
    simp only [obS, List.contains_iff_mem, List.mem_cons, List.not_mem_nil, or_false] at hk
    rcases hk with rfl | rfl | rfl | rfl | rfl | rfl <;> rfl
  | 1, hk =>
    simp only [obS, List.contains_iff_mem, List.mem_cons, List.not_mem_nil, or_false] at hk
    rcases hk with rfl | rfl <;> rfl
  | 3, hk =>
    simp only [obS, List.contains_iff_mem, List.mem_cons, List.not_mem_nil, or_false] at hk
    rcases hk with rfl | rfl | rfl | rfl | rfl <;> rfl
  | 4, hk =>
    simp only [obS, List.contains_iff_mem, List.mem_cons, List.not_mem_nil, or_false] at hk
    rcases hk with rfl | rfl | rfl | rfl | rfl | rfl | rfl | rfl | rfl <;> rfl
  | 5, hk =>
    simp only [obS, List.contains_iff_mem, List.mem_cons, List.not_mem_nil, or_false] at hk
    rcases hk with rfl | rfl | rfl | rfl <;> rfl
  | 7, hk =>
    simp only [obS, List.contains_iff_mem, List.mem_cons, List.not_mem_nil, or_false] at hk
    rcases hk with rfl | rfl | rfl | rfl | rfl | rfl | rfl | rfl | rfl | rfl | rfl | rfl | rfl | rfl | rfl <;> rfl
  | 2, hk => cases hk
  | 6, hk => cases hk
  | n + 8, hk => cases hk
theorem arG_mem : ∀ {l : List (Nat × Nat × Nat × Nat)} {o : Nat} {x : Nat × Nat × Nat}, arG l o = some x → (o, x) ∈ l
  | [], _, _, h => by cases h
  | (a, y) :: t, o, x, h => by
    unfold arG at h
    cases hb : Nat.beq (a, y).1 o with
    | true =>
      have e : a = o := Nat.eq_of_beq_eq_true hb
      rw [hb] at h
      cases h
      subst e
      exact List.mem_cons_self
    | false =>
      rw [hb] at h
      exact List.mem_cons_of_mem _ (arG_mem h)
theorem arL_inj (ci : Nat) : ∀ x ∈ arL ci, ∀ y ∈ arL ci, x.2.2.1 = y.2.2.1 → x.1 = y.1 := by
  match ci with
  | 0 => decide
  | 1 => decide
  | 3 => decide
  | 4 => decide
  | 5 => decide
  | 7 => decide
  | 2 => decide
  | 6 => decide
  | n + 8 => intro x hx; cases hx
theorem arT_inj {ci o o2 : Nat} {x y : Nat × Nat × Nat} (h1 : arT ci o = some x) (h2 : arT ci o2 = some y) (h : x.2.1 = y.2.1) : o = o2 := arL_inj ci (o, x) (arG_mem h1) (o2, y) (arG_mem h2) h
section blk
variable {ci : Nat} {h : mH} {b : Nat} {sc : Nat → Int32} {ar : Nat → Nat → Int32}
theorem blkW_0 : blkW ci h b sc ar b = cO ci (obF ci b sc) := if_pos rfl
theorem blkW_a {o : Nat} {c : mC} (ho : Nat.ble 1 o = true) (hc : arC ci o ar = some c) : blkW ci h b sc ar (b + o) = c := by
  have ho := Nat.le_of_ble_eq_true ho
  unfold blkW
  rw [if_neg (by omega), if_pos (by omega), Nat.add_sub_cancel_left, hc]
  rfl
theorem blkW_out {a : Nat} (h1 : a ≠ b) (h2 : a < b ∨ arC ci (a - b) ar = none) : blkW ci h b sc ar a = h a := by
  unfold blkW
  rw [if_neg h1]
  by_cases hb : b ≤ a
  · rw [if_pos hb, h2.resolve_left (by omega)]; rfl
  · rw [if_neg hb]
theorem blkW_at : bAt ci (blkW ci h b sc ar) b sc ar := ⟨blkW_0, fun o c ho hc => blkW_a (Nat.ble_eq_true_of_le ho) hc⟩
theorem bAt_0 (hA : bAt ci h b sc ar) : h b = cO ci (obF ci b sc) := hA.1
theorem bAt_a (hA : bAt ci h b sc ar) {o : Nat} {c : mC} (ho : Nat.ble 1 o = true) (hc : arC ci o ar = some c) : h (b + o) = c := hA.2 o c (Nat.le_of_ble_eq_true ho) hc
theorem blkW_i {o k N : Nat} (ho : Nat.ble 1 o = true) (hk : arT ci o = some (0, k, N)) : blkW ci h b sc ar (b + o) = cI N (ar k) := blkW_a ho (by unfold arC; rw [hk]; rfl)
theorem blkW_z {o k N : Nat} (ho : Nat.ble 1 o = true) (hk : arT ci o = some (1, k, N)) : blkW ci h b sc ar (b + o) = cB N (ar k) := blkW_a ho (by unfold arC; rw [hk]; rfl)
theorem bAt_i (hA : bAt ci h b sc ar) {o k N : Nat} (ho : Nat.ble 1 o = true) (hk : arT ci o = some (0, k, N)) : h (b + o) = cI N (ar k) := bAt_a hA ho (by unfold arC; rw [hk]; rfl)
theorem bAt_z (hA : bAt ci h b sc ar) {o k N : Nat} (ho : Nat.ble 1 o = true) (hk : arT ci o = some (1, k, N)) : h (b + o) = cB N (ar k) := bAt_a hA ho (by unfold arC; rw [hk]; rfl)
theorem bAt.self (hA : bAt ci h b sc ar) : blkW ci h b sc ar = h := by
  funext a
  by_cases h1 : a = b
  · subst h1; rw [blkW_0, hA.1]
  · by_cases h2 : b ≤ a
    · cases hc : arC ci (a - b) ar with
      | none => exact blkW_out h1 (Or.inr hc)
      | some c =>
        have e : b + (a - b) = a := by omega
        have h3 := blkW_a (h := h) (b := b) (sc := sc) (Nat.ble_eq_true_of_le (show 1 ≤ a - b by omega)) hc
        have h4 := hA.2 (a - b) c (by omega) hc
        rw [e] at h3 h4
        rw [h3, h4]
    · exact blkW_out h1 (Or.inl (by omega))
theorem blkW_W (sc2 : Nat → Int32) (ar2 : Nat → Nat → Int32) : blkW ci (blkW ci h b sc ar) b sc2 ar2 = blkW ci h b sc2 ar2 := by
  funext a
  by_cases h1 : a = b
  · subst h1; rw [blkW_0, blkW_0]
  · by_cases h2 : b ≤ a
    · cases hc : arT ci (a - b) with
      | none => 
        rw [blkW_out h1 (Or.inr (by unfold arC; rw [hc]; rfl)), blkW_out h1 (Or.inr (by unfold arC; rw [hc]; rfl)), blkW_out h1 (Or.inr (by unfold arC; rw [hc]; rfl))]
      | some q =>
        unfold blkW
        rw [if_neg h1, if_pos h2, if_neg h1, if_pos h2, if_neg h1, if_pos h2]
        unfold arC
        rw [hc]
        rfl
    · rw [blkW_out h1 (Or.inl (by omega)), blkW_out h1 (Or.inl (by omega)), blkW_out h1 (Or.inl (by omega))]
theorem blkU_s {k : Nat} {x : Int32} (hk : obS ci k = true) : va_up (blkW ci h b sc ar) b (cO ci ((obF ci b sc).set k (.int x))) = blkW ci h b (upd sc k x) ar := by
  rw [obF_set ci b k sc x hk]
  funext a
  by_cases h1 : a = b
  · subst h1; rw [blkW_0]; simp only [va_up, if_pos]
  · simp only [va_up, if_neg h1]
    unfold blkW
    rw [if_neg h1, if_neg h1]
theorem blkU_a {o kd k N j : Nat} {x : Int32} (ho : 1 ≤ o) (hk : arT ci o = some (kd, k, N)) : va_up (blkW ci h b sc ar) (b + o) (.inl (kd, N, upd (ar k) j x)) = blkW ci h b sc (va_up ar k (upd (ar k) j x)) := by
  funext a
  by_cases h1 : a = b + o
  · subst h1
    rw [blkW_a (Nat.ble_eq_true_of_le ho) (show arC ci o (va_up ar k (upd (ar k) j x)) = some (.inl (kd, N, upd (ar k) j x)) by unfold arC; rw [hk]; simp [va_up])]
    simp only [va_up, if_pos]
  · simp only [va_up, if_neg h1]
    by_cases h2 : a = b
    · subst h2; rw [blkW_0, blkW_0]
    · by_cases h3 : b ≤ a
      · unfold blkW
        rw [if_neg h2, if_pos h3, if_neg h2, if_pos h3]
        unfold arC
        cases hc : arT ci (a - b) with
        | none => rfl
        | some q =>
          have hq : q.2.1 ≠ k := fun e => h1 (by have := arT_inj hc hk e; omega)
          simp only [Option.map_some, va_up, if_neg hq]
      · rw [blkW_out h2 (Or.inl (by omega)), blkW_out h2 (Or.inl (by omega))]
end blk
section blkV
variable {g : mG} {d : Nat} {M : mM} {P : Option Value → mH → Prop} {sz' u' pc n t : Nat} {ls st : List Value} {h : mH} {sz u : Nat} {ci b : Nat} {sc : Nat → Int32} {ar : Nat → Nat → Int32}
theorem V_bput {i k w : Nat} {x : Int32} (hf : mF M pc = some (.putfield i, 3, n, t)) (hl : mFld M.1 i = some (ci, k, w)) (hk : obS ci k = true) (hty : mTy ci k = .int) (hfin : (vwCl[ci]?.map fun r => (r.2.1 k).2.2.2) = some false) (hlen : Nat.blt k (obF ci b sc).length = true)
    (kk : V g d M P sz' u' n ls st (blkW ci h b (upd sc k x) ar) sz u) : V g d M P sz' u' pc ls (.int x :: .ref b :: st) (blkW ci h b sc ar) sz u :=
  V_put hf hl blkW_0 (Nat.le_of_ble_eq_true hlen) (fun ty e => by rw [hty] at e; subst e; exact ⟨rfl, rfl⟩) (Or.inl hfin) rfl (by rw [blkU_s hk]; exact kk)
theorem V_bputZ {i k w : Nat} {x : Int32} (hf : mF M pc = some (.putfield i, 3, n, t)) (hl : mFld M.1 i = some (ci, k, w)) (hk : obS ci k = true) (hty : mTy ci k = .boolean) (hfin : (vwCl[ci]?.map fun r => (r.2.1 k).2.2.2) = some false) (hlen : Nat.blt k (obF ci b sc).length = true) (hx : x = 0 ∨ x = 1)
    (kk : V g d M P sz' u' n ls st (blkW ci h b (upd sc k x) ar) sz u) : V g d M P sz' u' pc ls (.int x :: .ref b :: st) (blkW ci h b sc ar) sz u :=
  V_put hf hl blkW_0 (Nat.le_of_ble_eq_true hlen) (fun ty e => by rw [hty] at e; subst e; rcases hx with rfl | rfl <;> exact ⟨rfl, rfl⟩) (Or.inl hfin) rfl (by rw [blkU_s hk]; exact kk)
theorem V_bast {o k N j : Nat} {i x : Int32} (hf : mF M pc = some (.iastore, 1, n, t)) (ho : Nat.ble 1 o = true) (hk : arT ci o = some (0, k, N)) (hi : i = nI j) (hj : j < N) (hN : N < 2 ^ 31)
    (kk : V g d M P sz' u' n ls st (blkW ci h b sc (va_up ar k (upd (ar k) j x))) sz u) : V g d M P sz' u' pc ls (.int x :: .int i :: .ref (b + o) :: st) (blkW ci h b sc ar) sz u :=
  V_iastore hf (blkW_a ho (show arC ci o ar = some (cI N (ar k)) by unfold arC; rw [hk]; rfl)) hi hj hN (by
    have e := blkU_a (h := h) (b := b) (sc := sc) (ar := ar) (j := j) (x := x) (Nat.le_of_ble_eq_true ho) hk
    rw [← e] at kk
    exact kk)
theorem V_bastZ {o k N j : Nat} {i x : Int32} (hf : mF M pc = some (.bastore, 1, n, t)) (ho : Nat.ble 1 o = true) (hk : arT ci o = some (1, k, N)) (hi : i = nI j) (hj : j < N) (hN : N < 2 ^ 31) (hx : x = 0 ∨ x = 1)
    (kk : V g d M P sz' u' n ls st (blkW ci h b sc (va_up ar k (upd (ar k) j x))) sz u) : V g d M P sz' u' pc ls (.int x :: .int i :: .ref (b + o) :: st) (blkW ci h b sc ar) sz u :=
  V_bastore hf (blkW_a ho (show arC ci o ar = some (cB N (ar k)) by unfold arC; rw [hk]; rfl)) hi hj hN (by rcases hx with rfl | rfl <;> rfl) (by
    have e := blkU_a (h := h) (b := b) (sc := sc) (ar := ar) (j := j) (x := x) (Nat.le_of_ble_eq_true ho) hk
    rw [← e] at kk
    exact kk)
end blkV
