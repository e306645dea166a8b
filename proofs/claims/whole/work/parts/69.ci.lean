/-! ===== the class as it stands between two calls ===== -/
def PRx (p : Pg) (cnt nx : Int32) (S : Nat → Nat → Int32) (A : Nat → Nat → Nat → Int32) (un : Nat) (Pa : Nat → Int32) : Prop := ∃ x, x < 8 ∧ un ≤ 8 ∧ cnt = nI un ∧ nx = nI x ∧ ∀ i, i < un → SR (nC p) (fun k => Pa (45 * i + k)) (S (26 + 6 * ((x + 8 - un + i) % 8))) (A (26 + 6 * ((x + 8 - un + i) % 8)) 5) (S (26 + 6 * ((x + 8 - un + i) % 8) + 1)) (A (26 + 6 * ((x + 8 - un + i) % 8) + 1)) ∧ GN p (fun k => Pa (45 * i + k))
def IRx (p : Pg) (kp : Nat → Int32) (S : Nat → Nat → Int32) (A : Nat → Nat → Nat → Int32) (Im : Nat → Int32) : Prop := ∀ j, j < 2 → (kp j = 0 ∨ kp j = 1) ∧ (kp j = 1 → SR (nC p) (fun k => Im (45 * j + k)) (S (11 + 6 * j)) (A (11 + 6 * j) 5) (S (11 + 6 * j + 1)) (A (11 + 6 * j + 1)) ∧ GN p (fun k => Im (45 * j + k)))
def RDx (S : Nat → Nat → Int32) (A : Nat → Nat → Nat → Int32) (tx : Nat) (T : Nat → Int32) : Prop := S 2 1 = nI tx ∧ tx ≤ 240 ∧ A 2 0 = T ∧ ltr (A 2 0) tx
def CIx (pl sp : Nat) (cnt nx : Int32) (kp : Nat → Int32) (S : Nat → Nat → Int32) (A : Nat → Nat → Nat → Int32) (p : Pg) (N : Nat → Int32) (tx : Nat) (T : Nat → Int32) (un : Nat) (Pa Im : Nat → Int32) : Prop := (pl = 80 ∧ sp = 94 ∨ pl = 94 ∧ sp = 80) ∧ CP p (S pl) (A pl) ∧ WX p ∧ SR (nC p) N (S 4) (A 4 5) (S 5) (A 5) ∧ GN p N ∧ RDx S A tx T ∧ FO p false (S 74) (A 74) ∧ FO p true (S 77) (A 77) ∧ PRx p cnt nx S A un Pa ∧ IRx p kp S A Im
def CI (h : mH) (fp : Int32) (kp : Nat → Int32) (p : Pg) (N : Nat → Int32) (tx : Nat) (T : Nat → Int32) (un : Nat) (Pa Im msc : Nat → Int32) (mar : Nat → Nat → Int32) : Prop := ∃ pl sp cnt nx S A, h = wld pl sp fp cnt nx kp S A ∧ S 108 = msc ∧ A 108 = mar ∧ CIx pl sp cnt nx kp S A p N tx T un Pa Im
theorem va_ne {α : Type} {f : Nat → α} {k b : Nat} {x : α} (h : b ≠ k) : va_up f k x b = f b := by simp [va_up, h]
theorem va_eq {α : Type} {f : Nat → α} {k : Nat} {x : α} : va_up f k x k = x := by simp [va_up]
section cix
variable {pl sp : Nat} {fp cnt nx : Int32} {kp : Nat → Int32} {S S2 : Nat → Nat → Int32} {A A2 : Nat → Nat → Nat → Int32} {p : Pg} {N : Nat → Int32} {tx : Nat} {T : Nat → Int32} {un : Nat} {Pa Im : Nat → Int32}
theorem PRx_c (h : PRx p cnt nx S A un Pa) (e : ∀ b, 26 ≤ b → b < 74 → S2 b = S b ∧ A2 b = A b) : PRx p cnt nx S2 A2 un Pa := by
  obtain ⟨x, h1, h2, h3, h4, h5⟩ := h
  refine ⟨x, h1, h2, h3, h4, fun i hi => ?_⟩
  have hm : (x + 8 - un + i) % 8 < 8 := Nat.mod_lt _ (by decide)
  have e1 := e (26 + 6 * ((x + 8 - un + i) % 8)) (by omega) (by omega)
  have e2 := e (26 + 6 * ((x + 8 - un + i) % 8) + 1) (by omega) (by omega)
  rw [e1.1, e1.2, e2.1, e2.2]
  exact h5 i hi
theorem IRx_c (h : IRx p kp S A Im) (e : ∀ b, 11 ≤ b → b < 23 → S2 b = S b ∧ A2 b = A b) : IRx p kp S2 A2 Im := fun j hj => by
  have e1 := e (11 + 6 * j) (by omega) (by omega)
  have e2 := e (11 + 6 * j + 1) (by omega) (by omega)
  rw [e1.1, e1.2, e2.1, e2.2]
  exact h j hj
theorem RDx_c (h : RDx S A tx T) (e : S2 2 = S 2 ∧ A2 2 = A 2) : RDx S2 A2 tx T := by
  unfold RDx
  rw [e.1, e.2]
  exact h
theorem CIx_mem (h : CIx pl sp cnt nx kp S A p N tx T un Pa Im) : (3, pl) ∈ wL ∧ (3, sp) ∈ wL ∧ 80 ≤ pl ∧ pl ≤ 94 ∧ 80 ≤ sp ∧ sp ≤ 94 ∧ pl ≠ sp := by
  rcases h.1 with ⟨rfl, rfl⟩ | ⟨rfl, rfl⟩ <;> decide
theorem CIx_74 (h : CIx pl sp cnt nx kp S A p N tx T un Pa Im) {fsc : Nat → Int32} {far : Nat → Nat → Int32} (hF : FO p false fsc far) : CIx pl sp cnt nx kp (va_up S 74 fsc) (va_up A 74 far) p N tx T un Pa Im := by
  have hm := CIx_mem h
  have eS : ∀ b, b ≠ 74 → va_up S 74 fsc b = S b ∧ va_up A 74 far b = A b := fun b hb => ⟨va_ne hb, va_ne hb⟩
  obtain ⟨h1, h2, h3, h4, h5, h6, h7, h8, h9, h10⟩ := h
  refine ⟨h1, ?_, h3, ?_, h5, RDx_c h6 (eS 2 (by decide)), ?_, ?_, PRx_c h9 fun b b1 b2 => eS b (by omega), IRx_c h10 fun b b1 b2 => eS b (by omega)⟩
  · rw [(eS pl (by omega)).1, (eS pl (by omega)).2]; exact h2
  · rw [(eS 4 (by decide)).1, (eS 4 (by decide)).2, (eS 5 (by decide)).1, (eS 5 (by decide)).2]; exact h4
  · rw [va_eq, va_eq]; exact hF
  · rw [(eS 77 (by decide)).1, (eS 77 (by decide)).2]; exact h8
theorem CIx_77 (h : CIx pl sp cnt nx kp S A p N tx T un Pa Im) {fsc : Nat → Int32} {far : Nat → Nat → Int32} (hF : FO p true fsc far) : CIx pl sp cnt nx kp (va_up S 77 fsc) (va_up A 77 far) p N tx T un Pa Im := by
  have hm := CIx_mem h
  have eS : ∀ b, b ≠ 77 → va_up S 77 fsc b = S b ∧ va_up A 77 far b = A b := fun b hb => ⟨va_ne hb, va_ne hb⟩
  obtain ⟨h1, h2, h3, h4, h5, h6, h7, h8, h9, h10⟩ := h
  refine ⟨h1, ?_, h3, ?_, h5, RDx_c h6 (eS 2 (by decide)), ?_, ?_, PRx_c h9 fun b b1 b2 => eS b (by omega), IRx_c h10 fun b b1 b2 => eS b (by omega)⟩
  · rw [(eS pl (by omega)).1, (eS pl (by omega)).2]; exact h2
  · rw [(eS 4 (by decide)).1, (eS 4 (by decide)).2, (eS 5 (by decide)).1, (eS 5 (by decide)).2]; exact h4
  · rw [(eS 74 (by decide)).1, (eS 74 (by decide)).2]; exact h7
  · rw [va_eq, va_eq]; exact hF
theorem CIx_108 (h : CIx pl sp cnt nx kp S A p N tx T un Pa Im) {fsc : Nat → Int32} {far : Nat → Nat → Int32} : CIx pl sp cnt nx kp (va_up S 108 fsc) (va_up A 108 far) p N tx T un Pa Im := by
  have hm := CIx_mem h
  have eS : ∀ b, b ≠ 108 → va_up S 108 fsc b = S b ∧ va_up A 108 far b = A b := fun b hb => ⟨va_ne hb, va_ne hb⟩
  obtain ⟨h1, h2, h3, h4, h5, h6, h7, h8, h9, h10⟩ := h
  refine ⟨h1, ?_, h3, ?_, h5, RDx_c h6 (eS 2 (by decide)), ?_, ?_, PRx_c h9 fun b b1 b2 => eS b (by omega), IRx_c h10 fun b b1 b2 => eS b (by omega)⟩
  · rw [(eS pl (by omega)).1, (eS pl (by omega)).2]; exact h2
  · rw [(eS 4 (by decide)).1, (eS 4 (by decide)).2, (eS 5 (by decide)).1, (eS 5 (by decide)).2]; exact h4
  · rw [(eS 74 (by decide)).1, (eS 74 (by decide)).2]; exact h7
  · rw [(eS 77 (by decide)).1, (eS 77 (by decide)).2]; exact h8
theorem CIx_2 (h : CIx pl sp cnt nx kp S A p N tx T un Pa Im) {fsc : Nat → Int32} {far : Nat → Nat → Int32} {tx2 : Nat} {T2 : Nat → Int32} (hR : fsc 1 = nI tx2 ∧ tx2 ≤ 240 ∧ far 0 = T2 ∧ ltr (far 0) tx2) : CIx pl sp cnt nx kp (va_up S 2 fsc) (va_up A 2 far) p N tx2 T2 un Pa Im := by
  have hm := CIx_mem h
  have eS : ∀ b, b ≠ 2 → va_up S 2 fsc b = S b ∧ va_up A 2 far b = A b := fun b hb => ⟨va_ne hb, va_ne hb⟩
  obtain ⟨h1, h2, h3, h4, h5, h6, h7, h8, h9, h10⟩ := h
  refine ⟨h1, ?_, h3, ?_, h5, ?_, ?_, ?_, PRx_c h9 fun b b1 b2 => eS b (by omega), IRx_c h10 fun b b1 b2 => eS b (by omega)⟩
  · rw [(eS pl (by omega)).1, (eS pl (by omega)).2]; exact h2
  · rw [(eS 4 (by decide)).1, (eS 4 (by decide)).2, (eS 5 (by decide)).1, (eS 5 (by decide)).2]; exact h4
  · unfold RDx; rw [va_eq, va_eq]; exact hR
  · rw [(eS 74 (by decide)).1, (eS 74 (by decide)).2]; exact h7
  · rw [(eS 77 (by decide)).1, (eS 77 (by decide)).2]; exact h8
theorem CIx_4 (h : CIx pl sp cnt nx kp S A p N tx T un Pa Im) {ss js N2 : Nat → Int32} {sa ja : Nat → Nat → Int32} (hS : SR (nC p) N2 ss (sa 5) js ja) (hG : GN p N2) : CIx pl sp cnt nx kp (va_up (va_up S 5 js) 4 ss) (va_up (va_up A 5 ja) 4 sa) p N2 tx T un Pa Im := by
  have hm := CIx_mem h
  have eS : ∀ b, b ≠ 4 → b ≠ 5 → va_up (va_up S 5 js) 4 ss b = S b ∧ va_up (va_up A 5 ja) 4 sa b = A b := fun b h4 h5 => ⟨(va_ne h4).trans (va_ne h5), (va_ne h4).trans (va_ne h5)⟩
  obtain ⟨h1, h2, h3, h4, h5, h6, h7, h8, h9, h10⟩ := h
  refine ⟨h1, ?_, h3, ?_, hG, RDx_c h6 (eS 2 (by decide) (by decide)), ?_, ?_, PRx_c h9 fun b b1 b2 => eS b (by omega) (by omega), IRx_c h10 fun b b1 b2 => eS b (by omega) (by omega)⟩
  · rw [(eS pl (by omega) (by omega)).1, (eS pl (by omega) (by omega)).2]; exact h2
  · rw [va_eq, va_eq, show va_up (va_up S 5 js) 4 ss 5 = js from (va_ne (by decide)).trans va_eq, show va_up (va_up A 5 ja) 4 sa 5 = ja from (va_ne (by decide)).trans va_eq]; exact hS
  · rw [(eS 74 (by decide) (by decide)).1, (eS 74 (by decide) (by decide)).2]; exact h7
  · rw [(eS 77 (by decide) (by decide)).1, (eS 77 (by decide) (by decide)).2]; exact h8
theorem CIx_EW (h : CIx pl sp cnt nx kp S A p N tx T un Pa Im) : EW (wld pl sp fp cnt nx kp S A) pl sp fp (S pl) (A pl) (S 4) (A 4) := by
  have hm := CIx_mem h
  have h74 : (0, 74) ∈ wL := by decide
  refine ⟨fun fsc far => ?_, fun fsc far => ?_, fun fsc far => ?_⟩
  · rw [wd_set h74]; exact wd_1
  · rw [wd_set h74]
    have := wd_at (pl := pl) (sp := sp) (fp := fp) (cnt := cnt) (nx := nx) (kp := kp) (S := va_up S 74 fsc) (A := va_up A 74 far) hm.1
    rw [va_ne (by omega), va_ne (by omega)] at this
    exact this
  · rw [wd_set h74]
    have := wd_at (pl := pl) (sp := sp) (fp := fp) (cnt := cnt) (nx := nx) (kp := kp) (S := va_up S 74 fsc) (A := va_up A 74 far) (ci := 5) (b := 4) (by decide)
    rw [va_ne (by decide), va_ne (by decide)] at this
    exact this
end cix
section cird
variable {g : mG} {h : mH} {sz u : Nat} {fp : Int32} {kp : Nat → Int32} {p : Pg} {N : Nat → Int32} {tx : Nat} {T : Nat → Int32} {un : Nat} {Pa Im msc : Nat → Int32} {mar : Nat → Nat → Int32}
theorem CI_read {d : Nat} {M : mM} {args : List Value} {v : Int32} (hc : CI h fp kp p N tx T un Pa Im msc mar) (hm : ∀ (h : mH) (pl sp : Nat) (psc : Nat → Int32) (par_ : Nat → Nat → Int32) (ss : Nat → Int32) (sa : Nat → Nat → Int32) (fsc : Nat → Int32) (far : Nat → Nat → Int32), EW h pl sp fp psc par_ ss sa → CP p psc par_ → WX p → FO p false fsc far → ss 0 = N 0 → ss 1 = N 1 → (∀ c, c < nC p → sa 5 c = N (2 + c)) → GN p N → Mt g d M args (blkW 0 h 74 fsc far) sz u (PE v h p) sz u) : Mt g d M args h sz u (fun r h' => r = some (.int v) ∧ CI h' fp kp p N tx T un Pa Im msc mar) sz u := by
  obtain ⟨pl, sp, cnt, nx, S, A, rfl, e1, e2, hx⟩ := hc
  have h74 : (0, 74) ∈ wL := by decide
  have hE := CIx_EW (fp := fp) hx
  obtain ⟨-, q2, q3, q4, q5, -, q7, -, -, -⟩ := id hx
  have := hm (wld pl sp fp cnt nx kp S A) pl sp (S pl) (A pl) (S 4) (A 4) (S 74) (A 74) hE q2 q3 q7 q4.1.1 q4.1.2.1 q4.2.1 q5
  rw [wd_self h74] at this
  refine this.mono fun r h' hr => ?_
  obtain ⟨rfl, fsc, far, rfl, hF⟩ := hr
  refine ⟨rfl, pl, sp, cnt, nx, va_up S 74 fsc, va_up A 74 far, wd_set h74, (va_ne (by decide)).trans e1, (va_ne (by decide)).trans e2, CIx_74 hx hF⟩
theorem CI_mod {sc' : Nat → Int32} {ar' : Nat → Nat → Int32} (hc : CI h fp kp p N tx T un Pa Im msc mar) : CI (blkW 7 h 108 sc' ar') fp kp p N tx T un Pa Im sc' ar' := by
  obtain ⟨pl, sp, cnt, nx, S, A, rfl, e1, e2, hx⟩ := hc
  exact ⟨pl, sp, cnt, nx, va_up S 108 sc', va_up A 108 ar', wd_set (by decide), va_eq, va_eq, CIx_108 hx⟩
theorem CI_at (hc : CI h fp kp p N tx T un Pa Im msc mar) : blkW 7 h 108 msc mar = h := by
  obtain ⟨pl, sp, cnt, nx, S, A, rfl, rfl, rfl, hx⟩ := hc
  exact wd_self (by decide)
theorem d_above (hc : CI h fp kp p N tx T un Pa Im msc mar) (t : Int32) : Mt g 2 m_EB_above [.ref 1, .int t] h sz u (fun r h' => r = some (.int (A_above p t)) ∧ CI h' fp kp p N tx T un Pa Im msc mar) sz u := CI_read hc fun _ _ _ _ _ _ _ _ _ a b c d _ _ _ _ => c_above a b c d t
theorem d_users (hc : CI h fp kp p N tx T un Pa Im msc mar) (t : Int32) : Mt g 2 m_EB_users [.ref 1, .int t] h sz u (fun r h' => r = some (.int (A_users p t)) ∧ CI h' fp kp p N tx T un Pa Im msc mar) sz u := CI_read hc fun _ _ _ _ _ _ _ _ _ a b c d _ _ _ _ => c_users a b c d t
theorem d_makers (hc : CI h fp kp p N tx T un Pa Im msc mar) (t : Int32) : Mt g 3 m_EB_makers [.ref 1, .int t] h sz u (fun r h' => r = some (.int (A_makers p t)) ∧ CI h' fp kp p N tx T un Pa Im msc mar) sz u := CI_read hc fun _ _ _ _ _ _ _ _ _ a b c d _ _ _ _ => c_makers a b c d t
theorem d_isBelow (hc : CI h fp kp p N tx T un Pa Im msc mar) (t x : Int32) : Mt g 1 m_EB_isBelow [.ref 1, .int t, .int x] h sz u (fun r h' => r = some (.int (A_isBelow p t x)) ∧ CI h' fp kp p N tx T un Pa Im msc mar) sz u := CI_read hc fun _ _ _ _ _ _ _ _ _ a b c d _ _ _ _ => c_isBelow a b c d t x
theorem d_common (hc : CI h fp kp p N tx T un Pa Im msc mar) (t x : Int32) : Mt g 2 m_EB_common [.ref 1, .int t, .int x] h sz u (fun r h' => r = some (.int (A_common p t x)) ∧ CI h' fp kp p N tx T un Pa Im msc mar) sz u := CI_read hc fun _ _ _ _ _ _ _ _ _ a b c d _ _ _ _ => c_common a b c d t x
theorem d_found (hc : CI h fp kp p N tx T un Pa Im msc mar) (t x : Int32) : Mt g 2 m_EB_found [.ref 1, .int t, .int x] h sz u (fun r h' => r = some (.int (A_found p t x)) ∧ CI h' fp kp p N tx T un Pa Im msc mar) sz u := CI_read hc fun _ _ _ _ _ _ _ _ _ a b c d _ _ _ _ => c_found a b c d t x
theorem d_type (hc : CI h fp kp p N tx T un Pa Im msc mar) (t x : Int32) : Mt g 5 m_EB_type [.ref 1, .int t, .int x] h sz u (fun r h' => r = some (.int (A_type p N t x)) ∧ CI h' fp kp p N tx T un Pa Im msc mar) sz u := CI_read hc fun _ _ _ _ _ _ _ _ _ a b c d e f i j => c_type a b c d e f i j t x
theorem d_body (hc : CI h fp kp p N tx T un Pa Im msc mar) (t x : Int32) : Mt g 5 m_EB_body [.ref 1, .int t, .int x] h sz u (fun r h' => r = some (.int (A_body p N t x)) ∧ CI h' fp kp p N tx T un Pa Im msc mar) sz u := CI_read hc fun _ _ _ _ _ _ _ _ _ a b c d e f _ _ => c_body a b c d e f t x
theorem d_callers (hc : CI h fp kp p N tx T un Pa Im msc mar) (t : Int32) : Mt g 5 m_EB_callers [.ref 1, .int t] h sz u (fun r h' => r = some (.int (A_callers p N t)) ∧ CI h' fp kp p N tx T un Pa Im msc mar) sz u := CI_read hc fun _ _ _ _ _ _ _ _ _ a b c d e f _ _ => c_callers a b c d e f t
theorem d_call (hc : CI h fp kp p N tx T un Pa Im msc mar) (t x : Int32) : Mt g 6 m_EB_call [.ref 1, .int t, .int x] h sz u (fun r h' => r = some (.int (A_call p N t x)) ∧ CI h' fp kp p N tx T un Pa Im msc mar) sz u := CI_read hc fun _ _ _ _ _ _ _ _ _ a b c d e f i j => c_call a b c d e f i j t x
theorem d_holds (hc : CI h fp kp p N tx T un Pa Im msc mar) (t : Int32) : Mt g 6 m_EB_holds [.ref 1, .int t] h sz u (fun r h' => r = some (.int (A_holds p N t)) ∧ CI h' fp kp p N tx T un Pa Im msc mar) sz u := CI_read hc fun _ _ _ _ _ _ _ _ _ a b c d e f i j => c_holds a b c d e f i j t
theorem d_way (hc : CI h fp kp p N tx T un Pa Im msc mar) (t x : Int32) : Mt g 5 m_EB_way [.ref 1, .int t, .int x] h sz u (fun r h' => r = some (.int (A_way p N t x)) ∧ CI h' fp kp p N tx T un Pa Im msc mar) sz u := CI_read hc fun _ _ _ _ _ _ _ _ _ a b c d e f _ j => c_way a b c d e f j.1 t x
end cird
