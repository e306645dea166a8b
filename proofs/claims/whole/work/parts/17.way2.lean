theorem va_g {ar : Nat → Nat → Int32} {k : Nat} {f : Nat → Int32} {j : Nat} : va_up ar k f k j = f j := by simp [va_up]
theorem va_n {ar : Nat → Nat → Int32} {k k2 : Nat} {f : Nat → Int32} {j : Nat} (h : k2 ≠ k) : va_up ar k f k2 j = ar k2 j := by simp [va_up, h]
theorem va_st {ar : Nat → Nat → Int32} {k : Nat} {f : Nat → Int32} {j : Nat} {x : Int32} : va_up (va_up ar k f) k (upd (va_up ar k f k) j x) = va_up ar k (upd f j x) := by
  rw [bx_uu]
  simp [va_up]
theorem va_self (ar : Nat → Nat → Int32) (k : Nat) : va_up ar k (ar k) = ar := by
  funext j
  by_cases e : j = k
  · subst e; simp [va_up]
  · simp [va_up, e]
theorem anyF_s (j : Nat) (q : Nat → Bool) : anyF (j + 1) q = (anyF j q || q j) := rfl
theorem bool4 {α : Type} (A B C D : Bool) (x y : α) : (if (A && (B || (C && D))) = true then x else y) = if ((A && C) && D) = true then x else (if (A && B) = true then x else y) := by
  cases A <;> cases B <;> cases C <;> cases D <;> rfl
theorem lay_s (p : Pg) (R S : Int32) (b n x : Nat) : lay p R S b (n + 1) x = if (decide (lay p R S b n x = 1000) && anyF (nB p) fun y => bt (clB p R S x) y && decide (lay p R S b n y = nI n)) = true then nI (n + 1) else lay p R S b n x := rfl
theorem lay_is (p : Pg) (R S : Int32) (b : Nat) : ∀ n x, lay p R S b n x = 1000 ∨ ∃ k, k ≤ n ∧ lay p R S b n x = nI k
  | 0, x => by
    unfold lay
    split
    · exact Or.inr ⟨0, Nat.le_refl _, rfl⟩
    · exact Or.inl rfl
  | n + 1, x => by
    rw [lay_s]
    split
    · exact Or.inr ⟨n + 1, Nat.le_refl _, rfl⟩
    · rcases lay_is p R S b n x with h | ⟨k, h1, h2⟩
      · exact Or.inl h
      · exact Or.inr ⟨k, by omega, h2⟩
theorem lay_now {p : Pg} {R S : Int32} {b n x : Nat} (hn : n < 500) : lay p R S b (n + 1) x = nI n ↔ lay p R S b n x = nI n := by
  rw [lay_s]
  split
  · rename_i h
    rw [Bool.and_eq_true, decide_eq_true_eq] at h
    rw [h.1, nI_eq (by omega) (by omega)]
    constructor
    · intro q; omega
    · intro q
      have := (nI_eq (a := 1000) (by decide) (by omega)).mp q
      omega
  · exact Iff.rfl
theorem first_cong {p q : Nat → Bool} : ∀ {n : Nat}, (∀ k, k < n → p k = q k) → fa_first p n = fa_first q n
  | 0, _ => rfl
  | n + 1, h => by
    unfold fa_first
    rw [first_cong (fun k hk => h k (by omega)), h n (by omega)]
theorem fst1_cong {p : Pg} {f f2 : Nat → Int32} {S n : Int32} (h : ∀ k, k < nB p → f k = f2 k) : fst1 p f S n = fst1 p f2 S n := by
  unfold fst1
  rw [first_cong (q := fun x => bt S x && decide (f2 x = n)) (fun k hk => by rw [h k hk])]
theorem lstF_cong {f f2 : Nat → Int32} {S : Int32} : ∀ {n : Nat}, (∀ k, k < n → f k = f2 k) → lstF f S n = lstF f2 S n
  | 0, _ => rfl
  | n + 1, h => by
    unfold lstF
    rw [lstF_cong (fun k hk => h k (by omega)), h n (by omega)]
theorem pthF_cong {p : Pg} {R S : Int32} {f f2 : Nat → Int32} {rt l : Int32} (h : ∀ k, k < nB p → f k = f2 k) : ∀ i, pthF p R S f rt l i = pthF p R S f2 rt l i
  | 0 => fst1_cong h
  | i + 1 => by
    unfold pthF
    rw [pthF_cong h i, fst1_cong h]
/-- what way answers, b being a body, k at least NONE -/
def wayM (p : Pg) (N : Nat → Int32) (b : Nat) (k : Int32) : Int32 :=
  if bt (rch p N 0).1 b then
    if k = -1 then lstF (lay p (rch p N 0).1 (rch p N 0).2 b (nB p)) (N 1 &&& setF (nB p) fun c => bt (N 0) (bT p c)) (nB p)
    else if lstF (lay p (rch p N 0).1 (rch p N 0).2 b (nB p)) (N 1 &&& setF (nB p) fun c => bt (N 0) (bT p c)) (nB p) < k then -1
    else pthF p (rch p N 0).1 (rch p N 0).2 (lay p (rch p N 0).1 (rch p N 0).2 b (nB p)) (N 1 &&& setF (nB p) fun c => bt (N 0) (bT p c)) (lstF (lay p (rch p N 0).1 (rch p N 0).2 b (nB p)) (N 1 &&& setF (nB p) fun c => bt (N 0) (bT p c)) (nB p)) k.toNatClampNeg
  else -1
section mway2
variable {g : mG} {h : mH} {sz u md : Nat} {p : Pg} {sc : Nat → Int32} {ar : Nat → Nat → Int32}
set_option maxRecDepth 20000 in
set_option maxHeartbeats 1000000 in
theorem w_layLeft (hm : MP p sc ar) (b : Nat) (hb : b < nB p) : Mt g 7 m_MD_layLeft [.ref md, .int (nI b)] (blkW 7 h md sc ar) sz u (Pn (blkW 7 h md sc (va_up ar 38 (fa_fill (lay p (sc 34) (sc 35) b (nB p)) (ar 38) (nB p))))) sz u := by
  obtain ⟨hT, hB, hS, hC⟩ := hm.1.1
  refine Mt.of m_MD_layLeft_w m_MD_layLeft_x m_MD_layLeft_c rfl rfl (ls := [.ref md, .int (nI b), .retAddr 0, .retAddr 0, .retAddr 0, .retAddr 0]) rfl ?_
  refine V_iconst (v := 0) rfl (by decide) ?_
  refine V_is2 rfl (by first | rfl | assumption) ?_
  refine V_for2 (nB p) (fun i => [.ref md, .int (nI b), .int (nI i), .retAddr 0, .retAddr 0, .retAddr 0]) (fun i => blkW 7 h md sc (va_up ar 38 (fa_fill (lay p (sc 34) (sc 35) b 0) (ar 38) i))) rfl (by rw [fa_fill_0, va_self]) (fun i hi ih => ?_) ?_
  · refine V_iload_n rfl rfl ?_
    refine V_aload_n rfl rfl ?_
    refine V_getI rfl rfl (by first | assumption | exact blkW_0 | exact bAt_0 (by assumption) | rfl) (by rfl) (by first | exact mp_nB (by first | assumption | exact MP_rcS (by assumption) | exact MP_ar rfl (by assumption) | exact MP_sc rfl (by assumption)) | rfl) ?_
    refine V_icmp_geF rfl (nI_ge hi (by omega)) ?_
    refine V_aload_n rfl rfl ?_
    refine V_getfield rfl rfl (by first | assumption | exact blkW_0 | exact bAt_0 (by assumption) | rfl) (by rfl) ?_
    refine V_iload_n rfl rfl ?_
    refine V_iload_n rfl rfl ?_
    refine V_iload_n rfl rfl ?_
    refine V_icmp_ne rfl (fun h17 => ?_) (fun h17 => ?_)
    · refine V_sipush (v := 1000) rfl (by decide) ?_
      first | refine V_bast rfl rfl rfl (by first | with_reducible rfl | exact nI_add 2 _ | exact nI_add 26 _ | exact fa_lit _ | assumption) (by first | omega | assumption | decide) (by first | decide | omega | assumption) ?_ | refine V_iastore rfl (by first | assumption | exact blkW_i rfl rfl | exact blkW_z rfl rfl | exact bAt_i (by assumption) rfl rfl | exact bAt_z (by assumption) rfl rfl | rfl) (by first | with_reducible rfl | exact nI_add 2 _ | exact nI_add 26 _ | exact fa_lit _ | assumption) (by first | omega | assumption | decide) (by first | decide | omega | assumption) ?_
      refine V_inc2 rfl (by first | exact mInc _ | exact mDcr _ | rfl) (by first | rfl | assumption) ?_
      refine V_goto rfl ?_
      rw [nI_eq (by omega) (by omega)] at h17
      exact V_wkh ih (by simp [mWk]) (by rw [va_st, ← fa_fill_succ]; simp [lay, *])
    · refine V_iconst (v := 0) rfl (by decide) ?_
      refine V_goto rfl ?_
      first | refine V_bast rfl rfl rfl (by first | with_reducible rfl | exact nI_add 2 _ | exact nI_add 26 _ | exact fa_lit _ | assumption) (by first | omega | assumption | decide) (by first | decide | omega | assumption) ?_ | refine V_iastore rfl (by first | assumption | exact blkW_i rfl rfl | exact blkW_z rfl rfl | exact bAt_i (by assumption) rfl rfl | exact bAt_z (by assumption) rfl rfl | rfl) (by first | with_reducible rfl | exact nI_add 2 _ | exact nI_add 26 _ | exact fa_lit _ | assumption) (by first | omega | assumption | decide) (by first | decide | omega | assumption) ?_
      refine V_inc2 rfl (by first | exact mInc _ | exact mDcr _ | rfl) (by first | rfl | assumption) ?_
      refine V_goto rfl ?_
      rw [nI_eq (by omega) (by omega)] at h17
      exact V_wkh ih (by simp [mWk]) (by rw [va_st, ← fa_fill_succ]; simp [lay, *])
  · refine V_iload_n rfl rfl ?_
    refine V_aload_n rfl rfl ?_
    refine V_getI rfl rfl (by first | assumption | exact blkW_0 | exact bAt_0 (by assumption) | rfl) (by rfl) (by first | exact mp_nB (by first | assumption | exact MP_rcS (by assumption) | exact MP_ar rfl (by assumption) | exact MP_sc rfl (by assumption)) | rfl) ?_
    refine V_icmp_geT rfl (nI_le (Nat.le_refl _) (by omega)) ?_
    refine V_iconst (v := 0) rfl (by decide) ?_
    refine V_is2 rfl (by first | rfl | assumption) ?_
    refine V_for2 (nB p) (fun n => [.ref md, .int (nI b), .int (nI n), .retAddr 0, .retAddr 0, .retAddr 0]) (fun n => blkW 7 h md sc (va_up ar 38 (fa_fill (lay p (sc 34) (sc 35) b n) (ar 38) (nB p)))) rfl rfl (fun n hn ihn => ?_) ?_
    · refine V_iload_n rfl rfl ?_
      refine V_aload_n rfl rfl ?_
      refine V_getI rfl rfl (by first | assumption | exact blkW_0 | exact bAt_0 (by assumption) | rfl) (by rfl) (by first | exact mp_nB (by first | assumption | exact MP_rcS (by assumption) | exact MP_ar rfl (by assumption) | exact MP_sc rfl (by assumption)) | rfl) ?_
      refine V_icmp_geF rfl (nI_ge hn (by omega)) ?_
      refine V_iconst (v := 0) rfl (by decide) ?_
      refine V_is3 rfl (by first | rfl | assumption) ?_
      refine V_for2 (nB p) (fun i => [.ref md, .int (nI b), .int (nI n), .int (nI i), .retAddr 0, .retAddr 0]) (fun i => blkW 7 h md sc (va_up ar 38 (fa_fill (lay p (sc 34) (sc 35) b (n + 1)) (fa_fill (lay p (sc 34) (sc 35) b n) (ar 38) (nB p)) i))) rfl (by rw [fa_fill_0]) (fun i hi ihi => ?_) ?_
      · have hB0 : fa_fill (lay p (sc 34) (sc 35) b (n + 1)) (fa_fill (lay p (sc 34) (sc 35) b n) (ar 38) (nB p)) i i = lay p (sc 34) (sc 35) b n i := by rw [fa_fill_out (Nat.le_refl i), fa_fill_in hi]
        have key : ∀ X : Int32, X = (if lay p (sc 34) (sc 35) b n i = 1000 then clB p (sc 34) (sc 35) i else 0) → V g 7 m_MD_layLeft (Pn (blkW 7 h md sc (va_up ar 38 (fa_fill (lay p (sc 34) (sc 35) b (nB p)) (ar 38) (nB p))))) sz u 77 [.ref md, .int (nI b), .int (nI n), .int (nI i), .int X, .retAddr 0] [] (blkW 7 h md sc (va_up ar 38 (fa_fill (lay p (sc 34) (sc 35) b (n + 1)) (fa_fill (lay p (sc 34) (sc 35) b n) (ar 38) (nB p)) i))) sz u := by
          intro X hX
          refine V_iconst (v := 0) rfl (by decide) ?_
          refine V_is5 rfl (by first | rfl | assumption) ?_
          refine V_for2 (nB p) (fun j => [.ref md, .int (nI b), .int (nI n), .int (nI i), .int X, .int (nI j)]) (fun j => blkW 7 h md sc (va_up ar 38 (upd (fa_fill (lay p (sc 34) (sc 35) b (n + 1)) (fa_fill (lay p (sc 34) (sc 35) b n) (ar 38) (nB p)) i) i (if (decide (lay p (sc 34) (sc 35) b n i = 1000) && anyF j fun y => bt (clB p (sc 34) (sc 35) i) y && decide (lay p (sc 34) (sc 35) b n y = nI n)) = true then nI (n + 1) else lay p (sc 34) (sc 35) b n i)))) rfl ?_ (fun j hj ihj => ?_) ?_
          · rw [fa_upd_same]
            rw [hB0]
            simp [anyF]
          · have hcur : ∀ v : Int32, (v = nI (n + 1) ∨ v = lay p (sc 34) (sc 35) b n i) → bt X j = true → (upd (fa_fill (lay p (sc 34) (sc 35) b (n + 1)) (fa_fill (lay p (sc 34) (sc 35) b n) (ar 38) (nB p)) i) i v j = nI n ↔ lay p (sc 34) (sc 35) b n j = nI n) := by
              intro v hv hx
              by_cases e : j = i
              · subst e
                have h1000 : lay p (sc 34) (sc 35) b n j = 1000 := by
                  refine Classical.byContradiction fun q => ?_
                  rw [hX, if_neg q, b_0] at hx
                  cases hx
                have hne : ¬ (1000 : Int32) = nI n := fun q => by have := (nI_eq (a := 1000) (by decide) (by omega)).mp q; omega
                rw [pk_us, h1000]
                rcases hv with rfl | rfl
                · rw [nI_eq (by omega) (by omega)]
                  exact ⟨fun q => by omega, fun q => absurd q hne⟩
                · rw [h1000]
              · rw [pk_un e]
                by_cases e2 : j < i
                · rw [fa_fill_in e2]
                  exact lay_now (by omega)
                · rw [fa_fill_out (by omega), fa_fill_in hj]
            generalize hv : (if (decide (lay p (sc 34) (sc 35) b n i = 1000) && anyF j fun y => bt (clB p (sc 34) (sc 35) i) y && decide (lay p (sc 34) (sc 35) b n y = nI n)) = true then nI (n + 1) else lay p (sc 34) (sc 35) b n i) = v
            have hv2 : v = nI (n + 1) ∨ v = lay p (sc 34) (sc 35) b n i := by
              rw [← hv]
              split
              · exact Or.inl rfl
              · exact Or.inr rfl
            have hbX : bt X j = (decide (lay p (sc 34) (sc 35) b n i = 1000) && bt (clB p (sc 34) (sc 35) i) j) := by
              rw [hX]
              by_cases q : lay p (sc 34) (sc 35) b n i = 1000
              · rw [if_pos q, decide_eq_true q, Bool.true_and]
              · rw [if_neg q, decide_eq_false q, Bool.false_and, b_0]
            have hstep : (if (decide (lay p (sc 34) (sc 35) b n i = 1000) && anyF (j + 1) fun y => bt (clB p (sc 34) (sc 35) i) y && decide (lay p (sc 34) (sc 35) b n y = nI n)) = true then nI (n + 1) else lay p (sc 34) (sc 35) b n i) = if (bt X j && decide (lay p (sc 34) (sc 35) b n j = nI n)) = true then nI (n + 1) else v := by
              rw [hbX, ← hv, anyF_s]
              exact bool4 _ _ _ _ _ _
            rw [hstep] at ihj
            clear hX hbX hstep
            refine V_iload rfl rfl ?_
            refine V_aload_n rfl rfl ?_
            refine V_getI rfl rfl (by first | assumption | exact blkW_0 | exact bAt_0 (by assumption) | rfl) (by rfl) (by first | exact mp_nB (by first | assumption | exact MP_rcS (by assumption) | exact MP_ar rfl (by assumption) | exact MP_sc rfl (by assumption)) | rfl) ?_
            refine V_icmp_geF rfl (nI_ge hj (by omega)) ?_
            refine V_aload_n rfl rfl ?_
            refine V_getfield rfl rfl (by first | assumption | exact blkW_0 | exact bAt_0 (by assumption) | rfl) (by rfl) ?_
            refine V_iload_n rfl rfl ?_
            refine V_iload rfl rfl ?_
            refine V_iload rfl rfl ?_
            refine V_callSi rfl rfl (Or.inl rfl) m_MD_has_w m_MD_has_x rfl rfl (s_mhas _ (by first | omega | assumption)) (by decide) rfl (Nat.le_of_ble_eq_true rfl) ?_
            first | refine V_ifb_eq rfl (fun h101 => ?_) (fun h101 => ?_) | refine V_if_eq rfl (fun h101 => ?_) (fun h101 => ?_)
            · refine V_aload_n rfl rfl ?_
              refine V_getfield rfl rfl (by first | assumption | exact blkW_0 | exact bAt_0 (by assumption) | rfl) (by rfl) ?_
              refine V_iload_n rfl rfl ?_
              refine V_iald rfl (by first | assumption | exact blkW_i rfl rfl | exact blkW_z rfl rfl | exact bAt_i (by assumption) rfl rfl | exact bAt_z (by assumption) rfl rfl | rfl) (by first | with_reducible rfl | exact nI_add 2 _ | exact nI_add 26 _ | exact fa_lit _ | assumption) (by first | omega | assumption | decide) (by first | decide | omega | assumption) (by first | exact mp_isC (by first | assumption | exact MP_rcS (by assumption) | exact MP_ar rfl (by assumption) | exact MP_sc rfl (by assumption)) (by first | omega | assumption) | exact mp_par (by first | assumption | exact MP_rcS (by assumption) | exact MP_ar rfl (by assumption) | exact MP_sc rfl (by assumption)) (by first | omega | assumption) | exact mp_abv (by first | assumption | exact MP_rcS (by assumption) | exact MP_ar rfl (by assumption) | exact MP_sc rfl (by assumption)) (by first | omega | assumption) | exact mp_dep (by first | assumption | exact MP_rcS (by assumption) | exact MP_ar rfl (by assumption) | exact MP_sc rfl (by assumption)) (by first | omega | assumption) | exact mp_bT (by first | assumption | exact MP_rcS (by assumption) | exact MP_ar rfl (by assumption) | exact MP_sc rfl (by assumption)) (by first | omega | assumption) | exact mp_bM (by first | assumption | exact MP_rcS (by assumption) | exact MP_ar rfl (by assumption) | exact MP_sc rfl (by assumption)) (by first | omega | assumption) | exact mp_sK (by first | assumption | exact MP_rcS (by assumption) | exact MP_ar rfl (by assumption) | exact MP_sc rfl (by assumption)) (by first | omega | assumption) | exact mp_sB (by first | assumption | exact MP_rcS (by assumption) | exact MP_ar rfl (by assumption) | exact MP_sc rfl (by assumption)) (by first | omega | assumption) | exact mp_sT (by first | assumption | exact MP_rcS (by assumption) | exact MP_ar rfl (by assumption) | exact MP_sc rfl (by assumption)) (by first | omega | assumption) | exact mp_sM (by first | assumption | exact MP_rcS (by assumption) | exact MP_ar rfl (by assumption) | exact MP_sc rfl (by assumption)) (by first | omega | assumption) | exact mp_cS (by first | assumption | exact MP_rcS (by assumption) | exact MP_ar rfl (by assumption) | exact MP_sc rfl (by assumption)) (by first | omega | assumption) | exact va_g | exact va_n (by decide) | rfl) ?_
              first | refine V_bast rfl rfl rfl (by first | with_reducible rfl | exact nI_add 2 _ | exact nI_add 26 _ | exact fa_lit _ | assumption) (by first | omega | assumption | decide) (by first | decide | omega | assumption) ?_ | refine V_iastore rfl (by first | assumption | exact blkW_i rfl rfl | exact blkW_z rfl rfl | exact bAt_i (by assumption) rfl rfl | exact bAt_z (by assumption) rfl rfl | rfl) (by first | with_reducible rfl | exact nI_add 2 _ | exact nI_add 26 _ | exact fa_lit _ | assumption) (by first | omega | assumption | decide) (by first | decide | omega | assumption) ?_
              refine V_inc5 rfl (by first | exact mInc _ | exact mDcr _ | rfl) (by first | rfl | assumption) ?_
              refine V_goto rfl ?_
              exact V_wkh ihj (by simp [mWk]) (by rw [va_st, fa_upd_twice]; first | (rw [pk_us]; simp [h101]; done) | (rw [pk_us]; simp [h112]; done) | (rw [h101, decide_eq_true h112]; simp [nI_1]; done))
            · refine V_aload_n rfl rfl ?_
              refine V_getfield rfl rfl (by first | assumption | exact blkW_0 | exact bAt_0 (by assumption) | rfl) (by rfl) ?_
              refine V_iload rfl rfl ?_
              refine V_iald rfl (by first | assumption | exact blkW_i rfl rfl | exact blkW_z rfl rfl | exact bAt_i (by assumption) rfl rfl | exact bAt_z (by assumption) rfl rfl | rfl) (by first | with_reducible rfl | exact nI_add 2 _ | exact nI_add 26 _ | exact fa_lit _ | assumption) (by first | omega | assumption | decide) (by first | decide | omega | assumption) (by first | exact mp_isC (by first | assumption | exact MP_rcS (by assumption) | exact MP_ar rfl (by assumption) | exact MP_sc rfl (by assumption)) (by first | omega | assumption) | exact mp_par (by first | assumption | exact MP_rcS (by assumption) | exact MP_ar rfl (by assumption) | exact MP_sc rfl (by assumption)) (by first | omega | assumption) | exact mp_abv (by first | assumption | exact MP_rcS (by assumption) | exact MP_ar rfl (by assumption) | exact MP_sc rfl (by assumption)) (by first | omega | assumption) | exact mp_dep (by first | assumption | exact MP_rcS (by assumption) | exact MP_ar rfl (by assumption) | exact MP_sc rfl (by assumption)) (by first | omega | assumption) | exact mp_bT (by first | assumption | exact MP_rcS (by assumption) | exact MP_ar rfl (by assumption) | exact MP_sc rfl (by assumption)) (by first | omega | assumption) | exact mp_bM (by first | assumption | exact MP_rcS (by assumption) | exact MP_ar rfl (by assumption) | exact MP_sc rfl (by assumption)) (by first | omega | assumption) | exact mp_sK (by first | assumption | exact MP_rcS (by assumption) | exact MP_ar rfl (by assumption) | exact MP_sc rfl (by assumption)) (by first | omega | assumption) | exact mp_sB (by first | assumption | exact MP_rcS (by assumption) | exact MP_ar rfl (by assumption) | exact MP_sc rfl (by assumption)) (by first | omega | assumption) | exact mp_sT (by first | assumption | exact MP_rcS (by assumption) | exact MP_ar rfl (by assumption) | exact MP_sc rfl (by assumption)) (by first | omega | assumption) | exact mp_sM (by first | assumption | exact MP_rcS (by assumption) | exact MP_ar rfl (by assumption) | exact MP_sc rfl (by assumption)) (by first | omega | assumption) | exact mp_cS (by first | assumption | exact MP_rcS (by assumption) | exact MP_ar rfl (by assumption) | exact MP_sc rfl (by assumption)) (by first | omega | assumption) | exact va_g | exact va_n (by decide) | rfl) ?_
              refine V_iload_n rfl rfl ?_
              refine V_icmp_ne rfl (fun h112 => ?_) (fun h112 => ?_)
              · try rw [hcur v hv2 (by assumption)] at h112
                refine V_aload_n rfl rfl ?_
                refine V_getfield rfl rfl (by first | assumption | exact blkW_0 | exact bAt_0 (by assumption) | rfl) (by rfl) ?_
                refine V_iload_n rfl rfl ?_
                refine V_iald rfl (by first | assumption | exact blkW_i rfl rfl | exact blkW_z rfl rfl | exact bAt_i (by assumption) rfl rfl | exact bAt_z (by assumption) rfl rfl | rfl) (by first | with_reducible rfl | exact nI_add 2 _ | exact nI_add 26 _ | exact fa_lit _ | assumption) (by first | omega | assumption | decide) (by first | decide | omega | assumption) (by first | exact mp_isC (by first | assumption | exact MP_rcS (by assumption) | exact MP_ar rfl (by assumption) | exact MP_sc rfl (by assumption)) (by first | omega | assumption) | exact mp_par (by first | assumption | exact MP_rcS (by assumption) | exact MP_ar rfl (by assumption) | exact MP_sc rfl (by assumption)) (by first | omega | assumption) | exact mp_abv (by first | assumption | exact MP_rcS (by assumption) | exact MP_ar rfl (by assumption) | exact MP_sc rfl (by assumption)) (by first | omega | assumption) | exact mp_dep (by first | assumption | exact MP_rcS (by assumption) | exact MP_ar rfl (by assumption) | exact MP_sc rfl (by assumption)) (by first | omega | assumption) | exact mp_bT (by first | assumption | exact MP_rcS (by assumption) | exact MP_ar rfl (by assumption) | exact MP_sc rfl (by assumption)) (by first | omega | assumption) | exact mp_bM (by first | assumption | exact MP_rcS (by assumption) | exact MP_ar rfl (by assumption) | exact MP_sc rfl (by assumption)) (by first | omega | assumption) | exact mp_sK (by first | assumption | exact MP_rcS (by assumption) | exact MP_ar rfl (by assumption) | exact MP_sc rfl (by assumption)) (by first | omega | assumption) | exact mp_sB (by first | assumption | exact MP_rcS (by assumption) | exact MP_ar rfl (by assumption) | exact MP_sc rfl (by assumption)) (by first | omega | assumption) | exact mp_sT (by first | assumption | exact MP_rcS (by assumption) | exact MP_ar rfl (by assumption) | exact MP_sc rfl (by assumption)) (by first | omega | assumption) | exact mp_sM (by first | assumption | exact MP_rcS (by assumption) | exact MP_ar rfl (by assumption) | exact MP_sc rfl (by assumption)) (by first | omega | assumption) | exact mp_cS (by first | assumption | exact MP_rcS (by assumption) | exact MP_ar rfl (by assumption) | exact MP_sc rfl (by assumption)) (by first | omega | assumption) | exact va_g | exact va_n (by decide) | rfl) ?_
                first | refine V_bast rfl rfl rfl (by first | with_reducible rfl | exact nI_add 2 _ | exact nI_add 26 _ | exact fa_lit _ | assumption) (by first | omega | assumption | decide) (by first | decide | omega | assumption) ?_ | refine V_iastore rfl (by first | assumption | exact blkW_i rfl rfl | exact blkW_z rfl rfl | exact bAt_i (by assumption) rfl rfl | exact bAt_z (by assumption) rfl rfl | rfl) (by first | with_reducible rfl | exact nI_add 2 _ | exact nI_add 26 _ | exact fa_lit _ | assumption) (by first | omega | assumption | decide) (by first | decide | omega | assumption) ?_
                refine V_inc5 rfl (by first | exact mInc _ | exact mDcr _ | rfl) (by first | rfl | assumption) ?_
                refine V_goto rfl ?_
                exact V_wkh ihj (by simp [mWk]) (by rw [va_st, fa_upd_twice]; first | (rw [pk_us]; simp [h101]; done) | (rw [pk_us]; simp [h112]; done) | (rw [h101, decide_eq_true h112]; simp [nI_1]; done))
              · try rw [hcur v hv2 (by assumption)] at h112
                refine V_iload_n rfl rfl ?_
                refine V_iconst (v := 1) rfl (by decide) ?_
                refine V_iadd rfl ?_
                refine V_goto rfl ?_
                first | refine V_bast rfl rfl rfl (by first | with_reducible rfl | exact nI_add 2 _ | exact nI_add 26 _ | exact fa_lit _ | assumption) (by first | omega | assumption | decide) (by first | decide | omega | assumption) ?_ | refine V_iastore rfl (by first | assumption | exact blkW_i rfl rfl | exact blkW_z rfl rfl | exact bAt_i (by assumption) rfl rfl | exact bAt_z (by assumption) rfl rfl | rfl) (by first | with_reducible rfl | exact nI_add 2 _ | exact nI_add 26 _ | exact fa_lit _ | assumption) (by first | omega | assumption | decide) (by first | decide | omega | assumption) ?_
                refine V_inc5 rfl (by first | exact mInc _ | exact mDcr _ | rfl) (by first | rfl | assumption) ?_
                refine V_goto rfl ?_
                exact V_wkh ihj (by simp [mWk]) (by rw [va_st, fa_upd_twice]; first | (rw [pk_us]; simp [h101]; done) | (rw [pk_us]; simp [h112]; done) | (rw [h101, decide_eq_true h112]; simp [nI_1]; done))
          · refine V_iload rfl rfl ?_
            refine V_aload_n rfl rfl ?_
            refine V_getI rfl rfl (by first | assumption | exact blkW_0 | exact bAt_0 (by assumption) | rfl) (by rfl) (by first | exact mp_nB (by first | assumption | exact MP_rcS (by assumption) | exact MP_ar rfl (by assumption) | exact MP_sc rfl (by assumption)) | rfl) ?_
            refine V_icmp_geT rfl (nI_le (Nat.le_refl _) (by omega)) ?_
            refine V_inc3 rfl (by first | exact mInc _ | exact mDcr _ | rfl) (by first | rfl | assumption) ?_
            refine V_goto rfl ?_
            exact V_wkh ihi (by simp [mWk]) (by rw [← fa_fill_succ, lay_s])
        refine V_iload_n rfl rfl ?_
        refine V_aload_n rfl rfl ?_
        refine V_getI rfl rfl (by first | assumption | exact blkW_0 | exact bAt_0 (by assumption) | rfl) (by rfl) (by first | exact mp_nB (by first | assumption | exact MP_rcS (by assumption) | exact MP_ar rfl (by assumption) | exact MP_sc rfl (by assumption)) | rfl) ?_
        refine V_icmp_geF rfl (nI_ge hi (by omega)) ?_
        refine V_aload_n rfl rfl ?_
        refine V_getfield rfl rfl (by first | assumption | exact blkW_0 | exact bAt_0 (by assumption) | rfl) (by rfl) ?_
        refine V_iload_n rfl rfl ?_
        refine V_iald rfl (blkW_i rfl rfl) rfl (by omega) (by decide) (va_g.trans hB0) ?_
        refine V_sipush (v := 1000) rfl (by decide) ?_
        refine V_icmp_ne rfl (fun h63 => ?_) (fun h63 => ?_)
        · refine V_iconst (v := 0) rfl (by decide) ?_
          refine V_is4 rfl (by first | rfl | assumption) ?_
          exact V_wk (key _ rfl) (by simp [mWk, *])
        · refine V_aload_n rfl rfl ?_
          refine V_iload_n rfl rfl ?_
          refine V_callVi rfl rfl m_MD_calledBy_w m_MD_calledBy_x rfl (by decide) rfl (s_clB (by first | assumption | exact blkW_at) (by first | assumption | exact MP_rcS (by assumption) | exact MP_ar rfl (by assumption) | exact MP_sc rfl (by assumption)) _ (by first | omega | assumption)) (by decide) rfl (by first | assumption | exact blkW_0 | exact bAt_0 (by assumption) | rfl) (Nat.le_of_ble_eq_true rfl) ?_
          refine V_goto rfl ?_
          refine V_is4 rfl (by first | rfl | assumption) ?_
          exact V_wk (key _ rfl) (by simp [mWk, *])
      · refine V_iload_n rfl rfl ?_
        refine V_aload_n rfl rfl ?_
        refine V_getI rfl rfl (by first | assumption | exact blkW_0 | exact bAt_0 (by assumption) | rfl) (by rfl) (by first | exact mp_nB (by first | assumption | exact MP_rcS (by assumption) | exact MP_ar rfl (by assumption) | exact MP_sc rfl (by assumption)) | rfl) ?_
        refine V_icmp_geT rfl (nI_le (Nat.le_refl _) (by omega)) ?_
        refine V_inc2 rfl (by first | exact mInc _ | exact mDcr _ | rfl) (by first | rfl | assumption) ?_
        refine V_goto rfl ?_
        refine V_wkh ihn (by simp [mWk]) ?_
        congr 2
        funext k
        by_cases hk : k < nB p
        · rw [fa_fill_in hk, fa_fill_in hk]
        · rw [fa_fill_out (by omega), fa_fill_out (by omega), fa_fill_out (by omega)]
    · refine V_iload_n rfl rfl ?_
      refine V_aload_n rfl rfl ?_
      refine V_getI rfl rfl (by first | assumption | exact blkW_0 | exact bAt_0 (by assumption) | rfl) (by rfl) (by first | exact mp_nB (by first | assumption | exact MP_rcS (by assumption) | exact MP_ar rfl (by assumption) | exact MP_sc rfl (by assumption)) | rfl) ?_
      refine V_icmp_geT rfl (nI_le (Nat.le_refl _) (by omega)) ?_
      refine V_return rfl rfl ?_
      exact ⟨rfl, rfl⟩
end mway2
