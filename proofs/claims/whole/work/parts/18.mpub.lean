/-! ===== what the calls that read answer ===== -/
def UNK : Int32 := -1000000001
def OUT : Int32 := -1000000002
def WRG : Int32 := -1000000003
def NOTv : Int32 := -1000000004
def FUL : Int32 := -1000000005
def toldV (p : Pg) (N : Nat → Int32) (tx un : Int32) : Nat → Int32
  | 0 => nI (nT p)
  | 1 => nI (nB p)
  | 2 => nI (nS p)
  | 3 => nI (nC p)
  | 4 => tx
  | 5 => N 0
  | 6 => N 1
  | 7 => (rch p N 0).2
  | 8 => (rch p N 0).1
  | 9 => (setF (nB p) fun b => bt (N 0) (bT p b)) &&& ((rch p N 0).1 ^^^ (-1))
  | 10 => (rch p N (N 0 &&& setF (nT p) fun x => isC p x)).1
  | 11 => setF (nC p) fun c => !decide (N (2 + c) < 0)
  | 12 => N 43
  | 13 => N 44
  | 14 => N 42
  | _ => un
def A_told (p : Pg) (N : Nat → Int32) (tx un w : Int32) : Int32 := if inN w 16 then toldV p N tx un w.toNatClampNeg else OUT
def typeV (p : Pg) (N : Nat → Int32) (t : Nat) : Nat → Int32
  | 0 => b2 (isC p t)
  | 1 => abv p t
  | 2 => setF (nT p) fun x => bt (abv p x) t
  | 3 => dep p t
  | 4 => setF (nB p) fun b => bT p b == t
  | _ => hrt p N t
def A_type (p : Pg) (N : Nat → Int32) (t w : Int32) : Int32 := if inN t (nT p) then (if inN w 6 then typeV p N t.toNatClampNeg w.toNatClampNeg else OUT) else UNK
def A_above (p : Pg) (t : Int32) : Int32 := if inN t (nT p) then (if isC p t.toNatClampNeg then par p t.toNatClampNeg else WRG) else UNK
def A_users (p : Pg) (t : Int32) : Int32 := if inN t (nT p) then (if isC p t.toNatClampNeg then WRG else cnF 12 (bt ((setF (nT p) fun x => bt (abv p x) t.toNatClampNeg) &&& setF (nT p) fun x => isC p x))) else UNK
def cmU (p : Pg) (u : Nat) : Nat → Int32 → Int32
  | 0, x => x
  | k + 1, x => if x < 0 then x else if bt (abv p u) x.toNatClampNeg then x else cmU p u k (par p x.toNatClampNeg)
def A_common (p : Pg) (t u : Int32) : Int32 := if inN t (nT p) && inN u (nT p) && !decide (t = u) then (if isC p t.toNatClampNeg && isC p u.toNatClampNeg then cmU p u.toNatClampNeg 12 t else WRG) else UNK
def A_isBelow (p : Pg) (t u : Int32) : Int32 := if inN t (nT p) && inN u (nT p) && !decide (t = u) then b2 (bt (abv p t.toNatClampNeg) u.toNatClampNeg) else UNK
def mkrS (p : Pg) (t : Nat) : Int32 := orF (nS p) fun s => cnd (sK p s == 0 && sT p s == t) (bI (sB p s))
def A_makers (p : Pg) (t : Int32) : Int32 := if inN t (nT p) then (if isC p t.toNatClampNeg then mkrS p t.toNatClampNeg else WRG) else UNK
def A_found (p : Pg) (t m : Int32) : Int32 := if inN t (nT p) && inN m 6 then (if isC p t.toNatClampNeg then fnd p t.toNatClampNeg m.toNatClampNeg else WRG) else UNK
def bodyV (p : Pg) (N : Nat → Int32) (b : Nat) : Nat → Int32
  | 0 => nI (bT p b)
  | 1 => nI (bM p b)
  | 2 => cnF (nS p) fun s => sB p s == b
  | 3 => b2 (bt (rch p N 0).1 b)
  | 4 => b2 (rng p (rch p N 0).1 (rch p N 0).2 b)
  | 5 => ovr p b
  | _ => clB p (rch p N 0).1 (rch p N 0).2 b
def A_body (p : Pg) (N : Nat → Int32) (b w : Int32) : Int32 := if inN b (nB p) then (if inN w 7 then bodyV p N b.toNatClampNeg w.toNatClampNeg else OUT) else UNK
def A_callers (p : Pg) (N : Nat → Int32) (b : Int32) : Int32 := if inN b (nB p) then (setF (nB p) fun x => bt (clB p (rch p N 0).1 (rch p N 0).2 x) b.toNatClampNeg) else UNK
def callA (p : Pg) (N : Nat → Int32) (c : Nat) : Nat → Int32
  | 0 => nI (sB p (cS p c))
  | 1 => nI (sT p (cS p c))
  | 2 => nI (sM p (cS p c))
  | 3 => may p c (N 0)
  | 4 => dos p (rch p N 0).1 (rch p N 0).2 c
  | 5 => N (2 + c)
  | _ => brk p N c
def A_call (p : Pg) (N : Nat → Int32) (c w : Int32) : Int32 := if inN c (nC p) then (if inN w 7 then callA p N c.toNatClampNeg w.toNatClampNeg else OUT) else UNK
def A_holds (p : Pg) (N : Nat → Int32) (c : Int32) : Int32 := if inN c (nC p) then (if N (2 + c.toNatClampNeg) < 0 then NOTv else b2 (decide (dos p (rch p N 0).1 (rch p N 0).2 c.toNatClampNeg &&& (((1 : Int32) <<< (N (2 + c.toNatClampNeg) &&& 31)) ^^^ (-1)) = 0))) else UNK
def A_way (p : Pg) (N : Nat → Int32) (b k : Int32) : Int32 := if inN b (nB p) then (if k < -1 then OUT else wayM p N b.toNatClampNeg k) else UNK
def jouV (v : Int32) : Nat → Int32
  | 0 => v / 100
  | 1 => v - v / 2 * 2
  | _ => (v - v / 100 * 100) / 2
def A_journal (N : Nat → Int32) (e : Nat) (i w : Int32) : Int32 := if inN w 3 then (if inN i e then jouV (N (26 + i.toNatClampNeg)) w.toNatClampNeg else -1) else OUT
theorem rcS_o {sc : Nat → Int32} {x : Int32 × Int32} {k : Nat} (hk : (Nat.beq k 34 || Nat.beq k 35) = false) : rcS sc x k = sc k := by
  rw [Bool.or_eq_false_iff] at hk
  have h1 : k ≠ 34 := fun e => by rw [e] at hk; exact absurd hk.1 (by decide)
  have h2 : k ≠ 35 := fun e => by rw [e] at hk; exact absurd hk.2 (by decide)
  unfold rcS
  rw [pk_un h2, pk_un h1]
theorem rcS_id (sc : Nat → Int32) : rcS sc (sc 34, sc 35) = sc := by
  unfold rcS
  rw [fa_upd_same (f := sc) rfl, fa_upd_same rfl]
/-- the end of a call that reads: the reference's reached, made may be others -/
def Pj (v : Int32) (h : mH) (md : Nat) (sc : Nat → Int32) (ar : Nat → Nat → Int32) : Option Value → mH → Prop := fun r h' => r = some (.int v) ∧ ∃ y, h' = blkW 7 h md (rcS sc y) ar
theorem Pj_ret {v v2 : Int32} {h h0 : mH} {md : Nat} {sc : Nat → Int32} {ar : Nat → Nat → Int32} {y : Int32 × Int32} (e : v = v2) (e2 : h0 = blkW 7 h md (rcS sc y) ar) : Pj v2 h md sc ar (some (.int v)) h0 := ⟨by rw [e], y, e2⟩
theorem Pj_ret0 {v v2 : Int32} {h : mH} {md : Nat} {sc : Nat → Int32} {ar : Nat → Nat → Int32} (e : v = v2) : Pj v2 h md sc ar (some (.int v)) (blkW 7 h md sc ar) := ⟨by rw [e], (sc 34, sc 35), by rw [rcS_id]⟩
theorem inN_sw {x : Int32} {n : Nat} (h : inN x n = false) (hn : n < 2 ^ 31) : x.toInt < 0 ∨ (n : Int) - 1 < x.toInt := by
  have h1 := of_decide_eq_false h
  rw [fa_le, fa_lt, nI_toInt hn] at h1
  have : (0 : Int32).toInt = 0 := rfl
  omega
section mpub
variable {g : mG} {h : mH} {sz u md : Nat} {p : Pg} {sc : Nat → Int32} {ar : Nat → Nat → Int32}
set_option maxRecDepth 20000 in
set_option maxHeartbeats 1000000 in
theorem w_told (hm : MP p sc ar) (w : Int32) : Mt g 8 m_MD_told [.ref md, .int w] (blkW 7 h md sc ar) sz u (Pj (A_told p (ar 15) (sc 17) (sc 36) w) h md sc ar) sz u := by
  obtain ⟨hT, hB, hS, hC⟩ := hm.1.1
  unfold A_told
  refine Mt.of m_MD_told_w m_MD_told_x m_MD_told_c rfl rfl (ls := [.ref md, .int w]) rfl ?_
  refine V_aload_n rfl rfl ?_
  refine V_callVn rfl rfl m_MD_reach_w m_MD_reach_x rfl (by decide) rfl (w_reach (by first | assumption | exact MP_rcS (by assumption) | exact MP_ar rfl (by assumption) | exact MP_sc rfl (by assumption))) (by decide) rfl (by first | assumption | exact blkW_0 | exact bAt_0 (by assumption) | rfl) (Nat.le_of_ble_eq_true rfl) ?_
  refine V_iload_n rfl rfl ?_
  cases hw : inN w 16
  · rw [if_neg (by decide)]
    refine V_tabOut (tg := 184) rfl (inN_sw hw (by decide)) (by decide) ?_
    refine V_ldc rfl rfl ?_
    refine V_ireturn rfl rfl (by first | rfl | exact b2_nar _ | assumption | decide) ?_
    first | exact Pj_ret0 rfl | exact Pj_ret rfl rfl | exact Pj_ret rfl (by rw [rcS_rcS])
  · obtain ⟨j, hj, rfl⟩ := inN_t (by decide) hw
    rw [if_pos rfl, nI_clamp (by omega)]
    rcases (show j = 0 ∨ j = 1 ∨ j = 2 ∨ j = 3 ∨ j = 4 ∨ j = 5 ∨ j = 6 ∨ j = 7 ∨ j = 8 ∨ j = 9 ∨ j = 10 ∨ j = 11 ∨ j = 12 ∨ j = 13 ∨ j = 14 ∨ j = 15 by omega) with rfl | rfl | rfl | rfl | rfl | rfl | rfl | rfl | rfl | rfl | rfl | rfl | rfl | rfl | rfl | rfl
    · refine V_tabIn (off := 79) (tg := 84) rfl (by decide) (by decide) (by decide) (by decide) ?_
      refine V_aload_n rfl rfl ?_
      refine V_getI rfl rfl (by first | assumption | exact blkW_0 | exact bAt_0 (by assumption) | rfl) (by rfl) (by first | exact mp_nT (by first | assumption | exact MP_rcS (by assumption) | exact MP_ar rfl (by assumption) | exact MP_sc rfl (by assumption)) | rfl) ?_
      refine V_ireturn rfl rfl (by first | rfl | exact b2_nar _ | assumption | decide) ?_
      first | exact Pj_ret0 rfl | exact Pj_ret rfl rfl | exact Pj_ret rfl (by rw [rcS_rcS])
    · refine V_tabIn (off := 84) (tg := 89) rfl (by decide) (by decide) (by decide) (by decide) ?_
      refine V_aload_n rfl rfl ?_
      refine V_getI rfl rfl (by first | assumption | exact blkW_0 | exact bAt_0 (by assumption) | rfl) (by rfl) (by first | exact mp_nB (by first | assumption | exact MP_rcS (by assumption) | exact MP_ar rfl (by assumption) | exact MP_sc rfl (by assumption)) | rfl) ?_
      refine V_ireturn rfl rfl (by first | rfl | exact b2_nar _ | assumption | decide) ?_
      first | exact Pj_ret0 rfl | exact Pj_ret rfl rfl | exact Pj_ret rfl (by rw [rcS_rcS])
    · refine V_tabIn (off := 89) (tg := 94) rfl (by decide) (by decide) (by decide) (by decide) ?_
      refine V_aload_n rfl rfl ?_
      refine V_getI rfl rfl (by first | assumption | exact blkW_0 | exact bAt_0 (by assumption) | rfl) (by rfl) (by first | exact mp_nS (by first | assumption | exact MP_rcS (by assumption) | exact MP_ar rfl (by assumption) | exact MP_sc rfl (by assumption)) | rfl) ?_
      refine V_ireturn rfl rfl (by first | rfl | exact b2_nar _ | assumption | decide) ?_
      first | exact Pj_ret0 rfl | exact Pj_ret rfl rfl | exact Pj_ret rfl (by rw [rcS_rcS])
    · refine V_tabIn (off := 94) (tg := 99) rfl (by decide) (by decide) (by decide) (by decide) ?_
      refine V_aload_n rfl rfl ?_
      refine V_getI rfl rfl (by first | assumption | exact blkW_0 | exact bAt_0 (by assumption) | rfl) (by rfl) (by first | exact mp_nC (by first | assumption | exact MP_rcS (by assumption) | exact MP_ar rfl (by assumption) | exact MP_sc rfl (by assumption)) | rfl) ?_
      refine V_ireturn rfl rfl (by first | rfl | exact b2_nar _ | assumption | decide) ?_
      first | exact Pj_ret0 rfl | exact Pj_ret rfl rfl | exact Pj_ret rfl (by rw [rcS_rcS])
    · refine V_tabIn (off := 99) (tg := 104) rfl (by decide) (by decide) (by decide) (by decide) ?_
      refine V_aload_n rfl rfl ?_
      refine V_getI rfl rfl (by first | assumption | exact blkW_0 | exact bAt_0 (by assumption) | rfl) (by rfl) (by first | exact rcS_o rfl | rfl) ?_
      refine V_ireturn rfl rfl (by first | rfl | exact b2_nar _ | assumption | decide) ?_
      first | exact Pj_ret0 rfl | exact Pj_ret rfl rfl | exact Pj_ret rfl (by rw [rcS_rcS])
    · refine V_tabIn (off := 104) (tg := 109) rfl (by decide) (by decide) (by decide) (by decide) ?_
      refine V_aload_n rfl rfl ?_
      refine V_getfield rfl rfl (by first | assumption | exact blkW_0 | exact bAt_0 (by assumption) | rfl) (by rfl) ?_
      refine V_iconst (v := 0) rfl (by decide) ?_
      refine V_iald rfl (by first | assumption | exact blkW_i rfl rfl | exact blkW_z rfl rfl | exact bAt_i (by assumption) rfl rfl | exact bAt_z (by assumption) rfl rfl | rfl) (by first | with_reducible rfl | exact nI_add 2 _ | exact nI_add 26 _ | exact fa_lit _ | assumption) (by first | omega | assumption | decide) (by first | decide | omega | assumption) (by first | exact mp_isC (by first | assumption | exact MP_rcS (by assumption) | exact MP_ar rfl (by assumption) | exact MP_sc rfl (by assumption)) (by first | omega | assumption) | exact mp_par (by first | assumption | exact MP_rcS (by assumption) | exact MP_ar rfl (by assumption) | exact MP_sc rfl (by assumption)) (by first | omega | assumption) | exact mp_abv (by first | assumption | exact MP_rcS (by assumption) | exact MP_ar rfl (by assumption) | exact MP_sc rfl (by assumption)) (by first | omega | assumption) | exact mp_dep (by first | assumption | exact MP_rcS (by assumption) | exact MP_ar rfl (by assumption) | exact MP_sc rfl (by assumption)) (by first | omega | assumption) | exact mp_bT (by first | assumption | exact MP_rcS (by assumption) | exact MP_ar rfl (by assumption) | exact MP_sc rfl (by assumption)) (by first | omega | assumption) | exact mp_bM (by first | assumption | exact MP_rcS (by assumption) | exact MP_ar rfl (by assumption) | exact MP_sc rfl (by assumption)) (by first | omega | assumption) | exact mp_sK (by first | assumption | exact MP_rcS (by assumption) | exact MP_ar rfl (by assumption) | exact MP_sc rfl (by assumption)) (by first | omega | assumption) | exact mp_sB (by first | assumption | exact MP_rcS (by assumption) | exact MP_ar rfl (by assumption) | exact MP_sc rfl (by assumption)) (by first | omega | assumption) | exact mp_sT (by first | assumption | exact MP_rcS (by assumption) | exact MP_ar rfl (by assumption) | exact MP_sc rfl (by assumption)) (by first | omega | assumption) | exact mp_sM (by first | assumption | exact MP_rcS (by assumption) | exact MP_ar rfl (by assumption) | exact MP_sc rfl (by assumption)) (by first | omega | assumption) | exact mp_cS (by first | assumption | exact MP_rcS (by assumption) | exact MP_ar rfl (by assumption) | exact MP_sc rfl (by assumption)) (by first | omega | assumption) | exact va_g | exact va_n (by decide) | rfl) ?_
      refine V_ireturn rfl rfl (by first | rfl | exact b2_nar _ | assumption | decide) ?_
      first | exact Pj_ret0 rfl | exact Pj_ret rfl rfl | exact Pj_ret rfl (by rw [rcS_rcS])
    · refine V_tabIn (off := 111) (tg := 116) rfl (by decide) (by decide) (by decide) (by decide) ?_
      refine V_aload_n rfl rfl ?_
      refine V_getfield rfl rfl (by first | assumption | exact blkW_0 | exact bAt_0 (by assumption) | rfl) (by rfl) ?_
      refine V_iconst (v := 1) rfl (by decide) ?_
      refine V_iald rfl (by first | assumption | exact blkW_i rfl rfl | exact blkW_z rfl rfl | exact bAt_i (by assumption) rfl rfl | exact bAt_z (by assumption) rfl rfl | rfl) (by first | with_reducible rfl | exact nI_add 2 _ | exact nI_add 26 _ | exact fa_lit _ | assumption) (by first | omega | assumption | decide) (by first | decide | omega | assumption) (by first | exact mp_isC (by first | assumption | exact MP_rcS (by assumption) | exact MP_ar rfl (by assumption) | exact MP_sc rfl (by assumption)) (by first | omega | assumption) | exact mp_par (by first | assumption | exact MP_rcS (by assumption) | exact MP_ar rfl (by assumption) | exact MP_sc rfl (by assumption)) (by first | omega | assumption) | exact mp_abv (by first | assumption | exact MP_rcS (by assumption) | exact MP_ar rfl (by assumption) | exact MP_sc rfl (by assumption)) (by first | omega | assumption) | exact mp_dep (by first | assumption | exact MP_rcS (by assumption) | exact MP_ar rfl (by assumption) | exact MP_sc rfl (by assumption)) (by first | omega | assumption) | exact mp_bT (by first | assumption | exact MP_rcS (by assumption) | exact MP_ar rfl (by assumption) | exact MP_sc rfl (by assumption)) (by first | omega | assumption) | exact mp_bM (by first | assumption | exact MP_rcS (by assumption) | exact MP_ar rfl (by assumption) | exact MP_sc rfl (by assumption)) (by first | omega | assumption) | exact mp_sK (by first | assumption | exact MP_rcS (by assumption) | exact MP_ar rfl (by assumption) | exact MP_sc rfl (by assumption)) (by first | omega | assumption) | exact mp_sB (by first | assumption | exact MP_rcS (by assumption) | exact MP_ar rfl (by assumption) | exact MP_sc rfl (by assumption)) (by first | omega | assumption) | exact mp_sT (by first | assumption | exact MP_rcS (by assumption) | exact MP_ar rfl (by assumption) | exact MP_sc rfl (by assumption)) (by first | omega | assumption) | exact mp_sM (by first | assumption | exact MP_rcS (by assumption) | exact MP_ar rfl (by assumption) | exact MP_sc rfl (by assumption)) (by first | omega | assumption) | exact mp_cS (by first | assumption | exact MP_rcS (by assumption) | exact MP_ar rfl (by assumption) | exact MP_sc rfl (by assumption)) (by first | omega | assumption) | exact va_g | exact va_n (by decide) | rfl) ?_
      refine V_ireturn rfl rfl (by first | rfl | exact b2_nar _ | assumption | decide) ?_
      first | exact Pj_ret0 rfl | exact Pj_ret rfl rfl | exact Pj_ret rfl (by rw [rcS_rcS])
    · refine V_tabIn (off := 118) (tg := 123) rfl (by decide) (by decide) (by decide) (by decide) ?_
      refine V_aload_n rfl rfl ?_
      refine V_getI rfl rfl (by first | assumption | exact blkW_0 | exact bAt_0 (by assumption) | rfl) (by rfl) (by first | exact rcS_g35 | rfl) ?_
      refine V_ireturn rfl rfl (by first | rfl | exact b2_nar _ | assumption | decide) ?_
      first | exact Pj_ret0 rfl | exact Pj_ret rfl rfl | exact Pj_ret rfl (by rw [rcS_rcS])
    · refine V_tabIn (off := 123) (tg := 128) rfl (by decide) (by decide) (by decide) (by decide) ?_
      refine V_aload_n rfl rfl ?_
      refine V_getI rfl rfl (by first | assumption | exact blkW_0 | exact bAt_0 (by assumption) | rfl) (by rfl) (by first | exact rcS_g34 | rfl) ?_
      refine V_ireturn rfl rfl (by first | rfl | exact b2_nar _ | assumption | decide) ?_
      first | exact Pj_ret0 rfl | exact Pj_ret rfl rfl | exact Pj_ret rfl (by rw [rcS_rcS])
    · refine V_tabIn (off := 128) (tg := 133) rfl (by decide) (by decide) (by decide) (by decide) ?_
      refine V_aload_n rfl rfl ?_
      refine V_callVi rfl rfl m_MD_loadedBodies_w m_MD_loadedBodies_x rfl (by decide) rfl (s_mlb (by first | assumption | exact blkW_at) (by first | assumption | exact MP_rcS (by assumption) | exact MP_ar rfl (by assumption) | exact MP_sc rfl (by assumption))) (by decide) rfl (by first | assumption | exact blkW_0 | exact bAt_0 (by assumption) | rfl) (Nat.le_of_ble_eq_true rfl) ?_
      refine V_aload_n rfl rfl ?_
      refine V_getI rfl rfl (by first | assumption | exact blkW_0 | exact bAt_0 (by assumption) | rfl) (by rfl) (by first | exact rcS_g34 | rfl) ?_
      refine V_iconst (v := (-1)) rfl (by decide) ?_
      refine V_ixor rfl ?_
      refine V_iand rfl ?_
      refine V_ireturn rfl rfl (by first | rfl | exact b2_nar _ | assumption | decide) ?_
      first | exact Pj_ret0 rfl | exact Pj_ret rfl rfl | exact Pj_ret rfl (by rw [rcS_rcS])
    · refine V_tabIn (off := 140) (tg := 145) rfl (by decide) (by decide) (by decide) (by decide) ?_
      refine V_aload_n rfl rfl ?_
      refine V_callVi rfl rfl m_MD_could_w m_MD_could_x rfl (by decide) rfl (w_could (by first | assumption | exact MP_rcS (by assumption) | exact MP_ar rfl (by assumption) | exact MP_sc rfl (by assumption))) (by decide) rfl (by first | assumption | exact blkW_0 | exact bAt_0 (by assumption) | rfl) (Nat.le_of_ble_eq_true rfl) ?_
      refine V_ireturn rfl rfl (by first | rfl | exact b2_nar _ | assumption | decide) ?_
      first | exact Pj_ret0 rfl | exact Pj_ret rfl rfl | exact Pj_ret rfl (by rw [rcS_rcS])
    · refine V_tabIn (off := 145) (tg := 150) rfl (by decide) (by decide) (by decide) (by decide) ?_
      refine V_aload_n rfl rfl ?_
      refine V_callVi rfl rfl m_MD_boundOnes_w m_MD_boundOnes_x rfl (by decide) rfl (s_bo (by first | assumption | exact blkW_at) (by first | assumption | exact MP_rcS (by assumption) | exact MP_ar rfl (by assumption) | exact MP_sc rfl (by assumption))) (by decide) rfl (by first | assumption | exact blkW_0 | exact bAt_0 (by assumption) | rfl) (Nat.le_of_ble_eq_true rfl) ?_
      refine V_ireturn rfl rfl (by first | rfl | exact b2_nar _ | assumption | decide) ?_
      first | exact Pj_ret0 rfl | exact Pj_ret rfl rfl | exact Pj_ret rfl (by rw [rcS_rcS])
    · refine V_tabIn (off := 150) (tg := 155) rfl (by decide) (by decide) (by decide) (by decide) ?_
      refine V_aload_n rfl rfl ?_
      refine V_getfield rfl rfl (by first | assumption | exact blkW_0 | exact bAt_0 (by assumption) | rfl) (by rfl) ?_
      refine V_bipush (v := 43) rfl (by decide) ?_
      refine V_iald rfl (by first | assumption | exact blkW_i rfl rfl | exact blkW_z rfl rfl | exact bAt_i (by assumption) rfl rfl | exact bAt_z (by assumption) rfl rfl | rfl) (by first | with_reducible rfl | exact nI_add 2 _ | exact nI_add 26 _ | exact fa_lit _ | assumption) (by first | omega | assumption | decide) (by first | decide | omega | assumption) (by first | exact mp_isC (by first | assumption | exact MP_rcS (by assumption) | exact MP_ar rfl (by assumption) | exact MP_sc rfl (by assumption)) (by first | omega | assumption) | exact mp_par (by first | assumption | exact MP_rcS (by assumption) | exact MP_ar rfl (by assumption) | exact MP_sc rfl (by assumption)) (by first | omega | assumption) | exact mp_abv (by first | assumption | exact MP_rcS (by assumption) | exact MP_ar rfl (by assumption) | exact MP_sc rfl (by assumption)) (by first | omega | assumption) | exact mp_dep (by first | assumption | exact MP_rcS (by assumption) | exact MP_ar rfl (by assumption) | exact MP_sc rfl (by assumption)) (by first | omega | assumption) | exact mp_bT (by first | assumption | exact MP_rcS (by assumption) | exact MP_ar rfl (by assumption) | exact MP_sc rfl (by assumption)) (by first | omega | assumption) | exact mp_bM (by first | assumption | exact MP_rcS (by assumption) | exact MP_ar rfl (by assumption) | exact MP_sc rfl (by assumption)) (by first | omega | assumption) | exact mp_sK (by first | assumption | exact MP_rcS (by assumption) | exact MP_ar rfl (by assumption) | exact MP_sc rfl (by assumption)) (by first | omega | assumption) | exact mp_sB (by first | assumption | exact MP_rcS (by assumption) | exact MP_ar rfl (by assumption) | exact MP_sc rfl (by assumption)) (by first | omega | assumption) | exact mp_sT (by first | assumption | exact MP_rcS (by assumption) | exact MP_ar rfl (by assumption) | exact MP_sc rfl (by assumption)) (by first | omega | assumption) | exact mp_sM (by first | assumption | exact MP_rcS (by assumption) | exact MP_ar rfl (by assumption) | exact MP_sc rfl (by assumption)) (by first | omega | assumption) | exact mp_cS (by first | assumption | exact MP_rcS (by assumption) | exact MP_ar rfl (by assumption) | exact MP_sc rfl (by assumption)) (by first | omega | assumption) | exact va_g | exact va_n (by decide) | rfl) ?_
      refine V_ireturn rfl rfl (by first | rfl | exact b2_nar _ | assumption | decide) ?_
      first | exact Pj_ret0 rfl | exact Pj_ret rfl rfl | exact Pj_ret rfl (by rw [rcS_rcS])
    · refine V_tabIn (off := 158) (tg := 163) rfl (by decide) (by decide) (by decide) (by decide) ?_
      refine V_aload_n rfl rfl ?_
      refine V_getfield rfl rfl (by first | assumption | exact blkW_0 | exact bAt_0 (by assumption) | rfl) (by rfl) ?_
      refine V_bipush (v := 44) rfl (by decide) ?_
      refine V_iald rfl (by first | assumption | exact blkW_i rfl rfl | exact blkW_z rfl rfl | exact bAt_i (by assumption) rfl rfl | exact bAt_z (by assumption) rfl rfl | rfl) (by first | with_reducible rfl | exact nI_add 2 _ | exact nI_add 26 _ | exact fa_lit _ | assumption) (by first | omega | assumption | decide) (by first | decide | omega | assumption) (by first | exact mp_isC (by first | assumption | exact MP_rcS (by assumption) | exact MP_ar rfl (by assumption) | exact MP_sc rfl (by assumption)) (by first | omega | assumption) | exact mp_par (by first | assumption | exact MP_rcS (by assumption) | exact MP_ar rfl (by assumption) | exact MP_sc rfl (by assumption)) (by first | omega | assumption) | exact mp_abv (by first | assumption | exact MP_rcS (by assumption) | exact MP_ar rfl (by assumption) | exact MP_sc rfl (by assumption)) (by first | omega | assumption) | exact mp_dep (by first | assumption | exact MP_rcS (by assumption) | exact MP_ar rfl (by assumption) | exact MP_sc rfl (by assumption)) (by first | omega | assumption) | exact mp_bT (by first | assumption | exact MP_rcS (by assumption) | exact MP_ar rfl (by assumption) | exact MP_sc rfl (by assumption)) (by first | omega | assumption) | exact mp_bM (by first | assumption | exact MP_rcS (by assumption) | exact MP_ar rfl (by assumption) | exact MP_sc rfl (by assumption)) (by first | omega | assumption) | exact mp_sK (by first | assumption | exact MP_rcS (by assumption) | exact MP_ar rfl (by assumption) | exact MP_sc rfl (by assumption)) (by first | omega | assumption) | exact mp_sB (by first | assumption | exact MP_rcS (by assumption) | exact MP_ar rfl (by assumption) | exact MP_sc rfl (by assumption)) (by first | omega | assumption) | exact mp_sT (by first | assumption | exact MP_rcS (by assumption) | exact MP_ar rfl (by assumption) | exact MP_sc rfl (by assumption)) (by first | omega | assumption) | exact mp_sM (by first | assumption | exact MP_rcS (by assumption) | exact MP_ar rfl (by assumption) | exact MP_sc rfl (by assumption)) (by first | omega | assumption) | exact mp_cS (by first | assumption | exact MP_rcS (by assumption) | exact MP_ar rfl (by assumption) | exact MP_sc rfl (by assumption)) (by first | omega | assumption) | exact va_g | exact va_n (by decide) | rfl) ?_
      refine V_ireturn rfl rfl (by first | rfl | exact b2_nar _ | assumption | decide) ?_
      first | exact Pj_ret0 rfl | exact Pj_ret rfl rfl | exact Pj_ret rfl (by rw [rcS_rcS])
    · refine V_tabIn (off := 166) (tg := 171) rfl (by decide) (by decide) (by decide) (by decide) ?_
      refine V_aload_n rfl rfl ?_
      refine V_getfield rfl rfl (by first | assumption | exact blkW_0 | exact bAt_0 (by assumption) | rfl) (by rfl) ?_
      refine V_bipush (v := 42) rfl (by decide) ?_
      refine V_iald rfl (by first | assumption | exact blkW_i rfl rfl | exact blkW_z rfl rfl | exact bAt_i (by assumption) rfl rfl | exact bAt_z (by assumption) rfl rfl | rfl) (by first | with_reducible rfl | exact nI_add 2 _ | exact nI_add 26 _ | exact fa_lit _ | assumption) (by first | omega | assumption | decide) (by first | decide | omega | assumption) (by first | exact mp_isC (by first | assumption | exact MP_rcS (by assumption) | exact MP_ar rfl (by assumption) | exact MP_sc rfl (by assumption)) (by first | omega | assumption) | exact mp_par (by first | assumption | exact MP_rcS (by assumption) | exact MP_ar rfl (by assumption) | exact MP_sc rfl (by assumption)) (by first | omega | assumption) | exact mp_abv (by first | assumption | exact MP_rcS (by assumption) | exact MP_ar rfl (by assumption) | exact MP_sc rfl (by assumption)) (by first | omega | assumption) | exact mp_dep (by first | assumption | exact MP_rcS (by assumption) | exact MP_ar rfl (by assumption) | exact MP_sc rfl (by assumption)) (by first | omega | assumption) | exact mp_bT (by first | assumption | exact MP_rcS (by assumption) | exact MP_ar rfl (by assumption) | exact MP_sc rfl (by assumption)) (by first | omega | assumption) | exact mp_bM (by first | assumption | exact MP_rcS (by assumption) | exact MP_ar rfl (by assumption) | exact MP_sc rfl (by assumption)) (by first | omega | assumption) | exact mp_sK (by first | assumption | exact MP_rcS (by assumption) | exact MP_ar rfl (by assumption) | exact MP_sc rfl (by assumption)) (by first | omega | assumption) | exact mp_sB (by first | assumption | exact MP_rcS (by assumption) | exact MP_ar rfl (by assumption) | exact MP_sc rfl (by assumption)) (by first | omega | assumption) | exact mp_sT (by first | assumption | exact MP_rcS (by assumption) | exact MP_ar rfl (by assumption) | exact MP_sc rfl (by assumption)) (by first | omega | assumption) | exact mp_sM (by first | assumption | exact MP_rcS (by assumption) | exact MP_ar rfl (by assumption) | exact MP_sc rfl (by assumption)) (by first | omega | assumption) | exact mp_cS (by first | assumption | exact MP_rcS (by assumption) | exact MP_ar rfl (by assumption) | exact MP_sc rfl (by assumption)) (by first | omega | assumption) | exact va_g | exact va_n (by decide) | rfl) ?_
      refine V_ireturn rfl rfl (by first | rfl | exact b2_nar _ | assumption | decide) ?_
      first | exact Pj_ret0 rfl | exact Pj_ret rfl rfl | exact Pj_ret rfl (by rw [rcS_rcS])
    · refine V_tabIn (off := 174) (tg := 179) rfl (by decide) (by decide) (by decide) (by decide) ?_
      refine V_aload_n rfl rfl ?_
      refine V_getI rfl rfl (by first | assumption | exact blkW_0 | exact bAt_0 (by assumption) | rfl) (by rfl) (by first | exact rcS_o rfl | rfl) ?_
      refine V_ireturn rfl rfl (by first | rfl | exact b2_nar _ | assumption | decide) ?_
      first | exact Pj_ret0 rfl | exact Pj_ret rfl rfl | exact Pj_ret rfl (by rw [rcS_rcS])
set_option maxRecDepth 20000 in
set_option maxHeartbeats 1000000 in
theorem w_type (hm : MP p sc ar) (t w : Int32) : Mt g 8 m_MD_type [.ref md, .int t, .int w] (blkW 7 h md sc ar) sz u (Pj (A_type p (ar 15) t w) h md sc ar) sz u := by
  obtain ⟨hT, hB, hS, hC⟩ := hm.1.1
  unfold A_type
  refine Mt.of m_MD_type_w m_MD_type_x m_MD_type_c rfl rfl (ls := [.ref md, .int t, .int w]) rfl ?_
  refine V_aload_n rfl rfl ?_
  refine V_iload_n rfl rfl ?_
  refine V_callVi rfl rfl m_MD_isType_w m_MD_isType_x rfl (by decide) rfl (s_mIsT (by first | assumption | exact blkW_at) (by first | assumption | exact MP_rcS (by assumption) | exact MP_ar rfl (by assumption) | exact MP_sc rfl (by assumption)) _) (by decide) rfl (by first | assumption | exact blkW_0 | exact bAt_0 (by assumption) | rfl) (Nat.le_of_ble_eq_true rfl) ?_
  cases ho : inN t (nT p)
  · rw [if_neg (by decide)]
    refine V_if_neF rfl (rfl) ?_
    refine V_ldc rfl rfl ?_
    refine V_ireturn rfl rfl (by first | rfl | exact b2_nar _ | assumption | decide) ?_
    first | exact Pj_ret0 rfl | exact Pj_ret rfl rfl
  · rw [if_pos rfl]
    refine V_if_neT rfl (by decide) ?_
    obtain ⟨t, ht, rfl⟩ := inN_t (by omega) ho
    rw [nI_clamp (by omega)]
    refine V_iload_n rfl rfl ?_
    cases hw : inN w 6
    · rw [if_neg (by decide)]
      refine V_tabOut (tg := 99) rfl (inN_sw hw (by decide)) (by decide) ?_
      refine V_ldc rfl rfl ?_
      refine V_ireturn rfl rfl (by first | rfl | exact b2_nar _ | assumption | decide) ?_
      first | exact Pj_ret0 rfl | exact Pj_ret rfl rfl | exact Pj_ret0 (by simp [typeV, b2, *])
    · obtain ⟨j, hj, rfl⟩ := inN_t (by decide) hw
      rw [if_pos rfl, nI_clamp (by omega)]
      rcases (show j = 0 ∨ j = 1 ∨ j = 2 ∨ j = 3 ∨ j = 4 ∨ j = 5 by omega) with rfl | rfl | rfl | rfl | rfl | rfl
      · refine V_tabIn (off := 40) (tg := 52) rfl (by decide) (by decide) (by decide) (by decide) ?_
        refine V_aload_n rfl rfl ?_
        refine V_getfield rfl rfl (by first | assumption | exact blkW_0 | exact bAt_0 (by assumption) | rfl) (by rfl) ?_
        refine V_iload_n rfl rfl ?_
        refine V_bald rfl (by first | assumption | exact blkW_i rfl rfl | exact blkW_z rfl rfl | exact bAt_i (by assumption) rfl rfl | exact bAt_z (by assumption) rfl rfl | rfl) (by first | with_reducible rfl | exact nI_add 2 _ | exact nI_add 26 _ | exact fa_lit _ | assumption) (by first | omega | assumption | decide) (by first | decide | omega | assumption) (by first | exact mp_isC (by first | assumption | exact MP_rcS (by assumption) | exact MP_ar rfl (by assumption) | exact MP_sc rfl (by assumption)) (by first | omega | assumption) | exact mp_par (by first | assumption | exact MP_rcS (by assumption) | exact MP_ar rfl (by assumption) | exact MP_sc rfl (by assumption)) (by first | omega | assumption) | exact mp_abv (by first | assumption | exact MP_rcS (by assumption) | exact MP_ar rfl (by assumption) | exact MP_sc rfl (by assumption)) (by first | omega | assumption) | exact mp_dep (by first | assumption | exact MP_rcS (by assumption) | exact MP_ar rfl (by assumption) | exact MP_sc rfl (by assumption)) (by first | omega | assumption) | exact mp_bT (by first | assumption | exact MP_rcS (by assumption) | exact MP_ar rfl (by assumption) | exact MP_sc rfl (by assumption)) (by first | omega | assumption) | exact mp_bM (by first | assumption | exact MP_rcS (by assumption) | exact MP_ar rfl (by assumption) | exact MP_sc rfl (by assumption)) (by first | omega | assumption) | exact mp_sK (by first | assumption | exact MP_rcS (by assumption) | exact MP_ar rfl (by assumption) | exact MP_sc rfl (by assumption)) (by first | omega | assumption) | exact mp_sB (by first | assumption | exact MP_rcS (by assumption) | exact MP_ar rfl (by assumption) | exact MP_sc rfl (by assumption)) (by first | omega | assumption) | exact mp_sT (by first | assumption | exact MP_rcS (by assumption) | exact MP_ar rfl (by assumption) | exact MP_sc rfl (by assumption)) (by first | omega | assumption) | exact mp_sM (by first | assumption | exact MP_rcS (by assumption) | exact MP_ar rfl (by assumption) | exact MP_sc rfl (by assumption)) (by first | omega | assumption) | exact mp_cS (by first | assumption | exact MP_rcS (by assumption) | exact MP_ar rfl (by assumption) | exact MP_sc rfl (by assumption)) (by first | omega | assumption) | exact va_g | exact va_n (by decide) | rfl) ?_
        first | refine V_ifb_eq rfl (fun h58 => ?_) (fun h58 => ?_) | refine V_if_eq rfl (fun h58 => ?_) (fun h58 => ?_)
        · refine V_iconst (v := 0) rfl (by decide) ?_
          refine V_ireturn rfl rfl (by first | rfl | exact b2_nar _ | assumption | decide) ?_
          first | exact Pj_ret0 rfl | exact Pj_ret rfl rfl | exact Pj_ret0 (by simp [typeV, b2, *])
        · refine V_iconst (v := 1) rfl (by decide) ?_
          refine V_goto rfl ?_
          refine V_ireturn rfl rfl (by first | rfl | exact b2_nar _ | assumption | decide) ?_
          first | exact Pj_ret0 rfl | exact Pj_ret rfl rfl | exact Pj_ret0 (by simp [typeV, b2, *])
      · refine V_tabIn (off := 55) (tg := 67) rfl (by decide) (by decide) (by decide) (by decide) ?_
        refine V_aload_n rfl rfl ?_
        refine V_getfield rfl rfl (by first | assumption | exact blkW_0 | exact bAt_0 (by assumption) | rfl) (by rfl) ?_
        refine V_iload_n rfl rfl ?_
        refine V_iald rfl (by first | assumption | exact blkW_i rfl rfl | exact blkW_z rfl rfl | exact bAt_i (by assumption) rfl rfl | exact bAt_z (by assumption) rfl rfl | rfl) (by first | with_reducible rfl | exact nI_add 2 _ | exact nI_add 26 _ | exact fa_lit _ | assumption) (by first | omega | assumption | decide) (by first | decide | omega | assumption) (by first | exact mp_isC (by first | assumption | exact MP_rcS (by assumption) | exact MP_ar rfl (by assumption) | exact MP_sc rfl (by assumption)) (by first | omega | assumption) | exact mp_par (by first | assumption | exact MP_rcS (by assumption) | exact MP_ar rfl (by assumption) | exact MP_sc rfl (by assumption)) (by first | omega | assumption) | exact mp_abv (by first | assumption | exact MP_rcS (by assumption) | exact MP_ar rfl (by assumption) | exact MP_sc rfl (by assumption)) (by first | omega | assumption) | exact mp_dep (by first | assumption | exact MP_rcS (by assumption) | exact MP_ar rfl (by assumption) | exact MP_sc rfl (by assumption)) (by first | omega | assumption) | exact mp_bT (by first | assumption | exact MP_rcS (by assumption) | exact MP_ar rfl (by assumption) | exact MP_sc rfl (by assumption)) (by first | omega | assumption) | exact mp_bM (by first | assumption | exact MP_rcS (by assumption) | exact MP_ar rfl (by assumption) | exact MP_sc rfl (by assumption)) (by first | omega | assumption) | exact mp_sK (by first | assumption | exact MP_rcS (by assumption) | exact MP_ar rfl (by assumption) | exact MP_sc rfl (by assumption)) (by first | omega | assumption) | exact mp_sB (by first | assumption | exact MP_rcS (by assumption) | exact MP_ar rfl (by assumption) | exact MP_sc rfl (by assumption)) (by first | omega | assumption) | exact mp_sT (by first | assumption | exact MP_rcS (by assumption) | exact MP_ar rfl (by assumption) | exact MP_sc rfl (by assumption)) (by first | omega | assumption) | exact mp_sM (by first | assumption | exact MP_rcS (by assumption) | exact MP_ar rfl (by assumption) | exact MP_sc rfl (by assumption)) (by first | omega | assumption) | exact mp_cS (by first | assumption | exact MP_rcS (by assumption) | exact MP_ar rfl (by assumption) | exact MP_sc rfl (by assumption)) (by first | omega | assumption) | exact va_g | exact va_n (by decide) | rfl) ?_
        refine V_ireturn rfl rfl (by first | rfl | exact b2_nar _ | assumption | decide) ?_
        first | exact Pj_ret0 rfl | exact Pj_ret rfl rfl | exact Pj_ret0 (by simp [typeV, b2, *])
      · refine V_tabIn (off := 62) (tg := 74) rfl (by decide) (by decide) (by decide) (by decide) ?_
        refine V_aload_n rfl rfl ?_
        refine V_iload_n rfl rfl ?_
        refine V_callVi rfl rfl m_MD_belowOf_w m_MD_belowOf_x rfl (by decide) rfl (s_mbelow (by first | assumption | exact blkW_at) (by first | assumption | exact MP_rcS (by assumption) | exact MP_ar rfl (by assumption) | exact MP_sc rfl (by assumption)) _ (by first | omega | assumption)) (by decide) rfl (by first | assumption | exact blkW_0 | exact bAt_0 (by assumption) | rfl) (Nat.le_of_ble_eq_true rfl) ?_
        refine V_ireturn rfl rfl (by first | rfl | exact b2_nar _ | assumption | decide) ?_
        first | exact Pj_ret0 rfl | exact Pj_ret rfl rfl | exact Pj_ret0 (by simp [typeV, b2, *])
      · refine V_tabIn (off := 68) (tg := 80) rfl (by decide) (by decide) (by decide) (by decide) ?_
        refine V_aload_n rfl rfl ?_
        refine V_getfield rfl rfl (by first | assumption | exact blkW_0 | exact bAt_0 (by assumption) | rfl) (by rfl) ?_
        refine V_iload_n rfl rfl ?_
        refine V_iald rfl (by first | assumption | exact blkW_i rfl rfl | exact blkW_z rfl rfl | exact bAt_i (by assumption) rfl rfl | exact bAt_z (by assumption) rfl rfl | rfl) (by first | with_reducible rfl | exact nI_add 2 _ | exact nI_add 26 _ | exact fa_lit _ | assumption) (by first | omega | assumption | decide) (by first | decide | omega | assumption) (by first | exact mp_isC (by first | assumption | exact MP_rcS (by assumption) | exact MP_ar rfl (by assumption) | exact MP_sc rfl (by assumption)) (by first | omega | assumption) | exact mp_par (by first | assumption | exact MP_rcS (by assumption) | exact MP_ar rfl (by assumption) | exact MP_sc rfl (by assumption)) (by first | omega | assumption) | exact mp_abv (by first | assumption | exact MP_rcS (by assumption) | exact MP_ar rfl (by assumption) | exact MP_sc rfl (by assumption)) (by first | omega | assumption) | exact mp_dep (by first | assumption | exact MP_rcS (by assumption) | exact MP_ar rfl (by assumption) | exact MP_sc rfl (by assumption)) (by first | omega | assumption) | exact mp_bT (by first | assumption | exact MP_rcS (by assumption) | exact MP_ar rfl (by assumption) | exact MP_sc rfl (by assumption)) (by first | omega | assumption) | exact mp_bM (by first | assumption | exact MP_rcS (by assumption) | exact MP_ar rfl (by assumption) | exact MP_sc rfl (by assumption)) (by first | omega | assumption) | exact mp_sK (by first | assumption | exact MP_rcS (by assumption) | exact MP_ar rfl (by assumption) | exact MP_sc rfl (by assumption)) (by first | omega | assumption) | exact mp_sB (by first | assumption | exact MP_rcS (by assumption) | exact MP_ar rfl (by assumption) | exact MP_sc rfl (by assumption)) (by first | omega | assumption) | exact mp_sT (by first | assumption | exact MP_rcS (by assumption) | exact MP_ar rfl (by assumption) | exact MP_sc rfl (by assumption)) (by first | omega | assumption) | exact mp_sM (by first | assumption | exact MP_rcS (by assumption) | exact MP_ar rfl (by assumption) | exact MP_sc rfl (by assumption)) (by first | omega | assumption) | exact mp_cS (by first | assumption | exact MP_rcS (by assumption) | exact MP_ar rfl (by assumption) | exact MP_sc rfl (by assumption)) (by first | omega | assumption) | exact va_g | exact va_n (by decide) | rfl) ?_
        refine V_ireturn rfl rfl (by first | rfl | exact b2_nar _ | assumption | decide) ?_
        first | exact Pj_ret0 rfl | exact Pj_ret rfl rfl | exact Pj_ret0 (by simp [typeV, b2, *])
      · refine V_tabIn (off := 75) (tg := 87) rfl (by decide) (by decide) (by decide) (by decide) ?_
        refine V_aload_n rfl rfl ?_
        refine V_iload_n rfl rfl ?_
        refine V_callVi rfl rfl m_MD_bodiesOf_w m_MD_bodiesOf_x rfl (by decide) rfl (s_mbo (by first | assumption | exact blkW_at) (by first | assumption | exact MP_rcS (by assumption) | exact MP_ar rfl (by assumption) | exact MP_sc rfl (by assumption)) _ (by first | omega | assumption)) (by decide) rfl (by first | assumption | exact blkW_0 | exact bAt_0 (by assumption) | rfl) (Nat.le_of_ble_eq_true rfl) ?_
        refine V_ireturn rfl rfl (by first | rfl | exact b2_nar _ | assumption | decide) ?_
        first | exact Pj_ret0 rfl | exact Pj_ret rfl rfl | exact Pj_ret0 (by simp [typeV, b2, *])
      · refine V_tabIn (off := 81) (tg := 93) rfl (by decide) (by decide) (by decide) (by decide) ?_
        refine V_aload_n rfl rfl ?_
        refine V_iload_n rfl rfl ?_
        refine V_callVi rfl rfl m_MD_hurts_w m_MD_hurts_x rfl (by decide) rfl (s_hrt (by first | assumption | exact blkW_at) (by first | assumption | exact MP_rcS (by assumption) | exact MP_ar rfl (by assumption) | exact MP_sc rfl (by assumption)) _ (by first | omega | assumption)) (by decide) rfl (by first | assumption | exact blkW_0 | exact bAt_0 (by assumption) | rfl) (Nat.le_of_ble_eq_true rfl) ?_
        refine V_ireturn rfl rfl (by first | rfl | exact b2_nar _ | assumption | decide) ?_
        first | exact Pj_ret0 rfl | exact Pj_ret rfl rfl | exact Pj_ret0 (by simp [typeV, b2, *])
set_option maxRecDepth 20000 in
set_option maxHeartbeats 1000000 in
theorem w_above (hm : MP p sc ar) (t : Int32) : Mt g 2 m_MD_above [.ref md, .int t] (blkW 7 h md sc ar) sz u (Pj (A_above p t) h md sc ar) sz u := by
  obtain ⟨hT, hB, hS, hC⟩ := hm.1.1
  unfold A_above
  refine Mt.of m_MD_above_w m_MD_above_x m_MD_above_c rfl rfl (ls := [.ref md, .int t]) rfl ?_
  refine V_aload_n rfl rfl ?_
  refine V_iload_n rfl rfl ?_
  refine V_callVi rfl rfl m_MD_isType_w m_MD_isType_x rfl (by decide) rfl (s_mIsT (by first | assumption | exact blkW_at) (by first | assumption | exact MP_rcS (by assumption) | exact MP_ar rfl (by assumption) | exact MP_sc rfl (by assumption)) _) (by decide) rfl (by first | assumption | exact blkW_0 | exact bAt_0 (by assumption) | rfl) (Nat.le_of_ble_eq_true rfl) ?_
  cases ho : inN t (nT p)
  · rw [if_neg (by decide)]
    refine V_if_neF rfl (rfl) ?_
    refine V_ldc rfl rfl ?_
    refine V_ireturn rfl rfl (by first | rfl | exact b2_nar _ | assumption | decide) ?_
    first | exact Pj_ret0 rfl | exact Pj_ret rfl rfl
  · rw [if_pos rfl]
    refine V_if_neT rfl (by decide) ?_
    obtain ⟨t, ht, rfl⟩ := inN_t (by omega) ho
    rw [nI_clamp (by omega)]
    refine V_aload_n rfl rfl ?_
    refine V_getfield rfl rfl (by first | assumption | exact blkW_0 | exact bAt_0 (by assumption) | rfl) (by rfl) ?_
    refine V_iload_n rfl rfl ?_
    refine V_bald rfl (by first | assumption | exact blkW_i rfl rfl | exact blkW_z rfl rfl | exact bAt_i (by assumption) rfl rfl | exact bAt_z (by assumption) rfl rfl | rfl) (by first | with_reducible rfl | exact nI_add 2 _ | exact nI_add 26 _ | exact fa_lit _ | assumption) (by first | omega | assumption | decide) (by first | decide | omega | assumption) (by first | exact mp_isC (by first | assumption | exact MP_rcS (by assumption) | exact MP_ar rfl (by assumption) | exact MP_sc rfl (by assumption)) (by first | omega | assumption) | exact mp_par (by first | assumption | exact MP_rcS (by assumption) | exact MP_ar rfl (by assumption) | exact MP_sc rfl (by assumption)) (by first | omega | assumption) | exact mp_abv (by first | assumption | exact MP_rcS (by assumption) | exact MP_ar rfl (by assumption) | exact MP_sc rfl (by assumption)) (by first | omega | assumption) | exact mp_dep (by first | assumption | exact MP_rcS (by assumption) | exact MP_ar rfl (by assumption) | exact MP_sc rfl (by assumption)) (by first | omega | assumption) | exact mp_bT (by first | assumption | exact MP_rcS (by assumption) | exact MP_ar rfl (by assumption) | exact MP_sc rfl (by assumption)) (by first | omega | assumption) | exact mp_bM (by first | assumption | exact MP_rcS (by assumption) | exact MP_ar rfl (by assumption) | exact MP_sc rfl (by assumption)) (by first | omega | assumption) | exact mp_sK (by first | assumption | exact MP_rcS (by assumption) | exact MP_ar rfl (by assumption) | exact MP_sc rfl (by assumption)) (by first | omega | assumption) | exact mp_sB (by first | assumption | exact MP_rcS (by assumption) | exact MP_ar rfl (by assumption) | exact MP_sc rfl (by assumption)) (by first | omega | assumption) | exact mp_sT (by first | assumption | exact MP_rcS (by assumption) | exact MP_ar rfl (by assumption) | exact MP_sc rfl (by assumption)) (by first | omega | assumption) | exact mp_sM (by first | assumption | exact MP_rcS (by assumption) | exact MP_ar rfl (by assumption) | exact MP_sc rfl (by assumption)) (by first | omega | assumption) | exact mp_cS (by first | assumption | exact MP_rcS (by assumption) | exact MP_ar rfl (by assumption) | exact MP_sc rfl (by assumption)) (by first | omega | assumption) | exact va_g | exact va_n (by decide) | rfl) ?_
    first | refine V_ifb_eq rfl (fun h17 => ?_) (fun h17 => ?_) | refine V_if_eq rfl (fun h17 => ?_) (fun h17 => ?_)
    · refine V_ldcw rfl rfl ?_
      refine V_ireturn rfl rfl (by first | rfl | exact b2_nar _ | assumption | decide) ?_
      first | exact Pj_ret0 rfl | exact Pj_ret rfl rfl | exact Pj_ret0 (by simp [WRG, *]) | exact Pj_ret (by simp [WRG, *]) rfl
    · refine V_aload_n rfl rfl ?_
      refine V_getfield rfl rfl (by first | assumption | exact blkW_0 | exact bAt_0 (by assumption) | rfl) (by rfl) ?_
      refine V_iload_n rfl rfl ?_
      refine V_iald rfl (by first | assumption | exact blkW_i rfl rfl | exact blkW_z rfl rfl | exact bAt_i (by assumption) rfl rfl | exact bAt_z (by assumption) rfl rfl | rfl) (by first | with_reducible rfl | exact nI_add 2 _ | exact nI_add 26 _ | exact fa_lit _ | assumption) (by first | omega | assumption | decide) (by first | decide | omega | assumption) (by first | exact mp_isC (by first | assumption | exact MP_rcS (by assumption) | exact MP_ar rfl (by assumption) | exact MP_sc rfl (by assumption)) (by first | omega | assumption) | exact mp_par (by first | assumption | exact MP_rcS (by assumption) | exact MP_ar rfl (by assumption) | exact MP_sc rfl (by assumption)) (by first | omega | assumption) | exact mp_abv (by first | assumption | exact MP_rcS (by assumption) | exact MP_ar rfl (by assumption) | exact MP_sc rfl (by assumption)) (by first | omega | assumption) | exact mp_dep (by first | assumption | exact MP_rcS (by assumption) | exact MP_ar rfl (by assumption) | exact MP_sc rfl (by assumption)) (by first | omega | assumption) | exact mp_bT (by first | assumption | exact MP_rcS (by assumption) | exact MP_ar rfl (by assumption) | exact MP_sc rfl (by assumption)) (by first | omega | assumption) | exact mp_bM (by first | assumption | exact MP_rcS (by assumption) | exact MP_ar rfl (by assumption) | exact MP_sc rfl (by assumption)) (by first | omega | assumption) | exact mp_sK (by first | assumption | exact MP_rcS (by assumption) | exact MP_ar rfl (by assumption) | exact MP_sc rfl (by assumption)) (by first | omega | assumption) | exact mp_sB (by first | assumption | exact MP_rcS (by assumption) | exact MP_ar rfl (by assumption) | exact MP_sc rfl (by assumption)) (by first | omega | assumption) | exact mp_sT (by first | assumption | exact MP_rcS (by assumption) | exact MP_ar rfl (by assumption) | exact MP_sc rfl (by assumption)) (by first | omega | assumption) | exact mp_sM (by first | assumption | exact MP_rcS (by assumption) | exact MP_ar rfl (by assumption) | exact MP_sc rfl (by assumption)) (by first | omega | assumption) | exact mp_cS (by first | assumption | exact MP_rcS (by assumption) | exact MP_ar rfl (by assumption) | exact MP_sc rfl (by assumption)) (by first | omega | assumption) | exact va_g | exact va_n (by decide) | rfl) ?_
      refine V_goto rfl ?_
      refine V_ireturn rfl rfl (by first | rfl | exact b2_nar _ | assumption | decide) ?_
      first | exact Pj_ret0 rfl | exact Pj_ret rfl rfl | exact Pj_ret0 (by simp [WRG, *]) | exact Pj_ret (by simp [WRG, *]) rfl
set_option maxRecDepth 20000 in
set_option maxHeartbeats 1000000 in
theorem w_users (hm : MP p sc ar) (t : Int32) : Mt g 2 m_MD_users [.ref md, .int t] (blkW 7 h md sc ar) sz u (Pj (A_users p t) h md sc ar) sz u := by
  obtain ⟨hT, hB, hS, hC⟩ := hm.1.1
  unfold A_users
  refine Mt.of m_MD_users_w m_MD_users_x m_MD_users_c rfl rfl (ls := [.ref md, .int t]) rfl ?_
  refine V_aload_n rfl rfl ?_
  refine V_iload_n rfl rfl ?_
  refine V_callVi rfl rfl m_MD_isType_w m_MD_isType_x rfl (by decide) rfl (s_mIsT (by first | assumption | exact blkW_at) (by first | assumption | exact MP_rcS (by assumption) | exact MP_ar rfl (by assumption) | exact MP_sc rfl (by assumption)) _) (by decide) rfl (by first | assumption | exact blkW_0 | exact bAt_0 (by assumption) | rfl) (Nat.le_of_ble_eq_true rfl) ?_
  cases ho : inN t (nT p)
  · rw [if_neg (by decide)]
    refine V_if_neF rfl (rfl) ?_
    refine V_ldc rfl rfl ?_
    refine V_ireturn rfl rfl (by first | rfl | exact b2_nar _ | assumption | decide) ?_
    first | exact Pj_ret0 rfl | exact Pj_ret rfl rfl
  · rw [if_pos rfl]
    refine V_if_neT rfl (by decide) ?_
    obtain ⟨t, ht, rfl⟩ := inN_t (by omega) ho
    rw [nI_clamp (by omega)]
    refine V_aload_n rfl rfl ?_
    refine V_getfield rfl rfl (by first | assumption | exact blkW_0 | exact bAt_0 (by assumption) | rfl) (by rfl) ?_
    refine V_iload_n rfl rfl ?_
    refine V_bald rfl (by first | assumption | exact blkW_i rfl rfl | exact blkW_z rfl rfl | exact bAt_i (by assumption) rfl rfl | exact bAt_z (by assumption) rfl rfl | rfl) (by first | with_reducible rfl | exact nI_add 2 _ | exact nI_add 26 _ | exact fa_lit _ | assumption) (by first | omega | assumption | decide) (by first | decide | omega | assumption) (by first | exact mp_isC (by first | assumption | exact MP_rcS (by assumption) | exact MP_ar rfl (by assumption) | exact MP_sc rfl (by assumption)) (by first | omega | assumption) | exact mp_par (by first | assumption | exact MP_rcS (by assumption) | exact MP_ar rfl (by assumption) | exact MP_sc rfl (by assumption)) (by first | omega | assumption) | exact mp_abv (by first | assumption | exact MP_rcS (by assumption) | exact MP_ar rfl (by assumption) | exact MP_sc rfl (by assumption)) (by first | omega | assumption) | exact mp_dep (by first | assumption | exact MP_rcS (by assumption) | exact MP_ar rfl (by assumption) | exact MP_sc rfl (by assumption)) (by first | omega | assumption) | exact mp_bT (by first | assumption | exact MP_rcS (by assumption) | exact MP_ar rfl (by assumption) | exact MP_sc rfl (by assumption)) (by first | omega | assumption) | exact mp_bM (by first | assumption | exact MP_rcS (by assumption) | exact MP_ar rfl (by assumption) | exact MP_sc rfl (by assumption)) (by first | omega | assumption) | exact mp_sK (by first | assumption | exact MP_rcS (by assumption) | exact MP_ar rfl (by assumption) | exact MP_sc rfl (by assumption)) (by first | omega | assumption) | exact mp_sB (by first | assumption | exact MP_rcS (by assumption) | exact MP_ar rfl (by assumption) | exact MP_sc rfl (by assumption)) (by first | omega | assumption) | exact mp_sT (by first | assumption | exact MP_rcS (by assumption) | exact MP_ar rfl (by assumption) | exact MP_sc rfl (by assumption)) (by first | omega | assumption) | exact mp_sM (by first | assumption | exact MP_rcS (by assumption) | exact MP_ar rfl (by assumption) | exact MP_sc rfl (by assumption)) (by first | omega | assumption) | exact mp_cS (by first | assumption | exact MP_rcS (by assumption) | exact MP_ar rfl (by assumption) | exact MP_sc rfl (by assumption)) (by first | omega | assumption) | exact va_g | exact va_n (by decide) | rfl) ?_
    first | refine V_ifb_eq rfl (fun h17 => ?_) (fun h17 => ?_) | refine V_if_eq rfl (fun h17 => ?_) (fun h17 => ?_)
    · refine V_aload_n rfl rfl ?_
      refine V_iload_n rfl rfl ?_
      refine V_callVi rfl rfl m_MD_belowOf_w m_MD_belowOf_x rfl (by decide) rfl (s_mbelow (by first | assumption | exact blkW_at) (by first | assumption | exact MP_rcS (by assumption) | exact MP_ar rfl (by assumption) | exact MP_sc rfl (by assumption)) _ (by first | omega | assumption)) (by decide) rfl (by first | assumption | exact blkW_0 | exact bAt_0 (by assumption) | rfl) (Nat.le_of_ble_eq_true rfl) ?_
      refine V_aload_n rfl rfl ?_
      refine V_callVi rfl rfl m_MD_classes_w m_MD_classes_x rfl (by decide) rfl (s_mclasses (by first | assumption | exact blkW_at) (by first | assumption | exact MP_rcS (by assumption) | exact MP_ar rfl (by assumption) | exact MP_sc rfl (by assumption))) (by decide) rfl (by first | assumption | exact blkW_0 | exact bAt_0 (by assumption) | rfl) (Nat.le_of_ble_eq_true rfl) ?_
      refine V_iand rfl ?_
      refine V_callSi rfl rfl (Or.inl rfl) m_MD_bits_w m_MD_bits_x rfl rfl (s_bits _) (by decide) rfl (Nat.le_of_ble_eq_true rfl) ?_
      refine V_ireturn rfl rfl (by first | rfl | exact b2_nar _ | assumption | decide) ?_
      first | exact Pj_ret0 rfl | exact Pj_ret rfl rfl | exact Pj_ret0 (by simp [WRG, *]) | exact Pj_ret (by simp [WRG, *]) rfl
    · refine V_ldcw rfl rfl ?_
      refine V_goto rfl ?_
      refine V_ireturn rfl rfl (by first | rfl | exact b2_nar _ | assumption | decide) ?_
      first | exact Pj_ret0 rfl | exact Pj_ret rfl rfl | exact Pj_ret0 (by simp [WRG, *]) | exact Pj_ret (by simp [WRG, *]) rfl
set_option maxRecDepth 20000 in
set_option maxHeartbeats 1000000 in
theorem w_makers (hm : MP p sc ar) (t : Int32) : Mt g 2 m_MD_makers [.ref md, .int t] (blkW 7 h md sc ar) sz u (Pj (A_makers p t) h md sc ar) sz u := by
  obtain ⟨hT, hB, hS, hC⟩ := hm.1.1
  unfold A_makers
  refine Mt.of m_MD_makers_w m_MD_makers_x m_MD_makers_c rfl rfl (ls := [.ref md, .int t, .retAddr 0, .retAddr 0]) rfl ?_
  refine V_aload_n rfl rfl ?_
  refine V_iload_n rfl rfl ?_
  refine V_callVi rfl rfl m_MD_isType_w m_MD_isType_x rfl (by decide) rfl (s_mIsT (by first | assumption | exact blkW_at) (by first | assumption | exact MP_rcS (by assumption) | exact MP_ar rfl (by assumption) | exact MP_sc rfl (by assumption)) _) (by decide) rfl (by first | assumption | exact blkW_0 | exact bAt_0 (by assumption) | rfl) (Nat.le_of_ble_eq_true rfl) ?_
  cases ho : inN t (nT p)
  · rw [if_neg (by decide)]
    refine V_if_neF rfl (rfl) ?_
    refine V_ldc rfl rfl ?_
    refine V_ireturn rfl rfl (by first | rfl | exact b2_nar _ | assumption | decide) ?_
    first | exact Pj_ret0 rfl | exact Pj_ret rfl rfl
  · rw [if_pos rfl]
    refine V_if_neT rfl (by decide) ?_
    obtain ⟨t, ht, rfl⟩ := inN_t (by omega) ho
    rw [nI_clamp (by omega)]
    refine V_aload_n rfl rfl ?_
    refine V_getfield rfl rfl (by first | assumption | exact blkW_0 | exact bAt_0 (by assumption) | rfl) (by rfl) ?_
    refine V_iload_n rfl rfl ?_
    refine V_bald rfl (by first | assumption | exact blkW_i rfl rfl | exact blkW_z rfl rfl | exact bAt_i (by assumption) rfl rfl | exact bAt_z (by assumption) rfl rfl | rfl) (by first | with_reducible rfl | exact nI_add 2 _ | exact nI_add 26 _ | exact fa_lit _ | assumption) (by first | omega | assumption | decide) (by first | decide | omega | assumption) (by first | exact mp_isC (by first | assumption | exact MP_rcS (by assumption) | exact MP_ar rfl (by assumption) | exact MP_sc rfl (by assumption)) (by first | omega | assumption) | exact mp_par (by first | assumption | exact MP_rcS (by assumption) | exact MP_ar rfl (by assumption) | exact MP_sc rfl (by assumption)) (by first | omega | assumption) | exact mp_abv (by first | assumption | exact MP_rcS (by assumption) | exact MP_ar rfl (by assumption) | exact MP_sc rfl (by assumption)) (by first | omega | assumption) | exact mp_dep (by first | assumption | exact MP_rcS (by assumption) | exact MP_ar rfl (by assumption) | exact MP_sc rfl (by assumption)) (by first | omega | assumption) | exact mp_bT (by first | assumption | exact MP_rcS (by assumption) | exact MP_ar rfl (by assumption) | exact MP_sc rfl (by assumption)) (by first | omega | assumption) | exact mp_bM (by first | assumption | exact MP_rcS (by assumption) | exact MP_ar rfl (by assumption) | exact MP_sc rfl (by assumption)) (by first | omega | assumption) | exact mp_sK (by first | assumption | exact MP_rcS (by assumption) | exact MP_ar rfl (by assumption) | exact MP_sc rfl (by assumption)) (by first | omega | assumption) | exact mp_sB (by first | assumption | exact MP_rcS (by assumption) | exact MP_ar rfl (by assumption) | exact MP_sc rfl (by assumption)) (by first | omega | assumption) | exact mp_sT (by first | assumption | exact MP_rcS (by assumption) | exact MP_ar rfl (by assumption) | exact MP_sc rfl (by assumption)) (by first | omega | assumption) | exact mp_sM (by first | assumption | exact MP_rcS (by assumption) | exact MP_ar rfl (by assumption) | exact MP_sc rfl (by assumption)) (by first | omega | assumption) | exact mp_cS (by first | assumption | exact MP_rcS (by assumption) | exact MP_ar rfl (by assumption) | exact MP_sc rfl (by assumption)) (by first | omega | assumption) | exact va_g | exact va_n (by decide) | rfl) ?_
    cases hc : isC p t
    · rw [if_neg (by decide)]
      refine V_if_neF rfl (rfl) ?_
      refine V_ldcw rfl rfl ?_
      refine V_ireturn rfl rfl (by first | rfl | exact b2_nar _ | assumption | decide) ?_
      first | exact Pj_ret0 rfl | exact Pj_ret rfl rfl | exact Pj_ret0 (by simp [WRG, *]) | exact Pj_ret (by simp [WRG, *]) rfl
    · rw [if_pos rfl]
      refine V_if_neT rfl (by decide) ?_
      refine V_iconst (v := 0) rfl (by decide) ?_
      refine V_is2 rfl (by first | rfl | assumption) ?_
      refine V_iconst (v := 0) rfl (by decide) ?_
      refine V_is3 rfl (by first | rfl | assumption) ?_
      refine V_for2 (nS p) (fun i => [.ref md, .int (nI t), .int (orF i fun s => cnd (sK p s == 0 && sT p s == t) (bI (sB p s))), .int (nI i)]) (fun _ => blkW 7 h md sc ar) rfl rfl (fun i hi ih => ?_) ?_
      · have hw := hm.1.2.2.2.1 i hi
        refine V_iload_n rfl rfl ?_
        refine V_aload_n rfl rfl ?_
        refine V_getI rfl rfl (by first | assumption | exact blkW_0 | exact bAt_0 (by assumption) | rfl) (by rfl) (by first | exact mp_nS (by first | assumption | exact MP_rcS (by assumption) | exact MP_ar rfl (by assumption) | exact MP_sc rfl (by assumption)) | rfl) ?_
        refine V_icmp_geF rfl (nI_ge hi (by omega)) ?_
        refine V_iload_n rfl rfl ?_
        refine V_aload_n rfl rfl ?_
        refine V_getfield rfl rfl (by first | assumption | exact blkW_0 | exact bAt_0 (by assumption) | rfl) (by rfl) ?_
        refine V_iload_n rfl rfl ?_
        refine V_iald rfl (by first | assumption | exact blkW_i rfl rfl | exact blkW_z rfl rfl | exact bAt_i (by assumption) rfl rfl | exact bAt_z (by assumption) rfl rfl | rfl) (by first | with_reducible rfl | exact nI_add 2 _ | exact nI_add 26 _ | exact fa_lit _ | assumption) (by first | omega | assumption | decide) (by first | decide | omega | assumption) (by first | exact mp_isC (by first | assumption | exact MP_rcS (by assumption) | exact MP_ar rfl (by assumption) | exact MP_sc rfl (by assumption)) (by first | omega | assumption) | exact mp_par (by first | assumption | exact MP_rcS (by assumption) | exact MP_ar rfl (by assumption) | exact MP_sc rfl (by assumption)) (by first | omega | assumption) | exact mp_abv (by first | assumption | exact MP_rcS (by assumption) | exact MP_ar rfl (by assumption) | exact MP_sc rfl (by assumption)) (by first | omega | assumption) | exact mp_dep (by first | assumption | exact MP_rcS (by assumption) | exact MP_ar rfl (by assumption) | exact MP_sc rfl (by assumption)) (by first | omega | assumption) | exact mp_bT (by first | assumption | exact MP_rcS (by assumption) | exact MP_ar rfl (by assumption) | exact MP_sc rfl (by assumption)) (by first | omega | assumption) | exact mp_bM (by first | assumption | exact MP_rcS (by assumption) | exact MP_ar rfl (by assumption) | exact MP_sc rfl (by assumption)) (by first | omega | assumption) | exact mp_sK (by first | assumption | exact MP_rcS (by assumption) | exact MP_ar rfl (by assumption) | exact MP_sc rfl (by assumption)) (by first | omega | assumption) | exact mp_sB (by first | assumption | exact MP_rcS (by assumption) | exact MP_ar rfl (by assumption) | exact MP_sc rfl (by assumption)) (by first | omega | assumption) | exact mp_sT (by first | assumption | exact MP_rcS (by assumption) | exact MP_ar rfl (by assumption) | exact MP_sc rfl (by assumption)) (by first | omega | assumption) | exact mp_sM (by first | assumption | exact MP_rcS (by assumption) | exact MP_ar rfl (by assumption) | exact MP_sc rfl (by assumption)) (by first | omega | assumption) | exact mp_cS (by first | assumption | exact MP_rcS (by assumption) | exact MP_ar rfl (by assumption) | exact MP_sc rfl (by assumption)) (by first | omega | assumption) | exact va_g | exact va_n (by decide) | rfl) ?_
        first | refine V_ifb_ne rfl (fun h43 => ?_) (fun h43 => ?_) | refine V_if_ne rfl (fun h43 => ?_) (fun h43 => ?_)
        · refine V_iconst (v := 0) rfl (by decide) ?_
          refine V_ior rfl ?_
          refine V_is2 rfl (by first | rfl | assumption) ?_
          refine V_inc3 rfl (by first | exact mInc _ | exact mDcr _ | rfl) (by first | rfl | assumption) ?_
          refine V_goto rfl ?_
          rw [nI_0iff (by omega)] at h43
          (try rw [nI_eq (by omega) (by omega)] at h53)
          exact V_wk ih (by simp only [orF_s]; simp [mWk, cnd, bI, *])
        · refine V_aload_n rfl rfl ?_
          refine V_getfield rfl rfl (by first | assumption | exact blkW_0 | exact bAt_0 (by assumption) | rfl) (by rfl) ?_
          refine V_iload_n rfl rfl ?_
          refine V_iald rfl (by first | assumption | exact blkW_i rfl rfl | exact blkW_z rfl rfl | exact bAt_i (by assumption) rfl rfl | exact bAt_z (by assumption) rfl rfl | rfl) (by first | with_reducible rfl | exact nI_add 2 _ | exact nI_add 26 _ | exact fa_lit _ | assumption) (by first | omega | assumption | decide) (by first | decide | omega | assumption) (by first | exact mp_isC (by first | assumption | exact MP_rcS (by assumption) | exact MP_ar rfl (by assumption) | exact MP_sc rfl (by assumption)) (by first | omega | assumption) | exact mp_par (by first | assumption | exact MP_rcS (by assumption) | exact MP_ar rfl (by assumption) | exact MP_sc rfl (by assumption)) (by first | omega | assumption) | exact mp_abv (by first | assumption | exact MP_rcS (by assumption) | exact MP_ar rfl (by assumption) | exact MP_sc rfl (by assumption)) (by first | omega | assumption) | exact mp_dep (by first | assumption | exact MP_rcS (by assumption) | exact MP_ar rfl (by assumption) | exact MP_sc rfl (by assumption)) (by first | omega | assumption) | exact mp_bT (by first | assumption | exact MP_rcS (by assumption) | exact MP_ar rfl (by assumption) | exact MP_sc rfl (by assumption)) (by first | omega | assumption) | exact mp_bM (by first | assumption | exact MP_rcS (by assumption) | exact MP_ar rfl (by assumption) | exact MP_sc rfl (by assumption)) (by first | omega | assumption) | exact mp_sK (by first | assumption | exact MP_rcS (by assumption) | exact MP_ar rfl (by assumption) | exact MP_sc rfl (by assumption)) (by first | omega | assumption) | exact mp_sB (by first | assumption | exact MP_rcS (by assumption) | exact MP_ar rfl (by assumption) | exact MP_sc rfl (by assumption)) (by first | omega | assumption) | exact mp_sT (by first | assumption | exact MP_rcS (by assumption) | exact MP_ar rfl (by assumption) | exact MP_sc rfl (by assumption)) (by first | omega | assumption) | exact mp_sM (by first | assumption | exact MP_rcS (by assumption) | exact MP_ar rfl (by assumption) | exact MP_sc rfl (by assumption)) (by first | omega | assumption) | exact mp_cS (by first | assumption | exact MP_rcS (by assumption) | exact MP_ar rfl (by assumption) | exact MP_sc rfl (by assumption)) (by first | omega | assumption) | exact va_g | exact va_n (by decide) | rfl) ?_
          refine V_iload_n rfl rfl ?_
          refine V_icmp_ne rfl (fun h53 => ?_) (fun h53 => ?_)
          · refine V_iconst (v := 0) rfl (by decide) ?_
            refine V_ior rfl ?_
            refine V_is2 rfl (by first | rfl | assumption) ?_
            refine V_inc3 rfl (by first | exact mInc _ | exact mDcr _ | rfl) (by first | rfl | assumption) ?_
            refine V_goto rfl ?_
            rw [nI_0iff (by omega)] at h43
            (try rw [nI_eq (by omega) (by omega)] at h53)
            exact V_wk ih (by simp only [orF_s]; simp [mWk, cnd, bI, *])
          · refine V_iconst (v := 1) rfl (by decide) ?_
            refine V_aload_n rfl rfl ?_
            refine V_getfield rfl rfl (by first | assumption | exact blkW_0 | exact bAt_0 (by assumption) | rfl) (by rfl) ?_
            refine V_iload_n rfl rfl ?_
            refine V_iald rfl (by first | assumption | exact blkW_i rfl rfl | exact blkW_z rfl rfl | exact bAt_i (by assumption) rfl rfl | exact bAt_z (by assumption) rfl rfl | rfl) (by first | with_reducible rfl | exact nI_add 2 _ | exact nI_add 26 _ | exact fa_lit _ | assumption) (by first | omega | assumption | decide) (by first | decide | omega | assumption) (by first | exact mp_isC (by first | assumption | exact MP_rcS (by assumption) | exact MP_ar rfl (by assumption) | exact MP_sc rfl (by assumption)) (by first | omega | assumption) | exact mp_par (by first | assumption | exact MP_rcS (by assumption) | exact MP_ar rfl (by assumption) | exact MP_sc rfl (by assumption)) (by first | omega | assumption) | exact mp_abv (by first | assumption | exact MP_rcS (by assumption) | exact MP_ar rfl (by assumption) | exact MP_sc rfl (by assumption)) (by first | omega | assumption) | exact mp_dep (by first | assumption | exact MP_rcS (by assumption) | exact MP_ar rfl (by assumption) | exact MP_sc rfl (by assumption)) (by first | omega | assumption) | exact mp_bT (by first | assumption | exact MP_rcS (by assumption) | exact MP_ar rfl (by assumption) | exact MP_sc rfl (by assumption)) (by first | omega | assumption) | exact mp_bM (by first | assumption | exact MP_rcS (by assumption) | exact MP_ar rfl (by assumption) | exact MP_sc rfl (by assumption)) (by first | omega | assumption) | exact mp_sK (by first | assumption | exact MP_rcS (by assumption) | exact MP_ar rfl (by assumption) | exact MP_sc rfl (by assumption)) (by first | omega | assumption) | exact mp_sB (by first | assumption | exact MP_rcS (by assumption) | exact MP_ar rfl (by assumption) | exact MP_sc rfl (by assumption)) (by first | omega | assumption) | exact mp_sT (by first | assumption | exact MP_rcS (by assumption) | exact MP_ar rfl (by assumption) | exact MP_sc rfl (by assumption)) (by first | omega | assumption) | exact mp_sM (by first | assumption | exact MP_rcS (by assumption) | exact MP_ar rfl (by assumption) | exact MP_sc rfl (by assumption)) (by first | omega | assumption) | exact mp_cS (by first | assumption | exact MP_rcS (by assumption) | exact MP_ar rfl (by assumption) | exact MP_sc rfl (by assumption)) (by first | omega | assumption) | exact va_g | exact va_n (by decide) | rfl) ?_
            refine V_ishl rfl ?_
            refine V_goto rfl ?_
            refine V_ior rfl ?_
            refine V_is2 rfl (by first | rfl | assumption) ?_
            refine V_inc3 rfl (by first | exact mInc _ | exact mDcr _ | rfl) (by first | rfl | assumption) ?_
            refine V_goto rfl ?_
            rw [nI_0iff (by omega)] at h43
            (try rw [nI_eq (by omega) (by omega)] at h53)
            exact V_wk ih (by simp only [orF_s]; simp [mWk, cnd, bI, *])
      · refine V_iload_n rfl rfl ?_
        refine V_aload_n rfl rfl ?_
        refine V_getI rfl rfl (by first | assumption | exact blkW_0 | exact bAt_0 (by assumption) | rfl) (by rfl) (by first | exact mp_nS (by first | assumption | exact MP_rcS (by assumption) | exact MP_ar rfl (by assumption) | exact MP_sc rfl (by assumption)) | rfl) ?_
        refine V_icmp_geT rfl (nI_le (Nat.le_refl _) (by omega)) ?_
        refine V_iload_n rfl rfl ?_
        refine V_ireturn rfl rfl (by first | rfl | exact b2_nar _ | assumption | decide) ?_
        first | exact Pj_ret0 rfl | exact Pj_ret rfl rfl | exact Pj_ret0 (by simp [WRG, *]) | exact Pj_ret (by simp [WRG, *]) rfl
set_option maxRecDepth 20000 in
set_option maxHeartbeats 1000000 in
theorem w_body (hm : MP p sc ar) (b w : Int32) : Mt g 8 m_MD_body [.ref md, .int b, .int w] (blkW 7 h md sc ar) sz u (Pj (A_body p (ar 15) b w) h md sc ar) sz u := by
  obtain ⟨hT, hB, hS, hC⟩ := hm.1.1
  unfold A_body
  refine Mt.of m_MD_body_w m_MD_body_x m_MD_body_c rfl rfl (ls := [.ref md, .int b, .int w]) rfl ?_
  refine V_aload_n rfl rfl ?_
  refine V_iload_n rfl rfl ?_
  refine V_callVi rfl rfl m_MD_isBody_w m_MD_isBody_x rfl (by decide) rfl (s_mIsB (by first | assumption | exact blkW_at) (by first | assumption | exact MP_rcS (by assumption) | exact MP_ar rfl (by assumption) | exact MP_sc rfl (by assumption)) _) (by decide) rfl (by first | assumption | exact blkW_0 | exact bAt_0 (by assumption) | rfl) (Nat.le_of_ble_eq_true rfl) ?_
  cases ho : inN b (nB p)
  · rw [if_neg (by decide)]
    refine V_if_neF rfl (rfl) ?_
    refine V_ldc rfl rfl ?_
    refine V_ireturn rfl rfl (by first | rfl | exact b2_nar _ | assumption | decide) ?_
    first | exact Pj_ret0 rfl | exact Pj_ret rfl rfl
  · rw [if_pos rfl]
    refine V_if_neT rfl (by decide) ?_
    obtain ⟨t, ht, rfl⟩ := inN_t (by omega) ho
    rw [nI_clamp (by omega)]
    refine V_aload_n rfl rfl ?_
    refine V_callVn rfl rfl m_MD_reach_w m_MD_reach_x rfl (by decide) rfl (w_reach (by first | assumption | exact MP_rcS (by assumption) | exact MP_ar rfl (by assumption) | exact MP_sc rfl (by assumption))) (by decide) rfl (by first | assumption | exact blkW_0 | exact bAt_0 (by assumption) | rfl) (Nat.le_of_ble_eq_true rfl) ?_
    refine V_iload_n rfl rfl ?_
    cases hw : inN w 7
    · rw [if_neg (by decide)]
      refine V_tabOut (tg := 115) rfl (inN_sw hw (by decide)) (by decide) ?_
      refine V_ldc rfl rfl ?_
      refine V_ireturn rfl rfl (by first | rfl | exact b2_nar _ | assumption | decide) ?_
      first | exact Pj_ret0 rfl | exact Pj_ret rfl rfl | exact Pj_ret (by simp [bodyV, b2, *]) rfl
    · obtain ⟨j, hj, rfl⟩ := inN_t (by decide) hw
      rw [if_pos rfl, nI_clamp (by omega)]
      rcases (show j = 0 ∨ j = 1 ∨ j = 2 ∨ j = 3 ∨ j = 4 ∨ j = 5 ∨ j = 6 by omega) with rfl | rfl | rfl | rfl | rfl | rfl | rfl
      · refine V_tabIn (off := 44) (tg := 60) rfl (by decide) (by decide) (by decide) (by decide) ?_
        refine V_aload_n rfl rfl ?_
        refine V_getfield rfl rfl (by first | assumption | exact blkW_0 | exact bAt_0 (by assumption) | rfl) (by rfl) ?_
        refine V_iload_n rfl rfl ?_
        refine V_iald rfl (by first | assumption | exact blkW_i rfl rfl | exact blkW_z rfl rfl | exact bAt_i (by assumption) rfl rfl | exact bAt_z (by assumption) rfl rfl | rfl) (by first | with_reducible rfl | exact nI_add 2 _ | exact nI_add 26 _ | exact fa_lit _ | assumption) (by first | omega | assumption | decide) (by first | decide | omega | assumption) (by first | exact mp_isC (by first | assumption | exact MP_rcS (by assumption) | exact MP_ar rfl (by assumption) | exact MP_sc rfl (by assumption)) (by first | omega | assumption) | exact mp_par (by first | assumption | exact MP_rcS (by assumption) | exact MP_ar rfl (by assumption) | exact MP_sc rfl (by assumption)) (by first | omega | assumption) | exact mp_abv (by first | assumption | exact MP_rcS (by assumption) | exact MP_ar rfl (by assumption) | exact MP_sc rfl (by assumption)) (by first | omega | assumption) | exact mp_dep (by first | assumption | exact MP_rcS (by assumption) | exact MP_ar rfl (by assumption) | exact MP_sc rfl (by assumption)) (by first | omega | assumption) | exact mp_bT (by first | assumption | exact MP_rcS (by assumption) | exact MP_ar rfl (by assumption) | exact MP_sc rfl (by assumption)) (by first | omega | assumption) | exact mp_bM (by first | assumption | exact MP_rcS (by assumption) | exact MP_ar rfl (by assumption) | exact MP_sc rfl (by assumption)) (by first | omega | assumption) | exact mp_sK (by first | assumption | exact MP_rcS (by assumption) | exact MP_ar rfl (by assumption) | exact MP_sc rfl (by assumption)) (by first | omega | assumption) | exact mp_sB (by first | assumption | exact MP_rcS (by assumption) | exact MP_ar rfl (by assumption) | exact MP_sc rfl (by assumption)) (by first | omega | assumption) | exact mp_sT (by first | assumption | exact MP_rcS (by assumption) | exact MP_ar rfl (by assumption) | exact MP_sc rfl (by assumption)) (by first | omega | assumption) | exact mp_sM (by first | assumption | exact MP_rcS (by assumption) | exact MP_ar rfl (by assumption) | exact MP_sc rfl (by assumption)) (by first | omega | assumption) | exact mp_cS (by first | assumption | exact MP_rcS (by assumption) | exact MP_ar rfl (by assumption) | exact MP_sc rfl (by assumption)) (by first | omega | assumption) | exact va_g | exact va_n (by decide) | rfl) ?_
        refine V_ireturn rfl rfl (by first | rfl | exact b2_nar _ | assumption | decide) ?_
        first | exact Pj_ret0 rfl | exact Pj_ret rfl rfl | exact Pj_ret (by simp [bodyV, b2, *]) rfl
      · refine V_tabIn (off := 51) (tg := 67) rfl (by decide) (by decide) (by decide) (by decide) ?_
        refine V_aload_n rfl rfl ?_
        refine V_getfield rfl rfl (by first | assumption | exact blkW_0 | exact bAt_0 (by assumption) | rfl) (by rfl) ?_
        refine V_iload_n rfl rfl ?_
        refine V_iald rfl (by first | assumption | exact blkW_i rfl rfl | exact blkW_z rfl rfl | exact bAt_i (by assumption) rfl rfl | exact bAt_z (by assumption) rfl rfl | rfl) (by first | with_reducible rfl | exact nI_add 2 _ | exact nI_add 26 _ | exact fa_lit _ | assumption) (by first | omega | assumption | decide) (by first | decide | omega | assumption) (by first | exact mp_isC (by first | assumption | exact MP_rcS (by assumption) | exact MP_ar rfl (by assumption) | exact MP_sc rfl (by assumption)) (by first | omega | assumption) | exact mp_par (by first | assumption | exact MP_rcS (by assumption) | exact MP_ar rfl (by assumption) | exact MP_sc rfl (by assumption)) (by first | omega | assumption) | exact mp_abv (by first | assumption | exact MP_rcS (by assumption) | exact MP_ar rfl (by assumption) | exact MP_sc rfl (by assumption)) (by first | omega | assumption) | exact mp_dep (by first | assumption | exact MP_rcS (by assumption) | exact MP_ar rfl (by assumption) | exact MP_sc rfl (by assumption)) (by first | omega | assumption) | exact mp_bT (by first | assumption | exact MP_rcS (by assumption) | exact MP_ar rfl (by assumption) | exact MP_sc rfl (by assumption)) (by first | omega | assumption) | exact mp_bM (by first | assumption | exact MP_rcS (by assumption) | exact MP_ar rfl (by assumption) | exact MP_sc rfl (by assumption)) (by first | omega | assumption) | exact mp_sK (by first | assumption | exact MP_rcS (by assumption) | exact MP_ar rfl (by assumption) | exact MP_sc rfl (by assumption)) (by first | omega | assumption) | exact mp_sB (by first | assumption | exact MP_rcS (by assumption) | exact MP_ar rfl (by assumption) | exact MP_sc rfl (by assumption)) (by first | omega | assumption) | exact mp_sT (by first | assumption | exact MP_rcS (by assumption) | exact MP_ar rfl (by assumption) | exact MP_sc rfl (by assumption)) (by first | omega | assumption) | exact mp_sM (by first | assumption | exact MP_rcS (by assumption) | exact MP_ar rfl (by assumption) | exact MP_sc rfl (by assumption)) (by first | omega | assumption) | exact mp_cS (by first | assumption | exact MP_rcS (by assumption) | exact MP_ar rfl (by assumption) | exact MP_sc rfl (by assumption)) (by first | omega | assumption) | exact va_g | exact va_n (by decide) | rfl) ?_
        refine V_ireturn rfl rfl (by first | rfl | exact b2_nar _ | assumption | decide) ?_
        first | exact Pj_ret0 rfl | exact Pj_ret rfl rfl | exact Pj_ret (by simp [bodyV, b2, *]) rfl
      · refine V_tabIn (off := 58) (tg := 74) rfl (by decide) (by decide) (by decide) (by decide) ?_
        refine V_aload_n rfl rfl ?_
        refine V_iload_n rfl rfl ?_
        refine V_callVi rfl rfl m_MD_stepsOf_w m_MD_stepsOf_x rfl (by decide) rfl (s_mso (by first | assumption | exact blkW_at) (by first | assumption | exact MP_rcS (by assumption) | exact MP_ar rfl (by assumption) | exact MP_sc rfl (by assumption)) _ (by first | omega | assumption)) (by decide) rfl (by first | assumption | exact blkW_0 | exact bAt_0 (by assumption) | rfl) (Nat.le_of_ble_eq_true rfl) ?_
        refine V_ireturn rfl rfl (by first | rfl | exact b2_nar _ | assumption | decide) ?_
        first | exact Pj_ret0 rfl | exact Pj_ret rfl rfl | exact Pj_ret (by simp [bodyV, b2, *]) rfl
      · refine V_tabIn (off := 64) (tg := 80) rfl (by decide) (by decide) (by decide) (by decide) ?_
        refine V_aload_n rfl rfl ?_
        refine V_getI rfl rfl (by first | assumption | exact blkW_0 | exact bAt_0 (by assumption) | rfl) (by rfl) (by first | exact rcS_g34 | rfl) ?_
        refine V_iload_n rfl rfl ?_
        refine V_callSi rfl rfl (Or.inl rfl) m_MD_has_w m_MD_has_x rfl rfl (s_mhas _ (by first | omega | assumption)) (by decide) rfl (Nat.le_of_ble_eq_true rfl) ?_
        first | refine V_ifb_eq rfl (fun h88 => ?_) (fun h88 => ?_) | refine V_if_eq rfl (fun h88 => ?_) (fun h88 => ?_)
        · refine V_iconst (v := 0) rfl (by decide) ?_
          refine V_ireturn rfl rfl (by first | rfl | exact b2_nar _ | assumption | decide) ?_
          first | exact Pj_ret0 rfl | exact Pj_ret rfl rfl | exact Pj_ret (by simp [bodyV, b2, *]) rfl
        · refine V_iconst (v := 1) rfl (by decide) ?_
          refine V_goto rfl ?_
          refine V_ireturn rfl rfl (by first | rfl | exact b2_nar _ | assumption | decide) ?_
          first | exact Pj_ret0 rfl | exact Pj_ret rfl rfl | exact Pj_ret (by simp [bodyV, b2, *]) rfl
      · refine V_tabIn (off := 81) (tg := 97) rfl (by decide) (by decide) (by decide) (by decide) ?_
        refine V_aload_n rfl rfl ?_
        refine V_iload_n rfl rfl ?_
        refine V_callVi rfl rfl m_MD_ring_w m_MD_ring_x rfl (by decide) rfl (s_ring (by first | assumption | exact blkW_at) (by first | assumption | exact MP_rcS (by assumption) | exact MP_ar rfl (by assumption) | exact MP_sc rfl (by assumption)) _ (by first | omega | assumption)) (by decide) rfl (by first | assumption | exact blkW_0 | exact bAt_0 (by assumption) | rfl) (Nat.le_of_ble_eq_true rfl) ?_
        refine V_ireturn rfl rfl (by first | rfl | exact b2_nar _ | assumption | decide) ?_
        first | exact Pj_ret0 rfl | exact Pj_ret rfl rfl | exact Pj_ret (by simp [bodyV, b2, *]) rfl
      · refine V_tabIn (off := 87) (tg := 103) rfl (by decide) (by decide) (by decide) (by decide) ?_
        refine V_aload_n rfl rfl ?_
        refine V_iload_n rfl rfl ?_
        refine V_callVi rfl rfl m_MD_over_w m_MD_over_x rfl (by decide) rfl (s_ovr (by first | assumption | exact blkW_at) (by first | assumption | exact MP_rcS (by assumption) | exact MP_ar rfl (by assumption) | exact MP_sc rfl (by assumption)) _ (by first | omega | assumption)) (by decide) rfl (by first | assumption | exact blkW_0 | exact bAt_0 (by assumption) | rfl) (Nat.le_of_ble_eq_true rfl) ?_
        refine V_ireturn rfl rfl (by first | rfl | exact b2_nar _ | assumption | decide) ?_
        first | exact Pj_ret0 rfl | exact Pj_ret rfl rfl | exact Pj_ret (by simp [bodyV, b2, *]) rfl
      · refine V_tabIn (off := 93) (tg := 109) rfl (by decide) (by decide) (by decide) (by decide) ?_
        refine V_aload_n rfl rfl ?_
        refine V_iload_n rfl rfl ?_
        refine V_callVi rfl rfl m_MD_calledBy_w m_MD_calledBy_x rfl (by decide) rfl (s_clB (by first | assumption | exact blkW_at) (by first | assumption | exact MP_rcS (by assumption) | exact MP_ar rfl (by assumption) | exact MP_sc rfl (by assumption)) _ (by first | omega | assumption)) (by decide) rfl (by first | assumption | exact blkW_0 | exact bAt_0 (by assumption) | rfl) (Nat.le_of_ble_eq_true rfl) ?_
        refine V_ireturn rfl rfl (by first | rfl | exact b2_nar _ | assumption | decide) ?_
        first | exact Pj_ret0 rfl | exact Pj_ret rfl rfl | exact Pj_ret (by simp [bodyV, b2, *]) rfl
set_option maxRecDepth 20000 in
set_option maxHeartbeats 1000000 in
theorem w_callers (hm : MP p sc ar) (b : Int32) : Mt g 8 m_MD_callers [.ref md, .int b] (blkW 7 h md sc ar) sz u (Pj (A_callers p (ar 15) b) h md sc ar) sz u := by
  obtain ⟨hT, hB, hS, hC⟩ := hm.1.1
  unfold A_callers
  refine Mt.of m_MD_callers_w m_MD_callers_x m_MD_callers_c rfl rfl (ls := [.ref md, .int b]) rfl ?_
  refine V_aload_n rfl rfl ?_
  refine V_iload_n rfl rfl ?_
  refine V_callVi rfl rfl m_MD_isBody_w m_MD_isBody_x rfl (by decide) rfl (s_mIsB (by first | assumption | exact blkW_at) (by first | assumption | exact MP_rcS (by assumption) | exact MP_ar rfl (by assumption) | exact MP_sc rfl (by assumption)) _) (by decide) rfl (by first | assumption | exact blkW_0 | exact bAt_0 (by assumption) | rfl) (Nat.le_of_ble_eq_true rfl) ?_
  cases ho : inN b (nB p)
  · rw [if_neg (by decide)]
    refine V_if_neF rfl (rfl) ?_
    refine V_ldc rfl rfl ?_
    refine V_ireturn rfl rfl (by first | rfl | exact b2_nar _ | assumption | decide) ?_
    first | exact Pj_ret0 rfl | exact Pj_ret rfl rfl
  · rw [if_pos rfl]
    refine V_if_neT rfl (by decide) ?_
    obtain ⟨t, ht, rfl⟩ := inN_t (by omega) ho
    rw [nI_clamp (by omega)]
    refine V_aload_n rfl rfl ?_
    refine V_callVn rfl rfl m_MD_reach_w m_MD_reach_x rfl (by decide) rfl (w_reach (by first | assumption | exact MP_rcS (by assumption) | exact MP_ar rfl (by assumption) | exact MP_sc rfl (by assumption))) (by decide) rfl (by first | assumption | exact blkW_0 | exact bAt_0 (by assumption) | rfl) (Nat.le_of_ble_eq_true rfl) ?_
    refine V_aload_n rfl rfl ?_
    refine V_iload_n rfl rfl ?_
    refine V_callVi rfl rfl m_MD_callersOf_w m_MD_callersOf_x rfl (by decide) rfl (s_cof (by first | assumption | exact blkW_at) (by first | assumption | exact MP_rcS (by assumption) | exact MP_ar rfl (by assumption) | exact MP_sc rfl (by assumption)) _ (by first | omega | assumption)) (by decide) rfl (by first | assumption | exact blkW_0 | exact bAt_0 (by assumption) | rfl) (Nat.le_of_ble_eq_true rfl) ?_
    refine V_ireturn rfl rfl (by first | rfl | exact b2_nar _ | assumption | decide) ?_
    first | exact Pj_ret0 rfl | exact Pj_ret rfl rfl | exact Pj_ret0 (by simp [WRG, *]) | exact Pj_ret (by simp [WRG, *]) rfl
set_option maxRecDepth 20000 in
set_option maxHeartbeats 1000000 in
theorem w_call (hm : MP p sc ar) (c w : Int32) : Mt g 8 m_MD_call [.ref md, .int c, .int w] (blkW 7 h md sc ar) sz u (Pj (A_call p (ar 15) c w) h md sc ar) sz u := by
  obtain ⟨hT, hB, hS, hC⟩ := hm.1.1
  unfold A_call
  refine Mt.of m_MD_call_w m_MD_call_x m_MD_call_c rfl rfl (ls := [.ref md, .int c, .int w]) rfl ?_
  refine V_aload_n rfl rfl ?_
  refine V_iload_n rfl rfl ?_
  refine V_callVi rfl rfl m_MD_isCall_w m_MD_isCall_x rfl (by decide) rfl (s_mIsC (by first | assumption | exact blkW_at) (by first | assumption | exact MP_rcS (by assumption) | exact MP_ar rfl (by assumption) | exact MP_sc rfl (by assumption)) _) (by decide) rfl (by first | assumption | exact blkW_0 | exact bAt_0 (by assumption) | rfl) (Nat.le_of_ble_eq_true rfl) ?_
  cases ho : inN c (nC p)
  · rw [if_neg (by decide)]
    refine V_if_neF rfl (rfl) ?_
    refine V_ldc rfl rfl ?_
    refine V_ireturn rfl rfl (by first | rfl | exact b2_nar _ | assumption | decide) ?_
    first | exact Pj_ret0 rfl | exact Pj_ret rfl rfl
  · rw [if_pos rfl]
    refine V_if_neT rfl (by decide) ?_
    obtain ⟨t, ht, rfl⟩ := inN_t (by omega) ho
    rw [nI_clamp (by omega)]
    have hcs := hm.1.2.2.2.2 t ht
    have hws := hm.1.2.2.2.1 (cS p t) hcs.1
    refine V_aload_n rfl rfl ?_
    refine V_callVn rfl rfl m_MD_reach_w m_MD_reach_x rfl (by decide) rfl (w_reach (by first | assumption | exact MP_rcS (by assumption) | exact MP_ar rfl (by assumption) | exact MP_sc rfl (by assumption))) (by decide) rfl (by first | assumption | exact blkW_0 | exact bAt_0 (by assumption) | rfl) (Nat.le_of_ble_eq_true rfl) ?_
    refine V_iload_n rfl rfl ?_
    cases hw : inN w 7
    · rw [if_neg (by decide)]
      refine V_tabOut (tg := 129) rfl (inN_sw hw (by decide)) (by decide) ?_
      refine V_ldc rfl rfl ?_
      refine V_ireturn rfl rfl (by first | rfl | exact b2_nar _ | assumption | decide) ?_
      first | exact Pj_ret0 rfl | exact Pj_ret rfl rfl | exact Pj_ret rfl (by rw [rcS_rcS])
    · obtain ⟨j, hj, rfl⟩ := inN_t (by decide) hw
      rw [if_pos rfl, nI_clamp (by omega)]
      rcases (show j = 0 ∨ j = 1 ∨ j = 2 ∨ j = 3 ∨ j = 4 ∨ j = 5 ∨ j = 6 by omega) with rfl | rfl | rfl | rfl | rfl | rfl | rfl
      · refine V_tabIn (off := 44) (tg := 60) rfl (by decide) (by decide) (by decide) (by decide) ?_
        refine V_aload_n rfl rfl ?_
        refine V_getfield rfl rfl (by first | assumption | exact blkW_0 | exact bAt_0 (by assumption) | rfl) (by rfl) ?_
        refine V_aload_n rfl rfl ?_
        refine V_getfield rfl rfl (by first | assumption | exact blkW_0 | exact bAt_0 (by assumption) | rfl) (by rfl) ?_
        refine V_iload_n rfl rfl ?_
        refine V_iald rfl (by first | assumption | exact blkW_i rfl rfl | exact blkW_z rfl rfl | exact bAt_i (by assumption) rfl rfl | exact bAt_z (by assumption) rfl rfl | rfl) (by first | with_reducible rfl | exact nI_add 2 _ | exact nI_add 26 _ | exact fa_lit _ | assumption) (by first | omega | assumption | decide) (by first | decide | omega | assumption) (by first | exact mp_isC (by first | assumption | exact MP_rcS (by assumption) | exact MP_ar rfl (by assumption) | exact MP_sc rfl (by assumption)) (by first | omega | assumption) | exact mp_par (by first | assumption | exact MP_rcS (by assumption) | exact MP_ar rfl (by assumption) | exact MP_sc rfl (by assumption)) (by first | omega | assumption) | exact mp_abv (by first | assumption | exact MP_rcS (by assumption) | exact MP_ar rfl (by assumption) | exact MP_sc rfl (by assumption)) (by first | omega | assumption) | exact mp_dep (by first | assumption | exact MP_rcS (by assumption) | exact MP_ar rfl (by assumption) | exact MP_sc rfl (by assumption)) (by first | omega | assumption) | exact mp_bT (by first | assumption | exact MP_rcS (by assumption) | exact MP_ar rfl (by assumption) | exact MP_sc rfl (by assumption)) (by first | omega | assumption) | exact mp_bM (by first | assumption | exact MP_rcS (by assumption) | exact MP_ar rfl (by assumption) | exact MP_sc rfl (by assumption)) (by first | omega | assumption) | exact mp_sK (by first | assumption | exact MP_rcS (by assumption) | exact MP_ar rfl (by assumption) | exact MP_sc rfl (by assumption)) (by first | omega | assumption) | exact mp_sB (by first | assumption | exact MP_rcS (by assumption) | exact MP_ar rfl (by assumption) | exact MP_sc rfl (by assumption)) (by first | omega | assumption) | exact mp_sT (by first | assumption | exact MP_rcS (by assumption) | exact MP_ar rfl (by assumption) | exact MP_sc rfl (by assumption)) (by first | omega | assumption) | exact mp_sM (by first | assumption | exact MP_rcS (by assumption) | exact MP_ar rfl (by assumption) | exact MP_sc rfl (by assumption)) (by first | omega | assumption) | exact mp_cS (by first | assumption | exact MP_rcS (by assumption) | exact MP_ar rfl (by assumption) | exact MP_sc rfl (by assumption)) (by first | omega | assumption) | exact va_g | exact va_n (by decide) | rfl) ?_
        refine V_iald rfl (by first | assumption | exact blkW_i rfl rfl | exact blkW_z rfl rfl | exact bAt_i (by assumption) rfl rfl | exact bAt_z (by assumption) rfl rfl | rfl) (by first | with_reducible rfl | exact nI_add 2 _ | exact nI_add 26 _ | exact fa_lit _ | assumption) (by first | omega | assumption | decide) (by first | decide | omega | assumption) (by first | exact mp_isC (by first | assumption | exact MP_rcS (by assumption) | exact MP_ar rfl (by assumption) | exact MP_sc rfl (by assumption)) (by first | omega | assumption) | exact mp_par (by first | assumption | exact MP_rcS (by assumption) | exact MP_ar rfl (by assumption) | exact MP_sc rfl (by assumption)) (by first | omega | assumption) | exact mp_abv (by first | assumption | exact MP_rcS (by assumption) | exact MP_ar rfl (by assumption) | exact MP_sc rfl (by assumption)) (by first | omega | assumption) | exact mp_dep (by first | assumption | exact MP_rcS (by assumption) | exact MP_ar rfl (by assumption) | exact MP_sc rfl (by assumption)) (by first | omega | assumption) | exact mp_bT (by first | assumption | exact MP_rcS (by assumption) | exact MP_ar rfl (by assumption) | exact MP_sc rfl (by assumption)) (by first | omega | assumption) | exact mp_bM (by first | assumption | exact MP_rcS (by assumption) | exact MP_ar rfl (by assumption) | exact MP_sc rfl (by assumption)) (by first | omega | assumption) | exact mp_sK (by first | assumption | exact MP_rcS (by assumption) | exact MP_ar rfl (by assumption) | exact MP_sc rfl (by assumption)) (by first | omega | assumption) | exact mp_sB (by first | assumption | exact MP_rcS (by assumption) | exact MP_ar rfl (by assumption) | exact MP_sc rfl (by assumption)) (by first | omega | assumption) | exact mp_sT (by first | assumption | exact MP_rcS (by assumption) | exact MP_ar rfl (by assumption) | exact MP_sc rfl (by assumption)) (by first | omega | assumption) | exact mp_sM (by first | assumption | exact MP_rcS (by assumption) | exact MP_ar rfl (by assumption) | exact MP_sc rfl (by assumption)) (by first | omega | assumption) | exact mp_cS (by first | assumption | exact MP_rcS (by assumption) | exact MP_ar rfl (by assumption) | exact MP_sc rfl (by assumption)) (by first | omega | assumption) | exact va_g | exact va_n (by decide) | rfl) ?_
        refine V_ireturn rfl rfl (by first | rfl | exact b2_nar _ | assumption | decide) ?_
        first | exact Pj_ret0 rfl | exact Pj_ret rfl rfl | exact Pj_ret rfl (by rw [rcS_rcS])
      · refine V_tabIn (off := 56) (tg := 72) rfl (by decide) (by decide) (by decide) (by decide) ?_
        refine V_aload_n rfl rfl ?_
        refine V_getfield rfl rfl (by first | assumption | exact blkW_0 | exact bAt_0 (by assumption) | rfl) (by rfl) ?_
        refine V_aload_n rfl rfl ?_
        refine V_getfield rfl rfl (by first | assumption | exact blkW_0 | exact bAt_0 (by assumption) | rfl) (by rfl) ?_
        refine V_iload_n rfl rfl ?_
        refine V_iald rfl (by first | assumption | exact blkW_i rfl rfl | exact blkW_z rfl rfl | exact bAt_i (by assumption) rfl rfl | exact bAt_z (by assumption) rfl rfl | rfl) (by first | with_reducible rfl | exact nI_add 2 _ | exact nI_add 26 _ | exact fa_lit _ | assumption) (by first | omega | assumption | decide) (by first | decide | omega | assumption) (by first | exact mp_isC (by first | assumption | exact MP_rcS (by assumption) | exact MP_ar rfl (by assumption) | exact MP_sc rfl (by assumption)) (by first | omega | assumption) | exact mp_par (by first | assumption | exact MP_rcS (by assumption) | exact MP_ar rfl (by assumption) | exact MP_sc rfl (by assumption)) (by first | omega | assumption) | exact mp_abv (by first | assumption | exact MP_rcS (by assumption) | exact MP_ar rfl (by assumption) | exact MP_sc rfl (by assumption)) (by first | omega | assumption) | exact mp_dep (by first | assumption | exact MP_rcS (by assumption) | exact MP_ar rfl (by assumption) | exact MP_sc rfl (by assumption)) (by first | omega | assumption) | exact mp_bT (by first | assumption | exact MP_rcS (by assumption) | exact MP_ar rfl (by assumption) | exact MP_sc rfl (by assumption)) (by first | omega | assumption) | exact mp_bM (by first | assumption | exact MP_rcS (by assumption) | exact MP_ar rfl (by assumption) | exact MP_sc rfl (by assumption)) (by first | omega | assumption) | exact mp_sK (by first | assumption | exact MP_rcS (by assumption) | exact MP_ar rfl (by assumption) | exact MP_sc rfl (by assumption)) (by first | omega | assumption) | exact mp_sB (by first | assumption | exact MP_rcS (by assumption) | exact MP_ar rfl (by assumption) | exact MP_sc rfl (by assumption)) (by first | omega | assumption) | exact mp_sT (by first | assumption | exact MP_rcS (by assumption) | exact MP_ar rfl (by assumption) | exact MP_sc rfl (by assumption)) (by first | omega | assumption) | exact mp_sM (by first | assumption | exact MP_rcS (by assumption) | exact MP_ar rfl (by assumption) | exact MP_sc rfl (by assumption)) (by first | omega | assumption) | exact mp_cS (by first | assumption | exact MP_rcS (by assumption) | exact MP_ar rfl (by assumption) | exact MP_sc rfl (by assumption)) (by first | omega | assumption) | exact va_g | exact va_n (by decide) | rfl) ?_
        refine V_iald rfl (by first | assumption | exact blkW_i rfl rfl | exact blkW_z rfl rfl | exact bAt_i (by assumption) rfl rfl | exact bAt_z (by assumption) rfl rfl | rfl) (by first | with_reducible rfl | exact nI_add 2 _ | exact nI_add 26 _ | exact fa_lit _ | assumption) (by first | omega | assumption | decide) (by first | decide | omega | assumption) (by first | exact mp_isC (by first | assumption | exact MP_rcS (by assumption) | exact MP_ar rfl (by assumption) | exact MP_sc rfl (by assumption)) (by first | omega | assumption) | exact mp_par (by first | assumption | exact MP_rcS (by assumption) | exact MP_ar rfl (by assumption) | exact MP_sc rfl (by assumption)) (by first | omega | assumption) | exact mp_abv (by first | assumption | exact MP_rcS (by assumption) | exact MP_ar rfl (by assumption) | exact MP_sc rfl (by assumption)) (by first | omega | assumption) | exact mp_dep (by first | assumption | exact MP_rcS (by assumption) | exact MP_ar rfl (by assumption) | exact MP_sc rfl (by assumption)) (by first | omega | assumption) | exact mp_bT (by first | assumption | exact MP_rcS (by assumption) | exact MP_ar rfl (by assumption) | exact MP_sc rfl (by assumption)) (by first | omega | assumption) | exact mp_bM (by first | assumption | exact MP_rcS (by assumption) | exact MP_ar rfl (by assumption) | exact MP_sc rfl (by assumption)) (by first | omega | assumption) | exact mp_sK (by first | assumption | exact MP_rcS (by assumption) | exact MP_ar rfl (by assumption) | exact MP_sc rfl (by assumption)) (by first | omega | assumption) | exact mp_sB (by first | assumption | exact MP_rcS (by assumption) | exact MP_ar rfl (by assumption) | exact MP_sc rfl (by assumption)) (by first | omega | assumption) | exact mp_sT (by first | assumption | exact MP_rcS (by assumption) | exact MP_ar rfl (by assumption) | exact MP_sc rfl (by assumption)) (by first | omega | assumption) | exact mp_sM (by first | assumption | exact MP_rcS (by assumption) | exact MP_ar rfl (by assumption) | exact MP_sc rfl (by assumption)) (by first | omega | assumption) | exact mp_cS (by first | assumption | exact MP_rcS (by assumption) | exact MP_ar rfl (by assumption) | exact MP_sc rfl (by assumption)) (by first | omega | assumption) | exact va_g | exact va_n (by decide) | rfl) ?_
        refine V_ireturn rfl rfl (by first | rfl | exact b2_nar _ | assumption | decide) ?_
        first | exact Pj_ret0 rfl | exact Pj_ret rfl rfl | exact Pj_ret rfl (by rw [rcS_rcS])
      · refine V_tabIn (off := 68) (tg := 84) rfl (by decide) (by decide) (by decide) (by decide) ?_
        refine V_aload_n rfl rfl ?_
        refine V_getfield rfl rfl (by first | assumption | exact blkW_0 | exact bAt_0 (by assumption) | rfl) (by rfl) ?_
        refine V_aload_n rfl rfl ?_
        refine V_getfield rfl rfl (by first | assumption | exact blkW_0 | exact bAt_0 (by assumption) | rfl) (by rfl) ?_
        refine V_iload_n rfl rfl ?_
        refine V_iald rfl (by first | assumption | exact blkW_i rfl rfl | exact blkW_z rfl rfl | exact bAt_i (by assumption) rfl rfl | exact bAt_z (by assumption) rfl rfl | rfl) (by first | with_reducible rfl | exact nI_add 2 _ | exact nI_add 26 _ | exact fa_lit _ | assumption) (by first | omega | assumption | decide) (by first | decide | omega | assumption) (by first | exact mp_isC (by first | assumption | exact MP_rcS (by assumption) | exact MP_ar rfl (by assumption) | exact MP_sc rfl (by assumption)) (by first | omega | assumption) | exact mp_par (by first | assumption | exact MP_rcS (by assumption) | exact MP_ar rfl (by assumption) | exact MP_sc rfl (by assumption)) (by first | omega | assumption) | exact mp_abv (by first | assumption | exact MP_rcS (by assumption) | exact MP_ar rfl (by assumption) | exact MP_sc rfl (by assumption)) (by first | omega | assumption) | exact mp_dep (by first | assumption | exact MP_rcS (by assumption) | exact MP_ar rfl (by assumption) | exact MP_sc rfl (by assumption)) (by first | omega | assumption) | exact mp_bT (by first | assumption | exact MP_rcS (by assumption) | exact MP_ar rfl (by assumption) | exact MP_sc rfl (by assumption)) (by first | omega | assumption) | exact mp_bM (by first | assumption | exact MP_rcS (by assumption) | exact MP_ar rfl (by assumption) | exact MP_sc rfl (by assumption)) (by first | omega | assumption) | exact mp_sK (by first | assumption | exact MP_rcS (by assumption) | exact MP_ar rfl (by assumption) | exact MP_sc rfl (by assumption)) (by first | omega | assumption) | exact mp_sB (by first | assumption | exact MP_rcS (by assumption) | exact MP_ar rfl (by assumption) | exact MP_sc rfl (by assumption)) (by first | omega | assumption) | exact mp_sT (by first | assumption | exact MP_rcS (by assumption) | exact MP_ar rfl (by assumption) | exact MP_sc rfl (by assumption)) (by first | omega | assumption) | exact mp_sM (by first | assumption | exact MP_rcS (by assumption) | exact MP_ar rfl (by assumption) | exact MP_sc rfl (by assumption)) (by first | omega | assumption) | exact mp_cS (by first | assumption | exact MP_rcS (by assumption) | exact MP_ar rfl (by assumption) | exact MP_sc rfl (by assumption)) (by first | omega | assumption) | exact va_g | exact va_n (by decide) | rfl) ?_
        refine V_iald rfl (by first | assumption | exact blkW_i rfl rfl | exact blkW_z rfl rfl | exact bAt_i (by assumption) rfl rfl | exact bAt_z (by assumption) rfl rfl | rfl) (by first | with_reducible rfl | exact nI_add 2 _ | exact nI_add 26 _ | exact fa_lit _ | assumption) (by first | omega | assumption | decide) (by first | decide | omega | assumption) (by first | exact mp_isC (by first | assumption | exact MP_rcS (by assumption) | exact MP_ar rfl (by assumption) | exact MP_sc rfl (by assumption)) (by first | omega | assumption) | exact mp_par (by first | assumption | exact MP_rcS (by assumption) | exact MP_ar rfl (by assumption) | exact MP_sc rfl (by assumption)) (by first | omega | assumption) | exact mp_abv (by first | assumption | exact MP_rcS (by assumption) | exact MP_ar rfl (by assumption) | exact MP_sc rfl (by assumption)) (by first | omega | assumption) | exact mp_dep (by first | assumption | exact MP_rcS (by assumption) | exact MP_ar rfl (by assumption) | exact MP_sc rfl (by assumption)) (by first | omega | assumption) | exact mp_bT (by first | assumption | exact MP_rcS (by assumption) | exact MP_ar rfl (by assumption) | exact MP_sc rfl (by assumption)) (by first | omega | assumption) | exact mp_bM (by first | assumption | exact MP_rcS (by assumption) | exact MP_ar rfl (by assumption) | exact MP_sc rfl (by assumption)) (by first | omega | assumption) | exact mp_sK (by first | assumption | exact MP_rcS (by assumption) | exact MP_ar rfl (by assumption) | exact MP_sc rfl (by assumption)) (by first | omega | assumption) | exact mp_sB (by first | assumption | exact MP_rcS (by assumption) | exact MP_ar rfl (by assumption) | exact MP_sc rfl (by assumption)) (by first | omega | assumption) | exact mp_sT (by first | assumption | exact MP_rcS (by assumption) | exact MP_ar rfl (by assumption) | exact MP_sc rfl (by assumption)) (by first | omega | assumption) | exact mp_sM (by first | assumption | exact MP_rcS (by assumption) | exact MP_ar rfl (by assumption) | exact MP_sc rfl (by assumption)) (by first | omega | assumption) | exact mp_cS (by first | assumption | exact MP_rcS (by assumption) | exact MP_ar rfl (by assumption) | exact MP_sc rfl (by assumption)) (by first | omega | assumption) | exact va_g | exact va_n (by decide) | rfl) ?_
        refine V_ireturn rfl rfl (by first | rfl | exact b2_nar _ | assumption | decide) ?_
        first | exact Pj_ret0 rfl | exact Pj_ret rfl rfl | exact Pj_ret rfl (by rw [rcS_rcS])
      · refine V_tabIn (off := 80) (tg := 96) rfl (by decide) (by decide) (by decide) (by decide) ?_
        refine V_aload_n rfl rfl ?_
        refine V_iload_n rfl rfl ?_
        refine V_aload_n rfl rfl ?_
        refine V_getfield rfl rfl (by first | assumption | exact blkW_0 | exact bAt_0 (by assumption) | rfl) (by rfl) ?_
        refine V_iconst (v := 0) rfl (by decide) ?_
        refine V_iald rfl (by first | assumption | exact blkW_i rfl rfl | exact blkW_z rfl rfl | exact bAt_i (by assumption) rfl rfl | exact bAt_z (by assumption) rfl rfl | rfl) (by first | with_reducible rfl | exact nI_add 2 _ | exact nI_add 26 _ | exact fa_lit _ | assumption) (by first | omega | assumption | decide) (by first | decide | omega | assumption) (by first | exact mp_isC (by first | assumption | exact MP_rcS (by assumption) | exact MP_ar rfl (by assumption) | exact MP_sc rfl (by assumption)) (by first | omega | assumption) | exact mp_par (by first | assumption | exact MP_rcS (by assumption) | exact MP_ar rfl (by assumption) | exact MP_sc rfl (by assumption)) (by first | omega | assumption) | exact mp_abv (by first | assumption | exact MP_rcS (by assumption) | exact MP_ar rfl (by assumption) | exact MP_sc rfl (by assumption)) (by first | omega | assumption) | exact mp_dep (by first | assumption | exact MP_rcS (by assumption) | exact MP_ar rfl (by assumption) | exact MP_sc rfl (by assumption)) (by first | omega | assumption) | exact mp_bT (by first | assumption | exact MP_rcS (by assumption) | exact MP_ar rfl (by assumption) | exact MP_sc rfl (by assumption)) (by first | omega | assumption) | exact mp_bM (by first | assumption | exact MP_rcS (by assumption) | exact MP_ar rfl (by assumption) | exact MP_sc rfl (by assumption)) (by first | omega | assumption) | exact mp_sK (by first | assumption | exact MP_rcS (by assumption) | exact MP_ar rfl (by assumption) | exact MP_sc rfl (by assumption)) (by first | omega | assumption) | exact mp_sB (by first | assumption | exact MP_rcS (by assumption) | exact MP_ar rfl (by assumption) | exact MP_sc rfl (by assumption)) (by first | omega | assumption) | exact mp_sT (by first | assumption | exact MP_rcS (by assumption) | exact MP_ar rfl (by assumption) | exact MP_sc rfl (by assumption)) (by first | omega | assumption) | exact mp_sM (by first | assumption | exact MP_rcS (by assumption) | exact MP_ar rfl (by assumption) | exact MP_sc rfl (by assumption)) (by first | omega | assumption) | exact mp_cS (by first | assumption | exact MP_rcS (by assumption) | exact MP_ar rfl (by assumption) | exact MP_sc rfl (by assumption)) (by first | omega | assumption) | exact va_g | exact va_n (by decide) | rfl) ?_
        refine V_callVi rfl rfl m_MD_mayOf_w m_MD_mayOf_x rfl (by decide) rfl (s_may (by first | assumption | exact blkW_at) (by first | assumption | exact MP_rcS (by assumption) | exact MP_ar rfl (by assumption) | exact MP_sc rfl (by assumption)) _ _ (by first | omega | assumption)) (by decide) rfl (by first | assumption | exact blkW_0 | exact bAt_0 (by assumption) | rfl) (Nat.le_of_ble_eq_true rfl) ?_
        refine V_ireturn rfl rfl (by first | rfl | exact b2_nar _ | assumption | decide) ?_
        first | exact Pj_ret0 rfl | exact Pj_ret rfl rfl | exact Pj_ret rfl (by rw [rcS_rcS])
      · refine V_tabIn (off := 92) (tg := 108) rfl (by decide) (by decide) (by decide) (by decide) ?_
        refine V_aload_n rfl rfl ?_
        refine V_iload_n rfl rfl ?_
        refine V_callVi rfl rfl m_MD_does_w m_MD_does_x rfl (by decide) rfl (s_dos (by first | assumption | exact blkW_at) (by first | assumption | exact MP_rcS (by assumption) | exact MP_ar rfl (by assumption) | exact MP_sc rfl (by assumption)) _ (by first | omega | assumption)) (by decide) rfl (by first | assumption | exact blkW_0 | exact bAt_0 (by assumption) | rfl) (Nat.le_of_ble_eq_true rfl) ?_
        refine V_ireturn rfl rfl (by first | rfl | exact b2_nar _ | assumption | decide) ?_
        first | exact Pj_ret0 rfl | exact Pj_ret rfl rfl | exact Pj_ret rfl (by rw [rcS_rcS])
      · refine V_tabIn (off := 98) (tg := 114) rfl (by decide) (by decide) (by decide) (by decide) ?_
        refine V_aload_n rfl rfl ?_
        refine V_getfield rfl rfl (by first | assumption | exact blkW_0 | exact bAt_0 (by assumption) | rfl) (by rfl) ?_
        refine V_iconst (v := 2) rfl (by decide) ?_
        refine V_iload_n rfl rfl ?_
        refine V_iadd rfl ?_
        refine V_iald rfl (by first | assumption | exact blkW_i rfl rfl | exact blkW_z rfl rfl | exact bAt_i (by assumption) rfl rfl | exact bAt_z (by assumption) rfl rfl | rfl) (by first | with_reducible rfl | exact nI_add 2 _ | exact nI_add 26 _ | exact fa_lit _ | assumption) (by first | omega | assumption | decide) (by first | decide | omega | assumption) (by first | exact mp_isC (by first | assumption | exact MP_rcS (by assumption) | exact MP_ar rfl (by assumption) | exact MP_sc rfl (by assumption)) (by first | omega | assumption) | exact mp_par (by first | assumption | exact MP_rcS (by assumption) | exact MP_ar rfl (by assumption) | exact MP_sc rfl (by assumption)) (by first | omega | assumption) | exact mp_abv (by first | assumption | exact MP_rcS (by assumption) | exact MP_ar rfl (by assumption) | exact MP_sc rfl (by assumption)) (by first | omega | assumption) | exact mp_dep (by first | assumption | exact MP_rcS (by assumption) | exact MP_ar rfl (by assumption) | exact MP_sc rfl (by assumption)) (by first | omega | assumption) | exact mp_bT (by first | assumption | exact MP_rcS (by assumption) | exact MP_ar rfl (by assumption) | exact MP_sc rfl (by assumption)) (by first | omega | assumption) | exact mp_bM (by first | assumption | exact MP_rcS (by assumption) | exact MP_ar rfl (by assumption) | exact MP_sc rfl (by assumption)) (by first | omega | assumption) | exact mp_sK (by first | assumption | exact MP_rcS (by assumption) | exact MP_ar rfl (by assumption) | exact MP_sc rfl (by assumption)) (by first | omega | assumption) | exact mp_sB (by first | assumption | exact MP_rcS (by assumption) | exact MP_ar rfl (by assumption) | exact MP_sc rfl (by assumption)) (by first | omega | assumption) | exact mp_sT (by first | assumption | exact MP_rcS (by assumption) | exact MP_ar rfl (by assumption) | exact MP_sc rfl (by assumption)) (by first | omega | assumption) | exact mp_sM (by first | assumption | exact MP_rcS (by assumption) | exact MP_ar rfl (by assumption) | exact MP_sc rfl (by assumption)) (by first | omega | assumption) | exact mp_cS (by first | assumption | exact MP_rcS (by assumption) | exact MP_ar rfl (by assumption) | exact MP_sc rfl (by assumption)) (by first | omega | assumption) | exact va_g | exact va_n (by decide) | rfl) ?_
        refine V_ireturn rfl rfl (by first | rfl | exact b2_nar _ | assumption | decide) ?_
        first | exact Pj_ret0 rfl | exact Pj_ret rfl rfl | exact Pj_ret rfl (by rw [rcS_rcS])
      · refine V_tabIn (off := 107) (tg := 123) rfl (by decide) (by decide) (by decide) (by decide) ?_
        refine V_aload_n rfl rfl ?_
        refine V_iload_n rfl rfl ?_
        refine V_callVi rfl rfl m_MD_breaks_w m_MD_breaks_x rfl (by decide) rfl (s_brk (by first | assumption | exact blkW_at) (by first | assumption | exact MP_rcS (by assumption) | exact MP_ar rfl (by assumption) | exact MP_sc rfl (by assumption)) _ (by first | omega | assumption)) (by decide) rfl (by first | assumption | exact blkW_0 | exact bAt_0 (by assumption) | rfl) (Nat.le_of_ble_eq_true rfl) ?_
        refine V_ireturn rfl rfl (by first | rfl | exact b2_nar _ | assumption | decide) ?_
        first | exact Pj_ret0 rfl | exact Pj_ret rfl rfl | exact Pj_ret rfl (by rw [rcS_rcS])
set_option maxRecDepth 20000 in
set_option maxHeartbeats 1000000 in
theorem w_holds (hm : MP p sc ar) (c : Int32) : Mt g 8 m_MD_holds [.ref md, .int c] (blkW 7 h md sc ar) sz u (Pj (A_holds p (ar 15) c) h md sc ar) sz u := by
  obtain ⟨hT, hB, hS, hC⟩ := hm.1.1
  unfold A_holds
  refine Mt.of m_MD_holds_w m_MD_holds_x m_MD_holds_c rfl rfl (ls := [.ref md, .int c]) rfl ?_
  refine V_aload_n rfl rfl ?_
  refine V_iload_n rfl rfl ?_
  refine V_callVi rfl rfl m_MD_isCall_w m_MD_isCall_x rfl (by decide) rfl (s_mIsC (by first | assumption | exact blkW_at) (by first | assumption | exact MP_rcS (by assumption) | exact MP_ar rfl (by assumption) | exact MP_sc rfl (by assumption)) _) (by decide) rfl (by first | assumption | exact blkW_0 | exact bAt_0 (by assumption) | rfl) (Nat.le_of_ble_eq_true rfl) ?_
  cases ho : inN c (nC p)
  · rw [if_neg (by decide)]
    refine V_if_neF rfl (rfl) ?_
    refine V_ldc rfl rfl ?_
    refine V_ireturn rfl rfl (by first | rfl | exact b2_nar _ | assumption | decide) ?_
    first | exact Pj_ret0 rfl | exact Pj_ret rfl rfl
  · rw [if_pos rfl]
    refine V_if_neT rfl (by decide) ?_
    obtain ⟨t, ht, rfl⟩ := inN_t (by omega) ho
    rw [nI_clamp (by omega)]
    refine V_aload_n rfl rfl ?_
    refine V_getfield rfl rfl (by first | assumption | exact blkW_0 | exact bAt_0 (by assumption) | rfl) (by rfl) ?_
    refine V_iconst (v := 2) rfl (by decide) ?_
    refine V_iload_n rfl rfl ?_
    refine V_iadd rfl ?_
    refine V_iald rfl (by first | assumption | exact blkW_i rfl rfl | exact blkW_z rfl rfl | exact bAt_i (by assumption) rfl rfl | exact bAt_z (by assumption) rfl rfl | rfl) (by first | with_reducible rfl | exact nI_add 2 _ | exact nI_add 26 _ | exact fa_lit _ | assumption) (by first | omega | assumption | decide) (by first | decide | omega | assumption) (by first | exact mp_isC (by first | assumption | exact MP_rcS (by assumption) | exact MP_ar rfl (by assumption) | exact MP_sc rfl (by assumption)) (by first | omega | assumption) | exact mp_par (by first | assumption | exact MP_rcS (by assumption) | exact MP_ar rfl (by assumption) | exact MP_sc rfl (by assumption)) (by first | omega | assumption) | exact mp_abv (by first | assumption | exact MP_rcS (by assumption) | exact MP_ar rfl (by assumption) | exact MP_sc rfl (by assumption)) (by first | omega | assumption) | exact mp_dep (by first | assumption | exact MP_rcS (by assumption) | exact MP_ar rfl (by assumption) | exact MP_sc rfl (by assumption)) (by first | omega | assumption) | exact mp_bT (by first | assumption | exact MP_rcS (by assumption) | exact MP_ar rfl (by assumption) | exact MP_sc rfl (by assumption)) (by first | omega | assumption) | exact mp_bM (by first | assumption | exact MP_rcS (by assumption) | exact MP_ar rfl (by assumption) | exact MP_sc rfl (by assumption)) (by first | omega | assumption) | exact mp_sK (by first | assumption | exact MP_rcS (by assumption) | exact MP_ar rfl (by assumption) | exact MP_sc rfl (by assumption)) (by first | omega | assumption) | exact mp_sB (by first | assumption | exact MP_rcS (by assumption) | exact MP_ar rfl (by assumption) | exact MP_sc rfl (by assumption)) (by first | omega | assumption) | exact mp_sT (by first | assumption | exact MP_rcS (by assumption) | exact MP_ar rfl (by assumption) | exact MP_sc rfl (by assumption)) (by first | omega | assumption) | exact mp_sM (by first | assumption | exact MP_rcS (by assumption) | exact MP_ar rfl (by assumption) | exact MP_sc rfl (by assumption)) (by first | omega | assumption) | exact mp_cS (by first | assumption | exact MP_rcS (by assumption) | exact MP_ar rfl (by assumption) | exact MP_sc rfl (by assumption)) (by first | omega | assumption) | exact va_g | exact va_n (by decide) | rfl) ?_
    by_cases hn : ar 15 (2 + t) < 0
    · rw [if_pos hn]
      refine V_if_geF rfl (fun q => fa_of_nlt2 q hn) ?_
      refine V_ldcw rfl rfl ?_
      refine V_ireturn rfl rfl (by first | rfl | exact b2_nar _ | assumption | decide) ?_
      first | exact Pj_ret0 rfl | exact Pj_ret rfl rfl | exact Pj_ret0 (by simp [WRG, *]) | exact Pj_ret (by simp [WRG, *]) rfl
    · rw [if_neg hn]
      refine V_if_geT rfl (fa_of_nlt hn) ?_
      refine V_aload_n rfl rfl ?_
      refine V_callVn rfl rfl m_MD_reach_w m_MD_reach_x rfl (by decide) rfl (w_reach (by first | assumption | exact MP_rcS (by assumption) | exact MP_ar rfl (by assumption) | exact MP_sc rfl (by assumption))) (by decide) rfl (by first | assumption | exact blkW_0 | exact bAt_0 (by assumption) | rfl) (Nat.le_of_ble_eq_true rfl) ?_
      refine V_aload_n rfl rfl ?_
      refine V_iload_n rfl rfl ?_
      refine V_callVi rfl rfl m_MD_does_w m_MD_does_x rfl (by decide) rfl (s_dos (by first | assumption | exact blkW_at) (by first | assumption | exact MP_rcS (by assumption) | exact MP_ar rfl (by assumption) | exact MP_sc rfl (by assumption)) _ (by first | omega | assumption)) (by decide) rfl (by first | assumption | exact blkW_0 | exact bAt_0 (by assumption) | rfl) (Nat.le_of_ble_eq_true rfl) ?_
      refine V_iconst (v := 1) rfl (by decide) ?_
      refine V_aload_n rfl rfl ?_
      refine V_getfield rfl rfl (by first | assumption | exact blkW_0 | exact bAt_0 (by assumption) | rfl) (by rfl) ?_
      refine V_iconst (v := 2) rfl (by decide) ?_
      refine V_iload_n rfl rfl ?_
      refine V_iadd rfl ?_
      refine V_iald rfl (by first | assumption | exact blkW_i rfl rfl | exact blkW_z rfl rfl | exact bAt_i (by assumption) rfl rfl | exact bAt_z (by assumption) rfl rfl | rfl) (by first | with_reducible rfl | exact nI_add 2 _ | exact nI_add 26 _ | exact fa_lit _ | assumption) (by first | omega | assumption | decide) (by first | decide | omega | assumption) (by first | exact mp_isC (by first | assumption | exact MP_rcS (by assumption) | exact MP_ar rfl (by assumption) | exact MP_sc rfl (by assumption)) (by first | omega | assumption) | exact mp_par (by first | assumption | exact MP_rcS (by assumption) | exact MP_ar rfl (by assumption) | exact MP_sc rfl (by assumption)) (by first | omega | assumption) | exact mp_abv (by first | assumption | exact MP_rcS (by assumption) | exact MP_ar rfl (by assumption) | exact MP_sc rfl (by assumption)) (by first | omega | assumption) | exact mp_dep (by first | assumption | exact MP_rcS (by assumption) | exact MP_ar rfl (by assumption) | exact MP_sc rfl (by assumption)) (by first | omega | assumption) | exact mp_bT (by first | assumption | exact MP_rcS (by assumption) | exact MP_ar rfl (by assumption) | exact MP_sc rfl (by assumption)) (by first | omega | assumption) | exact mp_bM (by first | assumption | exact MP_rcS (by assumption) | exact MP_ar rfl (by assumption) | exact MP_sc rfl (by assumption)) (by first | omega | assumption) | exact mp_sK (by first | assumption | exact MP_rcS (by assumption) | exact MP_ar rfl (by assumption) | exact MP_sc rfl (by assumption)) (by first | omega | assumption) | exact mp_sB (by first | assumption | exact MP_rcS (by assumption) | exact MP_ar rfl (by assumption) | exact MP_sc rfl (by assumption)) (by first | omega | assumption) | exact mp_sT (by first | assumption | exact MP_rcS (by assumption) | exact MP_ar rfl (by assumption) | exact MP_sc rfl (by assumption)) (by first | omega | assumption) | exact mp_sM (by first | assumption | exact MP_rcS (by assumption) | exact MP_ar rfl (by assumption) | exact MP_sc rfl (by assumption)) (by first | omega | assumption) | exact mp_cS (by first | assumption | exact MP_rcS (by assumption) | exact MP_ar rfl (by assumption) | exact MP_sc rfl (by assumption)) (by first | omega | assumption) | exact va_g | exact va_n (by decide) | rfl) ?_
      refine V_ishl rfl ?_
      refine V_iconst (v := (-1)) rfl (by decide) ?_
      refine V_ixor rfl ?_
      refine V_iand rfl ?_
      first | refine V_ifb_ne rfl (fun h48 => ?_) (fun h48 => ?_) | refine V_if_ne rfl (fun h48 => ?_) (fun h48 => ?_)
      · refine V_iconst (v := 0) rfl (by decide) ?_
        refine V_ireturn rfl rfl (by first | rfl | exact b2_nar _ | assumption | decide) ?_
        simp only [rcS_g34, rcS_g35] at h48
        first | exact Pj_ret (by rw [decide_eq_true h48]; rfl) rfl | exact Pj_ret (by rw [decide_eq_false h48]; rfl) rfl
      · refine V_iconst (v := 1) rfl (by decide) ?_
        refine V_goto rfl ?_
        refine V_ireturn rfl rfl (by first | rfl | exact b2_nar _ | assumption | decide) ?_
        simp only [rcS_g34, rcS_g35] at h48
        first | exact Pj_ret (by rw [decide_eq_true h48]; rfl) rfl | exact Pj_ret (by rw [decide_eq_false h48]; rfl) rfl
set_option maxRecDepth 20000 in
set_option maxHeartbeats 1000000 in
theorem w_isBelow (hm : MP p sc ar) (t x : Int32) : Mt g 2 m_MD_isBelow [.ref md, .int t, .int x] (blkW 7 h md sc ar) sz u (Pj (A_isBelow p t x) h md sc ar) sz u := by
  obtain ⟨hT, hB, hS, hC⟩ := hm.1.1
  unfold A_isBelow
  refine Mt.of m_MD_isBelow_w m_MD_isBelow_x m_MD_isBelow_c rfl rfl (ls := [.ref md, .int t, .int x]) rfl ?_
  refine V_aload_n rfl rfl ?_
  refine V_iload_n rfl rfl ?_
  refine V_callVi rfl rfl m_MD_isType_w m_MD_isType_x rfl (by decide) rfl (s_mIsT (by first | assumption | exact blkW_at) (by first | assumption | exact MP_rcS (by assumption) | exact MP_ar rfl (by assumption) | exact MP_sc rfl (by assumption)) _) (by decide) rfl (by first | assumption | exact blkW_0 | exact bAt_0 (by assumption) | rfl) (Nat.le_of_ble_eq_true rfl) ?_
  cases h1 : inN t (nT p)
  · refine V_if_eqT rfl (rfl) ?_
    refine V_ldc rfl rfl ?_
    refine V_ireturn rfl rfl (by first | rfl | exact b2_nar _ | assumption | decide) ?_
    exact Pj_ret0 rfl
  · refine V_if_eqF rfl (by decide) ?_
    obtain ⟨j, hj, rfl⟩ := inN_t (by omega) h1
    refine V_aload_n rfl rfl ?_
    refine V_iload_n rfl rfl ?_
    refine V_callVi rfl rfl m_MD_isType_w m_MD_isType_x rfl (by decide) rfl (s_mIsT (by first | assumption | exact blkW_at) (by first | assumption | exact MP_rcS (by assumption) | exact MP_ar rfl (by assumption) | exact MP_sc rfl (by assumption)) _) (by decide) rfl (by first | assumption | exact blkW_0 | exact bAt_0 (by assumption) | rfl) (Nat.le_of_ble_eq_true rfl) ?_
    cases h2 : inN x (nT p)
    · refine V_if_eqT rfl (rfl) ?_
      refine V_ldc rfl rfl ?_
      refine V_ireturn rfl rfl (by first | rfl | exact b2_nar _ | assumption | decide) ?_
      exact Pj_ret0 rfl
    · refine V_if_eqF rfl (by decide) ?_
      obtain ⟨k, hk, rfl⟩ := inN_t (by omega) h2
      rw [nI_clamp (by omega), nI_clamp (by omega)]
      refine V_iload_n rfl rfl ?_
      refine V_iload_n rfl rfl ?_
      by_cases e : nI j = nI k
      · refine V_icmp_neF rfl (e) ?_
        refine V_ldc rfl rfl ?_
        refine V_ireturn rfl rfl (by first | rfl | exact b2_nar _ | assumption | decide) ?_
        exact Pj_ret0 (by simp [e, UNK])
      · refine V_icmp_neT rfl (e) ?_
        refine V_aload_n rfl rfl ?_
        refine V_getfield rfl rfl (by first | assumption | exact blkW_0 | exact bAt_0 (by assumption) | rfl) (by rfl) ?_
        refine V_iload_n rfl rfl ?_
        refine V_iald rfl (by first | assumption | exact blkW_i rfl rfl | exact blkW_z rfl rfl | exact bAt_i (by assumption) rfl rfl | exact bAt_z (by assumption) rfl rfl | rfl) (by first | with_reducible rfl | exact nI_add 2 _ | exact nI_add 26 _ | exact fa_lit _ | assumption) (by first | omega | assumption | decide) (by first | decide | omega | assumption) (by first | exact mp_isC (by first | assumption | exact MP_rcS (by assumption) | exact MP_ar rfl (by assumption) | exact MP_sc rfl (by assumption)) (by first | omega | assumption) | exact mp_par (by first | assumption | exact MP_rcS (by assumption) | exact MP_ar rfl (by assumption) | exact MP_sc rfl (by assumption)) (by first | omega | assumption) | exact mp_abv (by first | assumption | exact MP_rcS (by assumption) | exact MP_ar rfl (by assumption) | exact MP_sc rfl (by assumption)) (by first | omega | assumption) | exact mp_dep (by first | assumption | exact MP_rcS (by assumption) | exact MP_ar rfl (by assumption) | exact MP_sc rfl (by assumption)) (by first | omega | assumption) | exact mp_bT (by first | assumption | exact MP_rcS (by assumption) | exact MP_ar rfl (by assumption) | exact MP_sc rfl (by assumption)) (by first | omega | assumption) | exact mp_bM (by first | assumption | exact MP_rcS (by assumption) | exact MP_ar rfl (by assumption) | exact MP_sc rfl (by assumption)) (by first | omega | assumption) | exact mp_sK (by first | assumption | exact MP_rcS (by assumption) | exact MP_ar rfl (by assumption) | exact MP_sc rfl (by assumption)) (by first | omega | assumption) | exact mp_sB (by first | assumption | exact MP_rcS (by assumption) | exact MP_ar rfl (by assumption) | exact MP_sc rfl (by assumption)) (by first | omega | assumption) | exact mp_sT (by first | assumption | exact MP_rcS (by assumption) | exact MP_ar rfl (by assumption) | exact MP_sc rfl (by assumption)) (by first | omega | assumption) | exact mp_sM (by first | assumption | exact MP_rcS (by assumption) | exact MP_ar rfl (by assumption) | exact MP_sc rfl (by assumption)) (by first | omega | assumption) | exact mp_cS (by first | assumption | exact MP_rcS (by assumption) | exact MP_ar rfl (by assumption) | exact MP_sc rfl (by assumption)) (by first | omega | assumption) | exact va_g | exact va_n (by decide) | rfl) ?_
        refine V_iload_n rfl rfl ?_
        refine V_callSi rfl rfl (Or.inl rfl) m_MD_has_w m_MD_has_x rfl rfl (s_mhas _ (by first | omega | assumption)) (by decide) rfl (Nat.le_of_ble_eq_true rfl) ?_
        first | refine V_ifb_eq rfl (fun h34 => ?_) (fun h34 => ?_) | refine V_if_eq rfl (fun h34 => ?_) (fun h34 => ?_)
        · refine V_iconst (v := 0) rfl (by decide) ?_
          refine V_ireturn rfl rfl (by first | rfl | exact b2_nar _ | assumption | decide) ?_
          exact Pj_ret0 (by simp [b2, *])
        · refine V_iconst (v := 1) rfl (by decide) ?_
          refine V_goto rfl ?_
          refine V_ireturn rfl rfl (by first | rfl | exact b2_nar _ | assumption | decide) ?_
          exact Pj_ret0 (by simp [b2, *])
set_option maxRecDepth 20000 in
set_option maxHeartbeats 1000000 in
theorem w_common (hm : MP p sc ar) (t x : Int32) : Mt g 2 m_MD_common [.ref md, .int t, .int x] (blkW 7 h md sc ar) sz u (Pj (A_common p t x) h md sc ar) sz u := by
  obtain ⟨hT, hB, hS, hC⟩ := hm.1.1
  unfold A_common
  refine Mt.of m_MD_common_w m_MD_common_x m_MD_common_c rfl rfl (ls := [.ref md, .int t, .int x, .retAddr 0]) rfl ?_
  refine V_aload_n rfl rfl ?_
  refine V_iload_n rfl rfl ?_
  refine V_callVi rfl rfl m_MD_isType_w m_MD_isType_x rfl (by decide) rfl (s_mIsT (by first | assumption | exact blkW_at) (by first | assumption | exact MP_rcS (by assumption) | exact MP_ar rfl (by assumption) | exact MP_sc rfl (by assumption)) _) (by decide) rfl (by first | assumption | exact blkW_0 | exact bAt_0 (by assumption) | rfl) (Nat.le_of_ble_eq_true rfl) ?_
  cases h1 : inN t (nT p)
  · refine V_if_eqT rfl (rfl) ?_
    refine V_ldc rfl rfl ?_
    refine V_ireturn rfl rfl (by first | rfl | exact b2_nar _ | assumption | decide) ?_
    exact Pj_ret0 rfl
  · refine V_if_eqF rfl (by decide) ?_
    obtain ⟨j, hj, rfl⟩ := inN_t (by omega) h1
    refine V_aload_n rfl rfl ?_
    refine V_iload_n rfl rfl ?_
    refine V_callVi rfl rfl m_MD_isType_w m_MD_isType_x rfl (by decide) rfl (s_mIsT (by first | assumption | exact blkW_at) (by first | assumption | exact MP_rcS (by assumption) | exact MP_ar rfl (by assumption) | exact MP_sc rfl (by assumption)) _) (by decide) rfl (by first | assumption | exact blkW_0 | exact bAt_0 (by assumption) | rfl) (Nat.le_of_ble_eq_true rfl) ?_
    cases h2 : inN x (nT p)
    · refine V_if_eqT rfl (rfl) ?_
      refine V_ldc rfl rfl ?_
      refine V_ireturn rfl rfl (by first | rfl | exact b2_nar _ | assumption | decide) ?_
      exact Pj_ret0 rfl
    · refine V_if_eqF rfl (by decide) ?_
      obtain ⟨k, hk, rfl⟩ := inN_t (by omega) h2
      rw [nI_clamp (n := j) (by omega), nI_clamp (n := k) (by omega)]
      refine V_iload_n rfl rfl ?_
      refine V_iload_n rfl rfl ?_
      by_cases e : nI j = nI k
      · refine V_icmp_neF rfl (e) ?_
        refine V_ldc rfl rfl ?_
        refine V_ireturn rfl rfl (by first | rfl | exact b2_nar _ | assumption | decide) ?_
        exact Pj_ret0 (by simp [e, UNK])
      · refine V_icmp_neT rfl (e) ?_
        rw [decide_eq_false e]
        cases hc1 : isC p j
        · refine V_aload_n rfl rfl ?_
          refine V_getfield rfl rfl (by first | assumption | exact blkW_0 | exact bAt_0 (by assumption) | rfl) (by rfl) ?_
          refine V_iload_n rfl rfl ?_
          refine V_bald rfl (by first | assumption | exact blkW_i rfl rfl | exact blkW_z rfl rfl | exact bAt_i (by assumption) rfl rfl | exact bAt_z (by assumption) rfl rfl | rfl) (by first | with_reducible rfl | exact nI_add 2 _ | exact nI_add 26 _ | exact fa_lit _ | assumption) (by first | omega | assumption | decide) (by first | decide | omega | assumption) (by first | exact mp_isC (by first | assumption | exact MP_rcS (by assumption) | exact MP_ar rfl (by assumption) | exact MP_sc rfl (by assumption)) (by first | omega | assumption) | exact mp_par (by first | assumption | exact MP_rcS (by assumption) | exact MP_ar rfl (by assumption) | exact MP_sc rfl (by assumption)) (by first | omega | assumption) | exact mp_abv (by first | assumption | exact MP_rcS (by assumption) | exact MP_ar rfl (by assumption) | exact MP_sc rfl (by assumption)) (by first | omega | assumption) | exact mp_dep (by first | assumption | exact MP_rcS (by assumption) | exact MP_ar rfl (by assumption) | exact MP_sc rfl (by assumption)) (by first | omega | assumption) | exact mp_bT (by first | assumption | exact MP_rcS (by assumption) | exact MP_ar rfl (by assumption) | exact MP_sc rfl (by assumption)) (by first | omega | assumption) | exact mp_bM (by first | assumption | exact MP_rcS (by assumption) | exact MP_ar rfl (by assumption) | exact MP_sc rfl (by assumption)) (by first | omega | assumption) | exact mp_sK (by first | assumption | exact MP_rcS (by assumption) | exact MP_ar rfl (by assumption) | exact MP_sc rfl (by assumption)) (by first | omega | assumption) | exact mp_sB (by first | assumption | exact MP_rcS (by assumption) | exact MP_ar rfl (by assumption) | exact MP_sc rfl (by assumption)) (by first | omega | assumption) | exact mp_sT (by first | assumption | exact MP_rcS (by assumption) | exact MP_ar rfl (by assumption) | exact MP_sc rfl (by assumption)) (by first | omega | assumption) | exact mp_sM (by first | assumption | exact MP_rcS (by assumption) | exact MP_ar rfl (by assumption) | exact MP_sc rfl (by assumption)) (by first | omega | assumption) | exact mp_cS (by first | assumption | exact MP_rcS (by assumption) | exact MP_ar rfl (by assumption) | exact MP_sc rfl (by assumption)) (by first | omega | assumption) | exact va_g | exact va_n (by decide) | rfl) ?_
          rw [hc1]
          refine V_if_eqT rfl (rfl) ?_
          refine V_ldcw rfl rfl ?_
          refine V_ireturn rfl rfl (by first | rfl | exact b2_nar _ | assumption | decide) ?_
          exact Pj_ret0 rfl
        · refine V_aload_n rfl rfl ?_
          refine V_getfield rfl rfl (by first | assumption | exact blkW_0 | exact bAt_0 (by assumption) | rfl) (by rfl) ?_
          refine V_iload_n rfl rfl ?_
          refine V_bald rfl (by first | assumption | exact blkW_i rfl rfl | exact blkW_z rfl rfl | exact bAt_i (by assumption) rfl rfl | exact bAt_z (by assumption) rfl rfl | rfl) (by first | with_reducible rfl | exact nI_add 2 _ | exact nI_add 26 _ | exact fa_lit _ | assumption) (by first | omega | assumption | decide) (by first | decide | omega | assumption) (by first | exact mp_isC (by first | assumption | exact MP_rcS (by assumption) | exact MP_ar rfl (by assumption) | exact MP_sc rfl (by assumption)) (by first | omega | assumption) | exact mp_par (by first | assumption | exact MP_rcS (by assumption) | exact MP_ar rfl (by assumption) | exact MP_sc rfl (by assumption)) (by first | omega | assumption) | exact mp_abv (by first | assumption | exact MP_rcS (by assumption) | exact MP_ar rfl (by assumption) | exact MP_sc rfl (by assumption)) (by first | omega | assumption) | exact mp_dep (by first | assumption | exact MP_rcS (by assumption) | exact MP_ar rfl (by assumption) | exact MP_sc rfl (by assumption)) (by first | omega | assumption) | exact mp_bT (by first | assumption | exact MP_rcS (by assumption) | exact MP_ar rfl (by assumption) | exact MP_sc rfl (by assumption)) (by first | omega | assumption) | exact mp_bM (by first | assumption | exact MP_rcS (by assumption) | exact MP_ar rfl (by assumption) | exact MP_sc rfl (by assumption)) (by first | omega | assumption) | exact mp_sK (by first | assumption | exact MP_rcS (by assumption) | exact MP_ar rfl (by assumption) | exact MP_sc rfl (by assumption)) (by first | omega | assumption) | exact mp_sB (by first | assumption | exact MP_rcS (by assumption) | exact MP_ar rfl (by assumption) | exact MP_sc rfl (by assumption)) (by first | omega | assumption) | exact mp_sT (by first | assumption | exact MP_rcS (by assumption) | exact MP_ar rfl (by assumption) | exact MP_sc rfl (by assumption)) (by first | omega | assumption) | exact mp_sM (by first | assumption | exact MP_rcS (by assumption) | exact MP_ar rfl (by assumption) | exact MP_sc rfl (by assumption)) (by first | omega | assumption) | exact mp_cS (by first | assumption | exact MP_rcS (by assumption) | exact MP_ar rfl (by assumption) | exact MP_sc rfl (by assumption)) (by first | omega | assumption) | exact va_g | exact va_n (by decide) | rfl) ?_
          rw [hc1]
          refine V_if_eqF rfl (by decide) ?_
          cases hc2 : isC p k
          · refine V_aload_n rfl rfl ?_
            refine V_getfield rfl rfl (by first | assumption | exact blkW_0 | exact bAt_0 (by assumption) | rfl) (by rfl) ?_
            refine V_iload_n rfl rfl ?_
            refine V_bald rfl (by first | assumption | exact blkW_i rfl rfl | exact blkW_z rfl rfl | exact bAt_i (by assumption) rfl rfl | exact bAt_z (by assumption) rfl rfl | rfl) (by first | with_reducible rfl | exact nI_add 2 _ | exact nI_add 26 _ | exact fa_lit _ | assumption) (by first | omega | assumption | decide) (by first | decide | omega | assumption) (by first | exact mp_isC (by first | assumption | exact MP_rcS (by assumption) | exact MP_ar rfl (by assumption) | exact MP_sc rfl (by assumption)) (by first | omega | assumption) | exact mp_par (by first | assumption | exact MP_rcS (by assumption) | exact MP_ar rfl (by assumption) | exact MP_sc rfl (by assumption)) (by first | omega | assumption) | exact mp_abv (by first | assumption | exact MP_rcS (by assumption) | exact MP_ar rfl (by assumption) | exact MP_sc rfl (by assumption)) (by first | omega | assumption) | exact mp_dep (by first | assumption | exact MP_rcS (by assumption) | exact MP_ar rfl (by assumption) | exact MP_sc rfl (by assumption)) (by first | omega | assumption) | exact mp_bT (by first | assumption | exact MP_rcS (by assumption) | exact MP_ar rfl (by assumption) | exact MP_sc rfl (by assumption)) (by first | omega | assumption) | exact mp_bM (by first | assumption | exact MP_rcS (by assumption) | exact MP_ar rfl (by assumption) | exact MP_sc rfl (by assumption)) (by first | omega | assumption) | exact mp_sK (by first | assumption | exact MP_rcS (by assumption) | exact MP_ar rfl (by assumption) | exact MP_sc rfl (by assumption)) (by first | omega | assumption) | exact mp_sB (by first | assumption | exact MP_rcS (by assumption) | exact MP_ar rfl (by assumption) | exact MP_sc rfl (by assumption)) (by first | omega | assumption) | exact mp_sT (by first | assumption | exact MP_rcS (by assumption) | exact MP_ar rfl (by assumption) | exact MP_sc rfl (by assumption)) (by first | omega | assumption) | exact mp_sM (by first | assumption | exact MP_rcS (by assumption) | exact MP_ar rfl (by assumption) | exact MP_sc rfl (by assumption)) (by first | omega | assumption) | exact mp_cS (by first | assumption | exact MP_rcS (by assumption) | exact MP_ar rfl (by assumption) | exact MP_sc rfl (by assumption)) (by first | omega | assumption) | exact va_g | exact va_n (by decide) | rfl) ?_
            rw [hc2]
            refine V_if_neF rfl (rfl) ?_
            refine V_ldcw rfl rfl ?_
            refine V_ireturn rfl rfl (by first | rfl | exact b2_nar _ | assumption | decide) ?_
            exact Pj_ret0 rfl
          · refine V_aload_n rfl rfl ?_
            refine V_getfield rfl rfl (by first | assumption | exact blkW_0 | exact bAt_0 (by assumption) | rfl) (by rfl) ?_
            refine V_iload_n rfl rfl ?_
            refine V_bald rfl (by first | assumption | exact blkW_i rfl rfl | exact blkW_z rfl rfl | exact bAt_i (by assumption) rfl rfl | exact bAt_z (by assumption) rfl rfl | rfl) (by first | with_reducible rfl | exact nI_add 2 _ | exact nI_add 26 _ | exact fa_lit _ | assumption) (by first | omega | assumption | decide) (by first | decide | omega | assumption) (by first | exact mp_isC (by first | assumption | exact MP_rcS (by assumption) | exact MP_ar rfl (by assumption) | exact MP_sc rfl (by assumption)) (by first | omega | assumption) | exact mp_par (by first | assumption | exact MP_rcS (by assumption) | exact MP_ar rfl (by assumption) | exact MP_sc rfl (by assumption)) (by first | omega | assumption) | exact mp_abv (by first | assumption | exact MP_rcS (by assumption) | exact MP_ar rfl (by assumption) | exact MP_sc rfl (by assumption)) (by first | omega | assumption) | exact mp_dep (by first | assumption | exact MP_rcS (by assumption) | exact MP_ar rfl (by assumption) | exact MP_sc rfl (by assumption)) (by first | omega | assumption) | exact mp_bT (by first | assumption | exact MP_rcS (by assumption) | exact MP_ar rfl (by assumption) | exact MP_sc rfl (by assumption)) (by first | omega | assumption) | exact mp_bM (by first | assumption | exact MP_rcS (by assumption) | exact MP_ar rfl (by assumption) | exact MP_sc rfl (by assumption)) (by first | omega | assumption) | exact mp_sK (by first | assumption | exact MP_rcS (by assumption) | exact MP_ar rfl (by assumption) | exact MP_sc rfl (by assumption)) (by first | omega | assumption) | exact mp_sB (by first | assumption | exact MP_rcS (by assumption) | exact MP_ar rfl (by assumption) | exact MP_sc rfl (by assumption)) (by first | omega | assumption) | exact mp_sT (by first | assumption | exact MP_rcS (by assumption) | exact MP_ar rfl (by assumption) | exact MP_sc rfl (by assumption)) (by first | omega | assumption) | exact mp_sM (by first | assumption | exact MP_rcS (by assumption) | exact MP_ar rfl (by assumption) | exact MP_sc rfl (by assumption)) (by first | omega | assumption) | exact mp_cS (by first | assumption | exact MP_rcS (by assumption) | exact MP_ar rfl (by assumption) | exact MP_sc rfl (by assumption)) (by first | omega | assumption) | exact va_g | exact va_n (by decide) | rfl) ?_
            rw [hc2]
            refine V_if_neT rfl (by decide) ?_
            show V g _ m_MD_common (Pj (cmU p k 12 (nI j)) h md sc ar) _ _ 46 _ _ _ _ _
            refine V_iload_n rfl rfl ?_
            refine V_is3 rfl (by first | rfl | assumption) ?_
            have key : ∀ (n : Nat) (y : Int32), (y = -1 ∨ ∃ q, q < n ∧ q < nT p ∧ y = nI q) → V g 2 m_MD_common (Pj (cmU p k n y) h md sc ar) sz u 48 [.ref md, .int (nI j), .int (nI k), .int y] [] (blkW 7 h md sc ar) sz u := by
              intro n
              induction n with
              | zero =>
                intro y hy
                have e : y = -1 := by
                  rcases hy with e | ⟨q, q1, -⟩
                  · exact e
                  · omega
                subst e
                refine V_iload_n rfl rfl ?_
                refine V_if_ltT rfl (by decide) ?_
                refine V_iload_n rfl rfl ?_
                refine V_ireturn rfl rfl (by first | rfl | exact b2_nar _ | assumption | decide) ?_
                exact Pj_ret0 rfl
              | succ n ih =>
                intro y hy
                rcases hy with e | ⟨q, q1, q2, e⟩
                · subst e
                  refine V_iload_n rfl rfl ?_
                  refine V_if_ltT rfl (by decide) ?_
                  refine V_iload_n rfl rfl ?_
                  refine V_ireturn rfl rfl (by first | rfl | exact b2_nar _ | assumption | decide) ?_
                  exact Pj_ret0 rfl
                · subst e
                  have e1 : cmU p k (n + 1) (nI q) = if bt (abv p k) q then nI q else cmU p k n (par p q) := by
                    show (if nI q < 0 then _ else _) = _
                    rw [if_neg (nI_pos (by omega)), nI_clamp (by omega)]
                  refine V_iload_n rfl rfl ?_
                  refine V_if_ltF rfl (nI_pos (by omega)) ?_
                  refine V_aload_n rfl rfl ?_
                  refine V_getfield rfl rfl (by first | assumption | exact blkW_0 | exact bAt_0 (by assumption) | rfl) (by rfl) ?_
                  refine V_iload_n rfl rfl ?_
                  refine V_iald rfl (by first | assumption | exact blkW_i rfl rfl | exact blkW_z rfl rfl | exact bAt_i (by assumption) rfl rfl | exact bAt_z (by assumption) rfl rfl | rfl) (by first | with_reducible rfl | exact nI_add 2 _ | exact nI_add 26 _ | exact fa_lit _ | assumption) (by first | omega | assumption | decide) (by first | decide | omega | assumption) (by first | exact mp_isC (by first | assumption | exact MP_rcS (by assumption) | exact MP_ar rfl (by assumption) | exact MP_sc rfl (by assumption)) (by first | omega | assumption) | exact mp_par (by first | assumption | exact MP_rcS (by assumption) | exact MP_ar rfl (by assumption) | exact MP_sc rfl (by assumption)) (by first | omega | assumption) | exact mp_abv (by first | assumption | exact MP_rcS (by assumption) | exact MP_ar rfl (by assumption) | exact MP_sc rfl (by assumption)) (by first | omega | assumption) | exact mp_dep (by first | assumption | exact MP_rcS (by assumption) | exact MP_ar rfl (by assumption) | exact MP_sc rfl (by assumption)) (by first | omega | assumption) | exact mp_bT (by first | assumption | exact MP_rcS (by assumption) | exact MP_ar rfl (by assumption) | exact MP_sc rfl (by assumption)) (by first | omega | assumption) | exact mp_bM (by first | assumption | exact MP_rcS (by assumption) | exact MP_ar rfl (by assumption) | exact MP_sc rfl (by assumption)) (by first | omega | assumption) | exact mp_sK (by first | assumption | exact MP_rcS (by assumption) | exact MP_ar rfl (by assumption) | exact MP_sc rfl (by assumption)) (by first | omega | assumption) | exact mp_sB (by first | assumption | exact MP_rcS (by assumption) | exact MP_ar rfl (by assumption) | exact MP_sc rfl (by assumption)) (by first | omega | assumption) | exact mp_sT (by first | assumption | exact MP_rcS (by assumption) | exact MP_ar rfl (by assumption) | exact MP_sc rfl (by assumption)) (by first | omega | assumption) | exact mp_sM (by first | assumption | exact MP_rcS (by assumption) | exact MP_ar rfl (by assumption) | exact MP_sc rfl (by assumption)) (by first | omega | assumption) | exact mp_cS (by first | assumption | exact MP_rcS (by assumption) | exact MP_ar rfl (by assumption) | exact MP_sc rfl (by assumption)) (by first | omega | assumption) | exact va_g | exact va_n (by decide) | rfl) ?_
                  refine V_iload_n rfl rfl ?_
                  refine V_callSi rfl rfl (Or.inl rfl) m_MD_has_w m_MD_has_x rfl rfl (s_mhas _ (by first | omega | assumption)) (by decide) rfl (Nat.le_of_ble_eq_true rfl) ?_
                  cases hb : bt (abv p k) q
                  · rw [hb] at e1
                    refine V_if_neF rfl (rfl) ?_
                    refine V_aload_n rfl rfl ?_
                    refine V_getfield rfl rfl (by first | assumption | exact blkW_0 | exact bAt_0 (by assumption) | rfl) (by rfl) ?_
                    refine V_iload_n rfl rfl ?_
                    refine V_iald rfl (by first | assumption | exact blkW_i rfl rfl | exact blkW_z rfl rfl | exact bAt_i (by assumption) rfl rfl | exact bAt_z (by assumption) rfl rfl | rfl) (by first | with_reducible rfl | exact nI_add 2 _ | exact nI_add 26 _ | exact fa_lit _ | assumption) (by first | omega | assumption | decide) (by first | decide | omega | assumption) (by first | exact mp_isC (by first | assumption | exact MP_rcS (by assumption) | exact MP_ar rfl (by assumption) | exact MP_sc rfl (by assumption)) (by first | omega | assumption) | exact mp_par (by first | assumption | exact MP_rcS (by assumption) | exact MP_ar rfl (by assumption) | exact MP_sc rfl (by assumption)) (by first | omega | assumption) | exact mp_abv (by first | assumption | exact MP_rcS (by assumption) | exact MP_ar rfl (by assumption) | exact MP_sc rfl (by assumption)) (by first | omega | assumption) | exact mp_dep (by first | assumption | exact MP_rcS (by assumption) | exact MP_ar rfl (by assumption) | exact MP_sc rfl (by assumption)) (by first | omega | assumption) | exact mp_bT (by first | assumption | exact MP_rcS (by assumption) | exact MP_ar rfl (by assumption) | exact MP_sc rfl (by assumption)) (by first | omega | assumption) | exact mp_bM (by first | assumption | exact MP_rcS (by assumption) | exact MP_ar rfl (by assumption) | exact MP_sc rfl (by assumption)) (by first | omega | assumption) | exact mp_sK (by first | assumption | exact MP_rcS (by assumption) | exact MP_ar rfl (by assumption) | exact MP_sc rfl (by assumption)) (by first | omega | assumption) | exact mp_sB (by first | assumption | exact MP_rcS (by assumption) | exact MP_ar rfl (by assumption) | exact MP_sc rfl (by assumption)) (by first | omega | assumption) | exact mp_sT (by first | assumption | exact MP_rcS (by assumption) | exact MP_ar rfl (by assumption) | exact MP_sc rfl (by assumption)) (by first | omega | assumption) | exact mp_sM (by first | assumption | exact MP_rcS (by assumption) | exact MP_ar rfl (by assumption) | exact MP_sc rfl (by assumption)) (by first | omega | assumption) | exact mp_cS (by first | assumption | exact MP_rcS (by assumption) | exact MP_ar rfl (by assumption) | exact MP_sc rfl (by assumption)) (by first | omega | assumption) | exact va_g | exact va_n (by decide) | rfl) ?_
                    refine V_is3 rfl (by first | rfl | assumption) ?_
                    refine V_goto rfl ?_
                    rw [e1]
                    refine ih (par p q) ?_
                    rcases par_nI hm.1 q2 with e | ⟨r, r1, r2, r3⟩
                    · exact Or.inl e
                    · exact Or.inr ⟨r, by omega, r2, r3⟩
                  · rw [hb] at e1
                    refine V_if_neT rfl (by decide) ?_
                    refine V_iload_n rfl rfl ?_
                    refine V_ireturn rfl rfl (by first | rfl | exact b2_nar _ | assumption | decide) ?_
                    exact Pj_ret0 e1.symm
            exact key 12 (nI j) (Or.inr ⟨j, by omega, hj, rfl⟩)
theorem wide_lit (x : Int32) (n : Nat) (hn : n < 2 ^ 30) (l : Int64) (hl : l = ((nI n - 1).toInt64)) : decide ((0 : Int64) ≤ x.toInt64 ∧ x.toInt64 ≤ l) = inN x n := by rw [hl]; exact wide_in x n hn
set_option maxRecDepth 20000 in
set_option maxHeartbeats 1000000 in
theorem w_found (hm : MP p sc ar) (t x : Int32) : Mt g 5 m_MD_found [.ref md, .int t, .int x] (blkW 7 h md sc ar) sz u (Pj (A_found p t x) h md sc ar) sz u := by
  obtain ⟨hT, hB, hS, hC⟩ := hm.1.1
  unfold A_found
  refine Mt.of m_MD_found_w m_MD_found_x m_MD_found_c rfl rfl (ls := [.ref md, .int t, .int x]) rfl ?_
  refine V_aload_n rfl rfl ?_
  refine V_iload_n rfl rfl ?_
  refine V_callVi rfl rfl m_MD_isType_w m_MD_isType_x rfl (by decide) rfl (s_mIsT (by first | assumption | exact blkW_at) (by first | assumption | exact MP_rcS (by assumption) | exact MP_ar rfl (by assumption) | exact MP_sc rfl (by assumption)) _) (by decide) rfl (by first | assumption | exact blkW_0 | exact bAt_0 (by assumption) | rfl) (Nat.le_of_ble_eq_true rfl) ?_
  cases h1 : inN t (nT p)
  · refine V_if_eqT rfl (rfl) ?_
    refine V_ldc rfl rfl ?_
    refine V_ireturn rfl rfl (by first | rfl | exact b2_nar _ | assumption | decide) ?_
    exact Pj_ret0 rfl
  · refine V_if_eqF rfl (by decide) ?_
    obtain ⟨j, hj, rfl⟩ := inN_t (by omega) h1
    refine V_iload_n rfl rfl ?_
    refine V_i2l rfl ?_
    refine V_lconst rfl rfl ?_
    refine V_ldc2 rfl rfl ?_
    refine V_callSi rfl rfl (Or.inl rfl) m_MD_in_w m_MD_in_x rfl rfl (s_in _ _ _) (by decide) rfl (Nat.le_of_ble_eq_true rfl) ?_
    rw [show b2 (decide ((Int64.ofNat ((0 : Fin 2) : Nat)) ≤ x.toInt64 ∧ x.toInt64 ≤ 5)) = b2 (inN x 6) by rw [← wide_lit x 6 (by decide) 5 (by decide)]; rfl]
    cases h2 : inN x 6
    · refine V_if_neF rfl (rfl) ?_
      refine V_ldc rfl rfl ?_
      refine V_ireturn rfl rfl (by first | rfl | exact b2_nar _ | assumption | decide) ?_
      exact Pj_ret0 rfl
    · refine V_if_neT rfl (by decide) ?_
      obtain ⟨k, hk, rfl⟩ := inN_t (by omega) h2
      rw [nI_clamp (n := j) (by omega), nI_clamp (n := k) (by omega)]
      refine V_aload_n rfl rfl ?_
      refine V_getfield rfl rfl (by first | assumption | exact blkW_0 | exact bAt_0 (by assumption) | rfl) (by rfl) ?_
      refine V_iload_n rfl rfl ?_
      refine V_bald rfl (by first | assumption | exact blkW_i rfl rfl | exact blkW_z rfl rfl | exact bAt_i (by assumption) rfl rfl | exact bAt_z (by assumption) rfl rfl | rfl) (by first | with_reducible rfl | exact nI_add 2 _ | exact nI_add 26 _ | exact fa_lit _ | assumption) (by first | omega | assumption | decide) (by first | decide | omega | assumption) (by first | exact mp_isC (by first | assumption | exact MP_rcS (by assumption) | exact MP_ar rfl (by assumption) | exact MP_sc rfl (by assumption)) (by first | omega | assumption) | exact mp_par (by first | assumption | exact MP_rcS (by assumption) | exact MP_ar rfl (by assumption) | exact MP_sc rfl (by assumption)) (by first | omega | assumption) | exact mp_abv (by first | assumption | exact MP_rcS (by assumption) | exact MP_ar rfl (by assumption) | exact MP_sc rfl (by assumption)) (by first | omega | assumption) | exact mp_dep (by first | assumption | exact MP_rcS (by assumption) | exact MP_ar rfl (by assumption) | exact MP_sc rfl (by assumption)) (by first | omega | assumption) | exact mp_bT (by first | assumption | exact MP_rcS (by assumption) | exact MP_ar rfl (by assumption) | exact MP_sc rfl (by assumption)) (by first | omega | assumption) | exact mp_bM (by first | assumption | exact MP_rcS (by assumption) | exact MP_ar rfl (by assumption) | exact MP_sc rfl (by assumption)) (by first | omega | assumption) | exact mp_sK (by first | assumption | exact MP_rcS (by assumption) | exact MP_ar rfl (by assumption) | exact MP_sc rfl (by assumption)) (by first | omega | assumption) | exact mp_sB (by first | assumption | exact MP_rcS (by assumption) | exact MP_ar rfl (by assumption) | exact MP_sc rfl (by assumption)) (by first | omega | assumption) | exact mp_sT (by first | assumption | exact MP_rcS (by assumption) | exact MP_ar rfl (by assumption) | exact MP_sc rfl (by assumption)) (by first | omega | assumption) | exact mp_sM (by first | assumption | exact MP_rcS (by assumption) | exact MP_ar rfl (by assumption) | exact MP_sc rfl (by assumption)) (by first | omega | assumption) | exact mp_cS (by first | assumption | exact MP_rcS (by assumption) | exact MP_ar rfl (by assumption) | exact MP_sc rfl (by assumption)) (by first | omega | assumption) | exact va_g | exact va_n (by decide) | rfl) ?_
      first | refine V_ifb_eq rfl (fun h29 => ?_) (fun h29 => ?_) | refine V_if_eq rfl (fun h29 => ?_) (fun h29 => ?_)
      · refine V_ldcw rfl rfl ?_
        refine V_ireturn rfl rfl (by first | rfl | exact b2_nar _ | assumption | decide) ?_
        first | exact Pj_ret0 (by simp [WRG, *])
      · refine V_aload_n rfl rfl ?_
        refine V_iload_n rfl rfl ?_
        refine V_iload_n rfl rfl ?_
        refine V_callVi rfl rfl m_MD_foundFor_w m_MD_foundFor_x rfl (by decide) rfl (s_fnd (by first | assumption | exact blkW_at) (by first | assumption | exact MP_rcS (by assumption) | exact MP_ar rfl (by assumption) | exact MP_sc rfl (by assumption)) _ _ (by first | omega | assumption) (by first | omega | assumption)) (by decide) rfl (by first | assumption | exact blkW_0 | exact bAt_0 (by assumption) | rfl) (Nat.le_of_ble_eq_true rfl) ?_
        refine V_goto rfl ?_
        refine V_ireturn rfl rfl (by first | rfl | exact b2_nar _ | assumption | decide) ?_
        first | exact Pj_ret0 (by simp [WRG, *])
set_option maxRecDepth 20000 in
set_option maxHeartbeats 1000000 in
theorem w_fault : Mt g 0 m_MD_fault [.ref md] (blkW 7 h md sc ar) sz u (Pj (sc 18) h md sc ar) sz u := by
  refine Mt.of m_MD_fault_w m_MD_fault_x m_MD_fault_c rfl rfl (ls := [.ref md]) rfl ?_
  refine V_aload_n rfl rfl ?_
  refine V_getI rfl rfl (by first | assumption | exact blkW_0 | exact bAt_0 (by assumption) | rfl) (by rfl) (by first | exact rcS_o rfl | rfl) ?_
  refine V_ireturn rfl rfl (by first | rfl | exact b2_nar _ | assumption | decide) ?_
  exact Pj_ret0 rfl
set_option maxRecDepth 20000 in
set_option maxHeartbeats 1000000 in
theorem w_journal (x w : Int32) (e : Nat) (he : ar 15 42 = nI e) (he2 : e ≤ 16) : Mt g 1 m_MD_journal [.ref md, .int x, .int w] (blkW 7 h md sc ar) sz u (Pj (A_journal (ar 15) e x w) h md sc ar) sz u := by
  unfold A_journal
  refine Mt.of m_MD_journal_w m_MD_journal_x m_MD_journal_c rfl rfl (ls := [.ref md, .int x, .int w, .retAddr 0]) rfl ?_
  refine V_iload_n rfl rfl ?_
  refine V_i2l rfl ?_
  refine V_lconst rfl rfl ?_
  refine V_ldc2 rfl rfl ?_
  refine V_callSi rfl rfl (Or.inl rfl) m_MD_in_w m_MD_in_x rfl rfl (s_in _ _ _) (by decide) rfl (Nat.le_of_ble_eq_true rfl) ?_
  rw [show b2 (decide ((Int64.ofNat ((0 : Fin 2) : Nat)) ≤ w.toInt64 ∧ w.toInt64 ≤ 2)) = b2 (inN w 3) by rw [← wide_lit w 3 (by decide) 2 (by decide)]; rfl]
  cases h1 : inN w 3
  · refine V_if_neF rfl (rfl) ?_
    refine V_ldc rfl rfl ?_
    refine V_ireturn rfl rfl (by first | rfl | exact b2_nar _ | assumption | decide) ?_
    exact Pj_ret0 rfl
  · refine V_if_neT rfl (by decide) ?_
    obtain ⟨j, hj, rfl⟩ := inN_t (by omega) h1
    refine V_iload_n rfl rfl ?_
    refine V_i2l rfl ?_
    refine V_lconst rfl rfl ?_
    refine V_aload_n rfl rfl ?_
    refine V_getfield rfl rfl (by first | assumption | exact blkW_0 | exact bAt_0 (by assumption) | rfl) (by rfl) ?_
    refine V_bipush (v := 42) rfl (by decide) ?_
    refine V_iald rfl (by first | assumption | exact blkW_i rfl rfl | exact blkW_z rfl rfl | exact bAt_i (by assumption) rfl rfl | exact bAt_z (by assumption) rfl rfl | rfl) (by first | with_reducible rfl | exact nI_add 2 _ | exact nI_add 26 _ | exact fa_lit _ | assumption) (by first | omega | assumption | decide) (by first | decide | omega | assumption) (by first | exact mp_isC (by first | assumption | exact MP_rcS (by assumption) | exact MP_ar rfl (by assumption) | exact MP_sc rfl (by assumption)) (by first | omega | assumption) | exact mp_par (by first | assumption | exact MP_rcS (by assumption) | exact MP_ar rfl (by assumption) | exact MP_sc rfl (by assumption)) (by first | omega | assumption) | exact mp_abv (by first | assumption | exact MP_rcS (by assumption) | exact MP_ar rfl (by assumption) | exact MP_sc rfl (by assumption)) (by first | omega | assumption) | exact mp_dep (by first | assumption | exact MP_rcS (by assumption) | exact MP_ar rfl (by assumption) | exact MP_sc rfl (by assumption)) (by first | omega | assumption) | exact mp_bT (by first | assumption | exact MP_rcS (by assumption) | exact MP_ar rfl (by assumption) | exact MP_sc rfl (by assumption)) (by first | omega | assumption) | exact mp_bM (by first | assumption | exact MP_rcS (by assumption) | exact MP_ar rfl (by assumption) | exact MP_sc rfl (by assumption)) (by first | omega | assumption) | exact mp_sK (by first | assumption | exact MP_rcS (by assumption) | exact MP_ar rfl (by assumption) | exact MP_sc rfl (by assumption)) (by first | omega | assumption) | exact mp_sB (by first | assumption | exact MP_rcS (by assumption) | exact MP_ar rfl (by assumption) | exact MP_sc rfl (by assumption)) (by first | omega | assumption) | exact mp_sT (by first | assumption | exact MP_rcS (by assumption) | exact MP_ar rfl (by assumption) | exact MP_sc rfl (by assumption)) (by first | omega | assumption) | exact mp_sM (by first | assumption | exact MP_rcS (by assumption) | exact MP_ar rfl (by assumption) | exact MP_sc rfl (by assumption)) (by first | omega | assumption) | exact mp_cS (by first | assumption | exact MP_rcS (by assumption) | exact MP_ar rfl (by assumption) | exact MP_sc rfl (by assumption)) (by first | omega | assumption) | exact va_g | exact va_n (by decide) | rfl) ?_
    rw [he]
    refine V_iconst (v := 1) rfl (by decide) ?_
    refine V_isub rfl ?_
    refine V_i2l rfl ?_
    refine V_callSi rfl rfl (Or.inl rfl) m_MD_in_w m_MD_in_x rfl rfl (s_in _ _ _) (by decide) rfl (Nat.le_of_ble_eq_true rfl) ?_
    rw [show b2 (decide ((Int64.ofNat ((0 : Fin 2) : Nat)) ≤ x.toInt64 ∧ x.toInt64 ≤ (nI e - 1).toInt64)) = b2 (inN x e) by rw [← wide_in x e (by omega)]; rfl]
    cases h2 : inN x e
    · refine V_if_neF rfl (rfl) ?_
      refine V_iconst (v := (-1)) rfl (by decide) ?_
      refine V_ireturn rfl rfl (by first | rfl | exact b2_nar _ | assumption | decide) ?_
      exact Pj_ret0 rfl
    · refine V_if_neT rfl (by decide) ?_
      obtain ⟨k, hk, rfl⟩ := inN_t (by omega) h2
      rw [nI_clamp (n := j) (by omega), nI_clamp (n := k) (by omega)]
      refine V_aload_n rfl rfl ?_
      refine V_getfield rfl rfl (by first | assumption | exact blkW_0 | exact bAt_0 (by assumption) | rfl) (by rfl) ?_
      refine V_bipush (v := 26) rfl (by decide) ?_
      refine V_iload_n rfl rfl ?_
      refine V_iadd rfl ?_
      refine V_iald rfl (by first | assumption | exact blkW_i rfl rfl | exact blkW_z rfl rfl | exact bAt_i (by assumption) rfl rfl | exact bAt_z (by assumption) rfl rfl | rfl) (by first | with_reducible rfl | exact nI_add 2 _ | exact nI_add 26 _ | exact fa_lit _ | assumption) (by first | omega | assumption | decide) (by first | decide | omega | assumption) (by first | exact mp_isC (by first | assumption | exact MP_rcS (by assumption) | exact MP_ar rfl (by assumption) | exact MP_sc rfl (by assumption)) (by first | omega | assumption) | exact mp_par (by first | assumption | exact MP_rcS (by assumption) | exact MP_ar rfl (by assumption) | exact MP_sc rfl (by assumption)) (by first | omega | assumption) | exact mp_abv (by first | assumption | exact MP_rcS (by assumption) | exact MP_ar rfl (by assumption) | exact MP_sc rfl (by assumption)) (by first | omega | assumption) | exact mp_dep (by first | assumption | exact MP_rcS (by assumption) | exact MP_ar rfl (by assumption) | exact MP_sc rfl (by assumption)) (by first | omega | assumption) | exact mp_bT (by first | assumption | exact MP_rcS (by assumption) | exact MP_ar rfl (by assumption) | exact MP_sc rfl (by assumption)) (by first | omega | assumption) | exact mp_bM (by first | assumption | exact MP_rcS (by assumption) | exact MP_ar rfl (by assumption) | exact MP_sc rfl (by assumption)) (by first | omega | assumption) | exact mp_sK (by first | assumption | exact MP_rcS (by assumption) | exact MP_ar rfl (by assumption) | exact MP_sc rfl (by assumption)) (by first | omega | assumption) | exact mp_sB (by first | assumption | exact MP_rcS (by assumption) | exact MP_ar rfl (by assumption) | exact MP_sc rfl (by assumption)) (by first | omega | assumption) | exact mp_sT (by first | assumption | exact MP_rcS (by assumption) | exact MP_ar rfl (by assumption) | exact MP_sc rfl (by assumption)) (by first | omega | assumption) | exact mp_sM (by first | assumption | exact MP_rcS (by assumption) | exact MP_ar rfl (by assumption) | exact MP_sc rfl (by assumption)) (by first | omega | assumption) | exact mp_cS (by first | assumption | exact MP_rcS (by assumption) | exact MP_ar rfl (by assumption) | exact MP_sc rfl (by assumption)) (by first | omega | assumption) | exact va_g | exact va_n (by decide) | rfl) ?_
      refine V_is3 rfl (by first | rfl | assumption) ?_
      refine V_iload_n rfl rfl ?_
      rcases (show j = 0 ∨ j = 1 ∨ j = 2 by omega) with rfl | rfl | rfl
      · refine V_if_neF rfl (rfl) ?_
        refine V_iload_n rfl rfl ?_
        refine V_bipush (v := 100) rfl (by decide) ?_
        refine V_idiv rfl (by decide) ?_
        refine V_goto rfl ?_
        refine V_ireturn rfl rfl (by first | rfl | exact b2_nar _ | assumption | decide) ?_
        exact Pj_ret0 rfl
      · refine V_if_neT rfl (by decide) ?_
        refine V_iload_n rfl rfl ?_
        refine V_iconst (v := 1) rfl (by decide) ?_
        refine V_icmp_neF rfl (rfl) ?_
        refine V_iload_n rfl rfl ?_
        refine V_iconst (v := 2) rfl (by decide) ?_
        refine V_irem rfl (by decide) ?_
        refine V_goto rfl ?_
        refine V_ireturn rfl rfl (by first | rfl | exact b2_nar _ | assumption | decide) ?_
        exact Pj_ret0 rfl
      · refine V_if_neT rfl (by decide) ?_
        refine V_iload_n rfl rfl ?_
        refine V_iconst (v := 1) rfl (by decide) ?_
        refine V_icmp_neT rfl (by decide) ?_
        refine V_iload_n rfl rfl ?_
        refine V_bipush (v := 100) rfl (by decide) ?_
        refine V_irem rfl (by decide) ?_
        refine V_iconst (v := 2) rfl (by decide) ?_
        refine V_idiv rfl (by decide) ?_
        refine V_ireturn rfl rfl (by first | rfl | exact b2_nar _ | assumption | decide) ?_
        exact Pj_ret0 rfl
end mpub
