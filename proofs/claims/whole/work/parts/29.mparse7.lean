def full (p : Pg) (k : Nat) : Bool := if k < 2 then decide (nT p = 12) else if k = 2 then decide (nB p = 20) else decide (nS p = 24)
/-- which clause a letter begins; 6: none -/
def kd (c : Int32) : Nat := if c = 99 then 0 else if c = 105 then 1 else if c = 109 then 2 else if c = 110 then 3 else if c = 118 then 4 else if c = 115 then 5 else 6
def pOne (p : Pg) (T : Nat → Int32) (n a k : Nat) : Rs (Pg × Nat) := if k = 0 then pClass p T n a else if k = 1 then pIface p T n a else if k = 2 then pBody p T n a else pStep p T n a (k - 3)
def pClause (p : Pg) (T : Nat → Int32) (n a : Nat) : Rs (Pg × Nat) :=
  if kd (hv T n a) = 6 then .inl (1, skp T n a) else if full p (kd (hv T n a)) then .inl (3, skp T n a) else match pOne p T n (skp T n a + 1) (kd (hv T n a)) with
    | .inl x => .inl x
    | .inr z => if hv T n z.2 = 59 then .inr (z.1, skp T n z.2 + 1) else .inl (1, skp T n z.2)
section mparse7
variable {g : mG} {h : mH} {sz u md : Nat} {p : Pg} {sc f : Nat → Int32} {ar q : Nat → Nat → Int32}
set_option maxRecDepth 20000 in
set_option maxHeartbeats 1000000 in
theorem s_isFull {k : Nat} {a x y : Int32} (hr : RD p f q) (hw : WR p) (hk : k < 6) : Mt g 0 m_MD_isFull [.ref md, .int (nI k)] (blkW 7 h md (psS sc (pF f a x y)) (arS ar q)) sz u (Pi (b2 (full p k)) (blkW 7 h md (psS sc (pF f a x y)) (arS ar q))) sz u := by
  have h22 := hr.1.1
  have w1 := hw.1.1
  have w2 := hw.1.2.1
  have w3 := hw.1.2.2
  have h26 := hr.1.2.1
  have h29 := hr.1.2.2.1
  refine Mt.of m_MD_isFull_w m_MD_isFull_x m_MD_isFull_c rfl rfl (ls := [.ref md, .int (nI k)]) rfl ?_
  unfold full
  refine V_iload_n rfl rfl ?_
  refine V_iconst (v := 2) rfl (by decide) ?_
  by_cases h2 : k < 2
  · rw [if_pos h2]
    refine V_icmp_geF rfl (nI_ge (b := 2) h2 (by decide)) ?_
    refine V_aload_n rfl rfl ?_
    refine V_getI rfl rfl (by first | assumption | exact blkW_0 | exact bAt_0 (by assumption) | rfl) (by rfl) (by first | exact (psS_g rfl).trans ((pF_o rfl).trans (by assumption)) | exact (psS_g rfl).trans (by assumption) | exact (psS_g rfl).trans pk_us | exact (psS_g rfl).trans ((pk_un (by decide)).trans (by assumption)) | exact (psS_g rfl).trans ((pk_un (by decide)).trans pk_us) | exact (psS_g rfl).trans ((pk_un (by decide)).trans ((pk_un (by decide)).trans (by assumption))) | exact psS_g rfl | rfl) ?_
    refine V_bipush (v := 12) rfl (by decide) ?_
    by_cases hf : nT p = 12
    · rw [decide_eq_true hf]
      refine V_icmp_neF rfl (congrArg nI hf) ?_
      refine V_iconst (v := 1) rfl (by decide) ?_
      refine V_goto rfl ?_
      refine V_ireturn rfl rfl (by first | rfl | exact b2_nar _ | assumption | decide) ?_
      exact P_ret rfl rfl
    · rw [decide_eq_false hf]
      refine V_icmp_neT rfl (fun z => hf ((nI_eq (b := 12) (by omega) (by decide)).mp z)) ?_
      refine V_iconst (v := 0) rfl (by decide) ?_
      refine V_goto rfl ?_
      refine V_ireturn rfl rfl (by first | rfl | exact b2_nar _ | assumption | decide) ?_
      exact P_ret rfl rfl
  · rw [if_neg h2]
    refine V_icmp_geT rfl (nI_le (a := 2) (by omega) (by omega)) ?_
    refine V_iload_n rfl rfl ?_
    refine V_iconst (v := 2) rfl (by decide) ?_
    by_cases h3 : k = 2
    · rw [if_pos h3]
      refine V_icmp_neF rfl (congrArg nI h3) ?_
      refine V_aload_n rfl rfl ?_
      refine V_getI rfl rfl (by first | assumption | exact blkW_0 | exact bAt_0 (by assumption) | rfl) (by rfl) (by first | exact (psS_g rfl).trans ((pF_o rfl).trans (by assumption)) | exact (psS_g rfl).trans (by assumption) | exact (psS_g rfl).trans pk_us | exact (psS_g rfl).trans ((pk_un (by decide)).trans (by assumption)) | exact (psS_g rfl).trans ((pk_un (by decide)).trans pk_us) | exact (psS_g rfl).trans ((pk_un (by decide)).trans ((pk_un (by decide)).trans (by assumption))) | exact psS_g rfl | rfl) ?_
      refine V_bipush (v := 20) rfl (by decide) ?_
      by_cases hf : nB p = 20
      · rw [decide_eq_true hf]
        refine V_icmp_neF rfl (congrArg nI hf) ?_
        refine V_iconst (v := 1) rfl (by decide) ?_
        refine V_goto rfl ?_
        refine V_ireturn rfl rfl (by first | rfl | exact b2_nar _ | assumption | decide) ?_
        exact P_ret rfl rfl
      · rw [decide_eq_false hf]
        refine V_icmp_neT rfl (fun z => hf ((nI_eq (b := 20) (by omega) (by decide)).mp z)) ?_
        refine V_iconst (v := 0) rfl (by decide) ?_
        refine V_goto rfl ?_
        refine V_ireturn rfl rfl (by first | rfl | exact b2_nar _ | assumption | decide) ?_
        exact P_ret rfl rfl
    · rw [if_neg h3]
      refine V_icmp_neT rfl (fun z => h3 ((nI_eq (b := 2) (by omega) (by decide)).mp z)) ?_
      refine V_aload_n rfl rfl ?_
      refine V_getI rfl rfl (by first | assumption | exact blkW_0 | exact bAt_0 (by assumption) | rfl) (by rfl) (by first | exact (psS_g rfl).trans ((pF_o rfl).trans (by assumption)) | exact (psS_g rfl).trans (by assumption) | exact (psS_g rfl).trans pk_us | exact (psS_g rfl).trans ((pk_un (by decide)).trans (by assumption)) | exact (psS_g rfl).trans ((pk_un (by decide)).trans pk_us) | exact (psS_g rfl).trans ((pk_un (by decide)).trans ((pk_un (by decide)).trans (by assumption))) | exact psS_g rfl | rfl) ?_
      refine V_bipush (v := 24) rfl (by decide) ?_
      by_cases hf : nS p = 24
      · rw [decide_eq_true hf]
        refine V_icmp_neF rfl (congrArg nI hf) ?_
        refine V_iconst (v := 1) rfl (by decide) ?_
        refine V_goto rfl ?_
        refine V_ireturn rfl rfl (by first | rfl | exact b2_nar _ | assumption | decide) ?_
        exact P_ret rfl rfl
      · rw [decide_eq_false hf]
        refine V_icmp_neT rfl (fun z => hf ((nI_eq (b := 24) (by omega) (by decide)).mp z)) ?_
        refine V_iconst (v := 0) rfl (by decide) ?_
        refine V_ireturn rfl rfl (by first | rfl | exact b2_nar _ | assumption | decide) ?_
        exact P_ret rfl rfl
theorem full_1 {p : Pg} {k : Nat} (hw : WR p) (h : full p k = false) (hk : k < 2) : nT p < 12 := by
  unfold full at h
  rw [if_pos hk] at h
  have := of_decide_eq_false h
  have := hw.1.1
  omega
theorem full_2 {p : Pg} (hw : WR p) (h : full p 2 = false) : nB p < 20 := by
  unfold full at h
  rw [if_neg (by decide), if_pos rfl] at h
  have := of_decide_eq_false h
  have := hw.1.2.1
  omega
theorem full_3 {p : Pg} {k : Nat} (hw : WR p) (h : full p k = false) (hk : 3 ≤ k) : nS p < 24 := by
  unfold full at h
  rw [if_neg (by omega), if_neg (by omega)] at h
  have := of_decide_eq_false h
  have := hw.1.2.2
  omega
end mparse7
