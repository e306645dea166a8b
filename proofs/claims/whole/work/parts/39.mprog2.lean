def emp : Pg := ((0, 0, 0, 0), (fun _ => false), (fun _ => -1), (fun _ => 0), (fun _ => 0), (fun _ => 0), (fun _ => 0), (fun _ => 0), (fun _ => 0), (fun _ => 0), (fun _ => 0), (fun _ => 0))
theorem emp_WR : WR emp := ⟨by decide, fun t h => absurd h (Nat.not_lt_zero t), fun t h => absurd h (Nat.not_lt_zero t), fun t h => absurd h (Nat.not_lt_zero t)⟩
theorem emp_RD {f : Nat → Int32} {q : Nat → Nat → Int32} (h22 : f 22 = 0) (h26 : f 26 = 0) (h29 : f 29 = 0) (h18 : f 18 = -1) : RD emp f q := ⟨⟨h22, h26, h29, h18⟩, fun t h => absurd h (Nat.not_lt_zero t), fun t h => absurd h (Nat.not_lt_zero t), fun t h => absurd h (Nat.not_lt_zero t)⟩
theorem psS_id {sc : Nat → Int32} : psS sc sc = sc := by funext k; unfold psS; exact ite_self _
theorem arS_id {ar : Nat → Nat → Int32} : arS ar ar = ar := by funext k; unfold arS; exact ite_self _
theorem psS_v17 {sc f : Nat → Int32} {v : Int32} : upd (psS sc f) 17 v = psS (upd sc 17 v) f := psS_v rfl
theorem psS_v36 {sc f : Nat → Int32} {v : Int32} : upd (psS sc f) 36 v = psS (upd sc 36 v) f := psS_v rfl
def arN (p : Pg) (ar q : Nat → Nat → Int32) : Nat → Nat → Int32 := va_up (arS (arR p ar q) q) 15 (fl 45 nw0 (arS (arR p ar q) q 15))
/-- how program ends -/
def PQ (h : mH) (md : Nat) (sc : Nat → Int32) (ar : Nat → Nat → Int32) (n : Nat) : Option Value → mH → Prop := fun r h' => match pAll (ar 16) n 241 emp 0 with
  | .inl y => (1 ≤ y.1 ∧ y.1 ≤ 4) ∧ r = some (.int (-10 - nI y.1)) ∧ ∃ f q, h' = blkW 7 h md (psS (upd sc 17 0) f) (arS ar q) ∧ f 18 = nI y.2
  | .inr p2 => WR p2 ∧ r = some (.int (nI (nT p2))) ∧ ∃ f q, RD p2 f q ∧ h' = blkW 7 h md (psS (upd (scR p2 (upd sc 17 0)) 36 0) f) (va_up (arN p2 ar q) 40 (upd (upd (arN p2 ar q 40) 0 0) 1 0))
section mprog2
variable {g : mG} {h : mH} {sz u md : Nat} {sc : Nat → Int32} {ar : Nat → Nat → Int32}
set_option maxRecDepth 20000 in
set_option maxHeartbeats 1000000 in
theorem w_program {n : Nat} (h17 : sc 17 = nI n ∧ n ≤ 240) : Mt g 6 m_MD_program [.ref md] (blkW 7 h md sc ar) sz u (PQ h md sc ar n) sz u := by
  have hn := h17.2
  rw [show blkW 7 h md sc ar = blkW 7 h md (psS sc sc) (arS ar ar) by rw [psS_id, arS_id]]
  refine Mt.of m_MD_program_w m_MD_program_x m_MD_program_c rfl rfl (ls := [.ref md, .retAddr 0]) rfl ?_
  refine V_aload_n rfl rfl ?_
  refine V_iconst (v := (-1)) rfl (by decide) ?_
  first | refine V_pput rfl rfl rfl rfl rfl ?_ | refine V_bput rfl rfl rfl rfl rfl rfl ?_ | refine V_bputZ rfl rfl rfl rfl rfl rfl (by decide) ?_ | refine V_put rfl rfl (by first | assumption | rfl) (by decide) (fun _ hty => by cases hty; exact ⟨rfl, rfl⟩) (by first | exact Or.inl rfl | exact Or.inr ⟨rfl, rfl⟩) rfl ?_
  refine V_aload_n rfl rfl ?_
  refine V_iconst (v := 0) rfl (by decide) ?_
  first | refine V_pput rfl rfl rfl rfl rfl ?_ | refine V_bput rfl rfl rfl rfl rfl rfl ?_ | refine V_bputZ rfl rfl rfl rfl rfl rfl (by decide) ?_ | refine V_put rfl rfl (by first | assumption | rfl) (by decide) (fun _ hty => by cases hty; exact ⟨rfl, rfl⟩) (by first | exact Or.inl rfl | exact Or.inr ⟨rfl, rfl⟩) rfl ?_
  refine V_aload_n rfl rfl ?_
  refine V_iconst (v := 0) rfl (by decide) ?_
  first | refine V_pput rfl rfl rfl rfl rfl ?_ | refine V_bput rfl rfl rfl rfl rfl rfl ?_ | refine V_bputZ rfl rfl rfl rfl rfl rfl (by decide) ?_ | refine V_put rfl rfl (by first | assumption | rfl) (by decide) (fun _ hty => by cases hty; exact ⟨rfl, rfl⟩) (by first | exact Or.inl rfl | exact Or.inr ⟨rfl, rfl⟩) rfl ?_
  refine V_aload_n rfl rfl ?_
  refine V_iconst (v := 0) rfl (by decide) ?_
  first | refine V_pput rfl rfl rfl rfl rfl ?_ | refine V_bput rfl rfl rfl rfl rfl rfl ?_ | refine V_bputZ rfl rfl rfl rfl rfl rfl (by decide) ?_ | refine V_put rfl rfl (by first | assumption | rfl) (by decide) (fun _ hty => by cases hty; exact ⟨rfl, rfl⟩) (by first | exact Or.inl rfl | exact Or.inr ⟨rfl, rfl⟩) rfl ?_
  refine V_aload_n rfl rfl ?_
  refine V_iconst (v := 0) rfl (by decide) ?_
  first | refine V_pput rfl rfl rfl rfl rfl ?_ | refine V_bput rfl rfl rfl rfl rfl rfl ?_ | refine V_bputZ rfl rfl rfl rfl rfl rfl (by decide) ?_ | refine V_put rfl rfl (by first | assumption | rfl) (by decide) (fun _ hty => by cases hty; exact ⟨rfl, rfl⟩) (by first | exact Or.inl rfl | exact Or.inr ⟨rfl, rfl⟩) rfl ?_
  refine V_iconst (v := 0) rfl (by decide) ?_
  refine V_is1 rfl (by first | rfl | assumption) ?_
  generalize hf0 : upd (upd (upd (upd (upd sc 18 (-1)) 19 0) 22 0) 26 0) 29 0 = f0
  have e18 : f0 18 = -1 := by rw [← hf0]; exact (pk_un (by decide)).trans ((pk_un (by decide)).trans ((pk_un (by decide)).trans ((pk_un (by decide)).trans pk_us)))
  have e19 : f0 19 = nI 0 := by rw [← hf0]; exact (pk_un (by decide)).trans ((pk_un (by decide)).trans ((pk_un (by decide)).trans pk_us))
  have e22 : f0 22 = 0 := by rw [← hf0]; exact (pk_un (by decide)).trans ((pk_un (by decide)).trans pk_us)
  have e26 : f0 26 = 0 := by rw [← hf0]; exact (pk_un (by decide)).trans pk_us
  have e29 : f0 29 = 0 := by rw [← hf0]; exact pk_us
  rw [show psS sc f0 = psS sc (pF f0 (nI 0) (f0 20) (f0 21)) from congrArg (psS sc) (pF_self e19)]
  refine e_progLoop h17 241 emp 0 f0 ar _ _ (by omega) (by omega) (emp_RD e22 e26 e29 e18) emp_WR ?_ ?_
  · intro j s f1 q1 hA hj h18
    refine V_aload_n rfl rfl ?_
    refine V_iconst (v := 0) rfl (by decide) ?_
    first | refine V_pput rfl rfl rfl rfl rfl ?_ | refine V_bput rfl rfl rfl rfl rfl rfl ?_ | refine V_bputZ rfl rfl rfl rfl rfl rfl (by decide) ?_ | refine V_put rfl rfl (by first | assumption | rfl) (by decide) (fun _ hty => by cases hty; exact ⟨rfl, rfl⟩) (by first | exact Or.inl rfl | exact Or.inr ⟨rfl, rfl⟩) rfl ?_
    rw [psS_v17]
    refine V_iload_n rfl rfl ?_
    refine V_if_leF rfl ((nk_pos hj).1) ?_
    refine V_bipush (v := (-10)) rfl (by decide) ?_
    refine V_iload_n rfl rfl ?_
    refine V_isub rfl ?_
    refine V_ireturn rfl rfl (by first | rfl | exact b2_nar _ | assumption | decide) ?_
    unfold PQ
    rw [hA]
    exact ⟨hj, rfl, f1, q1, rfl, h18⟩
  · intro p2 f1 q1 hA hr hw
    have hT0 : scR p2 (upd sc 17 0) 0 = nI (nT p2) := (pk_un (by decide)).trans ((pk_un (by decide)).trans ((pk_un (by decide)).trans pk_us))
    refine V_aload_n rfl rfl ?_
    refine V_iconst (v := 0) rfl (by decide) ?_
    first | refine V_pput rfl rfl rfl rfl rfl ?_ | refine V_bput rfl rfl rfl rfl rfl rfl ?_ | refine V_bputZ rfl rfl rfl rfl rfl rfl (by decide) ?_ | refine V_put rfl rfl (by first | assumption | rfl) (by decide) (fun _ hty => by cases hty; exact ⟨rfl, rfl⟩) (by first | exact Or.inl rfl | exact Or.inr ⟨rfl, rfl⟩) rfl ?_
    rw [psS_v17]
    refine V_iload_n rfl rfl ?_
    refine V_if_leT rfl (by decide) ?_
    refine V_aload_n rfl rfl ?_
    refine V_callVn rfl rfl m_MD_takeRead_w m_MD_takeRead_x rfl (by decide) rfl (w_takeRead hr hw) (by decide) rfl (by first | assumption | exact blkW_0 | exact bAt_0 (by assumption) | rfl) (Nat.le_of_ble_eq_true rfl) ?_
    rw [show va_up (arS (arR p2 ar q1) q1) 15 (fl 45 nw0 (arS (arR p2 ar q1) q1 15)) = arN p2 ar q1 from rfl]
    refine V_aload_n rfl rfl ?_
    refine V_iconst (v := 0) rfl (by decide) ?_
    first | refine V_pput rfl rfl rfl rfl rfl ?_ | refine V_bput rfl rfl rfl rfl rfl rfl ?_ | refine V_bputZ rfl rfl rfl rfl rfl rfl (by decide) ?_ | refine V_put rfl rfl (by first | assumption | rfl) (by decide) (fun _ hty => by cases hty; exact ⟨rfl, rfl⟩) (by first | exact Or.inl rfl | exact Or.inr ⟨rfl, rfl⟩) rfl ?_
    rw [psS_v36]
    refine V_aload_n rfl rfl ?_
    refine V_getfield rfl rfl (by first | assumption | exact blkW_0 | exact bAt_0 (by assumption) | rfl) (by rfl) ?_
    refine V_iconst (v := 0) rfl (by decide) ?_
    refine V_iconst (v := 0) rfl (by decide) ?_
    first | refine V_pastZ rfl rfl rfl rfl (by first | with_reducible rfl | exact nI_add 2 _ | exact nI_add 26 _ | exact ix45 _ _ | exact ixm45 _ | exact ix25 _ | exact fa_lit _ | assumption) (by first | omega | assumption | decide) (by first | decide | omega | assumption) (by decide) ?_ | refine V_bastZ rfl rfl rfl (by first | with_reducible rfl | exact nI_add 2 _ | exact nI_add 26 _ | exact ix45 _ _ | exact ixm45 _ | exact ix25 _ | exact fa_lit _ | assumption) (by first | omega | assumption | decide) (by first | decide | omega | assumption) (by decide) ?_ | refine V_bastore rfl (by first | assumption | exact blkW_i rfl rfl | exact blkW_z rfl rfl | exact bAt_i (by assumption) rfl rfl | exact bAt_z (by assumption) rfl rfl | rfl) (by first | with_reducible rfl | exact nI_add 2 _ | exact nI_add 26 _ | exact ix45 _ _ | exact ixm45 _ | exact ix25 _ | exact fa_lit _ | assumption) (by first | omega | assumption | decide) (by first | decide | omega | assumption) (by first | rfl | assumption) ?_
    refine V_aload_n rfl rfl ?_
    refine V_getfield rfl rfl (by first | assumption | exact blkW_0 | exact bAt_0 (by assumption) | rfl) (by rfl) ?_
    refine V_iconst (v := 1) rfl (by decide) ?_
    refine V_iconst (v := 0) rfl (by decide) ?_
    first | refine V_pastZ rfl rfl rfl rfl (by first | with_reducible rfl | exact nI_add 2 _ | exact nI_add 26 _ | exact ix45 _ _ | exact ixm45 _ | exact ix25 _ | exact fa_lit _ | assumption) (by first | omega | assumption | decide) (by first | decide | omega | assumption) (by decide) ?_ | refine V_bastZ rfl rfl rfl (by first | with_reducible rfl | exact nI_add 2 _ | exact nI_add 26 _ | exact ix45 _ _ | exact ixm45 _ | exact ix25 _ | exact fa_lit _ | assumption) (by first | omega | assumption | decide) (by first | decide | omega | assumption) (by decide) ?_ | refine V_bastore rfl (by first | assumption | exact blkW_i rfl rfl | exact blkW_z rfl rfl | exact bAt_i (by assumption) rfl rfl | exact bAt_z (by assumption) rfl rfl | rfl) (by first | with_reducible rfl | exact nI_add 2 _ | exact nI_add 26 _ | exact ix45 _ _ | exact ixm45 _ | exact ix25 _ | exact fa_lit _ | assumption) (by first | omega | assumption | decide) (by first | decide | omega | assumption) (by first | rfl | assumption) ?_
    rw [va_w]
    refine V_aload_n rfl rfl ?_
    refine V_getI rfl rfl (by first | assumption | exact blkW_0 | exact bAt_0 (by assumption) | rfl) (by rfl) (by first | exact mp_nT (by first | assumption | exact MP_rcS (by assumption) | exact MP_ar rfl (by assumption) | exact MP_sc rfl (by assumption)) | exact (psS_o rfl).trans (by assumption) | exact (psS_o rfl).trans ((pk_un (by decide)).trans (by assumption)) | rfl) ?_
    refine V_ireturn rfl rfl (by first | rfl | exact b2_nar _ | assumption | decide) ?_
    unfold PQ
    rw [hA]
    exact ⟨hw, rfl, f1, q1, hr, rfl⟩
end mprog2
