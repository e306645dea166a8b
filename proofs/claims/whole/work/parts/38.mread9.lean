def scR (p : Pg) (sc : Nat → Int32) : Nat → Int32 := upd (upd (upd (upd sc 0 (nI (nT p))) 5 (nI (nB p))) 8 (nI (nS p))) 13 (nI (cnS p (nS p)))
def arR (p : Pg) (A q : Nat → Nat → Int32) : Nat → Nat → Int32 := T3 p (T2 (T1 p A q (nT p)) q (nB p)) q (nS p)
theorem MP_fin {p : Pg} {sc f : Nat → Int32} {ar q : Nat → Nat → Int32} {N : Nat → Int32} (hr : RD p f q) (hw : WR p) : MP (fin p) (psS (scR p sc) f) (va_up (arS (arR p ar q) q) 15 N) := by
  have ho : ∀ k j, arK k = false → ¬ k = 15 → va_up (arS (arR p ar q) q) 15 N k j = arR p ar q k j := fun k j h1 h2 => by
    have : va_up (arS (arR p ar q) q) 15 N k j = arS (arR p ar q) q k j := by unfold va_up; rw [if_neg h2]
    rw [this]
    exact arS_o h1
  refine ⟨fin_WB hw, ⟨(psS_o rfl).trans ?_, (psS_o rfl).trans ?_, (psS_o rfl).trans ?_, (psS_o rfl).trans pk_us⟩, fun t ht => ?_, fun b hb => ?_, fun s hs => ?_, fun c hc => ?_⟩
  · exact (pk_un (by decide)).trans ((pk_un (by decide)).trans ((pk_un (by decide)).trans pk_us))
  · exact (pk_un (by decide)).trans ((pk_un (by decide)).trans pk_us)
  · exact (pk_un (by decide)).trans pk_us
  · have ht : t < nT p := ht
    rw [ho _ _ rfl (by decide), ho _ _ rfl (by decide), ho _ _ rfl (by decide), ho _ _ rfl (by decide)]
    exact ⟨(fl_g (v := q 23) (r := ar 1) ht).trans (rd_C hr ht), (fl_g (v := q 24) (r := ar 2) ht).trans (rd_P hr ht), fl_g (v := abF p) (r := ar 3) ht, fl_g (v := dpF p) (r := ar 4) ht⟩
  · have hb : b < nB p := hb
    rw [ho _ _ rfl (by decide), ho _ _ rfl (by decide)]
    exact ⟨(fl_g (v := q 27) (r := ar 6) hb).trans (rd_bT hr hb), (fl_g (v := q 28) (r := ar 7) hb).trans (rd_bM hr hb)⟩
  · have hs : s < nS p := hs
    have hq := hr.2.2.2 s hs
    rw [ho _ _ rfl (by decide), ho _ _ rfl (by decide), ho _ _ rfl (by decide), ho _ _ rfl (by decide)]
    exact ⟨(fl_g (v := q 30) (r := ar 9) hs).trans hq.1, (fl_g (v := q 31) (r := ar 10) hs).trans hq.2.1, (fl_g (v := q 32) (r := ar 11) hs).trans hq.2.2.1, (fl_g (v := q 33) (r := ar 12) hs).trans hq.2.2.2⟩
  · have hc : c < cnS p (nS p) := hc
    rw [ho _ _ rfl (by decide)]
    exact fl_g (v := fun c => nI (csF p (nS p) c)) (r := ar 14) hc
section mread9
variable {g : mG} {h : mH} {sz u md : Nat} {p : Pg} {sc f : Nat → Int32} {ar q : Nat → Nat → Int32}
set_option maxRecDepth 20000 in
set_option maxHeartbeats 1000000 in
theorem w_takeRead (hr : RD p f q) (hw : WR p) : Mt g 1 m_MD_takeRead [.ref md] (blkW 7 h md (psS sc f) (arS ar q)) sz u (Pn (blkW 7 h md (psS (scR p sc) f) (va_up (arS (arR p ar q) q) 15 (fl 45 nw0 (arS (arR p ar q) q 15))))) sz u := by
  have h22 := hr.1.1
  have h26 := hr.1.2.1
  have h29 := hr.1.2.2.1
  refine Mt.of m_MD_takeRead_w m_MD_takeRead_x m_MD_takeRead_c rfl rfl (ls := [.ref md, .retAddr 0, .retAddr 0, .retAddr 0]) rfl ?_
  refine V_aload_n rfl rfl ?_
  refine V_aload_n rfl rfl ?_
  refine V_getI rfl rfl (by first | assumption | exact blkW_0 | exact bAt_0 (by assumption) | rfl) (by rfl) (by first | exact (psS_g rfl).trans ((pF_o rfl).trans (by assumption)) | exact (psS_g rfl).trans (by assumption) | exact (psS_g rfl).trans pk_us | exact (psS_g rfl).trans ((pk_un (by decide)).trans (by assumption)) | exact (psS_g rfl).trans ((pk_un (by decide)).trans pk_us) | exact (psS_g rfl).trans ((pk_un (by decide)).trans ((pk_un (by decide)).trans (by assumption))) | exact psS_g rfl | rfl) ?_
  first | refine V_pput rfl rfl rfl rfl rfl ?_ | refine V_bput rfl rfl rfl rfl rfl rfl ?_ | refine V_bputZ rfl rfl rfl rfl rfl rfl (by decide) ?_ | refine V_put rfl rfl (by first | assumption | rfl) (by decide) (fun _ hty => by cases hty; exact ⟨rfl, rfl⟩) (by first | exact Or.inl rfl | exact Or.inr ⟨rfl, rfl⟩) rfl ?_
  rw [psS_v0]
  refine V_aload_n rfl rfl ?_
  refine V_aload_n rfl rfl ?_
  refine V_getI rfl rfl (by first | assumption | exact blkW_0 | exact bAt_0 (by assumption) | rfl) (by rfl) (by first | exact (psS_g rfl).trans ((pF_o rfl).trans (by assumption)) | exact (psS_g rfl).trans (by assumption) | exact (psS_g rfl).trans pk_us | exact (psS_g rfl).trans ((pk_un (by decide)).trans (by assumption)) | exact (psS_g rfl).trans ((pk_un (by decide)).trans pk_us) | exact (psS_g rfl).trans ((pk_un (by decide)).trans ((pk_un (by decide)).trans (by assumption))) | exact psS_g rfl | rfl) ?_
  first | refine V_pput rfl rfl rfl rfl rfl ?_ | refine V_bput rfl rfl rfl rfl rfl rfl ?_ | refine V_bputZ rfl rfl rfl rfl rfl rfl (by decide) ?_ | refine V_put rfl rfl (by first | assumption | rfl) (by decide) (fun _ hty => by cases hty; exact ⟨rfl, rfl⟩) (by first | exact Or.inl rfl | exact Or.inr ⟨rfl, rfl⟩) rfl ?_
  rw [psS_v5]
  refine V_aload_n rfl rfl ?_
  refine V_aload_n rfl rfl ?_
  refine V_getI rfl rfl (by first | assumption | exact blkW_0 | exact bAt_0 (by assumption) | rfl) (by rfl) (by first | exact (psS_g rfl).trans ((pF_o rfl).trans (by assumption)) | exact (psS_g rfl).trans (by assumption) | exact (psS_g rfl).trans pk_us | exact (psS_g rfl).trans ((pk_un (by decide)).trans (by assumption)) | exact (psS_g rfl).trans ((pk_un (by decide)).trans pk_us) | exact (psS_g rfl).trans ((pk_un (by decide)).trans ((pk_un (by decide)).trans (by assumption))) | exact psS_g rfl | rfl) ?_
  first | refine V_pput rfl rfl rfl rfl rfl ?_ | refine V_bput rfl rfl rfl rfl rfl rfl ?_ | refine V_bputZ rfl rfl rfl rfl rfl rfl (by decide) ?_ | refine V_put rfl rfl (by first | assumption | rfl) (by decide) (fun _ hty => by cases hty; exact ⟨rfl, rfl⟩) (by first | exact Or.inl rfl | exact Or.inr ⟨rfl, rfl⟩) rfl ?_
  rw [psS_v8]
  refine V_aload_n rfl rfl ?_
  refine V_iconst (v := 0) rfl (by decide) ?_
  first | refine V_pput rfl rfl rfl rfl rfl ?_ | refine V_bput rfl rfl rfl rfl rfl rfl ?_ | refine V_bputZ rfl rfl rfl rfl rfl rfl (by decide) ?_ | refine V_put rfl rfl (by first | assumption | rfl) (by decide) (fun _ hty => by cases hty; exact ⟨rfl, rfl⟩) (by first | exact Or.inl rfl | exact Or.inr ⟨rfl, rfl⟩) rfl ?_
  rw [psS_v13]
  exact e_tr1 (x2 := .retAddr 0) (x3 := .retAddr 0) hr hw ((pk_un (by decide)).trans ((pk_un (by decide)).trans pk_us)) ((pk_un (by decide)).trans pk_us) pk_us
end mread9
