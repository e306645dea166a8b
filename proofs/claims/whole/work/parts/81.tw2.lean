section tw2
variable {g : mG} {h : mH}
theorem tw_alt {d1 d2 : Nat} {M1 M2 : mM} {args : List Value} {c : Prop} [Decidable c] (x : c → TW g h d1 M1 d2 M2 args) (y : ¬ c → TW g h d1 M1 d2 M2 args) : TW g h d1 M1 d2 M2 args := by
  by_cases e : c
  · exact x e
  · exact y e
theorem t_feed (hl : LI h) (c : Int32) : TW g h 1 m_EB_feed 1 m_MD_feed [.int c] := by
  obtain ⟨p, msc, mar, tx, un, hc, hm, h17, h36⟩ := hl
  have hx := CI_tx hc
  by_cases hC : (inN c 256 && decide (tx < 240)) = true
  · refine ⟨CI_1 hc, nI (tx + 1), fun h' => CI h' (msc 18) (mar 40) p (mar 15) (tx + 1) (upd (mar 16) tx c) un (mar 37) (mar 39) msc mar, fun sz u => (d_feed hc c).mono fun r h' hr => ?_, fun h1 c1 => ⟨CI_108 c1, fun sz u => ?_⟩⟩
    · rw [if_pos hC] at hr; exact hr
    · have := w_feed (g := g) (h := h1) (sz := sz) (u := u) (md := 108) (ar := mar) h17 hx c
      rw [CI_at c1] at this
      refine this.mono fun r h' hr => ?_
      rw [if_pos hC] at hr
      obtain ⟨rfl, rfl⟩ := hr
      exact ⟨rfl, LI.of (CI_mod c1) rfl rfl rfl rfl rfl rfl (MP_ar rfl (MP_sc rfl hm)) rfl h36⟩
  · refine ⟨CI_1 hc, (if inN c 256 then FUL else OUT), fun h' => CI h' (msc 18) (mar 40) p (mar 15) tx (mar 16) un (mar 37) (mar 39) msc mar, fun sz u => (d_feed hc c).mono fun r h' hr => ?_, fun h1 c1 => ⟨CI_108 c1, fun sz u => ?_⟩⟩
    · rw [if_neg hC] at hr; exact hr
    · have := w_feed (g := g) (h := h1) (sz := sz) (u := u) (md := 108) (ar := mar) h17 hx c
      rw [CI_at c1] at this
      refine this.mono fun r h' hr => ?_
      rw [if_neg hC] at hr
      obtain ⟨rfl, rfl⟩ := hr
      exact ⟨rfl, p, msc, mar, tx, un, c1, hm, h17, h36⟩
theorem t_undo (hl : LI h) : TW g h 4 m_EB_undo 0 m_MD_undo [] := by
  obtain ⟨p, msc, mar, tx, un, hc, hm, h17, h36⟩ := hl
  have hun := CI_un hc
  by_cases hC : un = 0
  · refine ⟨CI_1 hc, NOTv, fun h' => CI h' (msc 18) (mar 40) p (mar 15) tx (mar 16) un (mar 37) (mar 39) msc mar, fun sz u => (d_undo hc).mono fun r h' hr => ?_, fun h1 c1 => ⟨CI_108 c1, fun sz u => ?_⟩⟩
    · rw [if_pos hC] at hr; exact hr
    · have := w_undo (g := g) (h := h1) (sz := sz) (u := u) (md := 108) (ar := mar) h36 hun
      rw [CI_at c1] at this
      refine this.mono fun r h' hr => ?_
      rw [if_pos hC] at hr
      obtain ⟨rfl, rfl⟩ := hr
      exact ⟨rfl, p, msc, mar, tx, un, c1, hm, h17, h36⟩
  · refine ⟨CI_1 hc, nI (un - 1), fun h' => CI h' (msc 18) (mar 40) p (fa_fill (fun k => mar 37 (45 * (un - 1) + k)) (mar 15) 45) tx (mar 16) (un - 1) (mar 37) (mar 39) msc mar, fun sz u => (d_undo hc).mono fun r h' hr => ?_, fun h1 c1 => ⟨CI_108 c1, fun sz u => ?_⟩⟩
    · rw [if_neg hC] at hr; exact hr
    · have := w_undo (g := g) (h := h1) (sz := sz) (u := u) (md := 108) (ar := mar) h36 hun
      rw [CI_at c1] at this
      refine this.mono fun r h' hr => ?_
      rw [if_neg hC] at hr
      obtain ⟨rfl, rfl⟩ := hr
      exact ⟨rfl, LI.of (CI_mod c1) rfl rfl rfl rfl rfl rfl (MP_ar rfl (MP_sc rfl hm)) h17 rfl⟩
theorem t_keep (hl : LI h) (i : Int32) : TW g h 3 m_EB_keep 1 m_MD_keep [.int i] := by
  obtain ⟨p, msc, mar, tx, un, hc, hm, h17, h36⟩ := hl
  by_cases hC : inN i 2 = true
  · refine ⟨CI_1 hc, 1, fun h' => CI h' (msc 18) (upd (mar 40) i.toNatClampNeg 1) p (mar 15) tx (mar 16) 0 (mar 37) (fb_put (mar 39) (mar 15) (45 * i.toNatClampNeg) 45) msc mar, fun sz u => (d_keep hc i).mono fun r h' hr => ?_, fun h1 c1 => ⟨CI_108 c1, fun sz u => ?_⟩⟩
    · rw [if_pos hC] at hr; exact hr
    · have := w_keep (g := g) (h := h1) (sz := sz) (u := u) (md := 108) (sc := msc) (ar := mar) i
      rw [CI_at c1] at this
      refine this.mono fun r h' hr => ?_
      rw [if_pos hC] at hr
      obtain ⟨rfl, rfl⟩ := hr
      exact ⟨rfl, LI.of (CI_mod c1) rfl rfl rfl rfl rfl rfl (MP_ar rfl (MP_ar rfl (MP_sc rfl hm))) h17 rfl⟩
  · refine ⟨CI_1 hc, UNK, fun h' => CI h' (msc 18) (mar 40) p (mar 15) tx (mar 16) un (mar 37) (mar 39) msc mar, fun sz u => (d_keep hc i).mono fun r h' hr => ?_, fun h1 c1 => ⟨CI_108 c1, fun sz u => ?_⟩⟩
    · rw [if_neg hC] at hr; exact hr
    · have := w_keep (g := g) (h := h1) (sz := sz) (u := u) (md := 108) (sc := msc) (ar := mar) i
      rw [CI_at c1] at this
      refine this.mono fun r h' hr => ?_
      rw [if_neg hC] at hr
      obtain ⟨rfl, rfl⟩ := hr
      exact ⟨rfl, p, msc, mar, tx, un, c1, hm, h17, h36⟩
theorem t_goBack (hl : LI h) (i : Int32) : TW g h 3 m_EB_goBack 1 m_MD_goBack [.int i] := by
  obtain ⟨p, msc, mar, tx, un, hc, hm, h17, h36⟩ := hl
  have hk := CI_kp hc
  by_cases hC : inN i 2 = true
  · by_cases hD : mar 40 i.toNatClampNeg = 0
    · refine ⟨CI_1 hc, NOTv, fun h' => CI h' (msc 18) (mar 40) p (mar 15) tx (mar 16) un (mar 37) (mar 39) msc mar, fun sz u => (d_goBack hc i).mono fun r h' hr => ?_, fun h1 c1 => ⟨CI_108 c1, fun sz u => ?_⟩⟩
      · rw [if_pos hC, if_pos hD] at hr; exact hr
      · have := w_goBack (g := g) (h := h1) (sz := sz) (u := u) (md := 108) (sc := msc) (ar := mar) i hk
        rw [CI_at c1] at this
        refine this.mono fun r h' hr => ?_
        rw [if_pos hC, if_pos hD] at hr
        obtain ⟨rfl, rfl⟩ := hr
        exact ⟨rfl, p, msc, mar, tx, un, c1, hm, h17, h36⟩
    · refine ⟨CI_1 hc, 1, fun h' => CI h' (msc 18) (mar 40) p (fa_fill (fun k => mar 39 (45 * i.toNatClampNeg + k)) (mar 15) 45) tx (mar 16) 0 (mar 37) (mar 39) msc mar, fun sz u => (d_goBack hc i).mono fun r h' hr => ?_, fun h1 c1 => ⟨CI_108 c1, fun sz u => ?_⟩⟩
      · rw [if_pos hC, if_neg hD] at hr; exact hr
      · have := w_goBack (g := g) (h := h1) (sz := sz) (u := u) (md := 108) (sc := msc) (ar := mar) i hk
        rw [CI_at c1] at this
        refine this.mono fun r h' hr => ?_
        rw [if_pos hC, if_neg hD] at hr
        obtain ⟨rfl, rfl⟩ := hr
        exact ⟨rfl, LI.of (CI_mod c1) rfl rfl rfl rfl rfl rfl (MP_ar rfl (MP_sc rfl hm)) h17 rfl⟩
  · refine ⟨CI_1 hc, UNK, fun h' => CI h' (msc 18) (mar 40) p (mar 15) tx (mar 16) un (mar 37) (mar 39) msc mar, fun sz u => (d_goBack hc i).mono fun r h' hr => ?_, fun h1 c1 => ⟨CI_108 c1, fun sz u => ?_⟩⟩
    · rw [if_neg hC] at hr; exact hr
    · have := w_goBack (g := g) (h := h1) (sz := sz) (u := u) (md := 108) (sc := msc) (ar := mar) i hk
      rw [CI_at c1] at this
      refine this.mono fun r h' hr => ?_
      rw [if_neg hC] at hr
      obtain ⟨rfl, rfl⟩ := hr
      exact ⟨rfl, p, msc, mar, tx, un, c1, hm, h17, h36⟩
theorem MP_ps {p : Pg} {sc f : Nat → Int32} {ar q : Nat → Nat → Int32} (hm : MP p sc ar) : MP p (psS sc f) (arS ar q) := by
  obtain ⟨h1, h2, h3, h4, h5, h6⟩ := hm
  exact ⟨h1, h2, h3, h4, h5, h6⟩
theorem t_program (hl : LI h) : TW g h 6 m_EB_program 6 m_MD_program [] := by
  obtain ⟨p, msc, mar, tx, un, hc, hm, h17, h36⟩ := hl
  have hx := CI_tx hc
  cases hA : pAll (mar 16) tx 241 emp 0 with
  | inl y =>
    refine ⟨CI_1 hc, -10 - nI y.1, fun h' => CI h' (nI y.2) (mar 40) p (mar 15) 0 (mar 16) un (mar 37) (mar 39) msc mar, fun sz u => (d_program hc).mono fun r h' hr => ?_, fun h1 c1 => ⟨CI_108 c1, fun sz u => ?_⟩⟩
    · rw [hA] at hr; exact hr
    · have := w_program (g := g) (h := h1) (sz := sz) (u := u) (md := 108) (ar := mar) ⟨h17, hx⟩
      rw [CI_at c1] at this
      refine this.mono fun r h' hr => ?_
      unfold PQ at hr
      rw [hA] at hr
      obtain ⟨hy, rfl, f, q, rfl, h18⟩ := hr
      exact ⟨rfl, LI.of (CI_mod c1) h18 rfl rfl rfl rfl rfl (MP_ps (MP_sc rfl hm)) rfl h36⟩
  | inr p2 =>
    refine ⟨CI_1 hc, nI (nT p2), fun h' => ∀ N2 Pa2 Im2 : Nat → Int32, (∀ k, k < 45 → N2 k = nw0 k) → CI h' (-1) (upd (upd (mar 40) 0 0) 1 0) (fin p2) N2 0 (mar 16) 0 Pa2 Im2 msc mar, fun sz u => (d_program hc).mono fun r h' hr => ?_, fun h1 c1 => ?_⟩
    · rw [hA] at hr; exact hr
    · have c0 := c1 nw0 z0 z0 (fun _ _ => rfl)
      refine ⟨CI_108 c0, fun sz u => ?_⟩
      have := w_program (g := g) (h := h1) (sz := sz) (u := u) (md := 108) (ar := mar) ⟨h17, hx⟩
      rw [CI_at c0] at this
      refine this.mono fun r h' hr => ?_
      unfold PQ at hr
      rw [hA] at hr
      obtain ⟨hw, rfl, f, q, hr, rfl⟩ := hr
      refine ⟨rfl, LI.of (CI_mod (c1 (fl 45 nw0 (arS (arR p2 mar q) q 15)) (mar 37) (mar 39) fun k hk => fl_g hk)) hr.1.2.2.2 rfl rfl rfl rfl rfl (MP_ar rfl ?_) rfl rfl⟩
      rw [← psS_v36]
      exact MP_sc rfl (MP_fin hr hw)
end tw2
