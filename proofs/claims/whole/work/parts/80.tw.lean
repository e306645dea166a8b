/-! ===== both programs side by side ===== -/
def LI (h : mH) : Prop := ∃ (p : Pg) (msc : Nat → Int32) (mar : Nat → Nat → Int32) (tx un : Nat), CI h (msc 18) (mar 40) p (mar 15) tx (mar 16) un (mar 37) (mar 39) msc mar ∧ MP p msc mar ∧ msc 17 = nI tx ∧ msc 36 = nI un
theorem LI.of {h : mH} {fp : Int32} {kp : Nat → Int32} {p : Pg} {N : Nat → Int32} {tx : Nat} {T : Nat → Int32} {un : Nat} {Pa Im msc : Nat → Int32} {mar : Nat → Nat → Int32} (hc : CI h fp kp p N tx T un Pa Im msc mar) (e1 : msc 18 = fp) (e2 : mar 40 = kp) (e3 : mar 15 = N) (e4 : mar 16 = T) (e5 : mar 37 = Pa) (e6 : mar 39 = Im) (hm : MP p msc mar) (e7 : msc 17 = nI tx) (e8 : msc 36 = nI un) : LI h := by
  subst e1 e2 e3 e4 e5 e6
  exact ⟨p, msc, mar, tx, un, hc, hm, e7, e8⟩
def TW (g : mG) (h : mH) (d1 : Nat) (M1 : mM) (d2 : Nat) (M2 : mM) (args : List Value) : Prop := (∃ fs, h 1 = cO 6 fs) ∧ ∃ (v : Int32) (R : mH → Prop), (∀ sz u, Mt g d1 M1 (.ref 1 :: args) h sz u (fun r h' => r = some (.int v) ∧ R h') sz u) ∧ ∀ h1, R h1 → (∃ fs, h1 108 = cO 7 fs) ∧ ∀ sz u, Mt g d2 M2 (.ref 108 :: args) h1 sz u (fun r h2 => r = some (.int v) ∧ LI h2) sz u
section tw
variable {g : mG} {h : mH} {fp : Int32} {kp : Nat → Int32} {p : Pg} {N : Nat → Int32} {tx : Nat} {T : Nat → Int32} {un : Nat} {Pa Im msc : Nat → Int32} {mar : Nat → Nat → Int32} {d1 d2 : Nat} {M1 M2 : mM} {args : List Value}
theorem CI_1 (hc : CI h fp kp p N tx T un Pa Im msc mar) : ∃ fs, h 1 = cO 6 fs := by
  obtain ⟨pl, sp, cnt, nx, S, A, rfl, -⟩ := hc
  exact ⟨_, wd_1⟩
theorem CI_108 (hc : CI h fp kp p N tx T un Pa Im msc mar) : ∃ fs, h 108 = cO 7 fs := by
  have := CI_at hc
  rw [← this]
  exact ⟨_, blkW_0⟩
theorem CI_un (hc : CI h fp kp p N tx T un Pa Im msc mar) : un ≤ 8 := by
  obtain ⟨pl, sp, cnt, nx, S, A, rfl, -, -, hx⟩ := hc
  obtain ⟨-, -, -, -, -, -, -, -, ⟨x, h1, h2, -⟩, -⟩ := hx
  exact h2
theorem CI_tx (hc : CI h fp kp p N tx T un Pa Im msc mar) : tx ≤ 240 := by
  obtain ⟨pl, sp, cnt, nx, S, A, rfl, -, -, hx⟩ := hc
  obtain ⟨-, -, -, -, -, ⟨-, h2, -⟩, -⟩ := hx
  exact h2
theorem CI_kp (hc : CI h fp kp p N tx T un Pa Im msc mar) : ∀ j, j < 2 → kp j = 0 ∨ kp j = 1 := by
  obtain ⟨pl, sp, cnt, nx, S, A, rfl, -, -, hx⟩ := hc
  obtain ⟨-, -, -, -, -, -, -, -, -, h10⟩ := hx
  exact fun j hj => (h10 j hj).1
theorem CI_e (hc : CI h fp kp p N tx T un Pa Im msc mar) : ∃ e, N 42 = nI e ∧ e ≤ 16 := by
  obtain ⟨pl, sp, cnt, nx, S, A, rfl, -, -, hx⟩ := hc
  obtain ⟨-, -, -, ⟨-, -, -, e, l, q1, q2, q3, q4, q5, -⟩, -⟩ := hx
  exact ⟨e, q5, q1⟩
theorem tw_read {v : Int32} (hc : CI h (msc 18) (mar 40) p (mar 15) tx (mar 16) un (mar 37) (mar 39) msc mar) (hm : MP p msc mar) (h17 : msc 17 = nI tx) (h36 : msc 36 = nI un)
    (a1 : ∀ sz u, Mt g d1 M1 (.ref 1 :: args) h sz u (fun r h' => r = some (.int v) ∧ CI h' (msc 18) (mar 40) p (mar 15) tx (mar 16) un (mar 37) (mar 39) msc mar) sz u) (a2 : ∀ h sz u, Mt g d2 M2 (.ref 108 :: args) (blkW 7 h 108 msc mar) sz u (Pk v h 108 msc mar) sz u) : TW g h d1 M1 d2 M2 args := by
  refine ⟨CI_1 hc, v, _, a1, fun h1 c1 => ⟨CI_108 c1, fun sz u => ?_⟩⟩
  have := a2 h1 sz u
  rw [CI_at c1] at this
  refine this.mono fun r h' hr => ?_
  obtain ⟨rfl, y, f, rfl⟩ := hr
  exact ⟨rfl, LI.of (CI_mod c1) rfl rfl rfl rfl rfl rfl (MP_ar rfl (MP_rcS hm)) h17 h36⟩
theorem Pj_k {v : Int32} {d : Nat} {M : mM} {ar : List Value} {h : mH} {sz u : Nat} (a : Mt g d M ar (blkW 7 h 108 msc mar) sz u (Pj v h 108 msc mar) sz u) : Mt g d M ar (blkW 7 h 108 msc mar) sz u (Pk v h 108 msc mar) sz u := by
  refine a.mono fun r h' hr => ?_
  obtain ⟨rfl, y, rfl⟩ := hr
  exact ⟨rfl, y, mar 38, by rw [va_self]⟩
theorem tw_deed {C : Bool} {v1 v2 : Int32} {N2 : Nat → Int32} (hc : CI h (msc 18) (mar 40) p (mar 15) tx (mar 16) un (mar 37) (mar 39) msc mar) (hm : MP p msc mar) (h17 : msc 17 = nI tx) (h36 : msc 36 = nI un)
    (a1 : ∀ sz u, Mt g d1 M1 (.ref 1 :: args) h sz u (fun r h' => if C then r = some (.int v1) ∧ CI h' (msc 18) (mar 40) p N2 tx (mar 16) (rmU un + 1) (rmP (mar 15) (mar 37) un) (mar 39) msc mar else r = some (.int v2) ∧ CI h' (msc 18) (mar 40) p (mar 15) tx (mar 16) un (mar 37) (mar 39) msc mar) sz u)
    (a2 : ∀ h sz u, Mt g d2 M2 (.ref 108 :: args) (blkW 7 h 108 msc mar) sz u (fun r h' => if C then Pi v1 (dW h 108 msc mar un N2) r h' else Pi v2 (blkW 7 h 108 msc mar) r h') sz u) : TW g h d1 M1 d2 M2 args := by
  cases C with
  | true =>
    refine ⟨CI_1 hc, v1, _, a1, fun h1 c1 => ⟨CI_108 c1, fun sz u => ?_⟩⟩
    have := a2 h1 sz u
    rw [CI_at c1] at this
    refine this.mono fun r h' hr => ?_
    obtain ⟨rfl, rfl⟩ := hr
    exact ⟨rfl, LI.of (CI_mod c1) rfl rfl rfl rfl rfl rfl (MP_ar rfl (MP_ar rfl (MP_sc rfl hm))) h17 rfl⟩
  | false =>
    refine ⟨CI_1 hc, v2, _, a1, fun h1 c1 => ⟨CI_108 c1, fun sz u => ?_⟩⟩
    have := a2 h1 sz u
    rw [CI_at c1] at this
    refine this.mono fun r h' hr => ?_
    obtain ⟨rfl, rfl⟩ := hr
    exact ⟨rfl, p, msc, mar, tx, un, c1, hm, h17, h36⟩
end tw
section tws
variable {g : mG} {h : mH}
theorem t_above (hl : LI h) (t : Int32) : TW g h 2 m_EB_above 2 m_MD_above [.int t] := by
  obtain ⟨p, msc, mar, tx, un, hc, hm, h17, h36⟩ := hl
  exact tw_read hc hm h17 h36 (fun _ _ => d_above hc t) fun _ _ _ => Pj_k (w_above hm t)
theorem t_users (hl : LI h) (t : Int32) : TW g h 2 m_EB_users 2 m_MD_users [.int t] := by
  obtain ⟨p, msc, mar, tx, un, hc, hm, h17, h36⟩ := hl
  exact tw_read hc hm h17 h36 (fun _ _ => d_users hc t) fun _ _ _ => Pj_k (w_users hm t)
theorem t_makers (hl : LI h) (t : Int32) : TW g h 3 m_EB_makers 2 m_MD_makers [.int t] := by
  obtain ⟨p, msc, mar, tx, un, hc, hm, h17, h36⟩ := hl
  exact tw_read hc hm h17 h36 (fun _ _ => d_makers hc t) fun _ _ _ => Pj_k (w_makers hm t)
theorem t_isBelow (hl : LI h) (t x : Int32) : TW g h 1 m_EB_isBelow 2 m_MD_isBelow [.int t, .int x] := by
  obtain ⟨p, msc, mar, tx, un, hc, hm, h17, h36⟩ := hl
  exact tw_read hc hm h17 h36 (fun _ _ => d_isBelow hc t x) fun _ _ _ => Pj_k (w_isBelow hm t x)
theorem t_common (hl : LI h) (t x : Int32) : TW g h 2 m_EB_common 2 m_MD_common [.int t, .int x] := by
  obtain ⟨p, msc, mar, tx, un, hc, hm, h17, h36⟩ := hl
  exact tw_read hc hm h17 h36 (fun _ _ => d_common hc t x) fun _ _ _ => Pj_k (w_common hm t x)
theorem t_found (hl : LI h) (t x : Int32) : TW g h 2 m_EB_found 5 m_MD_found [.int t, .int x] := by
  obtain ⟨p, msc, mar, tx, un, hc, hm, h17, h36⟩ := hl
  exact tw_read hc hm h17 h36 (fun _ _ => d_found hc t x) fun _ _ _ => Pj_k (w_found hm t x)
theorem t_type (hl : LI h) (t x : Int32) : TW g h 5 m_EB_type 8 m_MD_type [.int t, .int x] := by
  obtain ⟨p, msc, mar, tx, un, hc, hm, h17, h36⟩ := hl
  exact tw_read hc hm h17 h36 (fun _ _ => d_type hc t x) fun _ _ _ => Pj_k (w_type hm t x)
theorem t_body (hl : LI h) (t x : Int32) : TW g h 5 m_EB_body 8 m_MD_body [.int t, .int x] := by
  obtain ⟨p, msc, mar, tx, un, hc, hm, h17, h36⟩ := hl
  exact tw_read hc hm h17 h36 (fun _ _ => d_body hc t x) fun _ _ _ => Pj_k (w_body hm t x)
theorem t_callers (hl : LI h) (t : Int32) : TW g h 5 m_EB_callers 8 m_MD_callers [.int t] := by
  obtain ⟨p, msc, mar, tx, un, hc, hm, h17, h36⟩ := hl
  exact tw_read hc hm h17 h36 (fun _ _ => d_callers hc t) fun _ _ _ => Pj_k (w_callers hm t)
theorem t_call (hl : LI h) (t x : Int32) : TW g h 6 m_EB_call 8 m_MD_call [.int t, .int x] := by
  obtain ⟨p, msc, mar, tx, un, hc, hm, h17, h36⟩ := hl
  exact tw_read hc hm h17 h36 (fun _ _ => d_call hc t x) fun _ _ _ => Pj_k (w_call hm t x)
theorem t_holds (hl : LI h) (t : Int32) : TW g h 6 m_EB_holds 8 m_MD_holds [.int t] := by
  obtain ⟨p, msc, mar, tx, un, hc, hm, h17, h36⟩ := hl
  exact tw_read hc hm h17 h36 (fun _ _ => d_holds hc t) fun _ _ _ => Pj_k (w_holds hm t)
theorem t_way (hl : LI h) (t x : Int32) : TW g h 5 m_EB_way 8 m_MD_way [.int t, .int x] := by
  obtain ⟨p, msc, mar, tx, un, hc, hm, h17, h36⟩ := hl
  exact tw_read hc hm h17 h36 (fun _ _ => d_way hc t x) fun _ _ _ => w_way hm t x
theorem t_fault (hl : LI h) : TW g h 0 m_EB_fault 0 m_MD_fault [] := by
  obtain ⟨p, msc, mar, tx, un, hc, hm, h17, h36⟩ := hl
  exact tw_read hc hm h17 h36 (fun _ _ => d_fault hc) fun _ _ _ => Pj_k w_fault
theorem t_journal (hl : LI h) (t x : Int32) : TW g h 2 m_EB_journal 1 m_MD_journal [.int t, .int x] := by
  obtain ⟨p, msc, mar, tx, un, hc, hm, h17, h36⟩ := hl
  obtain ⟨e, e1, e2⟩ := CI_e hc
  exact tw_read hc hm h17 h36 (fun _ _ => d_journal hc t x e1 e2) fun _ _ _ => Pj_k (w_journal t x e e1 e2)
theorem t_told (hl : LI h) (t : Int32) : TW g h 5 m_EB_told 8 m_MD_told [.int t] := by
  obtain ⟨p, msc, mar, tx, un, hc, hm, h17, h36⟩ := hl
  refine tw_read hc hm h17 h36 (fun _ _ => d_told hc t) fun _ _ _ => Pj_k ?_
  rw [← h17, ← h36]
  exact w_told hm t
theorem t_load (hl : LI h) (t : Int32) : TW g h 5 m_EB_load 8 m_MD_load [.int t] := by
  obtain ⟨p, msc, mar, tx, un, hc, hm, h17, h36⟩ := hl
  exact tw_deed hc hm h17 h36 (fun _ _ => d_load hc t) fun _ _ _ => w_load hm h36 (CI_un hc) t
theorem t_root (hl : LI h) (t : Int32) (is : Bool) : TW g h 4 m_EB_root 2 m_MD_root [.int t, .int (b2 is)] := by
  obtain ⟨p, msc, mar, tx, un, hc, hm, h17, h36⟩ := hl
  exact tw_deed hc hm h17 h36 (fun _ _ => d_root hc t is) fun _ _ _ => w_root hm h36 (CI_un hc) t is
theorem t_bind (hl : LI h) (t : Int32) : TW g h 4 m_EB_bind 7 m_MD_bind [.int t] := by
  obtain ⟨p, msc, mar, tx, un, hc, hm, h17, h36⟩ := hl
  exact tw_deed hc hm h17 h36 (fun _ _ => d_bind hc t) fun _ _ _ => w_bind hm h36 (CI_un hc) t
theorem t_loose (hl : LI h) (t : Int32) : TW g h 4 m_EB_loose 2 m_MD_loose [.int t] := by
  obtain ⟨p, msc, mar, tx, un, hc, hm, h17, h36⟩ := hl
  exact tw_deed hc hm h17 h36 (fun _ _ => d_loose hc t) fun _ _ _ => w_loose hm h36 (CI_un hc) t
theorem t_bindAll (hl : LI h) : TW g h 4 m_EB_bindAll 7 m_MD_bindAll [] := by
  obtain ⟨p, msc, mar, tx, un, hc, hm, h17, h36⟩ := hl
  exact tw_deed (C := true) (v2 := 0) hc hm h17 h36 (fun _ _ => d_bindAll hc) fun _ _ _ => w_bindAll hm h36 (CI_un hc)
theorem t_drift (hl : LI h) (t x : Int32) : TW g h 6 m_EB_drift 9 m_MD_drift [.int t, .int x] := by
  obtain ⟨p, msc, mar, tx, un, hc, hm, h17, h36⟩ := hl
  exact tw_deed hc hm h17 h36 (fun _ _ => d_drift hc t x) fun _ _ _ => w_drift hm h36 (CI_un hc) t x
end tws
