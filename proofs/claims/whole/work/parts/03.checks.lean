set_option maxRecDepth 100000 in
theorem mFldT_ok : mFldT.all mFldOk = true := by decide +kernel
set_option maxRecDepth 100000 in
theorem mNewT_ok : mNewT.all mNewOk = true := by decide +kernel
set_option maxRecDepth 100000 in
theorem mSitT_ok : mSitT.all mSitOk = true := by decide +kernel
set_option maxRecDepth 100000 in
theorem mLayT_ok : mLayOk = true := by decide +kernel
theorem mCstT_ok : (mCstT.all fun q => decide (lw_tbl[q.2.2.2]? = some (.constant (mRn q.1) q.2.1 q.2.2.1))) = true := by decide +kernel
theorem mCslT_ok : (mCslT.all fun q => decide (lw_tbl[q.2.2.2]? = some (.constantLong (mRn q.1) q.2.1 q.2.2.1))) = true := by decide +kernel
theorem mObjT_ok : (mObjT.all fun q => decide (lw_tbl[q.2.2]? = some (.methodLink (mRn q.1) q.2.1 objectInit))) = true := by decide +kernel
theorem mCpyT_ok : (mCpyT.all fun q => decide (lw_tbl[q.2.2]? = some (.methodLink (mRn q.1) q.2.1 arraycopyName))) = true := by decide +kernel
theorem mOther_ok : mOtherI.map (fun i => lw_tbl[i]?) = [some (.instanceMethod objectInit), some (.code objectInit ⟨#[0xb1]⟩ 1 none), some (.native arraycopyName), some (.static arraycopyName), some (.initialized "java/lang/System"), some (.arrayClass .int), some (.arrayClass .boolean), some (.arrayOver (.object "EarlyBinder$Scene"))] := by decide +kernel
theorem mNatI : (Jvm.natives.all fun r => decide (r.cls ≠ "java/lang/Math") || decide (r.desc ≠ "(II)I")) = true := by decide +kernel
theorem mPlain {x : MethodName} (h : (plainName x.cls || (decide (x.cls = "java/lang/Math") && decide (x.desc = "(II)I"))) = true) : plainFor x = true := by
  rcases (Bool.or_eq_true _ _).mp h with h | h
  · exact plainFor_of_name h
  · obtain ⟨h1, h2⟩ := (Bool.and_eq_true _ _).mp h
    have h1 := of_decide_eq_true h1
    have h2 := of_decide_eq_true h2
    unfold plainFor
    rw [Bool.or_eq_true]
    right
    rw [Option.isNone_iff_eq_none, NativeRow.find?, List.find?_eq_none]
    intro r hr hq
    have h3 := List.all_eq_true.mp mNatI r hr
    simp only [Bool.and_eq_true, beq_iff_eq] at hq
    rw [hq.1.2, hq.2, h1, h2] at h3
    simp at h3
