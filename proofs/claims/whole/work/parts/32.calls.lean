theorem k_8 : ∀ k, k < 16 → (8 ≤ k ↔ (8 : Int32) ≤ nI k) := by decide +kernel
theorem k_m8 : ∀ k, k < 16 → 8 ≤ k → nI k - 8 = nI (k - 8) := by decide +kernel
section CALLS
variable {u u0 u1 : Nat → Int32} {ea : Int32} {B : Nat → Nat → Bool} {N : Nat → Nat → Nat} {c : Nat}
theorem mRaise_inv {k : Nat} {x : Bool} (hk : k ≠ 2) (hi : B 1 2 = true → B 0 2 = true) : (mRaise B k x) 1 2 = true → (mRaise B k x) 0 2 = true := by
  unfold mRaise; split
  · exact hi
  · intro z
    have z1 : uB (B 1) k x 2 = true := z
    show uB (B 0) k x 2 = true
    rw [uB_ne _ _ (Ne.symm hk)] at z1 ⊢; exact hi z1
theorem Rq.line (h : Rq (u0, u1, ea) B N) {k : Nat} (hk : k < 16) (hk2 : k ≠ 2) (x : Bool) : lpLnr u0 u1 (nI k) (bI x) = bI (decide (¬ B 0 k = x)) ∧ Rp (lpLn u0 u1 ea (nI k) (bI x)) (mFol (mRaise B k x) N) N := by
  obtain ⟨h0, h1, t1, t2, t3, hb, hi⟩ := h
  unfold lpLn lpLnr
  by_cases h8 : 8 ≤ k
  · rw [if_pos ((k_8 k hk).mp h8), if_pos ((k_8 k hk).mp h8), k_m8 k hk h8]
    have hm := h1.move (k := k - 8) (by omega) x
    have ho := h0.raiseO (c' := 1) (k := k - 8) (by decide) (by omega) x
    rw [show 8 * 1 + (k - 8) = k by omega] at hm ho
    have a := lpMove_17 u1 (nI (k - 8)) (bI x)
    refine ⟨hm.2, Rq.follow ⟨ho, hm.1, ?_, t2, ?_, hb, mRaise_inv hk2 hi⟩⟩
    · show _ = u0 17 + lpMove u1 (nI (k - 8)) (bI x) 17; rw [a.1]; exact t1
    · show _ = u0 18 + lpMove u1 (nI (k - 8)) (bI x) 18; rw [a.2]; exact t3
  · rw [if_neg (fun z => h8 ((k_8 k hk).mpr z)), if_neg (fun z => h8 ((k_8 k hk).mpr z))]
    have hm := h0.move (k := k) (by omega) x
    have ho := h1.raiseO (c' := 0) (k := k) (by decide) (by omega) x
    rw [show 8 * 0 + k = k by omega] at hm ho
    have a := lpMove_17 u0 (nI k) (bI x)
    refine ⟨hm.2, Rq.follow ⟨hm.1, ho, ?_, t2, ?_, hb, mRaise_inv hk2 hi⟩⟩
    · show _ = lpMove u0 (nI k) (bI x) 17 + _; rw [a.1]; exact t1
    · show _ = lpMove u0 (nI k) (bI x) 18 + _; rw [a.2]; exact t3
theorem lpBo_eq (h : Rq (u0, u1, ea) B N) : lpBo u0 = bI (mDel B N 0).isSome := by
  unfold lpBo; rw [h.del0]
  cases e : mDel B N 0 with
  | none => rw [if_pos (show oI none = -1 from rfl)]; rfl
  | some k => rw [if_neg (show ¬ oI (some k) = -1 from xn_m1 (by have := mDel_lt e; omega))]; rfl
theorem Rq.st0 (h : Rq (u0, u1, ea) B N) {v : Nat → Int32} {B' : Nat → Nat → Bool} {N' : Nat → Nat → Nat} (st : St u0 v B B' N N' 0) : Rp (lpFol v u1, u1, ea) (mFol B' N') N' ∧ lpBo (lpFol v u1) = bI (mDel (mFol B' N') N' 0).isSome ∧ N' 4 0 = N 4 0 := by
  have hr := (St.pair0 h st).follow
  exact ⟨hr, lpBo_eq hr.1, st.2.2.2.2.2.2.2⟩
theorem Rq.st1 (h : Rq (u0, u1, ea) B N) {v : Nat → Int32} {B' : Nat → Nat → Bool} {N' : Nat → Nat → Nat} (st : St u1 v B B' N N' 1) : Rp (lpFol u0 v, v, ea) (mFol B' N') N' ∧ lpBo (lpFol u0 v) = bI (mDel (mFol B' N') N' 0).isSome ∧ N' 4 0 = N 4 0 := by
  have hr := (St.pair1 h st).follow
  exact ⟨hr, lpBo_eq hr.1, st.2.2.2.2.2.2.2⟩
theorem Rc.b0 (h : Rc u B N c) : lpReq u = nI (mBits (mSel B c 0) 8) := h.req.bits
theorem Rc.b1 (h : Rc u B N c) : u 3 = nI (mBits (mSel B c 1) 8) := h.2.1.2.2.1.bits
theorem Rc.b2 (h : Rc u B N c) : u 4 = nI (mBits (mSel B c 2) 8) := h.2.1.2.2.2.bits
theorem Rc.b3 (h : Rc u B N c) : u 1 = nI (mBits (mSel B c 3) 8) := h.2.1.1.bits
theorem Rc.sel (h : Rc u B N c) (hN3 : N 3 c < 2) : (if ¬ u 8 = 0 then u 3 else lpReq u) = nI (mBits (mSel B c (N 3 c)) 8) := by
  have h8 : u 8 = nI (N 3 c) := h.2.2.1.2.2.2
  rw [h8]
  rcases (show N 3 c = 0 ∨ N 3 c = 1 by omega) with e | e
  · rw [e, if_neg (by intro z; exact z nI_0)]; exact h.b0
  · rw [e, if_pos (by decide)]; exact h.b1
theorem lpDel_16 (u : Nat → Int32) : lpDel (upd u 16 0) = lpDel u := rfl
theorem mDel_eq1 {B' : Nat → Nat → Bool} {N' : Nat → Nat → Nat} {v w0 w1 : Nat → Int32} {eb : Int32} (h : Rq (u0, u1, ea) B N) (h' : Rq (w0, w1, eb) B' N') (e : lpDel w1 = lpDel u1) : mDel B' N' 1 = mDel B N 1 := oI_inj (fun k q => by have := mDel_lt q; omega) (fun k q => by have := mDel_lt q; omega) (by rw [← h'.del1, ← h.del1, e])
theorem Rp.read0 (h : Rp (u0, u1, ea) B N) : lpAnsR u0 = nI (mRdR B N 0) ∧ Rp (lpFol (lpAns u0) u1, u1, ea) (mRd B N 0).1 (mRd B N 0).2 ∧ (mRd B N 0).2 4 0 = N 4 0 := by
  obtain ⟨h0, h1, t1, t2, t3, hb, hi⟩ := h.1
  have h16 : u0 16 = bI (B 4 (7 * 0 + 6)) := h0.2.2.2.2.2.2.2.2.2.2
  unfold lpAnsR lpAns mRdR mRd
  rw [h16]
  cases e : B 4 (7 * 0 + 6) with
  | false =>
    rw [if_pos bIf, if_pos bIf, if_neg (show ¬ false = true by decide), if_neg (show ¬ false = true by decide)]
    exact ⟨h0.sel (hb 0 (by decide)).2.2, h.follow, rfl⟩
  | true =>
    rw [if_neg (show ¬ bI true = 0 by decide), if_neg (show ¬ bI true = 0 by decide), if_pos (show true = true from rfl), if_pos (show true = true from rfl)]
    have st := St.unpoll h0 (by decide) hb hi
    have hq := St.pair0 h.1 st
    have hd := hq.del0
    have hb' := hq.2.2.2.2.2.1
    cases e2 : mDel (sB B 4 (7 * 0 + 6) false) N 0 with
    | none =>
      rw [e2] at hd
      have hd : lpDel (upd u0 16 0) = -1 := hd
      rw [if_neg (show ¬ ¬ lpDel (upd u0 16 0) = -1 from fun z => z hd)]
      have et : lpTake (upd u0 16 0) = upd u0 16 0 := by unfold lpTake; rw [if_neg (show ¬ ¬ lpDel (upd u0 16 0) = -1 from fun z => z hd)]
      rw [et]
      refine ⟨nI_0.symm, Rp.follow ⟨hq, ?_⟩, rfl⟩
      rw [mDel_eq1 (v := u0) h.1 hq rfl]; exact h.2
    | some k =>
      have hk := mDel_lt e2
      rw [e2] at hd
      have hd : lpDel (upd u0 16 0) = nI k := hd
      rw [if_pos (show ¬ lpDel (upd u0 16 0) = -1 by rw [hd]; exact xn_m1 (by omega)), hd]
      have s2 := St.take hq.1 (by decide) hb' hq.2.2.2.2.2.2 hk hd
      have r := hq.st0 s2
      refine ⟨?_, r.1, r.2.2⟩
      exact nI_add 128 k
theorem Rp.read1 (h : Rp (u0, u1, ea) B N) : lpAnsR u1 = nI (mRdR B N 1) ∧ Rp (lpFol u0 (lpAns u1), lpAns u1, ea) (mRd B N 1).1 (mRd B N 1).2 ∧ (mRd B N 1).2 4 0 = N 4 0 := by
  obtain ⟨h0, h1, t1, t2, t3, hb, hi⟩ := h.1
  have h16 : u1 16 = bI (B 4 (7 * 1 + 6)) := h1.2.2.2.2.2.2.2.2.2.2
  unfold lpAnsR lpAns mRdR mRd
  rw [h16]
  cases e : B 4 (7 * 1 + 6) with
  | false =>
    rw [if_pos bIf, if_pos bIf, if_neg (show ¬ false = true by decide), if_neg (show ¬ false = true by decide)]
    exact ⟨h1.sel (hb 1 (by decide)).2.2, h.follow, rfl⟩
  | true =>
    rw [if_neg (show ¬ bI true = 0 by decide), if_neg (show ¬ bI true = 0 by decide), if_pos (show true = true from rfl), if_pos (show true = true from rfl)]
    have st := St.unpoll h1 (by decide) hb hi
    have hq := St.pair1 h.1 st
    have hd := hq.del1
    have hb' := hq.2.2.2.2.2.1
    cases e2 : mDel (sB B 4 (7 * 1 + 6) false) N 1 with
    | none =>
      rw [e2] at hd
      have hd : lpDel (upd u1 16 0) = -1 := hd
      rw [if_neg (show ¬ ¬ lpDel (upd u1 16 0) = -1 from fun z => z hd)]
      have et : lpTake (upd u1 16 0) = upd u1 16 0 := by unfold lpTake; rw [if_neg (show ¬ ¬ lpDel (upd u1 16 0) = -1 from fun z => z hd)]
      rw [et]
      refine ⟨nI_0.symm, Rp.follow ⟨hq, ?_⟩, rfl⟩
      rw [mDel_eq1 (v := u0) h.1 hq (lpDel_16 u1)]; exact h.2
    | some k =>
      have hk := mDel_lt e2
      rw [e2] at hd
      have hd : lpDel (upd u1 16 0) = nI k := hd
      rw [if_pos (show ¬ lpDel (upd u1 16 0) = -1 by rw [hd]; exact xn_m1 (by omega)), hd]
      have s2 := St.take hq.2.1 (by decide) hb' hq.2.2.2.2.2.2 hk hd
      have r := hq.st1 s2
      refine ⟨?_, r.1, r.2.2⟩
      exact nI_add 128 k
theorem lpOk_of (h : Rc u B N c) : lpOk u := by
  obtain ⟨-, -, -, h9, h10, h11, h12, h13, h14, h15, h16⟩ := h
  have key : ∀ b : Bool, bI b = 0 ∨ bI b = 1 := by decide
  intro k hk1 hk2
  rcases (show k = 9 ∨ k = 10 ∨ k = 11 ∨ k = 12 ∨ k = 13 ∨ k = 14 ∨ k = 15 ∨ k = 16 by omega) with rfl | rfl | rfl | rfl | rfl | rfl | rfl | rfl
  · rw [h9]; exact key _
  · rw [h10]; exact key _
  · rw [h11]; exact key _
  · rw [h12]; exact key _
  · rw [h13]; exact key _
  · rw [h14]; exact key _
  · rw [h15]; exact key _
  · rw [h16]; exact key _
theorem mDlF_hit : ∀ (n p : Nat) (bl : Bool) (k : Nat), mDlF B N c n p bl = some k → mHit B c k = true := by
  intro n
  induction n with
  | zero => intro p bl k h; cases h
  | succ n ih =>
    intro p bl k h
    rw [mDlF] at h
    split at h
    · cases h
    · split at h
      · next hh => cases h; exact hh
      · exact ih _ _ _ h
theorem mDel_two (hi : B 1 2 = true → B 0 2 = true) (h : mDel B N 0 = some 2) : B 0 2 = true := by
  have hh : mHit B 0 2 = true := mDlF_hit _ _ _ _ h
  unfold mHit at hh
  rw [Bool.and_eq_true, Bool.and_eq_true] at hh
  have hr : mReq B 0 2 = true := hh.2.1
  unfold mReq at hr
  split at hr
  · exact hi hr
  · exact hr
theorem lpNum_eq (h : Rc u B N c) {k : Nat} (hk : k < 8) : lpNum u (nI k) = nI (N 1 c + k) := by
  have h6 : u 6 = nI (N 1 c) := h.2.2.1.2.1
  unfold lpNum; rw [if_pos (xn_m1 (by omega)), h6]; exact nI_add _ _
theorem Rp.take_none (h : Rp (u0, u1, ea) B N) (hd : mDel B N 0 = none) : lpTkr u0 u1 = nI (N 1 0 + 7) ∧ Rp (lpTk u0 u1 ea) B (sN N 4 2 (N 4 2 + 1)) := by
  have e := h.1.del0
  rw [hd] at e
  have e : lpDel u0 = -1 := e
  have et : lpTake u0 = u0 := by unfold lpTake; rw [if_neg (show ¬ ¬ lpDel u0 = -1 from fun z => z e)]
  have h6 : u0 6 = nI (N 1 0) := h.1.1.2.2.1.2.1
  unfold lpTkr lpTk
  rw [e, if_pos (show ¬ (-1 : Int32) = 2 by decide), if_neg (show ¬ ¬ (-1 : Int32) = -1 by decide), if_pos (show ¬ (-1 : Int32) = 2 by decide), et]
  refine ⟨?_, ⟨h.1.1, h.1.2.1, h.1.2.2.1, ?_, h.1.2.2.2.2.1, h.1.2.2.2.2.2.1, h.1.2.2.2.2.2.2⟩, h.2.trans (congrArg Option.isSome (mDel_N rfl))⟩
  · unfold lpNum; rw [if_neg (show ¬ ¬ (-1 : Int32) = -1 by decide), h6]; exact nI_add _ 7
  · show nI (N 4 2 + 1) = ea + 1; rw [← nI_1]; exact congrArg (· + 1) h.1.2.2.2.1
theorem Rp.take_one (h : Rp (u0, u1, ea) B N) {k : Nat} (hk2 : k ≠ 2) (hd : mDel B N 0 = some k) : lpTkr u0 u1 = nI ((mTakN B N 0 k) 1 0 + k) ∧ Rp (lpTk u0 u1 ea) (mTakB B 0 k) (mTakN B N 0 k) := by
  have hk := mDel_lt hd
  have e := h.1.del0
  rw [hd] at e
  have e : lpDel u0 = nI k := e
  have n1 : ¬ nI k = -1 := xn_m1 (by omega)
  have n2 : ¬ nI k = 2 := fun z => hk2 ((nI_eq (by omega) (by decide : (2 : Nat) < 2 ^ 31)).mp z)
  have st := St.take h.1.1 (by decide) h.1.2.2.2.2.2.1 h.1.2.2.2.2.2.2 hk e
  have hq := St.pair0 h.1 st
  unfold lpTkr lpTk
  rw [e, if_pos n2, if_pos n1, if_pos n2]
  refine ⟨lpNum_eq st.1 hk, hq, ?_⟩
  rw [mDel_eq1 (v := u0) h.1 hq rfl, ← h.2]
  unfold mTakB; split <;> rfl
theorem Rp.take_two (h : Rp (u0, u1, ea) B N) (hd : mDel B N 0 = some 2) : ∃ o, o < 8 ∧ mDel (mTakB B 0 2) (mTakN B N 0 2) 1 = some o ∧ lpTkr u0 u1 = nI ((mTakN (mTakB B 0 2) (mTakN B N 0 2) 1 o) 1 1 + o) ∧ Rp (lpTk u0 u1 ea) (mFol (mRaise (mTakB (mTakB B 0 2) 1 o) 2 false) (mTakN (mTakB B 0 2) (mTakN B N 0 2) 1 o)) (mTakN (mTakB B 0 2) (mTakN B N 0 2) 1 o) ∧ (mTakN (mTakB B 0 2) (mTakN B N 0 2) 1 o) 4 0 = N 4 0 := by
  have e := h.1.del0
  rw [hd] at e
  have e : lpDel u0 = nI 2 := e
  have n1 : ¬ nI 2 = -1 := xn_m1 (by omega)
  have n2 : ¬ ¬ nI 2 = 2 := fun z => z rfl
  have st := St.take h.1.1 (by decide) h.1.2.2.2.2.2.1 h.1.2.2.2.2.2.2 (by decide) e
  have hq := St.pair0 h.1 st
  have e1 := mDel_eq1 (v := u0) h.1 hq rfl
  have hs : (mDel B N 1).isSome = true := h.2.symm.trans (mDel_two h.1.2.2.2.2.2.2 hd)
  obtain ⟨o, ho⟩ := Option.isSome_iff_exists.mp hs
  have ho8 := mDel_lt ho
  have hd1 := h.1.del1
  rw [ho] at hd1
  have hd1 : lpDel u1 = nI o := hd1
  have s1 := St.take hq.2.1 (by decide) hq.2.2.2.2.2.1 hq.2.2.2.2.2.2 ho8 hd1
  have hq1 := St.pair1 hq s1
  refine ⟨o, ho8, e1.trans ho, ?_, ?_, s1.2.2.2.2.2.2.2.trans st.2.2.2.2.2.2.2⟩
  · unfold lpTkr lpTFHr
    rw [e, if_neg n2, hd1]
    exact lpNum_eq s1.1 ho8
  · unfold lpTk lpTFH
    rw [e, if_pos n1, if_neg n2]
    exact (hq1.raise false).follow
theorem Rp_I : Rp (lpI 2, lpI (-1), 0) mIB mIN := by
  have z : ∀ c, Bt 0 (fun _ => false) c := fun c => Bt.zero fun _ _ => rfl
  refine ⟨⟨⟨rfl, ⟨z 0, z 0, z 0, z 0⟩, ⟨rfl, rfl, rfl, rfl⟩, rfl, rfl, rfl, rfl, rfl, rfl, rfl, rfl⟩, ⟨rfl, ⟨z 1, z 1, z 1, z 1⟩, ⟨rfl, rfl, rfl, rfl⟩, rfl, rfl, rfl, rfl, rfl, rfl, rfl, rfl⟩, by decide, by decide, by decide, ?_, fun h => h⟩, ?_⟩
  · intro c hc
    rcases (show c = 0 ∨ c = 1 by omega) with rfl | rfl <;> exact ⟨by decide, by decide, by decide⟩
  · rfl
end CALLS
