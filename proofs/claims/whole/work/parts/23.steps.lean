section STS
variable {u : Nat → Int32} {B : Nat → Nat → Bool} {N : Nat → Nat → Nat} {c : Nat}
theorem uN_lt {f : Nat → Nat} {c x d b : Nat} (h1 : x < b) (h2 : f d < b) : uN f c x d < b := by unfold uN; split <;> assumption
theorem St.begin (h : Rc u B N c) (hc : c < 2) (hb : Nb N) (hi : B 1 2 = true → B 0 2 = true) {w : Nat} (hw : w < 256) : St u (lpBegin u (nI w)) B (mBegB B c w) N (mBegN N c) c := by
  refine ⟨h.begin hw, fun v d hd hne q => q.beginO hne hd hc, fun d hd => ?_, ?_, rfl, ⟨0, rfl, (nI_z _).symm⟩, ⟨0, rfl, (nI_z _).symm⟩, rfl⟩
  · obtain ⟨h1, h2, h3⟩ := hb d hd
    exact ⟨uN_lt (by decide) h1, uN_lt (by decide) h2, uN_lt (by decide) h3⟩
  · intro z
    have z1 : (mClr B c 8) 1 2 = true := by rw [← (mBeg_of B c w).2.1]; exact z
    by_cases e : c = 0
    · subst e
      have := (mClr_in B 0 8 2 (by decide)).1
      have z2 : (mClr B 0 8) 1 (8 * 0 + 2) = true := z1
      rw [this] at z2; cases z2
    · rw [(mClr_out B c 8 2 (fun k hk => by omega)).1] at z1
      rw [(mBeg_of B c w).1]; exact hi z1
theorem St.set (h : Rc u B N c) (hc : c < 2) (hb : Nb N) (hi : B 1 2 = true → B 0 2 = true) {w : Nat} (hw : w < 256) : St u (lpChoose u (nI w)) B (mSetB B c w) N (mSetN N c w) c := by
  refine ⟨h.set hw, fun v d hd hne q => q.setO hne hd hc, fun d hd => ?_, hi, rfl, ⟨0, rfl, ?_⟩, ⟨0, rfl, ?_⟩, rfl⟩
  · obtain ⟨h1, h2, h3⟩ := hb d hd
    refine ⟨h1, h2, uN_lt ?_ h3⟩
    split
    · split
      · exact (hb c hc).2.2
      · decide
    · decide
  · rw [lpCh_ne _ _ (by decide) (by decide) (by decide)]; exact (nI_z _).symm
  · rw [lpCh_ne _ _ (by decide) (by decide) (by decide)]; exact (nI_z _).symm
theorem lpP1_17 (u : Nat → Int32) (w : Int32) : lpP1 u w 17 = u 17 ∧ lpP1 u w 18 = u 18 := by
  unfold lpP1; split
  · exact ⟨rfl, rfl⟩
  · split
    · split <;> exact ⟨rfl, rfl⟩
    · split <;> exact ⟨rfl, rfl⟩
theorem mMsk_01 (B : Nat → Nat → Bool) (c w : Nat) : ∀ n, (mMsk B c w n) 0 = B 0 ∧ (mMsk B c w n) 1 = B 1 := by
  intro n
  induction n with
  | zero => exact ⟨rfl, rfl⟩
  | succ n ih => exact ih
theorem mSec_01 (B : Nat → Nat → Bool) (N : Nat → Nat → Nat) (c w : Nat) : (mSecB B N c w) 0 = B 0 ∧ (mSecB B N c w) 1 = B 1 := by
  unfold mSecB; split
  · split
    · split
      · exact mMsk_01 B c w 8
      · exact ⟨rfl, rfl⟩
    · split <;> exact ⟨rfl, rfl⟩
  · exact ⟨rfl, rfl⟩
theorem mSec_4 (B : Nat → Nat → Bool) (N : Nat → Nat → Nat) (c w : Nat) : (mSecN B N c w) 4 = N 4 := by
  unfold mSecN; split
  · split
    · split <;> rfl
    · split <;> rfl
  · rfl
theorem mSec_b (B : Nat → Nat → Bool) (N : Nat → Nat → Nat) (c w : Nat) (hb : Nb N) : Nb (mSecN B N c w) := by
  intro d hd
  obtain ⟨h1, h2, h3⟩ := hb d hd
  unfold mSecN; split
  · split
    · split
      · exact ⟨h1, h2, h3⟩
      · exact ⟨h1, uN_lt (by decide) h2, h3⟩
    · split
      · exact ⟨h1, uN_lt (by decide) h2, h3⟩
      · exact ⟨h1, uN_lt (by decide) h2, h3⟩
  · exact ⟨h1, uN_lt (by decide) h2, h3⟩
theorem St.second (h : Rc u B N c) (hc : c < 2) (hb : Nb N) (hi : B 1 2 = true → B 0 2 = true) {w : Nat} (hw : w < 256) : St u (lpP1 u (nI w)) B (mSecB B N c w) N (mSecN B N c w) c := by
  have e := mSec_01 B N c w
  have e4 := mSec_4 B N c w
  have e17 := lpP1_17 u (nI w)
  refine ⟨h.second hw (hb c hc).2.1, fun v d hd hne q => q.secondO hne hd hc, mSec_b B N c w hb, ?_, by rw [e4], ⟨0, by rw [e4]; rfl, ?_⟩, ⟨0, by rw [e4]; rfl, ?_⟩, by rw [e4]⟩
  · rw [e.1, e.2]; exact hi
  · rw [e17.1]; exact (nI_z _).symm
  · rw [e17.2]; exact (nI_z _).symm
theorem St.p0 (h : Rc u B N c) (hc : c < 2) (hb : Nb N) (hi : B 1 2 = true → B 0 2 = true) {w : Nat} (hw : w < 256) : St u (lpP0 u (nI w)) B (mP0 B N c w).1 N (mP0 B N c w).2 c := by
  have b4 : lpHas (nI w) 4 = bI (decide (w / 16 % 2 = 1)) := hasW4 w hw
  have b3 : lpHas (nI w) 3 = bI (decide (w / 8 % 2 = 1)) := hasW3 w hw
  unfold lpP0 mP0
  rw [b4, b3, w_shr5 w hw, w_and7 w hw]
  by_cases e4 : w / 16 % 2 = 1
  · rw [decide_eq_true e4, if_neg (by decide), if_neg (not_not_intro e4)]; exact St.begin h hc hb hi hw
  · rw [decide_eq_false e4, if_pos bIf, if_pos e4]
    by_cases e3 : w / 8 % 2 = 0
    · rw [decide_eq_false (by omega), if_pos bIf, if_neg (not_not_intro e3)]; exact St.order h hc hb hi hw
    · rw [decide_eq_true (by omega), if_neg (by decide), if_pos e3]; exact St.set h hc hb hi hw
theorem lpTake_17 (u : Nat → Int32) (h : ¬ lpDel u = -1) : lpTake u 17 = u 17 + 1 ∧ lpTake u 18 = u 18 := by
  unfold lpTake; rw [if_pos h]; split
  · split <;> exact ⟨rfl, rfl⟩
  · exact ⟨rfl, rfl⟩
theorem St.take (h : Rc u B N c) (hc : c < 2) (hb : Nb N) (hi : B 1 2 = true → B 0 2 = true) {k : Nat} (hk : k < 8) (hd : lpDel u = nI k) : St u (lpTake u) B (mTakB B c k) N (mTakN B N c k) c := by
  have e17 := lpTake_17 u (by rw [hd]; exact xn_m1 (by omega))
  have t4 : (mTakN B N c k) 4 2 = N 4 2 ∧ (mTakN B N c k) 4 1 = N 4 1 + 1 ∧ (mTakN B N c k) 4 3 = N 4 3 ∧ (mTakN B N c k) 4 0 = N 4 0 := by
    unfold mTakN; split
    · split <;> exact ⟨rfl, rfl, rfl, rfl⟩
    · exact ⟨rfl, rfl, rfl, rfl⟩
  refine ⟨h.take hk hd, fun v d hd hne q => q.takeO hne hk, fun d hd => ?_, ?_, t4.1, ⟨1, t4.2.1, e17.1⟩, ⟨0, t4.2.2.1, ?_⟩, t4.2.2.2⟩
  · obtain ⟨h1, h2, h3⟩ := hb d hd
    unfold mTakN; split
    · split
      · exact ⟨h1, h2, h3⟩
      · exact ⟨uN_lt hk h1, h2, h3⟩
    · exact ⟨h1, h2, h3⟩
  · intro z
    have z1 : uB (B 1) (8 * c + k) false 2 = true := by
      revert z; unfold mTakB; split <;> exact id
    have z2 : B 1 2 = true := by
      unfold uB at z1; split at z1
      · cases z1
      · exact z1
    have : (mTakB B c k) 0 = B 0 := by unfold mTakB; split <;> rfl
    rw [this]; exact hi z2
  · rw [e17.2]; exact (nI_z _).symm
theorem St.unpoll (h : Rc u B N c) (hc : c < 2) (hb : Nb N) (hi : B 1 2 = true → B 0 2 = true) : St u (upd u 16 0) B (sB B 4 (7 * c + 6) false) N N c := by
  refine ⟨?_, fun v d hd hne q => ?_, hb, hi, rfl, ⟨0, rfl, (nI_z _).symm⟩, ⟨0, rfl, (nI_z _).symm⟩, rfl⟩
  · obtain ⟨h0, h1, h5, h9, h10, h11, h12, h13, h14, h15, h16⟩ := h
    exact ⟨h0, h1, h5, h9, h10.trans (congrArg bI (uB_ne _ _ (by omega)).symm), h11.trans (congrArg bI (uB_ne _ _ (by omega)).symm), h12.trans (congrArg bI (uB_ne _ _ (by omega)).symm), h13.trans (congrArg bI (uB_ne _ _ (by omega)).symm), h14.trans (congrArg bI (uB_ne _ _ (by omega)).symm), h15.trans (congrArg bI (uB_ne _ _ (by omega)).symm), (show (0 : Int32) = bI (uB (B 4) (7 * c + 6) false (7 * c + 6)) by rw [uB_self]; rfl)⟩
  · obtain ⟨h0, h1, h5, h9, h10, h11, h12, h13, h14, h15, h16⟩ := q
    exact ⟨h0, h1, h5, h9, h10.trans (congrArg bI (uB_ne _ _ (by omega)).symm), h11.trans (congrArg bI (uB_ne _ _ (by omega)).symm), h12.trans (congrArg bI (uB_ne _ _ (by omega)).symm), h13.trans (congrArg bI (uB_ne _ _ (by omega)).symm), h14.trans (congrArg bI (uB_ne _ _ (by omega)).symm), h15.trans (congrArg bI (uB_ne _ _ (by omega)).symm), h16.trans (congrArg bI (uB_ne _ _ (by omega)).symm)⟩
end STS
