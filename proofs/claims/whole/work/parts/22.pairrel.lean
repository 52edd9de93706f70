def Nb (N : Nat → Nat → Nat) : Prop := ∀ c, c < 2 → N 0 c < 8 ∧ N 2 c < 5 ∧ N 3 c < 2
def St (u u' : Nat → Int32) (B B' : Nat → Nat → Bool) (N N' : Nat → Nat → Nat) (c : Nat) : Prop :=
  Rc u' B' N' c ∧ (∀ (v : Nat → Int32) (d : Nat), d < 2 → d ≠ c → Rc v B N d → Rc v B' N' d) ∧ Nb N' ∧ (B' 1 2 = true → B' 0 2 = true) ∧ (N' 4 2 = N 4 2) ∧ (∃ x, N' 4 1 = N 4 1 + x ∧ u' 17 = u 17 + nI x) ∧ (∃ x, N' 4 3 = N 4 3 + x ∧ u' 18 = u 18 + nI x) ∧ N' 4 0 = N 4 0
theorem nI_z (x : Int32) : x + nI 0 = x := by rw [nI_0]; exact Int32.add_zero x
section ST
variable {u : Nat → Int32} {B : Nat → Nat → Bool} {N : Nat → Nat → Nat} {c : Nat}
theorem Nb.set0 (h : Nb N) {c x y i j : Nat} (hx : x < 8) : Nb (sN (sN N 4 i y) 0 c x) := by
  intro d hd
  obtain ⟨h1, h2, h3⟩ := h d hd
  refine ⟨?_, h2, h3⟩
  show uN (N 0) c x d < 8
  unfold uN; split
  · exact hx
  · exact h1
theorem St.order (h : Rc u B N c) (hc : c < 2) (hb : Nb N) (hi : B 1 2 = true → B 0 2 = true) {w : Nat} (hw : w < 256) : St u (lpOrd u (nI (w / 32)) (nI (w % 8))) B (mOrd B N c w).1 N (mOrd B N c w).2 c := by
  have hN := (hb c hc).1
  have ho : w / 32 < 8 := by omega
  have hk : w % 8 < 8 := by omega
  have htop := h.top hN
  have z17 : ∀ v : Int32, ∃ x, N 4 1 = N 4 1 + x ∧ v = v + nI x := fun v => ⟨0, rfl, (nI_z v).symm⟩
  have z18 : ∀ v : Int32, ∃ x, N 4 3 = N 4 3 + x ∧ v = v + nI x := fun v => ⟨0, rfl, (nI_z v).symm⟩
  have same : St u u B B N N c := ⟨h, fun _ _ _ _ q => q, hb, hi, rfl, z17 _, z18 _, rfl⟩
  have e18 : ∀ k, k < 8 → ∃ x, (if B 2 (8 * c + k) = false then N 4 3 else N 4 3 + 1) = N 4 3 + x ∧ (lpEnd u (nI k)) 18 = u 18 + nI x := by
    intro k hk
    have hh := h.2.1.2.2.1.has hk
    unfold lpEnd
    rw [if_neg (xn_m1 (by omega)), hh]
    cases e : B 2 (8 * c + k) with
    | false => exact ⟨0, rfl, (nI_z _).symm⟩
    | true => exact ⟨1, rfl, rfl⟩
  have e17 : ∀ k, (lpEnd u k) 17 = u 17 := by
    intro k
    unfold lpEnd; split
    · rfl
    · split <;> rfl
  have eK : ∀ k, k < 8 → St u (lpEnd u (nI k)) B (sB B 2 (8 * c + k) false) N (sN (sN N 4 3 (if B 2 (8 * c + k) = false then N 4 3 else N 4 3 + 1)) 0 c (N 0 c)) c := fun k hk =>
    ⟨h.endK (o := 0) hk, fun v d hd hne q => q.endO hne hk, hb.set0 (j := 0) hN, hi, rfl, ⟨0, rfl, by rw [e17]; exact (nI_z _).symm⟩, e18 k hk, rfl⟩
  have eT : ∀ k, k < 8 → St u (upd (lpEnd u (nI k)) 5 (nI k)) B (sB B 2 (8 * c + k) false) N (sN (sN N 4 3 (if B 2 (8 * c + k) = false then N 4 3 else N 4 3 + 1)) 0 c k) c := fun k hk =>
    ⟨h.endT hk, fun v d hd hne q => q.endO hne hk, hb.set0 (j := 0) hk, hi, rfl, ⟨0, rfl, (e17 _).trans (nI_z _).symm⟩, e18 k hk, rfl⟩
  have hl : ∀ k, mTop B N c = some k → k < 8 := fun k q => mTop_lt q
  unfold mOrd
  have hcase : w / 32 = 0 ∨ w / 32 = 1 ∨ w / 32 = 2 ∨ w / 32 = 3 ∨ w / 32 = 4 ∨ w / 32 = 5 ∨ w / 32 = 6 ∨ w / 32 = 7 := by omega
  rcases hcase with e | e | e | e | e | e | e | e <;> rw [e]
  · -- 0
    refine ⟨?_, fun v d hd hne q => ?_, hb, hi, rfl, ⟨0, rfl, (nI_z _).symm⟩, ⟨0, rfl, (nI_z _).symm⟩, rfl⟩
    · obtain ⟨h0, h1, h5, h9, h10, h11, h12, h13, h14, h15, h16⟩ := h
      exact ⟨h0, h1, h5, h9, h10.trans (congrArg bI (uB_ne _ _ (by omega)).symm), h11.trans (congrArg bI (uB_ne _ _ (by omega)).symm), h12.trans (congrArg bI (uB_ne _ _ (by omega)).symm), h13.trans (congrArg bI (uB_ne _ _ (by omega)).symm), h14.trans (congrArg bI (uB_ne _ _ (by omega)).symm), (show (0 : Int32) = bI (uB (B 4) (7 * c + 5) (decide (0 = 4)) (7 * c + 5)) by rw [uB_self]; rfl), h16.trans (congrArg bI (uB_ne _ _ (by omega)).symm)⟩
    · obtain ⟨h0, h1, h5, h9, h10, h11, h12, h13, h14, h15, h16⟩ := q
      exact ⟨h0, h1, h5, h9, h10.trans (congrArg bI (uB_ne _ _ (by omega)).symm), h11.trans (congrArg bI (uB_ne _ _ (by omega)).symm), h12.trans (congrArg bI (uB_ne _ _ (by omega)).symm), h13.trans (congrArg bI (uB_ne _ _ (by omega)).symm), h14.trans (congrArg bI (uB_ne _ _ (by omega)).symm), h15.trans (congrArg bI (uB_ne _ _ (by omega)).symm), h16.trans (congrArg bI (uB_ne _ _ (by omega)).symm)⟩
  · -- 1
    show St u (lpEnd u (lpTop u)) B (mEnd B N c 1 (w % 8)).1 N (mEnd B N c 1 (w % 8)).2 c
    rw [htop]
    have : mEndK B N c 1 (w % 8) = mTop B N c := rfl
    unfold mEnd
    rw [this]
    cases ht : mTop B N c with
    | none => exact same
    | some k => exact eK k (hl k ht)
  · exact same
  · exact eK _ hk
  · -- 4
    refine ⟨?_, fun v d hd hne q => ?_, hb, hi, rfl, ⟨0, rfl, (nI_z _).symm⟩, ⟨0, rfl, (nI_z _).symm⟩, rfl⟩
    · obtain ⟨h0, h1, h5, h9, h10, h11, h12, h13, h14, h15, h16⟩ := h
      exact ⟨h0, h1, h5, h9, h10.trans (congrArg bI (uB_ne _ _ (by omega)).symm), h11.trans (congrArg bI (uB_ne _ _ (by omega)).symm), h12.trans (congrArg bI (uB_ne _ _ (by omega)).symm), h13.trans (congrArg bI (uB_ne _ _ (by omega)).symm), h14.trans (congrArg bI (uB_ne _ _ (by omega)).symm), (show (1 : Int32) = bI (uB (B 4) (7 * c + 5) (decide (4 = 4)) (7 * c + 5)) by rw [uB_self]; rfl), h16.trans (congrArg bI (uB_ne _ _ (by omega)).symm)⟩
    · obtain ⟨h0, h1, h5, h9, h10, h11, h12, h13, h14, h15, h16⟩ := q
      exact ⟨h0, h1, h5, h9, h10.trans (congrArg bI (uB_ne _ _ (by omega)).symm), h11.trans (congrArg bI (uB_ne _ _ (by omega)).symm), h12.trans (congrArg bI (uB_ne _ _ (by omega)).symm), h13.trans (congrArg bI (uB_ne _ _ (by omega)).symm), h14.trans (congrArg bI (uB_ne _ _ (by omega)).symm), h15.trans (congrArg bI (uB_ne _ _ (by omega)).symm), h16.trans (congrArg bI (uB_ne _ _ (by omega)).symm)⟩
  · -- 5
    show St u (lpEht u) B (mEnd B N c 5 (w % 8)).1 N (mEnd B N c 5 (w % 8)).2 c
    unfold lpEht
    rw [htop]
    have : mEndK B N c 5 (w % 8) = mTop B N c := rfl
    unfold mEnd
    rw [this]
    cases ht : mTop B N c with
    | none => exact same
    | some k =>
      rw [if_neg (show ¬ oI (some k) = -1 from xn_m1 (by have := hl k ht; omega))]
      exact eT k (hl k ht)
  · -- 6
    refine ⟨?_, fun v d hd hne q => ?_, fun d hd => ?_, hi, rfl, ⟨0, rfl, (nI_z _).symm⟩, ⟨0, rfl, (nI_z _).symm⟩, rfl⟩
    · obtain ⟨h0, h1, ⟨h5, h6, h7, h8⟩, h9, h10⟩ := h
      exact ⟨h0, h1, ⟨congrArg nI (uN_self _ _ _).symm, h6, h7, h8⟩, h9, h10⟩
    · obtain ⟨h0, h1, ⟨h5, h6, h7, h8⟩, h9, h10⟩ := q
      exact ⟨h0, h1, ⟨h5.trans (congrArg nI (uN_ne _ _ hne).symm), h6, h7, h8⟩, h9, h10⟩
    · obtain ⟨h1, h2, h3⟩ := hb d hd
      refine ⟨?_, h2, h3⟩
      show uN (N 0) c (w % 8) d < 8
      unfold uN; split
      · exact hk
      · exact h1
  · exact eT _ hk
end ST

theorem mDlF_N {B : Nat → Nat → Bool} {N N' : Nat → Nat → Nat} {c : Nat} (h : N 0 = N' 0) : ∀ n p bl, mDlF B N c n p bl = mDlF B N' c n p bl := by
  have hr : ∀ p, mRk N c p = mRk N' c p := fun p => by unfold mRk; rw [h]
  intro n
  induction n with
  | zero => intro p bl; rfl
  | succ n ih => intro p bl; rw [mDlF, mDlF, hr p, ih]
theorem mDel_N {B : Nat → Nat → Bool} {N N' : Nat → Nat → Nat} {c : Nat} (h : N 0 = N' 0) : mDel B N c = mDel B N' c := mDlF_N h _ _ _
def Rq (q : PS) (B : Nat → Nat → Bool) (N : Nat → Nat → Nat) : Prop := Rc q.1 B N 0 ∧ Rc q.2.1 B N 1 ∧ nI (N 4 1) = q.1 17 + q.2.1 17 ∧ nI (N 4 2) = q.2.2 ∧ nI (N 4 3) = q.1 18 + q.2.1 18 ∧ Nb N ∧ (B 1 2 = true → B 0 2 = true)
def Rp (q : PS) (B : Nat → Nat → Bool) (N : Nat → Nat → Nat) : Prop := Rq q B N ∧ B 0 2 = (mDel B N 1).isSome
section RP
variable {u0 u1 : Nat → Int32} {ea : Int32} {B B' : Nat → Nat → Bool} {N N' : Nat → Nat → Nat}
theorem lpMove_17 (u : Nat → Int32) (k t : Int32) : lpMove u k t 17 = u 17 ∧ lpMove u k t 18 = u 18 := by
  unfold lpMove; split
  · split <;> exact ⟨rfl, rfl⟩
  · exact ⟨rfl, rfl⟩
theorem Rq.thrown {q : PS} (h : Rq q B N) (x : Nat) : Rq q B (sN N 4 0 x) := h
theorem Rp.thrown {q : PS} (h : Rp q B N) (x : Nat) : Rp q B (sN N 4 0 x) := ⟨h.1, h.2.trans (congrArg Option.isSome (mDel_N rfl))⟩
theorem Rq.del1 (h : Rq (u0, u1, ea) B N) : lpDel u1 = oI (mDel B N 1) := h.2.1.del (by decide) (h.2.2.2.2.2.1 1 (by decide)).1
theorem Rq.del0 (h : Rq (u0, u1, ea) B N) : lpDel u0 = oI (mDel B N 0) := h.1.del (by decide) (h.2.2.2.2.2.1 0 (by decide)).1
theorem lpFol_eq (h : Rq (u0, u1, ea) B N) : lpFol u0 u1 = lpMove u0 (nI 2) (bI (mDel B N 1).isSome) := by
  unfold lpFol
  rw [h.del1]
  cases e : mDel B N 1 with
  | none => rfl
  | some k => rw [if_neg (show ¬ oI (some k) = -1 from xn_m1 (by have := mDel_lt e; omega))]; rfl
theorem Rq.raise (h : Rq (u0, u1, ea) B N) (b : Bool) : Rq (lpMove u0 (nI 2) (bI b), u1, ea) (mRaise B 2 b) N := by
  obtain ⟨h0, h1, t1, t2, t3, hb, hi⟩ := h
  obtain ⟨a17, a18⟩ := lpMove_17 u0 (nI 2) (bI b)
  refine ⟨(h0.move (k := 2) (by decide) b).1, h1.raiseO (c' := 0) (k := 2) (by decide) (by decide) b, ?_, t2, ?_, hb, ?_⟩
  · show _ = lpMove u0 (nI 2) (bI b) 17 + _; rw [a17]; exact t1
  · show _ = lpMove u0 (nI 2) (bI b) 18 + _; rw [a18]; exact t3
  · unfold mRaise; split
    · exact hi
    · intro z
      have z1 : uB (B 1) 2 b 2 = true := z
      show uB (B 0) 2 b 2 = true
      rw [uB_self] at z1 ⊢; exact z1
theorem Rq.follow (h : Rq (u0, u1, ea) B N) : Rp (lpFol u0 u1, u1, ea) (mFol B N) N := by
  have hr := h.raise (mDel B N 1).isSome
  rw [← lpFol_eq h] at hr
  refine ⟨hr, ?_⟩
  have hd : mDel (mFol B N) N 1 = mDel B N 1 := oI_inj (fun k q => by have := mDel_lt q; omega) (fun k q => by have := mDel_lt q; omega) (by show oI (mDel (mRaise B 2 (mDel B N 1).isSome) N 1) = _; rw [← hr.del1, ← h.del1])
  rw [hd]
  unfold mFol mRaise
  split
  · assumption
  · show uB (B 0) 2 (mDel B N 1).isSome 2 = _; exact uB_self _ _ _
theorem Rp.follow (h : Rp (u0, u1, ea) B N) : Rp (lpFol u0 u1, u1, ea) B N := by
  have := h.1.follow
  have e : mFol B N = B := by unfold mFol mRaise; rw [if_pos h.2]
  rw [e] at this
  exact this
theorem add3 (a b x : Int32) : a + b + x = a + x + b := by rw [Int32.add_assoc, Int32.add_comm b x, ← Int32.add_assoc]
theorem St.pair0 (h : Rq (u0, u1, ea) B N) {v : Nat → Int32} (st : St u0 v B B' N N' 0) : Rq (v, u1, ea) B' N' := by
  obtain ⟨h0, h1, t1, t2, t3, hb, hi⟩ := h
  obtain ⟨s0, s1, s2, s3, s4, ⟨x, e1, e2⟩, ⟨y, f1, f2⟩, -⟩ := st
  refine ⟨s0, s1 u1 1 (by decide) (by decide) h1, ?_, by rw [s4]; exact t2, ?_, s2, s3⟩
  · show _ = v 17 + u1 17; rw [e1, ← nI_add, t1, e2]; exact add3 _ _ _
  · show _ = v 18 + u1 18; rw [f1, ← nI_add, t3, f2]; exact add3 _ _ _
theorem St.pair1 (h : Rq (u0, u1, ea) B N) {v : Nat → Int32} (st : St u1 v B B' N N' 1) : Rq (u0, v, ea) B' N' := by
  obtain ⟨h0, h1, t1, t2, t3, hb, hi⟩ := h
  obtain ⟨s0, s1, s2, s3, s4, ⟨x, e1, e2⟩, ⟨y, f1, f2⟩, -⟩ := st
  refine ⟨s1 u0 0 (by decide) (by decide) h0, s0, ?_, by rw [s4]; exact t2, ?_, s2, s3⟩
  · show _ = u0 17 + v 17; rw [e1, ← nI_add, t1, e2, Int32.add_assoc]
  · show _ = u0 18 + v 18; rw [f1, ← nI_add, t3, f2, Int32.add_assoc]
end RP
