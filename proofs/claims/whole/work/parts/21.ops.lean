theorem hasW : ∀ w, w < 256 → ∀ k, k < 8 → lpHas (nI w) (nI k) = bI (decide (w / 2 ^ k % 2 = 1)) := by decide +kernel
theorem hasW0 : ∀ w, w < 256 → lpHas (nI w) 0 = bI (decide (w % 2 = 1)) := by decide +kernel
theorem hasW1 : ∀ w, w < 256 → lpHas (nI w) 1 = bI (decide (w / 2 % 2 = 1)) := by decide +kernel
theorem hasW3 : ∀ w, w < 256 → lpHas (nI w) 3 = bI (decide (w / 8 % 2 = 1)) := by decide +kernel
theorem hasW4 : ∀ w, w < 256 → lpHas (nI w) 4 = bI (decide (w / 16 % 2 = 1)) := by decide +kernel
theorem w_shr5 : ∀ w, w < 256 → nI w >>> ((5 : Int32) &&& 31) = nI (w / 32) := by decide +kernel
theorem w_and7 : ∀ w, w < 256 → nI w &&& 7 = nI (w % 8) := by decide +kernel
theorem w_and248 : ∀ w, w < 256 → nI w &&& 248 = nI (w - w % 8) := by decide +kernel
theorem w_and1 : ∀ w, w < 256 → nI w &&& 1 = nI (w % 2) := by decide +kernel
theorem w_bit : ∀ w, w < 256 → ∀ k, k < 8 → w.testBit k = decide (w / 2 ^ k % 2 = 1) := by decide +kernel
theorem oI_inj {x y : Option Nat} (hx : ∀ k, x = some k → k < 2 ^ 31) (hy : ∀ k, y = some k → k < 2 ^ 31) (h : oI x = oI y) : x = y := by
  cases x with
  | none =>
    cases y with
    | none => rfl
    | some k => exact absurd h.symm (xn_m1 (hy k rfl))
  | some j =>
    cases y with
    | none => exact absurd h (xn_m1 (hx j rfl))
    | some k => exact congrArg some ((nI_eq (hx j rfl) (hy k rfl)).mp h)
section RC2
variable {u : Nat → Int32} {B : Nat → Nat → Bool} {N : Nat → Nat → Nat} {c : Nat}
theorem Rc.move (h : Rc u B N c) {k : Nat} (hk : k < 8) (b : Bool) : Rc (lpMove u (nI k) (bI b)) (mRaise B (8 * c + k) b) N c ∧ lpMoveR u (nI k) (bI b) = bI (decide (¬ B 0 (8 * c + k) = b)) := by
  have hh := h.2.1.1.has hk
  obtain ⟨h0, ⟨h1, h2, h3, h4⟩, h5, h9, h10⟩ := h
  unfold lpMove lpMoveR mRaise
  rw [hh]
  by_cases e : B 0 (8 * c + k) = b
  · have e1 : ¬ ¬ bI (B 0 (8 * c + k)) = bI b := fun z => z (by rw [e])
    rw [if_neg e1, if_neg e1, if_pos e]
    exact ⟨⟨h0, ⟨h1, h2, h3, h4⟩, h5, h9, h10⟩, by rw [decide_eq_false (fun z => z e)]; rfl⟩
  · have e1 : ¬ bI (B 0 (8 * c + k)) = bI b := fun z => e ((bI_inj _ _).mp z)
    rw [if_pos e1, if_pos e1, if_neg e]
    have eb : (!(B 0 (8 * c + k))) = b := by
      cases hx : B 0 (8 * c + k) <;> cases b <;> simp_all
    have x1 := h1.xor hk
    rw [eb] at x1
    refine ⟨?_, by rw [decide_eq_true e]; rfl⟩
    cases b with
    | false => rw [if_pos bIf]; exact ⟨h0, ⟨x1, h2.wo hk, h3, h4⟩, h5, h9, h10⟩
    | true => rw [if_neg (by decide)]; exact ⟨h0, ⟨x1, h2.or hk, h3, h4⟩, h5, h9, h10⟩
theorem Rc.raiseO (h : Rc u B N c) {c' k : Nat} (hcc : c ≠ c') (hk : k < 8) (b : Bool) : Rc u (mRaise B (8 * c' + k) b) N c := by
  unfold mRaise
  split
  · exact h
  · obtain ⟨h0, ⟨h1, h2, h3, h4⟩, h5, h9, h10⟩ := h
    exact ⟨h0, ⟨h1.other hcc hk, h2.other hcc hk, h3, h4⟩, h5, h9, h10⟩
theorem uN_self (f : Nat → Nat) (c x : Nat) : uN f c x c = x := by simp [uN]
theorem uN_ne (f : Nat → Nat) {c c' : Nat} (x : Nat) (h : c ≠ c') : uN f c' x c = f c := by simp [uN, h]
theorem uB_self (f : Nat → Bool) (c : Nat) (x : Bool) : uB f c x c = x := by simp [uB]
theorem uB_ne (f : Nat → Bool) {c c' : Nat} (x : Bool) (h : c ≠ c') : uB f c' x c = f c := by simp [uB, h]
theorem Rc.take (h : Rc u B N c) {k : Nat} (hk : k < 8) (hd : lpDel u = nI k) : Rc (lpTake u) (mTakB B c k) (mTakN B N c k) c := by
  obtain ⟨h0, ⟨h1, h2, h3, h4⟩, ⟨h5, h6, h7, h8⟩, h9, h10, h11, h12, h13, h14, h15, h16⟩ := h
  unfold lpTake mTakB mTakN
  rw [hd, if_pos (xn_m1 (by omega)), h14, h15]
  cases e : B 4 (7 * c + 4) with
  | true =>
    rw [if_pos (by decide), if_pos rfl, if_pos rfl]
    cases e5 : B 4 (7 * c + 5) with
    | false =>
      rw [if_pos bIf, if_pos rfl]
      exact ⟨h0, ⟨h1, h2.wo hk, h3, h4⟩, ⟨h5, h6, h7, h8⟩, h9, h10, h11, h12, h13, h14, h15, h16⟩
    | true =>
      rw [if_neg (by decide), if_neg (by decide)]
      exact ⟨h0, ⟨h1, h2.wo hk, h3, h4⟩, ⟨(show nI k = nI (uN (N 0) c k c) by rw [uN_self]), h6, h7, h8⟩, h9, h10, h11, h12, h13, h14, h15, h16⟩
  | false =>
    rw [if_neg (by decide), if_neg (by decide), if_neg (by decide)]
    exact ⟨h0, ⟨h1, h2.wo hk, h3.or hk, h4⟩, ⟨h5, h6, h7, h8⟩, h9, h10, h11, h12, h13, h14, h15, h16⟩
theorem Rc.takeO (h : Rc u B N c) {c' k : Nat} (hcc : c ≠ c') (hk : k < 8) : Rc u (mTakB B c' k) (mTakN B N c' k) c := by
  obtain ⟨h0, ⟨h1, h2, h3, h4⟩, ⟨h5, h6, h7, h8⟩, h9, h10⟩ := h
  unfold mTakB mTakN
  split
  · split
    · exact ⟨h0, ⟨h1, h2.other hcc hk, h3, h4⟩, ⟨h5, h6, h7, h8⟩, h9, h10⟩
    · exact ⟨h0, ⟨h1, h2.other hcc hk, h3, h4⟩, ⟨h5.trans (show nI (N 0 c) = nI (uN (N 0) c' k c) by rw [uN_ne _ _ hcc]), h6, h7, h8⟩, h9, h10⟩
  · exact ⟨h0, ⟨h1, h2.other hcc hk, h3.other hcc hk, h4⟩, ⟨h5, h6, h7, h8⟩, h9, h10⟩
theorem Rc.endK (h : Rc u B N c) {k o : Nat} (hk : k < 8) : Rc (lpEnd u (nI k)) (sB B 2 (8 * c + k) false) (sN (sN N 4 3 (if B 2 (8 * c + k) = false then N 4 3 else N 4 3 + 1)) 0 c (N 0 c)) c := by
  have hh := h.2.1.2.2.1.has hk
  obtain ⟨h0, ⟨h1, h2, h3, h4⟩, ⟨h5, h6, h7, h8⟩, h9, h10⟩ := h
  unfold lpEnd
  rw [if_neg (xn_m1 (by omega)), hh]
  have e5 : u 5 = nI (uN (N 0) c (N 0 c) c) := by rw [uN_self]; exact h5
  cases e : B 2 (8 * c + k) with
  | false =>
    rw [if_pos bIf]
    refine ⟨h0, ⟨h1, h2, h3.congr fun j _ => ?_, h4⟩, ⟨e5, h6, h7, h8⟩, h9, h10⟩
    show _ = uB (B 2) (8 * c + k) false (8 * c + j)
    by_cases q : 8 * c + j = 8 * c + k
    · rw [q, uB_self, e]
    · rw [uB_ne _ _ q]
  | true =>
    rw [if_neg (by decide)]
    exact ⟨h0, ⟨h1, h2, h3.wo hk, h4⟩, ⟨e5, h6, h7, h8⟩, h9, h10⟩
theorem Rc.endT (h : Rc u B N c) {k : Nat} (hk : k < 8) : Rc (upd (lpEnd u (nI k)) 5 (nI k)) (sB B 2 (8 * c + k) false) (sN (sN N 4 3 (if B 2 (8 * c + k) = false then N 4 3 else N 4 3 + 1)) 0 c k) c := by
  obtain ⟨h0, h1, ⟨-, h6, h7, h8⟩, h9, h10⟩ := h.endK (o := 0) hk
  exact ⟨h0, h1, ⟨(show nI k = nI (uN (N 0) c k c) by rw [uN_self]), h6, h7, h8⟩, h9, h10⟩
theorem Rc.endO (h : Rc u B N c) {c' k x y : Nat} (hcc : c ≠ c') (hk : k < 8) : Rc u (sB B 2 (8 * c' + k) false) (sN (sN N 4 3 x) 0 c' y) c := by
  obtain ⟨h0, ⟨h1, h2, h3, h4⟩, ⟨h5, h6, h7, h8⟩, h9, h10⟩ := h
  exact ⟨h0, ⟨h1, h2, h3.other hcc hk, h4⟩, ⟨h5.trans (show nI (N 0 c) = nI (uN (N 0) c' y c) by rw [uN_ne _ _ hcc]), h6, h7, h8⟩, h9, h10⟩
end RC2
section RC3
variable {u : Nat → Int32} {B : Nat → Nat → Bool} {N : Nat → Nat → Nat} {c : Nat}
theorem Bt.zero {f : Nat → Bool} {c : Nat} (h : ∀ k, k < 8 → f (8 * c + k) = false) : Bt 0 f c := ⟨0, by decide, rfl, fun k hk => by rw [h k hk]; simp⟩
theorem mClr_in (B : Nat → Nat → Bool) (c : Nat) : ∀ n k, k < n → (mClr B c n) 1 (8 * c + k) = false ∧ (mClr B c n) 2 (8 * c + k) = false ∧ (mClr B c n) 3 (8 * c + k) = false := by
  intro n
  induction n with
  | zero => intro k h; omega
  | succ n ih =>
    intro k h
    show uB ((mClr B c n) 1) (8 * c + n) false (8 * c + k) = false ∧ uB ((mClr B c n) 2) (8 * c + n) false (8 * c + k) = false ∧ uB ((mClr B c n) 3) (8 * c + n) false (8 * c + k) = false
    by_cases e : k = n
    · subst e; simp [uB]
    · have e' : ¬ 8 * c + k = 8 * c + n := by omega
      obtain ⟨a1, a2, a3⟩ := ih k (by omega)
      simp [uB, e', a1, a2, a3, e]
theorem mClr_out (B : Nat → Nat → Bool) (c : Nat) : ∀ n j, (∀ k, k < n → j ≠ 8 * c + k) → (mClr B c n) 1 j = B 1 j ∧ (mClr B c n) 2 j = B 2 j ∧ (mClr B c n) 3 j = B 3 j := by
  intro n
  induction n with
  | zero => intro j _; exact ⟨rfl, rfl, rfl⟩
  | succ n ih =>
    intro j h
    have e := h n (by omega)
    obtain ⟨a1, a2, a3⟩ := ih j (fun k hk => h k (by omega))
    show uB ((mClr B c n) 1) (8 * c + n) false j = _ ∧ uB ((mClr B c n) 2) (8 * c + n) false j = _ ∧ uB ((mClr B c n) 3) (8 * c + n) false j = _
    simp [uB, e, a1, a2, a3]
theorem mMod_in (B : Nat → Nat → Bool) (c w : Nat) : ∀ n k, k < n → (mMod B c w n) 4 (7 * c + k) = (decide (k = 1) && decide (w / 8 % 2 = 1)) := by
  intro n
  induction n with
  | zero => intro k h; omega
  | succ n ih =>
    intro k h
    show uB ((mMod B c w n) 4) (7 * c + n) (decide (n = 1) && decide (w / 8 % 2 = 1)) (7 * c + k) = _
    by_cases e : k = n
    · subst e; simp [uB]
    · have e' : ¬ 7 * c + k = 7 * c + n := by omega
      rw [uB_ne _ _ e']; exact ih k (by omega)
theorem mMod_out (B : Nat → Nat → Bool) (c w : Nat) : ∀ n j, (∀ k, k < n → j ≠ 7 * c + k) → (mMod B c w n) 4 j = B 4 j := by
  intro n
  induction n with
  | zero => intro j _; rfl
  | succ n ih =>
    intro j h
    show uB ((mMod B c w n) 4) (7 * c + n) _ j = _
    rw [uB_ne _ _ (h n (by omega))]; exact ih j (fun k hk => h k (by omega))
theorem mClr_k (B : Nat → Nat → Bool) (c : Nat) : ∀ n, (mClr B c n) 0 = B 0 ∧ (mClr B c n) 4 = B 4 ∧ (mClr B c n) 5 = B 5 := by
  intro n
  induction n with
  | zero => exact ⟨rfl, rfl, rfl⟩
  | succ n ih => exact ih
theorem mMod_k (B : Nat → Nat → Bool) (c w : Nat) : ∀ n, (mMod B c w n) 0 = B 0 ∧ (mMod B c w n) 1 = B 1 ∧ (mMod B c w n) 2 = B 2 ∧ (mMod B c w n) 3 = B 3 ∧ (mMod B c w n) 5 = B 5 := by
  intro n
  induction n with
  | zero => exact ⟨rfl, rfl, rfl, rfl, rfl⟩
  | succ n ih => exact ih
theorem mBeg_of (B : Nat → Nat → Bool) (c w : Nat) : (mBegB B c w) 0 = B 0 ∧ (mBegB B c w) 1 = (mClr B c 8) 1 ∧ (mBegB B c w) 2 = (mClr B c 8) 2 ∧ (mBegB B c w) 3 = (mClr B c 8) 3 ∧ (mBegB B c w) 5 = uB (B 5) c (decide (w % 2 = 1)) ∧ ∀ j, (mBegB B c w) 4 j = (mMod (mClr B c 8) c w 7) 4 j := by
  unfold mBegB
  obtain ⟨a0, -, a5⟩ := mClr_k B c 8
  obtain ⟨b0, b1, b2, b3, b5⟩ := mMod_k (mClr B c 8) c w 7
  generalize mMod (mClr B c 8) c w 7 = X at *
  exact ⟨b0.trans a0, b1, b2, b3, by show uB (X 5) c _ = _; rw [b5, a5], fun _ => rfl⟩
theorem Rc.begin (h : Rc u B N c) {w : Nat} (hw : w < 256) : Rc (lpBegin u (nI w)) (mBegB B c w) (mBegN N c) c := by
  obtain ⟨h0, ⟨h1, -, -, -⟩, ⟨-, h6, -, -⟩, -, -⟩ := h
  obtain ⟨f0, f1, f2, f3, f5, f4⟩ := mBeg_of B c w
  have hm : ∀ k, k < 7 → (mBegB B c w) 4 (7 * c + k) = (decide (k = 1) && decide (w / 8 % 2 = 1)) := fun k hk => (f4 _).trans (mMod_in _ c w 7 k hk)
  have hc1 : ∀ k, k < 8 → (mBegB B c w) 1 (8 * c + k) = false := fun k hk => by rw [f1]; exact (mClr_in B c 8 k hk).1
  have hc2 : ∀ k, k < 8 → (mBegB B c w) 2 (8 * c + k) = false := fun k hk => by rw [f2]; exact (mClr_in B c 8 k hk).2.1
  have hc3 : ∀ k, k < 8 → (mBegB B c w) 3 (8 * c + k) = false := fun k hk => by rw [f3]; exact (mClr_in B c 8 k hk).2.2
  clear f1 f2 f3 f4
  generalize mBegB B c w = X at *
  have z : ∀ k, k < 7 → k ≠ 1 → (0 : Int32) = bI (X 4 (7 * c + k)) := fun k hk h1 => by rw [hm k hk, decide_eq_false h1]; rfl
  refine ⟨h0, ⟨?_, Bt.zero hc1, Bt.zero hc2, Bt.zero hc3⟩, ⟨?_, h6, ?_, ?_⟩, ?_, z 0 (by decide) (by decide), ?_, z 2 (by decide) (by decide), z 3 (by decide) (by decide), z 4 (by decide) (by decide), z 5 (by decide) (by decide), z 6 (by decide) (by decide)⟩
  · rw [f0]; exact h1
  · show (7 : Int32) = nI (uN (N 0) c 7 c); rw [uN_self]; rfl
  · show (2 : Int32) = nI (uN (N 2) c 2 c); rw [uN_self]; rfl
  · show (0 : Int32) = nI (uN (N 3) c 0 c); rw [uN_self]; rfl
  · show lpHas (nI w) 0 = bI (X 5 c)
    rw [f5, uB_self]; exact hasW0 w hw
  · show lpHas (nI w) 3 = _
    rw [hm 1 (by decide), decide_eq_true rfl, Bool.true_and]; exact hasW3 w hw
theorem Rc.beginO (h : Rc u B N c) {c' w : Nat} (hcc : c ≠ c') (hc : c < 2) (hc' : c' < 2) : Rc u (mBegB B c' w) (mBegN N c') c := by
  obtain ⟨h0, ⟨h1, h2, h3, h4⟩, ⟨h5, h6, h7, h8⟩, h9, h10⟩ := h
  obtain ⟨f0, f1, f2, f3, f5, f4⟩ := mBeg_of B c' w
  have hx : ∀ k, k < 8 → ∀ j, j < 8 → 8 * c + k ≠ 8 * c' + j := by intros; omega
  have hy : ∀ k, k < 7 → ∀ j, j < 7 → 7 * c + k ≠ 7 * c' + j := by intros; omega
  have hm : ∀ k, k < 7 → (mBegB B c' w) 4 (7 * c + k) = B 4 (7 * c + k) := fun k hk => by rw [f4, mMod_out _ c' w 7 _ (hy k hk), (mClr_k B c' 8).2.1]
  have hm0 : (mBegB B c' w) 4 (7 * c) = B 4 (7 * c) := hm 0 (by decide)
  have g1 : ∀ k, k < 8 → B 1 (8 * c + k) = (mBegB B c' w) 1 (8 * c + k) := fun k hk => by rw [f1]; exact ((mClr_out B c' 8 _ (hx k hk)).1).symm
  have g2 : ∀ k, k < 8 → B 2 (8 * c + k) = (mBegB B c' w) 2 (8 * c + k) := fun k hk => by rw [f2]; exact ((mClr_out B c' 8 _ (hx k hk)).2.1).symm
  have g3 : ∀ k, k < 8 → B 3 (8 * c + k) = (mBegB B c' w) 3 (8 * c + k) := fun k hk => by rw [f3]; exact ((mClr_out B c' 8 _ (hx k hk)).2.2).symm
  clear f1 f2 f3 f4
  generalize mBegB B c' w = X at *
  refine ⟨h0, ⟨by rw [f0]; exact h1, h2.congr g1, h3.congr g2, h4.congr g3⟩, ⟨?_, h6, ?_, ?_⟩, ?_, ?_⟩
  · rw [h5]; show _ = nI (uN (N 0) c' 7 c); rw [uN_ne _ _ hcc]
  · rw [h7]; show _ = nI (uN (N 2) c' 2 c); rw [uN_ne _ _ hcc]
  · rw [h8]; show _ = nI (uN (N 3) c' 0 c); rw [uN_ne _ _ hcc]
  · rw [h9, f5, uB_ne _ _ hcc]
  · rw [hm0, hm 1 (by decide), hm 2 (by decide), hm 3 (by decide), hm 4 (by decide), hm 5 (by decide), hm 6 (by decide)]; exact h10
end RC3
theorem ch_sp : ∀ w, w < 256 → ∀ x : Bool, (if lpHas (nI w) 6 = 0 then bI x else lpHas (nI w) 5) = bI (decide (w / 32 % 4 = 3) || (!(decide (w / 32 % 4 = 2)) && x)) := by decide +kernel
theorem ch_pw : ∀ w, w < 256 → ∀ x : Bool, (if lpHas (nI w) 2 = 0 then bI x else 1) = bI (x || decide (w / 4 % 2 = 1)) := by decide +kernel
theorem ch_rd (w : Nat) (hw : w < 256) (x : Nat) : (if lpHas (nI w) 1 = 0 then nI x else nI w &&& 1) = nI (if ¬ w % 4 = 2 then (if ¬ w % 4 = 3 then x else 1) else 0) := by
  have h1 : lpHas (nI w) 1 = bI (decide (w / 2 % 2 = 1)) := hasW1 w hw
  rw [h1, w_and1 w hw]
  by_cases e : w / 2 % 2 = 1
  · rw [decide_eq_true e, if_neg (by decide)]
    by_cases e2 : w % 4 = 2
    · rw [if_neg (not_not_intro e2), show w % 2 = 0 by omega]
    · rw [if_pos e2, if_neg (fun z => z (show w % 4 = 3 by omega)), show w % 2 = 1 by omega]
  · rw [decide_eq_false e, if_pos bIf, if_pos (by omega), if_pos (by omega)]
theorem lpCh_12 (u : Nat → Int32) (w : Int32) : lpChoose u w 12 = if lpHas w 6 = 0 then u 12 else lpHas w 5 := by
  unfold lpChoose lpCh3 lpCh2 lpCh1; split <;> split <;> split <;> rfl
theorem lpCh_16 (u : Nat → Int32) (w : Int32) : lpChoose u w 16 = if lpHas w 2 = 0 then u 16 else 1 := by
  unfold lpChoose lpCh3 lpCh2 lpCh1; split <;> split <;> split <;> rfl
theorem lpCh_8 (u : Nat → Int32) (w : Int32) : lpChoose u w 8 = if lpHas w 1 = 0 then u 8 else w &&& 1 := by
  unfold lpChoose lpCh3 lpCh2 lpCh1; split <;> split <;> split <;> rfl
theorem lpCh_ne (u : Nat → Int32) (w : Int32) {j : Nat} (h1 : j ≠ 12) (h2 : j ≠ 16) (h3 : j ≠ 8) : lpChoose u w j = u j := by
  unfold lpChoose lpCh3 lpCh2 lpCh1; split <;> split <;> split <;> simp [upd, h1, h2, h3]
section RC4
variable {u : Nat → Int32} {B : Nat → Nat → Bool} {N : Nat → Nat → Nat} {c : Nat}
theorem Rc.set (h : Rc u B N c) {w : Nat} (hw : w < 256) : Rc (lpChoose u (nI w)) (mSetB B c w) (mSetN N c w) c := by
  obtain ⟨h0, ⟨h1, h2, h3, h4⟩, ⟨h5, h6, h7, h8⟩, h9, h10, h11, h12, h13, h14, h15, h16⟩ := h
  have k : ∀ j, j ≠ 12 → j ≠ 16 → j ≠ 8 → lpChoose u (nI w) j = u j := fun j a b d => lpCh_ne u _ a b d
  have m6 : (sB B 4 (7 * c + 2) (mSp B c w)) 4 (7 * c + 6) = B 4 (7 * c + 6) := uB_ne _ _ (by omega)
  have mm : ∀ i, i ≠ 2 → i ≠ 6 → (mSetB B c w) 4 (7 * c + i) = B 4 (7 * c + i) := fun i a b => (uB_ne _ _ (by omega)).trans (uB_ne _ _ (by omega))
  have m0 : (mSetB B c w) 4 (7 * c) = B 4 (7 * c) := mm 0 (by decide) (by decide)
  refine ⟨?_, ⟨?_, ?_, ?_, ?_⟩, ⟨?_, ?_, ?_, ?_⟩, ?_, ?_, ?_, ?_, ?_, ?_, ?_, ?_⟩
  · rw [k 0 (by decide) (by decide) (by decide)]; exact h0
  · rw [k 1 (by decide) (by decide) (by decide)]; exact h1
  · rw [k 2 (by decide) (by decide) (by decide)]; exact h2
  · rw [k 3 (by decide) (by decide) (by decide)]; exact h3
  · rw [k 4 (by decide) (by decide) (by decide)]; exact h4
  · rw [k 5 (by decide) (by decide) (by decide)]; exact h5
  · rw [k 6 (by decide) (by decide) (by decide)]; exact h6
  · rw [k 7 (by decide) (by decide) (by decide)]; exact h7
  · rw [lpCh_8, h8]
    show _ = nI (uN (N 3) c _ c)
    rw [uN_self]; exact ch_rd w hw _
  · rw [k 9 (by decide) (by decide) (by decide)]; exact h9
  · rw [k 10 (by decide) (by decide) (by decide), m0]; exact h10
  · rw [k 11 (by decide) (by decide) (by decide), mm 1 (by decide) (by decide)]; exact h11
  · rw [lpCh_12, h12, ch_sp w hw]
    show bI (mSp B c w) = bI (uB (uB (B 4) (7 * c + 2) (mSp B c w)) (7 * c + 6) _ (7 * c + 2))
    rw [uB_ne _ _ (by omega), uB_self]
  · rw [k 13 (by decide) (by decide) (by decide), mm 3 (by decide) (by decide)]; exact h13
  · rw [k 14 (by decide) (by decide) (by decide), mm 4 (by decide) (by decide)]; exact h14
  · rw [k 15 (by decide) (by decide) (by decide), mm 5 (by decide) (by decide)]; exact h15
  · rw [lpCh_16, h16, ch_pw w hw]
    show _ = bI (uB _ (7 * c + 6) _ (7 * c + 6))
    rw [uB_self, m6]
theorem Rc.setO (h : Rc u B N c) {c' w : Nat} (hcc : c ≠ c') (hc : c < 2) (hc' : c' < 2) : Rc u (mSetB B c' w) (mSetN N c' w) c := by
  obtain ⟨h0, h1, ⟨h5, h6, h7, h8⟩, h9, h10⟩ := h
  have mm : ∀ i, i < 7 → (mSetB B c' w) 4 (7 * c + i) = B 4 (7 * c + i) := fun i a => (uB_ne _ _ (by omega)).trans (uB_ne _ _ (by omega))
  have m0 : (mSetB B c' w) 4 (7 * c) = B 4 (7 * c) := mm 0 (by decide)
  refine ⟨h0, h1, ⟨h5, h6, h7, ?_⟩, h9, ?_⟩
  · rw [h8]; show _ = nI (uN (N 3) c' _ c); rw [uN_ne _ _ hcc]
  · rw [m0, mm 1 (by decide), mm 2 (by decide), mm 3 (by decide), mm 4 (by decide), mm 5 (by decide), mm 6 (by decide)]; exact h10
theorem mMsk_in (B : Nat → Nat → Bool) (c w : Nat) : ∀ n k, k < n → (mMsk B c w n) 3 (8 * c + k) = decide (w / 2 ^ k % 2 = 1) := by
  intro n
  induction n with
  | zero => intro k h; omega
  | succ n ih =>
    intro k h
    show uB ((mMsk B c w n) 3) (8 * c + n) (decide (w / 2 ^ n % 2 = 1)) (8 * c + k) = _
    by_cases e : k = n
    · subst e; rw [uB_self]
    · rw [uB_ne _ _ (by omega)]; exact ih k (by omega)
theorem mMsk_out (B : Nat → Nat → Bool) (c w : Nat) : ∀ n j, (∀ k, k < n → j ≠ 8 * c + k) → (mMsk B c w n) 3 j = B 3 j := by
  intro n
  induction n with
  | zero => intro j _; rfl
  | succ n ih =>
    intro j h
    show uB ((mMsk B c w n) 3) (8 * c + n) _ j = _
    rw [uB_ne _ _ (h n (by omega))]; exact ih j (fun k hk => h k (by omega))
theorem Rc.second (h : Rc u B N c) {w : Nat} (hw : w < 256) (hN : N 2 c < 5) : Rc (lpP1 u (nI w)) (mSecB B N c w) (mSecN B N c w) c := by
  obtain ⟨h0, ⟨h1, h2, h3, h4⟩, ⟨h5, h6, h7, h8⟩, h9, h10, h11, h12, h13, h14, h15, h16⟩ := h
  have q : ∀ i, i < 5 → (u 7 = nI i ↔ N 2 c = i) := fun i hi => by rw [h7]; exact nI_eq (by omega) (by omega)
  unfold lpP1 mSecB mSecN
  by_cases e2 : N 2 c = 2
  · rw [if_pos (show u 7 = 2 from (q 2 (by decide)).mpr e2), if_neg (not_not_intro e2), if_neg (not_not_intro e2), w_and248 w hw]
    refine ⟨h0, ⟨h1, h2, h3, h4⟩, ⟨h5, ?_, ?_, h8⟩, h9, h10, h11, h12, h13, h14, h15, h16⟩
    · show nI (w - w % 8) = nI (uN (N 1) c _ c); rw [uN_self]
    · show (3 : Int32) = nI (uN (N 2) c 3 c); rw [uN_self]; rfl
  · rw [if_neg (show ¬ u 7 = 2 from fun z => e2 ((q 2 (by decide)).mp z)), if_pos e2, if_pos e2]
    by_cases e3 : N 2 c = 3
    · rw [if_pos (show u 7 = 3 from (q 3 (by decide)).mpr e3), if_neg (not_not_intro e3), if_neg (not_not_intro e3), h9]
      cases e : B 5 c with
      | false =>
        rw [if_pos bIf, if_pos rfl, if_pos rfl]
        refine ⟨h0, ⟨h1, h2, h3, h4⟩, ⟨h5, h6, ?_, h8⟩, h9, ?_, ?_, ?_, ?_, ?_, ?_, ?_⟩
        · show (0 : Int32) = nI (uN (N 2) c 0 c); rw [uN_self]; rfl
        · show (1 : Int32) = bI (uB (B 4) (7 * c) true (7 * c)); rw [uB_self]; rfl
        all_goals (show _ = bI (uB (B 4) (7 * c) true _); rw [uB_ne _ _ (by omega)]; assumption)
      | true =>
        rw [if_neg (by decide), if_neg (by decide), if_neg (by decide)]
        refine ⟨h0, ⟨h1, h2, h3, h4⟩, ⟨h5, h6, ?_, h8⟩, h9, ?_, ?_, ?_, ?_, ?_, ?_, ?_⟩
        · show (4 : Int32) = nI (uN (N 2) c 4 c); rw [uN_self]; rfl
        · show (0 : Int32) = bI (uB (B 4) (7 * c) false (7 * c)); rw [uB_self]; rfl
        all_goals (show _ = bI (uB (B 4) (7 * c) false _); rw [uB_ne _ _ (by omega)]; assumption)
    · rw [if_neg (show ¬ u 7 = 3 from fun z => e3 ((q 3 (by decide)).mp z)), if_pos e3, if_pos e3]
      by_cases e4 : N 2 c = 4
      · rw [if_pos (show u 7 = 4 from (q 4 (by decide)).mpr e4), if_neg (not_not_intro e4), if_neg (not_not_intro e4)]
        have b1 : lpHas (nI w) 1 = bI (decide (w / 2 % 2 = 1)) := hasW1 w hw
        have b4 : lpHas (nI w) 4 = bI (decide (w / 16 % 2 = 1)) := hasW4 w hw
        rw [b1, b4]
        refine ⟨h0, ⟨h1, h2, h3, h4⟩, ⟨h5, h6, ?_, h8⟩, h9, ?_, ?_, ?_, ?_, ?_, ?_, ?_⟩
        · show (0 : Int32) = nI (uN (N 2) c 0 c); rw [uN_self]; rfl
        · show (1 : Int32) = bI (uB (uB (uB (B 4) _ _) _ _) (7 * c) true (7 * c)); rw [uB_self]; rfl
        · show _ = bI (uB (uB (uB (B 4) _ _) _ _) (7 * c) true (7 * c + 1)); rw [uB_ne _ _ (by omega), uB_ne _ _ (by omega), uB_ne _ _ (by omega)]; exact h11
        · show _ = bI (uB (uB (uB (B 4) _ _) _ _) (7 * c) true (7 * c + 2)); rw [uB_ne _ _ (by omega), uB_ne _ _ (by omega), uB_ne _ _ (by omega)]; exact h12
        · show _ = bI (uB (uB (uB (B 4) _ _) (7 * c + 3) _) (7 * c) true (7 * c + 3)); rw [uB_ne _ _ (by omega), uB_self]; rfl
        · show _ = bI (uB (uB (uB (B 4) (7 * c + 4) _) (7 * c + 3) _) (7 * c) true (7 * c + 4)); rw [uB_ne _ _ (by omega), uB_ne _ _ (by omega), uB_self]; rfl
        · show _ = bI (uB (uB (uB (B 4) _ _) _ _) (7 * c) true (7 * c + 5)); rw [uB_ne _ _ (by omega), uB_ne _ _ (by omega), uB_ne _ _ (by omega)]; exact h15
        · show _ = bI (uB (uB (uB (B 4) _ _) _ _) (7 * c) true (7 * c + 6)); rw [uB_ne _ _ (by omega), uB_ne _ _ (by omega), uB_ne _ _ (by omega)]; exact h16
      · rw [if_neg (show ¬ u 7 = 4 from fun z => e4 ((q 4 (by decide)).mp z)), if_pos e4, if_pos e4]
        refine ⟨h0, ⟨h1, h2, h3, ⟨w, hw, rfl, fun k hk => ?_⟩⟩, ⟨h5, h6, h7, h8⟩, h9, h10, h11, h12, h13, h14, h15, h16⟩
        rw [mMsk_in B c w 8 k hk, w_bit w hw k hk]
theorem Rc.secondO (h : Rc u B N c) {c' w : Nat} (hcc : c ≠ c') (hc : c < 2) (hc' : c' < 2) : Rc u (mSecB B N c' w) (mSecN B N c' w) c := by
  obtain ⟨h0, ⟨h1, h2, h3, h4⟩, ⟨h5, h6, h7, h8⟩, h9, h10, h11, h12, h13, h14, h15, h16⟩ := h
  have e1 : ∀ x, nI (N 1 c) = nI (uN (N 1) c' x c) := fun x => by rw [uN_ne _ _ hcc]
  have e2 : ∀ x, nI (N 2 c) = nI (uN (N 2) c' x c) := fun x => by rw [uN_ne _ _ hcc]
  unfold mSecB mSecN
  by_cases q2 : N 2 c' = 2
  · rw [if_neg (not_not_intro q2), if_neg (not_not_intro q2)]
    exact ⟨h0, ⟨h1, h2, h3, h4⟩, ⟨h5, h6.trans (e1 _), h7.trans (e2 _), h8⟩, h9, h10, h11, h12, h13, h14, h15, h16⟩
  · rw [if_pos q2, if_pos q2]
    by_cases q3 : N 2 c' = 3
    · rw [if_neg (not_not_intro q3), if_neg (not_not_intro q3)]
      have e4 : ∀ (x : Bool) (i : Nat), i < 7 → B 4 (7 * c + i) = uB (B 4) (7 * c') x (7 * c + i) := fun x i hi => by rw [uB_ne _ _ (by omega)]
      split
      · exact ⟨h0, ⟨h1, h2, h3, h4⟩, ⟨h5, h6, h7.trans (e2 _), h8⟩, h9, h10.trans (congrArg bI (e4 true 0 (by decide))), h11.trans (congrArg bI (e4 true 1 (by decide))), h12.trans (congrArg bI (e4 true 2 (by decide))), h13.trans (congrArg bI (e4 true 3 (by decide))), h14.trans (congrArg bI (e4 true 4 (by decide))), h15.trans (congrArg bI (e4 true 5 (by decide))), h16.trans (congrArg bI (e4 true 6 (by decide)))⟩
      · exact ⟨h0, ⟨h1, h2, h3, h4⟩, ⟨h5, h6, h7.trans (e2 _), h8⟩, h9, h10.trans (congrArg bI (e4 false 0 (by decide))), h11.trans (congrArg bI (e4 false 1 (by decide))), h12.trans (congrArg bI (e4 false 2 (by decide))), h13.trans (congrArg bI (e4 false 3 (by decide))), h14.trans (congrArg bI (e4 false 4 (by decide))), h15.trans (congrArg bI (e4 false 5 (by decide))), h16.trans (congrArg bI (e4 false 6 (by decide)))⟩
    · rw [if_pos q3, if_pos q3]
      by_cases q4 : N 2 c' = 4
      · rw [if_neg (not_not_intro q4), if_neg (not_not_intro q4)]
        have e4 : ∀ i, i < 7 → B 4 (7 * c + i) = uB (uB (uB (B 4) (7 * c' + 4) (decide (w / 2 % 2 = 1))) (7 * c' + 3) (decide (w / 16 % 2 = 1))) (7 * c') true (7 * c + i) := fun i hi => by
          rw [uB_ne _ _ (by omega), uB_ne _ _ (by omega), uB_ne _ _ (by omega)]
        exact ⟨h0, ⟨h1, h2, h3, h4⟩, ⟨h5, h6, h7.trans (e2 _), h8⟩, h9, h10.trans (congrArg bI (e4 0 (by decide))), h11.trans (congrArg bI (e4 1 (by decide))), h12.trans (congrArg bI (e4 2 (by decide))), h13.trans (congrArg bI (e4 3 (by decide))), h14.trans (congrArg bI (e4 4 (by decide))), h15.trans (congrArg bI (e4 5 (by decide))), h16.trans (congrArg bI (e4 6 (by decide)))⟩
      · rw [if_pos q4, if_pos q4]
        exact ⟨h0, ⟨h1, h2, h3, h4.congr fun k hk => ((mMsk_out B c' w 8 _ (fun j hj => by omega))).symm⟩, ⟨h5, h6, h7, h8⟩, h9, h10, h11, h12, h13, h14, h15, h16⟩
end RC4
