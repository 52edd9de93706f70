def mReqL (B : Nat → Nat → Bool) (c j : Nat) : Bool := if B 4 (7 * c + 1) = false then B 1 j else B 0 j
def mBlkL (B : Nat → Nat → Bool) (c j : Nat) : Bool := B 2 j && (!(B 4 (7 * c + 2)) || !(B 3 j))
def Rc (u : Nat → Int32) (B : Nat → Nat → Bool) (N : Nat → Nat → Nat) (c : Nat) : Prop :=
  u 0 = (if c = 0 then 2 else -1) ∧ (Bt (u 1) (B 0) c ∧ Bt (u 2) (B 1) c ∧ Bt (u 3) (B 2) c ∧ Bt (u 4) (B 3) c) ∧ (u 5 = nI (N 0 c) ∧ u 6 = nI (N 1 c) ∧ u 7 = nI (N 2 c) ∧ u 8 = nI (N 3 c)) ∧ u 9 = bI (B 5 c) ∧
  (u 10 = bI (B 4 (7 * c)) ∧ u 11 = bI (B 4 (7 * c + 1)) ∧ u 12 = bI (B 4 (7 * c + 2)) ∧ u 13 = bI (B 4 (7 * c + 3)) ∧ u 14 = bI (B 4 (7 * c + 4)) ∧ u 15 = bI (B 4 (7 * c + 5)) ∧ u 16 = bI (B 4 (7 * c + 6)))
theorem bIf : bI false = 0 := rfl
theorem bI_ne (b : Bool) : ¬ bI b = 0 ↔ b = true := by cases b <;> decide
section RC
variable {u : Nat → Int32} {B : Nat → Nat → Bool} {N : Nat → Nat → Nat} {c : Nat}
theorem Rc.req (h : Rc u B N c) : Bt (lpReq u) (mReqL B c) c := by
  obtain ⟨-, ⟨h1, h2, -, -⟩, -, -, -, h11, -⟩ := h
  unfold lpReq
  rw [h11]
  cases e : B 4 (7 * c + 1) with
  | false => rw [if_pos bIf]; exact h2.congr fun k _ => by simp [mReqL, e]
  | true => rw [if_neg (by decide)]; exact h1.congr fun k _ => by simp [mReqL, e]
theorem Rc.isc (h : Rc u B N c) : Bt (lpIsc u) (mBlkL B c) c := by
  obtain ⟨-, ⟨-, -, h3, h4⟩, -, -, -, -, h12, -⟩ := h
  unfold lpIsc
  rw [h12]
  cases e : B 4 (7 * c + 2) with
  | false => rw [if_pos bIf]; exact h3.congr fun k _ => by simp [mBlkL, e]
  | true => rw [if_neg (by decide)]; exact (h3.diff h4).congr fun k _ => by simp [mBlkL, e]
theorem Rc.cand (h : Rc u B N c) (hN : N 0 c < 8) : lpCand u = oI (hiF (fun k => mReq B c k && !(B 3 (8 * c + k))) (N 0 c) 8 0) := by
  have hr := h.req
  obtain ⟨-, ⟨-, -, -, h4⟩, ⟨h5, -⟩, -⟩ := h
  unfold lpCand lpHi
  rw [h5]
  exact (hr.diff h4).hi hN 8 0 rfl
theorem Rc.top (h : Rc u B N c) (hN : N 0 c < 8) : lpTop u = oI (mTop B N c) := by
  have hr := h.isc
  obtain ⟨-, -, ⟨h5, -⟩, -⟩ := h
  unfold lpTop lpHi
  rw [h5]
  have key : ∀ n p, mTopF B N c n p = hiF (mBlk B c) (N 0 c) n p := by
    intro n
    induction n with
    | zero => intro p; rfl
    | succ n ih => intro p; rw [mTopF, hiF, ih]; rfl
  rw [show mTop B N c = hiF (mBlk B c) (N 0 c) 8 0 from key 8 0]
  exact hr.hi hN 8 0 rfl
theorem Rc.blk (h : Rc u B N c) (hc : c < 2) {l : Nat} (hl : l < 8) : Bt (lpBlk u (nI l)) (fun j => mBlkL B c j && !(decide (j = 8 * c + l) && mOwn B c l)) c := by
  have hr := h.isc
  obtain ⟨h0, -, -, -, -, -, -, h13, -⟩ := h
  unfold lpBlk
  rw [h13, h0]
  cases e : B 4 (7 * c + 3) with
  | false =>
    rw [if_pos bIf]
    refine hr.congr fun k _ => ?_
    have e0 : mOwn B c l = false := by
      unfold mOwn
      by_cases q : c = 0
      · subst q; simp only [Nat.mul_zero, Nat.zero_add] at e; simp [e]
      · simp [q]
    rw [e0]; simp
  | true =>
    rw [if_neg (by decide)]
    by_cases q : c = 0
    · subst q
      rw [if_pos rfl]
      by_cases q2 : l = 2
      · subst q2
        rw [if_neg (by decide)]
        refine (hr.wo hl).congr fun k _ => ?_
        have e0 : mOwn B 0 2 = true := by unfold mOwn; simp only [Nat.mul_zero, Nat.zero_add] at e; simp [e]
        rw [e0]
        by_cases q3 : k = 2
        · subst q3; simp [uB]
        · simp [uB, q3]
      · rw [if_pos (show ¬ nI l = 2 from fun z => q2 ((nI_eq (by omega) (by decide : (2 : Nat) < 2 ^ 31)).mp z))]
        refine hr.congr fun k _ => ?_
        have e0 : mOwn B 0 l = false := by unfold mOwn; simp [q2]
        rw [e0]; simp
    · rw [if_neg q, if_pos (xn_m1 (by omega))]
      refine hr.congr fun k _ => ?_
      have e0 : mOwn B c l = false := by unfold mOwn; simp [q]
      rw [e0]; simp
theorem mDlF_dw (B : Nat → Nat → Bool) (N : Nat → Nat → Nat) (c : Nat) : ∀ n p bl, mDlF B N c n p bl = dwF (fun k => mReq B c k && !(B 3 (8 * c + k))) (mBlk B c) (mOwn B c) (N 0 c) n p bl := by
  intro n
  induction n with
  | zero => intro p bl; rfl
  | succ n ih => intro p bl; rw [mDlF, dwF, ih]; rfl
theorem Rc.del (h : Rc u B N c) (hc : c < 2) (hN : N 0 c < 8) : lpDel u = oI (mDel B N c) := by
  have hcand := h.cand hN
  have hblk := fun l (hl : l < 8) => h.blk hc hl
  obtain ⟨-, -, ⟨h5, -⟩, -, h10, -⟩ := h
  unfold lpDel mDel
  rw [h10, mDlF_dw]
  simp only [Nat.add_zero]
  cases e : B 4 (7 * c) with
  | false =>
    rw [if_neg (by decide)]
    simp only [Bool.not_false, dwF_true]
    rfl
  | true =>
    rw [if_pos (by decide)]
    simp only [Bool.not_true]
    rw [dv_dw _ _ _ _ hN 8 0 rfl]
    unfold dvF
    rw [hcand]
    cases hh : hiF (fun k => mReq B c k && !(B 3 (8 * c + k))) (N 0 c) 8 0 with
    | none => rw [if_neg (by intro z; exact z rfl)]; rfl
    | some l =>
      obtain ⟨q, -, -, q3⟩ := hiF_some 8 0 l rfl hh
      have hl : l < 8 := by omega
      have hb := (hblk l hl).hi hN 8 0 rfl
      rw [if_pos (show ¬ oI (some l) = -1 from xn_m1 (by omega))]
      have e5 : lpHi u (lpBlk u (oI (some l))) = oI (hiF (fun k => mBlk B c k && !(decide (k = l) && mOwn B c l)) (N 0 c) 8 0) := by
        unfold lpHi
        rw [h5]
        refine Eq.trans hb ?_
        congr 2
        funext k
        have : decide (8 * c + k = 8 * c + l) = decide (k = l) := by
          by_cases z : k = l
          · subst z; simp
          · have : ¬ 8 * c + k = 8 * c + l := by omega
            simp [z, this]
        show (mBlkL B c (8 * c + k) && !(decide (8 * c + k = 8 * c + l) && mOwn B c l)) = _
        rw [this]; rfl
      rw [e5]
      dsimp only
      cases hh2 : hiF (fun k => mBlk B c k && !(decide (k = l) && mOwn B c l)) (N 0 c) 8 0 with
      | none => exact if_pos (show oI none = -1 from rfl)
      | some t =>
        obtain ⟨q', -, -, q3'⟩ := hiF_some 8 0 t rfl hh2
        have ht : t < 8 := by omega
        rw [if_neg (show ¬ oI (some t) = -1 from xn_m1 (by omega))]
        have r1 : lpRank u (oI (some t)) = nI ((t + 7 - N 0 c) % 8) := by unfold lpRank; rw [h5]; exact bt_rank t ht _ hN
        have r2 : lpRank u (oI (some l)) = nI ((l + 7 - N 0 c) % 8) := by unfold lpRank; rw [h5]; exact bt_rank l hl _ hN
        rw [r1, r2]
        dsimp only
        by_cases z : (t + 7 - N 0 c) % 8 ≤ (l + 7 - N 0 c) % 8
        · rw [if_pos ((nI_leI (by omega) (by omega)).mpr z), if_pos z]; rfl
        · rw [if_neg (fun w => z ((nI_leI (by omega) (by omega)).mp w)), if_neg z]
end RC
