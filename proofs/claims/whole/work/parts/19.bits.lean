theorem bt_has : ∀ a, a < 256 → ∀ k, k < 8 → lpHas (nI a) (nI k) = bI (a.testBit k) := by decide +kernel
theorem bt_wo : ∀ a, a < 256 → ∀ k, k < 8 → lpWo (nI a) (nI k) = nI (a &&& (255 ^^^ 2 ^ k)) := by decide +kernel
theorem bt_or : ∀ a, a < 256 → ∀ k, k < 8 → (nI a ||| ((1 : Int32) <<< (nI k &&& 31))) = nI (a ||| 2 ^ k) := by decide +kernel
theorem bt_xor : ∀ a, a < 256 → ∀ k, k < 8 → (nI a ^^^ ((1 : Int32) <<< (nI k &&& 31))) = nI (a ^^^ 2 ^ k) := by decide +kernel
theorem bt_not : ∀ b, b < 256 → nI b ^^^ (-1) = nI (4294967295 - b) := by decide +kernel
theorem bt_notb : ∀ b, b < 256 → ∀ j, j < 8 → (4294967295 - b).testBit j = !(b.testBit j) := by decide +kernel
theorem bt_rank : ∀ k, k < 8 → ∀ lo, lo < 8 → ((nI k - nI lo) - 1) &&& 7 = nI ((k + 7 - lo) % 8) := by decide +kernel
theorem bt_ranked : ∀ lo, lo < 8 → ∀ p, p < 8 → ((nI lo + 1) + nI p) &&& 7 = nI ((lo + 1 + p) % 8) := by decide +kernel
theorem bt_and (a b : Nat) : nI a &&& nI b = nI (a &&& b) := by
  apply Int32.toBitVec_inj.mp
  show BitVec.ofNat 32 a &&& BitVec.ofNat 32 b = BitVec.ofNat 32 (a &&& b)
  exact BitVec.eq_of_toNat_eq (by simp [BitVec.toNat_and, Nat.and_mod_two_pow])
def Bt (x : Int32) (f : Nat → Bool) (c : Nat) : Prop := ∃ a, a < 256 ∧ x = nI a ∧ ∀ k, k < 8 → a.testBit k = f (8 * c + k)
theorem Bt.has {x : Int32} {f : Nat → Bool} {c k : Nat} (h : Bt x f c) (hk : k < 8) : lpHas x (nI k) = bI (f (8 * c + k)) := by
  obtain ⟨a, h1, rfl, h3⟩ := h
  rw [bt_has a h1 k hk, h3 k hk]
theorem bt_255 : ∀ k, k < 8 → ∀ j, j < 8 → (255 ^^^ 2 ^ k).testBit j = !(decide (j = k)) := by decide +kernel
theorem bt_2p : ∀ k, k < 8 → ∀ j, j < 8 → (2 ^ k).testBit j = decide (j = k) := by decide +kernel
theorem bt_lt : ∀ k, k < 8 → 2 ^ k < 256 := by decide +kernel
theorem Bt.wo {x : Int32} {f : Nat → Bool} {c k : Nat} (h : Bt x f c) (hk : k < 8) : Bt (lpWo x (nI k)) (uB f (8 * c + k) false) c := by
  obtain ⟨a, h1, rfl, h3⟩ := h
  refine ⟨_, Nat.lt_of_le_of_lt Nat.and_le_left h1, bt_wo a h1 k hk, fun j hj => ?_⟩
  rw [Nat.testBit_and, bt_255 k hk j hj, h3 j hj]
  by_cases e : j = k
  · subst e; simp [uB]
  · simp [uB, e]
theorem Bt.or {x : Int32} {f : Nat → Bool} {c k : Nat} (h : Bt x f c) (hk : k < 8) : Bt (x ||| ((1 : Int32) <<< (nI k &&& 31))) (uB f (8 * c + k) true) c := by
  obtain ⟨a, h1, rfl, h3⟩ := h
  refine ⟨_, Nat.or_lt_two_pow (n := 8) h1 (bt_lt k hk), bt_or a h1 k hk, fun j hj => ?_⟩
  rw [Nat.testBit_or, bt_2p k hk j hj, h3 j hj]
  by_cases e : j = k
  · subst e; simp [uB]
  · simp [uB, e]
theorem Bt.xor {x : Int32} {f : Nat → Bool} {c k : Nat} (h : Bt x f c) (hk : k < 8) : Bt (x ^^^ ((1 : Int32) <<< (nI k &&& 31))) (uB f (8 * c + k) (!(f (8 * c + k)))) c := by
  obtain ⟨a, h1, rfl, h3⟩ := h
  refine ⟨_, Nat.xor_lt_two_pow (n := 8) h1 (bt_lt k hk), bt_xor a h1 k hk, fun j hj => ?_⟩
  rw [Nat.testBit_xor, bt_2p k hk j hj, h3 j hj]
  by_cases e : j = k
  · subst e; simp [uB]
  · simp [uB, e]
theorem Bt.diff {x y : Int32} {f g : Nat → Bool} {c : Nat} (h : Bt x f c) (hg : Bt y g c) : Bt (x &&& (y ^^^ (-1))) (fun k => f k && !(g k)) c := by
  obtain ⟨a, h1, rfl, h3⟩ := h
  obtain ⟨b, g1, rfl, g3⟩ := hg
  refine ⟨a &&& (4294967295 - b), Nat.lt_of_le_of_lt Nat.and_le_left h1, by rw [bt_not b g1, bt_and], fun j hj => ?_⟩
  rw [Nat.testBit_and, bt_notb b g1 j hj, h3 j hj, g3 j hj]
theorem Bt.congr {x : Int32} {f g : Nat → Bool} {c : Nat} (h : Bt x f c) (e : ∀ k, k < 8 → f (8 * c + k) = g (8 * c + k)) : Bt x g c := by
  obtain ⟨a, h1, h2, h3⟩ := h
  exact ⟨a, h1, h2, fun k hk => (h3 k hk).trans (e k hk)⟩
theorem Bt.other {x : Int32} {f : Nat → Bool} {c c' k : Nat} {b : Bool} (h : Bt x f c) (hc : c ≠ c') (hk : k < 8) : Bt x (uB f (8 * c' + k) b) c :=
  h.congr fun j hj => by
    have : ¬ 8 * c + j = 8 * c' + k := by omega
    simp [uB, this]
theorem mBits_lt (f : Nat → Bool) : ∀ n, mBits f n < 2 ^ n := by
  intro n
  induction n with
  | zero => exact (by decide : (0 : Nat) < 1)
  | succ n ih =>
    have h2 : 2 ^ (n + 1) = 2 * 2 ^ n := by rw [Nat.pow_succ]; omega
    rw [mBits]
    split
    · omega
    · exact Nat.or_lt_two_pow (by omega) (by rw [Nat.one_mul]; have := Nat.two_pow_pos n; omega)
theorem mBits_bit (f : Nat → Bool) : ∀ n k, k < n → (mBits f n).testBit k = f k := by
  intro n
  induction n with
  | zero => intro k h; omega
  | succ n ih =>
    intro k h
    have hlt := mBits_lt f n
    rw [mBits]
    by_cases e : k = n
    · subst e
      split
      · rename_i h0; rw [Nat.testBit_lt_two_pow hlt, h0]
      · rename_i h0
        rw [Nat.testBit_or, Nat.testBit_lt_two_pow hlt, Nat.one_mul, Nat.testBit_two_pow_self]
        cases hf : f k
        · exact absurd hf h0
        · rfl
    · split
      · exact ih k (by omega)
      · rw [Nat.testBit_or, ih k (by omega), Nat.one_mul, Nat.testBit_two_pow_of_ne (by omega), Bool.or_false]
theorem Bt.bits {x : Int32} {f : Nat → Bool} {c : Nat} (h : Bt x f c) : x = nI (mBits (fun k => f (8 * c + k)) 8) := by
  obtain ⟨a, h1, rfl, h3⟩ := h
  congr 1
  refine Nat.eq_of_testBit_eq fun i => ?_
  by_cases hi : i < 8
  · rw [h3 i hi, mBits_bit _ 8 i hi]
  · have e1 : a < 2 ^ i := Nat.lt_of_lt_of_le (show a < 2 ^ 8 from h1) (Nat.pow_le_pow_right (by decide) (show 8 ≤ i by omega))
    have e2 : mBits (fun k => f (8 * c + k)) 8 < 2 ^ i := Nat.lt_of_lt_of_le (mBits_lt _ 8) (Nat.pow_le_pow_right (by decide) (show 8 ≤ i by omega))
    rw [Nat.testBit_lt_two_pow e1, Nat.testBit_lt_two_pow e2]
def hiF (g : Nat → Bool) (lo : Nat) : Nat → Nat → Option Nat
  | 0, _ => none
  | n + 1, p => if g ((lo + 1 + p) % 8) = false then hiF g lo n (p + 1) else some ((lo + 1 + p) % 8)
theorem Bt.hi {x : Int32} {f : Nat → Bool} {c lo : Nat} (h : Bt x f c) (hlo : lo < 8) : ∀ n p, p + n = 8 → lpHiF (nI lo) x n (nI p) = oI (hiF (fun k => f (8 * c + k)) lo n p) := by
  intro n
  induction n with
  | zero => intro p _; rfl
  | succ n ih =>
    intro p hp
    rw [lpHiF, hiF, bt_ranked lo hlo p (by omega), h.has (Nat.mod_lt _ (by decide))]
    by_cases e : f (8 * c + (lo + 1 + p) % 8) = false
    · rw [if_pos (by rw [e]; rfl), if_pos e, nI_1]
      exact ih (p + 1) (by omega)
    · rw [if_neg (fun q => e ((bI_0 _).mp q)), if_neg e]
      rfl
theorem hiF_some {g : Nat → Bool} {lo : Nat} : ∀ n p l, p + n = 8 → hiF g lo n p = some l → ∃ q, p ≤ q ∧ q < 8 ∧ l = (lo + 1 + q) % 8 := by
  intro n
  induction n with
  | zero => intro p l _ h; cases h
  | succ n ih =>
    intro p l hp h
    rw [hiF] at h
    split at h
    · obtain ⟨q, h1, h2⟩ := ih (p + 1) l (by omega) h
      exact ⟨q, by omega, h2⟩
    · cases h; exact ⟨p, by omega, by omega, rfl⟩
def dvF (g b own : Nat → Bool) (lo n p : Nat) : Option Nat := match hiF g lo n p with
  | none => none
  | some l => match hiF (fun k => b k && !(decide (k = l) && own l)) lo n p with
    | none => some l
    | some t => if (t + 7 - lo) % 8 ≤ (l + 7 - lo) % 8 then none else some l
def dwF (g b own : Nat → Bool) (lo : Nat) : Nat → Nat → Bool → Option Nat
  | 0, _, _ => none
  | n + 1, p, bl => if bl = true then none else if (!(b ((lo + 1 + p) % 8) && !(own ((lo + 1 + p) % 8))) && g ((lo + 1 + p) % 8)) = true then some ((lo + 1 + p) % 8) else dwF g b own lo n (p + 1) ((b ((lo + 1 + p) % 8) && !(own ((lo + 1 + p) % 8))) || b ((lo + 1 + p) % 8))
theorem dwF_true (g b own : Nat → Bool) (lo n p : Nat) : dwF g b own lo n p true = none := by cases n <;> simp [dwF]
theorem dv_dw (g b own : Nat → Bool) (lo : Nat) (hlo : lo < 8) : ∀ n p, p + n = 8 → dwF g b own lo n p false = dvF g b own lo n p := by
  intro n
  induction n with
  | zero => intro p _; rfl
  | succ n ih =>
    intro p hp
    have ih' := ih (p + 1) (by omega)
    rw [dwF, if_neg (by decide)]
    generalize hk : (lo + 1 + p) % 8 = k
    have hk8 : k < 8 := by omega
    have hrk : (k + 7 - lo) % 8 = p := by omega
    cases hg : g k with
    | false =>
      rw [if_neg (by simp)]
      unfold dvF
      rw [hiF, hk, if_pos hg]
      cases hb : b k with
      | true =>
        simp only [Bool.or_true, dwF_true]
        cases hh : hiF g lo n (p + 1) with
        | none => rfl
        | some l =>
          obtain ⟨q, q1, q2, q3⟩ := hiF_some n (p + 1) l (by omega) hh
          have hne : ¬ k = l := by omega
          simp only
          rw [hiF, hk, if_neg (by simp [hb, hne])]
          simp only
          rw [if_pos (by omega)]
      | false =>
        simp only [Bool.false_and, Bool.or_false]
        rw [ih']
        unfold dvF
        cases hh : hiF g lo n (p + 1) with
        | none => rfl
        | some l =>
          simp only
          rw [hiF, hk, if_pos (by simp [hb])]
    | true =>
      have e1 : hiF g lo (n + 1) p = some k := by rw [hiF, hk, if_neg (by rw [hg]; decide)]
      unfold dvF
      rw [e1]
      simp only
      cases hb1 : (b k && !(own k)) with
      | true =>
        have hb : b k = true := by cases h : b k <;> simp_all
        have ho : own k = false := by cases h : own k <;> simp_all
        have e2 : hiF (fun j => b j && !(decide (j = k) && own k)) lo (n + 1) p = some k := by rw [hiF, hk, if_neg (by simp [hb, ho])]
        rw [e2]
        simp only
        rw [if_pos (Nat.le_refl _), if_neg (by decide), Bool.true_or, dwF_true]
      | false =>
        have e2 : hiF (fun j => b j && !(decide (j = k) && own k)) lo (n + 1) p = hiF (fun j => b j && !(decide (j = k) && own k)) lo n (p + 1) := by
          rw [hiF, hk, if_pos (by cases h : b k <;> simp_all)]
        rw [e2, if_pos (by decide)]
        cases hh : hiF (fun j => b j && !(decide (j = k) && own k)) lo n (p + 1) with
        | none => rfl
        | some t =>
          obtain ⟨q, q1, q2, q3⟩ := hiF_some n (p + 1) t (by omega) hh
          simp only
          rw [if_neg (by omega)]
