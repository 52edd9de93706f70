def sB (B : Nat → Nat → Bool) (i k : Nat) (b : Bool) : Nat → Nat → Bool := fun j => if j = i then uB (B i) k b else B j
def sN (N : Nat → Nat → Nat) (i k x : Nat) : Nat → Nat → Nat := fun j => if j = i then uN (N i) k x else N j
def mIsC (x : Int32) : Bool := decide (x = 0) || decide (x = nI 1)
def mTh (x y : Bool) : Nat := if x = false then 1 else if y = false then 2 else 0
def mReq (B : Nat → Nat → Bool) (c k : Nat) : Bool := if B 4 (7 * c + 1) = false then B 1 (8 * c + k) else B 0 (8 * c + k)
def mRk (N : Nat → Nat → Nat) (c p : Nat) : Nat := (N 0 c + 1 + p) % 8
def mBlk (B : Nat → Nat → Bool) (c k : Nat) : Bool := B 2 (8 * c + k) && (!(B 4 (7 * c + 2)) || !(B 3 (8 * c + k)))
def mOwn (B : Nat → Nat → Bool) (c k : Nat) : Bool := decide (c = 0) && (decide (k = 2) && B 4 (7 * 0 + 3))
def mB1 (B : Nat → Nat → Bool) (c k : Nat) : Bool := mBlk B c k && !(mOwn B c k)
def mHit (B : Nat → Nat → Bool) (c k : Nat) : Bool := !(mB1 B c k) && (mReq B c k && !(B 3 (8 * c + k)))
def mDlF (B : Nat → Nat → Bool) (N : Nat → Nat → Nat) (c : Nat) : Nat → Nat → Bool → Option Nat
  | 0, _, _ => none
  | n + 1, p, bl => if bl = true then none else if mHit B c (mRk N c p) = true then some (mRk N c p) else mDlF B N c n (p + 1) (mB1 B c (mRk N c p) || mBlk B c (mRk N c p))
def mDel (B : Nat → Nat → Bool) (N : Nat → Nat → Nat) (c : Nat) : Option Nat := mDlF B N c 8 0 (!(B 4 (7 * c + 0)))
theorem mDlF_lt (B : Nat → Nat → Bool) (N : Nat → Nat → Nat) (c : Nat) : ∀ (n p : Nat) (bl : Bool) (k : Nat), mDlF B N c n p bl = some k → k < 8 := by
  intro n
  induction n with
  | zero => intro p bl k h; cases h
  | succ n ih =>
    intro p bl k h
    rw [mDlF] at h
    split at h
    · cases h
    · split at h
      · cases h; exact Nat.mod_lt _ (by decide)
      · exact ih _ _ _ h
theorem mDel_lt {B : Nat → Nat → Bool} {N : Nat → Nat → Nat} {c k : Nat} (h : mDel B N c = some k) : k < 8 := mDlF_lt B N c _ _ _ _ h
def mTopF (B : Nat → Nat → Bool) (N : Nat → Nat → Nat) (c : Nat) : Nat → Nat → Option Nat
  | 0, _ => none
  | n + 1, p => if mBlk B c (mRk N c p) = false then mTopF B N c n (p + 1) else some (mRk N c p)
def mTop (B : Nat → Nat → Bool) (N : Nat → Nat → Nat) (c : Nat) : Option Nat := mTopF B N c 8 0
theorem mTopF_lt (B : Nat → Nat → Bool) (N : Nat → Nat → Nat) (c : Nat) : ∀ (n p k : Nat), mTopF B N c n p = some k → k < 8 := by
  intro n
  induction n with
  | zero => intro p k h; cases h
  | succ n ih =>
    intro p k h
    rw [mTopF] at h
    split at h
    · exact ih _ _ h
    · cases h; exact Nat.mod_lt _ (by decide)
theorem mTop_lt {B : Nat → Nat → Bool} {N : Nat → Nat → Nat} {c k : Nat} (h : mTop B N c = some k) : k < 8 := mTopF_lt B N c _ _ _ h
def mRaise (B : Nat → Nat → Bool) (i : Nat) (b : Bool) : Nat → Nat → Bool := if B 0 i = b then B else sB (sB B 0 i b) 1 i b
def mFol (B : Nat → Nat → Bool) (N : Nat → Nat → Nat) : Nat → Nat → Bool := mRaise B 2 (mDel B N 1).isSome
def mTakB (B : Nat → Nat → Bool) (c k : Nat) : Nat → Nat → Bool := if B 4 (7 * c + 4) = true then sB B 1 (8 * c + k) false else sB (sB B 1 (8 * c + k) false) 2 (8 * c + k) true
def mTakN (B : Nat → Nat → Bool) (N : Nat → Nat → Nat) (c k : Nat) : Nat → Nat → Nat := if B 4 (7 * c + 4) = true then (if B 4 (7 * c + 5) = false then sN N 4 1 (N 4 1 + 1) else sN (sN N 4 1 (N 4 1 + 1)) 0 c k) else sN N 4 1 (N 4 1 + 1)
def mClr (B : Nat → Nat → Bool) (c : Nat) : Nat → (Nat → Nat → Bool)
  | 0 => B
  | j + 1 => sB (sB (sB (mClr B c j) 3 (8 * c + j) false) 2 (8 * c + j) false) 1 (8 * c + j) false
def mMod (B : Nat → Nat → Bool) (c w : Nat) : Nat → (Nat → Nat → Bool)
  | 0 => B
  | j + 1 => sB (mMod B c w j) 4 (7 * c + j) (decide (j = 1) && decide (w / 8 % 2 = 1))
def mBegB (B : Nat → Nat → Bool) (c w : Nat) : Nat → Nat → Bool := sB (mMod (mClr B c 8) c w 7) 5 c (decide (w % 2 = 1))
def mBegN (N : Nat → Nat → Nat) (c : Nat) : Nat → Nat → Nat := sN (sN (sN N 0 c 7) 3 c 0) 2 c 2
def mMsk (B : Nat → Nat → Bool) (c w : Nat) : Nat → (Nat → Nat → Bool)
  | 0 => B
  | j + 1 => sB (mMsk B c w j) 3 (8 * c + j) (decide (w / 2 ^ j % 2 = 1))
def mSecB (B : Nat → Nat → Bool) (N : Nat → Nat → Nat) (c w : Nat) : Nat → Nat → Bool := if ¬ N 2 c = 2 then (if ¬ N 2 c = 3 then (if ¬ N 2 c = 4 then mMsk B c w 8 else sB (sB (sB B 4 (7 * c + 4) (decide (w / 2 % 2 = 1))) 4 (7 * c + 3) (decide (w / 16 % 2 = 1))) 4 (7 * c) true) else (if B 5 c = false then sB B 4 (7 * c) true else sB B 4 (7 * c) false)) else B
def mSecN (B : Nat → Nat → Bool) (N : Nat → Nat → Nat) (c w : Nat) : Nat → Nat → Nat := if ¬ N 2 c = 2 then (if ¬ N 2 c = 3 then (if ¬ N 2 c = 4 then N else sN N 2 c 0) else (if B 5 c = false then sN N 2 c 0 else sN N 2 c 4)) else sN (sN N 1 c (w - w % 8)) 2 c 3
def mEndK (B : Nat → Nat → Bool) (N : Nat → Nat → Nat) (c o l : Nat) : Option Nat := if o = 1 then mTop B N c else if ¬ o = 5 then some l else mTop B N c
def mEndS (B : Nat → Nat → Bool) (N : Nat → Nat → Nat) (c o k : Nat) : (Nat → Nat → Bool) × (Nat → Nat → Nat) := (sB B 2 (8 * c + k) false, sN (sN N 4 3 (if B 2 (8 * c + k) = false then N 4 3 else N 4 3 + 1)) 0 c (if o ≤ 3 then N 0 c else k))
def mEnd (B : Nat → Nat → Bool) (N : Nat → Nat → Nat) (c o l : Nat) : (Nat → Nat → Bool) × (Nat → Nat → Nat) := match mEndK B N c o l with
  | none => (B, N)
  | some k => mEndS B N c o k
def mOrd (B : Nat → Nat → Bool) (N : Nat → Nat → Nat) (c w : Nat) : (Nat → Nat → Bool) × (Nat → Nat → Nat) := if ¬ w / 32 % 2 = 1 then (if ¬ w / 32 = 6 then (if w / 32 = 2 then (B, N) else (sB B 4 (7 * c + 5) (decide (w / 32 = 4)), N)) else (B, sN N 0 c (w % 8))) else mEnd B N c (w / 32) (w % 8)
def mSp (B : Nat → Nat → Bool) (c w : Nat) : Bool := decide (w / 32 % 4 = 3) || (!(decide (w / 32 % 4 = 2)) && B 4 (7 * c + 2))
def mSetB (B : Nat → Nat → Bool) (c w : Nat) : Nat → Nat → Bool := sB (sB B 4 (7 * c + 2) (mSp B c w)) 4 (7 * c + 6) ((sB B 4 (7 * c + 2) (mSp B c w)) 4 (7 * c + 6) || decide (w / 4 % 2 = 1))
def mSetN (N : Nat → Nat → Nat) (c w : Nat) : Nat → Nat → Nat := sN N 3 c (if ¬ w % 4 = 2 then (if ¬ w % 4 = 3 then N 3 c else 1) else 0)
def mSel (B : Nat → Nat → Bool) (c i k : Nat) : Bool := if ¬ i = 0 then (if ¬ i = 1 then (if ¬ i = 2 then B 0 (8 * c + k) else B 3 (8 * c + k)) else B 2 (8 * c + k)) else mReq B c k
def mBits (f : Nat → Bool) : Nat → Nat
  | 0 => 0
  | j + 1 => if f j = false then mBits f j else mBits f j ||| 1 * 2 ^ j
theorem xs_l : ∀ n, n < 32 → ((nI n &&& 31).toBitVec.smod 32).toNat = n := by decide +kernel
theorem xs_shr {w k : Nat} (hw : w < 2 ^ 31) (hk : k < 32) : nI w >>> (nI k &&& 31) = nI (w / 2 ^ k) := pk_shrN hw _ k (xs_l k hk)
theorem xs_shl {w k : Nat} (hk : k < 32) (h : w * 2 ^ k < 2 ^ 32) : nI w <<< (nI k &&& 31) = nI (w * 2 ^ k) := pk_shlN _ k (xs_l k hk) h
theorem xs_or (a b : Nat) : nI a ||| nI b = nI (a ||| b) := by
  apply Int32.toBitVec_inj.mp
  show BitVec.ofNat 32 a ||| BitVec.ofNat 32 b = BitVec.ofNat 32 (a ||| b)
  exact BitVec.eq_of_toNat_eq (by simp [BitVec.toNat_or, Nat.or_mod_two_pow])
def N8 (N : Nat → Nat → Nat) : Prop := ∀ c, c < 2 → N 0 c < 8
theorem uN8 {f : Nat → Nat} {c x d : Nat} (h1 : x < 8) (h2 : f d < 8) : uN f c x d < 8 := by unfold uN; split <;> assumption
theorem mBeg_lt {N : Nat → Nat → Nat} {c : Nat} (h : ∀ c, c < 2 → N 0 c < 8) : ∀ d, d < 2 → (mBegN N c) 0 d < 8 := fun d hd => uN8 (by decide) (h d hd)
theorem mTak_lt {B : Nat → Nat → Bool} {N : Nat → Nat → Nat} {c k : Nat} (hk : k < 8) (h : ∀ c, c < 2 → N 0 c < 8) : ∀ d, d < 2 → (mTakN B N c k) 0 d < 8 := by
  intro d hd
  unfold mTakN; split
  · split
    · exact h d hd
    · exact uN8 hk (h d hd)
  · exact h d hd
theorem mSec_lt {B : Nat → Nat → Bool} {N : Nat → Nat → Nat} {c w : Nat} (h : ∀ c, c < 2 → N 0 c < 8) : ∀ d, d < 2 → (mSecN B N c w) 0 d < 8 := by
  intro d hd
  unfold mSecN; split
  · split
    · split <;> exact h d hd
    · split <;> exact h d hd
  · exact h d hd
theorem mEnd_lt {B : Nat → Nat → Bool} {N : Nat → Nat → Nat} {c o l : Nat} (hc : c < 2) (hl : l < 8) (h : ∀ c, c < 2 → N 0 c < 8) : ∀ d, d < 2 → (mEnd B N c o l).2 0 d < 8 := by
  intro d hd
  unfold mEnd
  cases e : mEndK B N c o l with
  | none => exact h d hd
  | some k =>
    have hk : k < 8 := by
      unfold mEndK at e; split at e
      · exact mTop_lt e
      · split at e
        · cases e; exact hl
        · exact mTop_lt e
    refine uN8 ?_ (h d hd)
    split
    · exact h c hc
    · exact hk
theorem mOrd_lt {B : Nat → Nat → Bool} {N : Nat → Nat → Nat} {c w : Nat} (hc : c < 2) (h : ∀ c, c < 2 → N 0 c < 8) : ∀ d, d < 2 → (mOrd B N c w).2 0 d < 8 := by
  intro d hd
  unfold mOrd; split
  · split
    · split <;> exact h d hd
    · exact uN8 (Nat.mod_lt _ (by decide)) (h d hd)
  · exact mEnd_lt hc (Nat.mod_lt _ (by decide)) h d hd
def mP0 (B : Nat → Nat → Bool) (N : Nat → Nat → Nat) (c w : Nat) : (Nat → Nat → Bool) × (Nat → Nat → Nat) := if ¬ w / 16 % 2 = 1 then (if ¬ w / 8 % 2 = 0 then (mSetB B c w, mSetN N c w) else mOrd B N c w) else (mBegB B c w, mBegN N c)
theorem mIsC_ok {c : Nat} (h : c < 2) : mIsC (nI c) = true := by
  rcases (show c = 0 ∨ c = 1 by omega) with rfl | rfl <;> rfl
def mOkW (w m : Int32) : Bool := decide (¬ w < 0) && decide (¬ m < w)
def mRdR (B : Nat → Nat → Bool) (N : Nat → Nat → Nat) (c : Nat) : Nat := if B 4 (7 * c + 6) = true then (match mDel (sB B 4 (7 * c + 6) false) N c with | none => 0 | some k => 128 + k) else mBits (mSel B c (N 3 c)) 8
def mRd (B : Nat → Nat → Bool) (N : Nat → Nat → Nat) (c : Nat) : (Nat → Nat → Bool) × (Nat → Nat → Nat) := if B 4 (7 * c + 6) = true then (match mDel (sB B 4 (7 * c + 6) false) N c with | none => (sB B 4 (7 * c + 6) false, N) | some k => (mFol (mTakB (sB B 4 (7 * c + 6) false) c k) (mTakN (sB B 4 (7 * c + 6) false) N c k), mTakN (sB B 4 (7 * c + 6) false) N c k)) else (B, N)
