abbrev lpF (u : Nat → Int32) : List Value := [.int (u 0), .int (u 1), .int (u 2), .int (u 3), .int (u 4), .int (u 5), .int (u 6), .int (u 7), .int (u 8), .int (u 9), .int (u 10), .int (u 11), .int (u 12), .int (u 13), .int (u 14), .int (u 15), .int (u 16), .int (u 17), .int (u 18)]
def lpHas (x k : Int32) : Int32 := if ((x >>> (k &&& 31)) &&& 1) = 0 then 0 else 1
def lpWo (x k : Int32) : Int32 := x &&& (((1 : Int32) <<< (k &&& 31)) ^^^ (-1))
def lpMoveR (u : Nat → Int32) (k t : Int32) : Int32 := if ¬ lpHas (u 1) k = t then 1 else 0
def lpMove (u : Nat → Int32) (k t : Int32) : Nat → Int32 := if ¬ lpHas (u 1) k = t then (if t = 0 then upd (upd u 1 ((u 1) ^^^ ((1 : Int32) <<< (k &&& 31)))) 2 (lpWo (u 2) k) else upd (upd u 1 ((u 1) ^^^ ((1 : Int32) <<< (k &&& 31)))) 2 ((u 2) ||| ((1 : Int32) <<< (k &&& 31)))) else u
def lpReq (u : Nat → Int32) : Int32 := if u 11 = 0 then u 2 else u 1
def lpHiF (lo x : Int32) : Nat → Int32 → Int32
  | 0, _ => -1
  | n + 1, r => if lpHas x (((lo + 1) + r) &&& 7) = 0 then lpHiF lo x n (r + 1) else (((lo + 1) + r) &&& 7)
def lpHi (u : Nat → Int32) (x : Int32) : Int32 := lpHiF (u 5) x 8 0
def lpRank (u : Nat → Int32) (k : Int32) : Int32 := ((k - u 5) - 1) &&& 7
def lpIsc (u : Nat → Int32) : Int32 := if u 12 = 0 then u 3 else (u 3) &&& ((u 4) ^^^ (-1))
def lpBlk (u : Nat → Int32) (k : Int32) : Int32 := if u 13 = 0 then lpIsc u else if ¬ k = u 0 then lpIsc u else lpWo (lpIsc u) k
def lpCand (u : Nat → Int32) : Int32 := lpHi u ((lpReq u) &&& ((u 4) ^^^ (-1)))
def lpDel (u : Nat → Int32) : Int32 := if ¬ u 10 = 0 then (if ¬ lpCand u = -1 then (if lpHi u (lpBlk u (lpCand u)) = -1 then lpCand u else if lpRank u (lpHi u (lpBlk u (lpCand u))) ≤ lpRank u (lpCand u) then -1 else lpCand u) else -1) else -1
def lpTake (u : Nat → Int32) : Nat → Int32 := if ¬ lpDel u = -1 then
    (if ¬ u 14 = 0 then (if u 15 = 0 then upd (upd u 2 (lpWo (u 2) (lpDel u))) 17 (u 17 + 1) else upd (upd (upd u 2 (lpWo (u 2) (lpDel u))) 5 (lpDel u)) 17 (u 17 + 1))
     else upd (upd (upd u 2 (lpWo (u 2) (lpDel u))) 3 ((u 3) ||| ((1 : Int32) <<< ((lpDel u) &&& 31)))) 17 (u 17 + 1)) else u
def lpNum (u : Nat → Int32) (k : Int32) : Int32 := if ¬ k = -1 then u 6 + k else u 6 + 7
def lpAnsR (u : Nat → Int32) : Int32 := if u 16 = 0 then (if ¬ u 8 = 0 then u 3 else lpReq u) else (if ¬ lpDel (upd u 16 0) = -1 then 128 + lpDel (upd u 16 0) else 0)
def lpAns (u : Nat → Int32) : Nat → Int32 := if u 16 = 0 then u else lpTake (upd u 16 0)
def lpBegin (u : Nat → Int32) (w : Int32) : Nat → Int32 := upd (upd (upd (upd (upd (upd (upd (upd (upd (upd (upd (upd (upd (upd u 4 0) 3 0) 2 0) 5 7) 11 (lpHas w 3)) 12 0) 13 0) 14 0) 15 0) 16 0) 8 0) 10 0) 7 2) 9 (lpHas w 0)
def lpCh1 (u : Nat → Int32) (w : Int32) : Nat → Int32 := if lpHas w 6 = 0 then u else upd u 12 (lpHas w 5)
def lpCh2 (u : Nat → Int32) (w : Int32) : Nat → Int32 := if lpHas w 2 = 0 then u else upd u 16 1
def lpCh3 (u : Nat → Int32) (w : Int32) : Nat → Int32 := if lpHas w 1 = 0 then u else upd u 8 (w &&& 1)
def lpChoose (u : Nat → Int32) (w : Int32) : Nat → Int32 := lpCh3 (lpCh2 (lpCh1 u w) w) w
def lpEnd (u : Nat → Int32) (k : Int32) : Nat → Int32 := if k = -1 then u else if lpHas (u 3) k = 0 then u else upd (upd u 3 (lpWo (u 3) k)) 18 (u 18 + 1)
def lpTop (u : Nat → Int32) : Int32 := lpHi u (lpIsc u)
def lpEht (u : Nat → Int32) : Nat → Int32 := if lpTop u = -1 then u else upd (lpEnd u (lpTop u)) 5 (lpTop u)
def lpOrd (u : Nat → Int32) (o k : Int32) : Nat → Int32 := if o = 0 then upd u 15 0 else if o = 1 then lpEnd u (lpTop u) else if o = 2 then u else if o = 3 then lpEnd u k else if o = 4 then upd u 15 1 else if o = 5 then lpEht u else if o = 6 then upd u 5 k else if o = 7 then upd (lpEnd u k) 5 k else u
def lpP0 (u : Nat → Int32) (w : Int32) : Nat → Int32 := if lpHas w 4 = 0 then (if lpHas w 3 = 0 then lpOrd u (w >>> ((5 : Int32) &&& 31)) (w &&& 7) else lpChoose u w) else lpBegin u w
def lpP1 (u : Nat → Int32) (w : Int32) : Nat → Int32 := if u 7 = 2 then upd (upd u 6 (w &&& 248)) 7 3 else if u 7 = 3 then (if u 9 = 0 then upd (upd u 7 0) 10 1 else upd (upd u 7 4) 10 0) else if u 7 = 4 then upd (upd (upd (upd u 14 (lpHas w 1)) 13 (lpHas w 4)) 7 0) 10 1 else upd u 4 w
theorem lpHas_nar (x k : Int32) : narrow .boolean (.int (lpHas x k)) = .int (lpHas x k) := by unfold lpHas; split <;> rfl
theorem lpHas_fit (x k : Int32) : fits .boolean (.int (lpHas x k)) = true := by unfold lpHas; split <;> rfl
theorem lpMoveR_nar (u : Nat → Int32) (k t : Int32) : narrow .boolean (.int (lpMoveR u k t)) = .int (lpMoveR u k t) := by unfold lpMoveR; split <;> rfl
def lpFol (u0 u1 : Nat → Int32) : Nat → Int32 := if lpDel u1 = -1 then lpMove u0 2 0 else lpMove u0 2 1
abbrev PS : Type := (Nat → Int32) × (Nat → Int32) × Int32
def lpTFH (u0 u1 : Nat → Int32) (ea : Int32) : PS := (lpFol (lpMove u0 2 0) (lpTake u1), lpTake u1, ea)
def lpTFHr (u1 : Nat → Int32) : Int32 := lpNum (lpTake u1) (lpDel u1)
def lpTk (u0 u1 : Nat → Int32) (ea : Int32) : PS := if ¬ lpDel u0 = -1 then (if ¬ lpDel u0 = 2 then (lpTake u0, u1, ea) else lpTFH (lpTake u0) u1 ea) else (if ¬ lpDel u0 = 2 then (lpTake u0, u1, ea + 1) else lpTFH (lpTake u0) u1 (ea + 1))
def lpTkr (u0 u1 : Nat → Int32) : Int32 := if ¬ lpDel u0 = 2 then lpNum (lpTake u0) (lpDel u0) else lpTFHr u1
def lpLn (u0 u1 : Nat → Int32) (ea k t : Int32) : PS := if 8 ≤ k then (lpFol u0 (lpMove u1 (k - 8) t), lpMove u1 (k - 8) t, ea) else (lpFol (lpMove u0 k t) u1, u1, ea)
def lpLnr (u0 u1 : Nat → Int32) (k t : Int32) : Int32 := if 8 ≤ k then lpMoveR u1 (k - 8) t else lpMoveR u0 k t
def lpBo (u : Nat → Int32) : Int32 := if lpDel u = -1 then 0 else 1
theorem lpLnr_nar (u0 u1 : Nat → Int32) (k t : Int32) : narrow .boolean (.int (lpLnr u0 u1 k t)) = .int (lpLnr u0 u1 k t) := by unfold lpLnr; split <;> exact lpMoveR_nar _ _ _
def lpOk (u : Nat → Int32) : Prop := ∀ k, 9 ≤ k → k < 17 → u k = 0 ∨ u k = 1
theorem lpOk_nar {u : Nat → Int32} (h : lpOk u) (k : Nat) (hk : 9 ≤ k ∧ k < 17) : narrow .boolean (.int (u k)) = .int (u k) := by
  rcases h k hk.1 hk.2 with e | e <;> rw [e] <;> rfl
