set_option maxHeartbeats 4000000 in
set_option maxRecDepth 100000 in
theorem c2_highest (l : Launch) (dC : Nat → ClassId) (dI : Nat → Nat → Nat) (hm : Nat) (a : Nat → Nat) (cA : Nat → ClassId) (B : Nat → Nat → Bool) (N : Nat → Nat → Nat) (c : Nat) (hc : c < 2) (hN : ∀ c, c < 2 → N 0 c < 8) : xr_M l yX2_highest wsX2_highest ({ frames := 2, cells := 0, slots := 0, locals := 44 }) [.ref hm, .int (nI c)] (dC, dI) vwCl (mtys cA) [] (mw hm a cA (B, N)) (some (.int (oI (mTop B N c)))) := by
  refine Met.ofW (cc := cX2_highest) (maxL := 3) (ret := (some .int)) (by decide) rfl ?_
  intro p e s m args below meth cd s₁ B₀ hml hv
  obtain ⟨rfl, hP, hK, hZ⟩ := hv
  have hx := B₀.exec
  have hb := B₀.bytes
  have hr := B₀.returns
  have hts := atoms_spec (ws := wsX2_highest) B₀.pre
  have hown : s.vm.findClass RX2 = some m.cls := findClass_of_methodNamed B₀.named
  have hlocks := B₀.notSynchronized
  have hl := lv_entry ([.ref hm, .int (nI c)]) (n := 3) (Nat.le_of_ble_eq_true rfl)
  rw [lg_entry_eq]
  generalize (lg_sl ([.ref hm, .int (nI c)]) ++ List.replicate (3 - (lg_sl ([.ref hm, .int (nI c)])).length) Slot.unset).toArray = ls at hl ⊢
  have hl : lv_has ls 3 [(0, .ref hm), (1, .int (nI c))] := hl
  have loop : ∀ (n q : Nat), q + n = 8 → mTopF B N c n q = mTop B N c → ∀ ls : Array Slot, lv_has ls 3 [(2, .int (nI q)), (0, .ref hm), (1, .int (nI c))] → W p l e (headSpec wsX2_highest ({ frames := 2, cells := 0, slots := 0, locals := 44 })).room s m ([.ref hm, .int (nI c)]).toArray below meth cd s.heap [] 0 0 (MQ below (xr_Q (some (.int (oI (mTop B N c))))) ([.ref hm, .int (nI c)]).toArray s 0 0 (fun _ => False)) (F0 m 2 ls []) := by
    intro n
    induction n with
    | zero =>
      intro q hq hF ls hl
      obtain rfl : q = 8 := by omega
      refine lv_iload_n hx hb dX2_highest_2 rfl (lv_at hl 0 rfl) ?_
      refine lv_bipush (v := nI 8) hx hb dX2_highest_3 (by decide) ?_
      refine xn_icmp_ge (x := 8) (y := 8) (tgt := 35) (by omega) (by omega) hx hb dX2_highest_5 (by decide) (fun _ => ?_) (fun h => absurd (by decide) h)
      refine lv_iconst (v := -1) hx hb dX2_highest_35 (by decide) ?_
      exact xr_iret hx hb hr hlocks dX2_highest_36 (congrArg oI hF)
    | succ n ih =>
      intro q hq hF ls hl
      have hr8 : mRk N c q < 8 := Nat.mod_lt _ (by decide)
      refine lv_iload_n hx hb dX2_highest_2 rfl (lv_at hl 0 rfl) ?_
      refine lv_bipush (v := nI 8) hx hb dX2_highest_3 (by decide) ?_
      refine xn_icmp_ge (x := q) (y := 8) (tgt := 35) (by omega) (by omega) hx hb dX2_highest_5 (by decide) (fun h => absurd h (by omega)) (fun _ => ?_)
      refine lv_aload_n hx hb dX2_highest_8 rfl (lv_at hl 1 rfl) ?_
      refine lv_iload_n hx hb dX2_highest_9 rfl (lv_at hl 2 rfl) ?_
      refine lv_aload_n hx hb dX2_highest_10 rfl (lv_at hl 1 rfl) ?_
      refine lv_iload_n hx hb dX2_highest_11 rfl (lv_at hl 2 rfl) ?_
      refine lv_iload_n hx hb dX2_highest_12 rfl (lv_at hl 0 rfl) ?_
      refine xr_call (st1 := [.int (nI (mRk N c q)), .int (nI c), .ref hm]) (W.runV (As := [.int (nI c), .int (nI q)]) (rest := [.int (nI c), .ref hm]) ⟨hx, hb, hml, hown, hts⟩ (c2_ranked l dC dI hm a cA B N c q (by omega) (by omega) hN) (cwV 2 hts (gd_V wa_c k_ml_X2_49 k_im_X2_ranked k_se_X2_ranked k_in_X2 k_co_X2_ranked) rfl rfl rfl (by decide +kernel) ⟨Nat.le_of_ble_eq_true rfl, Nat.le_of_ble_eq_true rfl⟩) (xr_preV (q0 := 0) (C := RX2) hK hP xz_Z.nil rfl rfl) rfl rfl hl.1 rfl (lv_room (Nat.le_of_ble_eq_true rfl)) dX2_highest_13 ⟨Nat.zero_le _, Nat.zero_le _⟩) rfl ?_
      refine xr_call (st1 := [.int (bI (mBlk B c (mRk N c q)))]) (W.runV (As := [.int (nI c), .int (nI (mRk N c q))]) (rest := []) ⟨hx, hb, hml, hown, hts⟩ (c2_blocks l dC dI hm a cA B N c (mRk N c q) (by omega) (by omega)) (cwV 2 hts (gd_V wa_c k_ml_X2_53 k_im_X2_blocks k_se_X2_blocks k_in_X2 k_co_X2_blocks) rfl rfl rfl (by decide +kernel) ⟨Nat.le_of_ble_eq_true rfl, Nat.le_of_ble_eq_true rfl⟩) (xr_preV (q0 := 0) (C := RX2) hK hP xz_Z.nil rfl rfl) rfl rfl hl.1 rfl (lv_room (Nat.le_of_ble_eq_true rfl)) dX2_highest_16 ⟨Nat.zero_le _, Nat.zero_le _⟩) rfl ?_
      refine xb_if_eq (b := mBlk B c (mRk N c q)) (tgt := 29) hx hb dX2_highest_19 (by decide) (fun h1 => ?_) (fun h1 => ?_)
      · refine lv_iinc (k := 0) (v := nI (q + 1)) (lv' := [(2, .int (nI (q + 1))), (0, .ref hm), (1, .int (nI c))]) hx hb dX2_highest_29 hl rfl (nI_1 _) (by decide) rfl (fun ls hl => ?_)
        refine lv_goto (tgt := 2) hx hb dX2_highest_32 (by decide) ?_
        refine ih (q + 1) (by omega) ?_ ls hl
        rw [← hF, mTopF, if_pos h1]
      · refine lv_aload_n hx hb dX2_highest_22 rfl (lv_at hl 1 rfl) ?_
        refine lv_iload_n hx hb dX2_highest_23 rfl (lv_at hl 2 rfl) ?_
        refine lv_iload_n hx hb dX2_highest_24 rfl (lv_at hl 0 rfl) ?_
        refine xr_call (st1 := [.int (nI (mRk N c q))]) (W.runV (As := [.int (nI c), .int (nI q)]) (rest := []) ⟨hx, hb, hml, hown, hts⟩ (c2_ranked l dC dI hm a cA B N c q (by omega) (by omega) hN) (cwV 2 hts (gd_V wa_c k_ml_X2_49 k_im_X2_ranked k_se_X2_ranked k_in_X2 k_co_X2_ranked) rfl rfl rfl (by decide +kernel) ⟨Nat.le_of_ble_eq_true rfl, Nat.le_of_ble_eq_true rfl⟩) (xr_preV (q0 := 0) (C := RX2) hK hP xz_Z.nil rfl rfl) rfl rfl hl.1 rfl (lv_room (Nat.le_of_ble_eq_true rfl)) dX2_highest_25 ⟨Nat.zero_le _, Nat.zero_le _⟩) rfl ?_
        exact xr_iret hx hb hr hlocks dX2_highest_28  (congrArg oI (show some (mRk N c q) = mTop B N c from by rw [← hF, mTopF, if_neg (by rw [h1]; decide)]))
  refine lv_iconst (v := nI 0) hx hb dX2_highest_0 (by decide) ?_
  refine lv_istore_n (lv' := [(2, .int (nI 0)), (0, .ref hm), (1, .int (nI c))]) hx hb dX2_highest_1 rfl hl (by decide) rfl (fun ls hl => ?_)
  exact loop 8 0 rfl rfl ls hl

set_option maxHeartbeats 4000000 in
set_option maxRecDepth 100000 in
theorem c2_bits (l : Launch) (dC : Nat → ClassId) (dI : Nat → Nat → Nat) (hm : Nat) (a : Nat → Nat) (cA : Nat → ClassId) (B : Nat → Nat → Bool) (N : Nat → Nat → Nat) (c : Nat) (i : Nat) (hc : c < 2) (hi : i < 4) : xr_M l yX2_bits wsX2_bits ({ frames := 2, cells := 0, slots := 0, locals := 44 }) [.ref hm, .int (nI c), .int (nI i)] (dC, dI) vwCl (mtys cA) [] (mw hm a cA (B, N)) (some (.int (nI (mBits (mSel B c i) 8)))) := by
  refine Met.ofW (cc := cX2_bits) (maxL := 6) (ret := (some .int)) (by decide) rfl ?_
  intro p e s m args below meth cd s₁ B₀ hml hv
  obtain ⟨rfl, hP, hK, hZ⟩ := hv
  have hx := B₀.exec
  have hb := B₀.bytes
  have hr := B₀.returns
  have hts := atoms_spec (ws := wsX2_bits) B₀.pre
  have hown : s.vm.findClass RX2 = some m.cls := findClass_of_methodNamed B₀.named
  have hlocks := B₀.notSynchronized
  have hin_RX2 : ∀ w ∈ u_ws RX2 TX2 14, w ∈ wsX2_bits := fun w h => List.mem_cons_of_mem _ (u_X2 w h)
  have hlk_7 := hts _ (List.mem_cons_of_mem _ k_fl_X2_7)
  have hlk_16 := hts _ (List.mem_cons_of_mem _ k_fl_X2_16)
  have hlk_19 := hts _ (List.mem_cons_of_mem _ k_fl_X2_19)
  have hl := lv_entry ([.ref hm, .int (nI c), .int (nI i)]) (n := 6) (Nat.le_of_ble_eq_true rfl)
  rw [lg_entry_eq]
  generalize (lg_sl ([.ref hm, .int (nI c), .int (nI i)]) ++ List.replicate (6 - (lg_sl ([.ref hm, .int (nI c), .int (nI i)])).length) Slot.unset).toArray = ls at hl ⊢
  have hl : lv_has ls 6 [(0, .ref hm), (1, .int (nI c)), (2, .int (nI i))] := hl
  have loop : ∀ (n j : Nat), j + n = 8 → ∀ ls : Array Slot, lv_has ls 6 [(4, .int (nI j)), (3, .int (nI (mBits (mSel B c i) j))), (0, .ref hm), (1, .int (nI c)), (2, .int (nI i))] → W p l e (headSpec wsX2_bits ({ frames := 2, cells := 0, slots := 0, locals := 44 })).room s m ([.ref hm, .int (nI c), .int (nI i)]).toArray below meth cd s.heap [] 0 0 (MQ below (xr_Q (some (.int (nI (mBits (mSel B c i) 8))))) ([.ref hm, .int (nI c), .int (nI i)]).toArray s 0 0 (fun _ => False)) (F0 m 5 ls []) := by
    intro n
    induction n with
    | zero =>
      intro j hj ls hl
      obtain rfl : j = 8 := by omega
      refine lv_iload hx hb dX2_bits_5 (lv_at hl 0 rfl) ?_
      refine lv_bipush (v := nI 8) hx hb dX2_bits_7 (by decide) ?_
      refine xn_icmp_ge (x := 8) (y := 8) (tgt := 102) (by omega) (by omega) hx hb dX2_bits_9 (by decide) (fun _ => ?_) (fun h => absurd (by decide) h)
      refine lv_iload_n hx hb dX2_bits_102 rfl (lv_at hl 1 rfl) ?_
      exact xr_iret hx hb hr hlocks dX2_bits_103 rfl
    | succ n ih =>
      intro j hj ls hl
      have hp2 : 1 * 2 ^ j < 2 ^ 32 := Nat.lt_of_le_of_lt (by rw [Nat.one_mul]; exact Nat.pow_le_pow_right (by decide) (show j ≤ 7 by omega)) (by decide)
      refine lv_iload hx hb dX2_bits_5 (lv_at hl 0 rfl) ?_
      refine lv_bipush (v := nI 8) hx hb dX2_bits_7 (by decide) ?_
      refine xn_icmp_ge (x := j) (y := 8) (tgt := 102) (by omega) (by omega) hx hb dX2_bits_9 (by decide) (fun h => absurd h (by omega)) (fun _ => ?_)
      refine xj_meet (pcJ := 78) (stJ := fun y => .int y :: []) (bI (mSel B c i j)) ?_ (fun J78 => ?_)
      · refine lv_istore (lv' := [(5, .int (bI (mSel B c i j))), (4, .int (nI j)), (3, .int (nI (mBits (mSel B c i) j))), (0, .ref hm), (1, .int (nI c)), (2, .int (nI i))]) hx hb dX2_bits_78 hl (by decide) rfl (fun ls hl => ?_)
        refine lv_iload hx hb dX2_bits_80 (lv_at hl 0 rfl) ?_
        refine xj_meet (pcJ := 95) (stJ := fun y => .int y :: []) (nI (if mSel B c i j = false then mBits (mSel B c i) j else mBits (mSel B c i) j ||| 1 * 2 ^ j)) ?_ (fun J95 => ?_)
        · refine lv_istore_n (lv' := [(3, .int (nI (if mSel B c i j = false then mBits (mSel B c i) j else mBits (mSel B c i) j ||| 1 * 2 ^ j))), (5, .int (bI (mSel B c i j))), (4, .int (nI j)), (0, .ref hm), (1, .int (nI c)), (2, .int (nI i))]) hx hb dX2_bits_95 rfl hl (by decide) rfl (fun ls hl => ?_)
          refine lv_iinc (k := 2) (v := nI (j + 1)) (lv' := [(4, .int (nI (j + 1))), (3, .int (nI (if mSel B c i j = false then mBits (mSel B c i) j else mBits (mSel B c i) j ||| 1 * 2 ^ j))), (5, .int (bI (mSel B c i j))), (0, .ref hm), (1, .int (nI c)), (2, .int (nI i))]) hx hb dX2_bits_96 hl rfl (nI_1 _) (by decide) rfl (fun ls hl => ?_)
          refine lv_goto (tgt := 5) hx hb dX2_bits_99 (by decide) ?_
          exact ih (j + 1) (by omega) ls (lv_sub hl [0, 1, 3, 4, 5] rfl)
        · refine xb_if_eq (b := mSel B c i j) (tgt := 94) hx hb dX2_bits_82 (by decide) (fun h1 => ?_) (fun h1 => ?_)
          · refine lv_iload_n hx hb dX2_bits_94 rfl (lv_at hl 2 rfl) ?_
            exact J95 (nI (mBits (mSel B c i) j)) (congrArg nI (show mBits (mSel B c i) j = (if mSel B c i j = false then mBits (mSel B c i) j else mBits (mSel B c i) j ||| 1 * 2 ^ j) from (by first | rfl | (simp only [h1, Bool.true_and, Bool.false_and, Bool.and_true, Bool.and_false, Bool.true_or, Bool.or_true, Bool.false_or, Bool.or_false, Bool.not_true, Bool.not_false, decide_true, decide_false, Option.isSome, not_true_eq_false, not_false_eq_true, if_true, if_false, reduceCtorEq, ↓reduceIte]; done) | (simp only [mSel, h1, Bool.true_and, Bool.false_and, Bool.and_true, Bool.and_false, Bool.true_or, Bool.or_true, Bool.false_or, Bool.or_false, Bool.not_true, Bool.not_false, decide_true, decide_false, Option.isSome, not_true_eq_false, not_false_eq_true, if_true, if_false, reduceCtorEq, ↓reduceIte]; done) | (simp only [mSel]; simp only [h1, Bool.true_and, Bool.false_and, Bool.and_true, Bool.and_false, Bool.true_or, Bool.or_true, Bool.false_or, Bool.or_false, Bool.not_true, Bool.not_false, decide_true, decide_false, Option.isSome, not_true_eq_false, not_false_eq_true, if_true, if_false, reduceCtorEq, ↓reduceIte]; done) | (simp only [mSel]; simp only [h1, Bool.true_and, Bool.false_and, Bool.and_true, Bool.and_false, Bool.true_or, Bool.or_true, Bool.false_or, Bool.or_false, Bool.not_true, Bool.not_false, decide_true, decide_false, Option.isSome, not_true_eq_false, not_false_eq_true, if_true, if_false, reduceCtorEq, ↓reduceIte]; done) | (simp only [mSel]; simp only [h1, Bool.true_and, Bool.false_and, Bool.and_true, Bool.and_false, Bool.true_or, Bool.or_true, Bool.false_or, Bool.or_false, Bool.not_true, Bool.not_false, decide_true, decide_false, Option.isSome, not_true_eq_false, not_false_eq_true, if_true, if_false, reduceCtorEq, ↓reduceIte]; rfl) | (simp only [h1, Bool.true_and, Bool.false_and, Bool.and_true, Bool.and_false, Bool.true_or, Bool.or_true, Bool.false_or, Bool.or_false, Bool.not_true, Bool.not_false, decide_true, decide_false, Option.isSome, not_true_eq_false, not_false_eq_true, if_true, if_false, reduceCtorEq, ↓reduceIte]; rfl) | (simp_all [mSel]; done))))
          · refine lv_iload_n hx hb dX2_bits_85 rfl (lv_at hl 2 rfl) ?_
            refine lv_iconst (v := nI 1) hx hb dX2_bits_86 (by decide) ?_
            refine lv_iload hx hb dX2_bits_87 (lv_at hl 1 rfl) ?_
            refine lv_ishl hx hb dX2_bits_89 ?_
            refine xi_eq (y := nI (1 * 2 ^ j)) (xs_shl (by omega) hp2) ?_
            refine lv_ior hx hb dX2_bits_90 ?_
            refine xi_eq (y := nI ((mBits (mSel B c i) j) ||| (1 * 2 ^ j))) (xs_or _ _) ?_
            refine lv_goto (tgt := 95) hx hb dX2_bits_91 (by decide) ?_
            exact J95 (nI ((mBits (mSel B c i) j) ||| (1 * 2 ^ j))) (congrArg nI (show (mBits (mSel B c i) j) ||| (1 * 2 ^ j) = (if mSel B c i j = false then mBits (mSel B c i) j else mBits (mSel B c i) j ||| 1 * 2 ^ j) from (by first | rfl | (simp only [h1, Bool.true_and, Bool.false_and, Bool.and_true, Bool.and_false, Bool.true_or, Bool.or_true, Bool.false_or, Bool.or_false, Bool.not_true, Bool.not_false, decide_true, decide_false, Option.isSome, not_true_eq_false, not_false_eq_true, if_true, if_false, reduceCtorEq, ↓reduceIte]; done) | (simp only [mSel, h1, Bool.true_and, Bool.false_and, Bool.and_true, Bool.and_false, Bool.true_or, Bool.or_true, Bool.false_or, Bool.or_false, Bool.not_true, Bool.not_false, decide_true, decide_false, Option.isSome, not_true_eq_false, not_false_eq_true, if_true, if_false, reduceCtorEq, ↓reduceIte]; done) | (simp only [mSel]; simp only [h1, Bool.true_and, Bool.false_and, Bool.and_true, Bool.and_false, Bool.true_or, Bool.or_true, Bool.false_or, Bool.or_false, Bool.not_true, Bool.not_false, decide_true, decide_false, Option.isSome, not_true_eq_false, not_false_eq_true, if_true, if_false, reduceCtorEq, ↓reduceIte]; done) | (simp only [mSel]; simp only [h1, Bool.true_and, Bool.false_and, Bool.and_true, Bool.and_false, Bool.true_or, Bool.or_true, Bool.false_or, Bool.or_false, Bool.not_true, Bool.not_false, decide_true, decide_false, Option.isSome, not_true_eq_false, not_false_eq_true, if_true, if_false, reduceCtorEq, ↓reduceIte]; done) | (simp only [mSel]; simp only [h1, Bool.true_and, Bool.false_and, Bool.and_true, Bool.and_false, Bool.true_or, Bool.or_true, Bool.false_or, Bool.or_false, Bool.not_true, Bool.not_false, decide_true, decide_false, Option.isSome, not_true_eq_false, not_false_eq_true, if_true, if_false, reduceCtorEq, ↓reduceIte]; rfl) | (simp only [h1, Bool.true_and, Bool.false_and, Bool.and_true, Bool.and_false, Bool.true_or, Bool.or_true, Bool.false_or, Bool.or_false, Bool.not_true, Bool.not_false, decide_true, decide_false, Option.isSome, not_true_eq_false, not_false_eq_true, if_true, if_false, reduceCtorEq, ↓reduceIte]; rfl) | (simp_all [mSel]; done))))
      · refine lv_iload_n hx hb dX2_bits_12 rfl (lv_at hl 4 rfl) ?_
        refine xn_if_ne (x := i) (tgt := 26) (by omega) hx hb dX2_bits_13 (by decide) (fun h2 => ?_) (fun h2 => ?_)
        · refine lv_iload_n hx hb dX2_bits_26 rfl (lv_at hl 4 rfl) ?_
          refine lv_iconst (v := nI 1) hx hb dX2_bits_27 (by decide) ?_
          refine xn_icmp_ne (x := i) (y := 1) (tgt := 46) (by omega) (by omega) hx hb dX2_bits_28 (by decide) (fun h3 => ?_) (fun h3 => ?_)
          · refine lv_iload_n hx hb dX2_bits_46 rfl (lv_at hl 4 rfl) ?_
            refine lv_iconst (v := nI 2) hx hb dX2_bits_47 (by decide) ?_
            refine xn_icmp_ne (x := i) (y := 2) (tgt := 66) (by omega) (by omega) hx hb dX2_bits_48 (by decide) (fun h4 => ?_) (fun h4 => ?_)
            · refine lv_aload_n hx hb dX2_bits_66 rfl (lv_at hl 2 rfl) ?_
              refine va_get (D := (dC, dI)) (ci := 2) (v := .ref (a 0)) (C := RX2) (T := TX2) (N := 14) hx hb hts hin_RX2 hown hK hP 0 rfl rfl 1 (by decide) hlk_7 (fun _ h9 => h9) rfl dX2_bits_67 ?_
              refine lv_bipush (v := nI 8) hx hb dX2_bits_70 (by decide) ?_
              refine lv_iload_n hx hb dX2_bits_72 rfl (lv_at hl 3 rfl) ?_
              refine lv_imul hx hb dX2_bits_73 ?_
              refine xi_eq (y := nI (8 * c)) (pk_mul _ _) ?_
              refine lv_iload hx hb dX2_bits_74 (lv_at hl 0 rfl) ?_
              refine lv_iadd hx hb dX2_bits_76 ?_
              refine xi_eq (y := nI ((8 * c) + j)) (nI_add _ _) ?_
              refine xz_ld (f := B 0) (j := ((8 * c) + j)) hx hb hK hP 1 0 rfl rfl (by omega) (by decide) dX2_bits_77 ?_
              exact J78 (bI (B 0 ((8 * c) + j))) (congrArg bI (show B 0 ((8 * c) + j) = (mSel B c i j) from (by first | rfl | (simp only [if_neg h2, if_pos h2, decide_eq_false h2, if_neg h3, if_pos h3, decide_eq_false h3, if_neg h4, if_pos h4, decide_eq_false h4, Bool.true_and, Bool.false_and, Bool.and_true, Bool.and_false, Bool.true_or, Bool.or_true, Bool.false_or, Bool.or_false, Bool.not_true, Bool.not_false, decide_true, decide_false, Option.isSome, not_true_eq_false, not_false_eq_true, if_true, if_false, reduceCtorEq, ↓reduceIte]; done) | (simp only [mSel, if_neg h2, if_pos h2, decide_eq_false h2, if_neg h3, if_pos h3, decide_eq_false h3, if_neg h4, if_pos h4, decide_eq_false h4, Bool.true_and, Bool.false_and, Bool.and_true, Bool.and_false, Bool.true_or, Bool.or_true, Bool.false_or, Bool.or_false, Bool.not_true, Bool.not_false, decide_true, decide_false, Option.isSome, not_true_eq_false, not_false_eq_true, if_true, if_false, reduceCtorEq, ↓reduceIte]; done) | (simp only [mSel]; simp only [if_neg h2, if_pos h2, decide_eq_false h2, if_neg h3, if_pos h3, decide_eq_false h3, if_neg h4, if_pos h4, decide_eq_false h4, Bool.true_and, Bool.false_and, Bool.and_true, Bool.and_false, Bool.true_or, Bool.or_true, Bool.false_or, Bool.or_false, Bool.not_true, Bool.not_false, decide_true, decide_false, Option.isSome, not_true_eq_false, not_false_eq_true, if_true, if_false, reduceCtorEq, ↓reduceIte]; done) | (simp only [mSel]; simp only [if_neg h2, if_pos h2, decide_eq_false h2, if_neg h3, if_pos h3, decide_eq_false h3, if_neg h4, if_pos h4, decide_eq_false h4, Bool.true_and, Bool.false_and, Bool.and_true, Bool.and_false, Bool.true_or, Bool.or_true, Bool.false_or, Bool.or_false, Bool.not_true, Bool.not_false, decide_true, decide_false, Option.isSome, not_true_eq_false, not_false_eq_true, if_true, if_false, reduceCtorEq, ↓reduceIte]; done) | (simp only [mSel]; simp only [if_neg h2, if_pos h2, decide_eq_false h2, if_neg h3, if_pos h3, decide_eq_false h3, if_neg h4, if_pos h4, decide_eq_false h4, Bool.true_and, Bool.false_and, Bool.and_true, Bool.and_false, Bool.true_or, Bool.or_true, Bool.false_or, Bool.or_false, Bool.not_true, Bool.not_false, decide_true, decide_false, Option.isSome, not_true_eq_false, not_false_eq_true, if_true, if_false, reduceCtorEq, ↓reduceIte]; rfl) | (simp only [if_neg h2, if_pos h2, decide_eq_false h2, if_neg h3, if_pos h3, decide_eq_false h3, if_neg h4, if_pos h4, decide_eq_false h4, Bool.true_and, Bool.false_and, Bool.and_true, Bool.and_false, Bool.true_or, Bool.or_true, Bool.false_or, Bool.or_false, Bool.not_true, Bool.not_false, decide_true, decide_false, Option.isSome, not_true_eq_false, not_false_eq_true, if_true, if_false, reduceCtorEq, ↓reduceIte]; rfl) | (simp_all [mSel]; done))))
            · refine lv_aload_n hx hb dX2_bits_51 rfl (lv_at hl 2 rfl) ?_
              refine va_get (D := (dC, dI)) (ci := 2) (v := .ref (a 3)) (C := RX2) (T := TX2) (N := 14) hx hb hts hin_RX2 hown hK hP 0 rfl rfl 4 (by decide) hlk_19 (fun _ h9 => h9) rfl dX2_bits_52 ?_
              refine lv_bipush (v := nI 8) hx hb dX2_bits_55 (by decide) ?_
              refine lv_iload_n hx hb dX2_bits_57 rfl (lv_at hl 3 rfl) ?_
              refine lv_imul hx hb dX2_bits_58 ?_
              refine xi_eq (y := nI (8 * c)) (pk_mul _ _) ?_
              refine lv_iload hx hb dX2_bits_59 (lv_at hl 0 rfl) ?_
              refine lv_iadd hx hb dX2_bits_61 ?_
              refine xi_eq (y := nI ((8 * c) + j)) (nI_add _ _) ?_
              refine xz_ld (f := B 3) (j := ((8 * c) + j)) hx hb hK hP 4 3 rfl rfl (by omega) (by decide) dX2_bits_62 ?_
              refine lv_goto (tgt := 78) hx hb dX2_bits_63 (by decide) ?_
              exact J78 (bI (B 3 ((8 * c) + j))) (congrArg bI (show B 3 ((8 * c) + j) = (mSel B c i j) from (by first | rfl | (simp only [if_neg h2, if_pos h2, decide_eq_false h2, if_neg h3, if_pos h3, decide_eq_false h3, if_pos h4, if_neg (not_not_intro h4), decide_eq_true h4, Bool.true_and, Bool.false_and, Bool.and_true, Bool.and_false, Bool.true_or, Bool.or_true, Bool.false_or, Bool.or_false, Bool.not_true, Bool.not_false, decide_true, decide_false, Option.isSome, not_true_eq_false, not_false_eq_true, if_true, if_false, reduceCtorEq, ↓reduceIte]; done) | (simp only [mSel, if_neg h2, if_pos h2, decide_eq_false h2, if_neg h3, if_pos h3, decide_eq_false h3, if_pos h4, if_neg (not_not_intro h4), decide_eq_true h4, Bool.true_and, Bool.false_and, Bool.and_true, Bool.and_false, Bool.true_or, Bool.or_true, Bool.false_or, Bool.or_false, Bool.not_true, Bool.not_false, decide_true, decide_false, Option.isSome, not_true_eq_false, not_false_eq_true, if_true, if_false, reduceCtorEq, ↓reduceIte]; done) | (simp only [mSel]; simp only [if_neg h2, if_pos h2, decide_eq_false h2, if_neg h3, if_pos h3, decide_eq_false h3, if_pos h4, if_neg (not_not_intro h4), decide_eq_true h4, Bool.true_and, Bool.false_and, Bool.and_true, Bool.and_false, Bool.true_or, Bool.or_true, Bool.false_or, Bool.or_false, Bool.not_true, Bool.not_false, decide_true, decide_false, Option.isSome, not_true_eq_false, not_false_eq_true, if_true, if_false, reduceCtorEq, ↓reduceIte]; done) | (simp only [mSel]; simp only [if_neg h2, if_pos h2, decide_eq_false h2, if_neg h3, if_pos h3, decide_eq_false h3, if_pos h4, if_neg (not_not_intro h4), decide_eq_true h4, Bool.true_and, Bool.false_and, Bool.and_true, Bool.and_false, Bool.true_or, Bool.or_true, Bool.false_or, Bool.or_false, Bool.not_true, Bool.not_false, decide_true, decide_false, Option.isSome, not_true_eq_false, not_false_eq_true, if_true, if_false, reduceCtorEq, ↓reduceIte]; done) | (simp only [mSel]; simp only [if_neg h2, if_pos h2, decide_eq_false h2, if_neg h3, if_pos h3, decide_eq_false h3, if_pos h4, if_neg (not_not_intro h4), decide_eq_true h4, Bool.true_and, Bool.false_and, Bool.and_true, Bool.and_false, Bool.true_or, Bool.or_true, Bool.false_or, Bool.or_false, Bool.not_true, Bool.not_false, decide_true, decide_false, Option.isSome, not_true_eq_false, not_false_eq_true, if_true, if_false, reduceCtorEq, ↓reduceIte]; rfl) | (simp only [if_neg h2, if_pos h2, decide_eq_false h2, if_neg h3, if_pos h3, decide_eq_false h3, if_pos h4, if_neg (not_not_intro h4), decide_eq_true h4, Bool.true_and, Bool.false_and, Bool.and_true, Bool.and_false, Bool.true_or, Bool.or_true, Bool.false_or, Bool.or_false, Bool.not_true, Bool.not_false, decide_true, decide_false, Option.isSome, not_true_eq_false, not_false_eq_true, if_true, if_false, reduceCtorEq, ↓reduceIte]; rfl) | (simp_all [mSel]; done))))
          · refine lv_aload_n hx hb dX2_bits_31 rfl (lv_at hl 2 rfl) ?_
            refine va_get (D := (dC, dI)) (ci := 2) (v := .ref (a 2)) (C := RX2) (T := TX2) (N := 14) hx hb hts hin_RX2 hown hK hP 0 rfl rfl 3 (by decide) hlk_16 (fun _ h9 => h9) rfl dX2_bits_32 ?_
            refine lv_bipush (v := nI 8) hx hb dX2_bits_35 (by decide) ?_
            refine lv_iload_n hx hb dX2_bits_37 rfl (lv_at hl 3 rfl) ?_
            refine lv_imul hx hb dX2_bits_38 ?_
            refine xi_eq (y := nI (8 * c)) (pk_mul _ _) ?_
            refine lv_iload hx hb dX2_bits_39 (lv_at hl 0 rfl) ?_
            refine lv_iadd hx hb dX2_bits_41 ?_
            refine xi_eq (y := nI ((8 * c) + j)) (nI_add _ _) ?_
            refine xz_ld (f := B 2) (j := ((8 * c) + j)) hx hb hK hP 3 2 rfl rfl (by omega) (by decide) dX2_bits_42 ?_
            refine lv_goto (tgt := 78) hx hb dX2_bits_43 (by decide) ?_
            exact J78 (bI (B 2 ((8 * c) + j))) (congrArg bI (show B 2 ((8 * c) + j) = (mSel B c i j) from (by first | rfl | (simp only [if_neg h2, if_pos h2, decide_eq_false h2, if_pos h3, if_neg (not_not_intro h3), decide_eq_true h3, Bool.true_and, Bool.false_and, Bool.and_true, Bool.and_false, Bool.true_or, Bool.or_true, Bool.false_or, Bool.or_false, Bool.not_true, Bool.not_false, decide_true, decide_false, Option.isSome, not_true_eq_false, not_false_eq_true, if_true, if_false, reduceCtorEq, ↓reduceIte]; done) | (simp only [mSel, if_neg h2, if_pos h2, decide_eq_false h2, if_pos h3, if_neg (not_not_intro h3), decide_eq_true h3, Bool.true_and, Bool.false_and, Bool.and_true, Bool.and_false, Bool.true_or, Bool.or_true, Bool.false_or, Bool.or_false, Bool.not_true, Bool.not_false, decide_true, decide_false, Option.isSome, not_true_eq_false, not_false_eq_true, if_true, if_false, reduceCtorEq, ↓reduceIte]; done) | (simp only [mSel]; simp only [if_neg h2, if_pos h2, decide_eq_false h2, if_pos h3, if_neg (not_not_intro h3), decide_eq_true h3, Bool.true_and, Bool.false_and, Bool.and_true, Bool.and_false, Bool.true_or, Bool.or_true, Bool.false_or, Bool.or_false, Bool.not_true, Bool.not_false, decide_true, decide_false, Option.isSome, not_true_eq_false, not_false_eq_true, if_true, if_false, reduceCtorEq, ↓reduceIte]; done) | (simp only [mSel]; simp only [if_neg h2, if_pos h2, decide_eq_false h2, if_pos h3, if_neg (not_not_intro h3), decide_eq_true h3, Bool.true_and, Bool.false_and, Bool.and_true, Bool.and_false, Bool.true_or, Bool.or_true, Bool.false_or, Bool.or_false, Bool.not_true, Bool.not_false, decide_true, decide_false, Option.isSome, not_true_eq_false, not_false_eq_true, if_true, if_false, reduceCtorEq, ↓reduceIte]; done) | (simp only [mSel]; simp only [if_neg h2, if_pos h2, decide_eq_false h2, if_pos h3, if_neg (not_not_intro h3), decide_eq_true h3, Bool.true_and, Bool.false_and, Bool.and_true, Bool.and_false, Bool.true_or, Bool.or_true, Bool.false_or, Bool.or_false, Bool.not_true, Bool.not_false, decide_true, decide_false, Option.isSome, not_true_eq_false, not_false_eq_true, if_true, if_false, reduceCtorEq, ↓reduceIte]; rfl) | (simp only [if_neg h2, if_pos h2, decide_eq_false h2, if_pos h3, if_neg (not_not_intro h3), decide_eq_true h3, Bool.true_and, Bool.false_and, Bool.and_true, Bool.and_false, Bool.true_or, Bool.or_true, Bool.false_or, Bool.or_false, Bool.not_true, Bool.not_false, decide_true, decide_false, Option.isSome, not_true_eq_false, not_false_eq_true, if_true, if_false, reduceCtorEq, ↓reduceIte]; rfl) | (simp_all [mSel]; done))))
        · refine lv_aload_n hx hb dX2_bits_16 rfl (lv_at hl 2 rfl) ?_
          refine lv_iload_n hx hb dX2_bits_17 rfl (lv_at hl 3 rfl) ?_
          refine lv_iload hx hb dX2_bits_18 (lv_at hl 0 rfl) ?_
          refine xr_call (st1 := [.int (bI (mReq B c j))]) (W.runV (As := [.int (nI c), .int (nI j)]) (rest := []) ⟨hx, hb, hml, hown, hts⟩ (c2_requested l dC dI hm a cA B N c j (by omega) (by omega)) (cwV 2 hts (gd_V wa_c k_ml_X2_56 k_im_X2_requested k_se_X2_requested k_in_X2 k_co_X2_requested) rfl rfl rfl (by decide +kernel) ⟨Nat.le_of_ble_eq_true rfl, Nat.le_of_ble_eq_true rfl⟩) (xr_preV (q0 := 0) (C := RX2) hK hP xz_Z.nil rfl rfl) rfl rfl hl.1 rfl (lv_room (Nat.le_of_ble_eq_true rfl)) dX2_bits_20 ⟨Nat.zero_le _, Nat.zero_le _⟩) rfl ?_
          refine lv_goto (tgt := 78) hx hb dX2_bits_23 (by decide) ?_
          exact J78 (bI (mReq B c j)) (congrArg bI (show mReq B c j = (mSel B c i j) from (by first | rfl | (simp only [if_pos h2, if_neg (not_not_intro h2), decide_eq_true h2, Bool.true_and, Bool.false_and, Bool.and_true, Bool.and_false, Bool.true_or, Bool.or_true, Bool.false_or, Bool.or_false, Bool.not_true, Bool.not_false, decide_true, decide_false, Option.isSome, not_true_eq_false, not_false_eq_true, if_true, if_false, reduceCtorEq, ↓reduceIte]; done) | (simp only [mSel, if_pos h2, if_neg (not_not_intro h2), decide_eq_true h2, Bool.true_and, Bool.false_and, Bool.and_true, Bool.and_false, Bool.true_or, Bool.or_true, Bool.false_or, Bool.or_false, Bool.not_true, Bool.not_false, decide_true, decide_false, Option.isSome, not_true_eq_false, not_false_eq_true, if_true, if_false, reduceCtorEq, ↓reduceIte]; done) | (simp only [mSel]; simp only [if_pos h2, if_neg (not_not_intro h2), decide_eq_true h2, Bool.true_and, Bool.false_and, Bool.and_true, Bool.and_false, Bool.true_or, Bool.or_true, Bool.false_or, Bool.or_false, Bool.not_true, Bool.not_false, decide_true, decide_false, Option.isSome, not_true_eq_false, not_false_eq_true, if_true, if_false, reduceCtorEq, ↓reduceIte]; done) | (simp only [mSel]; simp only [if_pos h2, if_neg (not_not_intro h2), decide_eq_true h2, Bool.true_and, Bool.false_and, Bool.and_true, Bool.and_false, Bool.true_or, Bool.or_true, Bool.false_or, Bool.or_false, Bool.not_true, Bool.not_false, decide_true, decide_false, Option.isSome, not_true_eq_false, not_false_eq_true, if_true, if_false, reduceCtorEq, ↓reduceIte]; done) | (simp only [mSel]; simp only [if_pos h2, if_neg (not_not_intro h2), decide_eq_true h2, Bool.true_and, Bool.false_and, Bool.and_true, Bool.and_false, Bool.true_or, Bool.or_true, Bool.false_or, Bool.or_false, Bool.not_true, Bool.not_false, decide_true, decide_false, Option.isSome, not_true_eq_false, not_false_eq_true, if_true, if_false, reduceCtorEq, ↓reduceIte]; rfl) | (simp only [if_pos h2, if_neg (not_not_intro h2), decide_eq_true h2, Bool.true_and, Bool.false_and, Bool.and_true, Bool.and_false, Bool.true_or, Bool.or_true, Bool.false_or, Bool.or_false, Bool.not_true, Bool.not_false, decide_true, decide_false, Option.isSome, not_true_eq_false, not_false_eq_true, if_true, if_false, reduceCtorEq, ↓reduceIte]; rfl) | (simp_all [mSel]; done))))
  refine lv_iconst (v := nI 0) hx hb dX2_bits_0 (by decide) ?_
  refine lv_istore_n (lv' := [(3, .int (nI 0)), (0, .ref hm), (1, .int (nI c)), (2, .int (nI i))]) hx hb dX2_bits_1 rfl hl (by decide) rfl (fun ls hl => ?_)
  refine lv_iconst (v := nI 0) hx hb dX2_bits_2 (by decide) ?_
  refine lv_istore (lv' := [(4, .int (nI 0)), (3, .int (nI 0)), (0, .ref hm), (1, .int (nI c)), (2, .int (nI i))]) hx hb dX2_bits_3 hl (by decide) rfl (fun ls hl => ?_)
  exact loop 8 0 rfl ls (lv_sub hl [0, 1, 2, 3, 4] rfl)

set_option maxHeartbeats 4000000 in
set_option maxRecDepth 100000 in
theorem c2_follow (l : Launch) (dC : Nat → ClassId) (dI : Nat → Nat → Nat) (hm : Nat) (a : Nat → Nat) (cA : Nat → ClassId) (sz : Nat) (B : Nat → Nat → Bool) (N : Nat → Nat → Nat) (hN : ∀ c, c < 2 → N 0 c < 8) : xc_M l yX2_follow wsX2_follow ({ frames := 3, cells := 0, slots := 0, locals := 69 }) [.ref hm] sz (dC, dI) vwCl (mtys cA) [] (mw hm a cA (B, N)) none (mw hm a cA (mFol B N, N)) 0 0 := by
  refine Met.ofW (cc := cX2_follow) (maxL := 1) (ret := none) (by decide) rfl ?_
  intro p e s m args below meth cd s₁ B₀ hml hv
  obtain ⟨rfl, hsz, hP, hK, hD0, hZ⟩ := hv
  have hx := B₀.exec
  have hb := B₀.bytes
  have hr := B₀.returns
  have hts := atoms_spec (ws := wsX2_follow) B₀.pre
  have hown : s.vm.findClass RX2 = some m.cls := findClass_of_methodNamed B₀.named
  have hlocks := B₀.notSynchronized
  subst hsz
  have hD := hD0.self (sz := s.heap.size)
  generalize hAe : va_A (mw hm a cA (B, N)) s.heap.size = A at hD ⊢
  have hA : ∀ q : Nat, s.heap.size ≤ q → A q := fun q h => by rw [← hAe]; exact Or.inr h
  have hS : va_S A s.heap s.heap [] := va_S.rf
  have hl := lv_entry ([.ref hm]) (n := 1) (Nat.le_of_ble_eq_true rfl)
  rw [lg_entry_eq]
  generalize (lg_sl ([.ref hm]) ++ List.replicate (1 - (lg_sl ([.ref hm])).length) Slot.unset).toArray = ls at hl ⊢
  have hl : lv_has ls 1 [(0, .ref hm)] := hl
  refine lv_aload_n hx hb dX2_follow_0 rfl (lv_at hl 0 rfl) ?_
  refine lv_iconst (v := nI 2) hx hb dX2_follow_1 (by decide) ?_
  refine lv_aload_n hx hb dX2_follow_2 rfl (lv_at hl 0 rfl) ?_
  refine lv_iconst (v := nI 1) hx hb dX2_follow_3 (by decide) ?_
  refine xr_call (st1 := [.int (oI (mDel B N 1)), .int (nI 2), .ref hm]) (W.runV (As := [.int (nI 1)]) (rest := [.int (nI 2), .ref hm]) ⟨hx, hb, hml, hown, hts⟩ (c2_delivered l dC dI hm a cA B N 1 (by omega) hN) (cwV 1 hts (gd_V wa_c k_ml_X2_59 k_im_X2_delivered k_se_X2_delivered k_in_X2 k_co_X2_delivered) rfl rfl rfl (by decide +kernel) ⟨Nat.le_of_ble_eq_true rfl, Nat.le_of_ble_eq_true rfl⟩) (xr_preV (q0 := 0) (C := RX2) hK hP xz_Z.nil rfl rfl) rfl rfl hl.1 rfl (lv_room (Nat.le_of_ble_eq_true rfl)) dX2_follow_4 ⟨Nat.zero_le _, Nat.zero_le _⟩) rfl ?_
  rcases h1 : mDel B N 1 with _ | k1
  · refine lv_iconst (v := -1) hx hb dX2_follow_7 (by decide) ?_
    refine lv_icmp_eq (tgt := 15) hx hb dX2_follow_8 (by decide) (fun _ => ?_) (fun h => absurd rfl h)
    refine lv_iconst (v := nI 0) hx hb dX2_follow_15 (by decide) ?_
    refine xc_call (wc := mw hm a cA (B, N)) (wr := []) (st1 := []) (va_runV (As := [.int (nI 2), .int (bI false)]) (rest := []) ⟨hx, hb, hml, hown, hts⟩ (c2_raise l dC dI hm a cA s.heap.size B N 2 false (by omega)) (cwV 2 hts (gd_V wa_c k_ml_X2_63 k_im_X2_raise k_se_X2_raise k_in_X2 k_co_X2_raise) rfl rfl rfl (by decide +kernel) ⟨Nat.le_of_ble_eq_true rfl, Nat.le_of_ble_eq_true rfl⟩) (xc_preV (q0 := 0) (C := RX2) hK hP hD xz_Z.nil rfl rfl) rfl rfl hl.1 rfl (lv_room (Nat.le_of_ble_eq_true rfl)) dX2_follow_16 ⟨Nat.zero_le _, Nat.zero_le _⟩) hP hD hS hA [0, 1, 2, 3, 4, 5, 6, 7, 8, 9, 10] [] rfl rfl (by decide) (by decide) rfl (fun H locs hP hD hS _ => ?_)
    have hP : va_P (dC, dI) vwCl (mw hm a cA (mRaise B 2 false, N)) H := hP
    have hD : va_D A (mw hm a cA (mRaise B 2 false, N)) := hD
    exact xc_vret (wf := mw hm a cA) hx hb hr hlocks dX2_follow_19 hK hP hD hS (by first | rfl | (simp only [h1, Bool.true_and, Bool.false_and, Bool.and_true, Bool.and_false, Bool.true_or, Bool.or_true, Bool.false_or, Bool.or_false, Bool.not_true, Bool.not_false, decide_true, decide_false, Option.isSome, not_true_eq_false, not_false_eq_true, if_true, if_false, reduceCtorEq, ↓reduceIte]; done) | (simp only [mFol, h1, Bool.true_and, Bool.false_and, Bool.and_true, Bool.and_false, Bool.true_or, Bool.or_true, Bool.false_or, Bool.or_false, Bool.not_true, Bool.not_false, decide_true, decide_false, Option.isSome, not_true_eq_false, not_false_eq_true, if_true, if_false, reduceCtorEq, ↓reduceIte]; done) | (simp only [mFol]; simp only [h1, Bool.true_and, Bool.false_and, Bool.and_true, Bool.and_false, Bool.true_or, Bool.or_true, Bool.false_or, Bool.or_false, Bool.not_true, Bool.not_false, decide_true, decide_false, Option.isSome, not_true_eq_false, not_false_eq_true, if_true, if_false, reduceCtorEq, ↓reduceIte]; done) | (simp only [mFol]; simp only [h1, Bool.true_and, Bool.false_and, Bool.and_true, Bool.and_false, Bool.true_or, Bool.or_true, Bool.false_or, Bool.or_false, Bool.not_true, Bool.not_false, decide_true, decide_false, Option.isSome, not_true_eq_false, not_false_eq_true, if_true, if_false, reduceCtorEq, ↓reduceIte]; done) | (simp only [mFol]; simp only [h1, Bool.true_and, Bool.false_and, Bool.and_true, Bool.and_false, Bool.true_or, Bool.or_true, Bool.false_or, Bool.or_false, Bool.not_true, Bool.not_false, decide_true, decide_false, Option.isSome, not_true_eq_false, not_false_eq_true, if_true, if_false, reduceCtorEq, ↓reduceIte]; rfl) | (simp only [h1, Bool.true_and, Bool.false_and, Bool.and_true, Bool.and_false, Bool.true_or, Bool.or_true, Bool.false_or, Bool.or_false, Bool.not_true, Bool.not_false, decide_true, decide_false, Option.isSome, not_true_eq_false, not_false_eq_true, if_true, if_false, reduceCtorEq, ↓reduceIte]; rfl) | (simp_all [mFol]; done))
  · have h1l : k1 < 8 := mDel_lt h1
    refine lv_iconst (v := -1) hx hb dX2_follow_7 (by decide) ?_
    refine lv_icmp_eq (tgt := 15) hx hb dX2_follow_8 (by decide) (fun h => absurd h (xn_m1 (by omega))) (fun _ => ?_)
    refine lv_iconst (v := nI 1) hx hb dX2_follow_11 (by decide) ?_
    refine lv_goto (tgt := 16) hx hb dX2_follow_12 (by decide) ?_
    refine xc_call (wc := mw hm a cA (B, N)) (wr := []) (st1 := []) (va_runV (As := [.int (nI 2), .int (bI true)]) (rest := []) ⟨hx, hb, hml, hown, hts⟩ (c2_raise l dC dI hm a cA s.heap.size B N 2 true (by omega)) (cwV 2 hts (gd_V wa_c k_ml_X2_63 k_im_X2_raise k_se_X2_raise k_in_X2 k_co_X2_raise) rfl rfl rfl (by decide +kernel) ⟨Nat.le_of_ble_eq_true rfl, Nat.le_of_ble_eq_true rfl⟩) (xc_preV (q0 := 0) (C := RX2) hK hP hD xz_Z.nil rfl rfl) rfl rfl hl.1 rfl (lv_room (Nat.le_of_ble_eq_true rfl)) dX2_follow_16 ⟨Nat.zero_le _, Nat.zero_le _⟩) hP hD hS hA [0, 1, 2, 3, 4, 5, 6, 7, 8, 9, 10] [] rfl rfl (by decide) (by decide) rfl (fun H locs hP hD hS _ => ?_)
    have hP : va_P (dC, dI) vwCl (mw hm a cA (mRaise B 2 true, N)) H := hP
    have hD : va_D A (mw hm a cA (mRaise B 2 true, N)) := hD
    exact xc_vret (wf := mw hm a cA) hx hb hr hlocks dX2_follow_19 hK hP hD hS (by first | rfl | (simp only [h1, Bool.true_and, Bool.false_and, Bool.and_true, Bool.and_false, Bool.true_or, Bool.or_true, Bool.false_or, Bool.or_false, Bool.not_true, Bool.not_false, decide_true, decide_false, Option.isSome, not_true_eq_false, not_false_eq_true, if_true, if_false, reduceCtorEq, ↓reduceIte]; done) | (simp only [mFol, h1, Bool.true_and, Bool.false_and, Bool.and_true, Bool.and_false, Bool.true_or, Bool.or_true, Bool.false_or, Bool.or_false, Bool.not_true, Bool.not_false, decide_true, decide_false, Option.isSome, not_true_eq_false, not_false_eq_true, if_true, if_false, reduceCtorEq, ↓reduceIte]; done) | (simp only [mFol]; simp only [h1, Bool.true_and, Bool.false_and, Bool.and_true, Bool.and_false, Bool.true_or, Bool.or_true, Bool.false_or, Bool.or_false, Bool.not_true, Bool.not_false, decide_true, decide_false, Option.isSome, not_true_eq_false, not_false_eq_true, if_true, if_false, reduceCtorEq, ↓reduceIte]; done) | (simp only [mFol]; simp only [h1, Bool.true_and, Bool.false_and, Bool.and_true, Bool.and_false, Bool.true_or, Bool.or_true, Bool.false_or, Bool.or_false, Bool.not_true, Bool.not_false, decide_true, decide_false, Option.isSome, not_true_eq_false, not_false_eq_true, if_true, if_false, reduceCtorEq, ↓reduceIte]; done) | (simp only [mFol]; simp only [h1, Bool.true_and, Bool.false_and, Bool.and_true, Bool.and_false, Bool.true_or, Bool.or_true, Bool.false_or, Bool.or_false, Bool.not_true, Bool.not_false, decide_true, decide_false, Option.isSome, not_true_eq_false, not_false_eq_true, if_true, if_false, reduceCtorEq, ↓reduceIte]; rfl) | (simp only [h1, Bool.true_and, Bool.false_and, Bool.and_true, Bool.and_false, Bool.true_or, Bool.or_true, Bool.false_or, Bool.or_false, Bool.not_true, Bool.not_false, decide_true, decide_false, Option.isSome, not_true_eq_false, not_false_eq_true, if_true, if_false, reduceCtorEq, ↓reduceIte]; rfl) | (simp_all [mFol]; done))

set_option maxHeartbeats 4000000 in
set_option maxRecDepth 100000 in
theorem c2_taken (l : Launch) (dC : Nat → ClassId) (dI : Nat → Nat → Nat) (hm : Nat) (a : Nat → Nat) (cA : Nat → ClassId) (sz : Nat) (B : Nat → Nat → Bool) (N : Nat → Nat → Nat) (c : Nat) (k : Nat) (hc : c < 2) (hk : k < 8) : xc_M l yX2_taken wsX2_taken ({ frames := 1, cells := 0, slots := 0, locals := 22 }) [.ref hm, .int (nI c), .int (nI k)] sz (dC, dI) vwCl (mtys cA) [] (mw hm a cA (B, N)) none (mw hm a cA (mTakB B c k, mTakN B N c k)) 0 0 := by
  refine Met.ofW (cc := cX2_taken) (maxL := 3) (ret := none) (by decide) rfl ?_
  intro p e s m args below meth cd s₁ B₀ hml hv
  obtain ⟨rfl, hsz, hP, hK, hD0, hZ⟩ := hv
  have hx := B₀.exec
  have hb := B₀.bytes
  have hr := B₀.returns
  have hts := atoms_spec (ws := wsX2_taken) B₀.pre
  have hown : s.vm.findClass RX2 = some m.cls := findClass_of_methodNamed B₀.named
  have hlocks := B₀.notSynchronized
  subst hsz
  have hD := hD0.self (sz := s.heap.size)
  generalize hAe : va_A (mw hm a cA (B, N)) s.heap.size = A at hD ⊢
  have hA : ∀ q : Nat, s.heap.size ≤ q → A q := fun q h => by rw [← hAe]; exact Or.inr h
  have hS : va_S A s.heap s.heap [] := va_S.rf
  have hin_RX2 : ∀ w ∈ u_ws RX2 TX2 14, w ∈ wsX2_taken := fun w h => List.mem_cons_of_mem _ (u_X2 w h)
  have hlk_13 := hts _ (List.mem_cons_of_mem _ k_fl_X2_13)
  have hlk_16 := hts _ (List.mem_cons_of_mem _ k_fl_X2_16)
  have hlk_22 := hts _ (List.mem_cons_of_mem _ k_fl_X2_22)
  have hlk_67 := hts _ (List.mem_cons_of_mem _ k_fl_X2_67)
  have hl := lv_entry ([.ref hm, .int (nI c), .int (nI k)]) (n := 3) (Nat.le_of_ble_eq_true rfl)
  rw [lg_entry_eq]
  generalize (lg_sl ([.ref hm, .int (nI c), .int (nI k)]) ++ List.replicate (3 - (lg_sl ([.ref hm, .int (nI c), .int (nI k)])).length) Slot.unset).toArray = ls at hl ⊢
  have hl : lv_has ls 3 [(0, .ref hm), (1, .int (nI c)), (2, .int (nI k))] := hl
  refine lv_aload_n hx hb dX2_taken_0 rfl (lv_at hl 0 rfl) ?_
  refine lv_dup hx hb dX2_taken_1 rfl ?_
  refine va_get (D := (dC, dI)) (ci := 2) (v := .int (nI (N 4 1))) (C := RX2) (T := TX2) (N := 14) hx hb hts hin_RX2 hown hK hP 0 rfl rfl 11 (by decide) hlk_67 (fun _ h9 => h9) rfl dX2_taken_2 ?_
  refine lv_iconst (v := nI 1) hx hb dX2_taken_5 (by decide) ?_
  refine lv_iadd hx hb dX2_taken_6 ?_
  refine xi_eq (y := nI ((N 4 1) + 1)) (nI_add _ _) ?_
  refine va_put (D := (dC, dI)) (ci := 2) (v := .int (nI ((N 4 1) + 1))) (ty := .int) (C := RX2) (T := TX2) (N := 14) hx hb hts hin_RX2 tyX2 tyX2_ok nX2 hown hK hP hD hS 0 rfl rfl 11 (by decide) hlk_67 (fun _ h9 => h9) rfl (by decide +kernel) rfl rfl (Nat.le_of_ble_eq_true rfl) dX2_taken_7 (fun H locs hP hD hS => ?_)
  have hP : va_P (dC, dI) vwCl (mw hm a cA (B, sN N 4 1 ((N 4 1) + 1))) H := hP
  have hD : va_D A (mw hm a cA (B, sN N 4 1 ((N 4 1) + 1))) := hD
  refine lv_aload_n hx hb dX2_taken_10 rfl (lv_at hl 0 rfl) ?_
  refine va_get (D := (dC, dI)) (ci := 2) (v := .ref (a 1)) (C := RX2) (T := TX2) (N := 14) hx hb hts hin_RX2 hown hK hP 0 rfl rfl 2 (by decide) hlk_13 (fun _ h9 => h9) rfl dX2_taken_11 ?_
  refine lv_bipush (v := nI 8) hx hb dX2_taken_14 (by decide) ?_
  refine lv_iload_n hx hb dX2_taken_16 rfl (lv_at hl 1 rfl) ?_
  refine lv_imul hx hb dX2_taken_17 ?_
  refine xi_eq (y := nI (8 * c)) (pk_mul _ _) ?_
  refine lv_iload_n hx hb dX2_taken_18 rfl (lv_at hl 2 rfl) ?_
  refine lv_iadd hx hb dX2_taken_19 ?_
  refine xi_eq (y := nI ((8 * c) + k)) (nI_add _ _) ?_
  refine lv_iconst (v := nI 0) hx hb dX2_taken_20 (by decide) ?_
  refine xz_st (f := B 1) (j := ((8 * c) + k)) (b := false) hx hb hK hP hD hS 2 1 rfl rfl (by omega) (by decide) dX2_taken_21 (fun H locs hP hD hS => ?_)
  have hP : va_P (dC, dI) vwCl (mw hm a cA (sB B 1 ((8 * c) + k) false, sN N 4 1 ((N 4 1) + 1))) H := hP
  have hD : va_D A (mw hm a cA (sB B 1 ((8 * c) + k) false, sN N 4 1 ((N 4 1) + 1))) := hD
  refine lv_aload_n hx hb dX2_taken_22 rfl (lv_at hl 0 rfl) ?_
  refine lv_iload_n hx hb dX2_taken_23 rfl (lv_at hl 1 rfl) ?_
  refine lv_iconst (v := nI 4) hx hb dX2_taken_24 (by decide) ?_
  refine xr_call (st1 := [.int (bI (B 4 (7 * c + 4)))]) (W.runV (As := [.int (nI c), .int (nI 4)]) (rest := []) ⟨hx, hb, hml, hown, hts⟩ (c2_is l dC dI hm a cA (sB B 1 ((8 * c) + k) false) (sN N 4 1 ((N 4 1) + 1)) c 4 (by omega)) (cwV 2 hts (gd_V wa_c k_ml_X2_45 k_im_X2_is k_se_X2_is k_in_X2 k_co_X2_is) rfl rfl rfl (by decide +kernel) ⟨Nat.le_of_ble_eq_true rfl, Nat.le_of_ble_eq_true rfl⟩) (xr_preV (q0 := 0) (C := RX2) hK hP xz_Z.nil rfl rfl) rfl rfl hl.1 rfl (lv_room (Nat.le_of_ble_eq_true rfl)) dX2_taken_25 ⟨Nat.zero_le _, Nat.zero_le _⟩) rfl ?_
  refine xb_if_ne (b := B 4 (7 * c + 4)) (tgt := 46) hx hb dX2_taken_28 (by decide) (fun h1 => ?_) (fun h1 => ?_)
  · refine lv_aload_n hx hb dX2_taken_46 rfl (lv_at hl 0 rfl) ?_
    refine lv_iload_n hx hb dX2_taken_47 rfl (lv_at hl 1 rfl) ?_
    refine lv_iconst (v := nI 5) hx hb dX2_taken_48 (by decide) ?_
    refine xr_call (st1 := [.int (bI (B 4 (7 * c + 5)))]) (W.runV (As := [.int (nI c), .int (nI 5)]) (rest := []) ⟨hx, hb, hml, hown, hts⟩ (c2_is l dC dI hm a cA (sB B 1 ((8 * c) + k) false) (sN N 4 1 ((N 4 1) + 1)) c 5 (by omega)) (cwV 2 hts (gd_V wa_c k_ml_X2_45 k_im_X2_is k_se_X2_is k_in_X2 k_co_X2_is) rfl rfl rfl (by decide +kernel) ⟨Nat.le_of_ble_eq_true rfl, Nat.le_of_ble_eq_true rfl⟩) (xr_preV (q0 := 0) (C := RX2) hK hP xz_Z.nil rfl rfl) rfl rfl hl.1 rfl (lv_room (Nat.le_of_ble_eq_true rfl)) dX2_taken_49 ⟨Nat.zero_le _, Nat.zero_le _⟩) rfl ?_
    refine xb_if_eq (b := B 4 (7 * c + 5)) (tgt := 62) hx hb dX2_taken_52 (by decide) (fun h2 => ?_) (fun h2 => ?_)
    · exact xc_vret (wf := mw hm a cA) hx hb hr hlocks dX2_taken_62 hK hP hD hS (by first | rfl | (simp only [h1, h2, Bool.true_and, Bool.false_and, Bool.and_true, Bool.and_false, Bool.true_or, Bool.or_true, Bool.false_or, Bool.or_false, Bool.not_true, Bool.not_false, decide_true, decide_false, Option.isSome, not_true_eq_false, not_false_eq_true, if_true, if_false, reduceCtorEq, ↓reduceIte]; done) | (simp only [mTakB, h1, h2, Bool.true_and, Bool.false_and, Bool.and_true, Bool.and_false, Bool.true_or, Bool.or_true, Bool.false_or, Bool.or_false, Bool.not_true, Bool.not_false, decide_true, decide_false, Option.isSome, not_true_eq_false, not_false_eq_true, if_true, if_false, reduceCtorEq, ↓reduceIte]; done) | (simp only [mTakN, h1, h2, Bool.true_and, Bool.false_and, Bool.and_true, Bool.and_false, Bool.true_or, Bool.or_true, Bool.false_or, Bool.or_false, Bool.not_true, Bool.not_false, decide_true, decide_false, Option.isSome, not_true_eq_false, not_false_eq_true, if_true, if_false, reduceCtorEq, ↓reduceIte]; done) | (simp only [mTakB, mTakN, h1, h2, Bool.true_and, Bool.false_and, Bool.and_true, Bool.and_false, Bool.true_or, Bool.or_true, Bool.false_or, Bool.or_false, Bool.not_true, Bool.not_false, decide_true, decide_false, Option.isSome, not_true_eq_false, not_false_eq_true, if_true, if_false, reduceCtorEq, ↓reduceIte]; done) | (simp only [mTakB]; simp only [h1, h2, Bool.true_and, Bool.false_and, Bool.and_true, Bool.and_false, Bool.true_or, Bool.or_true, Bool.false_or, Bool.or_false, Bool.not_true, Bool.not_false, decide_true, decide_false, Option.isSome, not_true_eq_false, not_false_eq_true, if_true, if_false, reduceCtorEq, ↓reduceIte]; done) | (simp only [mTakN]; simp only [h1, h2, Bool.true_and, Bool.false_and, Bool.and_true, Bool.and_false, Bool.true_or, Bool.or_true, Bool.false_or, Bool.or_false, Bool.not_true, Bool.not_false, decide_true, decide_false, Option.isSome, not_true_eq_false, not_false_eq_true, if_true, if_false, reduceCtorEq, ↓reduceIte]; done) | (simp only [mTakB, mTakN]; simp only [h1, h2, Bool.true_and, Bool.false_and, Bool.and_true, Bool.and_false, Bool.true_or, Bool.or_true, Bool.false_or, Bool.or_false, Bool.not_true, Bool.not_false, decide_true, decide_false, Option.isSome, not_true_eq_false, not_false_eq_true, if_true, if_false, reduceCtorEq, ↓reduceIte]; done) | (simp only [mTakB, mTakN]; simp only [h1, h2, Bool.true_and, Bool.false_and, Bool.and_true, Bool.and_false, Bool.true_or, Bool.or_true, Bool.false_or, Bool.or_false, Bool.not_true, Bool.not_false, decide_true, decide_false, Option.isSome, not_true_eq_false, not_false_eq_true, if_true, if_false, reduceCtorEq, ↓reduceIte]; rfl) | (simp only [h1, h2, Bool.true_and, Bool.false_and, Bool.and_true, Bool.and_false, Bool.true_or, Bool.or_true, Bool.false_or, Bool.or_false, Bool.not_true, Bool.not_false, decide_true, decide_false, Option.isSome, not_true_eq_false, not_false_eq_true, if_true, if_false, reduceCtorEq, ↓reduceIte]; rfl) | (simp_all [mTakB, mTakN]; done))
    · refine lv_aload_n hx hb dX2_taken_55 rfl (lv_at hl 0 rfl) ?_
      refine va_get (D := (dC, dI)) (ci := 2) (v := .ref (a 4)) (C := RX2) (T := TX2) (N := 14) hx hb hts hin_RX2 hown hK hP 0 rfl rfl 5 (by decide) hlk_22 (fun _ h9 => h9) rfl dX2_taken_56 ?_
      refine lv_iload_n hx hb dX2_taken_59 rfl (lv_at hl 1 rfl) ?_
      refine lv_iload_n hx hb dX2_taken_60 rfl (lv_at hl 2 rfl) ?_
      refine xn_st (f := (sN N 4 1 ((N 4 1) + 1)) 0) (j := c) (x := k) hx hb hK hP hD hS 5 4 rfl rfl (by omega) (by decide) dX2_taken_61 (fun H locs hP hD hS => ?_)
      have hP : va_P (dC, dI) vwCl (mw hm a cA (sB B 1 ((8 * c) + k) false, sN (sN N 4 1 ((N 4 1) + 1)) 0 c k)) H := hP
      have hD : va_D A (mw hm a cA (sB B 1 ((8 * c) + k) false, sN (sN N 4 1 ((N 4 1) + 1)) 0 c k)) := hD
      exact xc_vret (wf := mw hm a cA) hx hb hr hlocks dX2_taken_62 hK hP hD hS (by first | rfl | (simp only [h1, h2, Bool.true_and, Bool.false_and, Bool.and_true, Bool.and_false, Bool.true_or, Bool.or_true, Bool.false_or, Bool.or_false, Bool.not_true, Bool.not_false, decide_true, decide_false, Option.isSome, not_true_eq_false, not_false_eq_true, if_true, if_false, reduceCtorEq, ↓reduceIte]; done) | (simp only [mTakB, h1, h2, Bool.true_and, Bool.false_and, Bool.and_true, Bool.and_false, Bool.true_or, Bool.or_true, Bool.false_or, Bool.or_false, Bool.not_true, Bool.not_false, decide_true, decide_false, Option.isSome, not_true_eq_false, not_false_eq_true, if_true, if_false, reduceCtorEq, ↓reduceIte]; done) | (simp only [mTakN, h1, h2, Bool.true_and, Bool.false_and, Bool.and_true, Bool.and_false, Bool.true_or, Bool.or_true, Bool.false_or, Bool.or_false, Bool.not_true, Bool.not_false, decide_true, decide_false, Option.isSome, not_true_eq_false, not_false_eq_true, if_true, if_false, reduceCtorEq, ↓reduceIte]; done) | (simp only [mTakB, mTakN, h1, h2, Bool.true_and, Bool.false_and, Bool.and_true, Bool.and_false, Bool.true_or, Bool.or_true, Bool.false_or, Bool.or_false, Bool.not_true, Bool.not_false, decide_true, decide_false, Option.isSome, not_true_eq_false, not_false_eq_true, if_true, if_false, reduceCtorEq, ↓reduceIte]; done) | (simp only [mTakB]; simp only [h1, h2, Bool.true_and, Bool.false_and, Bool.and_true, Bool.and_false, Bool.true_or, Bool.or_true, Bool.false_or, Bool.or_false, Bool.not_true, Bool.not_false, decide_true, decide_false, Option.isSome, not_true_eq_false, not_false_eq_true, if_true, if_false, reduceCtorEq, ↓reduceIte]; done) | (simp only [mTakN]; simp only [h1, h2, Bool.true_and, Bool.false_and, Bool.and_true, Bool.and_false, Bool.true_or, Bool.or_true, Bool.false_or, Bool.or_false, Bool.not_true, Bool.not_false, decide_true, decide_false, Option.isSome, not_true_eq_false, not_false_eq_true, if_true, if_false, reduceCtorEq, ↓reduceIte]; done) | (simp only [mTakB, mTakN]; simp only [h1, h2, Bool.true_and, Bool.false_and, Bool.and_true, Bool.and_false, Bool.true_or, Bool.or_true, Bool.false_or, Bool.or_false, Bool.not_true, Bool.not_false, decide_true, decide_false, Option.isSome, not_true_eq_false, not_false_eq_true, if_true, if_false, reduceCtorEq, ↓reduceIte]; done) | (simp only [mTakB, mTakN]; simp only [h1, h2, Bool.true_and, Bool.false_and, Bool.and_true, Bool.and_false, Bool.true_or, Bool.or_true, Bool.false_or, Bool.or_false, Bool.not_true, Bool.not_false, decide_true, decide_false, Option.isSome, not_true_eq_false, not_false_eq_true, if_true, if_false, reduceCtorEq, ↓reduceIte]; rfl) | (simp only [h1, h2, Bool.true_and, Bool.false_and, Bool.and_true, Bool.and_false, Bool.true_or, Bool.or_true, Bool.false_or, Bool.or_false, Bool.not_true, Bool.not_false, decide_true, decide_false, Option.isSome, not_true_eq_false, not_false_eq_true, if_true, if_false, reduceCtorEq, ↓reduceIte]; rfl) | (simp_all [mTakB, mTakN]; done))
  · refine lv_aload_n hx hb dX2_taken_31 rfl (lv_at hl 0 rfl) ?_
    refine va_get (D := (dC, dI)) (ci := 2) (v := .ref (a 2)) (C := RX2) (T := TX2) (N := 14) hx hb hts hin_RX2 hown hK hP 0 rfl rfl 3 (by decide) hlk_16 (fun _ h9 => h9) rfl dX2_taken_32 ?_
    refine lv_bipush (v := nI 8) hx hb dX2_taken_35 (by decide) ?_
    refine lv_iload_n hx hb dX2_taken_37 rfl (lv_at hl 1 rfl) ?_
    refine lv_imul hx hb dX2_taken_38 ?_
    refine xi_eq (y := nI (8 * c)) (pk_mul _ _) ?_
    refine lv_iload_n hx hb dX2_taken_39 rfl (lv_at hl 2 rfl) ?_
    refine lv_iadd hx hb dX2_taken_40 ?_
    refine xi_eq (y := nI ((8 * c) + k)) (nI_add _ _) ?_
    refine lv_iconst (v := nI 1) hx hb dX2_taken_41 (by decide) ?_
    refine xz_st (f := (sB B 1 ((8 * c) + k) false) 2) (j := ((8 * c) + k)) (b := true) hx hb hK hP hD hS 3 2 rfl rfl (by omega) (by decide) dX2_taken_42 (fun H locs hP hD hS => ?_)
    have hP : va_P (dC, dI) vwCl (mw hm a cA (sB (sB B 1 ((8 * c) + k) false) 2 ((8 * c) + k) true, sN N 4 1 ((N 4 1) + 1))) H := hP
    have hD : va_D A (mw hm a cA (sB (sB B 1 ((8 * c) + k) false) 2 ((8 * c) + k) true, sN N 4 1 ((N 4 1) + 1))) := hD
    refine lv_goto (tgt := 62) hx hb dX2_taken_43 (by decide) ?_
    exact xc_vret (wf := mw hm a cA) hx hb hr hlocks dX2_taken_62 hK hP hD hS (by first | rfl | (simp only [h1, Bool.true_and, Bool.false_and, Bool.and_true, Bool.and_false, Bool.true_or, Bool.or_true, Bool.false_or, Bool.or_false, Bool.not_true, Bool.not_false, decide_true, decide_false, Option.isSome, not_true_eq_false, not_false_eq_true, if_true, if_false, reduceCtorEq, ↓reduceIte]; done) | (simp only [mTakB, h1, Bool.true_and, Bool.false_and, Bool.and_true, Bool.and_false, Bool.true_or, Bool.or_true, Bool.false_or, Bool.or_false, Bool.not_true, Bool.not_false, decide_true, decide_false, Option.isSome, not_true_eq_false, not_false_eq_true, if_true, if_false, reduceCtorEq, ↓reduceIte]; done) | (simp only [mTakN, h1, Bool.true_and, Bool.false_and, Bool.and_true, Bool.and_false, Bool.true_or, Bool.or_true, Bool.false_or, Bool.or_false, Bool.not_true, Bool.not_false, decide_true, decide_false, Option.isSome, not_true_eq_false, not_false_eq_true, if_true, if_false, reduceCtorEq, ↓reduceIte]; done) | (simp only [mTakB, mTakN, h1, Bool.true_and, Bool.false_and, Bool.and_true, Bool.and_false, Bool.true_or, Bool.or_true, Bool.false_or, Bool.or_false, Bool.not_true, Bool.not_false, decide_true, decide_false, Option.isSome, not_true_eq_false, not_false_eq_true, if_true, if_false, reduceCtorEq, ↓reduceIte]; done) | (simp only [mTakB]; simp only [h1, Bool.true_and, Bool.false_and, Bool.and_true, Bool.and_false, Bool.true_or, Bool.or_true, Bool.false_or, Bool.or_false, Bool.not_true, Bool.not_false, decide_true, decide_false, Option.isSome, not_true_eq_false, not_false_eq_true, if_true, if_false, reduceCtorEq, ↓reduceIte]; done) | (simp only [mTakN]; simp only [h1, Bool.true_and, Bool.false_and, Bool.and_true, Bool.and_false, Bool.true_or, Bool.or_true, Bool.false_or, Bool.or_false, Bool.not_true, Bool.not_false, decide_true, decide_false, Option.isSome, not_true_eq_false, not_false_eq_true, if_true, if_false, reduceCtorEq, ↓reduceIte]; done) | (simp only [mTakB, mTakN]; simp only [h1, Bool.true_and, Bool.false_and, Bool.and_true, Bool.and_false, Bool.true_or, Bool.or_true, Bool.false_or, Bool.or_false, Bool.not_true, Bool.not_false, decide_true, decide_false, Option.isSome, not_true_eq_false, not_false_eq_true, if_true, if_false, reduceCtorEq, ↓reduceIte]; done) | (simp only [mTakB, mTakN]; simp only [h1, Bool.true_and, Bool.false_and, Bool.and_true, Bool.and_false, Bool.true_or, Bool.or_true, Bool.false_or, Bool.or_false, Bool.not_true, Bool.not_false, decide_true, decide_false, Option.isSome, not_true_eq_false, not_false_eq_true, if_true, if_false, reduceCtorEq, ↓reduceIte]; rfl) | (simp only [h1, Bool.true_and, Bool.false_and, Bool.and_true, Bool.and_false, Bool.true_or, Bool.or_true, Bool.false_or, Bool.or_false, Bool.not_true, Bool.not_false, decide_true, decide_false, Option.isSome, not_true_eq_false, not_false_eq_true, if_true, if_false, reduceCtorEq, ↓reduceIte]; rfl) | (simp_all [mTakB, mTakN]; done))

