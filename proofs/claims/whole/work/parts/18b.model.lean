set_option maxHeartbeats 4000000 in
set_option maxRecDepth 100000 in
theorem c2_read_ok1 (l : Launch) (dC : Nat → ClassId) (dI : Nat → Nat → Nat) (hm : Nat) (a : Nat → Nat) (cA : Nat → ClassId) (sz : Nat) (B : Nat → Nat → Bool) (N : Nat → Nat → Nat) (c : Nat) (hc : c < 2) : xc_M l yX2_read wsX2_read ({ frames := 4, cells := 0, slots := 0, locals := 89 }) [.ref hm, .int (nI c), .int (nI 1)] sz (dC, dI) vwCl (mtys cA) [] (mw hm a cA (B, N)) (some (.int (nI (mBits (mSel B c 2) 8)))) (mw hm a cA (B, sN N 4 0 0)) 0 0 := by
  refine Met.ofW (cc := cX2_read) (maxL := 4) (ret := (some .int)) (by decide) rfl ?_
  intro p e s m args below meth cd s₁ B₀ hml hv
  obtain ⟨rfl, hsz, hP, hK, hD0, hZ⟩ := hv
  have hx := B₀.exec
  have hb := B₀.bytes
  have hr := B₀.returns
  have hts := atoms_spec (ws := wsX2_read) B₀.pre
  have hown : s.vm.findClass RX2 = some m.cls := findClass_of_methodNamed B₀.named
  have hlocks := B₀.notSynchronized
  subst hsz
  have hD := hD0.self (sz := s.heap.size)
  generalize hAe : va_A (mw hm a cA (B, N)) s.heap.size = A at hD ⊢
  have hA : ∀ q : Nat, s.heap.size ≤ q → A q := fun q h => by rw [← hAe]; exact Or.inr h
  have hS : va_S A s.heap s.heap [] := va_S.rf
  have hin_RX2 : ∀ w ∈ u_ws RX2 TX2 14, w ∈ wsX2_read := fun w h => List.mem_cons_of_mem _ (u_X2 w h)
  have hlk_32 := hts _ (List.mem_cons_of_mem _ k_fl_X2_32)
  have hlk_35 := hts _ (List.mem_cons_of_mem _ k_fl_X2_35)
  have hl := lv_entry ([.ref hm, .int (nI c), .int (nI 1)]) (n := 4) (Nat.le_of_ble_eq_true rfl)
  rw [lg_entry_eq]
  generalize (lg_sl ([.ref hm, .int (nI c), .int (nI 1)]) ++ List.replicate (4 - (lg_sl ([.ref hm, .int (nI c), .int (nI 1)])).length) Slot.unset).toArray = ls at hl ⊢
  have hl : lv_has ls 4 [(0, .ref hm), (1, .int (nI c)), (2, .int (nI 1))] := hl
  refine lv_aload_n hx hb dX2_read_0 rfl (lv_at hl 0 rfl) ?_
  refine lv_iload_n hx hb dX2_read_1 rfl (lv_at hl 1 rfl) ?_
  refine xr_call (st1 := [.int (bI (mIsC (nI c))), .ref hm]) (W.runS (As := [.int (nI c)]) (rest := [.ref hm]) ⟨hx, hb, hml, hown, hts⟩ (c2_isController l dC dI (nI c)) (cwS 1 hts (gd_S wa_c k_ml_X2_87 k_st_X2_isController k_in_X2 k_co_X2_isController) rfl rfl rfl (by decide +kernel) ⟨Nat.le_of_ble_eq_true rfl, Nat.le_of_ble_eq_true rfl⟩) (xr_preS (hK.sub (tys' := []) [] rfl) (hP.sub (ws' := []) [] rfl) xz_Z.nil) rfl rfl hl.1 rfl (lv_room (Nat.le_of_ble_eq_true rfl)) dX2_read_2 ⟨Nat.zero_le _, Nat.zero_le _⟩) rfl ?_
  refine xi_eq (y := bI true) (congrArg bI (mIsC_ok hc)) ?_
  refine xb_if_eq (b := true) (tgt := 21) hx hb dX2_read_5 (by decide) (fun h => absurd (h.symm.trans rfl) (by decide)) (fun _ => ?_)
  refine lv_iload_n hx hb dX2_read_8 rfl (lv_at hl 2 rfl) ?_
  refine xn_if_eq (x := 1) (tgt := 17) (by omega) hx hb dX2_read_9 (by decide) (fun h => absurd h (by decide)) (fun _ => ?_)
  refine lv_iload_n hx hb dX2_read_12 rfl (lv_at hl 2 rfl) ?_
  refine lv_iconst (v := nI 1) hx hb dX2_read_13 (by decide) ?_
  refine xn_icmp_ne (x := 1) (y := 1) (tgt := 21) (by omega) (by omega) hx hb dX2_read_14 (by decide) (fun h => absurd (by decide) h) (fun _ => ?_)
  refine lv_iconst (v := nI 1) hx hb dX2_read_17 (by decide) ?_
  refine lv_goto (tgt := 22) hx hb dX2_read_18 (by decide) ?_
  refine lv_iconst (v := nI 1) hx hb dX2_read_22 (by decide) ?_
  refine xc_call (wc := mw hm a cA (B, N)) (wr := []) (st1 := [.int (bI true)]) (va_runV (As := [.int (bI true), .int (bI true)]) (rest := []) ⟨hx, hb, hml, hown, hts⟩ (c2_goes l dC dI hm a cA s.heap.size B N true true) (cwV 2 hts (gd_V wa_c k_ml_X2_70 k_im_X2_goes k_se_X2_goes k_in_X2 k_co_X2_goes) rfl rfl rfl (by decide +kernel) ⟨Nat.le_of_ble_eq_true rfl, Nat.le_of_ble_eq_true rfl⟩) (xc_preV (q0 := 0) (C := RX2) hK hP hD xz_Z.nil rfl rfl) rfl rfl hl.1 rfl (lv_room (Nat.le_of_ble_eq_true rfl)) dX2_read_23 ⟨Nat.zero_le _, Nat.zero_le _⟩) hP hD hS hA [0, 1, 2, 3, 4, 5, 6, 7, 8, 9, 10] [] rfl rfl (by decide) (by decide) rfl (fun H locs hP hD hS _ => ?_)
  have hP : va_P (dC, dI) vwCl (mw hm a cA (B, sN N 4 0 0)) H := hP
  have hD : va_D A (mw hm a cA (B, sN N 4 0 0)) := hD
  refine xb_if_ne (b := true) (tgt := 31) hx hb dX2_read_26 (by decide) (fun _ => ?_) (fun h => absurd (h.symm.trans rfl) (by decide))
  refine lv_iload_n hx hb dX2_read_31 rfl (lv_at hl 2 rfl) ?_
  refine lv_iconst (v := nI 1) hx hb dX2_read_32 (by decide) ?_
  refine xn_icmp_ne (x := 1) (y := 1) (tgt := 43) (by omega) (by omega) hx hb dX2_read_33 (by decide) (fun h => absurd (by decide) h) (fun _ => ?_)
  refine lv_aload_n hx hb dX2_read_36 rfl (lv_at hl 0 rfl) ?_
  refine lv_iload_n hx hb dX2_read_37 rfl (lv_at hl 1 rfl) ?_
  refine lv_iconst (v := nI 2) hx hb dX2_read_38 (by decide) ?_
  refine xr_call (st1 := [.int (nI (mBits (mSel B c 2) 8))]) (W.runV (As := [.int (nI c), .int (nI 2)]) (rest := []) ⟨hx, hb, hml, hown, hts⟩ (c2_bits l dC dI hm a cA B (sN N 4 0 0) c 2 (by omega) (by omega)) (cwV 2 hts (gd_V wa_c k_ml_X2_104 k_im_X2_bits k_se_X2_bits k_in_X2 k_co_X2_bits) rfl rfl rfl (by decide +kernel) ⟨Nat.le_of_ble_eq_true rfl, Nat.le_of_ble_eq_true rfl⟩) (xr_preV (q0 := 0) (C := RX2) hK hP xz_Z.nil rfl rfl) rfl rfl hl.1 rfl (lv_room (Nat.le_of_ble_eq_true rfl)) dX2_read_39 ⟨Nat.zero_le _, Nat.zero_le _⟩) rfl ?_
  exact xc_iret (wf := mw hm a cA) hx hb hr hlocks dX2_read_42 hK hP hD hS  (congrArg nI (show mBits (mSel B c 2) 8 = _ from (by first | rfl | (simp only [(mIsC_ok hc), Bool.true_and, Bool.false_and, Bool.and_true, Bool.and_false, Bool.true_or, Bool.or_true, Bool.false_or, Bool.or_false, Bool.not_true, Bool.not_false, decide_true, decide_false, Option.isSome, not_true_eq_false, not_false_eq_true, if_true, if_false, reduceCtorEq, ↓reduceIte]; done) | (simp only [(mIsC_ok hc), Bool.true_and, Bool.false_and, Bool.and_true, Bool.and_false, Bool.true_or, Bool.or_true, Bool.false_or, Bool.or_false, Bool.not_true, Bool.not_false, decide_true, decide_false, Option.isSome, not_true_eq_false, not_false_eq_true, if_true, if_false, reduceCtorEq, ↓reduceIte]; rfl) | (simp_all; done)))) (by first | rfl | (simp only [(mIsC_ok hc), Bool.true_and, Bool.false_and, Bool.and_true, Bool.and_false, Bool.true_or, Bool.or_true, Bool.false_or, Bool.or_false, Bool.not_true, Bool.not_false, decide_true, decide_false, Option.isSome, not_true_eq_false, not_false_eq_true, if_true, if_false, reduceCtorEq, ↓reduceIte]; done) | (simp only [(mIsC_ok hc), Bool.true_and, Bool.false_and, Bool.and_true, Bool.and_false, Bool.true_or, Bool.or_true, Bool.false_or, Bool.or_false, Bool.not_true, Bool.not_false, decide_true, decide_false, Option.isSome, not_true_eq_false, not_false_eq_true, if_true, if_false, reduceCtorEq, ↓reduceIte]; rfl) | (simp_all; done))

set_option maxHeartbeats 4000000 in
set_option maxRecDepth 100000 in
theorem c2_read_ok0 (l : Launch) (dC : Nat → ClassId) (dI : Nat → Nat → Nat) (hm : Nat) (a : Nat → Nat) (cA : Nat → ClassId) (sz : Nat) (B : Nat → Nat → Bool) (N : Nat → Nat → Nat) (c : Nat) (hc : c < 2) (hN : ∀ c, c < 2 → N 0 c < 8) (hN3 : N 3 c < 2) : xc_M l yX2_read wsX2_read ({ frames := 4, cells := 0, slots := 0, locals := 89 }) [.ref hm, .int (nI c), .int (nI 0)] sz (dC, dI) vwCl (mtys cA) [] (mw hm a cA (B, N)) (some (.int (nI (mRdR B (sN N 4 0 0) c)))) (mw hm a cA ((mRd B (sN N 4 0 0) c).1, (mRd B (sN N 4 0 0) c).2)) 0 0 := by
  refine Met.ofW (cc := cX2_read) (maxL := 4) (ret := (some .int)) (by decide) rfl ?_
  intro p e s m args below meth cd s₁ B₀ hml hv
  obtain ⟨rfl, hsz, hP, hK, hD0, hZ⟩ := hv
  have hx := B₀.exec
  have hb := B₀.bytes
  have hr := B₀.returns
  have hts := atoms_spec (ws := wsX2_read) B₀.pre
  have hown : s.vm.findClass RX2 = some m.cls := findClass_of_methodNamed B₀.named
  have hlocks := B₀.notSynchronized
  subst hsz
  have hD := hD0.self (sz := s.heap.size)
  generalize hAe : va_A (mw hm a cA (B, N)) s.heap.size = A at hD ⊢
  have hA : ∀ q : Nat, s.heap.size ≤ q → A q := fun q h => by rw [← hAe]; exact Or.inr h
  have hS : va_S A s.heap s.heap [] := va_S.rf
  have hin_RX2 : ∀ w ∈ u_ws RX2 TX2 14, w ∈ wsX2_read := fun w h => List.mem_cons_of_mem _ (u_X2 w h)
  have hlk_32 := hts _ (List.mem_cons_of_mem _ k_fl_X2_32)
  have hlk_35 := hts _ (List.mem_cons_of_mem _ k_fl_X2_35)
  have hl := lv_entry ([.ref hm, .int (nI c), .int (nI 0)]) (n := 4) (Nat.le_of_ble_eq_true rfl)
  rw [lg_entry_eq]
  generalize (lg_sl ([.ref hm, .int (nI c), .int (nI 0)]) ++ List.replicate (4 - (lg_sl ([.ref hm, .int (nI c), .int (nI 0)])).length) Slot.unset).toArray = ls at hl ⊢
  have hl : lv_has ls 4 [(0, .ref hm), (1, .int (nI c)), (2, .int (nI 0))] := hl
  refine lv_aload_n hx hb dX2_read_0 rfl (lv_at hl 0 rfl) ?_
  refine lv_iload_n hx hb dX2_read_1 rfl (lv_at hl 1 rfl) ?_
  refine xr_call (st1 := [.int (bI (mIsC (nI c))), .ref hm]) (W.runS (As := [.int (nI c)]) (rest := [.ref hm]) ⟨hx, hb, hml, hown, hts⟩ (c2_isController l dC dI (nI c)) (cwS 1 hts (gd_S wa_c k_ml_X2_87 k_st_X2_isController k_in_X2 k_co_X2_isController) rfl rfl rfl (by decide +kernel) ⟨Nat.le_of_ble_eq_true rfl, Nat.le_of_ble_eq_true rfl⟩) (xr_preS (hK.sub (tys' := []) [] rfl) (hP.sub (ws' := []) [] rfl) xz_Z.nil) rfl rfl hl.1 rfl (lv_room (Nat.le_of_ble_eq_true rfl)) dX2_read_2 ⟨Nat.zero_le _, Nat.zero_le _⟩) rfl ?_
  refine xi_eq (y := bI true) (congrArg bI (mIsC_ok hc)) ?_
  refine xb_if_eq (b := true) (tgt := 21) hx hb dX2_read_5 (by decide) (fun h => absurd (h.symm.trans rfl) (by decide)) (fun _ => ?_)
  refine lv_iload_n hx hb dX2_read_8 rfl (lv_at hl 2 rfl) ?_
  refine xn_if_eq (x := 0) (tgt := 17) (by omega) hx hb dX2_read_9 (by decide) (fun _ => ?_) (fun h => absurd (by decide) h)
  refine lv_iconst (v := nI 1) hx hb dX2_read_17 (by decide) ?_
  refine lv_goto (tgt := 22) hx hb dX2_read_18 (by decide) ?_
  refine lv_iconst (v := nI 1) hx hb dX2_read_22 (by decide) ?_
  refine xc_call (wc := mw hm a cA (B, N)) (wr := []) (st1 := [.int (bI true)]) (va_runV (As := [.int (bI true), .int (bI true)]) (rest := []) ⟨hx, hb, hml, hown, hts⟩ (c2_goes l dC dI hm a cA s.heap.size B N true true) (cwV 2 hts (gd_V wa_c k_ml_X2_70 k_im_X2_goes k_se_X2_goes k_in_X2 k_co_X2_goes) rfl rfl rfl (by decide +kernel) ⟨Nat.le_of_ble_eq_true rfl, Nat.le_of_ble_eq_true rfl⟩) (xc_preV (q0 := 0) (C := RX2) hK hP hD xz_Z.nil rfl rfl) rfl rfl hl.1 rfl (lv_room (Nat.le_of_ble_eq_true rfl)) dX2_read_23 ⟨Nat.zero_le _, Nat.zero_le _⟩) hP hD hS hA [0, 1, 2, 3, 4, 5, 6, 7, 8, 9, 10] [] rfl rfl (by decide) (by decide) rfl (fun H locs hP hD hS _ => ?_)
  have hP : va_P (dC, dI) vwCl (mw hm a cA (B, sN N 4 0 0)) H := hP
  have hD : va_D A (mw hm a cA (B, sN N 4 0 0)) := hD
  refine xb_if_ne (b := true) (tgt := 31) hx hb dX2_read_26 (by decide) (fun _ => ?_) (fun h => absurd (h.symm.trans rfl) (by decide))
  refine lv_iload_n hx hb dX2_read_31 rfl (lv_at hl 2 rfl) ?_
  refine lv_iconst (v := nI 1) hx hb dX2_read_32 (by decide) ?_
  refine xn_icmp_ne (x := 0) (y := 1) (tgt := 43) (by omega) (by omega) hx hb dX2_read_33 (by decide) (fun _ => ?_) (fun h => absurd h (by decide))
  refine lv_aload_n hx hb dX2_read_43 rfl (lv_at hl 0 rfl) ?_
  refine lv_iload_n hx hb dX2_read_44 rfl (lv_at hl 1 rfl) ?_
  refine lv_bipush (v := nI 6) hx hb dX2_read_45 (by decide) ?_
  refine xr_call (st1 := [.int (bI (B 4 (7 * c + 6)))]) (W.runV (As := [.int (nI c), .int (nI 6)]) (rest := []) ⟨hx, hb, hml, hown, hts⟩ (c2_is l dC dI hm a cA B (sN N 4 0 0) c 6 (by omega)) (cwV 2 hts (gd_V wa_c k_ml_X2_45 k_im_X2_is k_se_X2_is k_in_X2 k_co_X2_is) rfl rfl rfl (by decide +kernel) ⟨Nat.le_of_ble_eq_true rfl, Nat.le_of_ble_eq_true rfl⟩) (xr_preV (q0 := 0) (C := RX2) hK hP xz_Z.nil rfl rfl) rfl rfl hl.1 rfl (lv_room (Nat.le_of_ble_eq_true rfl)) dX2_read_47 ⟨Nat.zero_le _, Nat.zero_le _⟩) rfl ?_
  refine xb_if_ne (b := B 4 (7 * c + 6)) (tgt := 65) hx hb dX2_read_50 (by decide) (fun h1 => ?_) (fun h1 => ?_)
  · refine lv_aload_n hx hb dX2_read_65 rfl (lv_at hl 0 rfl) ?_
    refine va_get (D := (dC, dI)) (ci := 2) (v := .ref (a 8)) (C := RX2) (T := TX2) (N := 14) hx hb hts hin_RX2 hown hK hP 0 rfl rfl 9 (by decide) hlk_35 (fun _ h9 => h9) rfl dX2_read_66 ?_
    refine lv_bipush (v := nI 7) hx hb dX2_read_69 (by decide) ?_
    refine lv_iload_n hx hb dX2_read_71 rfl (lv_at hl 1 rfl) ?_
    refine lv_imul hx hb dX2_read_72 ?_
    refine xi_eq (y := nI (7 * c)) (pk_mul _ _) ?_
    refine lv_bipush (v := nI 6) hx hb dX2_read_73 (by decide) ?_
    refine lv_iadd hx hb dX2_read_75 ?_
    refine xi_eq (y := nI ((7 * c) + 6)) (nI_add _ _) ?_
    refine lv_iconst (v := nI 0) hx hb dX2_read_76 (by decide) ?_
    refine xz_st (f := B 4) (j := ((7 * c) + 6)) (b := false) hx hb hK hP hD hS 9 8 rfl rfl (by omega) (by decide) dX2_read_77 (fun H locs hP hD hS => ?_)
    have hP : va_P (dC, dI) vwCl (mw hm a cA (sB B 4 ((7 * c) + 6) false, sN N 4 0 0)) H := hP
    have hD : va_D A (mw hm a cA (sB B 4 ((7 * c) + 6) false, sN N 4 0 0)) := hD
    refine lv_aload_n hx hb dX2_read_78 rfl (lv_at hl 0 rfl) ?_
    refine lv_iload_n hx hb dX2_read_79 rfl (lv_at hl 1 rfl) ?_
    refine xr_call (st1 := [.int (oI (mDel (sB B 4 ((7 * c) + 6) false) (sN N 4 0 0) c))]) (W.runV (As := [.int (nI c)]) (rest := []) ⟨hx, hb, hml, hown, hts⟩ (c2_delivered l dC dI hm a cA (sB B 4 ((7 * c) + 6) false) (sN N 4 0 0) c (by omega) hN) (cwV 1 hts (gd_V wa_c k_ml_X2_59 k_im_X2_delivered k_se_X2_delivered k_in_X2 k_co_X2_delivered) rfl rfl rfl (by decide +kernel) ⟨Nat.le_of_ble_eq_true rfl, Nat.le_of_ble_eq_true rfl⟩) (xr_preV (q0 := 0) (C := RX2) hK hP xz_Z.nil rfl rfl) rfl rfl hl.1 rfl (lv_room (Nat.le_of_ble_eq_true rfl)) dX2_read_80 ⟨Nat.zero_le _, Nat.zero_le _⟩) rfl ?_
    rcases h2 : mDel (sB B 4 ((7 * c) + 6) false) (sN N 4 0 0) c with _ | k2
    · refine lv_istore_n (lv' := [(3, .int (-1)), (0, .ref hm), (1, .int (nI c)), (2, .int (nI 0))]) hx hb dX2_read_83 rfl hl (by decide) rfl (fun ls hl => ?_)
      refine lv_iload_n hx hb dX2_read_84 rfl (lv_at hl 0 rfl) ?_
      refine lv_iconst (v := -1) hx hb dX2_read_85 (by decide) ?_
      refine lv_icmp_ne (tgt := 91) hx hb dX2_read_86 (by decide) (fun h => absurd rfl h) (fun _ => ?_)
      refine lv_iconst (v := nI 0) hx hb dX2_read_89 (by decide) ?_
      exact xc_iret (wf := mw hm a cA) hx hb hr hlocks dX2_read_90 hK hP hD hS  (congrArg nI (show 0 = _ from (by first | rfl | (simp only [(mIsC_ok hc), h1, h2, Bool.true_and, Bool.false_and, Bool.and_true, Bool.and_false, Bool.true_or, Bool.or_true, Bool.false_or, Bool.or_false, Bool.not_true, Bool.not_false, decide_true, decide_false, Option.isSome, not_true_eq_false, not_false_eq_true, if_true, if_false, reduceCtorEq, ↓reduceIte]; done) | (simp only [mRdR, (mIsC_ok hc), h1, h2, Bool.true_and, Bool.false_and, Bool.and_true, Bool.and_false, Bool.true_or, Bool.or_true, Bool.false_or, Bool.or_false, Bool.not_true, Bool.not_false, decide_true, decide_false, Option.isSome, not_true_eq_false, not_false_eq_true, if_true, if_false, reduceCtorEq, ↓reduceIte]; done) | (simp only [mRd, (mIsC_ok hc), h1, h2, Bool.true_and, Bool.false_and, Bool.and_true, Bool.and_false, Bool.true_or, Bool.or_true, Bool.false_or, Bool.or_false, Bool.not_true, Bool.not_false, decide_true, decide_false, Option.isSome, not_true_eq_false, not_false_eq_true, if_true, if_false, reduceCtorEq, ↓reduceIte]; done) | (simp only [mRdR, mRd, (mIsC_ok hc), h1, h2, Bool.true_and, Bool.false_and, Bool.and_true, Bool.and_false, Bool.true_or, Bool.or_true, Bool.false_or, Bool.or_false, Bool.not_true, Bool.not_false, decide_true, decide_false, Option.isSome, not_true_eq_false, not_false_eq_true, if_true, if_false, reduceCtorEq, ↓reduceIte]; done) | (simp only [mRdR]; simp only [(mIsC_ok hc), h1, h2, Bool.true_and, Bool.false_and, Bool.and_true, Bool.and_false, Bool.true_or, Bool.or_true, Bool.false_or, Bool.or_false, Bool.not_true, Bool.not_false, decide_true, decide_false, Option.isSome, not_true_eq_false, not_false_eq_true, if_true, if_false, reduceCtorEq, ↓reduceIte]; done) | (simp only [mRd]; simp only [(mIsC_ok hc), h1, h2, Bool.true_and, Bool.false_and, Bool.and_true, Bool.and_false, Bool.true_or, Bool.or_true, Bool.false_or, Bool.or_false, Bool.not_true, Bool.not_false, decide_true, decide_false, Option.isSome, not_true_eq_false, not_false_eq_true, if_true, if_false, reduceCtorEq, ↓reduceIte]; done) | (simp only [mRdR, mRd]; simp only [(mIsC_ok hc), h1, h2, Bool.true_and, Bool.false_and, Bool.and_true, Bool.and_false, Bool.true_or, Bool.or_true, Bool.false_or, Bool.or_false, Bool.not_true, Bool.not_false, decide_true, decide_false, Option.isSome, not_true_eq_false, not_false_eq_true, if_true, if_false, reduceCtorEq, ↓reduceIte]; done) | (simp only [mRdR, mRd]; simp only [(mIsC_ok hc), h1, h2, Bool.true_and, Bool.false_and, Bool.and_true, Bool.and_false, Bool.true_or, Bool.or_true, Bool.false_or, Bool.or_false, Bool.not_true, Bool.not_false, decide_true, decide_false, Option.isSome, not_true_eq_false, not_false_eq_true, if_true, if_false, reduceCtorEq, ↓reduceIte]; rfl) | (simp only [(mIsC_ok hc), h1, h2, Bool.true_and, Bool.false_and, Bool.and_true, Bool.and_false, Bool.true_or, Bool.or_true, Bool.false_or, Bool.or_false, Bool.not_true, Bool.not_false, decide_true, decide_false, Option.isSome, not_true_eq_false, not_false_eq_true, if_true, if_false, reduceCtorEq, ↓reduceIte]; rfl) | (simp_all [mRdR, mRd]; done)))) (by first | rfl | (simp only [(mIsC_ok hc), h1, h2, Bool.true_and, Bool.false_and, Bool.and_true, Bool.and_false, Bool.true_or, Bool.or_true, Bool.false_or, Bool.or_false, Bool.not_true, Bool.not_false, decide_true, decide_false, Option.isSome, not_true_eq_false, not_false_eq_true, if_true, if_false, reduceCtorEq, ↓reduceIte]; done) | (simp only [mRdR, (mIsC_ok hc), h1, h2, Bool.true_and, Bool.false_and, Bool.and_true, Bool.and_false, Bool.true_or, Bool.or_true, Bool.false_or, Bool.or_false, Bool.not_true, Bool.not_false, decide_true, decide_false, Option.isSome, not_true_eq_false, not_false_eq_true, if_true, if_false, reduceCtorEq, ↓reduceIte]; done) | (simp only [mRd, (mIsC_ok hc), h1, h2, Bool.true_and, Bool.false_and, Bool.and_true, Bool.and_false, Bool.true_or, Bool.or_true, Bool.false_or, Bool.or_false, Bool.not_true, Bool.not_false, decide_true, decide_false, Option.isSome, not_true_eq_false, not_false_eq_true, if_true, if_false, reduceCtorEq, ↓reduceIte]; done) | (simp only [mRdR, mRd, (mIsC_ok hc), h1, h2, Bool.true_and, Bool.false_and, Bool.and_true, Bool.and_false, Bool.true_or, Bool.or_true, Bool.false_or, Bool.or_false, Bool.not_true, Bool.not_false, decide_true, decide_false, Option.isSome, not_true_eq_false, not_false_eq_true, if_true, if_false, reduceCtorEq, ↓reduceIte]; done) | (simp only [mRdR]; simp only [(mIsC_ok hc), h1, h2, Bool.true_and, Bool.false_and, Bool.and_true, Bool.and_false, Bool.true_or, Bool.or_true, Bool.false_or, Bool.or_false, Bool.not_true, Bool.not_false, decide_true, decide_false, Option.isSome, not_true_eq_false, not_false_eq_true, if_true, if_false, reduceCtorEq, ↓reduceIte]; done) | (simp only [mRd]; simp only [(mIsC_ok hc), h1, h2, Bool.true_and, Bool.false_and, Bool.and_true, Bool.and_false, Bool.true_or, Bool.or_true, Bool.false_or, Bool.or_false, Bool.not_true, Bool.not_false, decide_true, decide_false, Option.isSome, not_true_eq_false, not_false_eq_true, if_true, if_false, reduceCtorEq, ↓reduceIte]; done) | (simp only [mRdR, mRd]; simp only [(mIsC_ok hc), h1, h2, Bool.true_and, Bool.false_and, Bool.and_true, Bool.and_false, Bool.true_or, Bool.or_true, Bool.false_or, Bool.or_false, Bool.not_true, Bool.not_false, decide_true, decide_false, Option.isSome, not_true_eq_false, not_false_eq_true, if_true, if_false, reduceCtorEq, ↓reduceIte]; done) | (simp only [mRdR, mRd]; simp only [(mIsC_ok hc), h1, h2, Bool.true_and, Bool.false_and, Bool.and_true, Bool.and_false, Bool.true_or, Bool.or_true, Bool.false_or, Bool.or_false, Bool.not_true, Bool.not_false, decide_true, decide_false, Option.isSome, not_true_eq_false, not_false_eq_true, if_true, if_false, reduceCtorEq, ↓reduceIte]; rfl) | (simp only [(mIsC_ok hc), h1, h2, Bool.true_and, Bool.false_and, Bool.and_true, Bool.and_false, Bool.true_or, Bool.or_true, Bool.false_or, Bool.or_false, Bool.not_true, Bool.not_false, decide_true, decide_false, Option.isSome, not_true_eq_false, not_false_eq_true, if_true, if_false, reduceCtorEq, ↓reduceIte]; rfl) | (simp_all [mRdR, mRd]; done))
    · have h2l : k2 < 8 := mDel_lt h2
      refine lv_istore_n (lv' := [(3, .int (nI k2)), (0, .ref hm), (1, .int (nI c)), (2, .int (nI 0))]) hx hb dX2_read_83 rfl hl (by decide) rfl (fun ls hl => ?_)
      refine lv_iload_n hx hb dX2_read_84 rfl (lv_at hl 0 rfl) ?_
      refine lv_iconst (v := -1) hx hb dX2_read_85 (by decide) ?_
      refine lv_icmp_ne (tgt := 91) hx hb dX2_read_86 (by decide) (fun _ => ?_) (fun h => absurd h (xn_m1 (by omega)))
      refine lv_aload_n hx hb dX2_read_91 rfl (lv_at hl 1 rfl) ?_
      refine lv_iload_n hx hb dX2_read_92 rfl (lv_at hl 2 rfl) ?_
      refine lv_iload_n hx hb dX2_read_93 rfl (lv_at hl 0 rfl) ?_
      refine xc_call (wc := mw hm a cA (sB B 4 ((7 * c) + 6) false, sN N 4 0 0)) (wr := []) (st1 := []) (va_runV (As := [.int (nI c), .int (nI k2)]) (rest := []) ⟨hx, hb, hml, hown, hts⟩ (c2_taken l dC dI hm a cA H.size (sB B 4 ((7 * c) + 6) false) (sN N 4 0 0) c k2 (by omega) (by omega)) (cwV 2 hts (gd_V wa_c k_ml_X2_107 k_im_X2_taken k_se_X2_taken k_in_X2 k_co_X2_taken) rfl rfl rfl (by decide +kernel) ⟨Nat.le_of_ble_eq_true rfl, Nat.le_of_ble_eq_true rfl⟩) (xc_preV (q0 := 0) (C := RX2) hK hP hD xz_Z.nil rfl rfl) rfl rfl hl.1 rfl (lv_room (Nat.le_of_ble_eq_true rfl)) dX2_read_94 ⟨Nat.zero_le _, Nat.zero_le _⟩) hP hD hS hA [0, 1, 2, 3, 4, 5, 6, 7, 8, 9, 10] [] rfl rfl (by decide) (by decide) rfl (fun H locs hP hD hS _ => ?_)
      have hP : va_P (dC, dI) vwCl (mw hm a cA (mTakB (sB B 4 ((7 * c) + 6) false) c k2, mTakN (sB B 4 ((7 * c) + 6) false) (sN N 4 0 0) c k2)) H := hP
      have hD : va_D A (mw hm a cA (mTakB (sB B 4 ((7 * c) + 6) false) c k2, mTakN (sB B 4 ((7 * c) + 6) false) (sN N 4 0 0) c k2)) := hD
      refine lv_aload_n hx hb dX2_read_97 rfl (lv_at hl 1 rfl) ?_
      refine xc_call (wc := mw hm a cA (mTakB (sB B 4 ((7 * c) + 6) false) c k2, mTakN (sB B 4 ((7 * c) + 6) false) (sN N 4 0 0) c k2)) (wr := []) (st1 := []) (va_runV (As := []) (rest := []) ⟨hx, hb, hml, hown, hts⟩ (c2_follow l dC dI hm a cA H.size (mTakB (sB B 4 ((7 * c) + 6) false) c k2) (mTakN (sB B 4 ((7 * c) + 6) false) (sN N 4 0 0) c k2) (mTak_lt (by omega) hN)) (cwV 0 hts (gd_V wa_c k_ml_X2_74 k_im_X2_follow k_se_X2_follow k_in_X2 k_co_X2_follow) rfl rfl rfl (by decide +kernel) ⟨Nat.le_of_ble_eq_true rfl, Nat.le_of_ble_eq_true rfl⟩) (xc_preV (q0 := 0) (C := RX2) hK hP hD xz_Z.nil rfl rfl) rfl rfl hl.1 rfl (lv_room (Nat.le_of_ble_eq_true rfl)) dX2_read_98 ⟨Nat.zero_le _, Nat.zero_le _⟩) hP hD hS hA [0, 1, 2, 3, 4, 5, 6, 7, 8, 9, 10] [] rfl rfl (by decide) (by decide) rfl (fun H locs hP hD hS _ => ?_)
      have hP : va_P (dC, dI) vwCl (mw hm a cA (mFol (mTakB (sB B 4 ((7 * c) + 6) false) c k2) (mTakN (sB B 4 ((7 * c) + 6) false) (sN N 4 0 0) c k2), mTakN (sB B 4 ((7 * c) + 6) false) (sN N 4 0 0) c k2)) H := hP
      have hD : va_D A (mw hm a cA (mFol (mTakB (sB B 4 ((7 * c) + 6) false) c k2) (mTakN (sB B 4 ((7 * c) + 6) false) (sN N 4 0 0) c k2), mTakN (sB B 4 ((7 * c) + 6) false) (sN N 4 0 0) c k2)) := hD
      refine lv_sipush (v := nI 128) hx hb dX2_read_101 (by decide) ?_
      refine lv_iload_n hx hb dX2_read_104 rfl (lv_at hl 0 rfl) ?_
      refine lv_iadd hx hb dX2_read_105 ?_
      refine xi_eq (y := nI (128 + k2)) (nI_add _ _) ?_
      exact xc_iret (wf := mw hm a cA) hx hb hr hlocks dX2_read_106 hK hP hD hS  (congrArg nI (show 128 + k2 = _ from (by first | rfl | (simp only [(mIsC_ok hc), h1, h2, Bool.true_and, Bool.false_and, Bool.and_true, Bool.and_false, Bool.true_or, Bool.or_true, Bool.false_or, Bool.or_false, Bool.not_true, Bool.not_false, decide_true, decide_false, Option.isSome, not_true_eq_false, not_false_eq_true, if_true, if_false, reduceCtorEq, ↓reduceIte]; done) | (simp only [mRdR, (mIsC_ok hc), h1, h2, Bool.true_and, Bool.false_and, Bool.and_true, Bool.and_false, Bool.true_or, Bool.or_true, Bool.false_or, Bool.or_false, Bool.not_true, Bool.not_false, decide_true, decide_false, Option.isSome, not_true_eq_false, not_false_eq_true, if_true, if_false, reduceCtorEq, ↓reduceIte]; done) | (simp only [mRd, (mIsC_ok hc), h1, h2, Bool.true_and, Bool.false_and, Bool.and_true, Bool.and_false, Bool.true_or, Bool.or_true, Bool.false_or, Bool.or_false, Bool.not_true, Bool.not_false, decide_true, decide_false, Option.isSome, not_true_eq_false, not_false_eq_true, if_true, if_false, reduceCtorEq, ↓reduceIte]; done) | (simp only [mRdR, mRd, (mIsC_ok hc), h1, h2, Bool.true_and, Bool.false_and, Bool.and_true, Bool.and_false, Bool.true_or, Bool.or_true, Bool.false_or, Bool.or_false, Bool.not_true, Bool.not_false, decide_true, decide_false, Option.isSome, not_true_eq_false, not_false_eq_true, if_true, if_false, reduceCtorEq, ↓reduceIte]; done) | (simp only [mRdR]; simp only [(mIsC_ok hc), h1, h2, Bool.true_and, Bool.false_and, Bool.and_true, Bool.and_false, Bool.true_or, Bool.or_true, Bool.false_or, Bool.or_false, Bool.not_true, Bool.not_false, decide_true, decide_false, Option.isSome, not_true_eq_false, not_false_eq_true, if_true, if_false, reduceCtorEq, ↓reduceIte]; done) | (simp only [mRd]; simp only [(mIsC_ok hc), h1, h2, Bool.true_and, Bool.false_and, Bool.and_true, Bool.and_false, Bool.true_or, Bool.or_true, Bool.false_or, Bool.or_false, Bool.not_true, Bool.not_false, decide_true, decide_false, Option.isSome, not_true_eq_false, not_false_eq_true, if_true, if_false, reduceCtorEq, ↓reduceIte]; done) | (simp only [mRdR, mRd]; simp only [(mIsC_ok hc), h1, h2, Bool.true_and, Bool.false_and, Bool.and_true, Bool.and_false, Bool.true_or, Bool.or_true, Bool.false_or, Bool.or_false, Bool.not_true, Bool.not_false, decide_true, decide_false, Option.isSome, not_true_eq_false, not_false_eq_true, if_true, if_false, reduceCtorEq, ↓reduceIte]; done) | (simp only [mRdR, mRd]; simp only [(mIsC_ok hc), h1, h2, Bool.true_and, Bool.false_and, Bool.and_true, Bool.and_false, Bool.true_or, Bool.or_true, Bool.false_or, Bool.or_false, Bool.not_true, Bool.not_false, decide_true, decide_false, Option.isSome, not_true_eq_false, not_false_eq_true, if_true, if_false, reduceCtorEq, ↓reduceIte]; rfl) | (simp only [(mIsC_ok hc), h1, h2, Bool.true_and, Bool.false_and, Bool.and_true, Bool.and_false, Bool.true_or, Bool.or_true, Bool.false_or, Bool.or_false, Bool.not_true, Bool.not_false, decide_true, decide_false, Option.isSome, not_true_eq_false, not_false_eq_true, if_true, if_false, reduceCtorEq, ↓reduceIte]; rfl) | (simp_all [mRdR, mRd]; done)))) (by first | rfl | (simp only [(mIsC_ok hc), h1, h2, Bool.true_and, Bool.false_and, Bool.and_true, Bool.and_false, Bool.true_or, Bool.or_true, Bool.false_or, Bool.or_false, Bool.not_true, Bool.not_false, decide_true, decide_false, Option.isSome, not_true_eq_false, not_false_eq_true, if_true, if_false, reduceCtorEq, ↓reduceIte]; done) | (simp only [mRdR, (mIsC_ok hc), h1, h2, Bool.true_and, Bool.false_and, Bool.and_true, Bool.and_false, Bool.true_or, Bool.or_true, Bool.false_or, Bool.or_false, Bool.not_true, Bool.not_false, decide_true, decide_false, Option.isSome, not_true_eq_false, not_false_eq_true, if_true, if_false, reduceCtorEq, ↓reduceIte]; done) | (simp only [mRd, (mIsC_ok hc), h1, h2, Bool.true_and, Bool.false_and, Bool.and_true, Bool.and_false, Bool.true_or, Bool.or_true, Bool.false_or, Bool.or_false, Bool.not_true, Bool.not_false, decide_true, decide_false, Option.isSome, not_true_eq_false, not_false_eq_true, if_true, if_false, reduceCtorEq, ↓reduceIte]; done) | (simp only [mRdR, mRd, (mIsC_ok hc), h1, h2, Bool.true_and, Bool.false_and, Bool.and_true, Bool.and_false, Bool.true_or, Bool.or_true, Bool.false_or, Bool.or_false, Bool.not_true, Bool.not_false, decide_true, decide_false, Option.isSome, not_true_eq_false, not_false_eq_true, if_true, if_false, reduceCtorEq, ↓reduceIte]; done) | (simp only [mRdR]; simp only [(mIsC_ok hc), h1, h2, Bool.true_and, Bool.false_and, Bool.and_true, Bool.and_false, Bool.true_or, Bool.or_true, Bool.false_or, Bool.or_false, Bool.not_true, Bool.not_false, decide_true, decide_false, Option.isSome, not_true_eq_false, not_false_eq_true, if_true, if_false, reduceCtorEq, ↓reduceIte]; done) | (simp only [mRd]; simp only [(mIsC_ok hc), h1, h2, Bool.true_and, Bool.false_and, Bool.and_true, Bool.and_false, Bool.true_or, Bool.or_true, Bool.false_or, Bool.or_false, Bool.not_true, Bool.not_false, decide_true, decide_false, Option.isSome, not_true_eq_false, not_false_eq_true, if_true, if_false, reduceCtorEq, ↓reduceIte]; done) | (simp only [mRdR, mRd]; simp only [(mIsC_ok hc), h1, h2, Bool.true_and, Bool.false_and, Bool.and_true, Bool.and_false, Bool.true_or, Bool.or_true, Bool.false_or, Bool.or_false, Bool.not_true, Bool.not_false, decide_true, decide_false, Option.isSome, not_true_eq_false, not_false_eq_true, if_true, if_false, reduceCtorEq, ↓reduceIte]; done) | (simp only [mRdR, mRd]; simp only [(mIsC_ok hc), h1, h2, Bool.true_and, Bool.false_and, Bool.and_true, Bool.and_false, Bool.true_or, Bool.or_true, Bool.false_or, Bool.or_false, Bool.not_true, Bool.not_false, decide_true, decide_false, Option.isSome, not_true_eq_false, not_false_eq_true, if_true, if_false, reduceCtorEq, ↓reduceIte]; rfl) | (simp only [(mIsC_ok hc), h1, h2, Bool.true_and, Bool.false_and, Bool.and_true, Bool.and_false, Bool.true_or, Bool.or_true, Bool.false_or, Bool.or_false, Bool.not_true, Bool.not_false, decide_true, decide_false, Option.isSome, not_true_eq_false, not_false_eq_true, if_true, if_false, reduceCtorEq, ↓reduceIte]; rfl) | (simp_all [mRdR, mRd]; done))
  · refine lv_aload_n hx hb dX2_read_53 rfl (lv_at hl 0 rfl) ?_
    refine lv_iload_n hx hb dX2_read_54 rfl (lv_at hl 1 rfl) ?_
    refine lv_aload_n hx hb dX2_read_55 rfl (lv_at hl 0 rfl) ?_
    refine va_get (D := (dC, dI)) (ci := 2) (v := .ref (a 7)) (C := RX2) (T := TX2) (N := 14) hx hb hts hin_RX2 hown hK hP 0 rfl rfl 8 (by decide) hlk_32 (fun _ h9 => h9) rfl dX2_read_56 ?_
    refine lv_iload_n hx hb dX2_read_59 rfl (lv_at hl 1 rfl) ?_
    refine xn_ld (f := (sN N 4 0 0) 3) (j := c) hx hb hK hP 8 7 rfl rfl (by omega) (by decide) dX2_read_60 ?_
    refine xi_eq (y := nI (N 3 c)) rfl ?_
    refine xr_call (st1 := [.int (nI (mBits (mSel B c (N 3 c)) 8))]) (W.runV (As := [.int (nI c), .int (nI (N 3 c))]) (rest := []) ⟨hx, hb, hml, hown, hts⟩ (c2_bits l dC dI hm a cA B (sN N 4 0 0) c (N 3 c) (by omega) (by omega)) (cwV 2 hts (gd_V wa_c k_ml_X2_104 k_im_X2_bits k_se_X2_bits k_in_X2 k_co_X2_bits) rfl rfl rfl (by decide +kernel) ⟨Nat.le_of_ble_eq_true rfl, Nat.le_of_ble_eq_true rfl⟩) (xr_preV (q0 := 0) (C := RX2) hK hP xz_Z.nil rfl rfl) rfl rfl hl.1 rfl (lv_room (Nat.le_of_ble_eq_true rfl)) dX2_read_61 ⟨Nat.zero_le _, Nat.zero_le _⟩) rfl ?_
    exact xc_iret (wf := mw hm a cA) hx hb hr hlocks dX2_read_64 hK hP hD hS  (congrArg nI (show mBits (mSel B c (N 3 c)) 8 = _ from (by first | rfl | (simp only [(mIsC_ok hc), h1, Bool.true_and, Bool.false_and, Bool.and_true, Bool.and_false, Bool.true_or, Bool.or_true, Bool.false_or, Bool.or_false, Bool.not_true, Bool.not_false, decide_true, decide_false, Option.isSome, not_true_eq_false, not_false_eq_true, if_true, if_false, reduceCtorEq, ↓reduceIte]; done) | (simp only [mRdR, (mIsC_ok hc), h1, Bool.true_and, Bool.false_and, Bool.and_true, Bool.and_false, Bool.true_or, Bool.or_true, Bool.false_or, Bool.or_false, Bool.not_true, Bool.not_false, decide_true, decide_false, Option.isSome, not_true_eq_false, not_false_eq_true, if_true, if_false, reduceCtorEq, ↓reduceIte]; done) | (simp only [mRd, (mIsC_ok hc), h1, Bool.true_and, Bool.false_and, Bool.and_true, Bool.and_false, Bool.true_or, Bool.or_true, Bool.false_or, Bool.or_false, Bool.not_true, Bool.not_false, decide_true, decide_false, Option.isSome, not_true_eq_false, not_false_eq_true, if_true, if_false, reduceCtorEq, ↓reduceIte]; done) | (simp only [mRdR, mRd, (mIsC_ok hc), h1, Bool.true_and, Bool.false_and, Bool.and_true, Bool.and_false, Bool.true_or, Bool.or_true, Bool.false_or, Bool.or_false, Bool.not_true, Bool.not_false, decide_true, decide_false, Option.isSome, not_true_eq_false, not_false_eq_true, if_true, if_false, reduceCtorEq, ↓reduceIte]; done) | (simp only [mRdR]; simp only [(mIsC_ok hc), h1, Bool.true_and, Bool.false_and, Bool.and_true, Bool.and_false, Bool.true_or, Bool.or_true, Bool.false_or, Bool.or_false, Bool.not_true, Bool.not_false, decide_true, decide_false, Option.isSome, not_true_eq_false, not_false_eq_true, if_true, if_false, reduceCtorEq, ↓reduceIte]; done) | (simp only [mRd]; simp only [(mIsC_ok hc), h1, Bool.true_and, Bool.false_and, Bool.and_true, Bool.and_false, Bool.true_or, Bool.or_true, Bool.false_or, Bool.or_false, Bool.not_true, Bool.not_false, decide_true, decide_false, Option.isSome, not_true_eq_false, not_false_eq_true, if_true, if_false, reduceCtorEq, ↓reduceIte]; done) | (simp only [mRdR, mRd]; simp only [(mIsC_ok hc), h1, Bool.true_and, Bool.false_and, Bool.and_true, Bool.and_false, Bool.true_or, Bool.or_true, Bool.false_or, Bool.or_false, Bool.not_true, Bool.not_false, decide_true, decide_false, Option.isSome, not_true_eq_false, not_false_eq_true, if_true, if_false, reduceCtorEq, ↓reduceIte]; done) | (simp only [mRdR, mRd]; simp only [(mIsC_ok hc), h1, Bool.true_and, Bool.false_and, Bool.and_true, Bool.and_false, Bool.true_or, Bool.or_true, Bool.false_or, Bool.or_false, Bool.not_true, Bool.not_false, decide_true, decide_false, Option.isSome, not_true_eq_false, not_false_eq_true, if_true, if_false, reduceCtorEq, ↓reduceIte]; rfl) | (simp only [(mIsC_ok hc), h1, Bool.true_and, Bool.false_and, Bool.and_true, Bool.and_false, Bool.true_or, Bool.or_true, Bool.false_or, Bool.or_false, Bool.not_true, Bool.not_false, decide_true, decide_false, Option.isSome, not_true_eq_false, not_false_eq_true, if_true, if_false, reduceCtorEq, ↓reduceIte]; rfl) | (simp_all [mRdR, mRd]; done)))) (by first | rfl | (simp only [(mIsC_ok hc), h1, Bool.true_and, Bool.false_and, Bool.and_true, Bool.and_false, Bool.true_or, Bool.or_true, Bool.false_or, Bool.or_false, Bool.not_true, Bool.not_false, decide_true, decide_false, Option.isSome, not_true_eq_false, not_false_eq_true, if_true, if_false, reduceCtorEq, ↓reduceIte]; done) | (simp only [mRdR, (mIsC_ok hc), h1, Bool.true_and, Bool.false_and, Bool.and_true, Bool.and_false, Bool.true_or, Bool.or_true, Bool.false_or, Bool.or_false, Bool.not_true, Bool.not_false, decide_true, decide_false, Option.isSome, not_true_eq_false, not_false_eq_true, if_true, if_false, reduceCtorEq, ↓reduceIte]; done) | (simp only [mRd, (mIsC_ok hc), h1, Bool.true_and, Bool.false_and, Bool.and_true, Bool.and_false, Bool.true_or, Bool.or_true, Bool.false_or, Bool.or_false, Bool.not_true, Bool.not_false, decide_true, decide_false, Option.isSome, not_true_eq_false, not_false_eq_true, if_true, if_false, reduceCtorEq, ↓reduceIte]; done) | (simp only [mRdR, mRd, (mIsC_ok hc), h1, Bool.true_and, Bool.false_and, Bool.and_true, Bool.and_false, Bool.true_or, Bool.or_true, Bool.false_or, Bool.or_false, Bool.not_true, Bool.not_false, decide_true, decide_false, Option.isSome, not_true_eq_false, not_false_eq_true, if_true, if_false, reduceCtorEq, ↓reduceIte]; done) | (simp only [mRdR]; simp only [(mIsC_ok hc), h1, Bool.true_and, Bool.false_and, Bool.and_true, Bool.and_false, Bool.true_or, Bool.or_true, Bool.false_or, Bool.or_false, Bool.not_true, Bool.not_false, decide_true, decide_false, Option.isSome, not_true_eq_false, not_false_eq_true, if_true, if_false, reduceCtorEq, ↓reduceIte]; done) | (simp only [mRd]; simp only [(mIsC_ok hc), h1, Bool.true_and, Bool.false_and, Bool.and_true, Bool.and_false, Bool.true_or, Bool.or_true, Bool.false_or, Bool.or_false, Bool.not_true, Bool.not_false, decide_true, decide_false, Option.isSome, not_true_eq_false, not_false_eq_true, if_true, if_false, reduceCtorEq, ↓reduceIte]; done) | (simp only [mRdR, mRd]; simp only [(mIsC_ok hc), h1, Bool.true_and, Bool.false_and, Bool.and_true, Bool.and_false, Bool.true_or, Bool.or_true, Bool.false_or, Bool.or_false, Bool.not_true, Bool.not_false, decide_true, decide_false, Option.isSome, not_true_eq_false, not_false_eq_true, if_true, if_false, reduceCtorEq, ↓reduceIte]; done) | (simp only [mRdR, mRd]; simp only [(mIsC_ok hc), h1, Bool.true_and, Bool.false_and, Bool.and_true, Bool.and_false, Bool.true_or, Bool.or_true, Bool.false_or, Bool.or_false, Bool.not_true, Bool.not_false, decide_true, decide_false, Option.isSome, not_true_eq_false, not_false_eq_true, if_true, if_false, reduceCtorEq, ↓reduceIte]; rfl) | (simp only [(mIsC_ok hc), h1, Bool.true_and, Bool.false_and, Bool.and_true, Bool.and_false, Bool.true_or, Bool.or_true, Bool.false_or, Bool.or_false, Bool.not_true, Bool.not_false, decide_true, decide_false, Option.isSome, not_true_eq_false, not_false_eq_true, if_true, if_false, reduceCtorEq, ↓reduceIte]; rfl) | (simp_all [mRdR, mRd]; done))

set_option maxHeartbeats 4000000 in
set_option maxRecDepth 100000 in
theorem c2_read_bad (l : Launch) (dC : Nat → ClassId) (dI : Nat → Nat → Nat) (hm : Nat) (a : Nat → Nat) (cA : Nat → ClassId) (sz : Nat) (B : Nat → Nat → Bool) (N : Nat → Nat → Nat) (y : Int32) (q : Int32) (hbad : mIsC y = false ∨ (¬ q = 0 ∧ ¬ q = nI 1)) : xc_M l yX2_read wsX2_read ({ frames := 4, cells := 0, slots := 0, locals := 89 }) [.ref hm, .int y, .int q] sz (dC, dI) vwCl (mtys cA) [] (mw hm a cA (B, N)) (some (.int (nI 0))) (mw hm a cA (B, sN N 4 0 1)) 0 0 := by
  refine Met.ofW (cc := cX2_read) (maxL := 4) (ret := (some .int)) (by decide) rfl ?_
  intro p e s m args below meth cd s₁ B₀ hml hv
  obtain ⟨rfl, hsz, hP, hK, hD0, hZ⟩ := hv
  have hx := B₀.exec
  have hb := B₀.bytes
  have hr := B₀.returns
  have hts := atoms_spec (ws := wsX2_read) B₀.pre
  have hown : s.vm.findClass RX2 = some m.cls := findClass_of_methodNamed B₀.named
  have hlocks := B₀.notSynchronized
  subst hsz
  have hD := hD0.self (sz := s.heap.size)
  generalize hAe : va_A (mw hm a cA (B, N)) s.heap.size = A at hD ⊢
  have hA : ∀ q : Nat, s.heap.size ≤ q → A q := fun q h => by rw [← hAe]; exact Or.inr h
  have hS : va_S A s.heap s.heap [] := va_S.rf
  have hin_RX2 : ∀ w ∈ u_ws RX2 TX2 14, w ∈ wsX2_read := fun w h => List.mem_cons_of_mem _ (u_X2 w h)
  have hlk_32 := hts _ (List.mem_cons_of_mem _ k_fl_X2_32)
  have hlk_35 := hts _ (List.mem_cons_of_mem _ k_fl_X2_35)
  have hl := lv_entry ([.ref hm, .int y, .int q]) (n := 4) (Nat.le_of_ble_eq_true rfl)
  rw [lg_entry_eq]
  generalize (lg_sl ([.ref hm, .int y, .int q]) ++ List.replicate (4 - (lg_sl ([.ref hm, .int y, .int q])).length) Slot.unset).toArray = ls at hl ⊢
  have hl : lv_has ls 4 [(0, .ref hm), (1, .int y), (2, .int q)] := hl
  refine lv_aload_n hx hb dX2_read_0 rfl (lv_at hl 0 rfl) ?_
  refine xj_meet (pcJ := 22) (stJ := fun y => .int y :: [.ref hm]) (bI false) ?_ (fun J22 => ?_)
  · refine lv_iconst (v := nI 1) hx hb dX2_read_22 (by decide) ?_
    refine xc_call (wc := mw hm a cA (B, N)) (wr := []) (st1 := [.int (bI false)]) (va_runV (As := [.int (bI false), .int (bI true)]) (rest := []) ⟨hx, hb, hml, hown, hts⟩ (c2_goes l dC dI hm a cA s.heap.size B N false true) (cwV 2 hts (gd_V wa_c k_ml_X2_70 k_im_X2_goes k_se_X2_goes k_in_X2 k_co_X2_goes) rfl rfl rfl (by decide +kernel) ⟨Nat.le_of_ble_eq_true rfl, Nat.le_of_ble_eq_true rfl⟩) (xc_preV (q0 := 0) (C := RX2) hK hP hD xz_Z.nil rfl rfl) rfl rfl hl.1 rfl (lv_room (Nat.le_of_ble_eq_true rfl)) dX2_read_23 ⟨Nat.zero_le _, Nat.zero_le _⟩) hP hD hS hA [0, 1, 2, 3, 4, 5, 6, 7, 8, 9, 10] [] rfl rfl (by decide) (by decide) rfl (fun H locs hP hD hS _ => ?_)
    have hP : va_P (dC, dI) vwCl (mw hm a cA (B, sN N 4 0 1)) H := hP
    have hD : va_D A (mw hm a cA (B, sN N 4 0 1)) := hD
    refine xb_if_ne (b := false) (tgt := 31) hx hb dX2_read_26 (by decide) (fun h => absurd (h.symm.trans rfl) (by decide)) (fun _ => ?_)
    refine lv_iconst (v := nI 0) hx hb dX2_read_29 (by decide) ?_
    exact xc_iret (wf := mw hm a cA) hx hb hr hlocks dX2_read_30 hK hP hD hS  (congrArg nI (show 0 = _ from (by first | rfl | (simp only [Bool.true_and, Bool.false_and, Bool.and_true, Bool.and_false, Bool.true_or, Bool.or_true, Bool.false_or, Bool.or_false, Bool.not_true, Bool.not_false, decide_true, decide_false, Option.isSome, not_true_eq_false, not_false_eq_true, if_true, if_false, reduceCtorEq, ↓reduceIte]; done) | (simp only [Bool.true_and, Bool.false_and, Bool.and_true, Bool.and_false, Bool.true_or, Bool.or_true, Bool.false_or, Bool.or_false, Bool.not_true, Bool.not_false, decide_true, decide_false, Option.isSome, not_true_eq_false, not_false_eq_true, if_true, if_false, reduceCtorEq, ↓reduceIte]; rfl) | (simp_all; done)))) (by first | rfl | (simp only [Bool.true_and, Bool.false_and, Bool.and_true, Bool.and_false, Bool.true_or, Bool.or_true, Bool.false_or, Bool.or_false, Bool.not_true, Bool.not_false, decide_true, decide_false, Option.isSome, not_true_eq_false, not_false_eq_true, if_true, if_false, reduceCtorEq, ↓reduceIte]; done) | (simp only [Bool.true_and, Bool.false_and, Bool.and_true, Bool.and_false, Bool.true_or, Bool.or_true, Bool.false_or, Bool.or_false, Bool.not_true, Bool.not_false, decide_true, decide_false, Option.isSome, not_true_eq_false, not_false_eq_true, if_true, if_false, reduceCtorEq, ↓reduceIte]; rfl) | (simp_all; done))
  · refine lv_iload_n hx hb dX2_read_1 rfl (lv_at hl 1 rfl) ?_
    refine xr_call (st1 := [.int (bI (mIsC y)), .ref hm]) (W.runS (As := [.int y]) (rest := [.ref hm]) ⟨hx, hb, hml, hown, hts⟩ (c2_isController l dC dI y) (cwS 1 hts (gd_S wa_c k_ml_X2_87 k_st_X2_isController k_in_X2 k_co_X2_isController) rfl rfl rfl (by decide +kernel) ⟨Nat.le_of_ble_eq_true rfl, Nat.le_of_ble_eq_true rfl⟩) (xr_preS (hK.sub (tys' := []) [] rfl) (hP.sub (ws' := []) [] rfl) xz_Z.nil) rfl rfl hl.1 rfl (lv_room (Nat.le_of_ble_eq_true rfl)) dX2_read_2 ⟨Nat.zero_le _, Nat.zero_le _⟩) rfl ?_
    refine xb_if_eq (b := mIsC y) (tgt := 21) hx hb dX2_read_5 (by decide) (fun h1 => ?_) (fun h1 => ?_)
    · refine lv_iconst (v := nI 0) hx hb dX2_read_21 (by decide) ?_
      exact J22 (bI false) (congrArg bI (show false = (false) from (by first | rfl | (simp only [h1, Bool.true_and, Bool.false_and, Bool.and_true, Bool.and_false, Bool.true_or, Bool.or_true, Bool.false_or, Bool.or_false, Bool.not_true, Bool.not_false, decide_true, decide_false, Option.isSome, not_true_eq_false, not_false_eq_true, if_true, if_false, reduceCtorEq, ↓reduceIte]; done) | (simp only [h1, Bool.true_and, Bool.false_and, Bool.and_true, Bool.and_false, Bool.true_or, Bool.or_true, Bool.false_or, Bool.or_false, Bool.not_true, Bool.not_false, decide_true, decide_false, Option.isSome, not_true_eq_false, not_false_eq_true, if_true, if_false, reduceCtorEq, ↓reduceIte]; rfl) | (simp_all; done))))
    · refine lv_iload_n hx hb dX2_read_8 rfl (lv_at hl 2 rfl) ?_
      refine lv_if_eq (tgt := 17) hx hb dX2_read_9 (by decide) (fun h2 => ?_) (fun h2 => ?_)
      · refine lv_iconst (v := nI 1) hx hb dX2_read_17 (by decide) ?_
        refine lv_goto (tgt := 22) hx hb dX2_read_18 (by decide) ?_
        exact J22 (bI true) (congrArg bI (show true = (false) from (by first | rfl | (simp only [h1, if_pos h2, if_neg (not_not_intro h2), decide_eq_true h2, Bool.true_and, Bool.false_and, Bool.and_true, Bool.and_false, Bool.true_or, Bool.or_true, Bool.false_or, Bool.or_false, Bool.not_true, Bool.not_false, decide_true, decide_false, Option.isSome, not_true_eq_false, not_false_eq_true, if_true, if_false, reduceCtorEq, ↓reduceIte]; done) | (simp only [h1, if_pos h2, if_neg (not_not_intro h2), decide_eq_true h2, Bool.true_and, Bool.false_and, Bool.and_true, Bool.and_false, Bool.true_or, Bool.or_true, Bool.false_or, Bool.or_false, Bool.not_true, Bool.not_false, decide_true, decide_false, Option.isSome, not_true_eq_false, not_false_eq_true, if_true, if_false, reduceCtorEq, ↓reduceIte]; rfl) | (simp_all; done))))
      · refine lv_iload_n hx hb dX2_read_12 rfl (lv_at hl 2 rfl) ?_
        refine lv_iconst (v := nI 1) hx hb dX2_read_13 (by decide) ?_
        refine lv_icmp_ne (tgt := 21) hx hb dX2_read_14 (by decide) (fun h3 => ?_) (fun h3 => ?_)
        · refine lv_iconst (v := nI 0) hx hb dX2_read_21 (by decide) ?_
          exact J22 (bI false) (congrArg bI (show false = (false) from (by first | rfl | (simp only [h1, if_neg h2, if_pos h2, decide_eq_false h2, if_neg h3, if_pos h3, decide_eq_false h3, Bool.true_and, Bool.false_and, Bool.and_true, Bool.and_false, Bool.true_or, Bool.or_true, Bool.false_or, Bool.or_false, Bool.not_true, Bool.not_false, decide_true, decide_false, Option.isSome, not_true_eq_false, not_false_eq_true, if_true, if_false, reduceCtorEq, ↓reduceIte]; done) | (simp only [h1, if_neg h2, if_pos h2, decide_eq_false h2, if_neg h3, if_pos h3, decide_eq_false h3, Bool.true_and, Bool.false_and, Bool.and_true, Bool.and_false, Bool.true_or, Bool.or_true, Bool.false_or, Bool.or_false, Bool.not_true, Bool.not_false, decide_true, decide_false, Option.isSome, not_true_eq_false, not_false_eq_true, if_true, if_false, reduceCtorEq, ↓reduceIte]; rfl) | (simp_all; done))))
        · refine lv_iconst (v := nI 1) hx hb dX2_read_17 (by decide) ?_
          refine lv_goto (tgt := 22) hx hb dX2_read_18 (by decide) ?_
          exact J22 (bI true) (congrArg bI (show true = (false) from (by first | rfl | (simp only [h1, if_neg h2, if_pos h2, decide_eq_false h2, if_pos h3, if_neg (not_not_intro h3), decide_eq_true h3, Bool.true_and, Bool.false_and, Bool.and_true, Bool.and_false, Bool.true_or, Bool.or_true, Bool.false_or, Bool.or_false, Bool.not_true, Bool.not_false, decide_true, decide_false, Option.isSome, not_true_eq_false, not_false_eq_true, if_true, if_false, reduceCtorEq, ↓reduceIte]; done) | (simp only [h1, if_neg h2, if_pos h2, decide_eq_false h2, if_pos h3, if_neg (not_not_intro h3), decide_eq_true h3, Bool.true_and, Bool.false_and, Bool.and_true, Bool.and_false, Bool.true_or, Bool.or_true, Bool.false_or, Bool.or_false, Bool.not_true, Bool.not_false, decide_true, decide_false, Option.isSome, not_true_eq_false, not_false_eq_true, if_true, if_false, reduceCtorEq, ↓reduceIte]; rfl) | (simp_all; done))))

set_option maxHeartbeats 4000000 in
set_option maxRecDepth 100000 in
theorem c2_take_none (l : Launch) (dC : Nat → ClassId) (dI : Nat → Nat → Nat) (hm : Nat) (a : Nat → Nat) (cA : Nat → ClassId) (sz : Nat) (B : Nat → Nat → Bool) (N : Nat → Nat → Nat) (hN : ∀ c, c < 2 → N 0 c < 8) (hd : mDel B (sN N 4 0 0) 0 = none) : xc_M l yX2_take wsX2_take ({ frames := 4, cells := 0, slots := 0, locals := 89 }) [.ref hm] sz (dC, dI) vwCl (mtys cA) [] (mw hm a cA (B, N)) (some (.int (nI (N 1 0 + 7)))) (mw hm a cA (B, sN (sN N 4 0 0) 4 2 (N 4 2 + 1))) 0 0 := by
  refine Met.ofW (cc := cX2_take) (maxL := 3) (ret := (some .int)) (by decide) rfl ?_
  intro p e s m args below meth cd s₁ B₀ hml hv
  obtain ⟨rfl, hsz, hP, hK, hD0, hZ⟩ := hv
  have hx := B₀.exec
  have hb := B₀.bytes
  have hr := B₀.returns
  have hts := atoms_spec (ws := wsX2_take) B₀.pre
  have hown : s.vm.findClass RX2 = some m.cls := findClass_of_methodNamed B₀.named
  have hlocks := B₀.notSynchronized
  subst hsz
  have hD := hD0.self (sz := s.heap.size)
  generalize hAe : va_A (mw hm a cA (B, N)) s.heap.size = A at hD ⊢
  have hA : ∀ q : Nat, s.heap.size ≤ q → A q := fun q h => by rw [← hAe]; exact Or.inr h
  have hS : va_S A s.heap s.heap [] := va_S.rf
  have hin_RX2 : ∀ w ∈ u_ws RX2 TX2 14, w ∈ wsX2_take := fun w h => List.mem_cons_of_mem _ (u_X2 w h)
  have hlk_26 := hts _ (List.mem_cons_of_mem _ k_fl_X2_26)
  have hlk_41 := hts _ (List.mem_cons_of_mem _ k_fl_X2_41)
  have hlk_110 := hts _ (List.mem_cons_of_mem _ k_fl_X2_110)
  have hl := lv_entry ([.ref hm]) (n := 3) (Nat.le_of_ble_eq_true rfl)
  rw [lg_entry_eq]
  generalize (lg_sl ([.ref hm]) ++ List.replicate (3 - (lg_sl ([.ref hm])).length) Slot.unset).toArray = ls at hl ⊢
  have hl : lv_has ls 3 [(0, .ref hm)] := hl
  refine lv_aload_n hx hb dX2_take_0 rfl (lv_at hl 0 rfl) ?_
  refine lv_iconst (v := nI 0) hx hb dX2_take_1 (by decide) ?_
  refine va_put (D := (dC, dI)) (ci := 2) (v := .int (nI 0)) (ty := .int) (C := RX2) (T := TX2) (N := 14) hx hb hts hin_RX2 tyX2 tyX2_ok nX2 hown hK hP hD hS 0 rfl rfl 0 (by decide) hlk_41 (fun _ h9 => h9) rfl (by decide +kernel) rfl rfl (Nat.le_of_ble_eq_true rfl) dX2_take_2 (fun H locs hP hD hS => ?_)
  have hP : va_P (dC, dI) vwCl (mw hm a cA (B, sN N 4 0 0)) H := hP
  have hD : va_D A (mw hm a cA (B, sN N 4 0 0)) := hD
  refine lv_aload_n hx hb dX2_take_5 rfl (lv_at hl 0 rfl) ?_
  refine lv_iconst (v := nI 0) hx hb dX2_take_6 (by decide) ?_
  refine xr_call (st1 := [.int (oI (mDel B (sN N 4 0 0) 0))]) (W.runV (As := [.int (nI 0)]) (rest := []) ⟨hx, hb, hml, hown, hts⟩ (c2_delivered l dC dI hm a cA B (sN N 4 0 0) 0 (by omega) hN) (cwV 1 hts (gd_V wa_c k_ml_X2_59 k_im_X2_delivered k_se_X2_delivered k_in_X2 k_co_X2_delivered) rfl rfl rfl (by decide +kernel) ⟨Nat.le_of_ble_eq_true rfl, Nat.le_of_ble_eq_true rfl⟩) (xr_preV (q0 := 0) (C := RX2) hK hP xz_Z.nil rfl rfl) rfl rfl hl.1 rfl (lv_room (Nat.le_of_ble_eq_true rfl)) dX2_take_7 ⟨Nat.zero_le _, Nat.zero_le _⟩) rfl ?_
  refine xi_eq (y := -1) (congrArg oI hd) ?_
  refine lv_istore_n (lv' := [(1, .int (-1)), (0, .ref hm)]) hx hb dX2_take_10 rfl hl (by decide) rfl (fun ls hl => ?_)
  refine lv_iload_n hx hb dX2_take_11 rfl (lv_at hl 0 rfl) ?_
  refine lv_iconst (v := -1) hx hb dX2_take_12 (by decide) ?_
  refine lv_icmp_ne (tgt := 36) hx hb dX2_take_13 (by decide) (fun h => absurd rfl h) (fun _ => ?_)
  refine lv_aload_n hx hb dX2_take_16 rfl (lv_at hl 1 rfl) ?_
  refine lv_dup hx hb dX2_take_17 rfl ?_
  refine va_get (D := (dC, dI)) (ci := 2) (v := .int (nI (N 4 2))) (C := RX2) (T := TX2) (N := 14) hx hb hts hin_RX2 hown hK hP 0 rfl rfl 12 (by decide) hlk_110 (fun _ h9 => h9) rfl dX2_take_18 ?_
  refine lv_iconst (v := nI 1) hx hb dX2_take_21 (by decide) ?_
  refine lv_iadd hx hb dX2_take_22 ?_
  refine xi_eq (y := nI ((N 4 2) + 1)) (nI_add _ _) ?_
  refine va_put (D := (dC, dI)) (ci := 2) (v := .int (nI ((N 4 2) + 1))) (ty := .int) (C := RX2) (T := TX2) (N := 14) hx hb hts hin_RX2 tyX2 tyX2_ok nX2 hown hK hP hD hS 0 rfl rfl 12 (by decide) hlk_110 (fun _ h9 => h9) rfl (by decide +kernel) rfl rfl (Nat.le_of_ble_eq_true rfl) dX2_take_23 (fun H locs hP hD hS => ?_)
  have hP : va_P (dC, dI) vwCl (mw hm a cA (B, sN (sN N 4 0 0) 4 2 ((N 4 2) + 1))) H := hP
  have hD : va_D A (mw hm a cA (B, sN (sN N 4 0 0) 4 2 ((N 4 2) + 1))) := hD
  refine lv_aload_n hx hb dX2_take_26 rfl (lv_at hl 1 rfl) ?_
  refine va_get (D := (dC, dI)) (ci := 2) (v := .ref (a 5)) (C := RX2) (T := TX2) (N := 14) hx hb hts hin_RX2 hown hK hP 0 rfl rfl 6 (by decide) hlk_26 (fun _ h9 => h9) rfl dX2_take_27 ?_
  refine lv_iconst (v := nI 0) hx hb dX2_take_30 (by decide) ?_
  refine xn_ld (f := (sN (sN N 4 0 0) 4 2 ((N 4 2) + 1)) 1) (j := 0) hx hb hK hP 6 5 rfl rfl (by omega) (by decide) dX2_take_31 ?_
  refine xi_eq (y := nI (N 1 0)) rfl ?_
  refine lv_bipush (v := nI 7) hx hb dX2_take_32 (by decide) ?_
  refine lv_iadd hx hb dX2_take_34 ?_
  refine xi_eq (y := nI ((N 1 0) + 7)) (nI_add _ _) ?_
  exact xc_iret (wf := mw hm a cA) hx hb hr hlocks dX2_take_35 hK hP hD hS  (congrArg nI (show (N 1 0) + 7 = _ from (by first | rfl | (simp only [hd, Bool.true_and, Bool.false_and, Bool.and_true, Bool.and_false, Bool.true_or, Bool.or_true, Bool.false_or, Bool.or_false, Bool.not_true, Bool.not_false, decide_true, decide_false, Option.isSome, not_true_eq_false, not_false_eq_true, if_true, if_false, reduceCtorEq, ↓reduceIte]; done) | (simp only [hd, Bool.true_and, Bool.false_and, Bool.and_true, Bool.and_false, Bool.true_or, Bool.or_true, Bool.false_or, Bool.or_false, Bool.not_true, Bool.not_false, decide_true, decide_false, Option.isSome, not_true_eq_false, not_false_eq_true, if_true, if_false, reduceCtorEq, ↓reduceIte]; rfl) | (simp_all; done)))) (by first | rfl | (simp only [hd, Bool.true_and, Bool.false_and, Bool.and_true, Bool.and_false, Bool.true_or, Bool.or_true, Bool.false_or, Bool.or_false, Bool.not_true, Bool.not_false, decide_true, decide_false, Option.isSome, not_true_eq_false, not_false_eq_true, if_true, if_false, reduceCtorEq, ↓reduceIte]; done) | (simp only [hd, Bool.true_and, Bool.false_and, Bool.and_true, Bool.and_false, Bool.true_or, Bool.or_true, Bool.false_or, Bool.or_false, Bool.not_true, Bool.not_false, decide_true, decide_false, Option.isSome, not_true_eq_false, not_false_eq_true, if_true, if_false, reduceCtorEq, ↓reduceIte]; rfl) | (simp_all; done))

set_option maxHeartbeats 4000000 in
set_option maxRecDepth 100000 in
theorem c2_take_one (l : Launch) (dC : Nat → ClassId) (dI : Nat → Nat → Nat) (hm : Nat) (a : Nat → Nat) (cA : Nat → ClassId) (sz : Nat) (B : Nat → Nat → Bool) (N : Nat → Nat → Nat) (k : Nat) (hk : k < 8) (hk2 : k ≠ 2) (hN : ∀ c, c < 2 → N 0 c < 8) (hd : mDel B (sN N 4 0 0) 0 = some k) : xc_M l yX2_take wsX2_take ({ frames := 4, cells := 0, slots := 0, locals := 89 }) [.ref hm] sz (dC, dI) vwCl (mtys cA) [] (mw hm a cA (B, N)) (some (.int (nI ((mTakN B (sN N 4 0 0) 0 k) 1 0 + k)))) (mw hm a cA (mTakB B 0 k, mTakN B (sN N 4 0 0) 0 k)) 0 0 := by
  refine Met.ofW (cc := cX2_take) (maxL := 3) (ret := (some .int)) (by decide) rfl ?_
  intro p e s m args below meth cd s₁ B₀ hml hv
  obtain ⟨rfl, hsz, hP, hK, hD0, hZ⟩ := hv
  have hx := B₀.exec
  have hb := B₀.bytes
  have hr := B₀.returns
  have hts := atoms_spec (ws := wsX2_take) B₀.pre
  have hown : s.vm.findClass RX2 = some m.cls := findClass_of_methodNamed B₀.named
  have hlocks := B₀.notSynchronized
  subst hsz
  have hD := hD0.self (sz := s.heap.size)
  generalize hAe : va_A (mw hm a cA (B, N)) s.heap.size = A at hD ⊢
  have hA : ∀ q : Nat, s.heap.size ≤ q → A q := fun q h => by rw [← hAe]; exact Or.inr h
  have hS : va_S A s.heap s.heap [] := va_S.rf
  have hin_RX2 : ∀ w ∈ u_ws RX2 TX2 14, w ∈ wsX2_take := fun w h => List.mem_cons_of_mem _ (u_X2 w h)
  have hlk_26 := hts _ (List.mem_cons_of_mem _ k_fl_X2_26)
  have hlk_41 := hts _ (List.mem_cons_of_mem _ k_fl_X2_41)
  have hlk_110 := hts _ (List.mem_cons_of_mem _ k_fl_X2_110)
  have hl := lv_entry ([.ref hm]) (n := 3) (Nat.le_of_ble_eq_true rfl)
  rw [lg_entry_eq]
  generalize (lg_sl ([.ref hm]) ++ List.replicate (3 - (lg_sl ([.ref hm])).length) Slot.unset).toArray = ls at hl ⊢
  have hl : lv_has ls 3 [(0, .ref hm)] := hl
  refine lv_aload_n hx hb dX2_take_0 rfl (lv_at hl 0 rfl) ?_
  refine lv_iconst (v := nI 0) hx hb dX2_take_1 (by decide) ?_
  refine va_put (D := (dC, dI)) (ci := 2) (v := .int (nI 0)) (ty := .int) (C := RX2) (T := TX2) (N := 14) hx hb hts hin_RX2 tyX2 tyX2_ok nX2 hown hK hP hD hS 0 rfl rfl 0 (by decide) hlk_41 (fun _ h9 => h9) rfl (by decide +kernel) rfl rfl (Nat.le_of_ble_eq_true rfl) dX2_take_2 (fun H locs hP hD hS => ?_)
  have hP : va_P (dC, dI) vwCl (mw hm a cA (B, sN N 4 0 0)) H := hP
  have hD : va_D A (mw hm a cA (B, sN N 4 0 0)) := hD
  refine lv_aload_n hx hb dX2_take_5 rfl (lv_at hl 0 rfl) ?_
  refine lv_iconst (v := nI 0) hx hb dX2_take_6 (by decide) ?_
  refine xr_call (st1 := [.int (oI (mDel B (sN N 4 0 0) 0))]) (W.runV (As := [.int (nI 0)]) (rest := []) ⟨hx, hb, hml, hown, hts⟩ (c2_delivered l dC dI hm a cA B (sN N 4 0 0) 0 (by omega) hN) (cwV 1 hts (gd_V wa_c k_ml_X2_59 k_im_X2_delivered k_se_X2_delivered k_in_X2 k_co_X2_delivered) rfl rfl rfl (by decide +kernel) ⟨Nat.le_of_ble_eq_true rfl, Nat.le_of_ble_eq_true rfl⟩) (xr_preV (q0 := 0) (C := RX2) hK hP xz_Z.nil rfl rfl) rfl rfl hl.1 rfl (lv_room (Nat.le_of_ble_eq_true rfl)) dX2_take_7 ⟨Nat.zero_le _, Nat.zero_le _⟩) rfl ?_
  refine xi_eq (y := nI k) (congrArg oI hd) ?_
  refine lv_istore_n (lv' := [(1, .int (nI k)), (0, .ref hm)]) hx hb dX2_take_10 rfl hl (by decide) rfl (fun ls hl => ?_)
  refine lv_iload_n hx hb dX2_take_11 rfl (lv_at hl 0 rfl) ?_
  refine lv_iconst (v := -1) hx hb dX2_take_12 (by decide) ?_
  refine lv_icmp_ne (tgt := 36) hx hb dX2_take_13 (by decide) (fun _ => ?_) (fun h => absurd h (xn_m1 (by omega)))
  refine lv_aload_n hx hb dX2_take_36 rfl (lv_at hl 1 rfl) ?_
  refine lv_iconst (v := nI 0) hx hb dX2_take_37 (by decide) ?_
  refine lv_iload_n hx hb dX2_take_38 rfl (lv_at hl 0 rfl) ?_
  refine xc_call (wc := mw hm a cA (B, sN N 4 0 0)) (wr := []) (st1 := []) (va_runV (As := [.int (nI 0), .int (nI k)]) (rest := []) ⟨hx, hb, hml, hown, hts⟩ (c2_taken l dC dI hm a cA H.size B (sN N 4 0 0) 0 k (by omega) (by omega)) (cwV 2 hts (gd_V wa_c k_ml_X2_107 k_im_X2_taken k_se_X2_taken k_in_X2 k_co_X2_taken) rfl rfl rfl (by decide +kernel) ⟨Nat.le_of_ble_eq_true rfl, Nat.le_of_ble_eq_true rfl⟩) (xc_preV (q0 := 0) (C := RX2) hK hP hD xz_Z.nil rfl rfl) rfl rfl hl.1 rfl (lv_room (Nat.le_of_ble_eq_true rfl)) dX2_take_39 ⟨Nat.zero_le _, Nat.zero_le _⟩) hP hD hS hA [0, 1, 2, 3, 4, 5, 6, 7, 8, 9, 10] [] rfl rfl (by decide) (by decide) rfl (fun H locs hP hD hS _ => ?_)
  have hP : va_P (dC, dI) vwCl (mw hm a cA (mTakB B 0 k, mTakN B (sN N 4 0 0) 0 k)) H := hP
  have hD : va_D A (mw hm a cA (mTakB B 0 k, mTakN B (sN N 4 0 0) 0 k)) := hD
  refine lv_iload_n hx hb dX2_take_42 rfl (lv_at hl 0 rfl) ?_
  refine lv_iconst (v := nI 2) hx hb dX2_take_43 (by decide) ?_
  refine xn_icmp_eq (x := k) (y := 2) (tgt := 56) (by omega) (by omega) hx hb dX2_take_44 (by decide) (fun h => absurd h hk2) (fun _ => ?_)
  refine lv_aload_n hx hb dX2_take_47 rfl (lv_at hl 1 rfl) ?_
  refine va_get (D := (dC, dI)) (ci := 2) (v := .ref (a 5)) (C := RX2) (T := TX2) (N := 14) hx hb hts hin_RX2 hown hK hP 0 rfl rfl 6 (by decide) hlk_26 (fun _ h9 => h9) rfl dX2_take_48 ?_
  refine lv_iconst (v := nI 0) hx hb dX2_take_51 (by decide) ?_
  refine xn_ld (f := (mTakN B (sN N 4 0 0) 0 k) 1) (j := 0) hx hb hK hP 6 5 rfl rfl (by omega) (by decide) dX2_take_52 ?_
  refine lv_iload_n hx hb dX2_take_53 rfl (lv_at hl 0 rfl) ?_
  refine lv_iadd hx hb dX2_take_54 ?_
  refine xi_eq (y := nI (((mTakN B (sN N 4 0 0) 0 k) 1 0) + k)) (nI_add _ _) ?_
  exact xc_iret (wf := mw hm a cA) hx hb hr hlocks dX2_take_55 hK hP hD hS  (congrArg nI (show ((mTakN B (sN N 4 0 0) 0 k) 1 0) + k = _ from (by first | rfl | (simp only [hd, if_neg hk2, if_pos hk2, decide_eq_false hk2, Bool.true_and, Bool.false_and, Bool.and_true, Bool.and_false, Bool.true_or, Bool.or_true, Bool.false_or, Bool.or_false, Bool.not_true, Bool.not_false, decide_true, decide_false, Option.isSome, not_true_eq_false, not_false_eq_true, if_true, if_false, reduceCtorEq, ↓reduceIte]; done) | (simp only [hd, if_neg hk2, if_pos hk2, decide_eq_false hk2, Bool.true_and, Bool.false_and, Bool.and_true, Bool.and_false, Bool.true_or, Bool.or_true, Bool.false_or, Bool.or_false, Bool.not_true, Bool.not_false, decide_true, decide_false, Option.isSome, not_true_eq_false, not_false_eq_true, if_true, if_false, reduceCtorEq, ↓reduceIte]; rfl) | (simp_all; done)))) (by first | rfl | (simp only [hd, if_neg hk2, if_pos hk2, decide_eq_false hk2, Bool.true_and, Bool.false_and, Bool.and_true, Bool.and_false, Bool.true_or, Bool.or_true, Bool.false_or, Bool.or_false, Bool.not_true, Bool.not_false, decide_true, decide_false, Option.isSome, not_true_eq_false, not_false_eq_true, if_true, if_false, reduceCtorEq, ↓reduceIte]; done) | (simp only [hd, if_neg hk2, if_pos hk2, decide_eq_false hk2, Bool.true_and, Bool.false_and, Bool.and_true, Bool.and_false, Bool.true_or, Bool.or_true, Bool.false_or, Bool.or_false, Bool.not_true, Bool.not_false, decide_true, decide_false, Option.isSome, not_true_eq_false, not_false_eq_true, if_true, if_false, reduceCtorEq, ↓reduceIte]; rfl) | (simp_all; done))

set_option maxHeartbeats 4000000 in
set_option maxRecDepth 100000 in
theorem c2_take_two (l : Launch) (dC : Nat → ClassId) (dI : Nat → Nat → Nat) (hm : Nat) (a : Nat → Nat) (cA : Nat → ClassId) (sz : Nat) (B : Nat → Nat → Bool) (N : Nat → Nat → Nat) (o : Nat) (ho : o < 8) (hN : ∀ c, c < 2 → N 0 c < 8) (hd : mDel B (sN N 4 0 0) 0 = some 2) (hd1 : mDel (mTakB B 0 2) (mTakN B (sN N 4 0 0) 0 2) 1 = some o) : xc_M l yX2_take wsX2_take ({ frames := 4, cells := 0, slots := 0, locals := 89 }) [.ref hm] sz (dC, dI) vwCl (mtys cA) [] (mw hm a cA (B, N)) (some (.int (nI ((mTakN (mTakB B 0 2) (mTakN B (sN N 4 0 0) 0 2) 1 o) 1 1 + o)))) (mw hm a cA (mFol (mRaise (mTakB (mTakB B 0 2) 1 o) 2 false) (mTakN (mTakB B 0 2) (mTakN B (sN N 4 0 0) 0 2) 1 o), mTakN (mTakB B 0 2) (mTakN B (sN N 4 0 0) 0 2) 1 o)) 0 0 := by
  refine Met.ofW (cc := cX2_take) (maxL := 3) (ret := (some .int)) (by decide) rfl ?_
  intro p e s m args below meth cd s₁ B₀ hml hv
  obtain ⟨rfl, hsz, hP, hK, hD0, hZ⟩ := hv
  have hx := B₀.exec
  have hb := B₀.bytes
  have hr := B₀.returns
  have hts := atoms_spec (ws := wsX2_take) B₀.pre
  have hown : s.vm.findClass RX2 = some m.cls := findClass_of_methodNamed B₀.named
  have hlocks := B₀.notSynchronized
  subst hsz
  have hD := hD0.self (sz := s.heap.size)
  generalize hAe : va_A (mw hm a cA (B, N)) s.heap.size = A at hD ⊢
  have hA : ∀ q : Nat, s.heap.size ≤ q → A q := fun q h => by rw [← hAe]; exact Or.inr h
  have hS : va_S A s.heap s.heap [] := va_S.rf
  have hin_RX2 : ∀ w ∈ u_ws RX2 TX2 14, w ∈ wsX2_take := fun w h => List.mem_cons_of_mem _ (u_X2 w h)
  have hlk_26 := hts _ (List.mem_cons_of_mem _ k_fl_X2_26)
  have hlk_41 := hts _ (List.mem_cons_of_mem _ k_fl_X2_41)
  have hlk_110 := hts _ (List.mem_cons_of_mem _ k_fl_X2_110)
  have hl := lv_entry ([.ref hm]) (n := 3) (Nat.le_of_ble_eq_true rfl)
  rw [lg_entry_eq]
  generalize (lg_sl ([.ref hm]) ++ List.replicate (3 - (lg_sl ([.ref hm])).length) Slot.unset).toArray = ls at hl ⊢
  have hl : lv_has ls 3 [(0, .ref hm)] := hl
  refine lv_aload_n hx hb dX2_take_0 rfl (lv_at hl 0 rfl) ?_
  refine lv_iconst (v := nI 0) hx hb dX2_take_1 (by decide) ?_
  refine va_put (D := (dC, dI)) (ci := 2) (v := .int (nI 0)) (ty := .int) (C := RX2) (T := TX2) (N := 14) hx hb hts hin_RX2 tyX2 tyX2_ok nX2 hown hK hP hD hS 0 rfl rfl 0 (by decide) hlk_41 (fun _ h9 => h9) rfl (by decide +kernel) rfl rfl (Nat.le_of_ble_eq_true rfl) dX2_take_2 (fun H locs hP hD hS => ?_)
  have hP : va_P (dC, dI) vwCl (mw hm a cA (B, sN N 4 0 0)) H := hP
  have hD : va_D A (mw hm a cA (B, sN N 4 0 0)) := hD
  refine lv_aload_n hx hb dX2_take_5 rfl (lv_at hl 0 rfl) ?_
  refine lv_iconst (v := nI 0) hx hb dX2_take_6 (by decide) ?_
  refine xr_call (st1 := [.int (oI (mDel B (sN N 4 0 0) 0))]) (W.runV (As := [.int (nI 0)]) (rest := []) ⟨hx, hb, hml, hown, hts⟩ (c2_delivered l dC dI hm a cA B (sN N 4 0 0) 0 (by omega) hN) (cwV 1 hts (gd_V wa_c k_ml_X2_59 k_im_X2_delivered k_se_X2_delivered k_in_X2 k_co_X2_delivered) rfl rfl rfl (by decide +kernel) ⟨Nat.le_of_ble_eq_true rfl, Nat.le_of_ble_eq_true rfl⟩) (xr_preV (q0 := 0) (C := RX2) hK hP xz_Z.nil rfl rfl) rfl rfl hl.1 rfl (lv_room (Nat.le_of_ble_eq_true rfl)) dX2_take_7 ⟨Nat.zero_le _, Nat.zero_le _⟩) rfl ?_
  refine xi_eq (y := nI 2) (congrArg oI hd) ?_
  refine lv_istore_n (lv' := [(1, .int (nI 2)), (0, .ref hm)]) hx hb dX2_take_10 rfl hl (by decide) rfl (fun ls hl => ?_)
  refine lv_iload_n hx hb dX2_take_11 rfl (lv_at hl 0 rfl) ?_
  refine lv_iconst (v := -1) hx hb dX2_take_12 (by decide) ?_
  refine lv_icmp_ne (tgt := 36) hx hb dX2_take_13 (by decide) (fun _ => ?_) (fun h => absurd h (xn_m1 (by omega)))
  refine lv_aload_n hx hb dX2_take_36 rfl (lv_at hl 1 rfl) ?_
  refine lv_iconst (v := nI 0) hx hb dX2_take_37 (by decide) ?_
  refine lv_iload_n hx hb dX2_take_38 rfl (lv_at hl 0 rfl) ?_
  refine xc_call (wc := mw hm a cA (B, sN N 4 0 0)) (wr := []) (st1 := []) (va_runV (As := [.int (nI 0), .int (nI 2)]) (rest := []) ⟨hx, hb, hml, hown, hts⟩ (c2_taken l dC dI hm a cA H.size B (sN N 4 0 0) 0 2 (by omega) (by omega)) (cwV 2 hts (gd_V wa_c k_ml_X2_107 k_im_X2_taken k_se_X2_taken k_in_X2 k_co_X2_taken) rfl rfl rfl (by decide +kernel) ⟨Nat.le_of_ble_eq_true rfl, Nat.le_of_ble_eq_true rfl⟩) (xc_preV (q0 := 0) (C := RX2) hK hP hD xz_Z.nil rfl rfl) rfl rfl hl.1 rfl (lv_room (Nat.le_of_ble_eq_true rfl)) dX2_take_39 ⟨Nat.zero_le _, Nat.zero_le _⟩) hP hD hS hA [0, 1, 2, 3, 4, 5, 6, 7, 8, 9, 10] [] rfl rfl (by decide) (by decide) rfl (fun H locs hP hD hS _ => ?_)
  have hP : va_P (dC, dI) vwCl (mw hm a cA (mTakB B 0 2, mTakN B (sN N 4 0 0) 0 2)) H := hP
  have hD : va_D A (mw hm a cA (mTakB B 0 2, mTakN B (sN N 4 0 0) 0 2)) := hD
  refine lv_iload_n hx hb dX2_take_42 rfl (lv_at hl 0 rfl) ?_
  refine lv_iconst (v := nI 2) hx hb dX2_take_43 (by decide) ?_
  refine xn_icmp_eq (x := 2) (y := 2) (tgt := 56) (by omega) (by omega) hx hb dX2_take_44 (by decide) (fun _ => ?_) (fun h => absurd (by decide) h)
  refine lv_aload_n hx hb dX2_take_56 rfl (lv_at hl 1 rfl) ?_
  refine lv_iconst (v := nI 1) hx hb dX2_take_57 (by decide) ?_
  refine xr_call (st1 := [.int (oI (mDel (mTakB B 0 2) (mTakN B (sN N 4 0 0) 0 2) 1))]) (W.runV (As := [.int (nI 1)]) (rest := []) ⟨hx, hb, hml, hown, hts⟩ (c2_delivered l dC dI hm a cA (mTakB B 0 2) (mTakN B (sN N 4 0 0) 0 2) 1 (by omega) (mTak_lt (by omega) hN)) (cwV 1 hts (gd_V wa_c k_ml_X2_59 k_im_X2_delivered k_se_X2_delivered k_in_X2 k_co_X2_delivered) rfl rfl rfl (by decide +kernel) ⟨Nat.le_of_ble_eq_true rfl, Nat.le_of_ble_eq_true rfl⟩) (xr_preV (q0 := 0) (C := RX2) hK hP xz_Z.nil rfl rfl) rfl rfl hl.1 rfl (lv_room (Nat.le_of_ble_eq_true rfl)) dX2_take_58 ⟨Nat.zero_le _, Nat.zero_le _⟩) rfl ?_
  refine xi_eq (y := nI o) (congrArg oI hd1) ?_
  refine lv_istore_n (lv' := [(2, .int (nI o)), (1, .int (nI 2)), (0, .ref hm)]) hx hb dX2_take_61 rfl hl (by decide) rfl (fun ls hl => ?_)
  refine lv_aload_n hx hb dX2_take_62 rfl (lv_at hl 2 rfl) ?_
  refine lv_iconst (v := nI 1) hx hb dX2_take_63 (by decide) ?_
  refine lv_iload_n hx hb dX2_take_64 rfl (lv_at hl 0 rfl) ?_
  refine xc_call (wc := mw hm a cA (mTakB B 0 2, mTakN B (sN N 4 0 0) 0 2)) (wr := []) (st1 := []) (va_runV (As := [.int (nI 1), .int (nI o)]) (rest := []) ⟨hx, hb, hml, hown, hts⟩ (c2_taken l dC dI hm a cA H.size (mTakB B 0 2) (mTakN B (sN N 4 0 0) 0 2) 1 o (by omega) (by omega)) (cwV 2 hts (gd_V wa_c k_ml_X2_107 k_im_X2_taken k_se_X2_taken k_in_X2 k_co_X2_taken) rfl rfl rfl (by decide +kernel) ⟨Nat.le_of_ble_eq_true rfl, Nat.le_of_ble_eq_true rfl⟩) (xc_preV (q0 := 0) (C := RX2) hK hP hD xz_Z.nil rfl rfl) rfl rfl hl.1 rfl (lv_room (Nat.le_of_ble_eq_true rfl)) dX2_take_65 ⟨Nat.zero_le _, Nat.zero_le _⟩) hP hD hS hA [0, 1, 2, 3, 4, 5, 6, 7, 8, 9, 10] [] rfl rfl (by decide) (by decide) rfl (fun H locs hP hD hS _ => ?_)
  have hP : va_P (dC, dI) vwCl (mw hm a cA (mTakB (mTakB B 0 2) 1 o, mTakN (mTakB B 0 2) (mTakN B (sN N 4 0 0) 0 2) 1 o)) H := hP
  have hD : va_D A (mw hm a cA (mTakB (mTakB B 0 2) 1 o, mTakN (mTakB B 0 2) (mTakN B (sN N 4 0 0) 0 2) 1 o)) := hD
  refine lv_aload_n hx hb dX2_take_68 rfl (lv_at hl 2 rfl) ?_
  refine lv_iconst (v := nI 2) hx hb dX2_take_69 (by decide) ?_
  refine lv_iconst (v := nI 0) hx hb dX2_take_70 (by decide) ?_
  refine xc_call (wc := mw hm a cA (mTakB (mTakB B 0 2) 1 o, mTakN (mTakB B 0 2) (mTakN B (sN N 4 0 0) 0 2) 1 o)) (wr := []) (st1 := []) (va_runV (As := [.int (nI 2), .int (bI false)]) (rest := []) ⟨hx, hb, hml, hown, hts⟩ (c2_raise l dC dI hm a cA H.size (mTakB (mTakB B 0 2) 1 o) (mTakN (mTakB B 0 2) (mTakN B (sN N 4 0 0) 0 2) 1 o) 2 false (by omega)) (cwV 2 hts (gd_V wa_c k_ml_X2_63 k_im_X2_raise k_se_X2_raise k_in_X2 k_co_X2_raise) rfl rfl rfl (by decide +kernel) ⟨Nat.le_of_ble_eq_true rfl, Nat.le_of_ble_eq_true rfl⟩) (xc_preV (q0 := 0) (C := RX2) hK hP hD xz_Z.nil rfl rfl) rfl rfl hl.1 rfl (lv_room (Nat.le_of_ble_eq_true rfl)) dX2_take_71 ⟨Nat.zero_le _, Nat.zero_le _⟩) hP hD hS hA [0, 1, 2, 3, 4, 5, 6, 7, 8, 9, 10] [] rfl rfl (by decide) (by decide) rfl (fun H locs hP hD hS _ => ?_)
  have hP : va_P (dC, dI) vwCl (mw hm a cA (mRaise (mTakB (mTakB B 0 2) 1 o) 2 false, mTakN (mTakB B 0 2) (mTakN B (sN N 4 0 0) 0 2) 1 o)) H := hP
  have hD : va_D A (mw hm a cA (mRaise (mTakB (mTakB B 0 2) 1 o) 2 false, mTakN (mTakB B 0 2) (mTakN B (sN N 4 0 0) 0 2) 1 o)) := hD
  refine lv_aload_n hx hb dX2_take_74 rfl (lv_at hl 2 rfl) ?_
  refine xc_call (wc := mw hm a cA (mRaise (mTakB (mTakB B 0 2) 1 o) 2 false, mTakN (mTakB B 0 2) (mTakN B (sN N 4 0 0) 0 2) 1 o)) (wr := []) (st1 := []) (va_runV (As := []) (rest := []) ⟨hx, hb, hml, hown, hts⟩ (c2_follow l dC dI hm a cA H.size (mRaise (mTakB (mTakB B 0 2) 1 o) 2 false) (mTakN (mTakB B 0 2) (mTakN B (sN N 4 0 0) 0 2) 1 o) (mTak_lt (by omega) (mTak_lt (by omega) hN))) (cwV 0 hts (gd_V wa_c k_ml_X2_74 k_im_X2_follow k_se_X2_follow k_in_X2 k_co_X2_follow) rfl rfl rfl (by decide +kernel) ⟨Nat.le_of_ble_eq_true rfl, Nat.le_of_ble_eq_true rfl⟩) (xc_preV (q0 := 0) (C := RX2) hK hP hD xz_Z.nil rfl rfl) rfl rfl hl.1 rfl (lv_room (Nat.le_of_ble_eq_true rfl)) dX2_take_75 ⟨Nat.zero_le _, Nat.zero_le _⟩) hP hD hS hA [0, 1, 2, 3, 4, 5, 6, 7, 8, 9, 10] [] rfl rfl (by decide) (by decide) rfl (fun H locs hP hD hS _ => ?_)
  have hP : va_P (dC, dI) vwCl (mw hm a cA (mFol (mRaise (mTakB (mTakB B 0 2) 1 o) 2 false) (mTakN (mTakB B 0 2) (mTakN B (sN N 4 0 0) 0 2) 1 o), mTakN (mTakB B 0 2) (mTakN B (sN N 4 0 0) 0 2) 1 o)) H := hP
  have hD : va_D A (mw hm a cA (mFol (mRaise (mTakB (mTakB B 0 2) 1 o) 2 false) (mTakN (mTakB B 0 2) (mTakN B (sN N 4 0 0) 0 2) 1 o), mTakN (mTakB B 0 2) (mTakN B (sN N 4 0 0) 0 2) 1 o)) := hD
  refine lv_aload_n hx hb dX2_take_78 rfl (lv_at hl 2 rfl) ?_
  refine va_get (D := (dC, dI)) (ci := 2) (v := .ref (a 5)) (C := RX2) (T := TX2) (N := 14) hx hb hts hin_RX2 hown hK hP 0 rfl rfl 6 (by decide) hlk_26 (fun _ h9 => h9) rfl dX2_take_79 ?_
  refine lv_iconst (v := nI 1) hx hb dX2_take_82 (by decide) ?_
  refine xn_ld (f := (mTakN (mTakB B 0 2) (mTakN B (sN N 4 0 0) 0 2) 1 o) 1) (j := 1) hx hb hK hP 6 5 rfl rfl (by omega) (by decide) dX2_take_83 ?_
  refine lv_iload_n hx hb dX2_take_84 rfl (lv_at hl 0 rfl) ?_
  refine lv_iadd hx hb dX2_take_85 ?_
  refine xi_eq (y := nI (((mTakN (mTakB B 0 2) (mTakN B (sN N 4 0 0) 0 2) 1 o) 1 1) + o)) (nI_add _ _) ?_
  exact xc_iret (wf := mw hm a cA) hx hb hr hlocks dX2_take_86 hK hP hD hS  (congrArg nI (show ((mTakN (mTakB B 0 2) (mTakN B (sN N 4 0 0) 0 2) 1 o) 1 1) + o = _ from (by first | rfl | (simp only [hd, hd1, Bool.true_and, Bool.false_and, Bool.and_true, Bool.and_false, Bool.true_or, Bool.or_true, Bool.false_or, Bool.or_false, Bool.not_true, Bool.not_false, decide_true, decide_false, Option.isSome, not_true_eq_false, not_false_eq_true, if_true, if_false, reduceCtorEq, ↓reduceIte]; done) | (simp only [hd, hd1, Bool.true_and, Bool.false_and, Bool.and_true, Bool.and_false, Bool.true_or, Bool.or_true, Bool.false_or, Bool.or_false, Bool.not_true, Bool.not_false, decide_true, decide_false, Option.isSome, not_true_eq_false, not_false_eq_true, if_true, if_false, reduceCtorEq, ↓reduceIte]; rfl) | (simp_all; done)))) (by first | rfl | (simp only [hd, hd1, Bool.true_and, Bool.false_and, Bool.and_true, Bool.and_false, Bool.true_or, Bool.or_true, Bool.false_or, Bool.or_false, Bool.not_true, Bool.not_false, decide_true, decide_false, Option.isSome, not_true_eq_false, not_false_eq_true, if_true, if_false, reduceCtorEq, ↓reduceIte]; done) | (simp only [hd, hd1, Bool.true_and, Bool.false_and, Bool.and_true, Bool.and_false, Bool.true_or, Bool.or_true, Bool.false_or, Bool.or_false, Bool.not_true, Bool.not_false, decide_true, decide_false, Option.isSome, not_true_eq_false, not_false_eq_true, if_true, if_false, reduceCtorEq, ↓reduceIte]; rfl) | (simp_all; done))

set_option maxHeartbeats 4000000 in
set_option maxRecDepth 100000 in
theorem c2_delivers_ok (l : Launch) (dC : Nat → ClassId) (dI : Nat → Nat → Nat) (hm : Nat) (a : Nat → Nat) (cA : Nat → ClassId) (sz : Nat) (B : Nat → Nat → Bool) (N : Nat → Nat → Nat) (c : Nat) (hc : c < 2) (hN : ∀ c, c < 2 → N 0 c < 8) : xc_M l yX2_delivers wsX2_delivers ({ frames := 3, cells := 0, slots := 0, locals := 69 }) [.ref hm, .int (nI c)] sz (dC, dI) vwCl (mtys cA) [] (mw hm a cA (B, N)) (some (.int (oI (mDel B (sN N 4 0 0) c)))) (mw hm a cA (B, sN N 4 0 0)) 0 0 := by
  refine Met.ofW (cc := cX2_delivers) (maxL := 2) (ret := (some .int)) (by decide) rfl ?_
  intro p e s m args below meth cd s₁ B₀ hml hv
  obtain ⟨rfl, hsz, hP, hK, hD0, hZ⟩ := hv
  have hx := B₀.exec
  have hb := B₀.bytes
  have hr := B₀.returns
  have hts := atoms_spec (ws := wsX2_delivers) B₀.pre
  have hown : s.vm.findClass RX2 = some m.cls := findClass_of_methodNamed B₀.named
  have hlocks := B₀.notSynchronized
  subst hsz
  have hD := hD0.self (sz := s.heap.size)
  generalize hAe : va_A (mw hm a cA (B, N)) s.heap.size = A at hD ⊢
  have hA : ∀ q : Nat, s.heap.size ≤ q → A q := fun q h => by rw [← hAe]; exact Or.inr h
  have hS : va_S A s.heap s.heap [] := va_S.rf
  have hl := lv_entry ([.ref hm, .int (nI c)]) (n := 2) (Nat.le_of_ble_eq_true rfl)
  rw [lg_entry_eq]
  generalize (lg_sl ([.ref hm, .int (nI c)]) ++ List.replicate (2 - (lg_sl ([.ref hm, .int (nI c)])).length) Slot.unset).toArray = ls at hl ⊢
  have hl : lv_has ls 2 [(0, .ref hm), (1, .int (nI c))] := hl
  refine lv_aload_n hx hb dX2_delivers_0 rfl (lv_at hl 0 rfl) ?_
  refine lv_iload_n hx hb dX2_delivers_1 rfl (lv_at hl 1 rfl) ?_
  refine xr_call (st1 := [.int (bI (mIsC (nI c))), .ref hm]) (W.runS (As := [.int (nI c)]) (rest := [.ref hm]) ⟨hx, hb, hml, hown, hts⟩ (c2_isController l dC dI (nI c)) (cwS 1 hts (gd_S wa_c k_ml_X2_87 k_st_X2_isController k_in_X2 k_co_X2_isController) rfl rfl rfl (by decide +kernel) ⟨Nat.le_of_ble_eq_true rfl, Nat.le_of_ble_eq_true rfl⟩) (xr_preS (hK.sub (tys' := []) [] rfl) (hP.sub (ws' := []) [] rfl) xz_Z.nil) rfl rfl hl.1 rfl (lv_room (Nat.le_of_ble_eq_true rfl)) dX2_delivers_2 ⟨Nat.zero_le _, Nat.zero_le _⟩) rfl ?_
  refine xi_eq (y := bI true) (congrArg bI (mIsC_ok hc)) ?_
  refine lv_iconst (v := nI 1) hx hb dX2_delivers_5 (by decide) ?_
  refine xc_call (wc := mw hm a cA (B, N)) (wr := []) (st1 := [.int (bI true)]) (va_runV (As := [.int (bI true), .int (bI true)]) (rest := []) ⟨hx, hb, hml, hown, hts⟩ (c2_goes l dC dI hm a cA s.heap.size B N true true) (cwV 2 hts (gd_V wa_c k_ml_X2_70 k_im_X2_goes k_se_X2_goes k_in_X2 k_co_X2_goes) rfl rfl rfl (by decide +kernel) ⟨Nat.le_of_ble_eq_true rfl, Nat.le_of_ble_eq_true rfl⟩) (xc_preV (q0 := 0) (C := RX2) hK hP hD xz_Z.nil rfl rfl) rfl rfl hl.1 rfl (lv_room (Nat.le_of_ble_eq_true rfl)) dX2_delivers_6 ⟨Nat.zero_le _, Nat.zero_le _⟩) hP hD hS hA [0, 1, 2, 3, 4, 5, 6, 7, 8, 9, 10] [] rfl rfl (by decide) (by decide) rfl (fun H locs hP hD hS _ => ?_)
  have hP : va_P (dC, dI) vwCl (mw hm a cA (B, sN N 4 0 0)) H := hP
  have hD : va_D A (mw hm a cA (B, sN N 4 0 0)) := hD
  refine xb_if_eq (b := true) (tgt := 20) hx hb dX2_delivers_9 (by decide) (fun h => absurd (h.symm.trans rfl) (by decide)) (fun _ => ?_)
  refine lv_aload_n hx hb dX2_delivers_12 rfl (lv_at hl 0 rfl) ?_
  refine lv_iload_n hx hb dX2_delivers_13 rfl (lv_at hl 1 rfl) ?_
  refine xr_call (st1 := [.int (oI (mDel B (sN N 4 0 0) c))]) (W.runV (As := [.int (nI c)]) (rest := []) ⟨hx, hb, hml, hown, hts⟩ (c2_delivered l dC dI hm a cA B (sN N 4 0 0) c (by omega) hN) (cwV 1 hts (gd_V wa_c k_ml_X2_59 k_im_X2_delivered k_se_X2_delivered k_in_X2 k_co_X2_delivered) rfl rfl rfl (by decide +kernel) ⟨Nat.le_of_ble_eq_true rfl, Nat.le_of_ble_eq_true rfl⟩) (xr_preV (q0 := 0) (C := RX2) hK hP xz_Z.nil rfl rfl) rfl rfl hl.1 rfl (lv_room (Nat.le_of_ble_eq_true rfl)) dX2_delivers_14 ⟨Nat.zero_le _, Nat.zero_le _⟩) rfl ?_
  refine lv_goto (tgt := 21) hx hb dX2_delivers_17 (by decide) ?_
  exact xc_iret (wf := mw hm a cA) hx hb hr hlocks dX2_delivers_21 hK hP hD hS  (congrArg oI (show mDel B (sN N 4 0 0) c = _ from (by first | rfl | (simp only [(mIsC_ok hc), Bool.true_and, Bool.false_and, Bool.and_true, Bool.and_false, Bool.true_or, Bool.or_true, Bool.false_or, Bool.or_false, Bool.not_true, Bool.not_false, decide_true, decide_false, Option.isSome, not_true_eq_false, not_false_eq_true, if_true, if_false, reduceCtorEq, ↓reduceIte]; done) | (simp only [(mIsC_ok hc), Bool.true_and, Bool.false_and, Bool.and_true, Bool.and_false, Bool.true_or, Bool.or_true, Bool.false_or, Bool.or_false, Bool.not_true, Bool.not_false, decide_true, decide_false, Option.isSome, not_true_eq_false, not_false_eq_true, if_true, if_false, reduceCtorEq, ↓reduceIte]; rfl) | (simp_all; done)))) (by first | rfl | (simp only [(mIsC_ok hc), Bool.true_and, Bool.false_and, Bool.and_true, Bool.and_false, Bool.true_or, Bool.or_true, Bool.false_or, Bool.or_false, Bool.not_true, Bool.not_false, decide_true, decide_false, Option.isSome, not_true_eq_false, not_false_eq_true, if_true, if_false, reduceCtorEq, ↓reduceIte]; done) | (simp only [(mIsC_ok hc), Bool.true_and, Bool.false_and, Bool.and_true, Bool.and_false, Bool.true_or, Bool.or_true, Bool.false_or, Bool.or_false, Bool.not_true, Bool.not_false, decide_true, decide_false, Option.isSome, not_true_eq_false, not_false_eq_true, if_true, if_false, reduceCtorEq, ↓reduceIte]; rfl) | (simp_all; done))

set_option maxHeartbeats 4000000 in
set_option maxRecDepth 100000 in
theorem c2_delivers_bad (l : Launch) (dC : Nat → ClassId) (dI : Nat → Nat → Nat) (hm : Nat) (a : Nat → Nat) (cA : Nat → ClassId) (sz : Nat) (B : Nat → Nat → Bool) (N : Nat → Nat → Nat) (y : Int32) (hbad : mIsC y = false) : xc_M l yX2_delivers wsX2_delivers ({ frames := 3, cells := 0, slots := 0, locals := 69 }) [.ref hm, .int y] sz (dC, dI) vwCl (mtys cA) [] (mw hm a cA (B, N)) (some (.int (nI 0))) (mw hm a cA (B, sN N 4 0 1)) 0 0 := by
  refine Met.ofW (cc := cX2_delivers) (maxL := 2) (ret := (some .int)) (by decide) rfl ?_
  intro p e s m args below meth cd s₁ B₀ hml hv
  obtain ⟨rfl, hsz, hP, hK, hD0, hZ⟩ := hv
  have hx := B₀.exec
  have hb := B₀.bytes
  have hr := B₀.returns
  have hts := atoms_spec (ws := wsX2_delivers) B₀.pre
  have hown : s.vm.findClass RX2 = some m.cls := findClass_of_methodNamed B₀.named
  have hlocks := B₀.notSynchronized
  subst hsz
  have hD := hD0.self (sz := s.heap.size)
  generalize hAe : va_A (mw hm a cA (B, N)) s.heap.size = A at hD ⊢
  have hA : ∀ q : Nat, s.heap.size ≤ q → A q := fun q h => by rw [← hAe]; exact Or.inr h
  have hS : va_S A s.heap s.heap [] := va_S.rf
  have hl := lv_entry ([.ref hm, .int y]) (n := 2) (Nat.le_of_ble_eq_true rfl)
  rw [lg_entry_eq]
  generalize (lg_sl ([.ref hm, .int y]) ++ List.replicate (2 - (lg_sl ([.ref hm, .int y])).length) Slot.unset).toArray = ls at hl ⊢
  have hl : lv_has ls 2 [(0, .ref hm), (1, .int y)] := hl
  refine lv_aload_n hx hb dX2_delivers_0 rfl (lv_at hl 0 rfl) ?_
  refine lv_iload_n hx hb dX2_delivers_1 rfl (lv_at hl 1 rfl) ?_
  refine xr_call (st1 := [.int (bI (mIsC y)), .ref hm]) (W.runS (As := [.int y]) (rest := [.ref hm]) ⟨hx, hb, hml, hown, hts⟩ (c2_isController l dC dI y) (cwS 1 hts (gd_S wa_c k_ml_X2_87 k_st_X2_isController k_in_X2 k_co_X2_isController) rfl rfl rfl (by decide +kernel) ⟨Nat.le_of_ble_eq_true rfl, Nat.le_of_ble_eq_true rfl⟩) (xr_preS (hK.sub (tys' := []) [] rfl) (hP.sub (ws' := []) [] rfl) xz_Z.nil) rfl rfl hl.1 rfl (lv_room (Nat.le_of_ble_eq_true rfl)) dX2_delivers_2 ⟨Nat.zero_le _, Nat.zero_le _⟩) rfl ?_
  refine xi_eq (y := bI false) (congrArg bI hbad) ?_
  refine lv_iconst (v := nI 1) hx hb dX2_delivers_5 (by decide) ?_
  refine xc_call (wc := mw hm a cA (B, N)) (wr := []) (st1 := [.int (bI false)]) (va_runV (As := [.int (bI false), .int (bI true)]) (rest := []) ⟨hx, hb, hml, hown, hts⟩ (c2_goes l dC dI hm a cA s.heap.size B N false true) (cwV 2 hts (gd_V wa_c k_ml_X2_70 k_im_X2_goes k_se_X2_goes k_in_X2 k_co_X2_goes) rfl rfl rfl (by decide +kernel) ⟨Nat.le_of_ble_eq_true rfl, Nat.le_of_ble_eq_true rfl⟩) (xc_preV (q0 := 0) (C := RX2) hK hP hD xz_Z.nil rfl rfl) rfl rfl hl.1 rfl (lv_room (Nat.le_of_ble_eq_true rfl)) dX2_delivers_6 ⟨Nat.zero_le _, Nat.zero_le _⟩) hP hD hS hA [0, 1, 2, 3, 4, 5, 6, 7, 8, 9, 10] [] rfl rfl (by decide) (by decide) rfl (fun H locs hP hD hS _ => ?_)
  have hP : va_P (dC, dI) vwCl (mw hm a cA (B, sN N 4 0 1)) H := hP
  have hD : va_D A (mw hm a cA (B, sN N 4 0 1)) := hD
  refine xb_if_eq (b := false) (tgt := 20) hx hb dX2_delivers_9 (by decide) (fun _ => ?_) (fun h => absurd (h.symm.trans rfl) (by decide))
  refine lv_iconst (v := nI 0) hx hb dX2_delivers_20 (by decide) ?_
  exact xc_iret (wf := mw hm a cA) hx hb hr hlocks dX2_delivers_21 hK hP hD hS  (congrArg nI (show 0 = _ from (by first | rfl | (simp only [hbad, Bool.true_and, Bool.false_and, Bool.and_true, Bool.and_false, Bool.true_or, Bool.or_true, Bool.false_or, Bool.or_false, Bool.not_true, Bool.not_false, decide_true, decide_false, Option.isSome, not_true_eq_false, not_false_eq_true, if_true, if_false, reduceCtorEq, ↓reduceIte]; done) | (simp only [hbad, Bool.true_and, Bool.false_and, Bool.and_true, Bool.and_false, Bool.true_or, Bool.or_true, Bool.false_or, Bool.or_false, Bool.not_true, Bool.not_false, decide_true, decide_false, Option.isSome, not_true_eq_false, not_false_eq_true, if_true, if_false, reduceCtorEq, ↓reduceIte]; rfl) | (simp_all; done)))) (by first | rfl | (simp only [hbad, Bool.true_and, Bool.false_and, Bool.and_true, Bool.and_false, Bool.true_or, Bool.or_true, Bool.false_or, Bool.or_false, Bool.not_true, Bool.not_false, decide_true, decide_false, Option.isSome, not_true_eq_false, not_false_eq_true, if_true, if_false, reduceCtorEq, ↓reduceIte]; done) | (simp only [hbad, Bool.true_and, Bool.false_and, Bool.and_true, Bool.and_false, Bool.true_or, Bool.or_true, Bool.false_or, Bool.or_false, Bool.not_true, Bool.not_false, decide_true, decide_false, Option.isSome, not_true_eq_false, not_false_eq_true, if_true, if_false, reduceCtorEq, ↓reduceIte]; rfl) | (simp_all; done))

set_option maxHeartbeats 4000000 in
set_option maxRecDepth 100000 in
theorem c2_count_ok0 (l : Launch) (dC : Nat → ClassId) (dI : Nat → Nat → Nat) (hm : Nat) (a : Nat → Nat) (cA : Nat → ClassId) (sz : Nat) (B : Nat → Nat → Bool) (N : Nat → Nat → Nat) : xc_M l yX2_count wsX2_count ({ frames := 1, cells := 0, slots := 0, locals := 22 }) [.ref hm, .int (nI 0)] sz (dC, dI) vwCl (mtys cA) [] (mw hm a cA (B, N)) (some (.int (nI (N 4 1)))) (mw hm a cA (B, sN N 4 0 0)) 0 0 := by
  refine Met.ofW (cc := cX2_count) (maxL := 2) (ret := (some .int)) (by decide) rfl ?_
  intro p e s m args below meth cd s₁ B₀ hml hv
  obtain ⟨rfl, hsz, hP, hK, hD0, hZ⟩ := hv
  have hx := B₀.exec
  have hb := B₀.bytes
  have hr := B₀.returns
  have hts := atoms_spec (ws := wsX2_count) B₀.pre
  have hown : s.vm.findClass RX2 = some m.cls := findClass_of_methodNamed B₀.named
  have hlocks := B₀.notSynchronized
  subst hsz
  have hD := hD0.self (sz := s.heap.size)
  generalize hAe : va_A (mw hm a cA (B, N)) s.heap.size = A at hD ⊢
  have hA : ∀ q : Nat, s.heap.size ≤ q → A q := fun q h => by rw [← hAe]; exact Or.inr h
  have hS : va_S A s.heap s.heap [] := va_S.rf
  have hin_RX2 : ∀ w ∈ u_ws RX2 TX2 14, w ∈ wsX2_count := fun w h => List.mem_cons_of_mem _ (u_X2 w h)
  have hlk_67 := hts _ (List.mem_cons_of_mem _ k_fl_X2_67)
  have hlk_80 := hts _ (List.mem_cons_of_mem _ k_fl_X2_80)
  have hlk_110 := hts _ (List.mem_cons_of_mem _ k_fl_X2_110)
  have hl := lv_entry ([.ref hm, .int (nI 0)]) (n := 2) (Nat.le_of_ble_eq_true rfl)
  rw [lg_entry_eq]
  generalize (lg_sl ([.ref hm, .int (nI 0)]) ++ List.replicate (2 - (lg_sl ([.ref hm, .int (nI 0)])).length) Slot.unset).toArray = ls at hl ⊢
  have hl : lv_has ls 2 [(0, .ref hm), (1, .int (nI 0))] := hl
  refine lv_aload_n hx hb dX2_count_0 rfl (lv_at hl 0 rfl) ?_
  refine lv_iload_n hx hb dX2_count_1 rfl (lv_at hl 1 rfl) ?_
  refine xn_if_lt (x := 0) (tgt := 14) (by omega) hx hb dX2_count_2 (by decide) ?_
  refine lv_iload_n hx hb dX2_count_5 rfl (lv_at hl 1 rfl) ?_
  refine lv_iconst (v := nI 2) hx hb dX2_count_6 (by decide) ?_
  refine xn_icmp_gt (x := 0) (y := 2) (tgt := 14) (by omega) (by omega) hx hb dX2_count_7 (by decide) (fun h => absurd h (by decide)) (fun _ => ?_)
  refine lv_iconst (v := nI 1) hx hb dX2_count_10 (by decide) ?_
  refine lv_goto (tgt := 15) hx hb dX2_count_11 (by decide) ?_
  refine lv_iconst (v := nI 1) hx hb dX2_count_15 (by decide) ?_
  refine xc_call (wc := mw hm a cA (B, N)) (wr := []) (st1 := [.int (bI true)]) (va_runV (As := [.int (bI true), .int (bI true)]) (rest := []) ⟨hx, hb, hml, hown, hts⟩ (c2_goes l dC dI hm a cA s.heap.size B N true true) (cwV 2 hts (gd_V wa_c k_ml_X2_70 k_im_X2_goes k_se_X2_goes k_in_X2 k_co_X2_goes) rfl rfl rfl (by decide +kernel) ⟨Nat.le_of_ble_eq_true rfl, Nat.le_of_ble_eq_true rfl⟩) (xc_preV (q0 := 0) (C := RX2) hK hP hD xz_Z.nil rfl rfl) rfl rfl hl.1 rfl (lv_room (Nat.le_of_ble_eq_true rfl)) dX2_count_16 ⟨Nat.zero_le _, Nat.zero_le _⟩) hP hD hS hA [0, 1, 2, 3, 4, 5, 6, 7, 8, 9, 10] [] rfl rfl (by decide) (by decide) rfl (fun H locs hP hD hS _ => ?_)
  have hP : va_P (dC, dI) vwCl (mw hm a cA (B, sN N 4 0 0)) H := hP
  have hD : va_D A (mw hm a cA (B, sN N 4 0 0)) := hD
  refine xb_if_ne (b := true) (tgt := 24) hx hb dX2_count_19 (by decide) (fun _ => ?_) (fun h => absurd (h.symm.trans rfl) (by decide))
  refine lv_iload_n hx hb dX2_count_24 rfl (lv_at hl 1 rfl) ?_
  refine xn_if_ne (x := 0) (tgt := 35) (by omega) hx hb dX2_count_25 (by decide) (fun h => absurd (by decide) h) (fun _ => ?_)
  refine lv_aload_n hx hb dX2_count_28 rfl (lv_at hl 0 rfl) ?_
  refine va_get (D := (dC, dI)) (ci := 2) (v := .int (nI (N 4 1))) (C := RX2) (T := TX2) (N := 14) hx hb hts hin_RX2 hown hK hP 0 rfl rfl 11 (by decide) hlk_67 (fun _ h9 => h9) rfl dX2_count_29 ?_
  refine lv_goto (tgt := 51) hx hb dX2_count_32 (by decide) ?_
  exact xc_iret (wf := mw hm a cA) hx hb hr hlocks dX2_count_51 hK hP hD hS  (congrArg nI (show N 4 1 = _ from (by first | rfl | (simp only [Bool.true_and, Bool.false_and, Bool.and_true, Bool.and_false, Bool.true_or, Bool.or_true, Bool.false_or, Bool.or_false, Bool.not_true, Bool.not_false, decide_true, decide_false, Option.isSome, not_true_eq_false, not_false_eq_true, if_true, if_false, reduceCtorEq, ↓reduceIte]; done) | (simp only [Bool.true_and, Bool.false_and, Bool.and_true, Bool.and_false, Bool.true_or, Bool.or_true, Bool.false_or, Bool.or_false, Bool.not_true, Bool.not_false, decide_true, decide_false, Option.isSome, not_true_eq_false, not_false_eq_true, if_true, if_false, reduceCtorEq, ↓reduceIte]; rfl) | (simp_all; done)))) (by first | rfl | (simp only [Bool.true_and, Bool.false_and, Bool.and_true, Bool.and_false, Bool.true_or, Bool.or_true, Bool.false_or, Bool.or_false, Bool.not_true, Bool.not_false, decide_true, decide_false, Option.isSome, not_true_eq_false, not_false_eq_true, if_true, if_false, reduceCtorEq, ↓reduceIte]; done) | (simp only [Bool.true_and, Bool.false_and, Bool.and_true, Bool.and_false, Bool.true_or, Bool.or_true, Bool.false_or, Bool.or_false, Bool.not_true, Bool.not_false, decide_true, decide_false, Option.isSome, not_true_eq_false, not_false_eq_true, if_true, if_false, reduceCtorEq, ↓reduceIte]; rfl) | (simp_all; done))

set_option maxHeartbeats 4000000 in
set_option maxRecDepth 100000 in
theorem c2_count_ok1 (l : Launch) (dC : Nat → ClassId) (dI : Nat → Nat → Nat) (hm : Nat) (a : Nat → Nat) (cA : Nat → ClassId) (sz : Nat) (B : Nat → Nat → Bool) (N : Nat → Nat → Nat) : xc_M l yX2_count wsX2_count ({ frames := 1, cells := 0, slots := 0, locals := 22 }) [.ref hm, .int (nI 1)] sz (dC, dI) vwCl (mtys cA) [] (mw hm a cA (B, N)) (some (.int (nI (N 4 2)))) (mw hm a cA (B, sN N 4 0 0)) 0 0 := by
  refine Met.ofW (cc := cX2_count) (maxL := 2) (ret := (some .int)) (by decide) rfl ?_
  intro p e s m args below meth cd s₁ B₀ hml hv
  obtain ⟨rfl, hsz, hP, hK, hD0, hZ⟩ := hv
  have hx := B₀.exec
  have hb := B₀.bytes
  have hr := B₀.returns
  have hts := atoms_spec (ws := wsX2_count) B₀.pre
  have hown : s.vm.findClass RX2 = some m.cls := findClass_of_methodNamed B₀.named
  have hlocks := B₀.notSynchronized
  subst hsz
  have hD := hD0.self (sz := s.heap.size)
  generalize hAe : va_A (mw hm a cA (B, N)) s.heap.size = A at hD ⊢
  have hA : ∀ q : Nat, s.heap.size ≤ q → A q := fun q h => by rw [← hAe]; exact Or.inr h
  have hS : va_S A s.heap s.heap [] := va_S.rf
  have hin_RX2 : ∀ w ∈ u_ws RX2 TX2 14, w ∈ wsX2_count := fun w h => List.mem_cons_of_mem _ (u_X2 w h)
  have hlk_67 := hts _ (List.mem_cons_of_mem _ k_fl_X2_67)
  have hlk_80 := hts _ (List.mem_cons_of_mem _ k_fl_X2_80)
  have hlk_110 := hts _ (List.mem_cons_of_mem _ k_fl_X2_110)
  have hl := lv_entry ([.ref hm, .int (nI 1)]) (n := 2) (Nat.le_of_ble_eq_true rfl)
  rw [lg_entry_eq]
  generalize (lg_sl ([.ref hm, .int (nI 1)]) ++ List.replicate (2 - (lg_sl ([.ref hm, .int (nI 1)])).length) Slot.unset).toArray = ls at hl ⊢
  have hl : lv_has ls 2 [(0, .ref hm), (1, .int (nI 1))] := hl
  refine lv_aload_n hx hb dX2_count_0 rfl (lv_at hl 0 rfl) ?_
  refine lv_iload_n hx hb dX2_count_1 rfl (lv_at hl 1 rfl) ?_
  refine xn_if_lt (x := 1) (tgt := 14) (by omega) hx hb dX2_count_2 (by decide) ?_
  refine lv_iload_n hx hb dX2_count_5 rfl (lv_at hl 1 rfl) ?_
  refine lv_iconst (v := nI 2) hx hb dX2_count_6 (by decide) ?_
  refine xn_icmp_gt (x := 1) (y := 2) (tgt := 14) (by omega) (by omega) hx hb dX2_count_7 (by decide) (fun h => absurd h (by decide)) (fun _ => ?_)
  refine lv_iconst (v := nI 1) hx hb dX2_count_10 (by decide) ?_
  refine lv_goto (tgt := 15) hx hb dX2_count_11 (by decide) ?_
  refine lv_iconst (v := nI 1) hx hb dX2_count_15 (by decide) ?_
  refine xc_call (wc := mw hm a cA (B, N)) (wr := []) (st1 := [.int (bI true)]) (va_runV (As := [.int (bI true), .int (bI true)]) (rest := []) ⟨hx, hb, hml, hown, hts⟩ (c2_goes l dC dI hm a cA s.heap.size B N true true) (cwV 2 hts (gd_V wa_c k_ml_X2_70 k_im_X2_goes k_se_X2_goes k_in_X2 k_co_X2_goes) rfl rfl rfl (by decide +kernel) ⟨Nat.le_of_ble_eq_true rfl, Nat.le_of_ble_eq_true rfl⟩) (xc_preV (q0 := 0) (C := RX2) hK hP hD xz_Z.nil rfl rfl) rfl rfl hl.1 rfl (lv_room (Nat.le_of_ble_eq_true rfl)) dX2_count_16 ⟨Nat.zero_le _, Nat.zero_le _⟩) hP hD hS hA [0, 1, 2, 3, 4, 5, 6, 7, 8, 9, 10] [] rfl rfl (by decide) (by decide) rfl (fun H locs hP hD hS _ => ?_)
  have hP : va_P (dC, dI) vwCl (mw hm a cA (B, sN N 4 0 0)) H := hP
  have hD : va_D A (mw hm a cA (B, sN N 4 0 0)) := hD
  refine xb_if_ne (b := true) (tgt := 24) hx hb dX2_count_19 (by decide) (fun _ => ?_) (fun h => absurd (h.symm.trans rfl) (by decide))
  refine lv_iload_n hx hb dX2_count_24 rfl (lv_at hl 1 rfl) ?_
  refine xn_if_ne (x := 1) (tgt := 35) (by omega) hx hb dX2_count_25 (by decide) (fun _ => ?_) (fun h => absurd h (by decide))
  refine lv_iload_n hx hb dX2_count_35 rfl (lv_at hl 1 rfl) ?_
  refine lv_iconst (v := nI 1) hx hb dX2_count_36 (by decide) ?_
  refine xn_icmp_ne (x := 1) (y := 1) (tgt := 47) (by omega) (by omega) hx hb dX2_count_37 (by decide) (fun h => absurd (by decide) h) (fun _ => ?_)
  refine lv_aload_n hx hb dX2_count_40 rfl (lv_at hl 0 rfl) ?_
  refine va_get (D := (dC, dI)) (ci := 2) (v := .int (nI (N 4 2))) (C := RX2) (T := TX2) (N := 14) hx hb hts hin_RX2 hown hK hP 0 rfl rfl 12 (by decide) hlk_110 (fun _ h9 => h9) rfl dX2_count_41 ?_
  refine lv_goto (tgt := 51) hx hb dX2_count_44 (by decide) ?_
  exact xc_iret (wf := mw hm a cA) hx hb hr hlocks dX2_count_51 hK hP hD hS  (congrArg nI (show N 4 2 = _ from (by first | rfl | (simp only [Bool.true_and, Bool.false_and, Bool.and_true, Bool.and_false, Bool.true_or, Bool.or_true, Bool.false_or, Bool.or_false, Bool.not_true, Bool.not_false, decide_true, decide_false, Option.isSome, not_true_eq_false, not_false_eq_true, if_true, if_false, reduceCtorEq, ↓reduceIte]; done) | (simp only [Bool.true_and, Bool.false_and, Bool.and_true, Bool.and_false, Bool.true_or, Bool.or_true, Bool.false_or, Bool.or_false, Bool.not_true, Bool.not_false, decide_true, decide_false, Option.isSome, not_true_eq_false, not_false_eq_true, if_true, if_false, reduceCtorEq, ↓reduceIte]; rfl) | (simp_all; done)))) (by first | rfl | (simp only [Bool.true_and, Bool.false_and, Bool.and_true, Bool.and_false, Bool.true_or, Bool.or_true, Bool.false_or, Bool.or_false, Bool.not_true, Bool.not_false, decide_true, decide_false, Option.isSome, not_true_eq_false, not_false_eq_true, if_true, if_false, reduceCtorEq, ↓reduceIte]; done) | (simp only [Bool.true_and, Bool.false_and, Bool.and_true, Bool.and_false, Bool.true_or, Bool.or_true, Bool.false_or, Bool.or_false, Bool.not_true, Bool.not_false, decide_true, decide_false, Option.isSome, not_true_eq_false, not_false_eq_true, if_true, if_false, reduceCtorEq, ↓reduceIte]; rfl) | (simp_all; done))

set_option maxHeartbeats 4000000 in
set_option maxRecDepth 100000 in
theorem c2_count_ok2 (l : Launch) (dC : Nat → ClassId) (dI : Nat → Nat → Nat) (hm : Nat) (a : Nat → Nat) (cA : Nat → ClassId) (sz : Nat) (B : Nat → Nat → Bool) (N : Nat → Nat → Nat) : xc_M l yX2_count wsX2_count ({ frames := 1, cells := 0, slots := 0, locals := 22 }) [.ref hm, .int (nI 2)] sz (dC, dI) vwCl (mtys cA) [] (mw hm a cA (B, N)) (some (.int (nI (N 4 3)))) (mw hm a cA (B, sN N 4 0 0)) 0 0 := by
  refine Met.ofW (cc := cX2_count) (maxL := 2) (ret := (some .int)) (by decide) rfl ?_
  intro p e s m args below meth cd s₁ B₀ hml hv
  obtain ⟨rfl, hsz, hP, hK, hD0, hZ⟩ := hv
  have hx := B₀.exec
  have hb := B₀.bytes
  have hr := B₀.returns
  have hts := atoms_spec (ws := wsX2_count) B₀.pre
  have hown : s.vm.findClass RX2 = some m.cls := findClass_of_methodNamed B₀.named
  have hlocks := B₀.notSynchronized
  subst hsz
  have hD := hD0.self (sz := s.heap.size)
  generalize hAe : va_A (mw hm a cA (B, N)) s.heap.size = A at hD ⊢
  have hA : ∀ q : Nat, s.heap.size ≤ q → A q := fun q h => by rw [← hAe]; exact Or.inr h
  have hS : va_S A s.heap s.heap [] := va_S.rf
  have hin_RX2 : ∀ w ∈ u_ws RX2 TX2 14, w ∈ wsX2_count := fun w h => List.mem_cons_of_mem _ (u_X2 w h)
  have hlk_67 := hts _ (List.mem_cons_of_mem _ k_fl_X2_67)
  have hlk_80 := hts _ (List.mem_cons_of_mem _ k_fl_X2_80)
  have hlk_110 := hts _ (List.mem_cons_of_mem _ k_fl_X2_110)
  have hl := lv_entry ([.ref hm, .int (nI 2)]) (n := 2) (Nat.le_of_ble_eq_true rfl)
  rw [lg_entry_eq]
  generalize (lg_sl ([.ref hm, .int (nI 2)]) ++ List.replicate (2 - (lg_sl ([.ref hm, .int (nI 2)])).length) Slot.unset).toArray = ls at hl ⊢
  have hl : lv_has ls 2 [(0, .ref hm), (1, .int (nI 2))] := hl
  refine lv_aload_n hx hb dX2_count_0 rfl (lv_at hl 0 rfl) ?_
  refine lv_iload_n hx hb dX2_count_1 rfl (lv_at hl 1 rfl) ?_
  refine xn_if_lt (x := 2) (tgt := 14) (by omega) hx hb dX2_count_2 (by decide) ?_
  refine lv_iload_n hx hb dX2_count_5 rfl (lv_at hl 1 rfl) ?_
  refine lv_iconst (v := nI 2) hx hb dX2_count_6 (by decide) ?_
  refine xn_icmp_gt (x := 2) (y := 2) (tgt := 14) (by omega) (by omega) hx hb dX2_count_7 (by decide) (fun h => absurd h (by decide)) (fun _ => ?_)
  refine lv_iconst (v := nI 1) hx hb dX2_count_10 (by decide) ?_
  refine lv_goto (tgt := 15) hx hb dX2_count_11 (by decide) ?_
  refine lv_iconst (v := nI 1) hx hb dX2_count_15 (by decide) ?_
  refine xc_call (wc := mw hm a cA (B, N)) (wr := []) (st1 := [.int (bI true)]) (va_runV (As := [.int (bI true), .int (bI true)]) (rest := []) ⟨hx, hb, hml, hown, hts⟩ (c2_goes l dC dI hm a cA s.heap.size B N true true) (cwV 2 hts (gd_V wa_c k_ml_X2_70 k_im_X2_goes k_se_X2_goes k_in_X2 k_co_X2_goes) rfl rfl rfl (by decide +kernel) ⟨Nat.le_of_ble_eq_true rfl, Nat.le_of_ble_eq_true rfl⟩) (xc_preV (q0 := 0) (C := RX2) hK hP hD xz_Z.nil rfl rfl) rfl rfl hl.1 rfl (lv_room (Nat.le_of_ble_eq_true rfl)) dX2_count_16 ⟨Nat.zero_le _, Nat.zero_le _⟩) hP hD hS hA [0, 1, 2, 3, 4, 5, 6, 7, 8, 9, 10] [] rfl rfl (by decide) (by decide) rfl (fun H locs hP hD hS _ => ?_)
  have hP : va_P (dC, dI) vwCl (mw hm a cA (B, sN N 4 0 0)) H := hP
  have hD : va_D A (mw hm a cA (B, sN N 4 0 0)) := hD
  refine xb_if_ne (b := true) (tgt := 24) hx hb dX2_count_19 (by decide) (fun _ => ?_) (fun h => absurd (h.symm.trans rfl) (by decide))
  refine lv_iload_n hx hb dX2_count_24 rfl (lv_at hl 1 rfl) ?_
  refine xn_if_ne (x := 2) (tgt := 35) (by omega) hx hb dX2_count_25 (by decide) (fun _ => ?_) (fun h => absurd h (by decide))
  refine lv_iload_n hx hb dX2_count_35 rfl (lv_at hl 1 rfl) ?_
  refine lv_iconst (v := nI 1) hx hb dX2_count_36 (by decide) ?_
  refine xn_icmp_ne (x := 2) (y := 1) (tgt := 47) (by omega) (by omega) hx hb dX2_count_37 (by decide) (fun _ => ?_) (fun h => absurd h (by decide))
  refine lv_aload_n hx hb dX2_count_47 rfl (lv_at hl 0 rfl) ?_
  refine va_get (D := (dC, dI)) (ci := 2) (v := .int (nI (N 4 3))) (C := RX2) (T := TX2) (N := 14) hx hb hts hin_RX2 hown hK hP 0 rfl rfl 13 (by decide) hlk_80 (fun _ h9 => h9) rfl dX2_count_48 ?_
  exact xc_iret (wf := mw hm a cA) hx hb hr hlocks dX2_count_51 hK hP hD hS  (congrArg nI (show N 4 3 = _ from (by first | rfl | (simp only [Bool.true_and, Bool.false_and, Bool.and_true, Bool.and_false, Bool.true_or, Bool.or_true, Bool.false_or, Bool.or_false, Bool.not_true, Bool.not_false, decide_true, decide_false, Option.isSome, not_true_eq_false, not_false_eq_true, if_true, if_false, reduceCtorEq, ↓reduceIte]; done) | (simp only [Bool.true_and, Bool.false_and, Bool.and_true, Bool.and_false, Bool.true_or, Bool.or_true, Bool.false_or, Bool.or_false, Bool.not_true, Bool.not_false, decide_true, decide_false, Option.isSome, not_true_eq_false, not_false_eq_true, if_true, if_false, reduceCtorEq, ↓reduceIte]; rfl) | (simp_all; done)))) (by first | rfl | (simp only [Bool.true_and, Bool.false_and, Bool.and_true, Bool.and_false, Bool.true_or, Bool.or_true, Bool.false_or, Bool.or_false, Bool.not_true, Bool.not_false, decide_true, decide_false, Option.isSome, not_true_eq_false, not_false_eq_true, if_true, if_false, reduceCtorEq, ↓reduceIte]; done) | (simp only [Bool.true_and, Bool.false_and, Bool.and_true, Bool.and_false, Bool.true_or, Bool.or_true, Bool.false_or, Bool.or_false, Bool.not_true, Bool.not_false, decide_true, decide_false, Option.isSome, not_true_eq_false, not_false_eq_true, if_true, if_false, reduceCtorEq, ↓reduceIte]; rfl) | (simp_all; done))

set_option maxHeartbeats 4000000 in
set_option maxRecDepth 100000 in
theorem c2_count_bad (l : Launch) (dC : Nat → ClassId) (dI : Nat → Nat → Nat) (hm : Nat) (a : Nat → Nat) (cA : Nat → ClassId) (sz : Nat) (B : Nat → Nat → Bool) (N : Nat → Nat → Nat) (q : Int32) (hbad : q < 0 ∨ nI 2 < q) : xc_M l yX2_count wsX2_count ({ frames := 1, cells := 0, slots := 0, locals := 22 }) [.ref hm, .int q] sz (dC, dI) vwCl (mtys cA) [] (mw hm a cA (B, N)) (some (.int (nI 0))) (mw hm a cA (B, sN N 4 0 1)) 0 0 := by
  refine Met.ofW (cc := cX2_count) (maxL := 2) (ret := (some .int)) (by decide) rfl ?_
  intro p e s m args below meth cd s₁ B₀ hml hv
  obtain ⟨rfl, hsz, hP, hK, hD0, hZ⟩ := hv
  have hx := B₀.exec
  have hb := B₀.bytes
  have hr := B₀.returns
  have hts := atoms_spec (ws := wsX2_count) B₀.pre
  have hown : s.vm.findClass RX2 = some m.cls := findClass_of_methodNamed B₀.named
  have hlocks := B₀.notSynchronized
  subst hsz
  have hD := hD0.self (sz := s.heap.size)
  generalize hAe : va_A (mw hm a cA (B, N)) s.heap.size = A at hD ⊢
  have hA : ∀ q : Nat, s.heap.size ≤ q → A q := fun q h => by rw [← hAe]; exact Or.inr h
  have hS : va_S A s.heap s.heap [] := va_S.rf
  have hin_RX2 : ∀ w ∈ u_ws RX2 TX2 14, w ∈ wsX2_count := fun w h => List.mem_cons_of_mem _ (u_X2 w h)
  have hlk_67 := hts _ (List.mem_cons_of_mem _ k_fl_X2_67)
  have hlk_80 := hts _ (List.mem_cons_of_mem _ k_fl_X2_80)
  have hlk_110 := hts _ (List.mem_cons_of_mem _ k_fl_X2_110)
  have hl := lv_entry ([.ref hm, .int q]) (n := 2) (Nat.le_of_ble_eq_true rfl)
  rw [lg_entry_eq]
  generalize (lg_sl ([.ref hm, .int q]) ++ List.replicate (2 - (lg_sl ([.ref hm, .int q])).length) Slot.unset).toArray = ls at hl ⊢
  have hl : lv_has ls 2 [(0, .ref hm), (1, .int q)] := hl
  refine lv_aload_n hx hb dX2_count_0 rfl (lv_at hl 0 rfl) ?_
  refine xj_meet (pcJ := 15) (stJ := fun y => .int y :: [.ref hm]) (bI false) ?_ (fun J15 => ?_)
  · refine lv_iconst (v := nI 1) hx hb dX2_count_15 (by decide) ?_
    refine xc_call (wc := mw hm a cA (B, N)) (wr := []) (st1 := [.int (bI false)]) (va_runV (As := [.int (bI false), .int (bI true)]) (rest := []) ⟨hx, hb, hml, hown, hts⟩ (c2_goes l dC dI hm a cA s.heap.size B N false true) (cwV 2 hts (gd_V wa_c k_ml_X2_70 k_im_X2_goes k_se_X2_goes k_in_X2 k_co_X2_goes) rfl rfl rfl (by decide +kernel) ⟨Nat.le_of_ble_eq_true rfl, Nat.le_of_ble_eq_true rfl⟩) (xc_preV (q0 := 0) (C := RX2) hK hP hD xz_Z.nil rfl rfl) rfl rfl hl.1 rfl (lv_room (Nat.le_of_ble_eq_true rfl)) dX2_count_16 ⟨Nat.zero_le _, Nat.zero_le _⟩) hP hD hS hA [0, 1, 2, 3, 4, 5, 6, 7, 8, 9, 10] [] rfl rfl (by decide) (by decide) rfl (fun H locs hP hD hS _ => ?_)
    have hP : va_P (dC, dI) vwCl (mw hm a cA (B, sN N 4 0 1)) H := hP
    have hD : va_D A (mw hm a cA (B, sN N 4 0 1)) := hD
    refine xb_if_ne (b := false) (tgt := 24) hx hb dX2_count_19 (by decide) (fun h => absurd (h.symm.trans rfl) (by decide)) (fun _ => ?_)
    refine lv_iconst (v := nI 0) hx hb dX2_count_22 (by decide) ?_
    exact xc_iret (wf := mw hm a cA) hx hb hr hlocks dX2_count_23 hK hP hD hS  (congrArg nI (show 0 = _ from (by first | rfl | (simp only [Bool.true_and, Bool.false_and, Bool.and_true, Bool.and_false, Bool.true_or, Bool.or_true, Bool.false_or, Bool.or_false, Bool.not_true, Bool.not_false, decide_true, decide_false, Option.isSome, not_true_eq_false, not_false_eq_true, if_true, if_false, reduceCtorEq, ↓reduceIte]; done) | (simp only [Bool.true_and, Bool.false_and, Bool.and_true, Bool.and_false, Bool.true_or, Bool.or_true, Bool.false_or, Bool.or_false, Bool.not_true, Bool.not_false, decide_true, decide_false, Option.isSome, not_true_eq_false, not_false_eq_true, if_true, if_false, reduceCtorEq, ↓reduceIte]; rfl) | (simp_all; done)))) (by first | rfl | (simp only [Bool.true_and, Bool.false_and, Bool.and_true, Bool.and_false, Bool.true_or, Bool.or_true, Bool.false_or, Bool.or_false, Bool.not_true, Bool.not_false, decide_true, decide_false, Option.isSome, not_true_eq_false, not_false_eq_true, if_true, if_false, reduceCtorEq, ↓reduceIte]; done) | (simp only [Bool.true_and, Bool.false_and, Bool.and_true, Bool.and_false, Bool.true_or, Bool.or_true, Bool.false_or, Bool.or_false, Bool.not_true, Bool.not_false, decide_true, decide_false, Option.isSome, not_true_eq_false, not_false_eq_true, if_true, if_false, reduceCtorEq, ↓reduceIte]; rfl) | (simp_all; done))
  · refine lv_iload_n hx hb dX2_count_1 rfl (lv_at hl 1 rfl) ?_
    refine lv_if_lt (tgt := 14) hx hb dX2_count_2 (by decide) (fun h1 => ?_) (fun h1 => ?_)
    · refine lv_iconst (v := nI 0) hx hb dX2_count_14 (by decide) ?_
      exact J15 (bI false) (congrArg bI (show false = (false) from (by first | rfl | (simp only [if_pos h1, if_neg (not_not_intro h1), decide_eq_true h1, Bool.true_and, Bool.false_and, Bool.and_true, Bool.and_false, Bool.true_or, Bool.or_true, Bool.false_or, Bool.or_false, Bool.not_true, Bool.not_false, decide_true, decide_false, Option.isSome, not_true_eq_false, not_false_eq_true, if_true, if_false, reduceCtorEq, ↓reduceIte]; done) | (simp only [if_pos h1, if_neg (not_not_intro h1), decide_eq_true h1, Bool.true_and, Bool.false_and, Bool.and_true, Bool.and_false, Bool.true_or, Bool.or_true, Bool.false_or, Bool.or_false, Bool.not_true, Bool.not_false, decide_true, decide_false, Option.isSome, not_true_eq_false, not_false_eq_true, if_true, if_false, reduceCtorEq, ↓reduceIte]; rfl) | (simp_all; done))))
    · refine lv_iload_n hx hb dX2_count_5 rfl (lv_at hl 1 rfl) ?_
      refine lv_iconst (v := nI 2) hx hb dX2_count_6 (by decide) ?_
      refine lv_icmp_gt (tgt := 14) hx hb dX2_count_7 (by decide) (fun h2 => ?_) (fun h2 => ?_)
      · refine lv_iconst (v := nI 0) hx hb dX2_count_14 (by decide) ?_
        exact J15 (bI false) (congrArg bI (show false = (false) from (by first | rfl | (simp only [if_neg h1, if_pos h1, decide_eq_false h1, if_pos h2, if_neg (not_not_intro h2), decide_eq_true h2, Bool.true_and, Bool.false_and, Bool.and_true, Bool.and_false, Bool.true_or, Bool.or_true, Bool.false_or, Bool.or_false, Bool.not_true, Bool.not_false, decide_true, decide_false, Option.isSome, not_true_eq_false, not_false_eq_true, if_true, if_false, reduceCtorEq, ↓reduceIte]; done) | (simp only [if_neg h1, if_pos h1, decide_eq_false h1, if_pos h2, if_neg (not_not_intro h2), decide_eq_true h2, Bool.true_and, Bool.false_and, Bool.and_true, Bool.and_false, Bool.true_or, Bool.or_true, Bool.false_or, Bool.or_false, Bool.not_true, Bool.not_false, decide_true, decide_false, Option.isSome, not_true_eq_false, not_false_eq_true, if_true, if_false, reduceCtorEq, ↓reduceIte]; rfl) | (simp_all; done))))
      · refine lv_iconst (v := nI 1) hx hb dX2_count_10 (by decide) ?_
        refine lv_goto (tgt := 15) hx hb dX2_count_11 (by decide) ?_
        exact J15 (bI true) (congrArg bI (show true = (false) from (by first | rfl | (simp only [if_neg h1, if_pos h1, decide_eq_false h1, if_neg h2, if_pos h2, decide_eq_false h2, Bool.true_and, Bool.false_and, Bool.and_true, Bool.and_false, Bool.true_or, Bool.or_true, Bool.false_or, Bool.or_false, Bool.not_true, Bool.not_false, decide_true, decide_false, Option.isSome, not_true_eq_false, not_false_eq_true, if_true, if_false, reduceCtorEq, ↓reduceIte]; done) | (simp only [if_neg h1, if_pos h1, decide_eq_false h1, if_neg h2, if_pos h2, decide_eq_false h2, Bool.true_and, Bool.false_and, Bool.and_true, Bool.and_false, Bool.true_or, Bool.or_true, Bool.false_or, Bool.or_false, Bool.not_true, Bool.not_false, decide_true, decide_false, Option.isSome, not_true_eq_false, not_false_eq_true, if_true, if_false, reduceCtorEq, ↓reduceIte]; rfl) | (simp_all; done))))

