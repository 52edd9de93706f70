set_option maxHeartbeats 4000000 in
set_option maxRecDepth 100000 in
theorem c2_mode_ok0 (l : Launch) (dC : Nat → ClassId) (dI : Nat → Nat → Nat) (hm : Nat) (a : Nat → Nat) (cA : Nat → ClassId) (sz : Nat) (B : Nat → Nat → Bool) (N : Nat → Nat → Nat) (c : Nat) (hc : c < 2) : xc_M l yX2_mode wsX2_mode ({ frames := 1, cells := 0, slots := 0, locals := 22 }) [.ref hm, .int (nI c), .int (nI 0)] sz (dC, dI) vwCl (mtys cA) [] (mw hm a cA (B, N)) (some (.int (bI (B 4 (7 * c + 0))))) (mw hm a cA (B, sN N 4 0 0)) 0 0 := by
  refine Met.ofW (cc := cX2_mode) (maxL := 3) (ret := (some .boolean)) (by decide) rfl ?_
  intro p e s m args below meth cd s₁ B₀ hml hv
  obtain ⟨rfl, hsz, hP, hK, hD0, hZ⟩ := hv
  have hx := B₀.exec
  have hb := B₀.bytes
  have hr := B₀.returns
  have hts := atoms_spec (ws := wsX2_mode) B₀.pre
  have hown : s.vm.findClass RX2 = some m.cls := findClass_of_methodNamed B₀.named
  have hlocks := B₀.notSynchronized
  subst hsz
  have hD := hD0.self (sz := s.heap.size)
  generalize hAe : va_A (mw hm a cA (B, N)) s.heap.size = A at hD ⊢
  have hA : ∀ q : Nat, s.heap.size ≤ q → A q := fun q h => by rw [← hAe]; exact Or.inr h
  have hS : va_S A s.heap s.heap [] := va_S.rf
  have hl := lv_entry ([.ref hm, .int (nI c), .int (nI 0)]) (n := 3) (Nat.le_of_ble_eq_true rfl)
  rw [lg_entry_eq]
  generalize (lg_sl ([.ref hm, .int (nI c), .int (nI 0)]) ++ List.replicate (3 - (lg_sl ([.ref hm, .int (nI c), .int (nI 0)])).length) Slot.unset).toArray = ls at hl ⊢
  have hl : lv_has ls 3 [(0, .ref hm), (1, .int (nI c)), (2, .int (nI 0))] := hl
  refine lv_aload_n hx hb dX2_mode_0 rfl (lv_at hl 0 rfl) ?_
  refine lv_iload_n hx hb dX2_mode_1 rfl (lv_at hl 1 rfl) ?_
  refine xr_call (st1 := [.int (bI (mIsC (nI c))), .ref hm]) (W.runS (As := [.int (nI c)]) (rest := [.ref hm]) ⟨hx, hb, hml, hown, hts⟩ (c2_isController l dC dI (nI c)) (cwS 1 hts (gd_S wa_c k_ml_X2_87 k_st_X2_isController k_in_X2 k_co_X2_isController) rfl rfl rfl (by decide +kernel) ⟨Nat.le_of_ble_eq_true rfl, Nat.le_of_ble_eq_true rfl⟩) (xr_preS (hK.sub (tys' := []) [] rfl) (hP.sub (ws' := []) [] rfl) xz_Z.nil) rfl rfl hl.1 rfl (lv_room (Nat.le_of_ble_eq_true rfl)) dX2_mode_2 ⟨Nat.zero_le _, Nat.zero_le _⟩) rfl ?_
  refine xi_eq (y := bI true) (congrArg bI (mIsC_ok hc)) ?_
  refine lv_iload_n hx hb dX2_mode_5 rfl (lv_at hl 2 rfl) ?_
  refine xn_if_lt (x := 0) (tgt := 19) (by omega) hx hb dX2_mode_6 (by decide) ?_
  refine lv_iload_n hx hb dX2_mode_9 rfl (lv_at hl 2 rfl) ?_
  refine lv_bipush (v := nI 6) hx hb dX2_mode_10 (by decide) ?_
  refine xn_icmp_gt (x := 0) (y := 6) (tgt := 19) (by omega) (by omega) hx hb dX2_mode_12 (by decide) (fun h => absurd h (by decide)) (fun _ => ?_)
  refine lv_iconst (v := nI 1) hx hb dX2_mode_15 (by decide) ?_
  refine lv_goto (tgt := 20) hx hb dX2_mode_16 (by decide) ?_
  refine xc_call (wc := mw hm a cA (B, N)) (wr := []) (st1 := [.int (bI true)]) (va_runV (As := [.int (bI true), .int (bI true)]) (rest := []) ⟨hx, hb, hml, hown, hts⟩ (c2_goes l dC dI hm a cA s.heap.size B N true true) (cwV 2 hts (gd_V wa_c k_ml_X2_70 k_im_X2_goes k_se_X2_goes k_in_X2 k_co_X2_goes) rfl rfl rfl (by decide +kernel) ⟨Nat.le_of_ble_eq_true rfl, Nat.le_of_ble_eq_true rfl⟩) (xc_preV (q0 := 0) (C := RX2) hK hP hD xz_Z.nil rfl rfl) rfl rfl hl.1 rfl (lv_room (Nat.le_of_ble_eq_true rfl)) dX2_mode_20 ⟨Nat.zero_le _, Nat.zero_le _⟩) hP hD hS hA [0, 1, 2, 3, 4, 5, 6, 7, 8, 9, 10] [] rfl rfl (by decide) (by decide) rfl (fun H locs hP hD hS _ => ?_)
  have hP : va_P (dC, dI) vwCl (mw hm a cA (B, sN N 4 0 0)) H := hP
  have hD : va_D A (mw hm a cA (B, sN N 4 0 0)) := hD
  refine xb_if_eq (b := true) (tgt := 39) hx hb dX2_mode_23 (by decide) (fun h => absurd (h.symm.trans rfl) (by decide)) (fun _ => ?_)
  refine lv_aload_n hx hb dX2_mode_26 rfl (lv_at hl 0 rfl) ?_
  refine lv_iload_n hx hb dX2_mode_27 rfl (lv_at hl 1 rfl) ?_
  refine lv_iload_n hx hb dX2_mode_28 rfl (lv_at hl 2 rfl) ?_
  refine xr_call (st1 := [.int (bI (B 4 (7 * c + 0)))]) (W.runV (As := [.int (nI c), .int (nI 0)]) (rest := []) ⟨hx, hb, hml, hown, hts⟩ (c2_is l dC dI hm a cA B (sN N 4 0 0) c 0 (by omega)) (cwV 2 hts (gd_V wa_c k_ml_X2_45 k_im_X2_is k_se_X2_is k_in_X2 k_co_X2_is) rfl rfl rfl (by decide +kernel) ⟨Nat.le_of_ble_eq_true rfl, Nat.le_of_ble_eq_true rfl⟩) (xr_preV (q0 := 0) (C := RX2) hK hP xz_Z.nil rfl rfl) rfl rfl hl.1 rfl (lv_room (Nat.le_of_ble_eq_true rfl)) dX2_mode_29 ⟨Nat.zero_le _, Nat.zero_le _⟩) rfl ?_
  refine xb_if_eq (b := B 4 (7 * c + 0)) (tgt := 39) hx hb dX2_mode_32 (by decide) (fun h1 => ?_) (fun h1 => ?_)
  · refine lv_iconst (v := nI 0) hx hb dX2_mode_39 (by decide) ?_
    exact xc_zret (wf := mw hm a cA) hx hb hr hlocks dX2_mode_40 hK hP hD hS (bI_nar false) (congrArg bI (show false = _ from (by first | rfl | (simp only [(mIsC_ok hc), h1, Bool.true_and, Bool.false_and, Bool.and_true, Bool.and_false, Bool.true_or, Bool.or_true, Bool.false_or, Bool.or_false, Bool.not_true, Bool.not_false, decide_true, decide_false, Option.isSome, not_true_eq_false, not_false_eq_true, if_true, if_false, reduceCtorEq, ↓reduceIte]; done) | (simp only [(mIsC_ok hc), h1, Bool.true_and, Bool.false_and, Bool.and_true, Bool.and_false, Bool.true_or, Bool.or_true, Bool.false_or, Bool.or_false, Bool.not_true, Bool.not_false, decide_true, decide_false, Option.isSome, not_true_eq_false, not_false_eq_true, if_true, if_false, reduceCtorEq, ↓reduceIte]; rfl) | (simp_all; done)))) (by first | rfl | (simp only [(mIsC_ok hc), h1, Bool.true_and, Bool.false_and, Bool.and_true, Bool.and_false, Bool.true_or, Bool.or_true, Bool.false_or, Bool.or_false, Bool.not_true, Bool.not_false, decide_true, decide_false, Option.isSome, not_true_eq_false, not_false_eq_true, if_true, if_false, reduceCtorEq, ↓reduceIte]; done) | (simp only [(mIsC_ok hc), h1, Bool.true_and, Bool.false_and, Bool.and_true, Bool.and_false, Bool.true_or, Bool.or_true, Bool.false_or, Bool.or_false, Bool.not_true, Bool.not_false, decide_true, decide_false, Option.isSome, not_true_eq_false, not_false_eq_true, if_true, if_false, reduceCtorEq, ↓reduceIte]; rfl) | (simp_all; done))
  · refine lv_iconst (v := nI 1) hx hb dX2_mode_35 (by decide) ?_
    refine lv_goto (tgt := 40) hx hb dX2_mode_36 (by decide) ?_
    exact xc_zret (wf := mw hm a cA) hx hb hr hlocks dX2_mode_40 hK hP hD hS (bI_nar true) (congrArg bI (show true = _ from (by first | rfl | (simp only [(mIsC_ok hc), h1, Bool.true_and, Bool.false_and, Bool.and_true, Bool.and_false, Bool.true_or, Bool.or_true, Bool.false_or, Bool.or_false, Bool.not_true, Bool.not_false, decide_true, decide_false, Option.isSome, not_true_eq_false, not_false_eq_true, if_true, if_false, reduceCtorEq, ↓reduceIte]; done) | (simp only [(mIsC_ok hc), h1, Bool.true_and, Bool.false_and, Bool.and_true, Bool.and_false, Bool.true_or, Bool.or_true, Bool.false_or, Bool.or_false, Bool.not_true, Bool.not_false, decide_true, decide_false, Option.isSome, not_true_eq_false, not_false_eq_true, if_true, if_false, reduceCtorEq, ↓reduceIte]; rfl) | (simp_all; done)))) (by first | rfl | (simp only [(mIsC_ok hc), h1, Bool.true_and, Bool.false_and, Bool.and_true, Bool.and_false, Bool.true_or, Bool.or_true, Bool.false_or, Bool.or_false, Bool.not_true, Bool.not_false, decide_true, decide_false, Option.isSome, not_true_eq_false, not_false_eq_true, if_true, if_false, reduceCtorEq, ↓reduceIte]; done) | (simp only [(mIsC_ok hc), h1, Bool.true_and, Bool.false_and, Bool.and_true, Bool.and_false, Bool.true_or, Bool.or_true, Bool.false_or, Bool.or_false, Bool.not_true, Bool.not_false, decide_true, decide_false, Option.isSome, not_true_eq_false, not_false_eq_true, if_true, if_false, reduceCtorEq, ↓reduceIte]; rfl) | (simp_all; done))

set_option maxHeartbeats 4000000 in
set_option maxRecDepth 100000 in
theorem c2_mode_ok1 (l : Launch) (dC : Nat → ClassId) (dI : Nat → Nat → Nat) (hm : Nat) (a : Nat → Nat) (cA : Nat → ClassId) (sz : Nat) (B : Nat → Nat → Bool) (N : Nat → Nat → Nat) (c : Nat) (hc : c < 2) : xc_M l yX2_mode wsX2_mode ({ frames := 1, cells := 0, slots := 0, locals := 22 }) [.ref hm, .int (nI c), .int (nI 1)] sz (dC, dI) vwCl (mtys cA) [] (mw hm a cA (B, N)) (some (.int (bI (B 4 (7 * c + 1))))) (mw hm a cA (B, sN N 4 0 0)) 0 0 := by
  refine Met.ofW (cc := cX2_mode) (maxL := 3) (ret := (some .boolean)) (by decide) rfl ?_
  intro p e s m args below meth cd s₁ B₀ hml hv
  obtain ⟨rfl, hsz, hP, hK, hD0, hZ⟩ := hv
  have hx := B₀.exec
  have hb := B₀.bytes
  have hr := B₀.returns
  have hts := atoms_spec (ws := wsX2_mode) B₀.pre
  have hown : s.vm.findClass RX2 = some m.cls := findClass_of_methodNamed B₀.named
  have hlocks := B₀.notSynchronized
  subst hsz
  have hD := hD0.self (sz := s.heap.size)
  generalize hAe : va_A (mw hm a cA (B, N)) s.heap.size = A at hD ⊢
  have hA : ∀ q : Nat, s.heap.size ≤ q → A q := fun q h => by rw [← hAe]; exact Or.inr h
  have hS : va_S A s.heap s.heap [] := va_S.rf
  have hl := lv_entry ([.ref hm, .int (nI c), .int (nI 1)]) (n := 3) (Nat.le_of_ble_eq_true rfl)
  rw [lg_entry_eq]
  generalize (lg_sl ([.ref hm, .int (nI c), .int (nI 1)]) ++ List.replicate (3 - (lg_sl ([.ref hm, .int (nI c), .int (nI 1)])).length) Slot.unset).toArray = ls at hl ⊢
  have hl : lv_has ls 3 [(0, .ref hm), (1, .int (nI c)), (2, .int (nI 1))] := hl
  refine lv_aload_n hx hb dX2_mode_0 rfl (lv_at hl 0 rfl) ?_
  refine lv_iload_n hx hb dX2_mode_1 rfl (lv_at hl 1 rfl) ?_
  refine xr_call (st1 := [.int (bI (mIsC (nI c))), .ref hm]) (W.runS (As := [.int (nI c)]) (rest := [.ref hm]) ⟨hx, hb, hml, hown, hts⟩ (c2_isController l dC dI (nI c)) (cwS 1 hts (gd_S wa_c k_ml_X2_87 k_st_X2_isController k_in_X2 k_co_X2_isController) rfl rfl rfl (by decide +kernel) ⟨Nat.le_of_ble_eq_true rfl, Nat.le_of_ble_eq_true rfl⟩) (xr_preS (hK.sub (tys' := []) [] rfl) (hP.sub (ws' := []) [] rfl) xz_Z.nil) rfl rfl hl.1 rfl (lv_room (Nat.le_of_ble_eq_true rfl)) dX2_mode_2 ⟨Nat.zero_le _, Nat.zero_le _⟩) rfl ?_
  refine xi_eq (y := bI true) (congrArg bI (mIsC_ok hc)) ?_
  refine lv_iload_n hx hb dX2_mode_5 rfl (lv_at hl 2 rfl) ?_
  refine xn_if_lt (x := 1) (tgt := 19) (by omega) hx hb dX2_mode_6 (by decide) ?_
  refine lv_iload_n hx hb dX2_mode_9 rfl (lv_at hl 2 rfl) ?_
  refine lv_bipush (v := nI 6) hx hb dX2_mode_10 (by decide) ?_
  refine xn_icmp_gt (x := 1) (y := 6) (tgt := 19) (by omega) (by omega) hx hb dX2_mode_12 (by decide) (fun h => absurd h (by decide)) (fun _ => ?_)
  refine lv_iconst (v := nI 1) hx hb dX2_mode_15 (by decide) ?_
  refine lv_goto (tgt := 20) hx hb dX2_mode_16 (by decide) ?_
  refine xc_call (wc := mw hm a cA (B, N)) (wr := []) (st1 := [.int (bI true)]) (va_runV (As := [.int (bI true), .int (bI true)]) (rest := []) ⟨hx, hb, hml, hown, hts⟩ (c2_goes l dC dI hm a cA s.heap.size B N true true) (cwV 2 hts (gd_V wa_c k_ml_X2_70 k_im_X2_goes k_se_X2_goes k_in_X2 k_co_X2_goes) rfl rfl rfl (by decide +kernel) ⟨Nat.le_of_ble_eq_true rfl, Nat.le_of_ble_eq_true rfl⟩) (xc_preV (q0 := 0) (C := RX2) hK hP hD xz_Z.nil rfl rfl) rfl rfl hl.1 rfl (lv_room (Nat.le_of_ble_eq_true rfl)) dX2_mode_20 ⟨Nat.zero_le _, Nat.zero_le _⟩) hP hD hS hA [0, 1, 2, 3, 4, 5, 6, 7, 8, 9, 10] [] rfl rfl (by decide) (by decide) rfl (fun H locs hP hD hS _ => ?_)
  have hP : va_P (dC, dI) vwCl (mw hm a cA (B, sN N 4 0 0)) H := hP
  have hD : va_D A (mw hm a cA (B, sN N 4 0 0)) := hD
  refine xb_if_eq (b := true) (tgt := 39) hx hb dX2_mode_23 (by decide) (fun h => absurd (h.symm.trans rfl) (by decide)) (fun _ => ?_)
  refine lv_aload_n hx hb dX2_mode_26 rfl (lv_at hl 0 rfl) ?_
  refine lv_iload_n hx hb dX2_mode_27 rfl (lv_at hl 1 rfl) ?_
  refine lv_iload_n hx hb dX2_mode_28 rfl (lv_at hl 2 rfl) ?_
  refine xr_call (st1 := [.int (bI (B 4 (7 * c + 1)))]) (W.runV (As := [.int (nI c), .int (nI 1)]) (rest := []) ⟨hx, hb, hml, hown, hts⟩ (c2_is l dC dI hm a cA B (sN N 4 0 0) c 1 (by omega)) (cwV 2 hts (gd_V wa_c k_ml_X2_45 k_im_X2_is k_se_X2_is k_in_X2 k_co_X2_is) rfl rfl rfl (by decide +kernel) ⟨Nat.le_of_ble_eq_true rfl, Nat.le_of_ble_eq_true rfl⟩) (xr_preV (q0 := 0) (C := RX2) hK hP xz_Z.nil rfl rfl) rfl rfl hl.1 rfl (lv_room (Nat.le_of_ble_eq_true rfl)) dX2_mode_29 ⟨Nat.zero_le _, Nat.zero_le _⟩) rfl ?_
  refine xb_if_eq (b := B 4 (7 * c + 1)) (tgt := 39) hx hb dX2_mode_32 (by decide) (fun h1 => ?_) (fun h1 => ?_)
  · refine lv_iconst (v := nI 0) hx hb dX2_mode_39 (by decide) ?_
    exact xc_zret (wf := mw hm a cA) hx hb hr hlocks dX2_mode_40 hK hP hD hS (bI_nar false) (congrArg bI (show false = _ from (by first | rfl | (simp only [(mIsC_ok hc), h1, Bool.true_and, Bool.false_and, Bool.and_true, Bool.and_false, Bool.true_or, Bool.or_true, Bool.false_or, Bool.or_false, Bool.not_true, Bool.not_false, decide_true, decide_false, Option.isSome, not_true_eq_false, not_false_eq_true, if_true, if_false, reduceCtorEq, ↓reduceIte]; done) | (simp only [(mIsC_ok hc), h1, Bool.true_and, Bool.false_and, Bool.and_true, Bool.and_false, Bool.true_or, Bool.or_true, Bool.false_or, Bool.or_false, Bool.not_true, Bool.not_false, decide_true, decide_false, Option.isSome, not_true_eq_false, not_false_eq_true, if_true, if_false, reduceCtorEq, ↓reduceIte]; rfl) | (simp_all; done)))) (by first | rfl | (simp only [(mIsC_ok hc), h1, Bool.true_and, Bool.false_and, Bool.and_true, Bool.and_false, Bool.true_or, Bool.or_true, Bool.false_or, Bool.or_false, Bool.not_true, Bool.not_false, decide_true, decide_false, Option.isSome, not_true_eq_false, not_false_eq_true, if_true, if_false, reduceCtorEq, ↓reduceIte]; done) | (simp only [(mIsC_ok hc), h1, Bool.true_and, Bool.false_and, Bool.and_true, Bool.and_false, Bool.true_or, Bool.or_true, Bool.false_or, Bool.or_false, Bool.not_true, Bool.not_false, decide_true, decide_false, Option.isSome, not_true_eq_false, not_false_eq_true, if_true, if_false, reduceCtorEq, ↓reduceIte]; rfl) | (simp_all; done))
  · refine lv_iconst (v := nI 1) hx hb dX2_mode_35 (by decide) ?_
    refine lv_goto (tgt := 40) hx hb dX2_mode_36 (by decide) ?_
    exact xc_zret (wf := mw hm a cA) hx hb hr hlocks dX2_mode_40 hK hP hD hS (bI_nar true) (congrArg bI (show true = _ from (by first | rfl | (simp only [(mIsC_ok hc), h1, Bool.true_and, Bool.false_and, Bool.and_true, Bool.and_false, Bool.true_or, Bool.or_true, Bool.false_or, Bool.or_false, Bool.not_true, Bool.not_false, decide_true, decide_false, Option.isSome, not_true_eq_false, not_false_eq_true, if_true, if_false, reduceCtorEq, ↓reduceIte]; done) | (simp only [(mIsC_ok hc), h1, Bool.true_and, Bool.false_and, Bool.and_true, Bool.and_false, Bool.true_or, Bool.or_true, Bool.false_or, Bool.or_false, Bool.not_true, Bool.not_false, decide_true, decide_false, Option.isSome, not_true_eq_false, not_false_eq_true, if_true, if_false, reduceCtorEq, ↓reduceIte]; rfl) | (simp_all; done)))) (by first | rfl | (simp only [(mIsC_ok hc), h1, Bool.true_and, Bool.false_and, Bool.and_true, Bool.and_false, Bool.true_or, Bool.or_true, Bool.false_or, Bool.or_false, Bool.not_true, Bool.not_false, decide_true, decide_false, Option.isSome, not_true_eq_false, not_false_eq_true, if_true, if_false, reduceCtorEq, ↓reduceIte]; done) | (simp only [(mIsC_ok hc), h1, Bool.true_and, Bool.false_and, Bool.and_true, Bool.and_false, Bool.true_or, Bool.or_true, Bool.false_or, Bool.or_false, Bool.not_true, Bool.not_false, decide_true, decide_false, Option.isSome, not_true_eq_false, not_false_eq_true, if_true, if_false, reduceCtorEq, ↓reduceIte]; rfl) | (simp_all; done))

set_option maxHeartbeats 4000000 in
set_option maxRecDepth 100000 in
theorem c2_mode_ok2 (l : Launch) (dC : Nat → ClassId) (dI : Nat → Nat → Nat) (hm : Nat) (a : Nat → Nat) (cA : Nat → ClassId) (sz : Nat) (B : Nat → Nat → Bool) (N : Nat → Nat → Nat) (c : Nat) (hc : c < 2) : xc_M l yX2_mode wsX2_mode ({ frames := 1, cells := 0, slots := 0, locals := 22 }) [.ref hm, .int (nI c), .int (nI 2)] sz (dC, dI) vwCl (mtys cA) [] (mw hm a cA (B, N)) (some (.int (bI (B 4 (7 * c + 2))))) (mw hm a cA (B, sN N 4 0 0)) 0 0 := by
  refine Met.ofW (cc := cX2_mode) (maxL := 3) (ret := (some .boolean)) (by decide) rfl ?_
  intro p e s m args below meth cd s₁ B₀ hml hv
  obtain ⟨rfl, hsz, hP, hK, hD0, hZ⟩ := hv
  have hx := B₀.exec
  have hb := B₀.bytes
  have hr := B₀.returns
  have hts := atoms_spec (ws := wsX2_mode) B₀.pre
  have hown : s.vm.findClass RX2 = some m.cls := findClass_of_methodNamed B₀.named
  have hlocks := B₀.notSynchronized
  subst hsz
  have hD := hD0.self (sz := s.heap.size)
  generalize hAe : va_A (mw hm a cA (B, N)) s.heap.size = A at hD ⊢
  have hA : ∀ q : Nat, s.heap.size ≤ q → A q := fun q h => by rw [← hAe]; exact Or.inr h
  have hS : va_S A s.heap s.heap [] := va_S.rf
  have hl := lv_entry ([.ref hm, .int (nI c), .int (nI 2)]) (n := 3) (Nat.le_of_ble_eq_true rfl)
  rw [lg_entry_eq]
  generalize (lg_sl ([.ref hm, .int (nI c), .int (nI 2)]) ++ List.replicate (3 - (lg_sl ([.ref hm, .int (nI c), .int (nI 2)])).length) Slot.unset).toArray = ls at hl ⊢
  have hl : lv_has ls 3 [(0, .ref hm), (1, .int (nI c)), (2, .int (nI 2))] := hl
  refine lv_aload_n hx hb dX2_mode_0 rfl (lv_at hl 0 rfl) ?_
  refine lv_iload_n hx hb dX2_mode_1 rfl (lv_at hl 1 rfl) ?_
  refine xr_call (st1 := [.int (bI (mIsC (nI c))), .ref hm]) (W.runS (As := [.int (nI c)]) (rest := [.ref hm]) ⟨hx, hb, hml, hown, hts⟩ (c2_isController l dC dI (nI c)) (cwS 1 hts (gd_S wa_c k_ml_X2_87 k_st_X2_isController k_in_X2 k_co_X2_isController) rfl rfl rfl (by decide +kernel) ⟨Nat.le_of_ble_eq_true rfl, Nat.le_of_ble_eq_true rfl⟩) (xr_preS (hK.sub (tys' := []) [] rfl) (hP.sub (ws' := []) [] rfl) xz_Z.nil) rfl rfl hl.1 rfl (lv_room (Nat.le_of_ble_eq_true rfl)) dX2_mode_2 ⟨Nat.zero_le _, Nat.zero_le _⟩) rfl ?_
  refine xi_eq (y := bI true) (congrArg bI (mIsC_ok hc)) ?_
  refine lv_iload_n hx hb dX2_mode_5 rfl (lv_at hl 2 rfl) ?_
  refine xn_if_lt (x := 2) (tgt := 19) (by omega) hx hb dX2_mode_6 (by decide) ?_
  refine lv_iload_n hx hb dX2_mode_9 rfl (lv_at hl 2 rfl) ?_
  refine lv_bipush (v := nI 6) hx hb dX2_mode_10 (by decide) ?_
  refine xn_icmp_gt (x := 2) (y := 6) (tgt := 19) (by omega) (by omega) hx hb dX2_mode_12 (by decide) (fun h => absurd h (by decide)) (fun _ => ?_)
  refine lv_iconst (v := nI 1) hx hb dX2_mode_15 (by decide) ?_
  refine lv_goto (tgt := 20) hx hb dX2_mode_16 (by decide) ?_
  refine xc_call (wc := mw hm a cA (B, N)) (wr := []) (st1 := [.int (bI true)]) (va_runV (As := [.int (bI true), .int (bI true)]) (rest := []) ⟨hx, hb, hml, hown, hts⟩ (c2_goes l dC dI hm a cA s.heap.size B N true true) (cwV 2 hts (gd_V wa_c k_ml_X2_70 k_im_X2_goes k_se_X2_goes k_in_X2 k_co_X2_goes) rfl rfl rfl (by decide +kernel) ⟨Nat.le_of_ble_eq_true rfl, Nat.le_of_ble_eq_true rfl⟩) (xc_preV (q0 := 0) (C := RX2) hK hP hD xz_Z.nil rfl rfl) rfl rfl hl.1 rfl (lv_room (Nat.le_of_ble_eq_true rfl)) dX2_mode_20 ⟨Nat.zero_le _, Nat.zero_le _⟩) hP hD hS hA [0, 1, 2, 3, 4, 5, 6, 7, 8, 9, 10] [] rfl rfl (by decide) (by decide) rfl (fun H locs hP hD hS _ => ?_)
  have hP : va_P (dC, dI) vwCl (mw hm a cA (B, sN N 4 0 0)) H := hP
  have hD : va_D A (mw hm a cA (B, sN N 4 0 0)) := hD
  refine xb_if_eq (b := true) (tgt := 39) hx hb dX2_mode_23 (by decide) (fun h => absurd (h.symm.trans rfl) (by decide)) (fun _ => ?_)
  refine lv_aload_n hx hb dX2_mode_26 rfl (lv_at hl 0 rfl) ?_
  refine lv_iload_n hx hb dX2_mode_27 rfl (lv_at hl 1 rfl) ?_
  refine lv_iload_n hx hb dX2_mode_28 rfl (lv_at hl 2 rfl) ?_
  refine xr_call (st1 := [.int (bI (B 4 (7 * c + 2)))]) (W.runV (As := [.int (nI c), .int (nI 2)]) (rest := []) ⟨hx, hb, hml, hown, hts⟩ (c2_is l dC dI hm a cA B (sN N 4 0 0) c 2 (by omega)) (cwV 2 hts (gd_V wa_c k_ml_X2_45 k_im_X2_is k_se_X2_is k_in_X2 k_co_X2_is) rfl rfl rfl (by decide +kernel) ⟨Nat.le_of_ble_eq_true rfl, Nat.le_of_ble_eq_true rfl⟩) (xr_preV (q0 := 0) (C := RX2) hK hP xz_Z.nil rfl rfl) rfl rfl hl.1 rfl (lv_room (Nat.le_of_ble_eq_true rfl)) dX2_mode_29 ⟨Nat.zero_le _, Nat.zero_le _⟩) rfl ?_
  refine xb_if_eq (b := B 4 (7 * c + 2)) (tgt := 39) hx hb dX2_mode_32 (by decide) (fun h1 => ?_) (fun h1 => ?_)
  · refine lv_iconst (v := nI 0) hx hb dX2_mode_39 (by decide) ?_
    exact xc_zret (wf := mw hm a cA) hx hb hr hlocks dX2_mode_40 hK hP hD hS (bI_nar false) (congrArg bI (show false = _ from (by first | rfl | (simp only [(mIsC_ok hc), h1, Bool.true_and, Bool.false_and, Bool.and_true, Bool.and_false, Bool.true_or, Bool.or_true, Bool.false_or, Bool.or_false, Bool.not_true, Bool.not_false, decide_true, decide_false, Option.isSome, not_true_eq_false, not_false_eq_true, if_true, if_false, reduceCtorEq, ↓reduceIte]; done) | (simp only [(mIsC_ok hc), h1, Bool.true_and, Bool.false_and, Bool.and_true, Bool.and_false, Bool.true_or, Bool.or_true, Bool.false_or, Bool.or_false, Bool.not_true, Bool.not_false, decide_true, decide_false, Option.isSome, not_true_eq_false, not_false_eq_true, if_true, if_false, reduceCtorEq, ↓reduceIte]; rfl) | (simp_all; done)))) (by first | rfl | (simp only [(mIsC_ok hc), h1, Bool.true_and, Bool.false_and, Bool.and_true, Bool.and_false, Bool.true_or, Bool.or_true, Bool.false_or, Bool.or_false, Bool.not_true, Bool.not_false, decide_true, decide_false, Option.isSome, not_true_eq_false, not_false_eq_true, if_true, if_false, reduceCtorEq, ↓reduceIte]; done) | (simp only [(mIsC_ok hc), h1, Bool.true_and, Bool.false_and, Bool.and_true, Bool.and_false, Bool.true_or, Bool.or_true, Bool.false_or, Bool.or_false, Bool.not_true, Bool.not_false, decide_true, decide_false, Option.isSome, not_true_eq_false, not_false_eq_true, if_true, if_false, reduceCtorEq, ↓reduceIte]; rfl) | (simp_all; done))
  · refine lv_iconst (v := nI 1) hx hb dX2_mode_35 (by decide) ?_
    refine lv_goto (tgt := 40) hx hb dX2_mode_36 (by decide) ?_
    exact xc_zret (wf := mw hm a cA) hx hb hr hlocks dX2_mode_40 hK hP hD hS (bI_nar true) (congrArg bI (show true = _ from (by first | rfl | (simp only [(mIsC_ok hc), h1, Bool.true_and, Bool.false_and, Bool.and_true, Bool.and_false, Bool.true_or, Bool.or_true, Bool.false_or, Bool.or_false, Bool.not_true, Bool.not_false, decide_true, decide_false, Option.isSome, not_true_eq_false, not_false_eq_true, if_true, if_false, reduceCtorEq, ↓reduceIte]; done) | (simp only [(mIsC_ok hc), h1, Bool.true_and, Bool.false_and, Bool.and_true, Bool.and_false, Bool.true_or, Bool.or_true, Bool.false_or, Bool.or_false, Bool.not_true, Bool.not_false, decide_true, decide_false, Option.isSome, not_true_eq_false, not_false_eq_true, if_true, if_false, reduceCtorEq, ↓reduceIte]; rfl) | (simp_all; done)))) (by first | rfl | (simp only [(mIsC_ok hc), h1, Bool.true_and, Bool.false_and, Bool.and_true, Bool.and_false, Bool.true_or, Bool.or_true, Bool.false_or, Bool.or_false, Bool.not_true, Bool.not_false, decide_true, decide_false, Option.isSome, not_true_eq_false, not_false_eq_true, if_true, if_false, reduceCtorEq, ↓reduceIte]; done) | (simp only [(mIsC_ok hc), h1, Bool.true_and, Bool.false_and, Bool.and_true, Bool.and_false, Bool.true_or, Bool.or_true, Bool.false_or, Bool.or_false, Bool.not_true, Bool.not_false, decide_true, decide_false, Option.isSome, not_true_eq_false, not_false_eq_true, if_true, if_false, reduceCtorEq, ↓reduceIte]; rfl) | (simp_all; done))

set_option maxHeartbeats 4000000 in
set_option maxRecDepth 100000 in
theorem c2_mode_ok3 (l : Launch) (dC : Nat → ClassId) (dI : Nat → Nat → Nat) (hm : Nat) (a : Nat → Nat) (cA : Nat → ClassId) (sz : Nat) (B : Nat → Nat → Bool) (N : Nat → Nat → Nat) (c : Nat) (hc : c < 2) : xc_M l yX2_mode wsX2_mode ({ frames := 1, cells := 0, slots := 0, locals := 22 }) [.ref hm, .int (nI c), .int (nI 3)] sz (dC, dI) vwCl (mtys cA) [] (mw hm a cA (B, N)) (some (.int (bI (B 4 (7 * c + 3))))) (mw hm a cA (B, sN N 4 0 0)) 0 0 := by
  refine Met.ofW (cc := cX2_mode) (maxL := 3) (ret := (some .boolean)) (by decide) rfl ?_
  intro p e s m args below meth cd s₁ B₀ hml hv
  obtain ⟨rfl, hsz, hP, hK, hD0, hZ⟩ := hv
  have hx := B₀.exec
  have hb := B₀.bytes
  have hr := B₀.returns
  have hts := atoms_spec (ws := wsX2_mode) B₀.pre
  have hown : s.vm.findClass RX2 = some m.cls := findClass_of_methodNamed B₀.named
  have hlocks := B₀.notSynchronized
  subst hsz
  have hD := hD0.self (sz := s.heap.size)
  generalize hAe : va_A (mw hm a cA (B, N)) s.heap.size = A at hD ⊢
  have hA : ∀ q : Nat, s.heap.size ≤ q → A q := fun q h => by rw [← hAe]; exact Or.inr h
  have hS : va_S A s.heap s.heap [] := va_S.rf
  have hl := lv_entry ([.ref hm, .int (nI c), .int (nI 3)]) (n := 3) (Nat.le_of_ble_eq_true rfl)
  rw [lg_entry_eq]
  generalize (lg_sl ([.ref hm, .int (nI c), .int (nI 3)]) ++ List.replicate (3 - (lg_sl ([.ref hm, .int (nI c), .int (nI 3)])).length) Slot.unset).toArray = ls at hl ⊢
  have hl : lv_has ls 3 [(0, .ref hm), (1, .int (nI c)), (2, .int (nI 3))] := hl
  refine lv_aload_n hx hb dX2_mode_0 rfl (lv_at hl 0 rfl) ?_
  refine lv_iload_n hx hb dX2_mode_1 rfl (lv_at hl 1 rfl) ?_
  refine xr_call (st1 := [.int (bI (mIsC (nI c))), .ref hm]) (W.runS (As := [.int (nI c)]) (rest := [.ref hm]) ⟨hx, hb, hml, hown, hts⟩ (c2_isController l dC dI (nI c)) (cwS 1 hts (gd_S wa_c k_ml_X2_87 k_st_X2_isController k_in_X2 k_co_X2_isController) rfl rfl rfl (by decide +kernel) ⟨Nat.le_of_ble_eq_true rfl, Nat.le_of_ble_eq_true rfl⟩) (xr_preS (hK.sub (tys' := []) [] rfl) (hP.sub (ws' := []) [] rfl) xz_Z.nil) rfl rfl hl.1 rfl (lv_room (Nat.le_of_ble_eq_true rfl)) dX2_mode_2 ⟨Nat.zero_le _, Nat.zero_le _⟩) rfl ?_
  refine xi_eq (y := bI true) (congrArg bI (mIsC_ok hc)) ?_
  refine lv_iload_n hx hb dX2_mode_5 rfl (lv_at hl 2 rfl) ?_
  refine xn_if_lt (x := 3) (tgt := 19) (by omega) hx hb dX2_mode_6 (by decide) ?_
  refine lv_iload_n hx hb dX2_mode_9 rfl (lv_at hl 2 rfl) ?_
  refine lv_bipush (v := nI 6) hx hb dX2_mode_10 (by decide) ?_
  refine xn_icmp_gt (x := 3) (y := 6) (tgt := 19) (by omega) (by omega) hx hb dX2_mode_12 (by decide) (fun h => absurd h (by decide)) (fun _ => ?_)
  refine lv_iconst (v := nI 1) hx hb dX2_mode_15 (by decide) ?_
  refine lv_goto (tgt := 20) hx hb dX2_mode_16 (by decide) ?_
  refine xc_call (wc := mw hm a cA (B, N)) (wr := []) (st1 := [.int (bI true)]) (va_runV (As := [.int (bI true), .int (bI true)]) (rest := []) ⟨hx, hb, hml, hown, hts⟩ (c2_goes l dC dI hm a cA s.heap.size B N true true) (cwV 2 hts (gd_V wa_c k_ml_X2_70 k_im_X2_goes k_se_X2_goes k_in_X2 k_co_X2_goes) rfl rfl rfl (by decide +kernel) ⟨Nat.le_of_ble_eq_true rfl, Nat.le_of_ble_eq_true rfl⟩) (xc_preV (q0 := 0) (C := RX2) hK hP hD xz_Z.nil rfl rfl) rfl rfl hl.1 rfl (lv_room (Nat.le_of_ble_eq_true rfl)) dX2_mode_20 ⟨Nat.zero_le _, Nat.zero_le _⟩) hP hD hS hA [0, 1, 2, 3, 4, 5, 6, 7, 8, 9, 10] [] rfl rfl (by decide) (by decide) rfl (fun H locs hP hD hS _ => ?_)
  have hP : va_P (dC, dI) vwCl (mw hm a cA (B, sN N 4 0 0)) H := hP
  have hD : va_D A (mw hm a cA (B, sN N 4 0 0)) := hD
  refine xb_if_eq (b := true) (tgt := 39) hx hb dX2_mode_23 (by decide) (fun h => absurd (h.symm.trans rfl) (by decide)) (fun _ => ?_)
  refine lv_aload_n hx hb dX2_mode_26 rfl (lv_at hl 0 rfl) ?_
  refine lv_iload_n hx hb dX2_mode_27 rfl (lv_at hl 1 rfl) ?_
  refine lv_iload_n hx hb dX2_mode_28 rfl (lv_at hl 2 rfl) ?_
  refine xr_call (st1 := [.int (bI (B 4 (7 * c + 3)))]) (W.runV (As := [.int (nI c), .int (nI 3)]) (rest := []) ⟨hx, hb, hml, hown, hts⟩ (c2_is l dC dI hm a cA B (sN N 4 0 0) c 3 (by omega)) (cwV 2 hts (gd_V wa_c k_ml_X2_45 k_im_X2_is k_se_X2_is k_in_X2 k_co_X2_is) rfl rfl rfl (by decide +kernel) ⟨Nat.le_of_ble_eq_true rfl, Nat.le_of_ble_eq_true rfl⟩) (xr_preV (q0 := 0) (C := RX2) hK hP xz_Z.nil rfl rfl) rfl rfl hl.1 rfl (lv_room (Nat.le_of_ble_eq_true rfl)) dX2_mode_29 ⟨Nat.zero_le _, Nat.zero_le _⟩) rfl ?_
  refine xb_if_eq (b := B 4 (7 * c + 3)) (tgt := 39) hx hb dX2_mode_32 (by decide) (fun h1 => ?_) (fun h1 => ?_)
  · refine lv_iconst (v := nI 0) hx hb dX2_mode_39 (by decide) ?_
    exact xc_zret (wf := mw hm a cA) hx hb hr hlocks dX2_mode_40 hK hP hD hS (bI_nar false) (congrArg bI (show false = _ from (by first | rfl | (simp only [(mIsC_ok hc), h1, Bool.true_and, Bool.false_and, Bool.and_true, Bool.and_false, Bool.true_or, Bool.or_true, Bool.false_or, Bool.or_false, Bool.not_true, Bool.not_false, decide_true, decide_false, Option.isSome, not_true_eq_false, not_false_eq_true, if_true, if_false, reduceCtorEq, ↓reduceIte]; done) | (simp only [(mIsC_ok hc), h1, Bool.true_and, Bool.false_and, Bool.and_true, Bool.and_false, Bool.true_or, Bool.or_true, Bool.false_or, Bool.or_false, Bool.not_true, Bool.not_false, decide_true, decide_false, Option.isSome, not_true_eq_false, not_false_eq_true, if_true, if_false, reduceCtorEq, ↓reduceIte]; rfl) | (simp_all; done)))) (by first | rfl | (simp only [(mIsC_ok hc), h1, Bool.true_and, Bool.false_and, Bool.and_true, Bool.and_false, Bool.true_or, Bool.or_true, Bool.false_or, Bool.or_false, Bool.not_true, Bool.not_false, decide_true, decide_false, Option.isSome, not_true_eq_false, not_false_eq_true, if_true, if_false, reduceCtorEq, ↓reduceIte]; done) | (simp only [(mIsC_ok hc), h1, Bool.true_and, Bool.false_and, Bool.and_true, Bool.and_false, Bool.true_or, Bool.or_true, Bool.false_or, Bool.or_false, Bool.not_true, Bool.not_false, decide_true, decide_false, Option.isSome, not_true_eq_false, not_false_eq_true, if_true, if_false, reduceCtorEq, ↓reduceIte]; rfl) | (simp_all; done))
  · refine lv_iconst (v := nI 1) hx hb dX2_mode_35 (by decide) ?_
    refine lv_goto (tgt := 40) hx hb dX2_mode_36 (by decide) ?_
    exact xc_zret (wf := mw hm a cA) hx hb hr hlocks dX2_mode_40 hK hP hD hS (bI_nar true) (congrArg bI (show true = _ from (by first | rfl | (simp only [(mIsC_ok hc), h1, Bool.true_and, Bool.false_and, Bool.and_true, Bool.and_false, Bool.true_or, Bool.or_true, Bool.false_or, Bool.or_false, Bool.not_true, Bool.not_false, decide_true, decide_false, Option.isSome, not_true_eq_false, not_false_eq_true, if_true, if_false, reduceCtorEq, ↓reduceIte]; done) | (simp only [(mIsC_ok hc), h1, Bool.true_and, Bool.false_and, Bool.and_true, Bool.and_false, Bool.true_or, Bool.or_true, Bool.false_or, Bool.or_false, Bool.not_true, Bool.not_false, decide_true, decide_false, Option.isSome, not_true_eq_false, not_false_eq_true, if_true, if_false, reduceCtorEq, ↓reduceIte]; rfl) | (simp_all; done)))) (by first | rfl | (simp only [(mIsC_ok hc), h1, Bool.true_and, Bool.false_and, Bool.and_true, Bool.and_false, Bool.true_or, Bool.or_true, Bool.false_or, Bool.or_false, Bool.not_true, Bool.not_false, decide_true, decide_false, Option.isSome, not_true_eq_false, not_false_eq_true, if_true, if_false, reduceCtorEq, ↓reduceIte]; done) | (simp only [(mIsC_ok hc), h1, Bool.true_and, Bool.false_and, Bool.and_true, Bool.and_false, Bool.true_or, Bool.or_true, Bool.false_or, Bool.or_false, Bool.not_true, Bool.not_false, decide_true, decide_false, Option.isSome, not_true_eq_false, not_false_eq_true, if_true, if_false, reduceCtorEq, ↓reduceIte]; rfl) | (simp_all; done))

set_option maxHeartbeats 4000000 in
set_option maxRecDepth 100000 in
theorem c2_mode_ok4 (l : Launch) (dC : Nat → ClassId) (dI : Nat → Nat → Nat) (hm : Nat) (a : Nat → Nat) (cA : Nat → ClassId) (sz : Nat) (B : Nat → Nat → Bool) (N : Nat → Nat → Nat) (c : Nat) (hc : c < 2) : xc_M l yX2_mode wsX2_mode ({ frames := 1, cells := 0, slots := 0, locals := 22 }) [.ref hm, .int (nI c), .int (nI 4)] sz (dC, dI) vwCl (mtys cA) [] (mw hm a cA (B, N)) (some (.int (bI (B 4 (7 * c + 4))))) (mw hm a cA (B, sN N 4 0 0)) 0 0 := by
  refine Met.ofW (cc := cX2_mode) (maxL := 3) (ret := (some .boolean)) (by decide) rfl ?_
  intro p e s m args below meth cd s₁ B₀ hml hv
  obtain ⟨rfl, hsz, hP, hK, hD0, hZ⟩ := hv
  have hx := B₀.exec
  have hb := B₀.bytes
  have hr := B₀.returns
  have hts := atoms_spec (ws := wsX2_mode) B₀.pre
  have hown : s.vm.findClass RX2 = some m.cls := findClass_of_methodNamed B₀.named
  have hlocks := B₀.notSynchronized
  subst hsz
  have hD := hD0.self (sz := s.heap.size)
  generalize hAe : va_A (mw hm a cA (B, N)) s.heap.size = A at hD ⊢
  have hA : ∀ q : Nat, s.heap.size ≤ q → A q := fun q h => by rw [← hAe]; exact Or.inr h
  have hS : va_S A s.heap s.heap [] := va_S.rf
  have hl := lv_entry ([.ref hm, .int (nI c), .int (nI 4)]) (n := 3) (Nat.le_of_ble_eq_true rfl)
  rw [lg_entry_eq]
  generalize (lg_sl ([.ref hm, .int (nI c), .int (nI 4)]) ++ List.replicate (3 - (lg_sl ([.ref hm, .int (nI c), .int (nI 4)])).length) Slot.unset).toArray = ls at hl ⊢
  have hl : lv_has ls 3 [(0, .ref hm), (1, .int (nI c)), (2, .int (nI 4))] := hl
  refine lv_aload_n hx hb dX2_mode_0 rfl (lv_at hl 0 rfl) ?_
  refine lv_iload_n hx hb dX2_mode_1 rfl (lv_at hl 1 rfl) ?_
  refine xr_call (st1 := [.int (bI (mIsC (nI c))), .ref hm]) (W.runS (As := [.int (nI c)]) (rest := [.ref hm]) ⟨hx, hb, hml, hown, hts⟩ (c2_isController l dC dI (nI c)) (cwS 1 hts (gd_S wa_c k_ml_X2_87 k_st_X2_isController k_in_X2 k_co_X2_isController) rfl rfl rfl (by decide +kernel) ⟨Nat.le_of_ble_eq_true rfl, Nat.le_of_ble_eq_true rfl⟩) (xr_preS (hK.sub (tys' := []) [] rfl) (hP.sub (ws' := []) [] rfl) xz_Z.nil) rfl rfl hl.1 rfl (lv_room (Nat.le_of_ble_eq_true rfl)) dX2_mode_2 ⟨Nat.zero_le _, Nat.zero_le _⟩) rfl ?_
  refine xi_eq (y := bI true) (congrArg bI (mIsC_ok hc)) ?_
  refine lv_iload_n hx hb dX2_mode_5 rfl (lv_at hl 2 rfl) ?_
  refine xn_if_lt (x := 4) (tgt := 19) (by omega) hx hb dX2_mode_6 (by decide) ?_
  refine lv_iload_n hx hb dX2_mode_9 rfl (lv_at hl 2 rfl) ?_
  refine lv_bipush (v := nI 6) hx hb dX2_mode_10 (by decide) ?_
  refine xn_icmp_gt (x := 4) (y := 6) (tgt := 19) (by omega) (by omega) hx hb dX2_mode_12 (by decide) (fun h => absurd h (by decide)) (fun _ => ?_)
  refine lv_iconst (v := nI 1) hx hb dX2_mode_15 (by decide) ?_
  refine lv_goto (tgt := 20) hx hb dX2_mode_16 (by decide) ?_
  refine xc_call (wc := mw hm a cA (B, N)) (wr := []) (st1 := [.int (bI true)]) (va_runV (As := [.int (bI true), .int (bI true)]) (rest := []) ⟨hx, hb, hml, hown, hts⟩ (c2_goes l dC dI hm a cA s.heap.size B N true true) (cwV 2 hts (gd_V wa_c k_ml_X2_70 k_im_X2_goes k_se_X2_goes k_in_X2 k_co_X2_goes) rfl rfl rfl (by decide +kernel) ⟨Nat.le_of_ble_eq_true rfl, Nat.le_of_ble_eq_true rfl⟩) (xc_preV (q0 := 0) (C := RX2) hK hP hD xz_Z.nil rfl rfl) rfl rfl hl.1 rfl (lv_room (Nat.le_of_ble_eq_true rfl)) dX2_mode_20 ⟨Nat.zero_le _, Nat.zero_le _⟩) hP hD hS hA [0, 1, 2, 3, 4, 5, 6, 7, 8, 9, 10] [] rfl rfl (by decide) (by decide) rfl (fun H locs hP hD hS _ => ?_)
  have hP : va_P (dC, dI) vwCl (mw hm a cA (B, sN N 4 0 0)) H := hP
  have hD : va_D A (mw hm a cA (B, sN N 4 0 0)) := hD
  refine xb_if_eq (b := true) (tgt := 39) hx hb dX2_mode_23 (by decide) (fun h => absurd (h.symm.trans rfl) (by decide)) (fun _ => ?_)
  refine lv_aload_n hx hb dX2_mode_26 rfl (lv_at hl 0 rfl) ?_
  refine lv_iload_n hx hb dX2_mode_27 rfl (lv_at hl 1 rfl) ?_
  refine lv_iload_n hx hb dX2_mode_28 rfl (lv_at hl 2 rfl) ?_
  refine xr_call (st1 := [.int (bI (B 4 (7 * c + 4)))]) (W.runV (As := [.int (nI c), .int (nI 4)]) (rest := []) ⟨hx, hb, hml, hown, hts⟩ (c2_is l dC dI hm a cA B (sN N 4 0 0) c 4 (by omega)) (cwV 2 hts (gd_V wa_c k_ml_X2_45 k_im_X2_is k_se_X2_is k_in_X2 k_co_X2_is) rfl rfl rfl (by decide +kernel) ⟨Nat.le_of_ble_eq_true rfl, Nat.le_of_ble_eq_true rfl⟩) (xr_preV (q0 := 0) (C := RX2) hK hP xz_Z.nil rfl rfl) rfl rfl hl.1 rfl (lv_room (Nat.le_of_ble_eq_true rfl)) dX2_mode_29 ⟨Nat.zero_le _, Nat.zero_le _⟩) rfl ?_
  refine xb_if_eq (b := B 4 (7 * c + 4)) (tgt := 39) hx hb dX2_mode_32 (by decide) (fun h1 => ?_) (fun h1 => ?_)
  · refine lv_iconst (v := nI 0) hx hb dX2_mode_39 (by decide) ?_
    exact xc_zret (wf := mw hm a cA) hx hb hr hlocks dX2_mode_40 hK hP hD hS (bI_nar false) (congrArg bI (show false = _ from (by first | rfl | (simp only [(mIsC_ok hc), h1, Bool.true_and, Bool.false_and, Bool.and_true, Bool.and_false, Bool.true_or, Bool.or_true, Bool.false_or, Bool.or_false, Bool.not_true, Bool.not_false, decide_true, decide_false, Option.isSome, not_true_eq_false, not_false_eq_true, if_true, if_false, reduceCtorEq, ↓reduceIte]; done) | (simp only [(mIsC_ok hc), h1, Bool.true_and, Bool.false_and, Bool.and_true, Bool.and_false, Bool.true_or, Bool.or_true, Bool.false_or, Bool.or_false, Bool.not_true, Bool.not_false, decide_true, decide_false, Option.isSome, not_true_eq_false, not_false_eq_true, if_true, if_false, reduceCtorEq, ↓reduceIte]; rfl) | (simp_all; done)))) (by first | rfl | (simp only [(mIsC_ok hc), h1, Bool.true_and, Bool.false_and, Bool.and_true, Bool.and_false, Bool.true_or, Bool.or_true, Bool.false_or, Bool.or_false, Bool.not_true, Bool.not_false, decide_true, decide_false, Option.isSome, not_true_eq_false, not_false_eq_true, if_true, if_false, reduceCtorEq, ↓reduceIte]; done) | (simp only [(mIsC_ok hc), h1, Bool.true_and, Bool.false_and, Bool.and_true, Bool.and_false, Bool.true_or, Bool.or_true, Bool.false_or, Bool.or_false, Bool.not_true, Bool.not_false, decide_true, decide_false, Option.isSome, not_true_eq_false, not_false_eq_true, if_true, if_false, reduceCtorEq, ↓reduceIte]; rfl) | (simp_all; done))
  · refine lv_iconst (v := nI 1) hx hb dX2_mode_35 (by decide) ?_
    refine lv_goto (tgt := 40) hx hb dX2_mode_36 (by decide) ?_
    exact xc_zret (wf := mw hm a cA) hx hb hr hlocks dX2_mode_40 hK hP hD hS (bI_nar true) (congrArg bI (show true = _ from (by first | rfl | (simp only [(mIsC_ok hc), h1, Bool.true_and, Bool.false_and, Bool.and_true, Bool.and_false, Bool.true_or, Bool.or_true, Bool.false_or, Bool.or_false, Bool.not_true, Bool.not_false, decide_true, decide_false, Option.isSome, not_true_eq_false, not_false_eq_true, if_true, if_false, reduceCtorEq, ↓reduceIte]; done) | (simp only [(mIsC_ok hc), h1, Bool.true_and, Bool.false_and, Bool.and_true, Bool.and_false, Bool.true_or, Bool.or_true, Bool.false_or, Bool.or_false, Bool.not_true, Bool.not_false, decide_true, decide_false, Option.isSome, not_true_eq_false, not_false_eq_true, if_true, if_false, reduceCtorEq, ↓reduceIte]; rfl) | (simp_all; done)))) (by first | rfl | (simp only [(mIsC_ok hc), h1, Bool.true_and, Bool.false_and, Bool.and_true, Bool.and_false, Bool.true_or, Bool.or_true, Bool.false_or, Bool.or_false, Bool.not_true, Bool.not_false, decide_true, decide_false, Option.isSome, not_true_eq_false, not_false_eq_true, if_true, if_false, reduceCtorEq, ↓reduceIte]; done) | (simp only [(mIsC_ok hc), h1, Bool.true_and, Bool.false_and, Bool.and_true, Bool.and_false, Bool.true_or, Bool.or_true, Bool.false_or, Bool.or_false, Bool.not_true, Bool.not_false, decide_true, decide_false, Option.isSome, not_true_eq_false, not_false_eq_true, if_true, if_false, reduceCtorEq, ↓reduceIte]; rfl) | (simp_all; done))

set_option maxHeartbeats 4000000 in
set_option maxRecDepth 100000 in
theorem c2_mode_ok5 (l : Launch) (dC : Nat → ClassId) (dI : Nat → Nat → Nat) (hm : Nat) (a : Nat → Nat) (cA : Nat → ClassId) (sz : Nat) (B : Nat → Nat → Bool) (N : Nat → Nat → Nat) (c : Nat) (hc : c < 2) : xc_M l yX2_mode wsX2_mode ({ frames := 1, cells := 0, slots := 0, locals := 22 }) [.ref hm, .int (nI c), .int (nI 5)] sz (dC, dI) vwCl (mtys cA) [] (mw hm a cA (B, N)) (some (.int (bI (B 4 (7 * c + 5))))) (mw hm a cA (B, sN N 4 0 0)) 0 0 := by
  refine Met.ofW (cc := cX2_mode) (maxL := 3) (ret := (some .boolean)) (by decide) rfl ?_
  intro p e s m args below meth cd s₁ B₀ hml hv
  obtain ⟨rfl, hsz, hP, hK, hD0, hZ⟩ := hv
  have hx := B₀.exec
  have hb := B₀.bytes
  have hr := B₀.returns
  have hts := atoms_spec (ws := wsX2_mode) B₀.pre
  have hown : s.vm.findClass RX2 = some m.cls := findClass_of_methodNamed B₀.named
  have hlocks := B₀.notSynchronized
  subst hsz
  have hD := hD0.self (sz := s.heap.size)
  generalize hAe : va_A (mw hm a cA (B, N)) s.heap.size = A at hD ⊢
  have hA : ∀ q : Nat, s.heap.size ≤ q → A q := fun q h => by rw [← hAe]; exact Or.inr h
  have hS : va_S A s.heap s.heap [] := va_S.rf
  have hl := lv_entry ([.ref hm, .int (nI c), .int (nI 5)]) (n := 3) (Nat.le_of_ble_eq_true rfl)
  rw [lg_entry_eq]
  generalize (lg_sl ([.ref hm, .int (nI c), .int (nI 5)]) ++ List.replicate (3 - (lg_sl ([.ref hm, .int (nI c), .int (nI 5)])).length) Slot.unset).toArray = ls at hl ⊢
  have hl : lv_has ls 3 [(0, .ref hm), (1, .int (nI c)), (2, .int (nI 5))] := hl
  refine lv_aload_n hx hb dX2_mode_0 rfl (lv_at hl 0 rfl) ?_
  refine lv_iload_n hx hb dX2_mode_1 rfl (lv_at hl 1 rfl) ?_
  refine xr_call (st1 := [.int (bI (mIsC (nI c))), .ref hm]) (W.runS (As := [.int (nI c)]) (rest := [.ref hm]) ⟨hx, hb, hml, hown, hts⟩ (c2_isController l dC dI (nI c)) (cwS 1 hts (gd_S wa_c k_ml_X2_87 k_st_X2_isController k_in_X2 k_co_X2_isController) rfl rfl rfl (by decide +kernel) ⟨Nat.le_of_ble_eq_true rfl, Nat.le_of_ble_eq_true rfl⟩) (xr_preS (hK.sub (tys' := []) [] rfl) (hP.sub (ws' := []) [] rfl) xz_Z.nil) rfl rfl hl.1 rfl (lv_room (Nat.le_of_ble_eq_true rfl)) dX2_mode_2 ⟨Nat.zero_le _, Nat.zero_le _⟩) rfl ?_
  refine xi_eq (y := bI true) (congrArg bI (mIsC_ok hc)) ?_
  refine lv_iload_n hx hb dX2_mode_5 rfl (lv_at hl 2 rfl) ?_
  refine xn_if_lt (x := 5) (tgt := 19) (by omega) hx hb dX2_mode_6 (by decide) ?_
  refine lv_iload_n hx hb dX2_mode_9 rfl (lv_at hl 2 rfl) ?_
  refine lv_bipush (v := nI 6) hx hb dX2_mode_10 (by decide) ?_
  refine xn_icmp_gt (x := 5) (y := 6) (tgt := 19) (by omega) (by omega) hx hb dX2_mode_12 (by decide) (fun h => absurd h (by decide)) (fun _ => ?_)
  refine lv_iconst (v := nI 1) hx hb dX2_mode_15 (by decide) ?_
  refine lv_goto (tgt := 20) hx hb dX2_mode_16 (by decide) ?_
  refine xc_call (wc := mw hm a cA (B, N)) (wr := []) (st1 := [.int (bI true)]) (va_runV (As := [.int (bI true), .int (bI true)]) (rest := []) ⟨hx, hb, hml, hown, hts⟩ (c2_goes l dC dI hm a cA s.heap.size B N true true) (cwV 2 hts (gd_V wa_c k_ml_X2_70 k_im_X2_goes k_se_X2_goes k_in_X2 k_co_X2_goes) rfl rfl rfl (by decide +kernel) ⟨Nat.le_of_ble_eq_true rfl, Nat.le_of_ble_eq_true rfl⟩) (xc_preV (q0 := 0) (C := RX2) hK hP hD xz_Z.nil rfl rfl) rfl rfl hl.1 rfl (lv_room (Nat.le_of_ble_eq_true rfl)) dX2_mode_20 ⟨Nat.zero_le _, Nat.zero_le _⟩) hP hD hS hA [0, 1, 2, 3, 4, 5, 6, 7, 8, 9, 10] [] rfl rfl (by decide) (by decide) rfl (fun H locs hP hD hS _ => ?_)
  have hP : va_P (dC, dI) vwCl (mw hm a cA (B, sN N 4 0 0)) H := hP
  have hD : va_D A (mw hm a cA (B, sN N 4 0 0)) := hD
  refine xb_if_eq (b := true) (tgt := 39) hx hb dX2_mode_23 (by decide) (fun h => absurd (h.symm.trans rfl) (by decide)) (fun _ => ?_)
  refine lv_aload_n hx hb dX2_mode_26 rfl (lv_at hl 0 rfl) ?_
  refine lv_iload_n hx hb dX2_mode_27 rfl (lv_at hl 1 rfl) ?_
  refine lv_iload_n hx hb dX2_mode_28 rfl (lv_at hl 2 rfl) ?_
  refine xr_call (st1 := [.int (bI (B 4 (7 * c + 5)))]) (W.runV (As := [.int (nI c), .int (nI 5)]) (rest := []) ⟨hx, hb, hml, hown, hts⟩ (c2_is l dC dI hm a cA B (sN N 4 0 0) c 5 (by omega)) (cwV 2 hts (gd_V wa_c k_ml_X2_45 k_im_X2_is k_se_X2_is k_in_X2 k_co_X2_is) rfl rfl rfl (by decide +kernel) ⟨Nat.le_of_ble_eq_true rfl, Nat.le_of_ble_eq_true rfl⟩) (xr_preV (q0 := 0) (C := RX2) hK hP xz_Z.nil rfl rfl) rfl rfl hl.1 rfl (lv_room (Nat.le_of_ble_eq_true rfl)) dX2_mode_29 ⟨Nat.zero_le _, Nat.zero_le _⟩) rfl ?_
  refine xb_if_eq (b := B 4 (7 * c + 5)) (tgt := 39) hx hb dX2_mode_32 (by decide) (fun h1 => ?_) (fun h1 => ?_)
  · refine lv_iconst (v := nI 0) hx hb dX2_mode_39 (by decide) ?_
    exact xc_zret (wf := mw hm a cA) hx hb hr hlocks dX2_mode_40 hK hP hD hS (bI_nar false) (congrArg bI (show false = _ from (by first | rfl | (simp only [(mIsC_ok hc), h1, Bool.true_and, Bool.false_and, Bool.and_true, Bool.and_false, Bool.true_or, Bool.or_true, Bool.false_or, Bool.or_false, Bool.not_true, Bool.not_false, decide_true, decide_false, Option.isSome, not_true_eq_false, not_false_eq_true, if_true, if_false, reduceCtorEq, ↓reduceIte]; done) | (simp only [(mIsC_ok hc), h1, Bool.true_and, Bool.false_and, Bool.and_true, Bool.and_false, Bool.true_or, Bool.or_true, Bool.false_or, Bool.or_false, Bool.not_true, Bool.not_false, decide_true, decide_false, Option.isSome, not_true_eq_false, not_false_eq_true, if_true, if_false, reduceCtorEq, ↓reduceIte]; rfl) | (simp_all; done)))) (by first | rfl | (simp only [(mIsC_ok hc), h1, Bool.true_and, Bool.false_and, Bool.and_true, Bool.and_false, Bool.true_or, Bool.or_true, Bool.false_or, Bool.or_false, Bool.not_true, Bool.not_false, decide_true, decide_false, Option.isSome, not_true_eq_false, not_false_eq_true, if_true, if_false, reduceCtorEq, ↓reduceIte]; done) | (simp only [(mIsC_ok hc), h1, Bool.true_and, Bool.false_and, Bool.and_true, Bool.and_false, Bool.true_or, Bool.or_true, Bool.false_or, Bool.or_false, Bool.not_true, Bool.not_false, decide_true, decide_false, Option.isSome, not_true_eq_false, not_false_eq_true, if_true, if_false, reduceCtorEq, ↓reduceIte]; rfl) | (simp_all; done))
  · refine lv_iconst (v := nI 1) hx hb dX2_mode_35 (by decide) ?_
    refine lv_goto (tgt := 40) hx hb dX2_mode_36 (by decide) ?_
    exact xc_zret (wf := mw hm a cA) hx hb hr hlocks dX2_mode_40 hK hP hD hS (bI_nar true) (congrArg bI (show true = _ from (by first | rfl | (simp only [(mIsC_ok hc), h1, Bool.true_and, Bool.false_and, Bool.and_true, Bool.and_false, Bool.true_or, Bool.or_true, Bool.false_or, Bool.or_false, Bool.not_true, Bool.not_false, decide_true, decide_false, Option.isSome, not_true_eq_false, not_false_eq_true, if_true, if_false, reduceCtorEq, ↓reduceIte]; done) | (simp only [(mIsC_ok hc), h1, Bool.true_and, Bool.false_and, Bool.and_true, Bool.and_false, Bool.true_or, Bool.or_true, Bool.false_or, Bool.or_false, Bool.not_true, Bool.not_false, decide_true, decide_false, Option.isSome, not_true_eq_false, not_false_eq_true, if_true, if_false, reduceCtorEq, ↓reduceIte]; rfl) | (simp_all; done)))) (by first | rfl | (simp only [(mIsC_ok hc), h1, Bool.true_and, Bool.false_and, Bool.and_true, Bool.and_false, Bool.true_or, Bool.or_true, Bool.false_or, Bool.or_false, Bool.not_true, Bool.not_false, decide_true, decide_false, Option.isSome, not_true_eq_false, not_false_eq_true, if_true, if_false, reduceCtorEq, ↓reduceIte]; done) | (simp only [(mIsC_ok hc), h1, Bool.true_and, Bool.false_and, Bool.and_true, Bool.and_false, Bool.true_or, Bool.or_true, Bool.false_or, Bool.or_false, Bool.not_true, Bool.not_false, decide_true, decide_false, Option.isSome, not_true_eq_false, not_false_eq_true, if_true, if_false, reduceCtorEq, ↓reduceIte]; rfl) | (simp_all; done))

set_option maxHeartbeats 4000000 in
set_option maxRecDepth 100000 in
theorem c2_mode_ok6 (l : Launch) (dC : Nat → ClassId) (dI : Nat → Nat → Nat) (hm : Nat) (a : Nat → Nat) (cA : Nat → ClassId) (sz : Nat) (B : Nat → Nat → Bool) (N : Nat → Nat → Nat) (c : Nat) (hc : c < 2) : xc_M l yX2_mode wsX2_mode ({ frames := 1, cells := 0, slots := 0, locals := 22 }) [.ref hm, .int (nI c), .int (nI 6)] sz (dC, dI) vwCl (mtys cA) [] (mw hm a cA (B, N)) (some (.int (bI (B 4 (7 * c + 6))))) (mw hm a cA (B, sN N 4 0 0)) 0 0 := by
  refine Met.ofW (cc := cX2_mode) (maxL := 3) (ret := (some .boolean)) (by decide) rfl ?_
  intro p e s m args below meth cd s₁ B₀ hml hv
  obtain ⟨rfl, hsz, hP, hK, hD0, hZ⟩ := hv
  have hx := B₀.exec
  have hb := B₀.bytes
  have hr := B₀.returns
  have hts := atoms_spec (ws := wsX2_mode) B₀.pre
  have hown : s.vm.findClass RX2 = some m.cls := findClass_of_methodNamed B₀.named
  have hlocks := B₀.notSynchronized
  subst hsz
  have hD := hD0.self (sz := s.heap.size)
  generalize hAe : va_A (mw hm a cA (B, N)) s.heap.size = A at hD ⊢
  have hA : ∀ q : Nat, s.heap.size ≤ q → A q := fun q h => by rw [← hAe]; exact Or.inr h
  have hS : va_S A s.heap s.heap [] := va_S.rf
  have hl := lv_entry ([.ref hm, .int (nI c), .int (nI 6)]) (n := 3) (Nat.le_of_ble_eq_true rfl)
  rw [lg_entry_eq]
  generalize (lg_sl ([.ref hm, .int (nI c), .int (nI 6)]) ++ List.replicate (3 - (lg_sl ([.ref hm, .int (nI c), .int (nI 6)])).length) Slot.unset).toArray = ls at hl ⊢
  have hl : lv_has ls 3 [(0, .ref hm), (1, .int (nI c)), (2, .int (nI 6))] := hl
  refine lv_aload_n hx hb dX2_mode_0 rfl (lv_at hl 0 rfl) ?_
  refine lv_iload_n hx hb dX2_mode_1 rfl (lv_at hl 1 rfl) ?_
  refine xr_call (st1 := [.int (bI (mIsC (nI c))), .ref hm]) (W.runS (As := [.int (nI c)]) (rest := [.ref hm]) ⟨hx, hb, hml, hown, hts⟩ (c2_isController l dC dI (nI c)) (cwS 1 hts (gd_S wa_c k_ml_X2_87 k_st_X2_isController k_in_X2 k_co_X2_isController) rfl rfl rfl (by decide +kernel) ⟨Nat.le_of_ble_eq_true rfl, Nat.le_of_ble_eq_true rfl⟩) (xr_preS (hK.sub (tys' := []) [] rfl) (hP.sub (ws' := []) [] rfl) xz_Z.nil) rfl rfl hl.1 rfl (lv_room (Nat.le_of_ble_eq_true rfl)) dX2_mode_2 ⟨Nat.zero_le _, Nat.zero_le _⟩) rfl ?_
  refine xi_eq (y := bI true) (congrArg bI (mIsC_ok hc)) ?_
  refine lv_iload_n hx hb dX2_mode_5 rfl (lv_at hl 2 rfl) ?_
  refine xn_if_lt (x := 6) (tgt := 19) (by omega) hx hb dX2_mode_6 (by decide) ?_
  refine lv_iload_n hx hb dX2_mode_9 rfl (lv_at hl 2 rfl) ?_
  refine lv_bipush (v := nI 6) hx hb dX2_mode_10 (by decide) ?_
  refine xn_icmp_gt (x := 6) (y := 6) (tgt := 19) (by omega) (by omega) hx hb dX2_mode_12 (by decide) (fun h => absurd h (by decide)) (fun _ => ?_)
  refine lv_iconst (v := nI 1) hx hb dX2_mode_15 (by decide) ?_
  refine lv_goto (tgt := 20) hx hb dX2_mode_16 (by decide) ?_
  refine xc_call (wc := mw hm a cA (B, N)) (wr := []) (st1 := [.int (bI true)]) (va_runV (As := [.int (bI true), .int (bI true)]) (rest := []) ⟨hx, hb, hml, hown, hts⟩ (c2_goes l dC dI hm a cA s.heap.size B N true true) (cwV 2 hts (gd_V wa_c k_ml_X2_70 k_im_X2_goes k_se_X2_goes k_in_X2 k_co_X2_goes) rfl rfl rfl (by decide +kernel) ⟨Nat.le_of_ble_eq_true rfl, Nat.le_of_ble_eq_true rfl⟩) (xc_preV (q0 := 0) (C := RX2) hK hP hD xz_Z.nil rfl rfl) rfl rfl hl.1 rfl (lv_room (Nat.le_of_ble_eq_true rfl)) dX2_mode_20 ⟨Nat.zero_le _, Nat.zero_le _⟩) hP hD hS hA [0, 1, 2, 3, 4, 5, 6, 7, 8, 9, 10] [] rfl rfl (by decide) (by decide) rfl (fun H locs hP hD hS _ => ?_)
  have hP : va_P (dC, dI) vwCl (mw hm a cA (B, sN N 4 0 0)) H := hP
  have hD : va_D A (mw hm a cA (B, sN N 4 0 0)) := hD
  refine xb_if_eq (b := true) (tgt := 39) hx hb dX2_mode_23 (by decide) (fun h => absurd (h.symm.trans rfl) (by decide)) (fun _ => ?_)
  refine lv_aload_n hx hb dX2_mode_26 rfl (lv_at hl 0 rfl) ?_
  refine lv_iload_n hx hb dX2_mode_27 rfl (lv_at hl 1 rfl) ?_
  refine lv_iload_n hx hb dX2_mode_28 rfl (lv_at hl 2 rfl) ?_
  refine xr_call (st1 := [.int (bI (B 4 (7 * c + 6)))]) (W.runV (As := [.int (nI c), .int (nI 6)]) (rest := []) ⟨hx, hb, hml, hown, hts⟩ (c2_is l dC dI hm a cA B (sN N 4 0 0) c 6 (by omega)) (cwV 2 hts (gd_V wa_c k_ml_X2_45 k_im_X2_is k_se_X2_is k_in_X2 k_co_X2_is) rfl rfl rfl (by decide +kernel) ⟨Nat.le_of_ble_eq_true rfl, Nat.le_of_ble_eq_true rfl⟩) (xr_preV (q0 := 0) (C := RX2) hK hP xz_Z.nil rfl rfl) rfl rfl hl.1 rfl (lv_room (Nat.le_of_ble_eq_true rfl)) dX2_mode_29 ⟨Nat.zero_le _, Nat.zero_le _⟩) rfl ?_
  refine xb_if_eq (b := B 4 (7 * c + 6)) (tgt := 39) hx hb dX2_mode_32 (by decide) (fun h1 => ?_) (fun h1 => ?_)
  · refine lv_iconst (v := nI 0) hx hb dX2_mode_39 (by decide) ?_
    exact xc_zret (wf := mw hm a cA) hx hb hr hlocks dX2_mode_40 hK hP hD hS (bI_nar false) (congrArg bI (show false = _ from (by first | rfl | (simp only [(mIsC_ok hc), h1, Bool.true_and, Bool.false_and, Bool.and_true, Bool.and_false, Bool.true_or, Bool.or_true, Bool.false_or, Bool.or_false, Bool.not_true, Bool.not_false, decide_true, decide_false, Option.isSome, not_true_eq_false, not_false_eq_true, if_true, if_false, reduceCtorEq, ↓reduceIte]; done) | (simp only [(mIsC_ok hc), h1, Bool.true_and, Bool.false_and, Bool.and_true, Bool.and_false, Bool.true_or, Bool.or_true, Bool.false_or, Bool.or_false, Bool.not_true, Bool.not_false, decide_true, decide_false, Option.isSome, not_true_eq_false, not_false_eq_true, if_true, if_false, reduceCtorEq, ↓reduceIte]; rfl) | (simp_all; done)))) (by first | rfl | (simp only [(mIsC_ok hc), h1, Bool.true_and, Bool.false_and, Bool.and_true, Bool.and_false, Bool.true_or, Bool.or_true, Bool.false_or, Bool.or_false, Bool.not_true, Bool.not_false, decide_true, decide_false, Option.isSome, not_true_eq_false, not_false_eq_true, if_true, if_false, reduceCtorEq, ↓reduceIte]; done) | (simp only [(mIsC_ok hc), h1, Bool.true_and, Bool.false_and, Bool.and_true, Bool.and_false, Bool.true_or, Bool.or_true, Bool.false_or, Bool.or_false, Bool.not_true, Bool.not_false, decide_true, decide_false, Option.isSome, not_true_eq_false, not_false_eq_true, if_true, if_false, reduceCtorEq, ↓reduceIte]; rfl) | (simp_all; done))
  · refine lv_iconst (v := nI 1) hx hb dX2_mode_35 (by decide) ?_
    refine lv_goto (tgt := 40) hx hb dX2_mode_36 (by decide) ?_
    exact xc_zret (wf := mw hm a cA) hx hb hr hlocks dX2_mode_40 hK hP hD hS (bI_nar true) (congrArg bI (show true = _ from (by first | rfl | (simp only [(mIsC_ok hc), h1, Bool.true_and, Bool.false_and, Bool.and_true, Bool.and_false, Bool.true_or, Bool.or_true, Bool.false_or, Bool.or_false, Bool.not_true, Bool.not_false, decide_true, decide_false, Option.isSome, not_true_eq_false, not_false_eq_true, if_true, if_false, reduceCtorEq, ↓reduceIte]; done) | (simp only [(mIsC_ok hc), h1, Bool.true_and, Bool.false_and, Bool.and_true, Bool.and_false, Bool.true_or, Bool.or_true, Bool.false_or, Bool.or_false, Bool.not_true, Bool.not_false, decide_true, decide_false, Option.isSome, not_true_eq_false, not_false_eq_true, if_true, if_false, reduceCtorEq, ↓reduceIte]; rfl) | (simp_all; done)))) (by first | rfl | (simp only [(mIsC_ok hc), h1, Bool.true_and, Bool.false_and, Bool.and_true, Bool.and_false, Bool.true_or, Bool.or_true, Bool.false_or, Bool.or_false, Bool.not_true, Bool.not_false, decide_true, decide_false, Option.isSome, not_true_eq_false, not_false_eq_true, if_true, if_false, reduceCtorEq, ↓reduceIte]; done) | (simp only [(mIsC_ok hc), h1, Bool.true_and, Bool.false_and, Bool.and_true, Bool.and_false, Bool.true_or, Bool.or_true, Bool.false_or, Bool.or_false, Bool.not_true, Bool.not_false, decide_true, decide_false, Option.isSome, not_true_eq_false, not_false_eq_true, if_true, if_false, reduceCtorEq, ↓reduceIte]; rfl) | (simp_all; done))

set_option maxHeartbeats 4000000 in
set_option maxRecDepth 100000 in
theorem c2_mode_bad1 (l : Launch) (dC : Nat → ClassId) (dI : Nat → Nat → Nat) (hm : Nat) (a : Nat → Nat) (cA : Nat → ClassId) (sz : Nat) (B : Nat → Nat → Bool) (N : Nat → Nat → Nat) (y : Int32) (q : Int32) (hbad : mIsC y = false) : xc_M l yX2_mode wsX2_mode ({ frames := 1, cells := 0, slots := 0, locals := 22 }) [.ref hm, .int y, .int q] sz (dC, dI) vwCl (mtys cA) [] (mw hm a cA (B, N)) (some (.int (bI false))) (mw hm a cA (B, sN N 4 0 1)) 0 0 := by
  refine Met.ofW (cc := cX2_mode) (maxL := 3) (ret := (some .boolean)) (by decide) rfl ?_
  intro p e s m args below meth cd s₁ B₀ hml hv
  obtain ⟨rfl, hsz, hP, hK, hD0, hZ⟩ := hv
  have hx := B₀.exec
  have hb := B₀.bytes
  have hr := B₀.returns
  have hts := atoms_spec (ws := wsX2_mode) B₀.pre
  have hown : s.vm.findClass RX2 = some m.cls := findClass_of_methodNamed B₀.named
  have hlocks := B₀.notSynchronized
  subst hsz
  have hD := hD0.self (sz := s.heap.size)
  generalize hAe : va_A (mw hm a cA (B, N)) s.heap.size = A at hD ⊢
  have hA : ∀ q : Nat, s.heap.size ≤ q → A q := fun q h => by rw [← hAe]; exact Or.inr h
  have hS : va_S A s.heap s.heap [] := va_S.rf
  have hl := lv_entry ([.ref hm, .int y, .int q]) (n := 3) (Nat.le_of_ble_eq_true rfl)
  rw [lg_entry_eq]
  generalize (lg_sl ([.ref hm, .int y, .int q]) ++ List.replicate (3 - (lg_sl ([.ref hm, .int y, .int q])).length) Slot.unset).toArray = ls at hl ⊢
  have hl : lv_has ls 3 [(0, .ref hm), (1, .int y), (2, .int q)] := hl
  refine lv_aload_n hx hb dX2_mode_0 rfl (lv_at hl 0 rfl) ?_
  refine lv_iload_n hx hb dX2_mode_1 rfl (lv_at hl 1 rfl) ?_
  refine xr_call (st1 := [.int (bI (mIsC y)), .ref hm]) (W.runS (As := [.int y]) (rest := [.ref hm]) ⟨hx, hb, hml, hown, hts⟩ (c2_isController l dC dI y) (cwS 1 hts (gd_S wa_c k_ml_X2_87 k_st_X2_isController k_in_X2 k_co_X2_isController) rfl rfl rfl (by decide +kernel) ⟨Nat.le_of_ble_eq_true rfl, Nat.le_of_ble_eq_true rfl⟩) (xr_preS (hK.sub (tys' := []) [] rfl) (hP.sub (ws' := []) [] rfl) xz_Z.nil) rfl rfl hl.1 rfl (lv_room (Nat.le_of_ble_eq_true rfl)) dX2_mode_2 ⟨Nat.zero_le _, Nat.zero_le _⟩) rfl ?_
  refine xi_eq (y := bI false) (congrArg bI hbad) ?_
  refine xj_meet (pcJ := 20) (stJ := fun y => .int y :: [.int (bI false), .ref hm]) (bI (mOkW q (nI 6))) ?_ (fun J20 => ?_)
  · refine xc_call (wc := mw hm a cA (B, N)) (wr := []) (st1 := [.int (bI false)]) (va_runV (As := [.int (bI false), .int (bI (mOkW q (nI 6)))]) (rest := []) ⟨hx, hb, hml, hown, hts⟩ (c2_goes l dC dI hm a cA s.heap.size B N false (mOkW q (nI 6))) (cwV 2 hts (gd_V wa_c k_ml_X2_70 k_im_X2_goes k_se_X2_goes k_in_X2 k_co_X2_goes) rfl rfl rfl (by decide +kernel) ⟨Nat.le_of_ble_eq_true rfl, Nat.le_of_ble_eq_true rfl⟩) (xc_preV (q0 := 0) (C := RX2) hK hP hD xz_Z.nil rfl rfl) rfl rfl hl.1 rfl (lv_room (Nat.le_of_ble_eq_true rfl)) dX2_mode_20 ⟨Nat.zero_le _, Nat.zero_le _⟩) hP hD hS hA [0, 1, 2, 3, 4, 5, 6, 7, 8, 9, 10] [] rfl rfl (by decide) (by decide) rfl (fun H locs hP hD hS _ => ?_)
    have hP : va_P (dC, dI) vwCl (mw hm a cA (B, sN N 4 0 1)) H := hP
    have hD : va_D A (mw hm a cA (B, sN N 4 0 1)) := hD
    refine xb_if_eq (b := false) (tgt := 39) hx hb dX2_mode_23 (by decide) (fun _ => ?_) (fun h => absurd (h.symm.trans rfl) (by decide))
    refine lv_iconst (v := nI 0) hx hb dX2_mode_39 (by decide) ?_
    exact xc_zret (wf := mw hm a cA) hx hb hr hlocks dX2_mode_40 hK hP hD hS (bI_nar false) (congrArg bI (show false = _ from (by first | rfl | (simp only [hbad, Bool.true_and, Bool.false_and, Bool.and_true, Bool.and_false, Bool.true_or, Bool.or_true, Bool.false_or, Bool.or_false, Bool.not_true, Bool.not_false, decide_true, decide_false, Option.isSome, not_true_eq_false, not_false_eq_true, if_true, if_false, reduceCtorEq, ↓reduceIte]; done) | (simp only [mOkW, hbad, Bool.true_and, Bool.false_and, Bool.and_true, Bool.and_false, Bool.true_or, Bool.or_true, Bool.false_or, Bool.or_false, Bool.not_true, Bool.not_false, decide_true, decide_false, Option.isSome, not_true_eq_false, not_false_eq_true, if_true, if_false, reduceCtorEq, ↓reduceIte]; done) | (simp only [mOkW]; simp only [hbad, Bool.true_and, Bool.false_and, Bool.and_true, Bool.and_false, Bool.true_or, Bool.or_true, Bool.false_or, Bool.or_false, Bool.not_true, Bool.not_false, decide_true, decide_false, Option.isSome, not_true_eq_false, not_false_eq_true, if_true, if_false, reduceCtorEq, ↓reduceIte]; done) | (simp only [mOkW]; simp only [hbad, Bool.true_and, Bool.false_and, Bool.and_true, Bool.and_false, Bool.true_or, Bool.or_true, Bool.false_or, Bool.or_false, Bool.not_true, Bool.not_false, decide_true, decide_false, Option.isSome, not_true_eq_false, not_false_eq_true, if_true, if_false, reduceCtorEq, ↓reduceIte]; done) | (simp only [mOkW]; simp only [hbad, Bool.true_and, Bool.false_and, Bool.and_true, Bool.and_false, Bool.true_or, Bool.or_true, Bool.false_or, Bool.or_false, Bool.not_true, Bool.not_false, decide_true, decide_false, Option.isSome, not_true_eq_false, not_false_eq_true, if_true, if_false, reduceCtorEq, ↓reduceIte]; rfl) | (simp only [hbad, Bool.true_and, Bool.false_and, Bool.and_true, Bool.and_false, Bool.true_or, Bool.or_true, Bool.false_or, Bool.or_false, Bool.not_true, Bool.not_false, decide_true, decide_false, Option.isSome, not_true_eq_false, not_false_eq_true, if_true, if_false, reduceCtorEq, ↓reduceIte]; rfl) | (simp_all [mOkW]; done)))) (by first | rfl | (simp only [hbad, Bool.true_and, Bool.false_and, Bool.and_true, Bool.and_false, Bool.true_or, Bool.or_true, Bool.false_or, Bool.or_false, Bool.not_true, Bool.not_false, decide_true, decide_false, Option.isSome, not_true_eq_false, not_false_eq_true, if_true, if_false, reduceCtorEq, ↓reduceIte]; done) | (simp only [mOkW, hbad, Bool.true_and, Bool.false_and, Bool.and_true, Bool.and_false, Bool.true_or, Bool.or_true, Bool.false_or, Bool.or_false, Bool.not_true, Bool.not_false, decide_true, decide_false, Option.isSome, not_true_eq_false, not_false_eq_true, if_true, if_false, reduceCtorEq, ↓reduceIte]; done) | (simp only [mOkW]; simp only [hbad, Bool.true_and, Bool.false_and, Bool.and_true, Bool.and_false, Bool.true_or, Bool.or_true, Bool.false_or, Bool.or_false, Bool.not_true, Bool.not_false, decide_true, decide_false, Option.isSome, not_true_eq_false, not_false_eq_true, if_true, if_false, reduceCtorEq, ↓reduceIte]; done) | (simp only [mOkW]; simp only [hbad, Bool.true_and, Bool.false_and, Bool.and_true, Bool.and_false, Bool.true_or, Bool.or_true, Bool.false_or, Bool.or_false, Bool.not_true, Bool.not_false, decide_true, decide_false, Option.isSome, not_true_eq_false, not_false_eq_true, if_true, if_false, reduceCtorEq, ↓reduceIte]; done) | (simp only [mOkW]; simp only [hbad, Bool.true_and, Bool.false_and, Bool.and_true, Bool.and_false, Bool.true_or, Bool.or_true, Bool.false_or, Bool.or_false, Bool.not_true, Bool.not_false, decide_true, decide_false, Option.isSome, not_true_eq_false, not_false_eq_true, if_true, if_false, reduceCtorEq, ↓reduceIte]; rfl) | (simp only [hbad, Bool.true_and, Bool.false_and, Bool.and_true, Bool.and_false, Bool.true_or, Bool.or_true, Bool.false_or, Bool.or_false, Bool.not_true, Bool.not_false, decide_true, decide_false, Option.isSome, not_true_eq_false, not_false_eq_true, if_true, if_false, reduceCtorEq, ↓reduceIte]; rfl) | (simp_all [mOkW]; done))
  · refine lv_iload_n hx hb dX2_mode_5 rfl (lv_at hl 2 rfl) ?_
    refine lv_if_lt (tgt := 19) hx hb dX2_mode_6 (by decide) (fun h1 => ?_) (fun h1 => ?_)
    · refine lv_iconst (v := nI 0) hx hb dX2_mode_19 (by decide) ?_
      exact J20 (bI false) (congrArg bI (show false = (mOkW q (nI 6)) from (by first | rfl | (simp only [hbad, if_pos h1, if_neg (not_not_intro h1), decide_eq_true h1, Bool.true_and, Bool.false_and, Bool.and_true, Bool.and_false, Bool.true_or, Bool.or_true, Bool.false_or, Bool.or_false, Bool.not_true, Bool.not_false, decide_true, decide_false, Option.isSome, not_true_eq_false, not_false_eq_true, if_true, if_false, reduceCtorEq, ↓reduceIte]; done) | (simp only [mOkW, hbad, if_pos h1, if_neg (not_not_intro h1), decide_eq_true h1, Bool.true_and, Bool.false_and, Bool.and_true, Bool.and_false, Bool.true_or, Bool.or_true, Bool.false_or, Bool.or_false, Bool.not_true, Bool.not_false, decide_true, decide_false, Option.isSome, not_true_eq_false, not_false_eq_true, if_true, if_false, reduceCtorEq, ↓reduceIte]; done) | (simp only [mOkW]; simp only [hbad, if_pos h1, if_neg (not_not_intro h1), decide_eq_true h1, Bool.true_and, Bool.false_and, Bool.and_true, Bool.and_false, Bool.true_or, Bool.or_true, Bool.false_or, Bool.or_false, Bool.not_true, Bool.not_false, decide_true, decide_false, Option.isSome, not_true_eq_false, not_false_eq_true, if_true, if_false, reduceCtorEq, ↓reduceIte]; done) | (simp only [mOkW]; simp only [hbad, if_pos h1, if_neg (not_not_intro h1), decide_eq_true h1, Bool.true_and, Bool.false_and, Bool.and_true, Bool.and_false, Bool.true_or, Bool.or_true, Bool.false_or, Bool.or_false, Bool.not_true, Bool.not_false, decide_true, decide_false, Option.isSome, not_true_eq_false, not_false_eq_true, if_true, if_false, reduceCtorEq, ↓reduceIte]; done) | (simp only [mOkW]; simp only [hbad, if_pos h1, if_neg (not_not_intro h1), decide_eq_true h1, Bool.true_and, Bool.false_and, Bool.and_true, Bool.and_false, Bool.true_or, Bool.or_true, Bool.false_or, Bool.or_false, Bool.not_true, Bool.not_false, decide_true, decide_false, Option.isSome, not_true_eq_false, not_false_eq_true, if_true, if_false, reduceCtorEq, ↓reduceIte]; rfl) | (simp only [hbad, if_pos h1, if_neg (not_not_intro h1), decide_eq_true h1, Bool.true_and, Bool.false_and, Bool.and_true, Bool.and_false, Bool.true_or, Bool.or_true, Bool.false_or, Bool.or_false, Bool.not_true, Bool.not_false, decide_true, decide_false, Option.isSome, not_true_eq_false, not_false_eq_true, if_true, if_false, reduceCtorEq, ↓reduceIte]; rfl) | (simp_all [mOkW]; done))))
    · refine lv_iload_n hx hb dX2_mode_9 rfl (lv_at hl 2 rfl) ?_
      refine lv_bipush (v := nI 6) hx hb dX2_mode_10 (by decide) ?_
      refine lv_icmp_gt (tgt := 19) hx hb dX2_mode_12 (by decide) (fun h2 => ?_) (fun h2 => ?_)
      · refine lv_iconst (v := nI 0) hx hb dX2_mode_19 (by decide) ?_
        exact J20 (bI false) (congrArg bI (show false = (mOkW q (nI 6)) from (by first | rfl | (simp only [hbad, if_neg h1, if_pos h1, decide_eq_false h1, if_pos h2, if_neg (not_not_intro h2), decide_eq_true h2, Bool.true_and, Bool.false_and, Bool.and_true, Bool.and_false, Bool.true_or, Bool.or_true, Bool.false_or, Bool.or_false, Bool.not_true, Bool.not_false, decide_true, decide_false, Option.isSome, not_true_eq_false, not_false_eq_true, if_true, if_false, reduceCtorEq, ↓reduceIte]; done) | (simp only [mOkW, hbad, if_neg h1, if_pos h1, decide_eq_false h1, if_pos h2, if_neg (not_not_intro h2), decide_eq_true h2, Bool.true_and, Bool.false_and, Bool.and_true, Bool.and_false, Bool.true_or, Bool.or_true, Bool.false_or, Bool.or_false, Bool.not_true, Bool.not_false, decide_true, decide_false, Option.isSome, not_true_eq_false, not_false_eq_true, if_true, if_false, reduceCtorEq, ↓reduceIte]; done) | (simp only [mOkW]; simp only [hbad, if_neg h1, if_pos h1, decide_eq_false h1, if_pos h2, if_neg (not_not_intro h2), decide_eq_true h2, Bool.true_and, Bool.false_and, Bool.and_true, Bool.and_false, Bool.true_or, Bool.or_true, Bool.false_or, Bool.or_false, Bool.not_true, Bool.not_false, decide_true, decide_false, Option.isSome, not_true_eq_false, not_false_eq_true, if_true, if_false, reduceCtorEq, ↓reduceIte]; done) | (simp only [mOkW]; simp only [hbad, if_neg h1, if_pos h1, decide_eq_false h1, if_pos h2, if_neg (not_not_intro h2), decide_eq_true h2, Bool.true_and, Bool.false_and, Bool.and_true, Bool.and_false, Bool.true_or, Bool.or_true, Bool.false_or, Bool.or_false, Bool.not_true, Bool.not_false, decide_true, decide_false, Option.isSome, not_true_eq_false, not_false_eq_true, if_true, if_false, reduceCtorEq, ↓reduceIte]; done) | (simp only [mOkW]; simp only [hbad, if_neg h1, if_pos h1, decide_eq_false h1, if_pos h2, if_neg (not_not_intro h2), decide_eq_true h2, Bool.true_and, Bool.false_and, Bool.and_true, Bool.and_false, Bool.true_or, Bool.or_true, Bool.false_or, Bool.or_false, Bool.not_true, Bool.not_false, decide_true, decide_false, Option.isSome, not_true_eq_false, not_false_eq_true, if_true, if_false, reduceCtorEq, ↓reduceIte]; rfl) | (simp only [hbad, if_neg h1, if_pos h1, decide_eq_false h1, if_pos h2, if_neg (not_not_intro h2), decide_eq_true h2, Bool.true_and, Bool.false_and, Bool.and_true, Bool.and_false, Bool.true_or, Bool.or_true, Bool.false_or, Bool.or_false, Bool.not_true, Bool.not_false, decide_true, decide_false, Option.isSome, not_true_eq_false, not_false_eq_true, if_true, if_false, reduceCtorEq, ↓reduceIte]; rfl) | (simp_all [mOkW]; done))))
      · refine lv_iconst (v := nI 1) hx hb dX2_mode_15 (by decide) ?_
        refine lv_goto (tgt := 20) hx hb dX2_mode_16 (by decide) ?_
        exact J20 (bI true) (congrArg bI (show true = (mOkW q (nI 6)) from (by first | rfl | (simp only [hbad, if_neg h1, if_pos h1, decide_eq_false h1, if_neg h2, if_pos h2, decide_eq_false h2, Bool.true_and, Bool.false_and, Bool.and_true, Bool.and_false, Bool.true_or, Bool.or_true, Bool.false_or, Bool.or_false, Bool.not_true, Bool.not_false, decide_true, decide_false, Option.isSome, not_true_eq_false, not_false_eq_true, if_true, if_false, reduceCtorEq, ↓reduceIte]; done) | (simp only [mOkW, hbad, if_neg h1, if_pos h1, decide_eq_false h1, if_neg h2, if_pos h2, decide_eq_false h2, Bool.true_and, Bool.false_and, Bool.and_true, Bool.and_false, Bool.true_or, Bool.or_true, Bool.false_or, Bool.or_false, Bool.not_true, Bool.not_false, decide_true, decide_false, Option.isSome, not_true_eq_false, not_false_eq_true, if_true, if_false, reduceCtorEq, ↓reduceIte]; done) | (simp only [mOkW]; simp only [hbad, if_neg h1, if_pos h1, decide_eq_false h1, if_neg h2, if_pos h2, decide_eq_false h2, Bool.true_and, Bool.false_and, Bool.and_true, Bool.and_false, Bool.true_or, Bool.or_true, Bool.false_or, Bool.or_false, Bool.not_true, Bool.not_false, decide_true, decide_false, Option.isSome, not_true_eq_false, not_false_eq_true, if_true, if_false, reduceCtorEq, ↓reduceIte]; done) | (simp only [mOkW]; simp only [hbad, if_neg h1, if_pos h1, decide_eq_false h1, if_neg h2, if_pos h2, decide_eq_false h2, Bool.true_and, Bool.false_and, Bool.and_true, Bool.and_false, Bool.true_or, Bool.or_true, Bool.false_or, Bool.or_false, Bool.not_true, Bool.not_false, decide_true, decide_false, Option.isSome, not_true_eq_false, not_false_eq_true, if_true, if_false, reduceCtorEq, ↓reduceIte]; done) | (simp only [mOkW]; simp only [hbad, if_neg h1, if_pos h1, decide_eq_false h1, if_neg h2, if_pos h2, decide_eq_false h2, Bool.true_and, Bool.false_and, Bool.and_true, Bool.and_false, Bool.true_or, Bool.or_true, Bool.false_or, Bool.or_false, Bool.not_true, Bool.not_false, decide_true, decide_false, Option.isSome, not_true_eq_false, not_false_eq_true, if_true, if_false, reduceCtorEq, ↓reduceIte]; rfl) | (simp only [hbad, if_neg h1, if_pos h1, decide_eq_false h1, if_neg h2, if_pos h2, decide_eq_false h2, Bool.true_and, Bool.false_and, Bool.and_true, Bool.and_false, Bool.true_or, Bool.or_true, Bool.false_or, Bool.or_false, Bool.not_true, Bool.not_false, decide_true, decide_false, Option.isSome, not_true_eq_false, not_false_eq_true, if_true, if_false, reduceCtorEq, ↓reduceIte]; rfl) | (simp_all [mOkW]; done))))

set_option maxHeartbeats 4000000 in
set_option maxRecDepth 100000 in
theorem c2_mode_bad2 (l : Launch) (dC : Nat → ClassId) (dI : Nat → Nat → Nat) (hm : Nat) (a : Nat → Nat) (cA : Nat → ClassId) (sz : Nat) (B : Nat → Nat → Bool) (N : Nat → Nat → Nat) (y : Int32) (q : Int32) (hy : mIsC y = true) (hbad : q < 0 ∨ nI 6 < q) : xc_M l yX2_mode wsX2_mode ({ frames := 1, cells := 0, slots := 0, locals := 22 }) [.ref hm, .int y, .int q] sz (dC, dI) vwCl (mtys cA) [] (mw hm a cA (B, N)) (some (.int (bI false))) (mw hm a cA (B, sN N 4 0 2)) 0 0 := by
  refine Met.ofW (cc := cX2_mode) (maxL := 3) (ret := (some .boolean)) (by decide) rfl ?_
  intro p e s m args below meth cd s₁ B₀ hml hv
  obtain ⟨rfl, hsz, hP, hK, hD0, hZ⟩ := hv
  have hx := B₀.exec
  have hb := B₀.bytes
  have hr := B₀.returns
  have hts := atoms_spec (ws := wsX2_mode) B₀.pre
  have hown : s.vm.findClass RX2 = some m.cls := findClass_of_methodNamed B₀.named
  have hlocks := B₀.notSynchronized
  subst hsz
  have hD := hD0.self (sz := s.heap.size)
  generalize hAe : va_A (mw hm a cA (B, N)) s.heap.size = A at hD ⊢
  have hA : ∀ q : Nat, s.heap.size ≤ q → A q := fun q h => by rw [← hAe]; exact Or.inr h
  have hS : va_S A s.heap s.heap [] := va_S.rf
  have hl := lv_entry ([.ref hm, .int y, .int q]) (n := 3) (Nat.le_of_ble_eq_true rfl)
  rw [lg_entry_eq]
  generalize (lg_sl ([.ref hm, .int y, .int q]) ++ List.replicate (3 - (lg_sl ([.ref hm, .int y, .int q])).length) Slot.unset).toArray = ls at hl ⊢
  have hl : lv_has ls 3 [(0, .ref hm), (1, .int y), (2, .int q)] := hl
  refine lv_aload_n hx hb dX2_mode_0 rfl (lv_at hl 0 rfl) ?_
  refine lv_iload_n hx hb dX2_mode_1 rfl (lv_at hl 1 rfl) ?_
  refine xr_call (st1 := [.int (bI (mIsC y)), .ref hm]) (W.runS (As := [.int y]) (rest := [.ref hm]) ⟨hx, hb, hml, hown, hts⟩ (c2_isController l dC dI y) (cwS 1 hts (gd_S wa_c k_ml_X2_87 k_st_X2_isController k_in_X2 k_co_X2_isController) rfl rfl rfl (by decide +kernel) ⟨Nat.le_of_ble_eq_true rfl, Nat.le_of_ble_eq_true rfl⟩) (xr_preS (hK.sub (tys' := []) [] rfl) (hP.sub (ws' := []) [] rfl) xz_Z.nil) rfl rfl hl.1 rfl (lv_room (Nat.le_of_ble_eq_true rfl)) dX2_mode_2 ⟨Nat.zero_le _, Nat.zero_le _⟩) rfl ?_
  refine xi_eq (y := bI true) (congrArg bI hy) ?_
  refine xj_meet (pcJ := 20) (stJ := fun y => .int y :: [.int (bI true), .ref hm]) (bI false) ?_ (fun J20 => ?_)
  · refine xc_call (wc := mw hm a cA (B, N)) (wr := []) (st1 := [.int (bI false)]) (va_runV (As := [.int (bI true), .int (bI false)]) (rest := []) ⟨hx, hb, hml, hown, hts⟩ (c2_goes l dC dI hm a cA s.heap.size B N true false) (cwV 2 hts (gd_V wa_c k_ml_X2_70 k_im_X2_goes k_se_X2_goes k_in_X2 k_co_X2_goes) rfl rfl rfl (by decide +kernel) ⟨Nat.le_of_ble_eq_true rfl, Nat.le_of_ble_eq_true rfl⟩) (xc_preV (q0 := 0) (C := RX2) hK hP hD xz_Z.nil rfl rfl) rfl rfl hl.1 rfl (lv_room (Nat.le_of_ble_eq_true rfl)) dX2_mode_20 ⟨Nat.zero_le _, Nat.zero_le _⟩) hP hD hS hA [0, 1, 2, 3, 4, 5, 6, 7, 8, 9, 10] [] rfl rfl (by decide) (by decide) rfl (fun H locs hP hD hS _ => ?_)
    have hP : va_P (dC, dI) vwCl (mw hm a cA (B, sN N 4 0 2)) H := hP
    have hD : va_D A (mw hm a cA (B, sN N 4 0 2)) := hD
    refine xb_if_eq (b := false) (tgt := 39) hx hb dX2_mode_23 (by decide) (fun _ => ?_) (fun h => absurd (h.symm.trans rfl) (by decide))
    refine lv_iconst (v := nI 0) hx hb dX2_mode_39 (by decide) ?_
    exact xc_zret (wf := mw hm a cA) hx hb hr hlocks dX2_mode_40 hK hP hD hS (bI_nar false) (congrArg bI (show false = _ from (by first | rfl | (simp only [hy, Bool.true_and, Bool.false_and, Bool.and_true, Bool.and_false, Bool.true_or, Bool.or_true, Bool.false_or, Bool.or_false, Bool.not_true, Bool.not_false, decide_true, decide_false, Option.isSome, not_true_eq_false, not_false_eq_true, if_true, if_false, reduceCtorEq, ↓reduceIte]; done) | (simp only [hy, Bool.true_and, Bool.false_and, Bool.and_true, Bool.and_false, Bool.true_or, Bool.or_true, Bool.false_or, Bool.or_false, Bool.not_true, Bool.not_false, decide_true, decide_false, Option.isSome, not_true_eq_false, not_false_eq_true, if_true, if_false, reduceCtorEq, ↓reduceIte]; rfl) | (simp_all; done)))) (by first | rfl | (simp only [hy, Bool.true_and, Bool.false_and, Bool.and_true, Bool.and_false, Bool.true_or, Bool.or_true, Bool.false_or, Bool.or_false, Bool.not_true, Bool.not_false, decide_true, decide_false, Option.isSome, not_true_eq_false, not_false_eq_true, if_true, if_false, reduceCtorEq, ↓reduceIte]; done) | (simp only [hy, Bool.true_and, Bool.false_and, Bool.and_true, Bool.and_false, Bool.true_or, Bool.or_true, Bool.false_or, Bool.or_false, Bool.not_true, Bool.not_false, decide_true, decide_false, Option.isSome, not_true_eq_false, not_false_eq_true, if_true, if_false, reduceCtorEq, ↓reduceIte]; rfl) | (simp_all; done))
  · refine lv_iload_n hx hb dX2_mode_5 rfl (lv_at hl 2 rfl) ?_
    refine lv_if_lt (tgt := 19) hx hb dX2_mode_6 (by decide) (fun h1 => ?_) (fun h1 => ?_)
    · refine lv_iconst (v := nI 0) hx hb dX2_mode_19 (by decide) ?_
      exact J20 (bI false) (congrArg bI (show false = (false) from (by first | rfl | (simp only [hy, if_pos h1, if_neg (not_not_intro h1), decide_eq_true h1, Bool.true_and, Bool.false_and, Bool.and_true, Bool.and_false, Bool.true_or, Bool.or_true, Bool.false_or, Bool.or_false, Bool.not_true, Bool.not_false, decide_true, decide_false, Option.isSome, not_true_eq_false, not_false_eq_true, if_true, if_false, reduceCtorEq, ↓reduceIte]; done) | (simp only [hy, if_pos h1, if_neg (not_not_intro h1), decide_eq_true h1, Bool.true_and, Bool.false_and, Bool.and_true, Bool.and_false, Bool.true_or, Bool.or_true, Bool.false_or, Bool.or_false, Bool.not_true, Bool.not_false, decide_true, decide_false, Option.isSome, not_true_eq_false, not_false_eq_true, if_true, if_false, reduceCtorEq, ↓reduceIte]; rfl) | (simp_all; done))))
    · refine lv_iload_n hx hb dX2_mode_9 rfl (lv_at hl 2 rfl) ?_
      refine lv_bipush (v := nI 6) hx hb dX2_mode_10 (by decide) ?_
      refine lv_icmp_gt (tgt := 19) hx hb dX2_mode_12 (by decide) (fun h2 => ?_) (fun h2 => ?_)
      · refine lv_iconst (v := nI 0) hx hb dX2_mode_19 (by decide) ?_
        exact J20 (bI false) (congrArg bI (show false = (false) from (by first | rfl | (simp only [hy, if_neg h1, if_pos h1, decide_eq_false h1, if_pos h2, if_neg (not_not_intro h2), decide_eq_true h2, Bool.true_and, Bool.false_and, Bool.and_true, Bool.and_false, Bool.true_or, Bool.or_true, Bool.false_or, Bool.or_false, Bool.not_true, Bool.not_false, decide_true, decide_false, Option.isSome, not_true_eq_false, not_false_eq_true, if_true, if_false, reduceCtorEq, ↓reduceIte]; done) | (simp only [hy, if_neg h1, if_pos h1, decide_eq_false h1, if_pos h2, if_neg (not_not_intro h2), decide_eq_true h2, Bool.true_and, Bool.false_and, Bool.and_true, Bool.and_false, Bool.true_or, Bool.or_true, Bool.false_or, Bool.or_false, Bool.not_true, Bool.not_false, decide_true, decide_false, Option.isSome, not_true_eq_false, not_false_eq_true, if_true, if_false, reduceCtorEq, ↓reduceIte]; rfl) | (simp_all; done))))
      · refine lv_iconst (v := nI 1) hx hb dX2_mode_15 (by decide) ?_
        refine lv_goto (tgt := 20) hx hb dX2_mode_16 (by decide) ?_
        exact J20 (bI true) (congrArg bI (show true = (false) from (by first | rfl | (simp only [hy, if_neg h1, if_pos h1, decide_eq_false h1, if_neg h2, if_pos h2, decide_eq_false h2, Bool.true_and, Bool.false_and, Bool.and_true, Bool.and_false, Bool.true_or, Bool.or_true, Bool.false_or, Bool.or_false, Bool.not_true, Bool.not_false, decide_true, decide_false, Option.isSome, not_true_eq_false, not_false_eq_true, if_true, if_false, reduceCtorEq, ↓reduceIte]; done) | (simp only [hy, if_neg h1, if_pos h1, decide_eq_false h1, if_neg h2, if_pos h2, decide_eq_false h2, Bool.true_and, Bool.false_and, Bool.and_true, Bool.and_false, Bool.true_or, Bool.or_true, Bool.false_or, Bool.or_false, Bool.not_true, Bool.not_false, decide_true, decide_false, Option.isSome, not_true_eq_false, not_false_eq_true, if_true, if_false, reduceCtorEq, ↓reduceIte]; rfl) | (simp_all; done))))

