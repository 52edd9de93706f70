set_option maxHeartbeats 4000000 in
set_option maxRecDepth 100000 in
theorem c2_about_ok0 (l : Launch) (dC : Nat → ClassId) (dI : Nat → Nat → Nat) (hm : Nat) (a : Nat → Nat) (cA : Nat → ClassId) (sz : Nat) (B : Nat → Nat → Bool) (N : Nat → Nat → Nat) (c : Nat) (hc : c < 2) : xc_M l yX2_about wsX2_about ({ frames := 3, cells := 0, slots := 0, locals := 69 }) [.ref hm, .int (nI c), .int (nI 0)] sz (dC, dI) vwCl (mtys cA) [] (mw hm a cA (B, N)) (some (.int (nI (mBits (mSel B c 0) 8)))) (mw hm a cA (B, sN N 4 0 0)) 0 0 := by
  refine Met.ofW (cc := cX2_about) (maxL := 3) (ret := (some .int)) (by decide) rfl ?_
  intro p e s m args below meth cd s₁ B₀ hml hv
  obtain ⟨rfl, hsz, hP, hK, hD0, hZ⟩ := hv
  have hx := B₀.exec
  have hb := B₀.bytes
  have hr := B₀.returns
  have hts := atoms_spec (ws := wsX2_about) B₀.pre
  have hown : s.vm.findClass RX2 = some m.cls := findClass_of_methodNamed B₀.named
  have hlocks := B₀.notSynchronized
  subst hsz
  have hD := hD0.self (sz := s.heap.size)
  generalize hAe : va_A (mw hm a cA (B, N)) s.heap.size = A at hD ⊢
  have hA : ∀ q : Nat, s.heap.size ≤ q → A q := fun q h => by rw [← hAe]; exact Or.inr h
  have hS : va_S A s.heap s.heap [] := va_S.rf
  have hin_RX2 : ∀ w ∈ u_ws RX2 TX2 14, w ∈ wsX2_about := fun w h => List.mem_cons_of_mem _ (u_X2 w h)
  have hlk_22 := hts _ (List.mem_cons_of_mem _ k_fl_X2_22)
  have hlk_26 := hts _ (List.mem_cons_of_mem _ k_fl_X2_26)
  have hlk_29 := hts _ (List.mem_cons_of_mem _ k_fl_X2_29)
  have hlk_32 := hts _ (List.mem_cons_of_mem _ k_fl_X2_32)
  have hl := lv_entry ([.ref hm, .int (nI c), .int (nI 0)]) (n := 3) (Nat.le_of_ble_eq_true rfl)
  rw [lg_entry_eq]
  generalize (lg_sl ([.ref hm, .int (nI c), .int (nI 0)]) ++ List.replicate (3 - (lg_sl ([.ref hm, .int (nI c), .int (nI 0)])).length) Slot.unset).toArray = ls at hl ⊢
  have hl : lv_has ls 3 [(0, .ref hm), (1, .int (nI c)), (2, .int (nI 0))] := hl
  refine lv_aload_n hx hb dX2_about_0 rfl (lv_at hl 0 rfl) ?_
  refine lv_iload_n hx hb dX2_about_1 rfl (lv_at hl 1 rfl) ?_
  refine xr_call (st1 := [.int (bI (mIsC (nI c))), .ref hm]) (W.runS (As := [.int (nI c)]) (rest := [.ref hm]) ⟨hx, hb, hml, hown, hts⟩ (c2_isController l dC dI (nI c)) (cwS 1 hts (gd_S wa_c k_ml_X2_87 k_st_X2_isController k_in_X2 k_co_X2_isController) rfl rfl rfl (by decide +kernel) ⟨Nat.le_of_ble_eq_true rfl, Nat.le_of_ble_eq_true rfl⟩) (xr_preS (hK.sub (tys' := []) [] rfl) (hP.sub (ws' := []) [] rfl) xz_Z.nil) rfl rfl hl.1 rfl (lv_room (Nat.le_of_ble_eq_true rfl)) dX2_about_2 ⟨Nat.zero_le _, Nat.zero_le _⟩) rfl ?_
  refine xi_eq (y := bI true) (congrArg bI (mIsC_ok hc)) ?_
  refine lv_iload_n hx hb dX2_about_5 rfl (lv_at hl 2 rfl) ?_
  refine xn_if_lt (x := 0) (tgt := 19) (by omega) hx hb dX2_about_6 (by decide) ?_
  refine lv_iload_n hx hb dX2_about_9 rfl (lv_at hl 2 rfl) ?_
  refine lv_bipush (v := nI 7) hx hb dX2_about_10 (by decide) ?_
  refine xn_icmp_gt (x := 0) (y := 7) (tgt := 19) (by omega) (by omega) hx hb dX2_about_12 (by decide) (fun h => absurd h (by decide)) (fun _ => ?_)
  refine lv_iconst (v := nI 1) hx hb dX2_about_15 (by decide) ?_
  refine lv_goto (tgt := 20) hx hb dX2_about_16 (by decide) ?_
  refine xc_call (wc := mw hm a cA (B, N)) (wr := []) (st1 := [.int (bI true)]) (va_runV (As := [.int (bI true), .int (bI true)]) (rest := []) ⟨hx, hb, hml, hown, hts⟩ (c2_goes l dC dI hm a cA s.heap.size B N true true) (cwV 2 hts (gd_V wa_c k_ml_X2_70 k_im_X2_goes k_se_X2_goes k_in_X2 k_co_X2_goes) rfl rfl rfl (by decide +kernel) ⟨Nat.le_of_ble_eq_true rfl, Nat.le_of_ble_eq_true rfl⟩) (xc_preV (q0 := 0) (C := RX2) hK hP hD xz_Z.nil rfl rfl) rfl rfl hl.1 rfl (lv_room (Nat.le_of_ble_eq_true rfl)) dX2_about_20 ⟨Nat.zero_le _, Nat.zero_le _⟩) hP hD hS hA [0, 1, 2, 3, 4, 5, 6, 7, 8, 9, 10] [] rfl rfl (by decide) (by decide) rfl (fun H locs hP hD hS _ => ?_)
  have hP : va_P (dC, dI) vwCl (mw hm a cA (B, sN N 4 0 0)) H := hP
  have hD : va_D A (mw hm a cA (B, sN N 4 0 0)) := hD
  refine xb_if_ne (b := true) (tgt := 28) hx hb dX2_about_23 (by decide) (fun _ => ?_) (fun h => absurd (h.symm.trans rfl) (by decide))
  refine lv_iload_n hx hb dX2_about_28 rfl (lv_at hl 2 rfl) ?_
  refine lv_tableOut (tgt := 88) hx hb dX2_about_29 (by decide) (by decide) ?_
  refine lv_aload_n hx hb dX2_about_88 rfl (lv_at hl 0 rfl) ?_
  refine lv_iload_n hx hb dX2_about_89 rfl (lv_at hl 1 rfl) ?_
  refine lv_iload_n hx hb dX2_about_90 rfl (lv_at hl 2 rfl) ?_
  refine xr_call (st1 := [.int (nI (mBits (mSel B c 0) 8))]) (W.runV (As := [.int (nI c), .int (nI 0)]) (rest := []) ⟨hx, hb, hml, hown, hts⟩ (c2_bits l dC dI hm a cA B (sN N 4 0 0) c 0 (by omega) (by omega)) (cwV 2 hts (gd_V wa_c k_ml_X2_104 k_im_X2_bits k_se_X2_bits k_in_X2 k_co_X2_bits) rfl rfl rfl (by decide +kernel) ⟨Nat.le_of_ble_eq_true rfl, Nat.le_of_ble_eq_true rfl⟩) (xr_preV (q0 := 0) (C := RX2) hK hP xz_Z.nil rfl rfl) rfl rfl hl.1 rfl (lv_room (Nat.le_of_ble_eq_true rfl)) dX2_about_91 ⟨Nat.zero_le _, Nat.zero_le _⟩) rfl ?_
  exact xc_iret (wf := mw hm a cA) hx hb hr hlocks dX2_about_94 hK hP hD hS  (congrArg nI (show mBits (mSel B c 0) 8 = _ from (by first | rfl | (simp only [(mIsC_ok hc), Bool.true_and, Bool.false_and, Bool.and_true, Bool.and_false, Bool.true_or, Bool.or_true, Bool.false_or, Bool.or_false, Bool.not_true, Bool.not_false, decide_true, decide_false, Option.isSome, not_true_eq_false, not_false_eq_true, if_true, if_false, reduceCtorEq, ↓reduceIte]; done) | (simp only [(mIsC_ok hc), Bool.true_and, Bool.false_and, Bool.and_true, Bool.and_false, Bool.true_or, Bool.or_true, Bool.false_or, Bool.or_false, Bool.not_true, Bool.not_false, decide_true, decide_false, Option.isSome, not_true_eq_false, not_false_eq_true, if_true, if_false, reduceCtorEq, ↓reduceIte]; rfl) | (simp_all; done)))) (by first | rfl | (simp only [(mIsC_ok hc), Bool.true_and, Bool.false_and, Bool.and_true, Bool.and_false, Bool.true_or, Bool.or_true, Bool.false_or, Bool.or_false, Bool.not_true, Bool.not_false, decide_true, decide_false, Option.isSome, not_true_eq_false, not_false_eq_true, if_true, if_false, reduceCtorEq, ↓reduceIte]; done) | (simp only [(mIsC_ok hc), Bool.true_and, Bool.false_and, Bool.and_true, Bool.and_false, Bool.true_or, Bool.or_true, Bool.false_or, Bool.or_false, Bool.not_true, Bool.not_false, decide_true, decide_false, Option.isSome, not_true_eq_false, not_false_eq_true, if_true, if_false, reduceCtorEq, ↓reduceIte]; rfl) | (simp_all; done))

set_option maxHeartbeats 4000000 in
set_option maxRecDepth 100000 in
theorem c2_about_ok1 (l : Launch) (dC : Nat → ClassId) (dI : Nat → Nat → Nat) (hm : Nat) (a : Nat → Nat) (cA : Nat → ClassId) (sz : Nat) (B : Nat → Nat → Bool) (N : Nat → Nat → Nat) (c : Nat) (hc : c < 2) : xc_M l yX2_about wsX2_about ({ frames := 3, cells := 0, slots := 0, locals := 69 }) [.ref hm, .int (nI c), .int (nI 1)] sz (dC, dI) vwCl (mtys cA) [] (mw hm a cA (B, N)) (some (.int (nI (mBits (mSel B c 1) 8)))) (mw hm a cA (B, sN N 4 0 0)) 0 0 := by
  refine Met.ofW (cc := cX2_about) (maxL := 3) (ret := (some .int)) (by decide) rfl ?_
  intro p e s m args below meth cd s₁ B₀ hml hv
  obtain ⟨rfl, hsz, hP, hK, hD0, hZ⟩ := hv
  have hx := B₀.exec
  have hb := B₀.bytes
  have hr := B₀.returns
  have hts := atoms_spec (ws := wsX2_about) B₀.pre
  have hown : s.vm.findClass RX2 = some m.cls := findClass_of_methodNamed B₀.named
  have hlocks := B₀.notSynchronized
  subst hsz
  have hD := hD0.self (sz := s.heap.size)
  generalize hAe : va_A (mw hm a cA (B, N)) s.heap.size = A at hD ⊢
  have hA : ∀ q : Nat, s.heap.size ≤ q → A q := fun q h => by rw [← hAe]; exact Or.inr h
  have hS : va_S A s.heap s.heap [] := va_S.rf
  have hin_RX2 : ∀ w ∈ u_ws RX2 TX2 14, w ∈ wsX2_about := fun w h => List.mem_cons_of_mem _ (u_X2 w h)
  have hlk_22 := hts _ (List.mem_cons_of_mem _ k_fl_X2_22)
  have hlk_26 := hts _ (List.mem_cons_of_mem _ k_fl_X2_26)
  have hlk_29 := hts _ (List.mem_cons_of_mem _ k_fl_X2_29)
  have hlk_32 := hts _ (List.mem_cons_of_mem _ k_fl_X2_32)
  have hl := lv_entry ([.ref hm, .int (nI c), .int (nI 1)]) (n := 3) (Nat.le_of_ble_eq_true rfl)
  rw [lg_entry_eq]
  generalize (lg_sl ([.ref hm, .int (nI c), .int (nI 1)]) ++ List.replicate (3 - (lg_sl ([.ref hm, .int (nI c), .int (nI 1)])).length) Slot.unset).toArray = ls at hl ⊢
  have hl : lv_has ls 3 [(0, .ref hm), (1, .int (nI c)), (2, .int (nI 1))] := hl
  refine lv_aload_n hx hb dX2_about_0 rfl (lv_at hl 0 rfl) ?_
  refine lv_iload_n hx hb dX2_about_1 rfl (lv_at hl 1 rfl) ?_
  refine xr_call (st1 := [.int (bI (mIsC (nI c))), .ref hm]) (W.runS (As := [.int (nI c)]) (rest := [.ref hm]) ⟨hx, hb, hml, hown, hts⟩ (c2_isController l dC dI (nI c)) (cwS 1 hts (gd_S wa_c k_ml_X2_87 k_st_X2_isController k_in_X2 k_co_X2_isController) rfl rfl rfl (by decide +kernel) ⟨Nat.le_of_ble_eq_true rfl, Nat.le_of_ble_eq_true rfl⟩) (xr_preS (hK.sub (tys' := []) [] rfl) (hP.sub (ws' := []) [] rfl) xz_Z.nil) rfl rfl hl.1 rfl (lv_room (Nat.le_of_ble_eq_true rfl)) dX2_about_2 ⟨Nat.zero_le _, Nat.zero_le _⟩) rfl ?_
  refine xi_eq (y := bI true) (congrArg bI (mIsC_ok hc)) ?_
  refine lv_iload_n hx hb dX2_about_5 rfl (lv_at hl 2 rfl) ?_
  refine xn_if_lt (x := 1) (tgt := 19) (by omega) hx hb dX2_about_6 (by decide) ?_
  refine lv_iload_n hx hb dX2_about_9 rfl (lv_at hl 2 rfl) ?_
  refine lv_bipush (v := nI 7) hx hb dX2_about_10 (by decide) ?_
  refine xn_icmp_gt (x := 1) (y := 7) (tgt := 19) (by omega) (by omega) hx hb dX2_about_12 (by decide) (fun h => absurd h (by decide)) (fun _ => ?_)
  refine lv_iconst (v := nI 1) hx hb dX2_about_15 (by decide) ?_
  refine lv_goto (tgt := 20) hx hb dX2_about_16 (by decide) ?_
  refine xc_call (wc := mw hm a cA (B, N)) (wr := []) (st1 := [.int (bI true)]) (va_runV (As := [.int (bI true), .int (bI true)]) (rest := []) ⟨hx, hb, hml, hown, hts⟩ (c2_goes l dC dI hm a cA s.heap.size B N true true) (cwV 2 hts (gd_V wa_c k_ml_X2_70 k_im_X2_goes k_se_X2_goes k_in_X2 k_co_X2_goes) rfl rfl rfl (by decide +kernel) ⟨Nat.le_of_ble_eq_true rfl, Nat.le_of_ble_eq_true rfl⟩) (xc_preV (q0 := 0) (C := RX2) hK hP hD xz_Z.nil rfl rfl) rfl rfl hl.1 rfl (lv_room (Nat.le_of_ble_eq_true rfl)) dX2_about_20 ⟨Nat.zero_le _, Nat.zero_le _⟩) hP hD hS hA [0, 1, 2, 3, 4, 5, 6, 7, 8, 9, 10] [] rfl rfl (by decide) (by decide) rfl (fun H locs hP hD hS _ => ?_)
  have hP : va_P (dC, dI) vwCl (mw hm a cA (B, sN N 4 0 0)) H := hP
  have hD : va_D A (mw hm a cA (B, sN N 4 0 0)) := hD
  refine xb_if_ne (b := true) (tgt := 28) hx hb dX2_about_23 (by decide) (fun _ => ?_) (fun h => absurd (h.symm.trans rfl) (by decide))
  refine lv_iload_n hx hb dX2_about_28 rfl (lv_at hl 2 rfl) ?_
  refine lv_tableOut (tgt := 88) hx hb dX2_about_29 (by decide) (by decide) ?_
  refine lv_aload_n hx hb dX2_about_88 rfl (lv_at hl 0 rfl) ?_
  refine lv_iload_n hx hb dX2_about_89 rfl (lv_at hl 1 rfl) ?_
  refine lv_iload_n hx hb dX2_about_90 rfl (lv_at hl 2 rfl) ?_
  refine xr_call (st1 := [.int (nI (mBits (mSel B c 1) 8))]) (W.runV (As := [.int (nI c), .int (nI 1)]) (rest := []) ⟨hx, hb, hml, hown, hts⟩ (c2_bits l dC dI hm a cA B (sN N 4 0 0) c 1 (by omega) (by omega)) (cwV 2 hts (gd_V wa_c k_ml_X2_104 k_im_X2_bits k_se_X2_bits k_in_X2 k_co_X2_bits) rfl rfl rfl (by decide +kernel) ⟨Nat.le_of_ble_eq_true rfl, Nat.le_of_ble_eq_true rfl⟩) (xr_preV (q0 := 0) (C := RX2) hK hP xz_Z.nil rfl rfl) rfl rfl hl.1 rfl (lv_room (Nat.le_of_ble_eq_true rfl)) dX2_about_91 ⟨Nat.zero_le _, Nat.zero_le _⟩) rfl ?_
  exact xc_iret (wf := mw hm a cA) hx hb hr hlocks dX2_about_94 hK hP hD hS  (congrArg nI (show mBits (mSel B c 1) 8 = _ from (by first | rfl | (simp only [(mIsC_ok hc), Bool.true_and, Bool.false_and, Bool.and_true, Bool.and_false, Bool.true_or, Bool.or_true, Bool.false_or, Bool.or_false, Bool.not_true, Bool.not_false, decide_true, decide_false, Option.isSome, not_true_eq_false, not_false_eq_true, if_true, if_false, reduceCtorEq, ↓reduceIte]; done) | (simp only [(mIsC_ok hc), Bool.true_and, Bool.false_and, Bool.and_true, Bool.and_false, Bool.true_or, Bool.or_true, Bool.false_or, Bool.or_false, Bool.not_true, Bool.not_false, decide_true, decide_false, Option.isSome, not_true_eq_false, not_false_eq_true, if_true, if_false, reduceCtorEq, ↓reduceIte]; rfl) | (simp_all; done)))) (by first | rfl | (simp only [(mIsC_ok hc), Bool.true_and, Bool.false_and, Bool.and_true, Bool.and_false, Bool.true_or, Bool.or_true, Bool.false_or, Bool.or_false, Bool.not_true, Bool.not_false, decide_true, decide_false, Option.isSome, not_true_eq_false, not_false_eq_true, if_true, if_false, reduceCtorEq, ↓reduceIte]; done) | (simp only [(mIsC_ok hc), Bool.true_and, Bool.false_and, Bool.and_true, Bool.and_false, Bool.true_or, Bool.or_true, Bool.false_or, Bool.or_false, Bool.not_true, Bool.not_false, decide_true, decide_false, Option.isSome, not_true_eq_false, not_false_eq_true, if_true, if_false, reduceCtorEq, ↓reduceIte]; rfl) | (simp_all; done))

set_option maxHeartbeats 4000000 in
set_option maxRecDepth 100000 in
theorem c2_about_ok2 (l : Launch) (dC : Nat → ClassId) (dI : Nat → Nat → Nat) (hm : Nat) (a : Nat → Nat) (cA : Nat → ClassId) (sz : Nat) (B : Nat → Nat → Bool) (N : Nat → Nat → Nat) (c : Nat) (hc : c < 2) : xc_M l yX2_about wsX2_about ({ frames := 3, cells := 0, slots := 0, locals := 69 }) [.ref hm, .int (nI c), .int (nI 2)] sz (dC, dI) vwCl (mtys cA) [] (mw hm a cA (B, N)) (some (.int (nI (mBits (mSel B c 2) 8)))) (mw hm a cA (B, sN N 4 0 0)) 0 0 := by
  refine Met.ofW (cc := cX2_about) (maxL := 3) (ret := (some .int)) (by decide) rfl ?_
  intro p e s m args below meth cd s₁ B₀ hml hv
  obtain ⟨rfl, hsz, hP, hK, hD0, hZ⟩ := hv
  have hx := B₀.exec
  have hb := B₀.bytes
  have hr := B₀.returns
  have hts := atoms_spec (ws := wsX2_about) B₀.pre
  have hown : s.vm.findClass RX2 = some m.cls := findClass_of_methodNamed B₀.named
  have hlocks := B₀.notSynchronized
  subst hsz
  have hD := hD0.self (sz := s.heap.size)
  generalize hAe : va_A (mw hm a cA (B, N)) s.heap.size = A at hD ⊢
  have hA : ∀ q : Nat, s.heap.size ≤ q → A q := fun q h => by rw [← hAe]; exact Or.inr h
  have hS : va_S A s.heap s.heap [] := va_S.rf
  have hin_RX2 : ∀ w ∈ u_ws RX2 TX2 14, w ∈ wsX2_about := fun w h => List.mem_cons_of_mem _ (u_X2 w h)
  have hlk_22 := hts _ (List.mem_cons_of_mem _ k_fl_X2_22)
  have hlk_26 := hts _ (List.mem_cons_of_mem _ k_fl_X2_26)
  have hlk_29 := hts _ (List.mem_cons_of_mem _ k_fl_X2_29)
  have hlk_32 := hts _ (List.mem_cons_of_mem _ k_fl_X2_32)
  have hl := lv_entry ([.ref hm, .int (nI c), .int (nI 2)]) (n := 3) (Nat.le_of_ble_eq_true rfl)
  rw [lg_entry_eq]
  generalize (lg_sl ([.ref hm, .int (nI c), .int (nI 2)]) ++ List.replicate (3 - (lg_sl ([.ref hm, .int (nI c), .int (nI 2)])).length) Slot.unset).toArray = ls at hl ⊢
  have hl : lv_has ls 3 [(0, .ref hm), (1, .int (nI c)), (2, .int (nI 2))] := hl
  refine lv_aload_n hx hb dX2_about_0 rfl (lv_at hl 0 rfl) ?_
  refine lv_iload_n hx hb dX2_about_1 rfl (lv_at hl 1 rfl) ?_
  refine xr_call (st1 := [.int (bI (mIsC (nI c))), .ref hm]) (W.runS (As := [.int (nI c)]) (rest := [.ref hm]) ⟨hx, hb, hml, hown, hts⟩ (c2_isController l dC dI (nI c)) (cwS 1 hts (gd_S wa_c k_ml_X2_87 k_st_X2_isController k_in_X2 k_co_X2_isController) rfl rfl rfl (by decide +kernel) ⟨Nat.le_of_ble_eq_true rfl, Nat.le_of_ble_eq_true rfl⟩) (xr_preS (hK.sub (tys' := []) [] rfl) (hP.sub (ws' := []) [] rfl) xz_Z.nil) rfl rfl hl.1 rfl (lv_room (Nat.le_of_ble_eq_true rfl)) dX2_about_2 ⟨Nat.zero_le _, Nat.zero_le _⟩) rfl ?_
  refine xi_eq (y := bI true) (congrArg bI (mIsC_ok hc)) ?_
  refine lv_iload_n hx hb dX2_about_5 rfl (lv_at hl 2 rfl) ?_
  refine xn_if_lt (x := 2) (tgt := 19) (by omega) hx hb dX2_about_6 (by decide) ?_
  refine lv_iload_n hx hb dX2_about_9 rfl (lv_at hl 2 rfl) ?_
  refine lv_bipush (v := nI 7) hx hb dX2_about_10 (by decide) ?_
  refine xn_icmp_gt (x := 2) (y := 7) (tgt := 19) (by omega) (by omega) hx hb dX2_about_12 (by decide) (fun h => absurd h (by decide)) (fun _ => ?_)
  refine lv_iconst (v := nI 1) hx hb dX2_about_15 (by decide) ?_
  refine lv_goto (tgt := 20) hx hb dX2_about_16 (by decide) ?_
  refine xc_call (wc := mw hm a cA (B, N)) (wr := []) (st1 := [.int (bI true)]) (va_runV (As := [.int (bI true), .int (bI true)]) (rest := []) ⟨hx, hb, hml, hown, hts⟩ (c2_goes l dC dI hm a cA s.heap.size B N true true) (cwV 2 hts (gd_V wa_c k_ml_X2_70 k_im_X2_goes k_se_X2_goes k_in_X2 k_co_X2_goes) rfl rfl rfl (by decide +kernel) ⟨Nat.le_of_ble_eq_true rfl, Nat.le_of_ble_eq_true rfl⟩) (xc_preV (q0 := 0) (C := RX2) hK hP hD xz_Z.nil rfl rfl) rfl rfl hl.1 rfl (lv_room (Nat.le_of_ble_eq_true rfl)) dX2_about_20 ⟨Nat.zero_le _, Nat.zero_le _⟩) hP hD hS hA [0, 1, 2, 3, 4, 5, 6, 7, 8, 9, 10] [] rfl rfl (by decide) (by decide) rfl (fun H locs hP hD hS _ => ?_)
  have hP : va_P (dC, dI) vwCl (mw hm a cA (B, sN N 4 0 0)) H := hP
  have hD : va_D A (mw hm a cA (B, sN N 4 0 0)) := hD
  refine xb_if_ne (b := true) (tgt := 28) hx hb dX2_about_23 (by decide) (fun _ => ?_) (fun h => absurd (h.symm.trans rfl) (by decide))
  refine lv_iload_n hx hb dX2_about_28 rfl (lv_at hl 2 rfl) ?_
  refine lv_tableOut (tgt := 88) hx hb dX2_about_29 (by decide) (by decide) ?_
  refine lv_aload_n hx hb dX2_about_88 rfl (lv_at hl 0 rfl) ?_
  refine lv_iload_n hx hb dX2_about_89 rfl (lv_at hl 1 rfl) ?_
  refine lv_iload_n hx hb dX2_about_90 rfl (lv_at hl 2 rfl) ?_
  refine xr_call (st1 := [.int (nI (mBits (mSel B c 2) 8))]) (W.runV (As := [.int (nI c), .int (nI 2)]) (rest := []) ⟨hx, hb, hml, hown, hts⟩ (c2_bits l dC dI hm a cA B (sN N 4 0 0) c 2 (by omega) (by omega)) (cwV 2 hts (gd_V wa_c k_ml_X2_104 k_im_X2_bits k_se_X2_bits k_in_X2 k_co_X2_bits) rfl rfl rfl (by decide +kernel) ⟨Nat.le_of_ble_eq_true rfl, Nat.le_of_ble_eq_true rfl⟩) (xr_preV (q0 := 0) (C := RX2) hK hP xz_Z.nil rfl rfl) rfl rfl hl.1 rfl (lv_room (Nat.le_of_ble_eq_true rfl)) dX2_about_91 ⟨Nat.zero_le _, Nat.zero_le _⟩) rfl ?_
  exact xc_iret (wf := mw hm a cA) hx hb hr hlocks dX2_about_94 hK hP hD hS  (congrArg nI (show mBits (mSel B c 2) 8 = _ from (by first | rfl | (simp only [(mIsC_ok hc), Bool.true_and, Bool.false_and, Bool.and_true, Bool.and_false, Bool.true_or, Bool.or_true, Bool.false_or, Bool.or_false, Bool.not_true, Bool.not_false, decide_true, decide_false, Option.isSome, not_true_eq_false, not_false_eq_true, if_true, if_false, reduceCtorEq, ↓reduceIte]; done) | (simp only [(mIsC_ok hc), Bool.true_and, Bool.false_and, Bool.and_true, Bool.and_false, Bool.true_or, Bool.or_true, Bool.false_or, Bool.or_false, Bool.not_true, Bool.not_false, decide_true, decide_false, Option.isSome, not_true_eq_false, not_false_eq_true, if_true, if_false, reduceCtorEq, ↓reduceIte]; rfl) | (simp_all; done)))) (by first | rfl | (simp only [(mIsC_ok hc), Bool.true_and, Bool.false_and, Bool.and_true, Bool.and_false, Bool.true_or, Bool.or_true, Bool.false_or, Bool.or_false, Bool.not_true, Bool.not_false, decide_true, decide_false, Option.isSome, not_true_eq_false, not_false_eq_true, if_true, if_false, reduceCtorEq, ↓reduceIte]; done) | (simp only [(mIsC_ok hc), Bool.true_and, Bool.false_and, Bool.and_true, Bool.and_false, Bool.true_or, Bool.or_true, Bool.false_or, Bool.or_false, Bool.not_true, Bool.not_false, decide_true, decide_false, Option.isSome, not_true_eq_false, not_false_eq_true, if_true, if_false, reduceCtorEq, ↓reduceIte]; rfl) | (simp_all; done))

set_option maxHeartbeats 4000000 in
set_option maxRecDepth 100000 in
theorem c2_about_ok3 (l : Launch) (dC : Nat → ClassId) (dI : Nat → Nat → Nat) (hm : Nat) (a : Nat → Nat) (cA : Nat → ClassId) (sz : Nat) (B : Nat → Nat → Bool) (N : Nat → Nat → Nat) (c : Nat) (hc : c < 2) : xc_M l yX2_about wsX2_about ({ frames := 3, cells := 0, slots := 0, locals := 69 }) [.ref hm, .int (nI c), .int (nI 3)] sz (dC, dI) vwCl (mtys cA) [] (mw hm a cA (B, N)) (some (.int (nI (mBits (mSel B c 3) 8)))) (mw hm a cA (B, sN N 4 0 0)) 0 0 := by
  refine Met.ofW (cc := cX2_about) (maxL := 3) (ret := (some .int)) (by decide) rfl ?_
  intro p e s m args below meth cd s₁ B₀ hml hv
  obtain ⟨rfl, hsz, hP, hK, hD0, hZ⟩ := hv
  have hx := B₀.exec
  have hb := B₀.bytes
  have hr := B₀.returns
  have hts := atoms_spec (ws := wsX2_about) B₀.pre
  have hown : s.vm.findClass RX2 = some m.cls := findClass_of_methodNamed B₀.named
  have hlocks := B₀.notSynchronized
  subst hsz
  have hD := hD0.self (sz := s.heap.size)
  generalize hAe : va_A (mw hm a cA (B, N)) s.heap.size = A at hD ⊢
  have hA : ∀ q : Nat, s.heap.size ≤ q → A q := fun q h => by rw [← hAe]; exact Or.inr h
  have hS : va_S A s.heap s.heap [] := va_S.rf
  have hin_RX2 : ∀ w ∈ u_ws RX2 TX2 14, w ∈ wsX2_about := fun w h => List.mem_cons_of_mem _ (u_X2 w h)
  have hlk_22 := hts _ (List.mem_cons_of_mem _ k_fl_X2_22)
  have hlk_26 := hts _ (List.mem_cons_of_mem _ k_fl_X2_26)
  have hlk_29 := hts _ (List.mem_cons_of_mem _ k_fl_X2_29)
  have hlk_32 := hts _ (List.mem_cons_of_mem _ k_fl_X2_32)
  have hl := lv_entry ([.ref hm, .int (nI c), .int (nI 3)]) (n := 3) (Nat.le_of_ble_eq_true rfl)
  rw [lg_entry_eq]
  generalize (lg_sl ([.ref hm, .int (nI c), .int (nI 3)]) ++ List.replicate (3 - (lg_sl ([.ref hm, .int (nI c), .int (nI 3)])).length) Slot.unset).toArray = ls at hl ⊢
  have hl : lv_has ls 3 [(0, .ref hm), (1, .int (nI c)), (2, .int (nI 3))] := hl
  refine lv_aload_n hx hb dX2_about_0 rfl (lv_at hl 0 rfl) ?_
  refine lv_iload_n hx hb dX2_about_1 rfl (lv_at hl 1 rfl) ?_
  refine xr_call (st1 := [.int (bI (mIsC (nI c))), .ref hm]) (W.runS (As := [.int (nI c)]) (rest := [.ref hm]) ⟨hx, hb, hml, hown, hts⟩ (c2_isController l dC dI (nI c)) (cwS 1 hts (gd_S wa_c k_ml_X2_87 k_st_X2_isController k_in_X2 k_co_X2_isController) rfl rfl rfl (by decide +kernel) ⟨Nat.le_of_ble_eq_true rfl, Nat.le_of_ble_eq_true rfl⟩) (xr_preS (hK.sub (tys' := []) [] rfl) (hP.sub (ws' := []) [] rfl) xz_Z.nil) rfl rfl hl.1 rfl (lv_room (Nat.le_of_ble_eq_true rfl)) dX2_about_2 ⟨Nat.zero_le _, Nat.zero_le _⟩) rfl ?_
  refine xi_eq (y := bI true) (congrArg bI (mIsC_ok hc)) ?_
  refine lv_iload_n hx hb dX2_about_5 rfl (lv_at hl 2 rfl) ?_
  refine xn_if_lt (x := 3) (tgt := 19) (by omega) hx hb dX2_about_6 (by decide) ?_
  refine lv_iload_n hx hb dX2_about_9 rfl (lv_at hl 2 rfl) ?_
  refine lv_bipush (v := nI 7) hx hb dX2_about_10 (by decide) ?_
  refine xn_icmp_gt (x := 3) (y := 7) (tgt := 19) (by omega) (by omega) hx hb dX2_about_12 (by decide) (fun h => absurd h (by decide)) (fun _ => ?_)
  refine lv_iconst (v := nI 1) hx hb dX2_about_15 (by decide) ?_
  refine lv_goto (tgt := 20) hx hb dX2_about_16 (by decide) ?_
  refine xc_call (wc := mw hm a cA (B, N)) (wr := []) (st1 := [.int (bI true)]) (va_runV (As := [.int (bI true), .int (bI true)]) (rest := []) ⟨hx, hb, hml, hown, hts⟩ (c2_goes l dC dI hm a cA s.heap.size B N true true) (cwV 2 hts (gd_V wa_c k_ml_X2_70 k_im_X2_goes k_se_X2_goes k_in_X2 k_co_X2_goes) rfl rfl rfl (by decide +kernel) ⟨Nat.le_of_ble_eq_true rfl, Nat.le_of_ble_eq_true rfl⟩) (xc_preV (q0 := 0) (C := RX2) hK hP hD xz_Z.nil rfl rfl) rfl rfl hl.1 rfl (lv_room (Nat.le_of_ble_eq_true rfl)) dX2_about_20 ⟨Nat.zero_le _, Nat.zero_le _⟩) hP hD hS hA [0, 1, 2, 3, 4, 5, 6, 7, 8, 9, 10] [] rfl rfl (by decide) (by decide) rfl (fun H locs hP hD hS _ => ?_)
  have hP : va_P (dC, dI) vwCl (mw hm a cA (B, sN N 4 0 0)) H := hP
  have hD : va_D A (mw hm a cA (B, sN N 4 0 0)) := hD
  refine xb_if_ne (b := true) (tgt := 28) hx hb dX2_about_23 (by decide) (fun _ => ?_) (fun h => absurd (h.symm.trans rfl) (by decide))
  refine lv_iload_n hx hb dX2_about_28 rfl (lv_at hl 2 rfl) ?_
  refine lv_tableOut (tgt := 88) hx hb dX2_about_29 (by decide) (by decide) ?_
  refine lv_aload_n hx hb dX2_about_88 rfl (lv_at hl 0 rfl) ?_
  refine lv_iload_n hx hb dX2_about_89 rfl (lv_at hl 1 rfl) ?_
  refine lv_iload_n hx hb dX2_about_90 rfl (lv_at hl 2 rfl) ?_
  refine xr_call (st1 := [.int (nI (mBits (mSel B c 3) 8))]) (W.runV (As := [.int (nI c), .int (nI 3)]) (rest := []) ⟨hx, hb, hml, hown, hts⟩ (c2_bits l dC dI hm a cA B (sN N 4 0 0) c 3 (by omega) (by omega)) (cwV 2 hts (gd_V wa_c k_ml_X2_104 k_im_X2_bits k_se_X2_bits k_in_X2 k_co_X2_bits) rfl rfl rfl (by decide +kernel) ⟨Nat.le_of_ble_eq_true rfl, Nat.le_of_ble_eq_true rfl⟩) (xr_preV (q0 := 0) (C := RX2) hK hP xz_Z.nil rfl rfl) rfl rfl hl.1 rfl (lv_room (Nat.le_of_ble_eq_true rfl)) dX2_about_91 ⟨Nat.zero_le _, Nat.zero_le _⟩) rfl ?_
  exact xc_iret (wf := mw hm a cA) hx hb hr hlocks dX2_about_94 hK hP hD hS  (congrArg nI (show mBits (mSel B c 3) 8 = _ from (by first | rfl | (simp only [(mIsC_ok hc), Bool.true_and, Bool.false_and, Bool.and_true, Bool.and_false, Bool.true_or, Bool.or_true, Bool.false_or, Bool.or_false, Bool.not_true, Bool.not_false, decide_true, decide_false, Option.isSome, not_true_eq_false, not_false_eq_true, if_true, if_false, reduceCtorEq, ↓reduceIte]; done) | (simp only [(mIsC_ok hc), Bool.true_and, Bool.false_and, Bool.and_true, Bool.and_false, Bool.true_or, Bool.or_true, Bool.false_or, Bool.or_false, Bool.not_true, Bool.not_false, decide_true, decide_false, Option.isSome, not_true_eq_false, not_false_eq_true, if_true, if_false, reduceCtorEq, ↓reduceIte]; rfl) | (simp_all; done)))) (by first | rfl | (simp only [(mIsC_ok hc), Bool.true_and, Bool.false_and, Bool.and_true, Bool.and_false, Bool.true_or, Bool.or_true, Bool.false_or, Bool.or_false, Bool.not_true, Bool.not_false, decide_true, decide_false, Option.isSome, not_true_eq_false, not_false_eq_true, if_true, if_false, reduceCtorEq, ↓reduceIte]; done) | (simp only [(mIsC_ok hc), Bool.true_and, Bool.false_and, Bool.and_true, Bool.and_false, Bool.true_or, Bool.or_true, Bool.false_or, Bool.or_false, Bool.not_true, Bool.not_false, decide_true, decide_false, Option.isSome, not_true_eq_false, not_false_eq_true, if_true, if_false, reduceCtorEq, ↓reduceIte]; rfl) | (simp_all; done))

set_option maxHeartbeats 4000000 in
set_option maxRecDepth 100000 in
theorem c2_about_ok4 (l : Launch) (dC : Nat → ClassId) (dI : Nat → Nat → Nat) (hm : Nat) (a : Nat → Nat) (cA : Nat → ClassId) (sz : Nat) (B : Nat → Nat → Bool) (N : Nat → Nat → Nat) (c : Nat) (hc : c < 2) : xc_M l yX2_about wsX2_about ({ frames := 3, cells := 0, slots := 0, locals := 69 }) [.ref hm, .int (nI c), .int (nI 4)] sz (dC, dI) vwCl (mtys cA) [] (mw hm a cA (B, N)) (some (.int (nI (N 0 c)))) (mw hm a cA (B, sN N 4 0 0)) 0 0 := by
  refine Met.ofW (cc := cX2_about) (maxL := 3) (ret := (some .int)) (by decide) rfl ?_
  intro p e s m args below meth cd s₁ B₀ hml hv
  obtain ⟨rfl, hsz, hP, hK, hD0, hZ⟩ := hv
  have hx := B₀.exec
  have hb := B₀.bytes
  have hr := B₀.returns
  have hts := atoms_spec (ws := wsX2_about) B₀.pre
  have hown : s.vm.findClass RX2 = some m.cls := findClass_of_methodNamed B₀.named
  have hlocks := B₀.notSynchronized
  subst hsz
  have hD := hD0.self (sz := s.heap.size)
  generalize hAe : va_A (mw hm a cA (B, N)) s.heap.size = A at hD ⊢
  have hA : ∀ q : Nat, s.heap.size ≤ q → A q := fun q h => by rw [← hAe]; exact Or.inr h
  have hS : va_S A s.heap s.heap [] := va_S.rf
  have hin_RX2 : ∀ w ∈ u_ws RX2 TX2 14, w ∈ wsX2_about := fun w h => List.mem_cons_of_mem _ (u_X2 w h)
  have hlk_22 := hts _ (List.mem_cons_of_mem _ k_fl_X2_22)
  have hlk_26 := hts _ (List.mem_cons_of_mem _ k_fl_X2_26)
  have hlk_29 := hts _ (List.mem_cons_of_mem _ k_fl_X2_29)
  have hlk_32 := hts _ (List.mem_cons_of_mem _ k_fl_X2_32)
  have hl := lv_entry ([.ref hm, .int (nI c), .int (nI 4)]) (n := 3) (Nat.le_of_ble_eq_true rfl)
  rw [lg_entry_eq]
  generalize (lg_sl ([.ref hm, .int (nI c), .int (nI 4)]) ++ List.replicate (3 - (lg_sl ([.ref hm, .int (nI c), .int (nI 4)])).length) Slot.unset).toArray = ls at hl ⊢
  have hl : lv_has ls 3 [(0, .ref hm), (1, .int (nI c)), (2, .int (nI 4))] := hl
  refine lv_aload_n hx hb dX2_about_0 rfl (lv_at hl 0 rfl) ?_
  refine lv_iload_n hx hb dX2_about_1 rfl (lv_at hl 1 rfl) ?_
  refine xr_call (st1 := [.int (bI (mIsC (nI c))), .ref hm]) (W.runS (As := [.int (nI c)]) (rest := [.ref hm]) ⟨hx, hb, hml, hown, hts⟩ (c2_isController l dC dI (nI c)) (cwS 1 hts (gd_S wa_c k_ml_X2_87 k_st_X2_isController k_in_X2 k_co_X2_isController) rfl rfl rfl (by decide +kernel) ⟨Nat.le_of_ble_eq_true rfl, Nat.le_of_ble_eq_true rfl⟩) (xr_preS (hK.sub (tys' := []) [] rfl) (hP.sub (ws' := []) [] rfl) xz_Z.nil) rfl rfl hl.1 rfl (lv_room (Nat.le_of_ble_eq_true rfl)) dX2_about_2 ⟨Nat.zero_le _, Nat.zero_le _⟩) rfl ?_
  refine xi_eq (y := bI true) (congrArg bI (mIsC_ok hc)) ?_
  refine lv_iload_n hx hb dX2_about_5 rfl (lv_at hl 2 rfl) ?_
  refine xn_if_lt (x := 4) (tgt := 19) (by omega) hx hb dX2_about_6 (by decide) ?_
  refine lv_iload_n hx hb dX2_about_9 rfl (lv_at hl 2 rfl) ?_
  refine lv_bipush (v := nI 7) hx hb dX2_about_10 (by decide) ?_
  refine xn_icmp_gt (x := 4) (y := 7) (tgt := 19) (by omega) (by omega) hx hb dX2_about_12 (by decide) (fun h => absurd h (by decide)) (fun _ => ?_)
  refine lv_iconst (v := nI 1) hx hb dX2_about_15 (by decide) ?_
  refine lv_goto (tgt := 20) hx hb dX2_about_16 (by decide) ?_
  refine xc_call (wc := mw hm a cA (B, N)) (wr := []) (st1 := [.int (bI true)]) (va_runV (As := [.int (bI true), .int (bI true)]) (rest := []) ⟨hx, hb, hml, hown, hts⟩ (c2_goes l dC dI hm a cA s.heap.size B N true true) (cwV 2 hts (gd_V wa_c k_ml_X2_70 k_im_X2_goes k_se_X2_goes k_in_X2 k_co_X2_goes) rfl rfl rfl (by decide +kernel) ⟨Nat.le_of_ble_eq_true rfl, Nat.le_of_ble_eq_true rfl⟩) (xc_preV (q0 := 0) (C := RX2) hK hP hD xz_Z.nil rfl rfl) rfl rfl hl.1 rfl (lv_room (Nat.le_of_ble_eq_true rfl)) dX2_about_20 ⟨Nat.zero_le _, Nat.zero_le _⟩) hP hD hS hA [0, 1, 2, 3, 4, 5, 6, 7, 8, 9, 10] [] rfl rfl (by decide) (by decide) rfl (fun H locs hP hD hS _ => ?_)
  have hP : va_P (dC, dI) vwCl (mw hm a cA (B, sN N 4 0 0)) H := hP
  have hD : va_D A (mw hm a cA (B, sN N 4 0 0)) := hD
  refine xb_if_ne (b := true) (tgt := 28) hx hb dX2_about_23 (by decide) (fun _ => ?_) (fun h => absurd (h.symm.trans rfl) (by decide))
  refine lv_iload_n hx hb dX2_about_28 rfl (lv_at hl 2 rfl) ?_
  refine lv_tableIn (tgt := 60) hx hb dX2_about_29 (by decide) (by decide) (by rfl) (by decide) ?_
  refine lv_aload_n hx hb dX2_about_60 rfl (lv_at hl 0 rfl) ?_
  refine va_get (D := (dC, dI)) (ci := 2) (v := .ref (a 4)) (C := RX2) (T := TX2) (N := 14) hx hb hts hin_RX2 hown hK hP 0 rfl rfl 5 (by decide) hlk_22 (fun _ h9 => h9) rfl dX2_about_61 ?_
  refine lv_iload_n hx hb dX2_about_64 rfl (lv_at hl 1 rfl) ?_
  refine xn_ld (f := (sN N 4 0 0) 0) (j := c) hx hb hK hP 5 4 rfl rfl (by omega) (by decide) dX2_about_65 ?_
  refine xi_eq (y := nI (N 0 c)) rfl ?_
  exact xc_iret (wf := mw hm a cA) hx hb hr hlocks dX2_about_66 hK hP hD hS  (congrArg nI (show N 0 c = _ from (by first | rfl | (simp only [(mIsC_ok hc), Bool.true_and, Bool.false_and, Bool.and_true, Bool.and_false, Bool.true_or, Bool.or_true, Bool.false_or, Bool.or_false, Bool.not_true, Bool.not_false, decide_true, decide_false, Option.isSome, not_true_eq_false, not_false_eq_true, if_true, if_false, reduceCtorEq, ↓reduceIte]; done) | (simp only [(mIsC_ok hc), Bool.true_and, Bool.false_and, Bool.and_true, Bool.and_false, Bool.true_or, Bool.or_true, Bool.false_or, Bool.or_false, Bool.not_true, Bool.not_false, decide_true, decide_false, Option.isSome, not_true_eq_false, not_false_eq_true, if_true, if_false, reduceCtorEq, ↓reduceIte]; rfl) | (simp_all; done)))) (by first | rfl | (simp only [(mIsC_ok hc), Bool.true_and, Bool.false_and, Bool.and_true, Bool.and_false, Bool.true_or, Bool.or_true, Bool.false_or, Bool.or_false, Bool.not_true, Bool.not_false, decide_true, decide_false, Option.isSome, not_true_eq_false, not_false_eq_true, if_true, if_false, reduceCtorEq, ↓reduceIte]; done) | (simp only [(mIsC_ok hc), Bool.true_and, Bool.false_and, Bool.and_true, Bool.and_false, Bool.true_or, Bool.or_true, Bool.false_or, Bool.or_false, Bool.not_true, Bool.not_false, decide_true, decide_false, Option.isSome, not_true_eq_false, not_false_eq_true, if_true, if_false, reduceCtorEq, ↓reduceIte]; rfl) | (simp_all; done))

set_option maxHeartbeats 4000000 in
set_option maxRecDepth 100000 in
theorem c2_about_ok5 (l : Launch) (dC : Nat → ClassId) (dI : Nat → Nat → Nat) (hm : Nat) (a : Nat → Nat) (cA : Nat → ClassId) (sz : Nat) (B : Nat → Nat → Bool) (N : Nat → Nat → Nat) (c : Nat) (hc : c < 2) : xc_M l yX2_about wsX2_about ({ frames := 3, cells := 0, slots := 0, locals := 69 }) [.ref hm, .int (nI c), .int (nI 5)] sz (dC, dI) vwCl (mtys cA) [] (mw hm a cA (B, N)) (some (.int (nI (N 1 c)))) (mw hm a cA (B, sN N 4 0 0)) 0 0 := by
  refine Met.ofW (cc := cX2_about) (maxL := 3) (ret := (some .int)) (by decide) rfl ?_
  intro p e s m args below meth cd s₁ B₀ hml hv
  obtain ⟨rfl, hsz, hP, hK, hD0, hZ⟩ := hv
  have hx := B₀.exec
  have hb := B₀.bytes
  have hr := B₀.returns
  have hts := atoms_spec (ws := wsX2_about) B₀.pre
  have hown : s.vm.findClass RX2 = some m.cls := findClass_of_methodNamed B₀.named
  have hlocks := B₀.notSynchronized
  subst hsz
  have hD := hD0.self (sz := s.heap.size)
  generalize hAe : va_A (mw hm a cA (B, N)) s.heap.size = A at hD ⊢
  have hA : ∀ q : Nat, s.heap.size ≤ q → A q := fun q h => by rw [← hAe]; exact Or.inr h
  have hS : va_S A s.heap s.heap [] := va_S.rf
  have hin_RX2 : ∀ w ∈ u_ws RX2 TX2 14, w ∈ wsX2_about := fun w h => List.mem_cons_of_mem _ (u_X2 w h)
  have hlk_22 := hts _ (List.mem_cons_of_mem _ k_fl_X2_22)
  have hlk_26 := hts _ (List.mem_cons_of_mem _ k_fl_X2_26)
  have hlk_29 := hts _ (List.mem_cons_of_mem _ k_fl_X2_29)
  have hlk_32 := hts _ (List.mem_cons_of_mem _ k_fl_X2_32)
  have hl := lv_entry ([.ref hm, .int (nI c), .int (nI 5)]) (n := 3) (Nat.le_of_ble_eq_true rfl)
  rw [lg_entry_eq]
  generalize (lg_sl ([.ref hm, .int (nI c), .int (nI 5)]) ++ List.replicate (3 - (lg_sl ([.ref hm, .int (nI c), .int (nI 5)])).length) Slot.unset).toArray = ls at hl ⊢
  have hl : lv_has ls 3 [(0, .ref hm), (1, .int (nI c)), (2, .int (nI 5))] := hl
  refine lv_aload_n hx hb dX2_about_0 rfl (lv_at hl 0 rfl) ?_
  refine lv_iload_n hx hb dX2_about_1 rfl (lv_at hl 1 rfl) ?_
  refine xr_call (st1 := [.int (bI (mIsC (nI c))), .ref hm]) (W.runS (As := [.int (nI c)]) (rest := [.ref hm]) ⟨hx, hb, hml, hown, hts⟩ (c2_isController l dC dI (nI c)) (cwS 1 hts (gd_S wa_c k_ml_X2_87 k_st_X2_isController k_in_X2 k_co_X2_isController) rfl rfl rfl (by decide +kernel) ⟨Nat.le_of_ble_eq_true rfl, Nat.le_of_ble_eq_true rfl⟩) (xr_preS (hK.sub (tys' := []) [] rfl) (hP.sub (ws' := []) [] rfl) xz_Z.nil) rfl rfl hl.1 rfl (lv_room (Nat.le_of_ble_eq_true rfl)) dX2_about_2 ⟨Nat.zero_le _, Nat.zero_le _⟩) rfl ?_
  refine xi_eq (y := bI true) (congrArg bI (mIsC_ok hc)) ?_
  refine lv_iload_n hx hb dX2_about_5 rfl (lv_at hl 2 rfl) ?_
  refine xn_if_lt (x := 5) (tgt := 19) (by omega) hx hb dX2_about_6 (by decide) ?_
  refine lv_iload_n hx hb dX2_about_9 rfl (lv_at hl 2 rfl) ?_
  refine lv_bipush (v := nI 7) hx hb dX2_about_10 (by decide) ?_
  refine xn_icmp_gt (x := 5) (y := 7) (tgt := 19) (by omega) (by omega) hx hb dX2_about_12 (by decide) (fun h => absurd h (by decide)) (fun _ => ?_)
  refine lv_iconst (v := nI 1) hx hb dX2_about_15 (by decide) ?_
  refine lv_goto (tgt := 20) hx hb dX2_about_16 (by decide) ?_
  refine xc_call (wc := mw hm a cA (B, N)) (wr := []) (st1 := [.int (bI true)]) (va_runV (As := [.int (bI true), .int (bI true)]) (rest := []) ⟨hx, hb, hml, hown, hts⟩ (c2_goes l dC dI hm a cA s.heap.size B N true true) (cwV 2 hts (gd_V wa_c k_ml_X2_70 k_im_X2_goes k_se_X2_goes k_in_X2 k_co_X2_goes) rfl rfl rfl (by decide +kernel) ⟨Nat.le_of_ble_eq_true rfl, Nat.le_of_ble_eq_true rfl⟩) (xc_preV (q0 := 0) (C := RX2) hK hP hD xz_Z.nil rfl rfl) rfl rfl hl.1 rfl (lv_room (Nat.le_of_ble_eq_true rfl)) dX2_about_20 ⟨Nat.zero_le _, Nat.zero_le _⟩) hP hD hS hA [0, 1, 2, 3, 4, 5, 6, 7, 8, 9, 10] [] rfl rfl (by decide) (by decide) rfl (fun H locs hP hD hS _ => ?_)
  have hP : va_P (dC, dI) vwCl (mw hm a cA (B, sN N 4 0 0)) H := hP
  have hD : va_D A (mw hm a cA (B, sN N 4 0 0)) := hD
  refine xb_if_ne (b := true) (tgt := 28) hx hb dX2_about_23 (by decide) (fun _ => ?_) (fun h => absurd (h.symm.trans rfl) (by decide))
  refine lv_iload_n hx hb dX2_about_28 rfl (lv_at hl 2 rfl) ?_
  refine lv_tableIn (tgt := 67) hx hb dX2_about_29 (by decide) (by decide) (by rfl) (by decide) ?_
  refine lv_aload_n hx hb dX2_about_67 rfl (lv_at hl 0 rfl) ?_
  refine va_get (D := (dC, dI)) (ci := 2) (v := .ref (a 5)) (C := RX2) (T := TX2) (N := 14) hx hb hts hin_RX2 hown hK hP 0 rfl rfl 6 (by decide) hlk_26 (fun _ h9 => h9) rfl dX2_about_68 ?_
  refine lv_iload_n hx hb dX2_about_71 rfl (lv_at hl 1 rfl) ?_
  refine xn_ld (f := (sN N 4 0 0) 1) (j := c) hx hb hK hP 6 5 rfl rfl (by omega) (by decide) dX2_about_72 ?_
  refine xi_eq (y := nI (N 1 c)) rfl ?_
  exact xc_iret (wf := mw hm a cA) hx hb hr hlocks dX2_about_73 hK hP hD hS  (congrArg nI (show N 1 c = _ from (by first | rfl | (simp only [(mIsC_ok hc), Bool.true_and, Bool.false_and, Bool.and_true, Bool.and_false, Bool.true_or, Bool.or_true, Bool.false_or, Bool.or_false, Bool.not_true, Bool.not_false, decide_true, decide_false, Option.isSome, not_true_eq_false, not_false_eq_true, if_true, if_false, reduceCtorEq, ↓reduceIte]; done) | (simp only [(mIsC_ok hc), Bool.true_and, Bool.false_and, Bool.and_true, Bool.and_false, Bool.true_or, Bool.or_true, Bool.false_or, Bool.or_false, Bool.not_true, Bool.not_false, decide_true, decide_false, Option.isSome, not_true_eq_false, not_false_eq_true, if_true, if_false, reduceCtorEq, ↓reduceIte]; rfl) | (simp_all; done)))) (by first | rfl | (simp only [(mIsC_ok hc), Bool.true_and, Bool.false_and, Bool.and_true, Bool.and_false, Bool.true_or, Bool.or_true, Bool.false_or, Bool.or_false, Bool.not_true, Bool.not_false, decide_true, decide_false, Option.isSome, not_true_eq_false, not_false_eq_true, if_true, if_false, reduceCtorEq, ↓reduceIte]; done) | (simp only [(mIsC_ok hc), Bool.true_and, Bool.false_and, Bool.and_true, Bool.and_false, Bool.true_or, Bool.or_true, Bool.false_or, Bool.or_false, Bool.not_true, Bool.not_false, decide_true, decide_false, Option.isSome, not_true_eq_false, not_false_eq_true, if_true, if_false, reduceCtorEq, ↓reduceIte]; rfl) | (simp_all; done))

set_option maxHeartbeats 4000000 in
set_option maxRecDepth 100000 in
theorem c2_about_ok6 (l : Launch) (dC : Nat → ClassId) (dI : Nat → Nat → Nat) (hm : Nat) (a : Nat → Nat) (cA : Nat → ClassId) (sz : Nat) (B : Nat → Nat → Bool) (N : Nat → Nat → Nat) (c : Nat) (hc : c < 2) : xc_M l yX2_about wsX2_about ({ frames := 3, cells := 0, slots := 0, locals := 69 }) [.ref hm, .int (nI c), .int (nI 6)] sz (dC, dI) vwCl (mtys cA) [] (mw hm a cA (B, N)) (some (.int (nI (N 2 c)))) (mw hm a cA (B, sN N 4 0 0)) 0 0 := by
  refine Met.ofW (cc := cX2_about) (maxL := 3) (ret := (some .int)) (by decide) rfl ?_
  intro p e s m args below meth cd s₁ B₀ hml hv
  obtain ⟨rfl, hsz, hP, hK, hD0, hZ⟩ := hv
  have hx := B₀.exec
  have hb := B₀.bytes
  have hr := B₀.returns
  have hts := atoms_spec (ws := wsX2_about) B₀.pre
  have hown : s.vm.findClass RX2 = some m.cls := findClass_of_methodNamed B₀.named
  have hlocks := B₀.notSynchronized
  subst hsz
  have hD := hD0.self (sz := s.heap.size)
  generalize hAe : va_A (mw hm a cA (B, N)) s.heap.size = A at hD ⊢
  have hA : ∀ q : Nat, s.heap.size ≤ q → A q := fun q h => by rw [← hAe]; exact Or.inr h
  have hS : va_S A s.heap s.heap [] := va_S.rf
  have hin_RX2 : ∀ w ∈ u_ws RX2 TX2 14, w ∈ wsX2_about := fun w h => List.mem_cons_of_mem _ (u_X2 w h)
  have hlk_22 := hts _ (List.mem_cons_of_mem _ k_fl_X2_22)
  have hlk_26 := hts _ (List.mem_cons_of_mem _ k_fl_X2_26)
  have hlk_29 := hts _ (List.mem_cons_of_mem _ k_fl_X2_29)
  have hlk_32 := hts _ (List.mem_cons_of_mem _ k_fl_X2_32)
  have hl := lv_entry ([.ref hm, .int (nI c), .int (nI 6)]) (n := 3) (Nat.le_of_ble_eq_true rfl)
  rw [lg_entry_eq]
  generalize (lg_sl ([.ref hm, .int (nI c), .int (nI 6)]) ++ List.replicate (3 - (lg_sl ([.ref hm, .int (nI c), .int (nI 6)])).length) Slot.unset).toArray = ls at hl ⊢
  have hl : lv_has ls 3 [(0, .ref hm), (1, .int (nI c)), (2, .int (nI 6))] := hl
  refine lv_aload_n hx hb dX2_about_0 rfl (lv_at hl 0 rfl) ?_
  refine lv_iload_n hx hb dX2_about_1 rfl (lv_at hl 1 rfl) ?_
  refine xr_call (st1 := [.int (bI (mIsC (nI c))), .ref hm]) (W.runS (As := [.int (nI c)]) (rest := [.ref hm]) ⟨hx, hb, hml, hown, hts⟩ (c2_isController l dC dI (nI c)) (cwS 1 hts (gd_S wa_c k_ml_X2_87 k_st_X2_isController k_in_X2 k_co_X2_isController) rfl rfl rfl (by decide +kernel) ⟨Nat.le_of_ble_eq_true rfl, Nat.le_of_ble_eq_true rfl⟩) (xr_preS (hK.sub (tys' := []) [] rfl) (hP.sub (ws' := []) [] rfl) xz_Z.nil) rfl rfl hl.1 rfl (lv_room (Nat.le_of_ble_eq_true rfl)) dX2_about_2 ⟨Nat.zero_le _, Nat.zero_le _⟩) rfl ?_
  refine xi_eq (y := bI true) (congrArg bI (mIsC_ok hc)) ?_
  refine lv_iload_n hx hb dX2_about_5 rfl (lv_at hl 2 rfl) ?_
  refine xn_if_lt (x := 6) (tgt := 19) (by omega) hx hb dX2_about_6 (by decide) ?_
  refine lv_iload_n hx hb dX2_about_9 rfl (lv_at hl 2 rfl) ?_
  refine lv_bipush (v := nI 7) hx hb dX2_about_10 (by decide) ?_
  refine xn_icmp_gt (x := 6) (y := 7) (tgt := 19) (by omega) (by omega) hx hb dX2_about_12 (by decide) (fun h => absurd h (by decide)) (fun _ => ?_)
  refine lv_iconst (v := nI 1) hx hb dX2_about_15 (by decide) ?_
  refine lv_goto (tgt := 20) hx hb dX2_about_16 (by decide) ?_
  refine xc_call (wc := mw hm a cA (B, N)) (wr := []) (st1 := [.int (bI true)]) (va_runV (As := [.int (bI true), .int (bI true)]) (rest := []) ⟨hx, hb, hml, hown, hts⟩ (c2_goes l dC dI hm a cA s.heap.size B N true true) (cwV 2 hts (gd_V wa_c k_ml_X2_70 k_im_X2_goes k_se_X2_goes k_in_X2 k_co_X2_goes) rfl rfl rfl (by decide +kernel) ⟨Nat.le_of_ble_eq_true rfl, Nat.le_of_ble_eq_true rfl⟩) (xc_preV (q0 := 0) (C := RX2) hK hP hD xz_Z.nil rfl rfl) rfl rfl hl.1 rfl (lv_room (Nat.le_of_ble_eq_true rfl)) dX2_about_20 ⟨Nat.zero_le _, Nat.zero_le _⟩) hP hD hS hA [0, 1, 2, 3, 4, 5, 6, 7, 8, 9, 10] [] rfl rfl (by decide) (by decide) rfl (fun H locs hP hD hS _ => ?_)
  have hP : va_P (dC, dI) vwCl (mw hm a cA (B, sN N 4 0 0)) H := hP
  have hD : va_D A (mw hm a cA (B, sN N 4 0 0)) := hD
  refine xb_if_ne (b := true) (tgt := 28) hx hb dX2_about_23 (by decide) (fun _ => ?_) (fun h => absurd (h.symm.trans rfl) (by decide))
  refine lv_iload_n hx hb dX2_about_28 rfl (lv_at hl 2 rfl) ?_
  refine lv_tableIn (tgt := 74) hx hb dX2_about_29 (by decide) (by decide) (by rfl) (by decide) ?_
  refine lv_aload_n hx hb dX2_about_74 rfl (lv_at hl 0 rfl) ?_
  refine va_get (D := (dC, dI)) (ci := 2) (v := .ref (a 6)) (C := RX2) (T := TX2) (N := 14) hx hb hts hin_RX2 hown hK hP 0 rfl rfl 7 (by decide) hlk_29 (fun _ h9 => h9) rfl dX2_about_75 ?_
  refine lv_iload_n hx hb dX2_about_78 rfl (lv_at hl 1 rfl) ?_
  refine xn_ld (f := (sN N 4 0 0) 2) (j := c) hx hb hK hP 7 6 rfl rfl (by omega) (by decide) dX2_about_79 ?_
  refine xi_eq (y := nI (N 2 c)) rfl ?_
  exact xc_iret (wf := mw hm a cA) hx hb hr hlocks dX2_about_80 hK hP hD hS  (congrArg nI (show N 2 c = _ from (by first | rfl | (simp only [(mIsC_ok hc), Bool.true_and, Bool.false_and, Bool.and_true, Bool.and_false, Bool.true_or, Bool.or_true, Bool.false_or, Bool.or_false, Bool.not_true, Bool.not_false, decide_true, decide_false, Option.isSome, not_true_eq_false, not_false_eq_true, if_true, if_false, reduceCtorEq, ↓reduceIte]; done) | (simp only [(mIsC_ok hc), Bool.true_and, Bool.false_and, Bool.and_true, Bool.and_false, Bool.true_or, Bool.or_true, Bool.false_or, Bool.or_false, Bool.not_true, Bool.not_false, decide_true, decide_false, Option.isSome, not_true_eq_false, not_false_eq_true, if_true, if_false, reduceCtorEq, ↓reduceIte]; rfl) | (simp_all; done)))) (by first | rfl | (simp only [(mIsC_ok hc), Bool.true_and, Bool.false_and, Bool.and_true, Bool.and_false, Bool.true_or, Bool.or_true, Bool.false_or, Bool.or_false, Bool.not_true, Bool.not_false, decide_true, decide_false, Option.isSome, not_true_eq_false, not_false_eq_true, if_true, if_false, reduceCtorEq, ↓reduceIte]; done) | (simp only [(mIsC_ok hc), Bool.true_and, Bool.false_and, Bool.and_true, Bool.and_false, Bool.true_or, Bool.or_true, Bool.false_or, Bool.or_false, Bool.not_true, Bool.not_false, decide_true, decide_false, Option.isSome, not_true_eq_false, not_false_eq_true, if_true, if_false, reduceCtorEq, ↓reduceIte]; rfl) | (simp_all; done))

set_option maxHeartbeats 4000000 in
set_option maxRecDepth 100000 in
theorem c2_about_ok7 (l : Launch) (dC : Nat → ClassId) (dI : Nat → Nat → Nat) (hm : Nat) (a : Nat → Nat) (cA : Nat → ClassId) (sz : Nat) (B : Nat → Nat → Bool) (N : Nat → Nat → Nat) (c : Nat) (hc : c < 2) : xc_M l yX2_about wsX2_about ({ frames := 3, cells := 0, slots := 0, locals := 69 }) [.ref hm, .int (nI c), .int (nI 7)] sz (dC, dI) vwCl (mtys cA) [] (mw hm a cA (B, N)) (some (.int (nI (N 3 c)))) (mw hm a cA (B, sN N 4 0 0)) 0 0 := by
  refine Met.ofW (cc := cX2_about) (maxL := 3) (ret := (some .int)) (by decide) rfl ?_
  intro p e s m args below meth cd s₁ B₀ hml hv
  obtain ⟨rfl, hsz, hP, hK, hD0, hZ⟩ := hv
  have hx := B₀.exec
  have hb := B₀.bytes
  have hr := B₀.returns
  have hts := atoms_spec (ws := wsX2_about) B₀.pre
  have hown : s.vm.findClass RX2 = some m.cls := findClass_of_methodNamed B₀.named
  have hlocks := B₀.notSynchronized
  subst hsz
  have hD := hD0.self (sz := s.heap.size)
  generalize hAe : va_A (mw hm a cA (B, N)) s.heap.size = A at hD ⊢
  have hA : ∀ q : Nat, s.heap.size ≤ q → A q := fun q h => by rw [← hAe]; exact Or.inr h
  have hS : va_S A s.heap s.heap [] := va_S.rf
  have hin_RX2 : ∀ w ∈ u_ws RX2 TX2 14, w ∈ wsX2_about := fun w h => List.mem_cons_of_mem _ (u_X2 w h)
  have hlk_22 := hts _ (List.mem_cons_of_mem _ k_fl_X2_22)
  have hlk_26 := hts _ (List.mem_cons_of_mem _ k_fl_X2_26)
  have hlk_29 := hts _ (List.mem_cons_of_mem _ k_fl_X2_29)
  have hlk_32 := hts _ (List.mem_cons_of_mem _ k_fl_X2_32)
  have hl := lv_entry ([.ref hm, .int (nI c), .int (nI 7)]) (n := 3) (Nat.le_of_ble_eq_true rfl)
  rw [lg_entry_eq]
  generalize (lg_sl ([.ref hm, .int (nI c), .int (nI 7)]) ++ List.replicate (3 - (lg_sl ([.ref hm, .int (nI c), .int (nI 7)])).length) Slot.unset).toArray = ls at hl ⊢
  have hl : lv_has ls 3 [(0, .ref hm), (1, .int (nI c)), (2, .int (nI 7))] := hl
  refine lv_aload_n hx hb dX2_about_0 rfl (lv_at hl 0 rfl) ?_
  refine lv_iload_n hx hb dX2_about_1 rfl (lv_at hl 1 rfl) ?_
  refine xr_call (st1 := [.int (bI (mIsC (nI c))), .ref hm]) (W.runS (As := [.int (nI c)]) (rest := [.ref hm]) ⟨hx, hb, hml, hown, hts⟩ (c2_isController l dC dI (nI c)) (cwS 1 hts (gd_S wa_c k_ml_X2_87 k_st_X2_isController k_in_X2 k_co_X2_isController) rfl rfl rfl (by decide +kernel) ⟨Nat.le_of_ble_eq_true rfl, Nat.le_of_ble_eq_true rfl⟩) (xr_preS (hK.sub (tys' := []) [] rfl) (hP.sub (ws' := []) [] rfl) xz_Z.nil) rfl rfl hl.1 rfl (lv_room (Nat.le_of_ble_eq_true rfl)) dX2_about_2 ⟨Nat.zero_le _, Nat.zero_le _⟩) rfl ?_
  refine xi_eq (y := bI true) (congrArg bI (mIsC_ok hc)) ?_
  refine lv_iload_n hx hb dX2_about_5 rfl (lv_at hl 2 rfl) ?_
  refine xn_if_lt (x := 7) (tgt := 19) (by omega) hx hb dX2_about_6 (by decide) ?_
  refine lv_iload_n hx hb dX2_about_9 rfl (lv_at hl 2 rfl) ?_
  refine lv_bipush (v := nI 7) hx hb dX2_about_10 (by decide) ?_
  refine xn_icmp_gt (x := 7) (y := 7) (tgt := 19) (by omega) (by omega) hx hb dX2_about_12 (by decide) (fun h => absurd h (by decide)) (fun _ => ?_)
  refine lv_iconst (v := nI 1) hx hb dX2_about_15 (by decide) ?_
  refine lv_goto (tgt := 20) hx hb dX2_about_16 (by decide) ?_
  refine xc_call (wc := mw hm a cA (B, N)) (wr := []) (st1 := [.int (bI true)]) (va_runV (As := [.int (bI true), .int (bI true)]) (rest := []) ⟨hx, hb, hml, hown, hts⟩ (c2_goes l dC dI hm a cA s.heap.size B N true true) (cwV 2 hts (gd_V wa_c k_ml_X2_70 k_im_X2_goes k_se_X2_goes k_in_X2 k_co_X2_goes) rfl rfl rfl (by decide +kernel) ⟨Nat.le_of_ble_eq_true rfl, Nat.le_of_ble_eq_true rfl⟩) (xc_preV (q0 := 0) (C := RX2) hK hP hD xz_Z.nil rfl rfl) rfl rfl hl.1 rfl (lv_room (Nat.le_of_ble_eq_true rfl)) dX2_about_20 ⟨Nat.zero_le _, Nat.zero_le _⟩) hP hD hS hA [0, 1, 2, 3, 4, 5, 6, 7, 8, 9, 10] [] rfl rfl (by decide) (by decide) rfl (fun H locs hP hD hS _ => ?_)
  have hP : va_P (dC, dI) vwCl (mw hm a cA (B, sN N 4 0 0)) H := hP
  have hD : va_D A (mw hm a cA (B, sN N 4 0 0)) := hD
  refine xb_if_ne (b := true) (tgt := 28) hx hb dX2_about_23 (by decide) (fun _ => ?_) (fun h => absurd (h.symm.trans rfl) (by decide))
  refine lv_iload_n hx hb dX2_about_28 rfl (lv_at hl 2 rfl) ?_
  refine lv_tableIn (tgt := 81) hx hb dX2_about_29 (by decide) (by decide) (by rfl) (by decide) ?_
  refine lv_aload_n hx hb dX2_about_81 rfl (lv_at hl 0 rfl) ?_
  refine va_get (D := (dC, dI)) (ci := 2) (v := .ref (a 7)) (C := RX2) (T := TX2) (N := 14) hx hb hts hin_RX2 hown hK hP 0 rfl rfl 8 (by decide) hlk_32 (fun _ h9 => h9) rfl dX2_about_82 ?_
  refine lv_iload_n hx hb dX2_about_85 rfl (lv_at hl 1 rfl) ?_
  refine xn_ld (f := (sN N 4 0 0) 3) (j := c) hx hb hK hP 8 7 rfl rfl (by omega) (by decide) dX2_about_86 ?_
  refine xi_eq (y := nI (N 3 c)) rfl ?_
  exact xc_iret (wf := mw hm a cA) hx hb hr hlocks dX2_about_87 hK hP hD hS  (congrArg nI (show N 3 c = _ from (by first | rfl | (simp only [(mIsC_ok hc), Bool.true_and, Bool.false_and, Bool.and_true, Bool.and_false, Bool.true_or, Bool.or_true, Bool.false_or, Bool.or_false, Bool.not_true, Bool.not_false, decide_true, decide_false, Option.isSome, not_true_eq_false, not_false_eq_true, if_true, if_false, reduceCtorEq, ↓reduceIte]; done) | (simp only [(mIsC_ok hc), Bool.true_and, Bool.false_and, Bool.and_true, Bool.and_false, Bool.true_or, Bool.or_true, Bool.false_or, Bool.or_false, Bool.not_true, Bool.not_false, decide_true, decide_false, Option.isSome, not_true_eq_false, not_false_eq_true, if_true, if_false, reduceCtorEq, ↓reduceIte]; rfl) | (simp_all; done)))) (by first | rfl | (simp only [(mIsC_ok hc), Bool.true_and, Bool.false_and, Bool.and_true, Bool.and_false, Bool.true_or, Bool.or_true, Bool.false_or, Bool.or_false, Bool.not_true, Bool.not_false, decide_true, decide_false, Option.isSome, not_true_eq_false, not_false_eq_true, if_true, if_false, reduceCtorEq, ↓reduceIte]; done) | (simp only [(mIsC_ok hc), Bool.true_and, Bool.false_and, Bool.and_true, Bool.and_false, Bool.true_or, Bool.or_true, Bool.false_or, Bool.or_false, Bool.not_true, Bool.not_false, decide_true, decide_false, Option.isSome, not_true_eq_false, not_false_eq_true, if_true, if_false, reduceCtorEq, ↓reduceIte]; rfl) | (simp_all; done))

set_option maxHeartbeats 4000000 in
set_option maxRecDepth 100000 in
theorem c2_about_bad1 (l : Launch) (dC : Nat → ClassId) (dI : Nat → Nat → Nat) (hm : Nat) (a : Nat → Nat) (cA : Nat → ClassId) (sz : Nat) (B : Nat → Nat → Bool) (N : Nat → Nat → Nat) (y : Int32) (q : Int32) (hbad : mIsC y = false) : xc_M l yX2_about wsX2_about ({ frames := 3, cells := 0, slots := 0, locals := 69 }) [.ref hm, .int y, .int q] sz (dC, dI) vwCl (mtys cA) [] (mw hm a cA (B, N)) (some (.int (nI 0))) (mw hm a cA (B, sN N 4 0 1)) 0 0 := by
  refine Met.ofW (cc := cX2_about) (maxL := 3) (ret := (some .int)) (by decide) rfl ?_
  intro p e s m args below meth cd s₁ B₀ hml hv
  obtain ⟨rfl, hsz, hP, hK, hD0, hZ⟩ := hv
  have hx := B₀.exec
  have hb := B₀.bytes
  have hr := B₀.returns
  have hts := atoms_spec (ws := wsX2_about) B₀.pre
  have hown : s.vm.findClass RX2 = some m.cls := findClass_of_methodNamed B₀.named
  have hlocks := B₀.notSynchronized
  subst hsz
  have hD := hD0.self (sz := s.heap.size)
  generalize hAe : va_A (mw hm a cA (B, N)) s.heap.size = A at hD ⊢
  have hA : ∀ q : Nat, s.heap.size ≤ q → A q := fun q h => by rw [← hAe]; exact Or.inr h
  have hS : va_S A s.heap s.heap [] := va_S.rf
  have hin_RX2 : ∀ w ∈ u_ws RX2 TX2 14, w ∈ wsX2_about := fun w h => List.mem_cons_of_mem _ (u_X2 w h)
  have hlk_22 := hts _ (List.mem_cons_of_mem _ k_fl_X2_22)
  have hlk_26 := hts _ (List.mem_cons_of_mem _ k_fl_X2_26)
  have hlk_29 := hts _ (List.mem_cons_of_mem _ k_fl_X2_29)
  have hlk_32 := hts _ (List.mem_cons_of_mem _ k_fl_X2_32)
  have hl := lv_entry ([.ref hm, .int y, .int q]) (n := 3) (Nat.le_of_ble_eq_true rfl)
  rw [lg_entry_eq]
  generalize (lg_sl ([.ref hm, .int y, .int q]) ++ List.replicate (3 - (lg_sl ([.ref hm, .int y, .int q])).length) Slot.unset).toArray = ls at hl ⊢
  have hl : lv_has ls 3 [(0, .ref hm), (1, .int y), (2, .int q)] := hl
  refine lv_aload_n hx hb dX2_about_0 rfl (lv_at hl 0 rfl) ?_
  refine lv_iload_n hx hb dX2_about_1 rfl (lv_at hl 1 rfl) ?_
  refine xr_call (st1 := [.int (bI (mIsC y)), .ref hm]) (W.runS (As := [.int y]) (rest := [.ref hm]) ⟨hx, hb, hml, hown, hts⟩ (c2_isController l dC dI y) (cwS 1 hts (gd_S wa_c k_ml_X2_87 k_st_X2_isController k_in_X2 k_co_X2_isController) rfl rfl rfl (by decide +kernel) ⟨Nat.le_of_ble_eq_true rfl, Nat.le_of_ble_eq_true rfl⟩) (xr_preS (hK.sub (tys' := []) [] rfl) (hP.sub (ws' := []) [] rfl) xz_Z.nil) rfl rfl hl.1 rfl (lv_room (Nat.le_of_ble_eq_true rfl)) dX2_about_2 ⟨Nat.zero_le _, Nat.zero_le _⟩) rfl ?_
  refine xi_eq (y := bI false) (congrArg bI hbad) ?_
  refine xj_meet (pcJ := 20) (stJ := fun y => .int y :: [.int (bI false), .ref hm]) (bI (mOkW q (nI 7))) ?_ (fun J20 => ?_)
  · refine xc_call (wc := mw hm a cA (B, N)) (wr := []) (st1 := [.int (bI false)]) (va_runV (As := [.int (bI false), .int (bI (mOkW q (nI 7)))]) (rest := []) ⟨hx, hb, hml, hown, hts⟩ (c2_goes l dC dI hm a cA s.heap.size B N false (mOkW q (nI 7))) (cwV 2 hts (gd_V wa_c k_ml_X2_70 k_im_X2_goes k_se_X2_goes k_in_X2 k_co_X2_goes) rfl rfl rfl (by decide +kernel) ⟨Nat.le_of_ble_eq_true rfl, Nat.le_of_ble_eq_true rfl⟩) (xc_preV (q0 := 0) (C := RX2) hK hP hD xz_Z.nil rfl rfl) rfl rfl hl.1 rfl (lv_room (Nat.le_of_ble_eq_true rfl)) dX2_about_20 ⟨Nat.zero_le _, Nat.zero_le _⟩) hP hD hS hA [0, 1, 2, 3, 4, 5, 6, 7, 8, 9, 10] [] rfl rfl (by decide) (by decide) rfl (fun H locs hP hD hS _ => ?_)
    have hP : va_P (dC, dI) vwCl (mw hm a cA (B, sN N 4 0 1)) H := hP
    have hD : va_D A (mw hm a cA (B, sN N 4 0 1)) := hD
    refine xb_if_ne (b := false) (tgt := 28) hx hb dX2_about_23 (by decide) (fun h => absurd (h.symm.trans rfl) (by decide)) (fun _ => ?_)
    refine lv_iconst (v := nI 0) hx hb dX2_about_26 (by decide) ?_
    exact xc_iret (wf := mw hm a cA) hx hb hr hlocks dX2_about_27 hK hP hD hS  (congrArg nI (show 0 = _ from (by first | rfl | (simp only [hbad, Bool.true_and, Bool.false_and, Bool.and_true, Bool.and_false, Bool.true_or, Bool.or_true, Bool.false_or, Bool.or_false, Bool.not_true, Bool.not_false, decide_true, decide_false, Option.isSome, not_true_eq_false, not_false_eq_true, if_true, if_false, reduceCtorEq, ↓reduceIte]; done) | (simp only [mOkW, hbad, Bool.true_and, Bool.false_and, Bool.and_true, Bool.and_false, Bool.true_or, Bool.or_true, Bool.false_or, Bool.or_false, Bool.not_true, Bool.not_false, decide_true, decide_false, Option.isSome, not_true_eq_false, not_false_eq_true, if_true, if_false, reduceCtorEq, ↓reduceIte]; done) | (simp only [mOkW]; simp only [hbad, Bool.true_and, Bool.false_and, Bool.and_true, Bool.and_false, Bool.true_or, Bool.or_true, Bool.false_or, Bool.or_false, Bool.not_true, Bool.not_false, decide_true, decide_false, Option.isSome, not_true_eq_false, not_false_eq_true, if_true, if_false, reduceCtorEq, ↓reduceIte]; done) | (simp only [mOkW]; simp only [hbad, Bool.true_and, Bool.false_and, Bool.and_true, Bool.and_false, Bool.true_or, Bool.or_true, Bool.false_or, Bool.or_false, Bool.not_true, Bool.not_false, decide_true, decide_false, Option.isSome, not_true_eq_false, not_false_eq_true, if_true, if_false, reduceCtorEq, ↓reduceIte]; done) | (simp only [mOkW]; simp only [hbad, Bool.true_and, Bool.false_and, Bool.and_true, Bool.and_false, Bool.true_or, Bool.or_true, Bool.false_or, Bool.or_false, Bool.not_true, Bool.not_false, decide_true, decide_false, Option.isSome, not_true_eq_false, not_false_eq_true, if_true, if_false, reduceCtorEq, ↓reduceIte]; rfl) | (simp only [hbad, Bool.true_and, Bool.false_and, Bool.and_true, Bool.and_false, Bool.true_or, Bool.or_true, Bool.false_or, Bool.or_false, Bool.not_true, Bool.not_false, decide_true, decide_false, Option.isSome, not_true_eq_false, not_false_eq_true, if_true, if_false, reduceCtorEq, ↓reduceIte]; rfl) | (simp_all [mOkW]; done)))) (by first | rfl | (simp only [hbad, Bool.true_and, Bool.false_and, Bool.and_true, Bool.and_false, Bool.true_or, Bool.or_true, Bool.false_or, Bool.or_false, Bool.not_true, Bool.not_false, decide_true, decide_false, Option.isSome, not_true_eq_false, not_false_eq_true, if_true, if_false, reduceCtorEq, ↓reduceIte]; done) | (simp only [mOkW, hbad, Bool.true_and, Bool.false_and, Bool.and_true, Bool.and_false, Bool.true_or, Bool.or_true, Bool.false_or, Bool.or_false, Bool.not_true, Bool.not_false, decide_true, decide_false, Option.isSome, not_true_eq_false, not_false_eq_true, if_true, if_false, reduceCtorEq, ↓reduceIte]; done) | (simp only [mOkW]; simp only [hbad, Bool.true_and, Bool.false_and, Bool.and_true, Bool.and_false, Bool.true_or, Bool.or_true, Bool.false_or, Bool.or_false, Bool.not_true, Bool.not_false, decide_true, decide_false, Option.isSome, not_true_eq_false, not_false_eq_true, if_true, if_false, reduceCtorEq, ↓reduceIte]; done) | (simp only [mOkW]; simp only [hbad, Bool.true_and, Bool.false_and, Bool.and_true, Bool.and_false, Bool.true_or, Bool.or_true, Bool.false_or, Bool.or_false, Bool.not_true, Bool.not_false, decide_true, decide_false, Option.isSome, not_true_eq_false, not_false_eq_true, if_true, if_false, reduceCtorEq, ↓reduceIte]; done) | (simp only [mOkW]; simp only [hbad, Bool.true_and, Bool.false_and, Bool.and_true, Bool.and_false, Bool.true_or, Bool.or_true, Bool.false_or, Bool.or_false, Bool.not_true, Bool.not_false, decide_true, decide_false, Option.isSome, not_true_eq_false, not_false_eq_true, if_true, if_false, reduceCtorEq, ↓reduceIte]; rfl) | (simp only [hbad, Bool.true_and, Bool.false_and, Bool.and_true, Bool.and_false, Bool.true_or, Bool.or_true, Bool.false_or, Bool.or_false, Bool.not_true, Bool.not_false, decide_true, decide_false, Option.isSome, not_true_eq_false, not_false_eq_true, if_true, if_false, reduceCtorEq, ↓reduceIte]; rfl) | (simp_all [mOkW]; done))
  · refine lv_iload_n hx hb dX2_about_5 rfl (lv_at hl 2 rfl) ?_
    refine lv_if_lt (tgt := 19) hx hb dX2_about_6 (by decide) (fun h1 => ?_) (fun h1 => ?_)
    · refine lv_iconst (v := nI 0) hx hb dX2_about_19 (by decide) ?_
      exact J20 (bI false) (congrArg bI (show false = (mOkW q (nI 7)) from (by first | rfl | (simp only [hbad, if_pos h1, if_neg (not_not_intro h1), decide_eq_true h1, Bool.true_and, Bool.false_and, Bool.and_true, Bool.and_false, Bool.true_or, Bool.or_true, Bool.false_or, Bool.or_false, Bool.not_true, Bool.not_false, decide_true, decide_false, Option.isSome, not_true_eq_false, not_false_eq_true, if_true, if_false, reduceCtorEq, ↓reduceIte]; done) | (simp only [mOkW, hbad, if_pos h1, if_neg (not_not_intro h1), decide_eq_true h1, Bool.true_and, Bool.false_and, Bool.and_true, Bool.and_false, Bool.true_or, Bool.or_true, Bool.false_or, Bool.or_false, Bool.not_true, Bool.not_false, decide_true, decide_false, Option.isSome, not_true_eq_false, not_false_eq_true, if_true, if_false, reduceCtorEq, ↓reduceIte]; done) | (simp only [mOkW]; simp only [hbad, if_pos h1, if_neg (not_not_intro h1), decide_eq_true h1, Bool.true_and, Bool.false_and, Bool.and_true, Bool.and_false, Bool.true_or, Bool.or_true, Bool.false_or, Bool.or_false, Bool.not_true, Bool.not_false, decide_true, decide_false, Option.isSome, not_true_eq_false, not_false_eq_true, if_true, if_false, reduceCtorEq, ↓reduceIte]; done) | (simp only [mOkW]; simp only [hbad, if_pos h1, if_neg (not_not_intro h1), decide_eq_true h1, Bool.true_and, Bool.false_and, Bool.and_true, Bool.and_false, Bool.true_or, Bool.or_true, Bool.false_or, Bool.or_false, Bool.not_true, Bool.not_false, decide_true, decide_false, Option.isSome, not_true_eq_false, not_false_eq_true, if_true, if_false, reduceCtorEq, ↓reduceIte]; done) | (simp only [mOkW]; simp only [hbad, if_pos h1, if_neg (not_not_intro h1), decide_eq_true h1, Bool.true_and, Bool.false_and, Bool.and_true, Bool.and_false, Bool.true_or, Bool.or_true, Bool.false_or, Bool.or_false, Bool.not_true, Bool.not_false, decide_true, decide_false, Option.isSome, not_true_eq_false, not_false_eq_true, if_true, if_false, reduceCtorEq, ↓reduceIte]; rfl) | (simp only [hbad, if_pos h1, if_neg (not_not_intro h1), decide_eq_true h1, Bool.true_and, Bool.false_and, Bool.and_true, Bool.and_false, Bool.true_or, Bool.or_true, Bool.false_or, Bool.or_false, Bool.not_true, Bool.not_false, decide_true, decide_false, Option.isSome, not_true_eq_false, not_false_eq_true, if_true, if_false, reduceCtorEq, ↓reduceIte]; rfl) | (simp_all [mOkW]; done))))
    · refine lv_iload_n hx hb dX2_about_9 rfl (lv_at hl 2 rfl) ?_
      refine lv_bipush (v := nI 7) hx hb dX2_about_10 (by decide) ?_
      refine lv_icmp_gt (tgt := 19) hx hb dX2_about_12 (by decide) (fun h2 => ?_) (fun h2 => ?_)
      · refine lv_iconst (v := nI 0) hx hb dX2_about_19 (by decide) ?_
        exact J20 (bI false) (congrArg bI (show false = (mOkW q (nI 7)) from (by first | rfl | (simp only [hbad, if_neg h1, if_pos h1, decide_eq_false h1, if_pos h2, if_neg (not_not_intro h2), decide_eq_true h2, Bool.true_and, Bool.false_and, Bool.and_true, Bool.and_false, Bool.true_or, Bool.or_true, Bool.false_or, Bool.or_false, Bool.not_true, Bool.not_false, decide_true, decide_false, Option.isSome, not_true_eq_false, not_false_eq_true, if_true, if_false, reduceCtorEq, ↓reduceIte]; done) | (simp only [mOkW, hbad, if_neg h1, if_pos h1, decide_eq_false h1, if_pos h2, if_neg (not_not_intro h2), decide_eq_true h2, Bool.true_and, Bool.false_and, Bool.and_true, Bool.and_false, Bool.true_or, Bool.or_true, Bool.false_or, Bool.or_false, Bool.not_true, Bool.not_false, decide_true, decide_false, Option.isSome, not_true_eq_false, not_false_eq_true, if_true, if_false, reduceCtorEq, ↓reduceIte]; done) | (simp only [mOkW]; simp only [hbad, if_neg h1, if_pos h1, decide_eq_false h1, if_pos h2, if_neg (not_not_intro h2), decide_eq_true h2, Bool.true_and, Bool.false_and, Bool.and_true, Bool.and_false, Bool.true_or, Bool.or_true, Bool.false_or, Bool.or_false, Bool.not_true, Bool.not_false, decide_true, decide_false, Option.isSome, not_true_eq_false, not_false_eq_true, if_true, if_false, reduceCtorEq, ↓reduceIte]; done) | (simp only [mOkW]; simp only [hbad, if_neg h1, if_pos h1, decide_eq_false h1, if_pos h2, if_neg (not_not_intro h2), decide_eq_true h2, Bool.true_and, Bool.false_and, Bool.and_true, Bool.and_false, Bool.true_or, Bool.or_true, Bool.false_or, Bool.or_false, Bool.not_true, Bool.not_false, decide_true, decide_false, Option.isSome, not_true_eq_false, not_false_eq_true, if_true, if_false, reduceCtorEq, ↓reduceIte]; done) | (simp only [mOkW]; simp only [hbad, if_neg h1, if_pos h1, decide_eq_false h1, if_pos h2, if_neg (not_not_intro h2), decide_eq_true h2, Bool.true_and, Bool.false_and, Bool.and_true, Bool.and_false, Bool.true_or, Bool.or_true, Bool.false_or, Bool.or_false, Bool.not_true, Bool.not_false, decide_true, decide_false, Option.isSome, not_true_eq_false, not_false_eq_true, if_true, if_false, reduceCtorEq, ↓reduceIte]; rfl) | (simp only [hbad, if_neg h1, if_pos h1, decide_eq_false h1, if_pos h2, if_neg (not_not_intro h2), decide_eq_true h2, Bool.true_and, Bool.false_and, Bool.and_true, Bool.and_false, Bool.true_or, Bool.or_true, Bool.false_or, Bool.or_false, Bool.not_true, Bool.not_false, decide_true, decide_false, Option.isSome, not_true_eq_false, not_false_eq_true, if_true, if_false, reduceCtorEq, ↓reduceIte]; rfl) | (simp_all [mOkW]; done))))
      · refine lv_iconst (v := nI 1) hx hb dX2_about_15 (by decide) ?_
        refine lv_goto (tgt := 20) hx hb dX2_about_16 (by decide) ?_
        exact J20 (bI true) (congrArg bI (show true = (mOkW q (nI 7)) from (by first | rfl | (simp only [hbad, if_neg h1, if_pos h1, decide_eq_false h1, if_neg h2, if_pos h2, decide_eq_false h2, Bool.true_and, Bool.false_and, Bool.and_true, Bool.and_false, Bool.true_or, Bool.or_true, Bool.false_or, Bool.or_false, Bool.not_true, Bool.not_false, decide_true, decide_false, Option.isSome, not_true_eq_false, not_false_eq_true, if_true, if_false, reduceCtorEq, ↓reduceIte]; done) | (simp only [mOkW, hbad, if_neg h1, if_pos h1, decide_eq_false h1, if_neg h2, if_pos h2, decide_eq_false h2, Bool.true_and, Bool.false_and, Bool.and_true, Bool.and_false, Bool.true_or, Bool.or_true, Bool.false_or, Bool.or_false, Bool.not_true, Bool.not_false, decide_true, decide_false, Option.isSome, not_true_eq_false, not_false_eq_true, if_true, if_false, reduceCtorEq, ↓reduceIte]; done) | (simp only [mOkW]; simp only [hbad, if_neg h1, if_pos h1, decide_eq_false h1, if_neg h2, if_pos h2, decide_eq_false h2, Bool.true_and, Bool.false_and, Bool.and_true, Bool.and_false, Bool.true_or, Bool.or_true, Bool.false_or, Bool.or_false, Bool.not_true, Bool.not_false, decide_true, decide_false, Option.isSome, not_true_eq_false, not_false_eq_true, if_true, if_false, reduceCtorEq, ↓reduceIte]; done) | (simp only [mOkW]; simp only [hbad, if_neg h1, if_pos h1, decide_eq_false h1, if_neg h2, if_pos h2, decide_eq_false h2, Bool.true_and, Bool.false_and, Bool.and_true, Bool.and_false, Bool.true_or, Bool.or_true, Bool.false_or, Bool.or_false, Bool.not_true, Bool.not_false, decide_true, decide_false, Option.isSome, not_true_eq_false, not_false_eq_true, if_true, if_false, reduceCtorEq, ↓reduceIte]; done) | (simp only [mOkW]; simp only [hbad, if_neg h1, if_pos h1, decide_eq_false h1, if_neg h2, if_pos h2, decide_eq_false h2, Bool.true_and, Bool.false_and, Bool.and_true, Bool.and_false, Bool.true_or, Bool.or_true, Bool.false_or, Bool.or_false, Bool.not_true, Bool.not_false, decide_true, decide_false, Option.isSome, not_true_eq_false, not_false_eq_true, if_true, if_false, reduceCtorEq, ↓reduceIte]; rfl) | (simp only [hbad, if_neg h1, if_pos h1, decide_eq_false h1, if_neg h2, if_pos h2, decide_eq_false h2, Bool.true_and, Bool.false_and, Bool.and_true, Bool.and_false, Bool.true_or, Bool.or_true, Bool.false_or, Bool.or_false, Bool.not_true, Bool.not_false, decide_true, decide_false, Option.isSome, not_true_eq_false, not_false_eq_true, if_true, if_false, reduceCtorEq, ↓reduceIte]; rfl) | (simp_all [mOkW]; done))))

set_option maxHeartbeats 4000000 in
set_option maxRecDepth 100000 in
theorem c2_about_bad2 (l : Launch) (dC : Nat → ClassId) (dI : Nat → Nat → Nat) (hm : Nat) (a : Nat → Nat) (cA : Nat → ClassId) (sz : Nat) (B : Nat → Nat → Bool) (N : Nat → Nat → Nat) (y : Int32) (q : Int32) (hy : mIsC y = true) (hbad : q < 0 ∨ nI 7 < q) : xc_M l yX2_about wsX2_about ({ frames := 3, cells := 0, slots := 0, locals := 69 }) [.ref hm, .int y, .int q] sz (dC, dI) vwCl (mtys cA) [] (mw hm a cA (B, N)) (some (.int (nI 0))) (mw hm a cA (B, sN N 4 0 2)) 0 0 := by
  refine Met.ofW (cc := cX2_about) (maxL := 3) (ret := (some .int)) (by decide) rfl ?_
  intro p e s m args below meth cd s₁ B₀ hml hv
  obtain ⟨rfl, hsz, hP, hK, hD0, hZ⟩ := hv
  have hx := B₀.exec
  have hb := B₀.bytes
  have hr := B₀.returns
  have hts := atoms_spec (ws := wsX2_about) B₀.pre
  have hown : s.vm.findClass RX2 = some m.cls := findClass_of_methodNamed B₀.named
  have hlocks := B₀.notSynchronized
  subst hsz
  have hD := hD0.self (sz := s.heap.size)
  generalize hAe : va_A (mw hm a cA (B, N)) s.heap.size = A at hD ⊢
  have hA : ∀ q : Nat, s.heap.size ≤ q → A q := fun q h => by rw [← hAe]; exact Or.inr h
  have hS : va_S A s.heap s.heap [] := va_S.rf
  have hin_RX2 : ∀ w ∈ u_ws RX2 TX2 14, w ∈ wsX2_about := fun w h => List.mem_cons_of_mem _ (u_X2 w h)
  have hlk_22 := hts _ (List.mem_cons_of_mem _ k_fl_X2_22)
  have hlk_26 := hts _ (List.mem_cons_of_mem _ k_fl_X2_26)
  have hlk_29 := hts _ (List.mem_cons_of_mem _ k_fl_X2_29)
  have hlk_32 := hts _ (List.mem_cons_of_mem _ k_fl_X2_32)
  have hl := lv_entry ([.ref hm, .int y, .int q]) (n := 3) (Nat.le_of_ble_eq_true rfl)
  rw [lg_entry_eq]
  generalize (lg_sl ([.ref hm, .int y, .int q]) ++ List.replicate (3 - (lg_sl ([.ref hm, .int y, .int q])).length) Slot.unset).toArray = ls at hl ⊢
  have hl : lv_has ls 3 [(0, .ref hm), (1, .int y), (2, .int q)] := hl
  refine lv_aload_n hx hb dX2_about_0 rfl (lv_at hl 0 rfl) ?_
  refine lv_iload_n hx hb dX2_about_1 rfl (lv_at hl 1 rfl) ?_
  refine xr_call (st1 := [.int (bI (mIsC y)), .ref hm]) (W.runS (As := [.int y]) (rest := [.ref hm]) ⟨hx, hb, hml, hown, hts⟩ (c2_isController l dC dI y) (cwS 1 hts (gd_S wa_c k_ml_X2_87 k_st_X2_isController k_in_X2 k_co_X2_isController) rfl rfl rfl (by decide +kernel) ⟨Nat.le_of_ble_eq_true rfl, Nat.le_of_ble_eq_true rfl⟩) (xr_preS (hK.sub (tys' := []) [] rfl) (hP.sub (ws' := []) [] rfl) xz_Z.nil) rfl rfl hl.1 rfl (lv_room (Nat.le_of_ble_eq_true rfl)) dX2_about_2 ⟨Nat.zero_le _, Nat.zero_le _⟩) rfl ?_
  refine xi_eq (y := bI true) (congrArg bI hy) ?_
  refine xj_meet (pcJ := 20) (stJ := fun y => .int y :: [.int (bI true), .ref hm]) (bI false) ?_ (fun J20 => ?_)
  · refine xc_call (wc := mw hm a cA (B, N)) (wr := []) (st1 := [.int (bI false)]) (va_runV (As := [.int (bI true), .int (bI false)]) (rest := []) ⟨hx, hb, hml, hown, hts⟩ (c2_goes l dC dI hm a cA s.heap.size B N true false) (cwV 2 hts (gd_V wa_c k_ml_X2_70 k_im_X2_goes k_se_X2_goes k_in_X2 k_co_X2_goes) rfl rfl rfl (by decide +kernel) ⟨Nat.le_of_ble_eq_true rfl, Nat.le_of_ble_eq_true rfl⟩) (xc_preV (q0 := 0) (C := RX2) hK hP hD xz_Z.nil rfl rfl) rfl rfl hl.1 rfl (lv_room (Nat.le_of_ble_eq_true rfl)) dX2_about_20 ⟨Nat.zero_le _, Nat.zero_le _⟩) hP hD hS hA [0, 1, 2, 3, 4, 5, 6, 7, 8, 9, 10] [] rfl rfl (by decide) (by decide) rfl (fun H locs hP hD hS _ => ?_)
    have hP : va_P (dC, dI) vwCl (mw hm a cA (B, sN N 4 0 2)) H := hP
    have hD : va_D A (mw hm a cA (B, sN N 4 0 2)) := hD
    refine xb_if_ne (b := false) (tgt := 28) hx hb dX2_about_23 (by decide) (fun h => absurd (h.symm.trans rfl) (by decide)) (fun _ => ?_)
    refine lv_iconst (v := nI 0) hx hb dX2_about_26 (by decide) ?_
    exact xc_iret (wf := mw hm a cA) hx hb hr hlocks dX2_about_27 hK hP hD hS  (congrArg nI (show 0 = _ from (by first | rfl | (simp only [hy, Bool.true_and, Bool.false_and, Bool.and_true, Bool.and_false, Bool.true_or, Bool.or_true, Bool.false_or, Bool.or_false, Bool.not_true, Bool.not_false, decide_true, decide_false, Option.isSome, not_true_eq_false, not_false_eq_true, if_true, if_false, reduceCtorEq, ↓reduceIte]; done) | (simp only [hy, Bool.true_and, Bool.false_and, Bool.and_true, Bool.and_false, Bool.true_or, Bool.or_true, Bool.false_or, Bool.or_false, Bool.not_true, Bool.not_false, decide_true, decide_false, Option.isSome, not_true_eq_false, not_false_eq_true, if_true, if_false, reduceCtorEq, ↓reduceIte]; rfl) | (simp_all; done)))) (by first | rfl | (simp only [hy, Bool.true_and, Bool.false_and, Bool.and_true, Bool.and_false, Bool.true_or, Bool.or_true, Bool.false_or, Bool.or_false, Bool.not_true, Bool.not_false, decide_true, decide_false, Option.isSome, not_true_eq_false, not_false_eq_true, if_true, if_false, reduceCtorEq, ↓reduceIte]; done) | (simp only [hy, Bool.true_and, Bool.false_and, Bool.and_true, Bool.and_false, Bool.true_or, Bool.or_true, Bool.false_or, Bool.or_false, Bool.not_true, Bool.not_false, decide_true, decide_false, Option.isSome, not_true_eq_false, not_false_eq_true, if_true, if_false, reduceCtorEq, ↓reduceIte]; rfl) | (simp_all; done))
  · refine lv_iload_n hx hb dX2_about_5 rfl (lv_at hl 2 rfl) ?_
    refine lv_if_lt (tgt := 19) hx hb dX2_about_6 (by decide) (fun h1 => ?_) (fun h1 => ?_)
    · refine lv_iconst (v := nI 0) hx hb dX2_about_19 (by decide) ?_
      exact J20 (bI false) (congrArg bI (show false = (false) from (by first | rfl | (simp only [hy, if_pos h1, if_neg (not_not_intro h1), decide_eq_true h1, Bool.true_and, Bool.false_and, Bool.and_true, Bool.and_false, Bool.true_or, Bool.or_true, Bool.false_or, Bool.or_false, Bool.not_true, Bool.not_false, decide_true, decide_false, Option.isSome, not_true_eq_false, not_false_eq_true, if_true, if_false, reduceCtorEq, ↓reduceIte]; done) | (simp only [hy, if_pos h1, if_neg (not_not_intro h1), decide_eq_true h1, Bool.true_and, Bool.false_and, Bool.and_true, Bool.and_false, Bool.true_or, Bool.or_true, Bool.false_or, Bool.or_false, Bool.not_true, Bool.not_false, decide_true, decide_false, Option.isSome, not_true_eq_false, not_false_eq_true, if_true, if_false, reduceCtorEq, ↓reduceIte]; rfl) | (simp_all; done))))
    · refine lv_iload_n hx hb dX2_about_9 rfl (lv_at hl 2 rfl) ?_
      refine lv_bipush (v := nI 7) hx hb dX2_about_10 (by decide) ?_
      refine lv_icmp_gt (tgt := 19) hx hb dX2_about_12 (by decide) (fun h2 => ?_) (fun h2 => ?_)
      · refine lv_iconst (v := nI 0) hx hb dX2_about_19 (by decide) ?_
        exact J20 (bI false) (congrArg bI (show false = (false) from (by first | rfl | (simp only [hy, if_neg h1, if_pos h1, decide_eq_false h1, if_pos h2, if_neg (not_not_intro h2), decide_eq_true h2, Bool.true_and, Bool.false_and, Bool.and_true, Bool.and_false, Bool.true_or, Bool.or_true, Bool.false_or, Bool.or_false, Bool.not_true, Bool.not_false, decide_true, decide_false, Option.isSome, not_true_eq_false, not_false_eq_true, if_true, if_false, reduceCtorEq, ↓reduceIte]; done) | (simp only [hy, if_neg h1, if_pos h1, decide_eq_false h1, if_pos h2, if_neg (not_not_intro h2), decide_eq_true h2, Bool.true_and, Bool.false_and, Bool.and_true, Bool.and_false, Bool.true_or, Bool.or_true, Bool.false_or, Bool.or_false, Bool.not_true, Bool.not_false, decide_true, decide_false, Option.isSome, not_true_eq_false, not_false_eq_true, if_true, if_false, reduceCtorEq, ↓reduceIte]; rfl) | (simp_all; done))))
      · refine lv_iconst (v := nI 1) hx hb dX2_about_15 (by decide) ?_
        refine lv_goto (tgt := 20) hx hb dX2_about_16 (by decide) ?_
        exact J20 (bI true) (congrArg bI (show true = (false) from (by first | rfl | (simp only [hy, if_neg h1, if_pos h1, decide_eq_false h1, if_neg h2, if_pos h2, decide_eq_false h2, Bool.true_and, Bool.false_and, Bool.and_true, Bool.and_false, Bool.true_or, Bool.or_true, Bool.false_or, Bool.or_false, Bool.not_true, Bool.not_false, decide_true, decide_false, Option.isSome, not_true_eq_false, not_false_eq_true, if_true, if_false, reduceCtorEq, ↓reduceIte]; done) | (simp only [hy, if_neg h1, if_pos h1, decide_eq_false h1, if_neg h2, if_pos h2, decide_eq_false h2, Bool.true_and, Bool.false_and, Bool.and_true, Bool.and_false, Bool.true_or, Bool.or_true, Bool.false_or, Bool.or_false, Bool.not_true, Bool.not_false, decide_true, decide_false, Option.isSome, not_true_eq_false, not_false_eq_true, if_true, if_false, reduceCtorEq, ↓reduceIte]; rfl) | (simp_all; done))))

