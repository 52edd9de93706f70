set_option maxHeartbeats 4000000 in
set_option maxRecDepth 100000 in
theorem c_ctl_init (l : Launch) (dC : Nat → ClassId) (dI : Nat → Nat → Nat) (h sz : Nat) (u : Nat → Int32) (n : Int32) : xc_M l yX1_init wsX1_init ({ frames := 1, cells := 0, slots := 0, locals := 12 }) [.ref h, .int n] sz (dC, dI) vwCl [] [] (cw1 h u) none (cw1 h (upd (upd u 0 n) 5 7)) 0 0 := by
  refine Met.ofW (cc := cX1_init) (maxL := 2) (ret := none) (by decide) rfl ?_
  intro p e s m args below meth c s₁ B hml hv
  obtain ⟨rfl, hsz, hP, hK, hD0, hZ⟩ := hv
  have hx_ := B.exec
  have hb := B.bytes
  have hr := B.returns
  have hts := atoms_spec (ws := wsX1_init) B.pre
  have hown : s.vm.findClass RX1 = some m.cls := findClass_of_methodNamed B.named
  have hlocks := B.notSynchronized
  have hin : meth.name = "<init>" := (name_of_methodNamed B.named B.method).1
  subst hsz
  have hD := hD0.self (sz := s.heap.size)
  generalize hAe : va_A (cw1 h u) s.heap.size = A at hD ⊢
  have hA : ∀ q : Nat, s.heap.size ≤ q → A q := fun q h => by rw [← hAe]; exact Or.inr h
  have hS : va_S A s.heap s.heap [] := va_S.rf
  have hl := lv_entry ([.ref h, .int n]) (n := 2) (Nat.le_of_ble_eq_true rfl)
  rw [lg_entry_eq]
  generalize (lg_sl ([.ref h, .int n]) ++ List.replicate (2 - (lg_sl ([.ref h, .int n])).length) Slot.unset).toArray = ls at hl ⊢
  have hl : lv_has ls 2 [(0, .ref h), (1, .int n)] := hl
  have hin_X1 : ∀ w ∈ u_ws RX1 TX1 19, w ∈ wsX1_init := fun w h => List.mem_cons_of_mem _ (u_X1 w h)
  refine lv_aload_n hx_ hb dX1_init_0 rfl (lv_at hl 0 rfl) ?_
  refine W.objInit hx_ hb hown (hts _ (List.mem_cons_of_mem _ k_ml_X1_3)) (hts _ (List.mem_cons_of_mem _ k_im_objectInit)) (hts _ (List.mem_cons_of_mem _ k_co_objectInit)) rfl (by rw [hml]; exact hl.1) rfl dX1_init_1 (Nat.le_of_ble_eq_true rfl) (Nat.le_of_ble_eq_true rfl) ?_
  refine W.eq (g2 := F0 m 4 ls []) rfl ?_
  refine lv_aload_n hx_ hb dX1_init_4 rfl (lv_at hl 0 rfl) ?_
  refine lv_iload_n hx_ hb dX1_init_5 rfl (lv_at hl 1 rfl) ?_
  refine va_putF (D := (dC, dI)) (ci := 1) (v := .int n) (ty := .int) (C := RX1) (T := TX1) (N := 19) hx_ hb hts hin_X1 tyX1 tyX1_ok nX1 hown hK hP hD hS 0 rfl rfl 0 (by decide) (hts _ (List.mem_cons_of_mem _ k_fl_X1_9)) (fun _ h9 => h9) rfl hin rfl (by decide +kernel) rfl rfl (Nat.le_of_ble_eq_true rfl) dX1_init_6 (fun H locs hP hD hS => ?_)
  have hP : va_P (dC, dI) vwCl (cw1 h (upd u 0 n)) H := hP
  have hD : va_D A (cw1 h (upd u 0 n)) := hD
  refine lv_aload_n hx_ hb dX1_init_9 rfl (lv_at hl 0 rfl) ?_
  refine lv_bipush (v := 7) hx_ hb dX1_init_10 (by decide) ?_
  refine va_put (D := (dC, dI)) (ci := 1) (v := .int 7) (ty := .int) (C := RX1) (T := TX1) (N := 19) hx_ hb hts hin_X1 tyX1 tyX1_ok nX1 hown hK hP hD hS 0 rfl rfl 5 (by decide) (hts _ (List.mem_cons_of_mem _ k_fl_X1_15)) (fun _ h9 => h9) rfl (by decide +kernel) rfl rfl (Nat.le_of_ble_eq_true rfl) dX1_init_12 (fun H locs hP hD hS => ?_)
  have hP : va_P (dC, dI) vwCl (cw1 h (upd (upd u 0 n) 5 7)) H := hP
  have hD : va_D A (cw1 h (upd (upd u 0 n) 5 7)) := hD
  exact xc_vret (wf := cw1 h) hx_ hb hr hlocks dX1_init_15 hK hP hD hS rfl
def lpZ : Nat → Int32 := fun _ => 0
abbrev lpI (n : Int32) : Nat → Int32 := upd (upd lpZ 0 n) 5 7
set_option maxHeartbeats 4000000 in
set_option maxRecDepth 100000 in
theorem c_pair_init (l : Launch) (dC : Nat → ClassId) (dI : Nat → Nat → Nat) (hx sz : Nat) : Met l yX0_init wsX0_init ({ frames := 2, cells := 2, slots := 38, locals := 33 }) (xc_P [.ref hx] sz (dC, dI) vwCl [] pz [(hx, .inr (0, [.null, .null, .int 0]))]) (va_Qv (fun _ : Nat × Nat => True) (fun q t => va_P (dC, dI) vwCl (pw hx q.1 q.2 (lpI 2, lpI (-1), 0)) t.heap ∧ va_K (dC, dI) vwCl [] t ∧ va_D (va_A [(hx, .inr (0, [.null, .null, .int 0]))] sz) (pw hx q.1 q.2 (lpI 2, lpI (-1), 0))) (va_A [(hx, .inr (0, [.null, .null, .int 0]))] sz)) 2 38 (va_A [(hx, .inr (0, [.null, .null, .int 0]))] sz) := by
  refine Met.ofW (cc := cX0_init) (maxL := 1) (ret := none) (by decide) rfl ?_
  intro p e s m args below meth c s₁ B hml hv
  obtain ⟨rfl, hsz, hP, hK, hD0, hZ⟩ := hv
  have hx_ := B.exec
  have hb := B.bytes
  have hr := B.returns
  have hts := atoms_spec (ws := wsX0_init) B.pre
  have hown : s.vm.findClass RX0 = some m.cls := findClass_of_methodNamed B.named
  have hlocks := B.notSynchronized
  have hin : meth.name = "<init>" := (name_of_methodNamed B.named B.method).1
  subst hsz
  have hD := hD0.self (sz := s.heap.size)
  generalize hAe : va_A ([(hx, .inr (0, [.null, .null, .int 0]))]) s.heap.size = A at hD ⊢
  have hA : ∀ q : Nat, s.heap.size ≤ q → A q := fun q h => by rw [← hAe]; exact Or.inr h
  have hS : va_S A s.heap s.heap [] := va_S.rf
  have hl := lv_entry ([.ref hx]) (n := 1) (Nat.le_of_ble_eq_true rfl)
  rw [lg_entry_eq]
  generalize (lg_sl ([.ref hx]) ++ List.replicate (1 - (lg_sl ([.ref hx])).length) Slot.unset).toArray = ls at hl ⊢
  have hl : lv_has ls 1 [(0, .ref hx)] := hl
  have hin_X0 : ∀ w ∈ u_ws RX0 TX0 3, w ∈ wsX0_init := fun w h => List.mem_cons_of_mem _ (u_X0 w h)
  have hin_X1 : ∀ w ∈ u_ws RX1 TX1 19, w ∈ wsX0_init := fun w h => List.mem_cons_of_mem _ (u_X1 w h)
  have hml_11 : va_Nw (.methodLinkNest RX0 11 yX1_init "LinePair") s := hZ.2 _ (by decide +kernel)
  refine lv_aload_n hx_ hb dX0_init_0 rfl (lv_at hl 0 rfl) ?_
  refine W.objInit hx_ hb hown (hts _ (List.mem_cons_of_mem _ k_ml_X0_1)) (hts _ (List.mem_cons_of_mem _ k_im_objectInit)) (hts _ (List.mem_cons_of_mem _ k_co_objectInit)) rfl (by rw [hml]; exact hl.1) rfl dX0_init_1 (Nat.le_of_ble_eq_true rfl) (Nat.le_of_ble_eq_true rfl) ?_
  refine W.eq (g2 := F0 m 4 ls []) rfl ?_
  refine lv_aload_n hx_ hb dX0_init_4 rfl (lv_at hl 0 rfl) ?_
  refine va_new (ci := 1) (fs := lpF lpZ) (C := RX1) (T := TX1) (N := 19) hx_ hb hts hin_X1 tyX1 tyX1_ok hown (hts _ (List.mem_cons_of_mem _ k_cl_X0_7)) (hts _ (List.mem_cons_of_mem _ k_is_X1)) (hts _ (List.mem_cons_of_mem _ k_in_X1)) hK hP hD hS hA rfl (by decide) (show 0 + 1 ≤ 2 by decide) (show 0 + 19 ≤ 38 by decide) dX0_init_5 (fun hc H hP hD hS => ?_)
  have hP : va_P (dC, dI) vwCl ([(hx, .inr (0, [.null, .null, .int 0])), (hc, .inr (1, lpF lpZ))]) H := hP
  have hD : va_D A ([(hx, .inr (0, [.null, .null, .int 0])), (hc, .inr (1, lpF lpZ))]) := hD
  refine lv_dup hx_ hb dX0_init_8 rfl ?_
  refine lv_iconst (v := 2) hx_ hb dX0_init_9 (by decide) ?_
  refine xc_call (wc := cw1 hc lpZ) (wr := [(hx, .inr (0, [.null, .null, .int 0]))]) (st1 := [.ref hc, .ref hx]) (va_runIN (As := [.int 2]) (rest := [.ref hc, .ref hx]) ⟨hx_, hb, hml, hown, hts⟩ (c_ctl_init l dC dI hc H.size lpZ 2) ⟨va_cnB 1 hts (gd_0 wa_c k_co_X1_init) rfl rfl rfl hml_11 (hts _ (List.mem_cons_of_mem _ k_in_X1)) (by decide +kernel) ⟨Nat.le_of_ble_eq_true rfl, Nat.le_of_ble_eq_true rfl⟩, rfl, hts _ (List.mem_cons_of_mem _ k_im_X1_init)⟩ (xc_preS hK (hP.sub (ws' := cw1 hc lpZ) [1] rfl) (hD.sub (ws' := cw1 hc lpZ) [1] (by decide) rfl) xz_Z.nil) rfl rfl hl.1 rfl (lv_room (Nat.le_of_ble_eq_true rfl)) dX0_init_10 ⟨Nat.le_of_ble_eq_true rfl, Nat.le_of_ble_eq_true rfl⟩) hP hD hS hA [1] [0] rfl rfl (by decide) (by decide) rfl (fun H locs hP hD hS _ => ?_)
  have hP : va_P (dC, dI) vwCl ([(hx, .inr (0, [.null, .null, .int 0])), (hc, .inr (1, lpF (lpI 2)))]) H := hP
  have hD : va_D A ([(hx, .inr (0, [.null, .null, .int 0])), (hc, .inr (1, lpF (lpI 2)))]) := hD
  refine va_putF (D := (dC, dI)) (ci := 0) (v := .ref hc) (ty := .object "LinePair$Controller") (C := RX0) (T := TX0) (N := 3) hx_ hb hts hin_X0 tyX0 tyX0_ok nX0 hown hK hP hD hS 0 rfl rfl 0 (by decide) (hts _ (List.mem_cons_of_mem _ k_fl_X0_14)) (fun _ h9 => h9) rfl hin rfl (by decide +kernel) rfl rfl (Nat.le_of_ble_eq_true rfl) dX0_init_13 (fun H locs hP hD hS => ?_)
  have hP : va_P (dC, dI) vwCl ([(hx, .inr (0, [.ref hc, .null, .int 0])), (hc, .inr (1, lpF (lpI 2)))]) H := hP
  have hD : va_D A ([(hx, .inr (0, [.ref hc, .null, .int 0])), (hc, .inr (1, lpF (lpI 2)))]) := hD
  refine lv_aload_n hx_ hb dX0_init_16 rfl (lv_at hl 0 rfl) ?_
  refine va_new (ci := 1) (fs := lpF lpZ) (C := RX1) (T := TX1) (N := 19) hx_ hb hts hin_X1 tyX1 tyX1_ok hown (hts _ (List.mem_cons_of_mem _ k_cl_X0_7)) (hts _ (List.mem_cons_of_mem _ k_is_X1)) (hts _ (List.mem_cons_of_mem _ k_in_X1)) hK hP hD hS hA rfl (by decide) (show 1 + 1 ≤ 2 by decide) (show 19 + 19 ≤ 38 by decide) dX0_init_17 (fun hh H hP hD hS => ?_)
  have hP : va_P (dC, dI) vwCl ([(hx, .inr (0, [.ref hc, .null, .int 0])), (hc, .inr (1, lpF (lpI 2))), (hh, .inr (1, lpF lpZ))]) H := hP
  have hD : va_D A ([(hx, .inr (0, [.ref hc, .null, .int 0])), (hc, .inr (1, lpF (lpI 2))), (hh, .inr (1, lpF lpZ))]) := hD
  refine lv_dup hx_ hb dX0_init_20 rfl ?_
  refine lv_iconst (v := -1) hx_ hb dX0_init_21 (by decide) ?_
  refine xc_call (wc := cw1 hh lpZ) (wr := [(hx, .inr (0, [.ref hc, .null, .int 0])), (hc, .inr (1, lpF (lpI 2)))]) (st1 := [.ref hh, .ref hx]) (va_runIN (As := [.int (-1)]) (rest := [.ref hh, .ref hx]) ⟨hx_, hb, hml, hown, hts⟩ (c_ctl_init l dC dI hh H.size lpZ (-1)) ⟨va_cnB 1 hts (gd_0 wa_c k_co_X1_init) rfl rfl rfl hml_11 (hts _ (List.mem_cons_of_mem _ k_in_X1)) (by decide +kernel) ⟨Nat.le_of_ble_eq_true rfl, Nat.le_of_ble_eq_true rfl⟩, rfl, hts _ (List.mem_cons_of_mem _ k_im_X1_init)⟩ (xc_preS hK (hP.sub (ws' := cw1 hh lpZ) [2] rfl) (hD.sub (ws' := cw1 hh lpZ) [2] (by decide) rfl) xz_Z.nil) rfl rfl hl.1 rfl (lv_room (Nat.le_of_ble_eq_true rfl)) dX0_init_22 ⟨Nat.le_of_ble_eq_true rfl, Nat.le_of_ble_eq_true rfl⟩) hP hD hS hA [2] [0, 1] rfl rfl (by decide) (by decide) rfl (fun H locs hP hD hS _ => ?_)
  have hP : va_P (dC, dI) vwCl ([(hx, .inr (0, [.ref hc, .null, .int 0])), (hc, .inr (1, lpF (lpI 2))), (hh, .inr (1, lpF (lpI (-1))))]) H := hP
  have hD : va_D A ([(hx, .inr (0, [.ref hc, .null, .int 0])), (hc, .inr (1, lpF (lpI 2))), (hh, .inr (1, lpF (lpI (-1))))]) := hD
  refine va_putF (D := (dC, dI)) (ci := 0) (v := .ref hh) (ty := .object "LinePair$Controller") (C := RX0) (T := TX0) (N := 3) hx_ hb hts hin_X0 tyX0 tyX0_ok nX0 hown hK hP hD hS 0 rfl rfl 1 (by decide) (hts _ (List.mem_cons_of_mem _ k_fl_X0_18)) (fun _ h9 => h9) rfl hin rfl (by decide +kernel) rfl rfl (Nat.le_of_ble_eq_true rfl) dX0_init_25 (fun H locs hP hD hS => ?_)
  have hP : va_P (dC, dI) vwCl ([(hx, .inr (0, [.ref hc, .ref hh, .int 0])), (hc, .inr (1, lpF (lpI 2))), (hh, .inr (1, lpF (lpI (-1))))]) H := hP
  have hD : va_D A ([(hx, .inr (0, [.ref hc, .ref hh, .int 0])), (hc, .inr (1, lpF (lpI 2))), (hh, .inr (1, lpF (lpI (-1))))]) := hD
  refine lv_aload_n hx_ hb dX0_init_28 rfl (lv_at hl 0 rfl) ?_
  refine lv_iconst (v := 0) hx_ hb dX0_init_29 (by decide) ?_
  refine va_put (D := (dC, dI)) (ci := 0) (v := .int 0) (ty := .int) (C := RX0) (T := TX0) (N := 3) hx_ hb hts hin_X0 tyX0 tyX0_ok nX0 hown hK hP hD hS 0 rfl rfl 2 (by decide) (hts _ (List.mem_cons_of_mem _ k_fl_X0_21)) (fun _ h9 => h9) rfl (by decide +kernel) rfl rfl (Nat.le_of_ble_eq_true rfl) dX0_init_30 (fun H locs hP hD hS => ?_)
  have hP : va_P (dC, dI) vwCl ([(hx, .inr (0, [.ref hc, .ref hh, .int 0])), (hc, .inr (1, lpF (lpI 2))), (hh, .inr (1, lpF (lpI (-1))))]) H := hP
  have hD : va_D A ([(hx, .inr (0, [.ref hc, .ref hh, .int 0])), (hc, .inr (1, lpF (lpI 2))), (hh, .inr (1, lpF (lpI (-1))))]) := hD
  refine W.cs (cells' := 2) (slots' := 38) rfl rfl ?_
  exact W.vret hx_ hb hr (fun t ht hW => ⟨⟨(hc, hh), rfl, trivial, by rw [ht]; exact hP, va_K.moved hW.alike hK, hD⟩, hS.F ht⟩) hS.2.2 dX0_init_33 hlocks
