def TL : List Cond := Bundle.ownAtoms0 RX0 27 "java/util/NoSuchElementException" ["java/lang/RuntimeException", "java/lang/Exception"] ++ Bundle.ownAtoms0 RX0 44 "java/lang/IllegalArgumentException" ["java/lang/RuntimeException", "java/lang/Exception"]
set_option maxHeartbeats 4000000 in
set_option maxRecDepth 100000 in
theorem t_controllerNumbered (l : Launch) (htr : l.stackTraces = false) (dC : Nat → ClassId) (dI : Nat → Nat → Nat) (hx hc hh : Nat) (u0 u1 : Nat → Int32) (ea : Int32) (x : Int32) (h0 : ¬ x = 0) (h1 : ¬ x = 1) : xt_M l yX0_controllerNumbered wsX0_controllerNumbered ({ frames := 6, cells := 1, slots := 6, locals := 90 }) (xt_P [.ref hx, .int x] (dC, dI) vwCl [] pz TL (pw hx hc hh (u0, u1, ea))) "java/util/NoSuchElementException" := by
  refine xt_ofW (cc := cX0_controllerNumbered) (maxL := 2) (ret := (some (.object "LinePair$Controller"))) (by decide) rfl ?_
  intro p e s m args below meth c s₁ B hml hv
  obtain ⟨rfl, hP, hK, hZ, hT⟩ := hv
  have hx_ := B.exec
  have hb := B.bytes
  have hts := atoms_spec (ws := wsX0_controllerNumbered) B.pre
  have hown : s.vm.findClass RX0 = some m.cls := findClass_of_methodNamed B.named
  have hlocks := B.notSynchronized
  have hno := B.noHandlers (hts _ List.mem_cons_self)
  have hl := lv_entry ([.ref hx, .int x]) (n := 2) (Nat.le_of_ble_eq_true rfl)
  rw [lg_entry_eq]
  generalize (lg_sl ([.ref hx, .int x]) ++ List.replicate (2 - (lg_sl ([.ref hx, .int x])).length) Slot.unset).toArray = ls at hl ⊢
  have hl : lv_has ls 2 [(0, .ref hx), (1, .int x)] := hl
  refine lv_iload_n hx_ hb dX0_controllerNumbered_0 rfl (lv_at hl 1 rfl) ?_
  refine lv_if_eq (tgt := 17) hx_ hb dX0_controllerNumbered_1 (by decide) (fun h => absurd h h0) (fun _ => ?_)
  refine lv_iload_n hx_ hb dX0_controllerNumbered_4 rfl (lv_at hl 1 rfl) ?_
  refine lv_iconst (v := 1) hx_ hb dX0_controllerNumbered_5 (by decide) ?_
  refine lv_icmp_eq (tgt := 17) hx_ hb dX0_controllerNumbered_6 (by decide) (fun h => absurd h h1) (fun _ => ?_)
  exact xt_new (E := "java/util/NoSuchElementException") (names := ["java/lang/RuntimeException", "java/lang/Exception"]) (ix := 25) (ic := 27) hx_ hb htr hown (by decide +kernel) (by decide +kernel) (hts _ (List.mem_cons_of_mem _ k_cl_X0_25)) (hts _ (List.mem_cons_of_mem _ k_in_NoSuchElementException)) (fun a ha => hT.use (List.mem_append_left _ ha)) hno hlocks (hl.1.trans hml.symm) (Nat.le_of_ble_eq_true rfl) (Nat.le_of_ble_eq_true rfl) (Nat.le_of_ble_eq_true rfl) (Nat.le_of_ble_eq_true rfl) dX0_controllerNumbered_9 dX0_controllerNumbered_12 dX0_controllerNumbered_13 dX0_controllerNumbered_16

set_option maxHeartbeats 4000000 in
set_option maxRecDepth 100000 in
theorem t_checkPort (l : Launch) (htr : l.stackTraces = false) (dC : Nat → ClassId) (dI : Nat → Nat → Nat) (hx hc hh : Nat) (u0 u1 : Nat → Int32) (ea : Int32) (x : Int32) (h0 : ¬ x = 0) (h1 : ¬ x = 1) : xt_M l yX0_checkPort wsX0_checkPort ({ frames := 6, cells := 1, slots := 6, locals := 90 }) (xt_P [.ref hx, .int x] (dC, dI) vwCl [] pz TL (pw hx hc hh (u0, u1, ea))) "java/util/NoSuchElementException" := by
  refine xt_ofW (cc := cX0_checkPort) (maxL := 2) (ret := none) (by decide) rfl ?_
  intro p e s m args below meth c s₁ B hml hv
  obtain ⟨rfl, hP, hK, hZ, hT⟩ := hv
  have hx_ := B.exec
  have hb := B.bytes
  have hts := atoms_spec (ws := wsX0_checkPort) B.pre
  have hown : s.vm.findClass RX0 = some m.cls := findClass_of_methodNamed B.named
  have hlocks := B.notSynchronized
  have hno := B.noHandlers (hts _ List.mem_cons_self)
  have hl := lv_entry ([.ref hx, .int x]) (n := 2) (Nat.le_of_ble_eq_true rfl)
  rw [lg_entry_eq]
  generalize (lg_sl ([.ref hx, .int x]) ++ List.replicate (2 - (lg_sl ([.ref hx, .int x])).length) Slot.unset).toArray = ls at hl ⊢
  have hl : lv_has ls 2 [(0, .ref hx), (1, .int x)] := hl
  refine lv_iload_n hx_ hb dX0_checkPort_0 rfl (lv_at hl 1 rfl) ?_
  refine lv_if_eq (tgt := 17) hx_ hb dX0_checkPort_1 (by decide) (fun h => absurd h h0) (fun _ => ?_)
  refine lv_iload_n hx_ hb dX0_checkPort_4 rfl (lv_at hl 1 rfl) ?_
  refine lv_iconst (v := 1) hx_ hb dX0_checkPort_5 (by decide) ?_
  refine lv_icmp_eq (tgt := 17) hx_ hb dX0_checkPort_6 (by decide) (fun h => absurd h h1) (fun _ => ?_)
  exact xt_new (E := "java/util/NoSuchElementException") (names := ["java/lang/RuntimeException", "java/lang/Exception"]) (ix := 25) (ic := 27) hx_ hb htr hown (by decide +kernel) (by decide +kernel) (hts _ (List.mem_cons_of_mem _ k_cl_X0_25)) (hts _ (List.mem_cons_of_mem _ k_in_NoSuchElementException)) (fun a ha => hT.use (List.mem_append_left _ ha)) hno hlocks (hl.1.trans hml.symm) (Nat.le_of_ble_eq_true rfl) (Nat.le_of_ble_eq_true rfl) (Nat.le_of_ble_eq_true rfl) (Nat.le_of_ble_eq_true rfl) dX0_checkPort_9 dX0_checkPort_12 dX0_checkPort_13 dX0_checkPort_16

set_option maxHeartbeats 4000000 in
set_option maxRecDepth 100000 in
theorem t_line (l : Launch) (htr : l.stackTraces = false) (dC : Nat → ClassId) (dI : Nat → Nat → Nat) (hx hc hh : Nat) (u0 u1 : Nat → Int32) (ea : Int32) (k t : Int32) (hbad : k < 0 ∨ 16 ≤ k ∨ k = 2) : xt_M l yX0_line wsX0_line ({ frames := 6, cells := 1, slots := 6, locals := 90 }) (xt_P [.ref hx, .int k, .int t] (dC, dI) vwCl [] pz TL (pw hx hc hh (u0, u1, ea))) "java/util/NoSuchElementException" := by
  refine xt_ofW (cc := cX0_line) (maxL := 4) (ret := (some .boolean)) (by decide) rfl ?_
  intro p e s m args below meth c s₁ B hml hv
  obtain ⟨rfl, hP, hK, hZ, hT⟩ := hv
  have hx_ := B.exec
  have hb := B.bytes
  have hts := atoms_spec (ws := wsX0_line) B.pre
  have hown : s.vm.findClass RX0 = some m.cls := findClass_of_methodNamed B.named
  have hlocks := B.notSynchronized
  have hno := B.noHandlers (hts _ List.mem_cons_self)
  have hl := lv_entry ([.ref hx, .int k, .int t]) (n := 4) (Nat.le_of_ble_eq_true rfl)
  rw [lg_entry_eq]
  generalize (lg_sl ([.ref hx, .int k, .int t]) ++ List.replicate (4 - (lg_sl ([.ref hx, .int k, .int t])).length) Slot.unset).toArray = ls at hl ⊢
  have hl : lv_has ls 4 [(0, .ref hx), (1, .int k), (2, .int t)] := hl
  refine lv_iload_n hx_ hb dX0_line_0 rfl (lv_at hl 1 rfl) ?_
  refine lv_if_lt (tgt := 15) hx_ hb dX0_line_1 (by decide) (fun h1 => ?_) (fun h1 => ?_)
  · exact xt_new (E := "java/util/NoSuchElementException") (names := ["java/lang/RuntimeException", "java/lang/Exception"]) (ix := 25) (ic := 27) hx_ hb htr hown (by decide +kernel) (by decide +kernel) (hts _ (List.mem_cons_of_mem _ k_cl_X0_25)) (hts _ (List.mem_cons_of_mem _ k_in_NoSuchElementException)) (fun a ha => hT.use (List.mem_append_left _ ha)) hno hlocks (hl.1.trans hml.symm) (Nat.le_of_ble_eq_true rfl) (Nat.le_of_ble_eq_true rfl) (Nat.le_of_ble_eq_true rfl) (Nat.le_of_ble_eq_true rfl) dX0_line_15 dX0_line_18 dX0_line_19 dX0_line_22
  · refine lv_iload_n hx_ hb dX0_line_4 rfl (lv_at hl 1 rfl) ?_
    refine lv_bipush (v := 16) hx_ hb dX0_line_5 (by decide) ?_
    refine lv_icmp_ge (tgt := 15) hx_ hb dX0_line_7 (by decide) (fun h2 => ?_) (fun h2 => ?_)
    · exact xt_new (E := "java/util/NoSuchElementException") (names := ["java/lang/RuntimeException", "java/lang/Exception"]) (ix := 25) (ic := 27) hx_ hb htr hown (by decide +kernel) (by decide +kernel) (hts _ (List.mem_cons_of_mem _ k_cl_X0_25)) (hts _ (List.mem_cons_of_mem _ k_in_NoSuchElementException)) (fun a ha => hT.use (List.mem_append_left _ ha)) hno hlocks (hl.1.trans hml.symm) (Nat.le_of_ble_eq_true rfl) (Nat.le_of_ble_eq_true rfl) (Nat.le_of_ble_eq_true rfl) (Nat.le_of_ble_eq_true rfl) dX0_line_15 dX0_line_18 dX0_line_19 dX0_line_22
    · refine lv_iload_n hx_ hb dX0_line_10 rfl (lv_at hl 1 rfl) ?_
      refine lv_iconst (v := 2) hx_ hb dX0_line_11 (by decide) ?_
      refine lv_icmp_ne (tgt := 23) hx_ hb dX0_line_12 (by decide) (fun h3 => ?_) (fun h3 => ?_)
      · rcases hbad with z | z | z <;> contradiction
      · exact xt_new (E := "java/util/NoSuchElementException") (names := ["java/lang/RuntimeException", "java/lang/Exception"]) (ix := 25) (ic := 27) hx_ hb htr hown (by decide +kernel) (by decide +kernel) (hts _ (List.mem_cons_of_mem _ k_cl_X0_25)) (hts _ (List.mem_cons_of_mem _ k_in_NoSuchElementException)) (fun a ha => hT.use (List.mem_append_left _ ha)) hno hlocks (hl.1.trans hml.symm) (Nat.le_of_ble_eq_true rfl) (Nat.le_of_ble_eq_true rfl) (Nat.le_of_ble_eq_true rfl) (Nat.le_of_ble_eq_true rfl) dX0_line_15 dX0_line_18 dX0_line_19 dX0_line_22

set_option maxHeartbeats 4000000 in
set_option maxRecDepth 100000 in
theorem t_write_c (l : Launch) (htr : l.stackTraces = false) (dC : Nat → ClassId) (dI : Nat → Nat → Nat) (hx hc hh : Nat) (u0 u1 : Nat → Int32) (ea : Int32) (x y w : Int32) (h0 : ¬ x = 0) (h1 : ¬ x = 1) : xt_M l yX0_write wsX0_write ({ frames := 7, cells := 1, slots := 6, locals := 120 }) (xt_P [.ref hx, .int x, .int y, .int w] (dC, dI) vwCl [] pz TL (pw hx hc hh (u0, u1, ea))) "java/util/NoSuchElementException" := by
  refine xt_ofW (cc := cX0_write) (maxL := 5) (ret := (some .boolean)) (by decide) rfl ?_
  intro p e s m args below meth c s₁ B hml hv
  obtain ⟨rfl, hP, hK, hZ, hT⟩ := hv
  have hx_ := B.exec
  have hb := B.bytes
  have hts := atoms_spec (ws := wsX0_write) B.pre
  have hown : s.vm.findClass RX0 = some m.cls := findClass_of_methodNamed B.named
  have hlocks := B.notSynchronized
  have hno := B.noHandlers (hts _ List.mem_cons_self)
  have hl := lv_entry ([.ref hx, .int x, .int y, .int w]) (n := 5) (Nat.le_of_ble_eq_true rfl)
  rw [lg_entry_eq]
  generalize (lg_sl ([.ref hx, .int x, .int y, .int w]) ++ List.replicate (5 - (lg_sl ([.ref hx, .int x, .int y, .int w])).length) Slot.unset).toArray = ls at hl ⊢
  have hl : lv_has ls 5 [(0, .ref hx), (1, .int x), (2, .int y), (3, .int w)] := hl
  refine lv_aload_n hx_ hb dX0_write_0 rfl (lv_at hl 0 rfl) ?_
  refine lv_iload_n hx_ hb dX0_write_1 rfl (lv_at hl 1 rfl) ?_
  exact xt_leave (rest := []) (xt_runV (As := [.int x]) (rest := []) ⟨hx_, hb, hml, hown, hts⟩ (t_controllerNumbered l htr dC dI hx hc hh u0 u1 ea x h0 h1) (cwV 1 hts (gd_V wa_c k_ml_X0_35 k_im_X0_controllerNumbered k_se_X0_controllerNumbered k_in_X0 k_co_X0_controllerNumbered) rfl rfl rfl (by decide +kernel) ⟨Nat.le_of_ble_eq_true rfl, Nat.le_of_ble_eq_true rfl⟩) (xt_preV (q0 := 0) (C := RX0) hK hP hZ hT (fun _ _ => rfl) rfl rfl) rfl rfl hl.1 rfl (lv_room (Nat.le_of_ble_eq_true rfl)) dX0_write_2 ⟨Nat.le_of_ble_eq_true rfl, Nat.le_of_ble_eq_true rfl⟩) hno hlocks

set_option maxHeartbeats 4000000 in
set_option maxRecDepth 100000 in
theorem t_write_p0 (l : Launch) (htr : l.stackTraces = false) (dC : Nat → ClassId) (dI : Nat → Nat → Nat) (hx hc hh : Nat) (u0 u1 : Nat → Int32) (ea : Int32) (q w : Int32) (q0 : ¬ q = 0) (q1 : ¬ q = 1) : xt_M l yX0_write wsX0_write ({ frames := 7, cells := 1, slots := 6, locals := 120 }) (xt_P [.ref hx, .int 0, .int q, .int w] (dC, dI) vwCl [] pz TL (pw hx hc hh (u0, u1, ea))) "java/util/NoSuchElementException" := by
  refine xt_ofW (cc := cX0_write) (maxL := 5) (ret := (some .boolean)) (by decide) rfl ?_
  intro p e s m args below meth c s₁ B hml hv
  obtain ⟨rfl, hP, hK, hZ, hT⟩ := hv
  have hx_ := B.exec
  have hb := B.bytes
  have hts := atoms_spec (ws := wsX0_write) B.pre
  have hown : s.vm.findClass RX0 = some m.cls := findClass_of_methodNamed B.named
  have hlocks := B.notSynchronized
  have hno := B.noHandlers (hts _ List.mem_cons_self)
  have hl := lv_entry ([.ref hx, .int 0, .int q, .int w]) (n := 5) (Nat.le_of_ble_eq_true rfl)
  rw [lg_entry_eq]
  generalize (lg_sl ([.ref hx, .int 0, .int q, .int w]) ++ List.replicate (5 - (lg_sl ([.ref hx, .int 0, .int q, .int w])).length) Slot.unset).toArray = ls at hl ⊢
  have hl : lv_has ls 5 [(0, .ref hx), (1, .int 0), (2, .int q), (3, .int w)] := hl
  refine lv_aload_n hx_ hb dX0_write_0 rfl (lv_at hl 0 rfl) ?_
  refine lv_iload_n hx_ hb dX0_write_1 rfl (lv_at hl 1 rfl) ?_
  refine xr_call (st1 := [.ref hc]) (W.runV (As := [.int 0]) (rest := []) ⟨hx_, hb, hml, hown, hts⟩ (c_controllerNumbered_0 l dC dI hx hc hh u0 u1 ea) (cwV 1 hts (gd_V wa_c k_ml_X0_35 k_im_X0_controllerNumbered k_se_X0_controllerNumbered k_in_X0 k_co_X0_controllerNumbered) rfl rfl rfl (by decide +kernel) ⟨Nat.le_of_ble_eq_true rfl, Nat.le_of_ble_eq_true rfl⟩) (xr_preV (q0 := 0) (C := RX0) hK hP hZ rfl rfl) rfl rfl hl.1 rfl (lv_room (Nat.le_of_ble_eq_true rfl)) dX0_write_2 ⟨Nat.zero_le _, Nat.zero_le _⟩) rfl ?_
  refine lv_astore (lv' := [(4, .ref hc), (0, .ref hx), (1, .int 0), (2, .int q), (3, .int w)]) hx_ hb dX0_write_5 hl (by decide) rfl (fun ls hl => ?_)
  refine lv_aload_n hx_ hb dX0_write_7 rfl (lv_at hl 1 rfl) ?_
  refine lv_iload_n hx_ hb dX0_write_8 rfl (lv_at hl 3 rfl) ?_
  exact xt_leave (rest := []) (xt_runV (As := [.int q]) (rest := []) ⟨hx_, hb, hml, hown, hts⟩ (t_checkPort l htr dC dI hx hc hh u0 u1 ea q q0 q1) (cwV 1 hts (gd_V wa_c k_ml_X0_39 k_im_X0_checkPort k_se_X0_checkPort k_in_X0 k_co_X0_checkPort) rfl rfl rfl (by decide +kernel) ⟨Nat.le_of_ble_eq_true rfl, Nat.le_of_ble_eq_true rfl⟩) (xt_preV (q0 := 0) (C := RX0) hK hP hZ hT (fun _ _ => rfl) rfl rfl) rfl rfl hl.1 rfl (lv_room (Nat.le_of_ble_eq_true rfl)) dX0_write_9 ⟨Nat.le_of_ble_eq_true rfl, Nat.le_of_ble_eq_true rfl⟩) hno hlocks

set_option maxHeartbeats 4000000 in
set_option maxRecDepth 100000 in
theorem t_write_p1 (l : Launch) (htr : l.stackTraces = false) (dC : Nat → ClassId) (dI : Nat → Nat → Nat) (hx hc hh : Nat) (u0 u1 : Nat → Int32) (ea : Int32) (q w : Int32) (q0 : ¬ q = 0) (q1 : ¬ q = 1) : xt_M l yX0_write wsX0_write ({ frames := 7, cells := 1, slots := 6, locals := 120 }) (xt_P [.ref hx, .int 1, .int q, .int w] (dC, dI) vwCl [] pz TL (pw hx hc hh (u0, u1, ea))) "java/util/NoSuchElementException" := by
  refine xt_ofW (cc := cX0_write) (maxL := 5) (ret := (some .boolean)) (by decide) rfl ?_
  intro p e s m args below meth c s₁ B hml hv
  obtain ⟨rfl, hP, hK, hZ, hT⟩ := hv
  have hx_ := B.exec
  have hb := B.bytes
  have hts := atoms_spec (ws := wsX0_write) B.pre
  have hown : s.vm.findClass RX0 = some m.cls := findClass_of_methodNamed B.named
  have hlocks := B.notSynchronized
  have hno := B.noHandlers (hts _ List.mem_cons_self)
  have hl := lv_entry ([.ref hx, .int 1, .int q, .int w]) (n := 5) (Nat.le_of_ble_eq_true rfl)
  rw [lg_entry_eq]
  generalize (lg_sl ([.ref hx, .int 1, .int q, .int w]) ++ List.replicate (5 - (lg_sl ([.ref hx, .int 1, .int q, .int w])).length) Slot.unset).toArray = ls at hl ⊢
  have hl : lv_has ls 5 [(0, .ref hx), (1, .int 1), (2, .int q), (3, .int w)] := hl
  refine lv_aload_n hx_ hb dX0_write_0 rfl (lv_at hl 0 rfl) ?_
  refine lv_iload_n hx_ hb dX0_write_1 rfl (lv_at hl 1 rfl) ?_
  refine xr_call (st1 := [.ref hh]) (W.runV (As := [.int 1]) (rest := []) ⟨hx_, hb, hml, hown, hts⟩ (c_controllerNumbered_1 l dC dI hx hc hh u0 u1 ea) (cwV 1 hts (gd_V wa_c k_ml_X0_35 k_im_X0_controllerNumbered k_se_X0_controllerNumbered k_in_X0 k_co_X0_controllerNumbered) rfl rfl rfl (by decide +kernel) ⟨Nat.le_of_ble_eq_true rfl, Nat.le_of_ble_eq_true rfl⟩) (xr_preV (q0 := 0) (C := RX0) hK hP hZ rfl rfl) rfl rfl hl.1 rfl (lv_room (Nat.le_of_ble_eq_true rfl)) dX0_write_2 ⟨Nat.zero_le _, Nat.zero_le _⟩) rfl ?_
  refine lv_astore (lv' := [(4, .ref hh), (0, .ref hx), (1, .int 1), (2, .int q), (3, .int w)]) hx_ hb dX0_write_5 hl (by decide) rfl (fun ls hl => ?_)
  refine lv_aload_n hx_ hb dX0_write_7 rfl (lv_at hl 1 rfl) ?_
  refine lv_iload_n hx_ hb dX0_write_8 rfl (lv_at hl 3 rfl) ?_
  exact xt_leave (rest := []) (xt_runV (As := [.int q]) (rest := []) ⟨hx_, hb, hml, hown, hts⟩ (t_checkPort l htr dC dI hx hc hh u0 u1 ea q q0 q1) (cwV 1 hts (gd_V wa_c k_ml_X0_39 k_im_X0_checkPort k_se_X0_checkPort k_in_X0 k_co_X0_checkPort) rfl rfl rfl (by decide +kernel) ⟨Nat.le_of_ble_eq_true rfl, Nat.le_of_ble_eq_true rfl⟩) (xt_preV (q0 := 0) (C := RX0) hK hP hZ hT (fun _ _ => rfl) rfl rfl) rfl rfl hl.1 rfl (lv_room (Nat.le_of_ble_eq_true rfl)) dX0_write_9 ⟨Nat.le_of_ble_eq_true rfl, Nat.le_of_ble_eq_true rfl⟩) hno hlocks

set_option maxHeartbeats 4000000 in
set_option maxRecDepth 100000 in
theorem t_write_w00 (l : Launch) (htr : l.stackTraces = false) (dC : Nat → ClassId) (dI : Nat → Nat → Nat) (hx hc hh : Nat) (u0 u1 : Nat → Int32) (ea : Int32) (w : Int32) (hbad : w < 0 ∨ ¬ w ≤ 255) : xt_M l yX0_write wsX0_write ({ frames := 7, cells := 1, slots := 6, locals := 120 }) (xt_P [.ref hx, .int 0, .int 0, .int w] (dC, dI) vwCl [] pz TL (pw hx hc hh (u0, u1, ea))) "java/lang/IllegalArgumentException" := by
  refine xt_ofW (cc := cX0_write) (maxL := 5) (ret := (some .boolean)) (by decide) rfl ?_
  intro p e s m args below meth c s₁ B hml hv
  obtain ⟨rfl, hP, hK, hZ, hT⟩ := hv
  have hx_ := B.exec
  have hb := B.bytes
  have hts := atoms_spec (ws := wsX0_write) B.pre
  have hown : s.vm.findClass RX0 = some m.cls := findClass_of_methodNamed B.named
  have hlocks := B.notSynchronized
  have hno := B.noHandlers (hts _ List.mem_cons_self)
  have hl := lv_entry ([.ref hx, .int 0, .int 0, .int w]) (n := 5) (Nat.le_of_ble_eq_true rfl)
  rw [lg_entry_eq]
  generalize (lg_sl ([.ref hx, .int 0, .int 0, .int w]) ++ List.replicate (5 - (lg_sl ([.ref hx, .int 0, .int 0, .int w])).length) Slot.unset).toArray = ls at hl ⊢
  have hl : lv_has ls 5 [(0, .ref hx), (1, .int 0), (2, .int 0), (3, .int w)] := hl
  refine lv_aload_n hx_ hb dX0_write_0 rfl (lv_at hl 0 rfl) ?_
  refine lv_iload_n hx_ hb dX0_write_1 rfl (lv_at hl 1 rfl) ?_
  refine xr_call (st1 := [.ref hc]) (W.runV (As := [.int 0]) (rest := []) ⟨hx_, hb, hml, hown, hts⟩ (c_controllerNumbered_0 l dC dI hx hc hh u0 u1 ea) (cwV 1 hts (gd_V wa_c k_ml_X0_35 k_im_X0_controllerNumbered k_se_X0_controllerNumbered k_in_X0 k_co_X0_controllerNumbered) rfl rfl rfl (by decide +kernel) ⟨Nat.le_of_ble_eq_true rfl, Nat.le_of_ble_eq_true rfl⟩) (xr_preV (q0 := 0) (C := RX0) hK hP hZ rfl rfl) rfl rfl hl.1 rfl (lv_room (Nat.le_of_ble_eq_true rfl)) dX0_write_2 ⟨Nat.zero_le _, Nat.zero_le _⟩) rfl ?_
  refine lv_astore (lv' := [(4, .ref hc), (0, .ref hx), (1, .int 0), (2, .int 0), (3, .int w)]) hx_ hb dX0_write_5 hl (by decide) rfl (fun ls hl => ?_)
  refine lv_aload_n hx_ hb dX0_write_7 rfl (lv_at hl 1 rfl) ?_
  refine lv_iload_n hx_ hb dX0_write_8 rfl (lv_at hl 3 rfl) ?_
  refine xr_call (st1 := []) (W.runV (As := [.int 0]) (rest := []) ⟨hx_, hb, hml, hown, hts⟩ (c_checkPort_0 l dC dI hx hc hh u0 u1 ea) (cwV 1 hts (gd_V wa_c k_ml_X0_39 k_im_X0_checkPort k_se_X0_checkPort k_in_X0 k_co_X0_checkPort) rfl rfl rfl (by decide +kernel) ⟨Nat.le_of_ble_eq_true rfl, Nat.le_of_ble_eq_true rfl⟩) (xr_preV (q0 := 0) (C := RX0) hK hP hZ rfl rfl) rfl rfl hl.1 rfl (lv_room (Nat.le_of_ble_eq_true rfl)) dX0_write_9 ⟨Nat.zero_le _, Nat.zero_le _⟩) rfl ?_
  refine lv_iload_n hx_ hb dX0_write_12 rfl (lv_at hl 4 rfl) ?_
  refine lv_if_lt (tgt := 23) hx_ hb dX0_write_13 (by decide) (fun h1 => ?_) (fun h1 => ?_)
  · exact xt_new (E := "java/lang/IllegalArgumentException") (names := ["java/lang/RuntimeException", "java/lang/Exception"]) (ix := 42) (ic := 44) hx_ hb htr hown (by decide +kernel) (by decide +kernel) (hts _ (List.mem_cons_of_mem _ k_cl_X0_42)) (hts _ (List.mem_cons_of_mem _ k_in_IllegalArgumentException)) (fun a ha => hT.use (List.mem_append_right _ ha)) hno hlocks (hl.1.trans hml.symm) (Nat.le_of_ble_eq_true rfl) (Nat.le_of_ble_eq_true rfl) (Nat.le_of_ble_eq_true rfl) (Nat.le_of_ble_eq_true rfl) dX0_write_23 dX0_write_26 dX0_write_27 dX0_write_30
  · refine lv_iload_n hx_ hb dX0_write_16 rfl (lv_at hl 4 rfl) ?_
    refine lv_sipush (v := 255) hx_ hb dX0_write_17 (by decide) ?_
    refine lv_icmp_le (tgt := 31) hx_ hb dX0_write_20 (by decide) (fun h2 => ?_) (fun h2 => ?_)
    · rcases hbad with z | z <;> contradiction
    · exact xt_new (E := "java/lang/IllegalArgumentException") (names := ["java/lang/RuntimeException", "java/lang/Exception"]) (ix := 42) (ic := 44) hx_ hb htr hown (by decide +kernel) (by decide +kernel) (hts _ (List.mem_cons_of_mem _ k_cl_X0_42)) (hts _ (List.mem_cons_of_mem _ k_in_IllegalArgumentException)) (fun a ha => hT.use (List.mem_append_right _ ha)) hno hlocks (hl.1.trans hml.symm) (Nat.le_of_ble_eq_true rfl) (Nat.le_of_ble_eq_true rfl) (Nat.le_of_ble_eq_true rfl) (Nat.le_of_ble_eq_true rfl) dX0_write_23 dX0_write_26 dX0_write_27 dX0_write_30

set_option maxHeartbeats 4000000 in
set_option maxRecDepth 100000 in
theorem t_write_w01 (l : Launch) (htr : l.stackTraces = false) (dC : Nat → ClassId) (dI : Nat → Nat → Nat) (hx hc hh : Nat) (u0 u1 : Nat → Int32) (ea : Int32) (w : Int32) (hbad : w < 0 ∨ ¬ w ≤ 255) : xt_M l yX0_write wsX0_write ({ frames := 7, cells := 1, slots := 6, locals := 120 }) (xt_P [.ref hx, .int 0, .int 1, .int w] (dC, dI) vwCl [] pz TL (pw hx hc hh (u0, u1, ea))) "java/lang/IllegalArgumentException" := by
  refine xt_ofW (cc := cX0_write) (maxL := 5) (ret := (some .boolean)) (by decide) rfl ?_
  intro p e s m args below meth c s₁ B hml hv
  obtain ⟨rfl, hP, hK, hZ, hT⟩ := hv
  have hx_ := B.exec
  have hb := B.bytes
  have hts := atoms_spec (ws := wsX0_write) B.pre
  have hown : s.vm.findClass RX0 = some m.cls := findClass_of_methodNamed B.named
  have hlocks := B.notSynchronized
  have hno := B.noHandlers (hts _ List.mem_cons_self)
  have hl := lv_entry ([.ref hx, .int 0, .int 1, .int w]) (n := 5) (Nat.le_of_ble_eq_true rfl)
  rw [lg_entry_eq]
  generalize (lg_sl ([.ref hx, .int 0, .int 1, .int w]) ++ List.replicate (5 - (lg_sl ([.ref hx, .int 0, .int 1, .int w])).length) Slot.unset).toArray = ls at hl ⊢
  have hl : lv_has ls 5 [(0, .ref hx), (1, .int 0), (2, .int 1), (3, .int w)] := hl
  refine lv_aload_n hx_ hb dX0_write_0 rfl (lv_at hl 0 rfl) ?_
  refine lv_iload_n hx_ hb dX0_write_1 rfl (lv_at hl 1 rfl) ?_
  refine xr_call (st1 := [.ref hc]) (W.runV (As := [.int 0]) (rest := []) ⟨hx_, hb, hml, hown, hts⟩ (c_controllerNumbered_0 l dC dI hx hc hh u0 u1 ea) (cwV 1 hts (gd_V wa_c k_ml_X0_35 k_im_X0_controllerNumbered k_se_X0_controllerNumbered k_in_X0 k_co_X0_controllerNumbered) rfl rfl rfl (by decide +kernel) ⟨Nat.le_of_ble_eq_true rfl, Nat.le_of_ble_eq_true rfl⟩) (xr_preV (q0 := 0) (C := RX0) hK hP hZ rfl rfl) rfl rfl hl.1 rfl (lv_room (Nat.le_of_ble_eq_true rfl)) dX0_write_2 ⟨Nat.zero_le _, Nat.zero_le _⟩) rfl ?_
  refine lv_astore (lv' := [(4, .ref hc), (0, .ref hx), (1, .int 0), (2, .int 1), (3, .int w)]) hx_ hb dX0_write_5 hl (by decide) rfl (fun ls hl => ?_)
  refine lv_aload_n hx_ hb dX0_write_7 rfl (lv_at hl 1 rfl) ?_
  refine lv_iload_n hx_ hb dX0_write_8 rfl (lv_at hl 3 rfl) ?_
  refine xr_call (st1 := []) (W.runV (As := [.int 1]) (rest := []) ⟨hx_, hb, hml, hown, hts⟩ (c_checkPort_1 l dC dI hx hc hh u0 u1 ea) (cwV 1 hts (gd_V wa_c k_ml_X0_39 k_im_X0_checkPort k_se_X0_checkPort k_in_X0 k_co_X0_checkPort) rfl rfl rfl (by decide +kernel) ⟨Nat.le_of_ble_eq_true rfl, Nat.le_of_ble_eq_true rfl⟩) (xr_preV (q0 := 0) (C := RX0) hK hP hZ rfl rfl) rfl rfl hl.1 rfl (lv_room (Nat.le_of_ble_eq_true rfl)) dX0_write_9 ⟨Nat.zero_le _, Nat.zero_le _⟩) rfl ?_
  refine lv_iload_n hx_ hb dX0_write_12 rfl (lv_at hl 4 rfl) ?_
  refine lv_if_lt (tgt := 23) hx_ hb dX0_write_13 (by decide) (fun h1 => ?_) (fun h1 => ?_)
  · exact xt_new (E := "java/lang/IllegalArgumentException") (names := ["java/lang/RuntimeException", "java/lang/Exception"]) (ix := 42) (ic := 44) hx_ hb htr hown (by decide +kernel) (by decide +kernel) (hts _ (List.mem_cons_of_mem _ k_cl_X0_42)) (hts _ (List.mem_cons_of_mem _ k_in_IllegalArgumentException)) (fun a ha => hT.use (List.mem_append_right _ ha)) hno hlocks (hl.1.trans hml.symm) (Nat.le_of_ble_eq_true rfl) (Nat.le_of_ble_eq_true rfl) (Nat.le_of_ble_eq_true rfl) (Nat.le_of_ble_eq_true rfl) dX0_write_23 dX0_write_26 dX0_write_27 dX0_write_30
  · refine lv_iload_n hx_ hb dX0_write_16 rfl (lv_at hl 4 rfl) ?_
    refine lv_sipush (v := 255) hx_ hb dX0_write_17 (by decide) ?_
    refine lv_icmp_le (tgt := 31) hx_ hb dX0_write_20 (by decide) (fun h2 => ?_) (fun h2 => ?_)
    · rcases hbad with z | z <;> contradiction
    · exact xt_new (E := "java/lang/IllegalArgumentException") (names := ["java/lang/RuntimeException", "java/lang/Exception"]) (ix := 42) (ic := 44) hx_ hb htr hown (by decide +kernel) (by decide +kernel) (hts _ (List.mem_cons_of_mem _ k_cl_X0_42)) (hts _ (List.mem_cons_of_mem _ k_in_IllegalArgumentException)) (fun a ha => hT.use (List.mem_append_right _ ha)) hno hlocks (hl.1.trans hml.symm) (Nat.le_of_ble_eq_true rfl) (Nat.le_of_ble_eq_true rfl) (Nat.le_of_ble_eq_true rfl) (Nat.le_of_ble_eq_true rfl) dX0_write_23 dX0_write_26 dX0_write_27 dX0_write_30

set_option maxHeartbeats 4000000 in
set_option maxRecDepth 100000 in
theorem t_write_w10 (l : Launch) (htr : l.stackTraces = false) (dC : Nat → ClassId) (dI : Nat → Nat → Nat) (hx hc hh : Nat) (u0 u1 : Nat → Int32) (ea : Int32) (w : Int32) (hbad : w < 0 ∨ ¬ w ≤ 255) : xt_M l yX0_write wsX0_write ({ frames := 7, cells := 1, slots := 6, locals := 120 }) (xt_P [.ref hx, .int 1, .int 0, .int w] (dC, dI) vwCl [] pz TL (pw hx hc hh (u0, u1, ea))) "java/lang/IllegalArgumentException" := by
  refine xt_ofW (cc := cX0_write) (maxL := 5) (ret := (some .boolean)) (by decide) rfl ?_
  intro p e s m args below meth c s₁ B hml hv
  obtain ⟨rfl, hP, hK, hZ, hT⟩ := hv
  have hx_ := B.exec
  have hb := B.bytes
  have hts := atoms_spec (ws := wsX0_write) B.pre
  have hown : s.vm.findClass RX0 = some m.cls := findClass_of_methodNamed B.named
  have hlocks := B.notSynchronized
  have hno := B.noHandlers (hts _ List.mem_cons_self)
  have hl := lv_entry ([.ref hx, .int 1, .int 0, .int w]) (n := 5) (Nat.le_of_ble_eq_true rfl)
  rw [lg_entry_eq]
  generalize (lg_sl ([.ref hx, .int 1, .int 0, .int w]) ++ List.replicate (5 - (lg_sl ([.ref hx, .int 1, .int 0, .int w])).length) Slot.unset).toArray = ls at hl ⊢
  have hl : lv_has ls 5 [(0, .ref hx), (1, .int 1), (2, .int 0), (3, .int w)] := hl
  refine lv_aload_n hx_ hb dX0_write_0 rfl (lv_at hl 0 rfl) ?_
  refine lv_iload_n hx_ hb dX0_write_1 rfl (lv_at hl 1 rfl) ?_
  refine xr_call (st1 := [.ref hh]) (W.runV (As := [.int 1]) (rest := []) ⟨hx_, hb, hml, hown, hts⟩ (c_controllerNumbered_1 l dC dI hx hc hh u0 u1 ea) (cwV 1 hts (gd_V wa_c k_ml_X0_35 k_im_X0_controllerNumbered k_se_X0_controllerNumbered k_in_X0 k_co_X0_controllerNumbered) rfl rfl rfl (by decide +kernel) ⟨Nat.le_of_ble_eq_true rfl, Nat.le_of_ble_eq_true rfl⟩) (xr_preV (q0 := 0) (C := RX0) hK hP hZ rfl rfl) rfl rfl hl.1 rfl (lv_room (Nat.le_of_ble_eq_true rfl)) dX0_write_2 ⟨Nat.zero_le _, Nat.zero_le _⟩) rfl ?_
  refine lv_astore (lv' := [(4, .ref hh), (0, .ref hx), (1, .int 1), (2, .int 0), (3, .int w)]) hx_ hb dX0_write_5 hl (by decide) rfl (fun ls hl => ?_)
  refine lv_aload_n hx_ hb dX0_write_7 rfl (lv_at hl 1 rfl) ?_
  refine lv_iload_n hx_ hb dX0_write_8 rfl (lv_at hl 3 rfl) ?_
  refine xr_call (st1 := []) (W.runV (As := [.int 0]) (rest := []) ⟨hx_, hb, hml, hown, hts⟩ (c_checkPort_0 l dC dI hx hc hh u0 u1 ea) (cwV 1 hts (gd_V wa_c k_ml_X0_39 k_im_X0_checkPort k_se_X0_checkPort k_in_X0 k_co_X0_checkPort) rfl rfl rfl (by decide +kernel) ⟨Nat.le_of_ble_eq_true rfl, Nat.le_of_ble_eq_true rfl⟩) (xr_preV (q0 := 0) (C := RX0) hK hP hZ rfl rfl) rfl rfl hl.1 rfl (lv_room (Nat.le_of_ble_eq_true rfl)) dX0_write_9 ⟨Nat.zero_le _, Nat.zero_le _⟩) rfl ?_
  refine lv_iload_n hx_ hb dX0_write_12 rfl (lv_at hl 4 rfl) ?_
  refine lv_if_lt (tgt := 23) hx_ hb dX0_write_13 (by decide) (fun h1 => ?_) (fun h1 => ?_)
  · exact xt_new (E := "java/lang/IllegalArgumentException") (names := ["java/lang/RuntimeException", "java/lang/Exception"]) (ix := 42) (ic := 44) hx_ hb htr hown (by decide +kernel) (by decide +kernel) (hts _ (List.mem_cons_of_mem _ k_cl_X0_42)) (hts _ (List.mem_cons_of_mem _ k_in_IllegalArgumentException)) (fun a ha => hT.use (List.mem_append_right _ ha)) hno hlocks (hl.1.trans hml.symm) (Nat.le_of_ble_eq_true rfl) (Nat.le_of_ble_eq_true rfl) (Nat.le_of_ble_eq_true rfl) (Nat.le_of_ble_eq_true rfl) dX0_write_23 dX0_write_26 dX0_write_27 dX0_write_30
  · refine lv_iload_n hx_ hb dX0_write_16 rfl (lv_at hl 4 rfl) ?_
    refine lv_sipush (v := 255) hx_ hb dX0_write_17 (by decide) ?_
    refine lv_icmp_le (tgt := 31) hx_ hb dX0_write_20 (by decide) (fun h2 => ?_) (fun h2 => ?_)
    · rcases hbad with z | z <;> contradiction
    · exact xt_new (E := "java/lang/IllegalArgumentException") (names := ["java/lang/RuntimeException", "java/lang/Exception"]) (ix := 42) (ic := 44) hx_ hb htr hown (by decide +kernel) (by decide +kernel) (hts _ (List.mem_cons_of_mem _ k_cl_X0_42)) (hts _ (List.mem_cons_of_mem _ k_in_IllegalArgumentException)) (fun a ha => hT.use (List.mem_append_right _ ha)) hno hlocks (hl.1.trans hml.symm) (Nat.le_of_ble_eq_true rfl) (Nat.le_of_ble_eq_true rfl) (Nat.le_of_ble_eq_true rfl) (Nat.le_of_ble_eq_true rfl) dX0_write_23 dX0_write_26 dX0_write_27 dX0_write_30

set_option maxHeartbeats 4000000 in
set_option maxRecDepth 100000 in
theorem t_write_w11 (l : Launch) (htr : l.stackTraces = false) (dC : Nat → ClassId) (dI : Nat → Nat → Nat) (hx hc hh : Nat) (u0 u1 : Nat → Int32) (ea : Int32) (w : Int32) (hbad : w < 0 ∨ ¬ w ≤ 255) : xt_M l yX0_write wsX0_write ({ frames := 7, cells := 1, slots := 6, locals := 120 }) (xt_P [.ref hx, .int 1, .int 1, .int w] (dC, dI) vwCl [] pz TL (pw hx hc hh (u0, u1, ea))) "java/lang/IllegalArgumentException" := by
  refine xt_ofW (cc := cX0_write) (maxL := 5) (ret := (some .boolean)) (by decide) rfl ?_
  intro p e s m args below meth c s₁ B hml hv
  obtain ⟨rfl, hP, hK, hZ, hT⟩ := hv
  have hx_ := B.exec
  have hb := B.bytes
  have hts := atoms_spec (ws := wsX0_write) B.pre
  have hown : s.vm.findClass RX0 = some m.cls := findClass_of_methodNamed B.named
  have hlocks := B.notSynchronized
  have hno := B.noHandlers (hts _ List.mem_cons_self)
  have hl := lv_entry ([.ref hx, .int 1, .int 1, .int w]) (n := 5) (Nat.le_of_ble_eq_true rfl)
  rw [lg_entry_eq]
  generalize (lg_sl ([.ref hx, .int 1, .int 1, .int w]) ++ List.replicate (5 - (lg_sl ([.ref hx, .int 1, .int 1, .int w])).length) Slot.unset).toArray = ls at hl ⊢
  have hl : lv_has ls 5 [(0, .ref hx), (1, .int 1), (2, .int 1), (3, .int w)] := hl
  refine lv_aload_n hx_ hb dX0_write_0 rfl (lv_at hl 0 rfl) ?_
  refine lv_iload_n hx_ hb dX0_write_1 rfl (lv_at hl 1 rfl) ?_
  refine xr_call (st1 := [.ref hh]) (W.runV (As := [.int 1]) (rest := []) ⟨hx_, hb, hml, hown, hts⟩ (c_controllerNumbered_1 l dC dI hx hc hh u0 u1 ea) (cwV 1 hts (gd_V wa_c k_ml_X0_35 k_im_X0_controllerNumbered k_se_X0_controllerNumbered k_in_X0 k_co_X0_controllerNumbered) rfl rfl rfl (by decide +kernel) ⟨Nat.le_of_ble_eq_true rfl, Nat.le_of_ble_eq_true rfl⟩) (xr_preV (q0 := 0) (C := RX0) hK hP hZ rfl rfl) rfl rfl hl.1 rfl (lv_room (Nat.le_of_ble_eq_true rfl)) dX0_write_2 ⟨Nat.zero_le _, Nat.zero_le _⟩) rfl ?_
  refine lv_astore (lv' := [(4, .ref hh), (0, .ref hx), (1, .int 1), (2, .int 1), (3, .int w)]) hx_ hb dX0_write_5 hl (by decide) rfl (fun ls hl => ?_)
  refine lv_aload_n hx_ hb dX0_write_7 rfl (lv_at hl 1 rfl) ?_
  refine lv_iload_n hx_ hb dX0_write_8 rfl (lv_at hl 3 rfl) ?_
  refine xr_call (st1 := []) (W.runV (As := [.int 1]) (rest := []) ⟨hx_, hb, hml, hown, hts⟩ (c_checkPort_1 l dC dI hx hc hh u0 u1 ea) (cwV 1 hts (gd_V wa_c k_ml_X0_39 k_im_X0_checkPort k_se_X0_checkPort k_in_X0 k_co_X0_checkPort) rfl rfl rfl (by decide +kernel) ⟨Nat.le_of_ble_eq_true rfl, Nat.le_of_ble_eq_true rfl⟩) (xr_preV (q0 := 0) (C := RX0) hK hP hZ rfl rfl) rfl rfl hl.1 rfl (lv_room (Nat.le_of_ble_eq_true rfl)) dX0_write_9 ⟨Nat.zero_le _, Nat.zero_le _⟩) rfl ?_
  refine lv_iload_n hx_ hb dX0_write_12 rfl (lv_at hl 4 rfl) ?_
  refine lv_if_lt (tgt := 23) hx_ hb dX0_write_13 (by decide) (fun h1 => ?_) (fun h1 => ?_)
  · exact xt_new (E := "java/lang/IllegalArgumentException") (names := ["java/lang/RuntimeException", "java/lang/Exception"]) (ix := 42) (ic := 44) hx_ hb htr hown (by decide +kernel) (by decide +kernel) (hts _ (List.mem_cons_of_mem _ k_cl_X0_42)) (hts _ (List.mem_cons_of_mem _ k_in_IllegalArgumentException)) (fun a ha => hT.use (List.mem_append_right _ ha)) hno hlocks (hl.1.trans hml.symm) (Nat.le_of_ble_eq_true rfl) (Nat.le_of_ble_eq_true rfl) (Nat.le_of_ble_eq_true rfl) (Nat.le_of_ble_eq_true rfl) dX0_write_23 dX0_write_26 dX0_write_27 dX0_write_30
  · refine lv_iload_n hx_ hb dX0_write_16 rfl (lv_at hl 4 rfl) ?_
    refine lv_sipush (v := 255) hx_ hb dX0_write_17 (by decide) ?_
    refine lv_icmp_le (tgt := 31) hx_ hb dX0_write_20 (by decide) (fun h2 => ?_) (fun h2 => ?_)
    · rcases hbad with z | z <;> contradiction
    · exact xt_new (E := "java/lang/IllegalArgumentException") (names := ["java/lang/RuntimeException", "java/lang/Exception"]) (ix := 42) (ic := 44) hx_ hb htr hown (by decide +kernel) (by decide +kernel) (hts _ (List.mem_cons_of_mem _ k_cl_X0_42)) (hts _ (List.mem_cons_of_mem _ k_in_IllegalArgumentException)) (fun a ha => hT.use (List.mem_append_right _ ha)) hno hlocks (hl.1.trans hml.symm) (Nat.le_of_ble_eq_true rfl) (Nat.le_of_ble_eq_true rfl) (Nat.le_of_ble_eq_true rfl) (Nat.le_of_ble_eq_true rfl) dX0_write_23 dX0_write_26 dX0_write_27 dX0_write_30

set_option maxHeartbeats 4000000 in
set_option maxRecDepth 100000 in
theorem t_read_c (l : Launch) (htr : l.stackTraces = false) (dC : Nat → ClassId) (dI : Nat → Nat → Nat) (hx hc hh : Nat) (u0 u1 : Nat → Int32) (ea : Int32) (x y : Int32) (h0 : ¬ x = 0) (h1 : ¬ x = 1) : xt_M l yX0_read wsX0_read ({ frames := 7, cells := 1, slots := 6, locals := 120 }) (xt_P [.ref hx, .int x, .int y] (dC, dI) vwCl [] pz TL (pw hx hc hh (u0, u1, ea))) "java/util/NoSuchElementException" := by
  refine xt_ofW (cc := cX0_read) (maxL := 5) (ret := (some .int)) (by decide) rfl ?_
  intro p e s m args below meth c s₁ B hml hv
  obtain ⟨rfl, hP, hK, hZ, hT⟩ := hv
  have hx_ := B.exec
  have hb := B.bytes
  have hts := atoms_spec (ws := wsX0_read) B.pre
  have hown : s.vm.findClass RX0 = some m.cls := findClass_of_methodNamed B.named
  have hlocks := B.notSynchronized
  have hno := B.noHandlers (hts _ List.mem_cons_self)
  have hl := lv_entry ([.ref hx, .int x, .int y]) (n := 5) (Nat.le_of_ble_eq_true rfl)
  rw [lg_entry_eq]
  generalize (lg_sl ([.ref hx, .int x, .int y]) ++ List.replicate (5 - (lg_sl ([.ref hx, .int x, .int y])).length) Slot.unset).toArray = ls at hl ⊢
  have hl : lv_has ls 5 [(0, .ref hx), (1, .int x), (2, .int y)] := hl
  refine lv_aload_n hx_ hb dX0_read_0 rfl (lv_at hl 0 rfl) ?_
  refine lv_iload_n hx_ hb dX0_read_1 rfl (lv_at hl 1 rfl) ?_
  exact xt_leave (rest := []) (xt_runV (As := [.int x]) (rest := []) ⟨hx_, hb, hml, hown, hts⟩ (t_controllerNumbered l htr dC dI hx hc hh u0 u1 ea x h0 h1) (cwV 1 hts (gd_V wa_c k_ml_X0_35 k_im_X0_controllerNumbered k_se_X0_controllerNumbered k_in_X0 k_co_X0_controllerNumbered) rfl rfl rfl (by decide +kernel) ⟨Nat.le_of_ble_eq_true rfl, Nat.le_of_ble_eq_true rfl⟩) (xt_preV (q0 := 0) (C := RX0) hK hP hZ hT (fun _ _ => rfl) rfl rfl) rfl rfl hl.1 rfl (lv_room (Nat.le_of_ble_eq_true rfl)) dX0_read_2 ⟨Nat.le_of_ble_eq_true rfl, Nat.le_of_ble_eq_true rfl⟩) hno hlocks

set_option maxHeartbeats 4000000 in
set_option maxRecDepth 100000 in
theorem t_read_p0 (l : Launch) (htr : l.stackTraces = false) (dC : Nat → ClassId) (dI : Nat → Nat → Nat) (hx hc hh : Nat) (u0 u1 : Nat → Int32) (ea : Int32) (q : Int32) (q0 : ¬ q = 0) (q1 : ¬ q = 1) : xt_M l yX0_read wsX0_read ({ frames := 7, cells := 1, slots := 6, locals := 120 }) (xt_P [.ref hx, .int 0, .int q] (dC, dI) vwCl [] pz TL (pw hx hc hh (u0, u1, ea))) "java/util/NoSuchElementException" := by
  refine xt_ofW (cc := cX0_read) (maxL := 5) (ret := (some .int)) (by decide) rfl ?_
  intro p e s m args below meth c s₁ B hml hv
  obtain ⟨rfl, hP, hK, hZ, hT⟩ := hv
  have hx_ := B.exec
  have hb := B.bytes
  have hts := atoms_spec (ws := wsX0_read) B.pre
  have hown : s.vm.findClass RX0 = some m.cls := findClass_of_methodNamed B.named
  have hlocks := B.notSynchronized
  have hno := B.noHandlers (hts _ List.mem_cons_self)
  have hl := lv_entry ([.ref hx, .int 0, .int q]) (n := 5) (Nat.le_of_ble_eq_true rfl)
  rw [lg_entry_eq]
  generalize (lg_sl ([.ref hx, .int 0, .int q]) ++ List.replicate (5 - (lg_sl ([.ref hx, .int 0, .int q])).length) Slot.unset).toArray = ls at hl ⊢
  have hl : lv_has ls 5 [(0, .ref hx), (1, .int 0), (2, .int q)] := hl
  refine lv_aload_n hx_ hb dX0_read_0 rfl (lv_at hl 0 rfl) ?_
  refine lv_iload_n hx_ hb dX0_read_1 rfl (lv_at hl 1 rfl) ?_
  refine xr_call (st1 := [.ref hc]) (W.runV (As := [.int 0]) (rest := []) ⟨hx_, hb, hml, hown, hts⟩ (c_controllerNumbered_0 l dC dI hx hc hh u0 u1 ea) (cwV 1 hts (gd_V wa_c k_ml_X0_35 k_im_X0_controllerNumbered k_se_X0_controllerNumbered k_in_X0 k_co_X0_controllerNumbered) rfl rfl rfl (by decide +kernel) ⟨Nat.le_of_ble_eq_true rfl, Nat.le_of_ble_eq_true rfl⟩) (xr_preV (q0 := 0) (C := RX0) hK hP hZ rfl rfl) rfl rfl hl.1 rfl (lv_room (Nat.le_of_ble_eq_true rfl)) dX0_read_2 ⟨Nat.zero_le _, Nat.zero_le _⟩) rfl ?_
  refine lv_astore_n (lv' := [(3, .ref hc), (0, .ref hx), (1, .int 0), (2, .int q)]) hx_ hb dX0_read_5 rfl hl (by decide) rfl (fun ls hl => ?_)
  refine lv_aload_n hx_ hb dX0_read_6 rfl (lv_at hl 1 rfl) ?_
  refine lv_iload_n hx_ hb dX0_read_7 rfl (lv_at hl 3 rfl) ?_
  exact xt_leave (rest := []) (xt_runV (As := [.int q]) (rest := []) ⟨hx_, hb, hml, hown, hts⟩ (t_checkPort l htr dC dI hx hc hh u0 u1 ea q q0 q1) (cwV 1 hts (gd_V wa_c k_ml_X0_39 k_im_X0_checkPort k_se_X0_checkPort k_in_X0 k_co_X0_checkPort) rfl rfl rfl (by decide +kernel) ⟨Nat.le_of_ble_eq_true rfl, Nat.le_of_ble_eq_true rfl⟩) (xt_preV (q0 := 0) (C := RX0) hK hP hZ hT (fun _ _ => rfl) rfl rfl) rfl rfl hl.1 rfl (lv_room (Nat.le_of_ble_eq_true rfl)) dX0_read_8 ⟨Nat.le_of_ble_eq_true rfl, Nat.le_of_ble_eq_true rfl⟩) hno hlocks

set_option maxHeartbeats 4000000 in
set_option maxRecDepth 100000 in
theorem t_read_p1 (l : Launch) (htr : l.stackTraces = false) (dC : Nat → ClassId) (dI : Nat → Nat → Nat) (hx hc hh : Nat) (u0 u1 : Nat → Int32) (ea : Int32) (q : Int32) (q0 : ¬ q = 0) (q1 : ¬ q = 1) : xt_M l yX0_read wsX0_read ({ frames := 7, cells := 1, slots := 6, locals := 120 }) (xt_P [.ref hx, .int 1, .int q] (dC, dI) vwCl [] pz TL (pw hx hc hh (u0, u1, ea))) "java/util/NoSuchElementException" := by
  refine xt_ofW (cc := cX0_read) (maxL := 5) (ret := (some .int)) (by decide) rfl ?_
  intro p e s m args below meth c s₁ B hml hv
  obtain ⟨rfl, hP, hK, hZ, hT⟩ := hv
  have hx_ := B.exec
  have hb := B.bytes
  have hts := atoms_spec (ws := wsX0_read) B.pre
  have hown : s.vm.findClass RX0 = some m.cls := findClass_of_methodNamed B.named
  have hlocks := B.notSynchronized
  have hno := B.noHandlers (hts _ List.mem_cons_self)
  have hl := lv_entry ([.ref hx, .int 1, .int q]) (n := 5) (Nat.le_of_ble_eq_true rfl)
  rw [lg_entry_eq]
  generalize (lg_sl ([.ref hx, .int 1, .int q]) ++ List.replicate (5 - (lg_sl ([.ref hx, .int 1, .int q])).length) Slot.unset).toArray = ls at hl ⊢
  have hl : lv_has ls 5 [(0, .ref hx), (1, .int 1), (2, .int q)] := hl
  refine lv_aload_n hx_ hb dX0_read_0 rfl (lv_at hl 0 rfl) ?_
  refine lv_iload_n hx_ hb dX0_read_1 rfl (lv_at hl 1 rfl) ?_
  refine xr_call (st1 := [.ref hh]) (W.runV (As := [.int 1]) (rest := []) ⟨hx_, hb, hml, hown, hts⟩ (c_controllerNumbered_1 l dC dI hx hc hh u0 u1 ea) (cwV 1 hts (gd_V wa_c k_ml_X0_35 k_im_X0_controllerNumbered k_se_X0_controllerNumbered k_in_X0 k_co_X0_controllerNumbered) rfl rfl rfl (by decide +kernel) ⟨Nat.le_of_ble_eq_true rfl, Nat.le_of_ble_eq_true rfl⟩) (xr_preV (q0 := 0) (C := RX0) hK hP hZ rfl rfl) rfl rfl hl.1 rfl (lv_room (Nat.le_of_ble_eq_true rfl)) dX0_read_2 ⟨Nat.zero_le _, Nat.zero_le _⟩) rfl ?_
  refine lv_astore_n (lv' := [(3, .ref hh), (0, .ref hx), (1, .int 1), (2, .int q)]) hx_ hb dX0_read_5 rfl hl (by decide) rfl (fun ls hl => ?_)
  refine lv_aload_n hx_ hb dX0_read_6 rfl (lv_at hl 1 rfl) ?_
  refine lv_iload_n hx_ hb dX0_read_7 rfl (lv_at hl 3 rfl) ?_
  exact xt_leave (rest := []) (xt_runV (As := [.int q]) (rest := []) ⟨hx_, hb, hml, hown, hts⟩ (t_checkPort l htr dC dI hx hc hh u0 u1 ea q q0 q1) (cwV 1 hts (gd_V wa_c k_ml_X0_39 k_im_X0_checkPort k_se_X0_checkPort k_in_X0 k_co_X0_checkPort) rfl rfl rfl (by decide +kernel) ⟨Nat.le_of_ble_eq_true rfl, Nat.le_of_ble_eq_true rfl⟩) (xt_preV (q0 := 0) (C := RX0) hK hP hZ hT (fun _ _ => rfl) rfl rfl) rfl rfl hl.1 rfl (lv_room (Nat.le_of_ble_eq_true rfl)) dX0_read_8 ⟨Nat.le_of_ble_eq_true rfl, Nat.le_of_ble_eq_true rfl⟩) hno hlocks

set_option maxHeartbeats 4000000 in
set_option maxRecDepth 100000 in
theorem t_delivers (l : Launch) (htr : l.stackTraces = false) (dC : Nat → ClassId) (dI : Nat → Nat → Nat) (hx hc hh : Nat) (u0 u1 : Nat → Int32) (ea : Int32) (x : Int32) (h0 : ¬ x = 0) (h1 : ¬ x = 1) : xt_M l yX0_delivers wsX0_delivers ({ frames := 7, cells := 1, slots := 6, locals := 120 }) (xt_P [.ref hx, .int x] (dC, dI) vwCl [] pz TL (pw hx hc hh (u0, u1, ea))) "java/util/NoSuchElementException" := by
  refine xt_ofW (cc := cX0_delivers) (maxL := 2) (ret := (some .int)) (by decide) rfl ?_
  intro p e s m args below meth c s₁ B hml hv
  obtain ⟨rfl, hP, hK, hZ, hT⟩ := hv
  have hx_ := B.exec
  have hb := B.bytes
  have hts := atoms_spec (ws := wsX0_delivers) B.pre
  have hown : s.vm.findClass RX0 = some m.cls := findClass_of_methodNamed B.named
  have hlocks := B.notSynchronized
  have hno := B.noHandlers (hts _ List.mem_cons_self)
  have hl := lv_entry ([.ref hx, .int x]) (n := 2) (Nat.le_of_ble_eq_true rfl)
  rw [lg_entry_eq]
  generalize (lg_sl ([.ref hx, .int x]) ++ List.replicate (2 - (lg_sl ([.ref hx, .int x])).length) Slot.unset).toArray = ls at hl ⊢
  have hl : lv_has ls 2 [(0, .ref hx), (1, .int x)] := hl
  refine lv_aload_n hx_ hb dX0_delivers_0 rfl (lv_at hl 0 rfl) ?_
  refine lv_iload_n hx_ hb dX0_delivers_1 rfl (lv_at hl 1 rfl) ?_
  exact xt_leave (rest := []) (xt_runV (As := [.int x]) (rest := []) ⟨hx_, hb, hml, hown, hts⟩ (t_controllerNumbered l htr dC dI hx hc hh u0 u1 ea x h0 h1) (cwV 1 hts (gd_V wa_c k_ml_X0_35 k_im_X0_controllerNumbered k_se_X0_controllerNumbered k_in_X0 k_co_X0_controllerNumbered) rfl rfl rfl (by decide +kernel) ⟨Nat.le_of_ble_eq_true rfl, Nat.le_of_ble_eq_true rfl⟩) (xt_preV (q0 := 0) (C := RX0) hK hP hZ hT (fun _ _ => rfl) rfl rfl) rfl rfl hl.1 rfl (lv_room (Nat.le_of_ble_eq_true rfl)) dX0_delivers_2 ⟨Nat.le_of_ble_eq_true rfl, Nat.le_of_ble_eq_true rfl⟩) hno hlocks

set_option maxHeartbeats 4000000 in
set_option maxRecDepth 100000 in
theorem t_about_c (l : Launch) (htr : l.stackTraces = false) (dC : Nat → ClassId) (dI : Nat → Nat → Nat) (hx hc hh : Nat) (u0 u1 : Nat → Int32) (ea : Int32) (x y : Int32) (h0 : ¬ x = 0) (h1 : ¬ x = 1) : xt_M l yX0_about wsX0_about ({ frames := 7, cells := 1, slots := 6, locals := 120 }) (xt_P [.ref hx, .int x, .int y] (dC, dI) vwCl [] pz TL (pw hx hc hh (u0, u1, ea))) "java/util/NoSuchElementException" := by
  refine xt_ofW (cc := cX0_about) (maxL := 4) (ret := (some .int)) (by decide) rfl ?_
  intro p e s m args below meth c s₁ B hml hv
  obtain ⟨rfl, hP, hK, hZ, hT⟩ := hv
  have hx_ := B.exec
  have hb := B.bytes
  have hts := atoms_spec (ws := wsX0_about) B.pre
  have hown : s.vm.findClass RX0 = some m.cls := findClass_of_methodNamed B.named
  have hlocks := B.notSynchronized
  have hno := B.noHandlers (hts _ List.mem_cons_self)
  have hl := lv_entry ([.ref hx, .int x, .int y]) (n := 4) (Nat.le_of_ble_eq_true rfl)
  rw [lg_entry_eq]
  generalize (lg_sl ([.ref hx, .int x, .int y]) ++ List.replicate (4 - (lg_sl ([.ref hx, .int x, .int y])).length) Slot.unset).toArray = ls at hl ⊢
  have hl : lv_has ls 4 [(0, .ref hx), (1, .int x), (2, .int y)] := hl
  refine lv_aload_n hx_ hb dX0_about_0 rfl (lv_at hl 0 rfl) ?_
  refine lv_iload_n hx_ hb dX0_about_1 rfl (lv_at hl 1 rfl) ?_
  exact xt_leave (rest := []) (xt_runV (As := [.int x]) (rest := []) ⟨hx_, hb, hml, hown, hts⟩ (t_controllerNumbered l htr dC dI hx hc hh u0 u1 ea x h0 h1) (cwV 1 hts (gd_V wa_c k_ml_X0_35 k_im_X0_controllerNumbered k_se_X0_controllerNumbered k_in_X0 k_co_X0_controllerNumbered) rfl rfl rfl (by decide +kernel) ⟨Nat.le_of_ble_eq_true rfl, Nat.le_of_ble_eq_true rfl⟩) (xt_preV (q0 := 0) (C := RX0) hK hP hZ hT (fun _ _ => rfl) rfl rfl) rfl rfl hl.1 rfl (lv_room (Nat.le_of_ble_eq_true rfl)) dX0_about_2 ⟨Nat.le_of_ble_eq_true rfl, Nat.le_of_ble_eq_true rfl⟩) hno hlocks

set_option maxHeartbeats 4000000 in
set_option maxRecDepth 100000 in
theorem t_mode_c (l : Launch) (htr : l.stackTraces = false) (dC : Nat → ClassId) (dI : Nat → Nat → Nat) (hx hc hh : Nat) (u0 u1 : Nat → Int32) (ea : Int32) (x y : Int32) (h0 : ¬ x = 0) (h1 : ¬ x = 1) : xt_M l yX0_mode wsX0_mode ({ frames := 7, cells := 1, slots := 6, locals := 120 }) (xt_P [.ref hx, .int x, .int y] (dC, dI) vwCl [] pz TL (pw hx hc hh (u0, u1, ea))) "java/util/NoSuchElementException" := by
  refine xt_ofW (cc := cX0_mode) (maxL := 4) (ret := (some .boolean)) (by decide) rfl ?_
  intro p e s m args below meth c s₁ B hml hv
  obtain ⟨rfl, hP, hK, hZ, hT⟩ := hv
  have hx_ := B.exec
  have hb := B.bytes
  have hts := atoms_spec (ws := wsX0_mode) B.pre
  have hown : s.vm.findClass RX0 = some m.cls := findClass_of_methodNamed B.named
  have hlocks := B.notSynchronized
  have hno := B.noHandlers (hts _ List.mem_cons_self)
  have hl := lv_entry ([.ref hx, .int x, .int y]) (n := 4) (Nat.le_of_ble_eq_true rfl)
  rw [lg_entry_eq]
  generalize (lg_sl ([.ref hx, .int x, .int y]) ++ List.replicate (4 - (lg_sl ([.ref hx, .int x, .int y])).length) Slot.unset).toArray = ls at hl ⊢
  have hl : lv_has ls 4 [(0, .ref hx), (1, .int x), (2, .int y)] := hl
  refine lv_aload_n hx_ hb dX0_mode_0 rfl (lv_at hl 0 rfl) ?_
  refine lv_iload_n hx_ hb dX0_mode_1 rfl (lv_at hl 1 rfl) ?_
  exact xt_leave (rest := []) (xt_runV (As := [.int x]) (rest := []) ⟨hx_, hb, hml, hown, hts⟩ (t_controllerNumbered l htr dC dI hx hc hh u0 u1 ea x h0 h1) (cwV 1 hts (gd_V wa_c k_ml_X0_35 k_im_X0_controllerNumbered k_se_X0_controllerNumbered k_in_X0 k_co_X0_controllerNumbered) rfl rfl rfl (by decide +kernel) ⟨Nat.le_of_ble_eq_true rfl, Nat.le_of_ble_eq_true rfl⟩) (xt_preV (q0 := 0) (C := RX0) hK hP hZ hT (fun _ _ => rfl) rfl rfl) rfl rfl hl.1 rfl (lv_room (Nat.le_of_ble_eq_true rfl)) dX0_mode_2 ⟨Nat.le_of_ble_eq_true rfl, Nat.le_of_ble_eq_true rfl⟩) hno hlocks

set_option maxHeartbeats 4000000 in
set_option maxRecDepth 100000 in
theorem t_about_i0 (l : Launch) (htr : l.stackTraces = false) (dC : Nat → ClassId) (dI : Nat → Nat → Nat) (hx hc hh : Nat) (u0 u1 : Nat → Int32) (ea : Int32) (y : Int32) (n0 : ¬ y = 0) (n1 : ¬ y = 1) (n2 : ¬ y = 2) (n3 : ¬ y = 3) (n4 : ¬ y = 4) (n5 : ¬ y = 5) (n6 : ¬ y = 6) (n7 : ¬ y = 7) : xt_M l yX0_about wsX0_about ({ frames := 7, cells := 1, slots := 6, locals := 120 }) (xt_P [.ref hx, .int 0, .int y] (dC, dI) vwCl [] pz TL (pw hx hc hh (u0, u1, ea))) "java/lang/IllegalArgumentException" := by
  refine xt_ofW (cc := cX0_about) (maxL := 4) (ret := (some .int)) (by decide) rfl ?_
  intro p e s m args below meth c s₁ B hml hv
  obtain ⟨rfl, hP, hK, hZ, hT⟩ := hv
  have hx_ := B.exec
  have hb := B.bytes
  have hts := atoms_spec (ws := wsX0_about) B.pre
  have hown : s.vm.findClass RX0 = some m.cls := findClass_of_methodNamed B.named
  have hlocks := B.notSynchronized
  have hno := B.noHandlers (hts _ List.mem_cons_self)
  have hl := lv_entry ([.ref hx, .int 0, .int y]) (n := 4) (Nat.le_of_ble_eq_true rfl)
  rw [lg_entry_eq]
  generalize (lg_sl ([.ref hx, .int 0, .int y]) ++ List.replicate (4 - (lg_sl ([.ref hx, .int 0, .int y])).length) Slot.unset).toArray = ls at hl ⊢
  have hl : lv_has ls 4 [(0, .ref hx), (1, .int 0), (2, .int y)] := hl
  refine lv_aload_n hx_ hb dX0_about_0 rfl (lv_at hl 0 rfl) ?_
  refine lv_iload_n hx_ hb dX0_about_1 rfl (lv_at hl 1 rfl) ?_
  refine xr_call (st1 := [.ref hc]) (W.runV (As := [.int 0]) (rest := []) ⟨hx_, hb, hml, hown, hts⟩ (c_controllerNumbered_0 l dC dI hx hc hh u0 u1 ea) (cwV 1 hts (gd_V wa_c k_ml_X0_35 k_im_X0_controllerNumbered k_se_X0_controllerNumbered k_in_X0 k_co_X0_controllerNumbered) rfl rfl rfl (by decide +kernel) ⟨Nat.le_of_ble_eq_true rfl, Nat.le_of_ble_eq_true rfl⟩) (xr_preV (q0 := 0) (C := RX0) hK hP hZ rfl rfl) rfl rfl hl.1 rfl (lv_room (Nat.le_of_ble_eq_true rfl)) dX0_about_2 ⟨Nat.zero_le _, Nat.zero_le _⟩) rfl ?_
  refine lv_astore_n (lv' := [(3, .ref hc), (0, .ref hx), (1, .int 0), (2, .int y)]) hx_ hb dX0_about_5 rfl hl (by decide) rfl (fun ls hl => ?_)
  refine lv_iload_n hx_ hb dX0_about_6 rfl (lv_at hl 3 rfl) ?_
  refine lv_tableOut (tgt := 92) hx_ hb dX0_about_7 (by have q0 := lv_neT (a := 0) n0 (by decide); have q1 := lv_neT (a := 1) n1 (by decide); have q2 := lv_neT (a := 2) n2 (by decide); have q3 := lv_neT (a := 3) n3 (by decide); have q4 := lv_neT (a := 4) n4 (by decide); have q5 := lv_neT (a := 5) n5 (by decide); have q6 := lv_neT (a := 6) n6 (by decide); have q7 := lv_neT (a := 7) n7 (by decide); omega) (by decide) ?_
  exact xt_new (E := "java/lang/IllegalArgumentException") (names := ["java/lang/RuntimeException", "java/lang/Exception"]) (ix := 42) (ic := 44) hx_ hb htr hown (by decide +kernel) (by decide +kernel) (hts _ (List.mem_cons_of_mem _ k_cl_X0_42)) (hts _ (List.mem_cons_of_mem _ k_in_IllegalArgumentException)) (fun a ha => hT.use (List.mem_append_right _ ha)) hno hlocks (hl.1.trans hml.symm) (Nat.le_of_ble_eq_true rfl) (Nat.le_of_ble_eq_true rfl) (Nat.le_of_ble_eq_true rfl) (Nat.le_of_ble_eq_true rfl) dX0_about_92 dX0_about_95 dX0_about_96 dX0_about_99

set_option maxHeartbeats 4000000 in
set_option maxRecDepth 100000 in
theorem t_mode_i0 (l : Launch) (htr : l.stackTraces = false) (dC : Nat → ClassId) (dI : Nat → Nat → Nat) (hx hc hh : Nat) (u0 u1 : Nat → Int32) (ea : Int32) (y : Int32) (n0 : ¬ y = 0) (n1 : ¬ y = 1) (n2 : ¬ y = 2) (n3 : ¬ y = 3) (n4 : ¬ y = 4) (n5 : ¬ y = 5) (n6 : ¬ y = 6) : xt_M l yX0_mode wsX0_mode ({ frames := 7, cells := 1, slots := 6, locals := 120 }) (xt_P [.ref hx, .int 0, .int y] (dC, dI) vwCl [] pz TL (pw hx hc hh (u0, u1, ea))) "java/lang/IllegalArgumentException" := by
  refine xt_ofW (cc := cX0_mode) (maxL := 4) (ret := (some .boolean)) (by decide) rfl ?_
  intro p e s m args below meth c s₁ B hml hv
  obtain ⟨rfl, hP, hK, hZ, hT⟩ := hv
  have hx_ := B.exec
  have hb := B.bytes
  have hts := atoms_spec (ws := wsX0_mode) B.pre
  have hown : s.vm.findClass RX0 = some m.cls := findClass_of_methodNamed B.named
  have hlocks := B.notSynchronized
  have hno := B.noHandlers (hts _ List.mem_cons_self)
  have hl := lv_entry ([.ref hx, .int 0, .int y]) (n := 4) (Nat.le_of_ble_eq_true rfl)
  rw [lg_entry_eq]
  generalize (lg_sl ([.ref hx, .int 0, .int y]) ++ List.replicate (4 - (lg_sl ([.ref hx, .int 0, .int y])).length) Slot.unset).toArray = ls at hl ⊢
  have hl : lv_has ls 4 [(0, .ref hx), (1, .int 0), (2, .int y)] := hl
  refine lv_aload_n hx_ hb dX0_mode_0 rfl (lv_at hl 0 rfl) ?_
  refine lv_iload_n hx_ hb dX0_mode_1 rfl (lv_at hl 1 rfl) ?_
  refine xr_call (st1 := [.ref hc]) (W.runV (As := [.int 0]) (rest := []) ⟨hx_, hb, hml, hown, hts⟩ (c_controllerNumbered_0 l dC dI hx hc hh u0 u1 ea) (cwV 1 hts (gd_V wa_c k_ml_X0_35 k_im_X0_controllerNumbered k_se_X0_controllerNumbered k_in_X0 k_co_X0_controllerNumbered) rfl rfl rfl (by decide +kernel) ⟨Nat.le_of_ble_eq_true rfl, Nat.le_of_ble_eq_true rfl⟩) (xr_preV (q0 := 0) (C := RX0) hK hP hZ rfl rfl) rfl rfl hl.1 rfl (lv_room (Nat.le_of_ble_eq_true rfl)) dX0_mode_2 ⟨Nat.zero_le _, Nat.zero_le _⟩) rfl ?_
  refine lv_astore_n (lv' := [(3, .ref hc), (0, .ref hx), (1, .int 0), (2, .int y)]) hx_ hb dX0_mode_5 rfl hl (by decide) rfl (fun ls hl => ?_)
  refine lv_iload_n hx_ hb dX0_mode_6 rfl (lv_at hl 3 rfl) ?_
  refine lv_tableOut (tgt := 83) hx_ hb dX0_mode_7 (by have q0 := lv_neT (a := 0) n0 (by decide); have q1 := lv_neT (a := 1) n1 (by decide); have q2 := lv_neT (a := 2) n2 (by decide); have q3 := lv_neT (a := 3) n3 (by decide); have q4 := lv_neT (a := 4) n4 (by decide); have q5 := lv_neT (a := 5) n5 (by decide); have q6 := lv_neT (a := 6) n6 (by decide); omega) (by decide) ?_
  exact xt_new (E := "java/lang/IllegalArgumentException") (names := ["java/lang/RuntimeException", "java/lang/Exception"]) (ix := 42) (ic := 44) hx_ hb htr hown (by decide +kernel) (by decide +kernel) (hts _ (List.mem_cons_of_mem _ k_cl_X0_42)) (hts _ (List.mem_cons_of_mem _ k_in_IllegalArgumentException)) (fun a ha => hT.use (List.mem_append_right _ ha)) hno hlocks (hl.1.trans hml.symm) (Nat.le_of_ble_eq_true rfl) (Nat.le_of_ble_eq_true rfl) (Nat.le_of_ble_eq_true rfl) (Nat.le_of_ble_eq_true rfl) dX0_mode_83 dX0_mode_86 dX0_mode_87 dX0_mode_90

set_option maxHeartbeats 4000000 in
set_option maxRecDepth 100000 in
theorem t_about_i1 (l : Launch) (htr : l.stackTraces = false) (dC : Nat → ClassId) (dI : Nat → Nat → Nat) (hx hc hh : Nat) (u0 u1 : Nat → Int32) (ea : Int32) (y : Int32) (n0 : ¬ y = 0) (n1 : ¬ y = 1) (n2 : ¬ y = 2) (n3 : ¬ y = 3) (n4 : ¬ y = 4) (n5 : ¬ y = 5) (n6 : ¬ y = 6) (n7 : ¬ y = 7) : xt_M l yX0_about wsX0_about ({ frames := 7, cells := 1, slots := 6, locals := 120 }) (xt_P [.ref hx, .int 1, .int y] (dC, dI) vwCl [] pz TL (pw hx hc hh (u0, u1, ea))) "java/lang/IllegalArgumentException" := by
  refine xt_ofW (cc := cX0_about) (maxL := 4) (ret := (some .int)) (by decide) rfl ?_
  intro p e s m args below meth c s₁ B hml hv
  obtain ⟨rfl, hP, hK, hZ, hT⟩ := hv
  have hx_ := B.exec
  have hb := B.bytes
  have hts := atoms_spec (ws := wsX0_about) B.pre
  have hown : s.vm.findClass RX0 = some m.cls := findClass_of_methodNamed B.named
  have hlocks := B.notSynchronized
  have hno := B.noHandlers (hts _ List.mem_cons_self)
  have hl := lv_entry ([.ref hx, .int 1, .int y]) (n := 4) (Nat.le_of_ble_eq_true rfl)
  rw [lg_entry_eq]
  generalize (lg_sl ([.ref hx, .int 1, .int y]) ++ List.replicate (4 - (lg_sl ([.ref hx, .int 1, .int y])).length) Slot.unset).toArray = ls at hl ⊢
  have hl : lv_has ls 4 [(0, .ref hx), (1, .int 1), (2, .int y)] := hl
  refine lv_aload_n hx_ hb dX0_about_0 rfl (lv_at hl 0 rfl) ?_
  refine lv_iload_n hx_ hb dX0_about_1 rfl (lv_at hl 1 rfl) ?_
  refine xr_call (st1 := [.ref hh]) (W.runV (As := [.int 1]) (rest := []) ⟨hx_, hb, hml, hown, hts⟩ (c_controllerNumbered_1 l dC dI hx hc hh u0 u1 ea) (cwV 1 hts (gd_V wa_c k_ml_X0_35 k_im_X0_controllerNumbered k_se_X0_controllerNumbered k_in_X0 k_co_X0_controllerNumbered) rfl rfl rfl (by decide +kernel) ⟨Nat.le_of_ble_eq_true rfl, Nat.le_of_ble_eq_true rfl⟩) (xr_preV (q0 := 0) (C := RX0) hK hP hZ rfl rfl) rfl rfl hl.1 rfl (lv_room (Nat.le_of_ble_eq_true rfl)) dX0_about_2 ⟨Nat.zero_le _, Nat.zero_le _⟩) rfl ?_
  refine lv_astore_n (lv' := [(3, .ref hh), (0, .ref hx), (1, .int 1), (2, .int y)]) hx_ hb dX0_about_5 rfl hl (by decide) rfl (fun ls hl => ?_)
  refine lv_iload_n hx_ hb dX0_about_6 rfl (lv_at hl 3 rfl) ?_
  refine lv_tableOut (tgt := 92) hx_ hb dX0_about_7 (by have q0 := lv_neT (a := 0) n0 (by decide); have q1 := lv_neT (a := 1) n1 (by decide); have q2 := lv_neT (a := 2) n2 (by decide); have q3 := lv_neT (a := 3) n3 (by decide); have q4 := lv_neT (a := 4) n4 (by decide); have q5 := lv_neT (a := 5) n5 (by decide); have q6 := lv_neT (a := 6) n6 (by decide); have q7 := lv_neT (a := 7) n7 (by decide); omega) (by decide) ?_
  exact xt_new (E := "java/lang/IllegalArgumentException") (names := ["java/lang/RuntimeException", "java/lang/Exception"]) (ix := 42) (ic := 44) hx_ hb htr hown (by decide +kernel) (by decide +kernel) (hts _ (List.mem_cons_of_mem _ k_cl_X0_42)) (hts _ (List.mem_cons_of_mem _ k_in_IllegalArgumentException)) (fun a ha => hT.use (List.mem_append_right _ ha)) hno hlocks (hl.1.trans hml.symm) (Nat.le_of_ble_eq_true rfl) (Nat.le_of_ble_eq_true rfl) (Nat.le_of_ble_eq_true rfl) (Nat.le_of_ble_eq_true rfl) dX0_about_92 dX0_about_95 dX0_about_96 dX0_about_99

set_option maxHeartbeats 4000000 in
set_option maxRecDepth 100000 in
theorem t_mode_i1 (l : Launch) (htr : l.stackTraces = false) (dC : Nat → ClassId) (dI : Nat → Nat → Nat) (hx hc hh : Nat) (u0 u1 : Nat → Int32) (ea : Int32) (y : Int32) (n0 : ¬ y = 0) (n1 : ¬ y = 1) (n2 : ¬ y = 2) (n3 : ¬ y = 3) (n4 : ¬ y = 4) (n5 : ¬ y = 5) (n6 : ¬ y = 6) : xt_M l yX0_mode wsX0_mode ({ frames := 7, cells := 1, slots := 6, locals := 120 }) (xt_P [.ref hx, .int 1, .int y] (dC, dI) vwCl [] pz TL (pw hx hc hh (u0, u1, ea))) "java/lang/IllegalArgumentException" := by
  refine xt_ofW (cc := cX0_mode) (maxL := 4) (ret := (some .boolean)) (by decide) rfl ?_
  intro p e s m args below meth c s₁ B hml hv
  obtain ⟨rfl, hP, hK, hZ, hT⟩ := hv
  have hx_ := B.exec
  have hb := B.bytes
  have hts := atoms_spec (ws := wsX0_mode) B.pre
  have hown : s.vm.findClass RX0 = some m.cls := findClass_of_methodNamed B.named
  have hlocks := B.notSynchronized
  have hno := B.noHandlers (hts _ List.mem_cons_self)
  have hl := lv_entry ([.ref hx, .int 1, .int y]) (n := 4) (Nat.le_of_ble_eq_true rfl)
  rw [lg_entry_eq]
  generalize (lg_sl ([.ref hx, .int 1, .int y]) ++ List.replicate (4 - (lg_sl ([.ref hx, .int 1, .int y])).length) Slot.unset).toArray = ls at hl ⊢
  have hl : lv_has ls 4 [(0, .ref hx), (1, .int 1), (2, .int y)] := hl
  refine lv_aload_n hx_ hb dX0_mode_0 rfl (lv_at hl 0 rfl) ?_
  refine lv_iload_n hx_ hb dX0_mode_1 rfl (lv_at hl 1 rfl) ?_
  refine xr_call (st1 := [.ref hh]) (W.runV (As := [.int 1]) (rest := []) ⟨hx_, hb, hml, hown, hts⟩ (c_controllerNumbered_1 l dC dI hx hc hh u0 u1 ea) (cwV 1 hts (gd_V wa_c k_ml_X0_35 k_im_X0_controllerNumbered k_se_X0_controllerNumbered k_in_X0 k_co_X0_controllerNumbered) rfl rfl rfl (by decide +kernel) ⟨Nat.le_of_ble_eq_true rfl, Nat.le_of_ble_eq_true rfl⟩) (xr_preV (q0 := 0) (C := RX0) hK hP hZ rfl rfl) rfl rfl hl.1 rfl (lv_room (Nat.le_of_ble_eq_true rfl)) dX0_mode_2 ⟨Nat.zero_le _, Nat.zero_le _⟩) rfl ?_
  refine lv_astore_n (lv' := [(3, .ref hh), (0, .ref hx), (1, .int 1), (2, .int y)]) hx_ hb dX0_mode_5 rfl hl (by decide) rfl (fun ls hl => ?_)
  refine lv_iload_n hx_ hb dX0_mode_6 rfl (lv_at hl 3 rfl) ?_
  refine lv_tableOut (tgt := 83) hx_ hb dX0_mode_7 (by have q0 := lv_neT (a := 0) n0 (by decide); have q1 := lv_neT (a := 1) n1 (by decide); have q2 := lv_neT (a := 2) n2 (by decide); have q3 := lv_neT (a := 3) n3 (by decide); have q4 := lv_neT (a := 4) n4 (by decide); have q5 := lv_neT (a := 5) n5 (by decide); have q6 := lv_neT (a := 6) n6 (by decide); omega) (by decide) ?_
  exact xt_new (E := "java/lang/IllegalArgumentException") (names := ["java/lang/RuntimeException", "java/lang/Exception"]) (ix := 42) (ic := 44) hx_ hb htr hown (by decide +kernel) (by decide +kernel) (hts _ (List.mem_cons_of_mem _ k_cl_X0_42)) (hts _ (List.mem_cons_of_mem _ k_in_IllegalArgumentException)) (fun a ha => hT.use (List.mem_append_right _ ha)) hno hlocks (hl.1.trans hml.symm) (Nat.le_of_ble_eq_true rfl) (Nat.le_of_ble_eq_true rfl) (Nat.le_of_ble_eq_true rfl) (Nat.le_of_ble_eq_true rfl) dX0_mode_83 dX0_mode_86 dX0_mode_87 dX0_mode_90

set_option maxHeartbeats 4000000 in
set_option maxRecDepth 100000 in
theorem t_count (l : Launch) (htr : l.stackTraces = false) (dC : Nat → ClassId) (dI : Nat → Nat → Nat) (hx hc hh : Nat) (u0 u1 : Nat → Int32) (ea : Int32) (y : Int32) (n0 : ¬ y = 0) (n1 : ¬ y = 1) (n2 : ¬ y = 2) : xt_M l yX0_count wsX0_count ({ frames := 6, cells := 1, slots := 6, locals := 90 }) (xt_P [.ref hx, .int y] (dC, dI) vwCl [] pz TL (pw hx hc hh (u0, u1, ea))) "java/lang/IllegalArgumentException" := by
  refine xt_ofW (cc := cX0_count) (maxL := 2) (ret := (some .int)) (by decide) rfl ?_
  intro p e s m args below meth c s₁ B hml hv
  obtain ⟨rfl, hP, hK, hZ, hT⟩ := hv
  have hx_ := B.exec
  have hb := B.bytes
  have hts := atoms_spec (ws := wsX0_count) B.pre
  have hown : s.vm.findClass RX0 = some m.cls := findClass_of_methodNamed B.named
  have hlocks := B.notSynchronized
  have hno := B.noHandlers (hts _ List.mem_cons_self)
  have hl := lv_entry ([.ref hx, .int y]) (n := 2) (Nat.le_of_ble_eq_true rfl)
  rw [lg_entry_eq]
  generalize (lg_sl ([.ref hx, .int y]) ++ List.replicate (2 - (lg_sl ([.ref hx, .int y])).length) Slot.unset).toArray = ls at hl ⊢
  have hl : lv_has ls 2 [(0, .ref hx), (1, .int y)] := hl
  refine lv_iload_n hx_ hb dX0_count_0 rfl (lv_at hl 1 rfl) ?_
  refine lv_tableOut (tgt := 65) hx_ hb dX0_count_1 (by have q0 := lv_neT (a := 0) n0 (by decide); have q1 := lv_neT (a := 1) n1 (by decide); have q2 := lv_neT (a := 2) n2 (by decide); omega) (by decide) ?_
  exact xt_new (E := "java/lang/IllegalArgumentException") (names := ["java/lang/RuntimeException", "java/lang/Exception"]) (ix := 42) (ic := 44) hx_ hb htr hown (by decide +kernel) (by decide +kernel) (hts _ (List.mem_cons_of_mem _ k_cl_X0_42)) (hts _ (List.mem_cons_of_mem _ k_in_IllegalArgumentException)) (fun a ha => hT.use (List.mem_append_right _ ha)) hno hlocks (hl.1.trans hml.symm) (Nat.le_of_ble_eq_true rfl) (Nat.le_of_ble_eq_true rfl) (Nat.le_of_ble_eq_true rfl) (Nat.le_of_ble_eq_true rfl) dX0_count_65 dX0_count_68 dX0_count_69 dX0_count_72
