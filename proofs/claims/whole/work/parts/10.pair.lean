abbrev pw (hx hc hh : Nat) (q : PS) : va_W := [(hx, .inr (0, [.ref hc, .ref hh, .int q.2.2])), (hc, .inr (1, lpF q.1)), (hh, .inr (1, lpF q.2.1))]
def pz : List Cond := [.methodLinkNest RX0 11 yX1_init "LinePair", .fieldLinkNest RX0 77 "LinePair$Controller" "up" "I" "LinePair", .fieldLinkNest RX0 74 "LinePair$Controller" "inService" "I" "LinePair", .fieldLinkNest RX0 55 "LinePair$Controller" "masked" "I" "LinePair", .fieldLinkNest RX0 80 "LinePair$Controller" "lowest" "I" "LinePair", .fieldLinkNest RX0 83 "LinePair$Controller" "base" "I" "LinePair", .fieldLinkNest RX0 86 "LinePair$Controller" "awaited" "I" "LinePair", .fieldLinkNest RX0 89 "LinePair$Controller" "readChoice" "I" "LinePair", .fieldLinkNest RX0 92 "LinePair$Controller" "ready" "Z" "LinePair", .fieldLinkNest RX0 96 "LinePair$Controller" "byLevels" "Z" "LinePair", .fieldLinkNest RX0 99 "LinePair$Controller" "specialMask" "Z" "LinePair", .fieldLinkNest RX0 102 "LinePair$Controller" "specialNesting" "Z" "LinePair", .fieldLinkNest RX0 105 "LinePair$Controller" "endsAtOnce" "Z" "LinePair", .fieldLinkNest RX0 108 "LinePair$Controller" "turnsAtOnce" "Z" "LinePair", .fieldLinkNest RX0 111 "LinePair$Controller" "pollWaits" "Z" "LinePair", .fieldLinkNest RX0 114 "LinePair$Controller" "takenLines" "I" "LinePair", .fieldLinkNest RX0 117 "LinePair$Controller" "endedLines" "I" "LinePair", .methodLinkNest RX0 61 yX1_takeDelivered "LinePair", .methodLinkNest RX0 28 yX1_moveLine "LinePair", .methodLinkNest RX0 51 yX1_lineToDeliver "LinePair", .methodLinkNest RX0 67 yX1_numberOf "LinePair", .methodLinkNest RX0 45 yX1_acceptAtPort0 "LinePair", .methodLinkNest RX0 48 yX1_acceptAtPort1 "LinePair", .methodLinkNest RX0 58 yX1_answerAtPort0 "LinePair", .methodLinkNest RX0 71 yX1_requested "LinePair"]

set_option maxHeartbeats 4000000 in
set_option maxRecDepth 100000 in
theorem c_controllerNumbered_0 (l : Launch) (dC : Nat → ClassId) (dI : Nat → Nat → Nat) (hx hc hh : Nat) (u0 u1 : Nat → Int32) (ea : Int32) : xr_M l yX0_controllerNumbered wsX0_controllerNumbered ({ frames := 0, cells := 0, slots := 0, locals := 0 }) [.ref hx, .int 0] (dC, dI) vwCl [] pz (pw hx hc hh (u0, u1, ea)) (some (.ref hc)) := by
  refine Met.ofW (cc := cX0_controllerNumbered) (maxL := 2) (ret := (some (.object "LinePair$Controller"))) (by decide) rfl ?_
  intro p e s m args below meth c s₁ B hml hv
  obtain ⟨rfl, hP, hK, hZ⟩ := hv
  have hx_ := B.exec
  have hb := B.bytes
  have hr := B.returns
  have hts := atoms_spec (ws := wsX0_controllerNumbered) B.pre
  have hown : s.vm.findClass RX0 = some m.cls := findClass_of_methodNamed B.named
  have hlocks := B.notSynchronized
  have hin_RX0 : ∀ w ∈ u_ws RX0 TX0 3, w ∈ wsX0_controllerNumbered := fun w h => List.mem_cons_of_mem _ (u_X0 w h)
  have hlk_14 := hts _ (List.mem_cons_of_mem _ k_fl_X0_14)
  have hlk_18 := hts _ (List.mem_cons_of_mem _ k_fl_X0_18)
  have hl := lv_entry ([.ref hx, .int 0]) (n := 2) (Nat.le_of_ble_eq_true rfl)
  rw [lg_entry_eq]
  generalize (lg_sl ([.ref hx, .int 0]) ++ List.replicate (2 - (lg_sl ([.ref hx, .int 0])).length) Slot.unset).toArray = ls at hl ⊢
  have hl : lv_has ls 2 [(0, .ref hx), (1, .int 0)] := hl
  refine lv_iload_n hx_ hb dX0_controllerNumbered_0 rfl (lv_at hl 1 rfl) ?_
  refine lv_if_eq (tgt := 17) hx_ hb dX0_controllerNumbered_1 (by decide) (fun _ => ?_) (fun h => absurd (by decide) h)
  refine lv_iload_n hx_ hb dX0_controllerNumbered_17 rfl (lv_at hl 1 rfl) ?_
  refine lv_if_ne (tgt := 28) hx_ hb dX0_controllerNumbered_18 (by decide) (fun h => absurd (by decide) h) (fun _ => ?_)
  refine lv_aload_n hx_ hb dX0_controllerNumbered_21 rfl (lv_at hl 0 rfl) ?_
  refine va_get (D := (dC, dI)) (ci := 0) (v := .ref hc) (C := RX0) (T := TX0) (N := 3) hx_ hb hts hin_RX0 hown hK hP 0 rfl rfl 0 (by decide) hlk_14 (fun _ h9 => h9) rfl dX0_controllerNumbered_22 ?_
  refine lv_goto (tgt := 32) hx_ hb dX0_controllerNumbered_25 (by decide) ?_
  exact xr_aret hx_ hb hr hlocks dX0_controllerNumbered_32 rfl

set_option maxHeartbeats 4000000 in
set_option maxRecDepth 100000 in
theorem c_controllerNumbered_1 (l : Launch) (dC : Nat → ClassId) (dI : Nat → Nat → Nat) (hx hc hh : Nat) (u0 u1 : Nat → Int32) (ea : Int32) : xr_M l yX0_controllerNumbered wsX0_controllerNumbered ({ frames := 0, cells := 0, slots := 0, locals := 0 }) [.ref hx, .int 1] (dC, dI) vwCl [] pz (pw hx hc hh (u0, u1, ea)) (some (.ref hh)) := by
  refine Met.ofW (cc := cX0_controllerNumbered) (maxL := 2) (ret := (some (.object "LinePair$Controller"))) (by decide) rfl ?_
  intro p e s m args below meth c s₁ B hml hv
  obtain ⟨rfl, hP, hK, hZ⟩ := hv
  have hx_ := B.exec
  have hb := B.bytes
  have hr := B.returns
  have hts := atoms_spec (ws := wsX0_controllerNumbered) B.pre
  have hown : s.vm.findClass RX0 = some m.cls := findClass_of_methodNamed B.named
  have hlocks := B.notSynchronized
  have hin_RX0 : ∀ w ∈ u_ws RX0 TX0 3, w ∈ wsX0_controllerNumbered := fun w h => List.mem_cons_of_mem _ (u_X0 w h)
  have hlk_14 := hts _ (List.mem_cons_of_mem _ k_fl_X0_14)
  have hlk_18 := hts _ (List.mem_cons_of_mem _ k_fl_X0_18)
  have hl := lv_entry ([.ref hx, .int 1]) (n := 2) (Nat.le_of_ble_eq_true rfl)
  rw [lg_entry_eq]
  generalize (lg_sl ([.ref hx, .int 1]) ++ List.replicate (2 - (lg_sl ([.ref hx, .int 1])).length) Slot.unset).toArray = ls at hl ⊢
  have hl : lv_has ls 2 [(0, .ref hx), (1, .int 1)] := hl
  refine lv_iload_n hx_ hb dX0_controllerNumbered_0 rfl (lv_at hl 1 rfl) ?_
  refine lv_if_eq (tgt := 17) hx_ hb dX0_controllerNumbered_1 (by decide) (fun h => absurd h (by decide)) (fun _ => ?_)
  refine lv_iload_n hx_ hb dX0_controllerNumbered_4 rfl (lv_at hl 1 rfl) ?_
  refine lv_iconst (v := 1) hx_ hb dX0_controllerNumbered_5 (by decide) ?_
  refine lv_icmp_eq (tgt := 17) hx_ hb dX0_controllerNumbered_6 (by decide) (fun _ => ?_) (fun h => absurd (by decide) h)
  refine lv_iload_n hx_ hb dX0_controllerNumbered_17 rfl (lv_at hl 1 rfl) ?_
  refine lv_if_ne (tgt := 28) hx_ hb dX0_controllerNumbered_18 (by decide) (fun _ => ?_) (fun h => absurd h (by decide))
  refine lv_aload_n hx_ hb dX0_controllerNumbered_28 rfl (lv_at hl 0 rfl) ?_
  refine va_get (D := (dC, dI)) (ci := 0) (v := .ref hh) (C := RX0) (T := TX0) (N := 3) hx_ hb hts hin_RX0 hown hK hP 0 rfl rfl 1 (by decide) hlk_18 (fun _ h9 => h9) rfl dX0_controllerNumbered_29 ?_
  exact xr_aret hx_ hb hr hlocks dX0_controllerNumbered_32 rfl

set_option maxHeartbeats 4000000 in
set_option maxRecDepth 100000 in
theorem c_checkPort_0 (l : Launch) (dC : Nat → ClassId) (dI : Nat → Nat → Nat) (hx hc hh : Nat) (u0 u1 : Nat → Int32) (ea : Int32) : xr_M l yX0_checkPort wsX0_checkPort ({ frames := 0, cells := 0, slots := 0, locals := 0 }) [.ref hx, .int 0] (dC, dI) vwCl [] pz (pw hx hc hh (u0, u1, ea)) none := by
  refine Met.ofW (cc := cX0_checkPort) (maxL := 2) (ret := none) (by decide) rfl ?_
  intro p e s m args below meth c s₁ B hml hv
  obtain ⟨rfl, hP, hK, hZ⟩ := hv
  have hx_ := B.exec
  have hb := B.bytes
  have hr := B.returns
  have hts := atoms_spec (ws := wsX0_checkPort) B.pre
  have hown : s.vm.findClass RX0 = some m.cls := findClass_of_methodNamed B.named
  have hlocks := B.notSynchronized
  have hl := lv_entry ([.ref hx, .int 0]) (n := 2) (Nat.le_of_ble_eq_true rfl)
  rw [lg_entry_eq]
  generalize (lg_sl ([.ref hx, .int 0]) ++ List.replicate (2 - (lg_sl ([.ref hx, .int 0])).length) Slot.unset).toArray = ls at hl ⊢
  have hl : lv_has ls 2 [(0, .ref hx), (1, .int 0)] := hl
  refine lv_iload_n hx_ hb dX0_checkPort_0 rfl (lv_at hl 1 rfl) ?_
  refine lv_if_eq (tgt := 17) hx_ hb dX0_checkPort_1 (by decide) (fun _ => ?_) (fun h => absurd (by decide) h)
  exact xr_vret hx_ hb hr hlocks dX0_checkPort_17

set_option maxHeartbeats 4000000 in
set_option maxRecDepth 100000 in
theorem c_checkPort_1 (l : Launch) (dC : Nat → ClassId) (dI : Nat → Nat → Nat) (hx hc hh : Nat) (u0 u1 : Nat → Int32) (ea : Int32) : xr_M l yX0_checkPort wsX0_checkPort ({ frames := 0, cells := 0, slots := 0, locals := 0 }) [.ref hx, .int 1] (dC, dI) vwCl [] pz (pw hx hc hh (u0, u1, ea)) none := by
  refine Met.ofW (cc := cX0_checkPort) (maxL := 2) (ret := none) (by decide) rfl ?_
  intro p e s m args below meth c s₁ B hml hv
  obtain ⟨rfl, hP, hK, hZ⟩ := hv
  have hx_ := B.exec
  have hb := B.bytes
  have hr := B.returns
  have hts := atoms_spec (ws := wsX0_checkPort) B.pre
  have hown : s.vm.findClass RX0 = some m.cls := findClass_of_methodNamed B.named
  have hlocks := B.notSynchronized
  have hl := lv_entry ([.ref hx, .int 1]) (n := 2) (Nat.le_of_ble_eq_true rfl)
  rw [lg_entry_eq]
  generalize (lg_sl ([.ref hx, .int 1]) ++ List.replicate (2 - (lg_sl ([.ref hx, .int 1])).length) Slot.unset).toArray = ls at hl ⊢
  have hl : lv_has ls 2 [(0, .ref hx), (1, .int 1)] := hl
  refine lv_iload_n hx_ hb dX0_checkPort_0 rfl (lv_at hl 1 rfl) ?_
  refine lv_if_eq (tgt := 17) hx_ hb dX0_checkPort_1 (by decide) (fun h => absurd h (by decide)) (fun _ => ?_)
  refine lv_iload_n hx_ hb dX0_checkPort_4 rfl (lv_at hl 1 rfl) ?_
  refine lv_iconst (v := 1) hx_ hb dX0_checkPort_5 (by decide) ?_
  refine lv_icmp_eq (tgt := 17) hx_ hb dX0_checkPort_6 (by decide) (fun _ => ?_) (fun h => absurd (by decide) h)
  exact xr_vret hx_ hb hr hlocks dX0_checkPort_17

set_option maxHeartbeats 4000000 in
set_option maxRecDepth 100000 in
theorem c_followHelper (l : Launch) (dC : Nat → ClassId) (dI : Nat → Nat → Nat) (hx hc hh : Nat) (sz : Nat) (u0 u1 : Nat → Int32) (ea : Int32) : xc_M l yX0_followHelper wsX0_followHelper ({ frames := 3, cells := 0, slots := 0, locals := 66 }) [.ref hx] sz (dC, dI) vwCl [] pz (pw hx hc hh (u0, u1, ea)) none (pw hx hc hh ((lpFol u0 u1, u1, ea))) 0 0 := by
  refine Met.ofW (cc := cX0_followHelper) (maxL := 1) (ret := none) (by decide) rfl ?_
  intro p e s m args below meth c s₁ B hml hv
  obtain ⟨rfl, hsz, hP, hK, hD0, hZ⟩ := hv
  have hx_ := B.exec
  have hb := B.bytes
  have hr := B.returns
  have hts := atoms_spec (ws := wsX0_followHelper) B.pre
  have hown : s.vm.findClass RX0 = some m.cls := findClass_of_methodNamed B.named
  have hlocks := B.notSynchronized
  subst hsz
  have hD := hD0.self (sz := s.heap.size)
  generalize hAe : va_A (pw hx hc hh (u0, u1, ea)) s.heap.size = A at hD ⊢
  have hA : ∀ q : Nat, s.heap.size ≤ q → A q := fun q h => by rw [← hAe]; exact Or.inr h
  have hS : va_S A s.heap s.heap [] := va_S.rf
  have hin_RX0 : ∀ w ∈ u_ws RX0 TX0 3, w ∈ wsX0_followHelper := fun w h => List.mem_cons_of_mem _ (u_X0 w h)
  have hlk_14 := hts _ (List.mem_cons_of_mem _ k_fl_X0_14)
  have hlk_18 := hts _ (List.mem_cons_of_mem _ k_fl_X0_18)
  have hml_28 : va_Nw (.methodLinkNest RX0 28 yX1_moveLine "LinePair") s := hZ.2 _ (by decide +kernel)
  have hml_51 : va_Nw (.methodLinkNest RX0 51 yX1_lineToDeliver "LinePair") s := hZ.2 _ (by decide +kernel)
  have hl := lv_entry ([.ref hx]) (n := 1) (Nat.le_of_ble_eq_true rfl)
  rw [lg_entry_eq]
  generalize (lg_sl ([.ref hx]) ++ List.replicate (1 - (lg_sl ([.ref hx])).length) Slot.unset).toArray = ls at hl ⊢
  have hl : lv_has ls 1 [(0, .ref hx)] := hl
  refine lv_aload_n hx_ hb dX0_followHelper_0 rfl (lv_at hl 0 rfl) ?_
  refine va_get (D := (dC, dI)) (ci := 0) (v := .ref hc) (C := RX0) (T := TX0) (N := 3) hx_ hb hts hin_RX0 hown hK hP 0 rfl rfl 0 (by decide) hlk_14 (fun _ h9 => h9) rfl dX0_followHelper_1 ?_
  refine lv_iconst (v := 2) hx_ hb dX0_followHelper_4 (by decide) ?_
  refine lv_aload_n hx_ hb dX0_followHelper_5 rfl (lv_at hl 0 rfl) ?_
  refine va_get (D := (dC, dI)) (ci := 0) (v := .ref hh) (C := RX0) (T := TX0) (N := 3) hx_ hb hts hin_RX0 hown hK hP 0 rfl rfl 1 (by decide) hlk_18 (fun _ h9 => h9) rfl dX0_followHelper_6 ?_
  refine xr_call (st1 := [.int (lpDel u1), .int 2, .ref hc]) ((va_runVN (As := []) (rest := [.int 2, .ref hc]) ⟨hx_, hb, hml, hown, hts⟩ (c_lineToDeliver l dC dI hh u1) ⟨va_cnB 0 hts (gd_0 wa_c k_co_X1_lineToDeliver) rfl rfl rfl hml_51 (hts _ (List.mem_cons_of_mem _ k_in_X1)) (by decide +kernel) ⟨Nat.le_of_ble_eq_true rfl, Nat.le_of_ble_eq_true rfl⟩, hts _ (List.mem_cons_of_mem _ k_im_X1_lineToDeliver), hts _ (List.mem_cons_of_mem _ k_se_X1_lineToDeliver)⟩ (xr_preV (q0 := 0) (C := RX1) hK (hP.sub (ws' := cw1 hh u1) [2] rfl) xz_Z.nil rfl rfl) rfl rfl hl.1 rfl (lv_room (Nat.le_of_ble_eq_true rfl)) dX0_followHelper_9 ⟨Nat.zero_le _, Nat.zero_le _⟩).run) rfl ?_
  refine lv_iconst (v := -1) hx_ hb dX0_followHelper_12 (by decide) ?_
  refine lv_icmp_eq (tgt := 20) hx_ hb dX0_followHelper_13 (by decide) (fun h1 => ?_) (fun h1 => ?_)
  · refine lv_iconst (v := 0) hx_ hb dX0_followHelper_20 (by decide) ?_
    refine xc_call (wc := cw1 hc u0) (wr := [(hx, .inr (0, [.ref hc, .ref hh, .int ea])), (hh, .inr (1, lpF u1))]) (st1 := [.int (lpMoveR u0 2 0)]) (va_runVN (As := [.int 2, .int 0]) (rest := []) ⟨hx_, hb, hml, hown, hts⟩ (c_moveLine l dC dI hc s.heap.size u0 2 0) ⟨va_cnB 2 hts (gd_0 wa_c k_co_X1_moveLine) rfl rfl rfl hml_28 (hts _ (List.mem_cons_of_mem _ k_in_X1)) (by decide +kernel) ⟨Nat.le_of_ble_eq_true rfl, Nat.le_of_ble_eq_true rfl⟩, hts _ (List.mem_cons_of_mem _ k_im_X1_moveLine), hts _ (List.mem_cons_of_mem _ k_se_X1_moveLine)⟩ (xc_preV (q0 := 0) (C := RX1) hK (hP.sub (ws' := cw1 hc u0) [1] rfl) (hD.sub (ws' := cw1 hc u0) [1] (by decide) rfl) xz_Z.nil rfl rfl) rfl rfl hl.1 rfl (lv_room (Nat.le_of_ble_eq_true rfl)) dX0_followHelper_21 ⟨Nat.zero_le _, Nat.zero_le _⟩) hP hD hS hA [1] [0, 2] rfl rfl (by decide) (by decide) rfl (fun H locs hP hD hS _ => ?_)
    have hP := hP.sub (ws' := pw hx hc hh (lpMove u0 2 0, u1, ea)) [0, 2, 1] rfl
    have hD := hD.sub (ws' := pw hx hc hh (lpMove u0 2 0, u1, ea)) [0, 2, 1] (by decide) rfl
    refine lv_pop hx_ hb dX0_followHelper_24 rfl ?_
    exact xc_vret (wf := pw hx hc hh) hx_ hb hr hlocks dX0_followHelper_25 hK hP hD hS (by first | (simp only [lpFol, if_pos h1, if_neg (not_not_intro h1)]; done) | rfl | (simp only [lpFol]; simp only [if_pos h1, if_neg (not_not_intro h1)]; done) | (simp_all [lpFol]; done))
  · refine lv_iconst (v := 1) hx_ hb dX0_followHelper_16 (by decide) ?_
    refine lv_goto (tgt := 21) hx_ hb dX0_followHelper_17 (by decide) ?_
    refine xc_call (wc := cw1 hc u0) (wr := [(hx, .inr (0, [.ref hc, .ref hh, .int ea])), (hh, .inr (1, lpF u1))]) (st1 := [.int (lpMoveR u0 2 1)]) (va_runVN (As := [.int 2, .int 1]) (rest := []) ⟨hx_, hb, hml, hown, hts⟩ (c_moveLine l dC dI hc s.heap.size u0 2 1) ⟨va_cnB 2 hts (gd_0 wa_c k_co_X1_moveLine) rfl rfl rfl hml_28 (hts _ (List.mem_cons_of_mem _ k_in_X1)) (by decide +kernel) ⟨Nat.le_of_ble_eq_true rfl, Nat.le_of_ble_eq_true rfl⟩, hts _ (List.mem_cons_of_mem _ k_im_X1_moveLine), hts _ (List.mem_cons_of_mem _ k_se_X1_moveLine)⟩ (xc_preV (q0 := 0) (C := RX1) hK (hP.sub (ws' := cw1 hc u0) [1] rfl) (hD.sub (ws' := cw1 hc u0) [1] (by decide) rfl) xz_Z.nil rfl rfl) rfl rfl hl.1 rfl (lv_room (Nat.le_of_ble_eq_true rfl)) dX0_followHelper_21 ⟨Nat.zero_le _, Nat.zero_le _⟩) hP hD hS hA [1] [0, 2] rfl rfl (by decide) (by decide) rfl (fun H locs hP hD hS _ => ?_)
    have hP := hP.sub (ws' := pw hx hc hh (lpMove u0 2 1, u1, ea)) [0, 2, 1] rfl
    have hD := hD.sub (ws' := pw hx hc hh (lpMove u0 2 1, u1, ea)) [0, 2, 1] (by decide) rfl
    refine lv_pop hx_ hb dX0_followHelper_24 rfl ?_
    exact xc_vret (wf := pw hx hc hh) hx_ hb hr hlocks dX0_followHelper_25 hK hP hD hS (by first | (simp only [lpFol, if_neg h1, if_pos h1]; done) | rfl | (simp only [lpFol]; simp only [if_neg h1, if_pos h1]; done) | (simp_all [lpFol]; done))

set_option maxHeartbeats 4000000 in
set_option maxRecDepth 100000 in
theorem c_takeFromHelper (l : Launch) (dC : Nat → ClassId) (dI : Nat → Nat → Nat) (hx hc hh : Nat) (sz : Nat) (u0 u1 : Nat → Int32) (ea : Int32) : xc_M l yX0_takeFromHelper wsX0_takeFromHelper ({ frames := 4, cells := 0, slots := 0, locals := 87 }) [.ref hx] sz (dC, dI) vwCl [] pz (pw hx hc hh (u0, u1, ea)) (some (.int (lpTFHr u1))) (pw hx hc hh (lpTFH u0 u1 ea)) 0 0 := by
  refine Met.ofW (cc := cX0_takeFromHelper) (maxL := 2) (ret := (some .int)) (by decide) rfl ?_
  intro p e s m args below meth c s₁ B hml hv
  obtain ⟨rfl, hsz, hP, hK, hD0, hZ⟩ := hv
  have hx_ := B.exec
  have hb := B.bytes
  have hr := B.returns
  have hts := atoms_spec (ws := wsX0_takeFromHelper) B.pre
  have hown : s.vm.findClass RX0 = some m.cls := findClass_of_methodNamed B.named
  have hlocks := B.notSynchronized
  subst hsz
  have hD := hD0.self (sz := s.heap.size)
  generalize hAe : va_A (pw hx hc hh (u0, u1, ea)) s.heap.size = A at hD ⊢
  have hA : ∀ q : Nat, s.heap.size ≤ q → A q := fun q h => by rw [← hAe]; exact Or.inr h
  have hS : va_S A s.heap s.heap [] := va_S.rf
  have hin_RX0 : ∀ w ∈ u_ws RX0 TX0 3, w ∈ wsX0_takeFromHelper := fun w h => List.mem_cons_of_mem _ (u_X0 w h)
  have hlk_14 := hts _ (List.mem_cons_of_mem _ k_fl_X0_14)
  have hlk_18 := hts _ (List.mem_cons_of_mem _ k_fl_X0_18)
  have hml_28 : va_Nw (.methodLinkNest RX0 28 yX1_moveLine "LinePair") s := hZ.2 _ (by decide +kernel)
  have hml_61 : va_Nw (.methodLinkNest RX0 61 yX1_takeDelivered "LinePair") s := hZ.2 _ (by decide +kernel)
  have hml_67 : va_Nw (.methodLinkNest RX0 67 yX1_numberOf "LinePair") s := hZ.2 _ (by decide +kernel)
  have hl := lv_entry ([.ref hx]) (n := 2) (Nat.le_of_ble_eq_true rfl)
  rw [lg_entry_eq]
  generalize (lg_sl ([.ref hx]) ++ List.replicate (2 - (lg_sl ([.ref hx])).length) Slot.unset).toArray = ls at hl ⊢
  have hl : lv_has ls 2 [(0, .ref hx)] := hl
  refine lv_aload_n hx_ hb dX0_takeFromHelper_0 rfl (lv_at hl 0 rfl) ?_
  refine va_get (D := (dC, dI)) (ci := 0) (v := .ref hh) (C := RX0) (T := TX0) (N := 3) hx_ hb hts hin_RX0 hown hK hP 0 rfl rfl 1 (by decide) hlk_18 (fun _ h9 => h9) rfl dX0_takeFromHelper_1 ?_
  refine xc_call (wc := cw1 hh u1) (wr := [(hx, .inr (0, [.ref hc, .ref hh, .int ea])), (hc, .inr (1, lpF u0))]) (st1 := [.int (lpDel u1)]) (va_runVN (As := []) (rest := []) ⟨hx_, hb, hml, hown, hts⟩ (c_takeDelivered l dC dI hh s.heap.size u1) ⟨va_cnB 0 hts (gd_0 wa_c k_co_X1_takeDelivered) rfl rfl rfl hml_61 (hts _ (List.mem_cons_of_mem _ k_in_X1)) (by decide +kernel) ⟨Nat.le_of_ble_eq_true rfl, Nat.le_of_ble_eq_true rfl⟩, hts _ (List.mem_cons_of_mem _ k_im_X1_takeDelivered), hts _ (List.mem_cons_of_mem _ k_se_X1_takeDelivered)⟩ (xc_preV (q0 := 0) (C := RX1) hK (hP.sub (ws' := cw1 hh u1) [2] rfl) (hD.sub (ws' := cw1 hh u1) [2] (by decide) rfl) xz_Z.nil rfl rfl) rfl rfl hl.1 rfl (lv_room (Nat.le_of_ble_eq_true rfl)) dX0_takeFromHelper_4 ⟨Nat.zero_le _, Nat.zero_le _⟩) hP hD hS hA [2] [0, 1] rfl rfl (by decide) (by decide) rfl (fun H locs hP hD hS _ => ?_)
  have hP := hP.sub (ws' := pw hx hc hh (u0, lpTake u1, ea)) [0, 1, 2] rfl
  have hD := hD.sub (ws' := pw hx hc hh (u0, lpTake u1, ea)) [0, 1, 2] (by decide) rfl
  refine lv_istore_n (lv' := [(1, .int (lpDel u1)), (0, .ref hx)]) hx_ hb dX0_takeFromHelper_7 rfl hl (by decide) rfl (fun ls hl => ?_)
  refine lv_aload_n hx_ hb dX0_takeFromHelper_8 rfl (lv_at hl 1 rfl) ?_
  refine va_get (D := (dC, dI)) (ci := 0) (v := .ref hc) (C := RX0) (T := TX0) (N := 3) hx_ hb hts hin_RX0 hown hK hP 0 rfl rfl 0 (by decide) hlk_14 (fun _ h9 => h9) rfl dX0_takeFromHelper_9 ?_
  refine lv_iconst (v := 2) hx_ hb dX0_takeFromHelper_12 (by decide) ?_
  refine lv_iconst (v := 0) hx_ hb dX0_takeFromHelper_13 (by decide) ?_
  refine xc_call (wc := cw1 hc u0) (wr := [(hx, .inr (0, [.ref hc, .ref hh, .int ea])), (hh, .inr (1, lpF (lpTake u1)))]) (st1 := [.int (lpMoveR u0 2 0)]) (va_runVN (As := [.int 2, .int 0]) (rest := []) ⟨hx_, hb, hml, hown, hts⟩ (c_moveLine l dC dI hc H.size u0 2 0) ⟨va_cnB 2 hts (gd_0 wa_c k_co_X1_moveLine) rfl rfl rfl hml_28 (hts _ (List.mem_cons_of_mem _ k_in_X1)) (by decide +kernel) ⟨Nat.le_of_ble_eq_true rfl, Nat.le_of_ble_eq_true rfl⟩, hts _ (List.mem_cons_of_mem _ k_im_X1_moveLine), hts _ (List.mem_cons_of_mem _ k_se_X1_moveLine)⟩ (xc_preV (q0 := 0) (C := RX1) hK (hP.sub (ws' := cw1 hc u0) [1] rfl) (hD.sub (ws' := cw1 hc u0) [1] (by decide) rfl) xz_Z.nil rfl rfl) rfl rfl hl.1 rfl (lv_room (Nat.le_of_ble_eq_true rfl)) dX0_takeFromHelper_14 ⟨Nat.zero_le _, Nat.zero_le _⟩) hP hD hS hA [1] [0, 2] rfl rfl (by decide) (by decide) rfl (fun H locs hP hD hS _ => ?_)
  have hP := hP.sub (ws' := pw hx hc hh (lpMove u0 2 0, lpTake u1, ea)) [0, 2, 1] rfl
  have hD := hD.sub (ws' := pw hx hc hh (lpMove u0 2 0, lpTake u1, ea)) [0, 2, 1] (by decide) rfl
  refine lv_pop hx_ hb dX0_takeFromHelper_17 rfl ?_
  refine lv_aload_n hx_ hb dX0_takeFromHelper_18 rfl (lv_at hl 1 rfl) ?_
  refine xc_call (wc := pw hx hc hh (lpMove u0 2 0, lpTake u1, ea)) (wr := []) (st1 := []) (va_runV (As := []) (rest := []) ⟨hx_, hb, hml, hown, hts⟩ (c_followHelper l dC dI hx hc hh H.size (lpMove u0 2 0) (lpTake u1) ea) (cwV 0 hts (gd_V wa_c k_ml_X0_32 k_im_X0_followHelper k_se_X0_followHelper k_in_X0 k_co_X0_followHelper) rfl rfl rfl (by decide +kernel) ⟨Nat.le_of_ble_eq_true rfl, Nat.le_of_ble_eq_true rfl⟩) (xc_preV (q0 := 0) (C := RX0) hK hP hD hZ rfl rfl) rfl rfl hl.1 rfl (lv_room (Nat.le_of_ble_eq_true rfl)) dX0_takeFromHelper_19 ⟨Nat.zero_le _, Nat.zero_le _⟩) hP hD hS hA [0, 1, 2] [] rfl rfl (by decide) (by decide) rfl (fun H locs hP hD hS _ => ?_)
  have hP : va_P (dC, dI) vwCl (pw hx hc hh (lpFol (lpMove u0 2 0) (lpTake u1), lpTake u1, ea)) H := hP
  have hD : va_D A (pw hx hc hh (lpFol (lpMove u0 2 0) (lpTake u1), lpTake u1, ea)) := hD
  refine lv_aload_n hx_ hb dX0_takeFromHelper_22 rfl (lv_at hl 1 rfl) ?_
  refine va_get (D := (dC, dI)) (ci := 0) (v := .ref hh) (C := RX0) (T := TX0) (N := 3) hx_ hb hts hin_RX0 hown hK hP 0 rfl rfl 1 (by decide) hlk_18 (fun _ h9 => h9) rfl dX0_takeFromHelper_23 ?_
  refine lv_iload_n hx_ hb dX0_takeFromHelper_26 rfl (lv_at hl 0 rfl) ?_
  refine xr_call (st1 := [.int (lpNum (lpTake u1) (lpDel u1))]) ((va_runVN (As := [.int (lpDel u1)]) (rest := []) ⟨hx_, hb, hml, hown, hts⟩ (c_numberOf l dC dI hh (lpTake u1) (lpDel u1)) ⟨va_cnB 1 hts (gd_0 wa_c k_co_X1_numberOf) rfl rfl rfl hml_67 (hts _ (List.mem_cons_of_mem _ k_in_X1)) (by decide +kernel) ⟨Nat.le_of_ble_eq_true rfl, Nat.le_of_ble_eq_true rfl⟩, hts _ (List.mem_cons_of_mem _ k_im_X1_numberOf), hts _ (List.mem_cons_of_mem _ k_se_X1_numberOf)⟩ (xr_preV (q0 := 0) (C := RX1) hK (hP.sub (ws' := cw1 hh (lpTake u1)) [2] rfl) xz_Z.nil rfl rfl) rfl rfl hl.1 rfl (lv_room (Nat.le_of_ble_eq_true rfl)) dX0_takeFromHelper_27 ⟨Nat.zero_le _, Nat.zero_le _⟩).run) rfl ?_
  exact xc_iret (wf := pw hx hc hh) hx_ hb hr hlocks dX0_takeFromHelper_30 hK hP hD hS (by first | (simp only [lpTFH, lpTFHr]; done) | rfl | (simp_all [lpTFH, lpTFHr]; done)) (by first | (simp only [lpTFH, lpTFHr]; done) | rfl | (simp_all [lpTFH, lpTFHr]; done))

set_option maxHeartbeats 4000000 in
set_option maxRecDepth 100000 in
theorem c_take (l : Launch) (dC : Nat → ClassId) (dI : Nat → Nat → Nat) (hx hc hh : Nat) (sz : Nat) (u0 u1 : Nat → Int32) (ea : Int32) : xc_M l yX0_take wsX0_take ({ frames := 5, cells := 0, slots := 0, locals := 108 }) [.ref hx] sz (dC, dI) vwCl [] pz (pw hx hc hh (u0, u1, ea)) (some (.int (lpTkr u0 u1))) (pw hx hc hh (lpTk u0 u1 ea)) 0 0 := by
  refine Met.ofW (cc := cX0_take) (maxL := 2) (ret := (some .int)) (by decide) rfl ?_
  intro p e s m args below meth c s₁ B hml hv
  obtain ⟨rfl, hsz, hP, hK, hD0, hZ⟩ := hv
  have hx_ := B.exec
  have hb := B.bytes
  have hr := B.returns
  have hts := atoms_spec (ws := wsX0_take) B.pre
  have hown : s.vm.findClass RX0 = some m.cls := findClass_of_methodNamed B.named
  have hlocks := B.notSynchronized
  subst hsz
  have hD := hD0.self (sz := s.heap.size)
  generalize hAe : va_A (pw hx hc hh (u0, u1, ea)) s.heap.size = A at hD ⊢
  have hA : ∀ q : Nat, s.heap.size ≤ q → A q := fun q h => by rw [← hAe]; exact Or.inr h
  have hS : va_S A s.heap s.heap [] := va_S.rf
  have hin_RX0 : ∀ w ∈ u_ws RX0 TX0 3, w ∈ wsX0_take := fun w h => List.mem_cons_of_mem _ (u_X0 w h)
  have hlk_14 := hts _ (List.mem_cons_of_mem _ k_fl_X0_14)
  have hlk_21 := hts _ (List.mem_cons_of_mem _ k_fl_X0_21)
  have hml_61 : va_Nw (.methodLinkNest RX0 61 yX1_takeDelivered "LinePair") s := hZ.2 _ (by decide +kernel)
  have hml_67 : va_Nw (.methodLinkNest RX0 67 yX1_numberOf "LinePair") s := hZ.2 _ (by decide +kernel)
  have hl := lv_entry ([.ref hx]) (n := 2) (Nat.le_of_ble_eq_true rfl)
  rw [lg_entry_eq]
  generalize (lg_sl ([.ref hx]) ++ List.replicate (2 - (lg_sl ([.ref hx])).length) Slot.unset).toArray = ls at hl ⊢
  have hl : lv_has ls 2 [(0, .ref hx)] := hl
  refine lv_aload_n hx_ hb dX0_take_0 rfl (lv_at hl 0 rfl) ?_
  refine va_get (D := (dC, dI)) (ci := 0) (v := .ref hc) (C := RX0) (T := TX0) (N := 3) hx_ hb hts hin_RX0 hown hK hP 0 rfl rfl 0 (by decide) hlk_14 (fun _ h9 => h9) rfl dX0_take_1 ?_
  refine xc_call (wc := cw1 hc u0) (wr := [(hx, .inr (0, [.ref hc, .ref hh, .int ea])), (hh, .inr (1, lpF u1))]) (st1 := [.int (lpDel u0)]) (va_runVN (As := []) (rest := []) ⟨hx_, hb, hml, hown, hts⟩ (c_takeDelivered l dC dI hc s.heap.size u0) ⟨va_cnB 0 hts (gd_0 wa_c k_co_X1_takeDelivered) rfl rfl rfl hml_61 (hts _ (List.mem_cons_of_mem _ k_in_X1)) (by decide +kernel) ⟨Nat.le_of_ble_eq_true rfl, Nat.le_of_ble_eq_true rfl⟩, hts _ (List.mem_cons_of_mem _ k_im_X1_takeDelivered), hts _ (List.mem_cons_of_mem _ k_se_X1_takeDelivered)⟩ (xc_preV (q0 := 0) (C := RX1) hK (hP.sub (ws' := cw1 hc u0) [1] rfl) (hD.sub (ws' := cw1 hc u0) [1] (by decide) rfl) xz_Z.nil rfl rfl) rfl rfl hl.1 rfl (lv_room (Nat.le_of_ble_eq_true rfl)) dX0_take_4 ⟨Nat.zero_le _, Nat.zero_le _⟩) hP hD hS hA [1] [0, 2] rfl rfl (by decide) (by decide) rfl (fun H locs hP hD hS _ => ?_)
  have hP := hP.sub (ws' := pw hx hc hh (lpTake u0, u1, ea)) [0, 2, 1] rfl
  have hD := hD.sub (ws' := pw hx hc hh (lpTake u0, u1, ea)) [0, 2, 1] (by decide) rfl
  refine lv_istore_n (lv' := [(1, .int (lpDel u0)), (0, .ref hx)]) hx_ hb dX0_take_7 rfl hl (by decide) rfl (fun ls hl => ?_)
  refine lv_iload_n hx_ hb dX0_take_8 rfl (lv_at hl 0 rfl) ?_
  refine lv_iconst (v := -1) hx_ hb dX0_take_9 (by decide) ?_
  refine lv_icmp_ne (tgt := 23) hx_ hb dX0_take_10 (by decide) (fun h1 => ?_) (fun h1 => ?_)
  · refine lv_iload_n hx_ hb dX0_take_23 rfl (lv_at hl 0 rfl) ?_
    refine lv_iconst (v := 2) hx_ hb dX0_take_24 (by decide) ?_
    refine lv_icmp_ne (tgt := 35) hx_ hb dX0_take_25 (by decide) (fun h2 => ?_) (fun h2 => ?_)
    · refine lv_aload_n hx_ hb dX0_take_35 rfl (lv_at hl 1 rfl) ?_
      refine va_get (D := (dC, dI)) (ci := 0) (v := .ref hc) (C := RX0) (T := TX0) (N := 3) hx_ hb hts hin_RX0 hown hK hP 0 rfl rfl 0 (by decide) hlk_14 (fun _ h9 => h9) rfl dX0_take_36 ?_
      refine lv_iload_n hx_ hb dX0_take_39 rfl (lv_at hl 0 rfl) ?_
      refine xr_call (st1 := [.int (lpNum (lpTake u0) (lpDel u0))]) ((va_runVN (As := [.int (lpDel u0)]) (rest := []) ⟨hx_, hb, hml, hown, hts⟩ (c_numberOf l dC dI hc (lpTake u0) (lpDel u0)) ⟨va_cnB 1 hts (gd_0 wa_c k_co_X1_numberOf) rfl rfl rfl hml_67 (hts _ (List.mem_cons_of_mem _ k_in_X1)) (by decide +kernel) ⟨Nat.le_of_ble_eq_true rfl, Nat.le_of_ble_eq_true rfl⟩, hts _ (List.mem_cons_of_mem _ k_im_X1_numberOf), hts _ (List.mem_cons_of_mem _ k_se_X1_numberOf)⟩ (xr_preV (q0 := 0) (C := RX1) hK (hP.sub (ws' := cw1 hc (lpTake u0)) [1] rfl) xz_Z.nil rfl rfl) rfl rfl hl.1 rfl (lv_room (Nat.le_of_ble_eq_true rfl)) dX0_take_40 ⟨Nat.zero_le _, Nat.zero_le _⟩).run) rfl ?_
      exact xc_iret (wf := pw hx hc hh) hx_ hb hr hlocks dX0_take_43 hK hP hD hS (by first | (simp only [lpTk, lpTkr, if_neg h1, if_pos h1, if_neg h2, if_pos h2]; done) | rfl | (simp only [lpTk, lpTkr]; simp only [if_neg h1, if_pos h1, if_neg h2, if_pos h2]; done) | (simp_all [lpTk, lpTkr]; done)) (by first | (simp only [lpTk, lpTkr, if_neg h1, if_pos h1, if_neg h2, if_pos h2]; done) | rfl | (simp only [lpTk, lpTkr]; simp only [if_neg h1, if_pos h1, if_neg h2, if_pos h2]; done) | (simp_all [lpTk, lpTkr]; done))
    · refine lv_aload_n hx_ hb dX0_take_28 rfl (lv_at hl 1 rfl) ?_
      refine xc_call (wc := pw hx hc hh (lpTake u0, u1, ea)) (wr := []) (st1 := [.int (lpTFHr u1)]) (va_runV (As := []) (rest := []) ⟨hx_, hb, hml, hown, hts⟩ (c_takeFromHelper l dC dI hx hc hh H.size (lpTake u0) u1 ea) (cwV 0 hts (gd_V wa_c k_ml_X0_64 k_im_X0_takeFromHelper k_se_X0_takeFromHelper k_in_X0 k_co_X0_takeFromHelper) rfl rfl rfl (by decide +kernel) ⟨Nat.le_of_ble_eq_true rfl, Nat.le_of_ble_eq_true rfl⟩) (xc_preV (q0 := 0) (C := RX0) hK hP hD hZ rfl rfl) rfl rfl hl.1 rfl (lv_room (Nat.le_of_ble_eq_true rfl)) dX0_take_29 ⟨Nat.zero_le _, Nat.zero_le _⟩) hP hD hS hA [0, 1, 2] [] rfl rfl (by decide) (by decide) rfl (fun H locs hP hD hS _ => ?_)
      have hP : va_P (dC, dI) vwCl (pw hx hc hh ((lpTFH (lpTake u0) u1 ea).1, (lpTFH (lpTake u0) u1 ea).2.1, (lpTFH (lpTake u0) u1 ea).2.2)) H := hP
      have hD : va_D A (pw hx hc hh ((lpTFH (lpTake u0) u1 ea).1, (lpTFH (lpTake u0) u1 ea).2.1, (lpTFH (lpTake u0) u1 ea).2.2)) := hD
      refine lv_goto (tgt := 43) hx_ hb dX0_take_32 (by decide) ?_
      exact xc_iret (wf := pw hx hc hh) hx_ hb hr hlocks dX0_take_43 hK hP hD hS (by first | (simp only [lpTk, lpTkr, if_neg h1, if_pos h1, if_pos h2, if_neg (not_not_intro h2)]; done) | rfl | (simp only [lpTk, lpTkr]; simp only [if_neg h1, if_pos h1, if_pos h2, if_neg (not_not_intro h2)]; done) | (simp_all [lpTk, lpTkr]; done)) (by first | (simp only [lpTk, lpTkr, if_neg h1, if_pos h1, if_pos h2, if_neg (not_not_intro h2)]; done) | rfl | (simp only [lpTk, lpTkr]; simp only [if_neg h1, if_pos h1, if_pos h2, if_neg (not_not_intro h2)]; done) | (simp_all [lpTk, lpTkr]; done))
  · refine lv_aload_n hx_ hb dX0_take_13 rfl (lv_at hl 1 rfl) ?_
    refine lv_dup hx_ hb dX0_take_14 rfl ?_
    refine va_get (D := (dC, dI)) (ci := 0) (v := .int ea) (C := RX0) (T := TX0) (N := 3) hx_ hb hts hin_RX0 hown hK hP 0 rfl rfl 2 (by decide) hlk_21 (fun _ h9 => h9) rfl dX0_take_15 ?_
    refine lv_iconst (v := 1) hx_ hb dX0_take_18 (by decide) ?_
    refine lv_iadd hx_ hb dX0_take_19 ?_
    refine va_put (D := (dC, dI)) (ci := 0) (v := .int (ea + 1)) (ty := .int) (C := RX0) (T := TX0) (N := 3) hx_ hb hts hin_RX0 tyX0 tyX0_ok nX0 hown hK hP hD hS 0 rfl rfl 2 (by decide) hlk_21 (fun _ h9 => h9) rfl (by decide +kernel) rfl rfl (Nat.le_of_ble_eq_true rfl) dX0_take_20 (fun H locs hP hD hS => ?_)
    have hP : va_P (dC, dI) vwCl (pw hx hc hh (lpTake u0, u1, ea + 1)) H := hP
    have hD : va_D A (pw hx hc hh (lpTake u0, u1, ea + 1)) := hD
    refine lv_iload_n hx_ hb dX0_take_23 rfl (lv_at hl 0 rfl) ?_
    refine lv_iconst (v := 2) hx_ hb dX0_take_24 (by decide) ?_
    refine lv_icmp_ne (tgt := 35) hx_ hb dX0_take_25 (by decide) (fun h3 => ?_) (fun h3 => ?_)
    · refine lv_aload_n hx_ hb dX0_take_35 rfl (lv_at hl 1 rfl) ?_
      refine va_get (D := (dC, dI)) (ci := 0) (v := .ref hc) (C := RX0) (T := TX0) (N := 3) hx_ hb hts hin_RX0 hown hK hP 0 rfl rfl 0 (by decide) hlk_14 (fun _ h9 => h9) rfl dX0_take_36 ?_
      refine lv_iload_n hx_ hb dX0_take_39 rfl (lv_at hl 0 rfl) ?_
      refine xr_call (st1 := [.int (lpNum (lpTake u0) (lpDel u0))]) ((va_runVN (As := [.int (lpDel u0)]) (rest := []) ⟨hx_, hb, hml, hown, hts⟩ (c_numberOf l dC dI hc (lpTake u0) (lpDel u0)) ⟨va_cnB 1 hts (gd_0 wa_c k_co_X1_numberOf) rfl rfl rfl hml_67 (hts _ (List.mem_cons_of_mem _ k_in_X1)) (by decide +kernel) ⟨Nat.le_of_ble_eq_true rfl, Nat.le_of_ble_eq_true rfl⟩, hts _ (List.mem_cons_of_mem _ k_im_X1_numberOf), hts _ (List.mem_cons_of_mem _ k_se_X1_numberOf)⟩ (xr_preV (q0 := 0) (C := RX1) hK (hP.sub (ws' := cw1 hc (lpTake u0)) [1] rfl) xz_Z.nil rfl rfl) rfl rfl hl.1 rfl (lv_room (Nat.le_of_ble_eq_true rfl)) dX0_take_40 ⟨Nat.zero_le _, Nat.zero_le _⟩).run) rfl ?_
      exact xc_iret (wf := pw hx hc hh) hx_ hb hr hlocks dX0_take_43 hK hP hD hS (by first | (simp only [lpTk, lpTkr, if_pos h1, if_neg (not_not_intro h1), if_neg h3, if_pos h3]; done) | rfl | (simp only [lpTk, lpTkr]; simp only [if_pos h1, if_neg (not_not_intro h1), if_neg h3, if_pos h3]; done) | (simp_all [lpTk, lpTkr]; done)) (by first | (simp only [lpTk, lpTkr, if_pos h1, if_neg (not_not_intro h1), if_neg h3, if_pos h3]; done) | rfl | (simp only [lpTk, lpTkr]; simp only [if_pos h1, if_neg (not_not_intro h1), if_neg h3, if_pos h3]; done) | (simp_all [lpTk, lpTkr]; done))
    · refine lv_aload_n hx_ hb dX0_take_28 rfl (lv_at hl 1 rfl) ?_
      refine xc_call (wc := pw hx hc hh (lpTake u0, u1, ea + 1)) (wr := []) (st1 := [.int (lpTFHr u1)]) (va_runV (As := []) (rest := []) ⟨hx_, hb, hml, hown, hts⟩ (c_takeFromHelper l dC dI hx hc hh H.size (lpTake u0) u1 (ea + 1)) (cwV 0 hts (gd_V wa_c k_ml_X0_64 k_im_X0_takeFromHelper k_se_X0_takeFromHelper k_in_X0 k_co_X0_takeFromHelper) rfl rfl rfl (by decide +kernel) ⟨Nat.le_of_ble_eq_true rfl, Nat.le_of_ble_eq_true rfl⟩) (xc_preV (q0 := 0) (C := RX0) hK hP hD hZ rfl rfl) rfl rfl hl.1 rfl (lv_room (Nat.le_of_ble_eq_true rfl)) dX0_take_29 ⟨Nat.zero_le _, Nat.zero_le _⟩) hP hD hS hA [0, 1, 2] [] rfl rfl (by decide) (by decide) rfl (fun H locs hP hD hS _ => ?_)
      have hP : va_P (dC, dI) vwCl (pw hx hc hh ((lpTFH (lpTake u0) u1 (ea + 1)).1, (lpTFH (lpTake u0) u1 (ea + 1)).2.1, (lpTFH (lpTake u0) u1 (ea + 1)).2.2)) H := hP
      have hD : va_D A (pw hx hc hh ((lpTFH (lpTake u0) u1 (ea + 1)).1, (lpTFH (lpTake u0) u1 (ea + 1)).2.1, (lpTFH (lpTake u0) u1 (ea + 1)).2.2)) := hD
      refine lv_goto (tgt := 43) hx_ hb dX0_take_32 (by decide) ?_
      exact xc_iret (wf := pw hx hc hh) hx_ hb hr hlocks dX0_take_43 hK hP hD hS (by first | (simp only [lpTk, lpTkr, if_pos h1, if_neg (not_not_intro h1), if_pos h3, if_neg (not_not_intro h3)]; done) | rfl | (simp only [lpTk, lpTkr]; simp only [if_pos h1, if_neg (not_not_intro h1), if_pos h3, if_neg (not_not_intro h3)]; done) | (simp_all [lpTk, lpTkr]; done)) (by first | (simp only [lpTk, lpTkr, if_pos h1, if_neg (not_not_intro h1), if_pos h3, if_neg (not_not_intro h3)]; done) | rfl | (simp only [lpTk, lpTkr]; simp only [if_pos h1, if_neg (not_not_intro h1), if_pos h3, if_neg (not_not_intro h3)]; done) | (simp_all [lpTk, lpTkr]; done))

set_option maxHeartbeats 4000000 in
set_option maxRecDepth 100000 in
theorem c_line (l : Launch) (dC : Nat → ClassId) (dI : Nat → Nat → Nat) (hx hc hh : Nat) (sz : Nat) (u0 u1 : Nat → Int32) (ea : Int32) (k t : Int32) (hk0 : ¬ k < 0) (hk1 : ¬ 16 ≤ k) (hk2 : ¬ k = 2) : xc_M l yX0_line wsX0_line ({ frames := 4, cells := 0, slots := 0, locals := 86 }) [.ref hx, .int k, .int t] sz (dC, dI) vwCl [] pz (pw hx hc hh (u0, u1, ea)) (some (.int (lpLnr u0 u1 k t))) (pw hx hc hh (lpLn u0 u1 ea k t)) 0 0 := by
  refine Met.ofW (cc := cX0_line) (maxL := 4) (ret := (some .boolean)) (by decide) rfl ?_
  intro p e s m args below meth c s₁ B hml hv
  obtain ⟨rfl, hsz, hP, hK, hD0, hZ⟩ := hv
  have hx_ := B.exec
  have hb := B.bytes
  have hr := B.returns
  have hts := atoms_spec (ws := wsX0_line) B.pre
  have hown : s.vm.findClass RX0 = some m.cls := findClass_of_methodNamed B.named
  have hlocks := B.notSynchronized
  subst hsz
  have hD := hD0.self (sz := s.heap.size)
  generalize hAe : va_A (pw hx hc hh (u0, u1, ea)) s.heap.size = A at hD ⊢
  have hA : ∀ q : Nat, s.heap.size ≤ q → A q := fun q h => by rw [← hAe]; exact Or.inr h
  have hS : va_S A s.heap s.heap [] := va_S.rf
  have hin_RX0 : ∀ w ∈ u_ws RX0 TX0 3, w ∈ wsX0_line := fun w h => List.mem_cons_of_mem _ (u_X0 w h)
  have hlk_14 := hts _ (List.mem_cons_of_mem _ k_fl_X0_14)
  have hlk_18 := hts _ (List.mem_cons_of_mem _ k_fl_X0_18)
  have hml_28 : va_Nw (.methodLinkNest RX0 28 yX1_moveLine "LinePair") s := hZ.2 _ (by decide +kernel)
  have hl := lv_entry ([.ref hx, .int k, .int t]) (n := 4) (Nat.le_of_ble_eq_true rfl)
  rw [lg_entry_eq]
  generalize (lg_sl ([.ref hx, .int k, .int t]) ++ List.replicate (4 - (lg_sl ([.ref hx, .int k, .int t])).length) Slot.unset).toArray = ls at hl ⊢
  have hl : lv_has ls 4 [(0, .ref hx), (1, .int k), (2, .int t)] := hl
  refine lv_iload_n hx_ hb dX0_line_0 rfl (lv_at hl 1 rfl) ?_
  refine lv_if_lt (tgt := 15) hx_ hb dX0_line_1 (by decide) (fun h => absurd h hk0) (fun _ => ?_)
  refine lv_iload_n hx_ hb dX0_line_4 rfl (lv_at hl 1 rfl) ?_
  refine lv_bipush (v := 16) hx_ hb dX0_line_5 (by decide) ?_
  refine lv_icmp_ge (tgt := 15) hx_ hb dX0_line_7 (by decide) (fun h => absurd h hk1) (fun _ => ?_)
  refine lv_iload_n hx_ hb dX0_line_10 rfl (lv_at hl 1 rfl) ?_
  refine lv_iconst (v := 2) hx_ hb dX0_line_11 (by decide) ?_
  refine lv_icmp_ne (tgt := 23) hx_ hb dX0_line_12 (by decide) (fun _ => ?_) (fun h => absurd h hk2)
  refine lv_iload_n hx_ hb dX0_line_23 rfl (lv_at hl 1 rfl) ?_
  refine lv_bipush (v := 8) hx_ hb dX0_line_24 (by decide) ?_
  refine lv_icmp_ge (tgt := 41) hx_ hb dX0_line_26 (by decide) (fun h1 => ?_) (fun h1 => ?_)
  · refine lv_aload_n hx_ hb dX0_line_41 rfl (lv_at hl 0 rfl) ?_
    refine va_get (D := (dC, dI)) (ci := 0) (v := .ref hh) (C := RX0) (T := TX0) (N := 3) hx_ hb hts hin_RX0 hown hK hP 0 rfl rfl 1 (by decide) hlk_18 (fun _ h9 => h9) rfl dX0_line_42 ?_
    refine lv_iload_n hx_ hb dX0_line_45 rfl (lv_at hl 1 rfl) ?_
    refine lv_bipush (v := 8) hx_ hb dX0_line_46 (by decide) ?_
    refine lv_isub hx_ hb dX0_line_48 ?_
    refine lv_iload_n hx_ hb dX0_line_49 rfl (lv_at hl 2 rfl) ?_
    refine xc_call (wc := cw1 hh u1) (wr := [(hx, .inr (0, [.ref hc, .ref hh, .int ea])), (hc, .inr (1, lpF u0))]) (st1 := [.int (lpMoveR u1 (k - 8) t)]) (va_runVN (As := [.int (k - 8), .int t]) (rest := []) ⟨hx_, hb, hml, hown, hts⟩ (c_moveLine l dC dI hh s.heap.size u1 (k - 8) t) ⟨va_cnB 2 hts (gd_0 wa_c k_co_X1_moveLine) rfl rfl rfl hml_28 (hts _ (List.mem_cons_of_mem _ k_in_X1)) (by decide +kernel) ⟨Nat.le_of_ble_eq_true rfl, Nat.le_of_ble_eq_true rfl⟩, hts _ (List.mem_cons_of_mem _ k_im_X1_moveLine), hts _ (List.mem_cons_of_mem _ k_se_X1_moveLine)⟩ (xc_preV (q0 := 0) (C := RX1) hK (hP.sub (ws' := cw1 hh u1) [2] rfl) (hD.sub (ws' := cw1 hh u1) [2] (by decide) rfl) xz_Z.nil rfl rfl) rfl rfl hl.1 rfl (lv_room (Nat.le_of_ble_eq_true rfl)) dX0_line_50 ⟨Nat.zero_le _, Nat.zero_le _⟩) hP hD hS hA [2] [0, 1] rfl rfl (by decide) (by decide) rfl (fun H locs hP hD hS _ => ?_)
    have hP := hP.sub (ws' := pw hx hc hh (u0, lpMove u1 (k - 8) t, ea)) [0, 1, 2] rfl
    have hD := hD.sub (ws' := pw hx hc hh (u0, lpMove u1 (k - 8) t, ea)) [0, 1, 2] (by decide) rfl
    refine lv_istore_n (lv' := [(3, .int (lpMoveR u1 (k - 8) t)), (0, .ref hx), (1, .int k), (2, .int t)]) hx_ hb dX0_line_53 rfl hl (by decide) rfl (fun ls hl => ?_)
    refine lv_aload_n hx_ hb dX0_line_54 rfl (lv_at hl 1 rfl) ?_
    refine xc_call (wc := pw hx hc hh (u0, lpMove u1 (k - 8) t, ea)) (wr := []) (st1 := []) (va_runV (As := []) (rest := []) ⟨hx_, hb, hml, hown, hts⟩ (c_followHelper l dC dI hx hc hh H.size u0 (lpMove u1 (k - 8) t) ea) (cwV 0 hts (gd_V wa_c k_ml_X0_32 k_im_X0_followHelper k_se_X0_followHelper k_in_X0 k_co_X0_followHelper) rfl rfl rfl (by decide +kernel) ⟨Nat.le_of_ble_eq_true rfl, Nat.le_of_ble_eq_true rfl⟩) (xc_preV (q0 := 0) (C := RX0) hK hP hD hZ rfl rfl) rfl rfl hl.1 rfl (lv_room (Nat.le_of_ble_eq_true rfl)) dX0_line_55 ⟨Nat.zero_le _, Nat.zero_le _⟩) hP hD hS hA [0, 1, 2] [] rfl rfl (by decide) (by decide) rfl (fun H locs hP hD hS _ => ?_)
    have hP : va_P (dC, dI) vwCl (pw hx hc hh (lpFol u0 (lpMove u1 (k - 8) t), lpMove u1 (k - 8) t, ea)) H := hP
    have hD : va_D A (pw hx hc hh (lpFol u0 (lpMove u1 (k - 8) t), lpMove u1 (k - 8) t, ea)) := hD
    refine lv_iload_n hx_ hb dX0_line_58 rfl (lv_at hl 0 rfl) ?_
    exact xc_zret (wf := pw hx hc hh) hx_ hb hr hlocks dX0_line_59 hK hP hD hS (lpMoveR_nar _ _ _) (by first | (simp only [lpLn, lpLnr, if_neg hk0, if_pos hk0, if_neg hk1, if_pos hk1, if_neg hk2, if_pos hk2, if_pos h1, if_neg (not_not_intro h1)]; done) | rfl | (simp only [lpLn, lpLnr]; simp only [if_neg hk0, if_pos hk0, if_neg hk1, if_pos hk1, if_neg hk2, if_pos hk2, if_pos h1, if_neg (not_not_intro h1)]; done) | (simp_all [lpLn, lpLnr]; done)) (by first | (simp only [lpLn, lpLnr, if_neg hk0, if_pos hk0, if_neg hk1, if_pos hk1, if_neg hk2, if_pos hk2, if_pos h1, if_neg (not_not_intro h1)]; done) | rfl | (simp only [lpLn, lpLnr]; simp only [if_neg hk0, if_pos hk0, if_neg hk1, if_pos hk1, if_neg hk2, if_pos hk2, if_pos h1, if_neg (not_not_intro h1)]; done) | (simp_all [lpLn, lpLnr]; done))
  · refine lv_aload_n hx_ hb dX0_line_29 rfl (lv_at hl 0 rfl) ?_
    refine va_get (D := (dC, dI)) (ci := 0) (v := .ref hc) (C := RX0) (T := TX0) (N := 3) hx_ hb hts hin_RX0 hown hK hP 0 rfl rfl 0 (by decide) hlk_14 (fun _ h9 => h9) rfl dX0_line_30 ?_
    refine lv_iload_n hx_ hb dX0_line_33 rfl (lv_at hl 1 rfl) ?_
    refine lv_iload_n hx_ hb dX0_line_34 rfl (lv_at hl 2 rfl) ?_
    refine xc_call (wc := cw1 hc u0) (wr := [(hx, .inr (0, [.ref hc, .ref hh, .int ea])), (hh, .inr (1, lpF u1))]) (st1 := [.int (lpMoveR u0 k t)]) (va_runVN (As := [.int k, .int t]) (rest := []) ⟨hx_, hb, hml, hown, hts⟩ (c_moveLine l dC dI hc s.heap.size u0 k t) ⟨va_cnB 2 hts (gd_0 wa_c k_co_X1_moveLine) rfl rfl rfl hml_28 (hts _ (List.mem_cons_of_mem _ k_in_X1)) (by decide +kernel) ⟨Nat.le_of_ble_eq_true rfl, Nat.le_of_ble_eq_true rfl⟩, hts _ (List.mem_cons_of_mem _ k_im_X1_moveLine), hts _ (List.mem_cons_of_mem _ k_se_X1_moveLine)⟩ (xc_preV (q0 := 0) (C := RX1) hK (hP.sub (ws' := cw1 hc u0) [1] rfl) (hD.sub (ws' := cw1 hc u0) [1] (by decide) rfl) xz_Z.nil rfl rfl) rfl rfl hl.1 rfl (lv_room (Nat.le_of_ble_eq_true rfl)) dX0_line_35 ⟨Nat.zero_le _, Nat.zero_le _⟩) hP hD hS hA [1] [0, 2] rfl rfl (by decide) (by decide) rfl (fun H locs hP hD hS _ => ?_)
    have hP := hP.sub (ws' := pw hx hc hh (lpMove u0 k t, u1, ea)) [0, 2, 1] rfl
    have hD := hD.sub (ws' := pw hx hc hh (lpMove u0 k t, u1, ea)) [0, 2, 1] (by decide) rfl
    refine lv_goto (tgt := 53) hx_ hb dX0_line_38 (by decide) ?_
    refine lv_istore_n (lv' := [(3, .int (lpMoveR u0 k t)), (0, .ref hx), (1, .int k), (2, .int t)]) hx_ hb dX0_line_53 rfl hl (by decide) rfl (fun ls hl => ?_)
    refine lv_aload_n hx_ hb dX0_line_54 rfl (lv_at hl 1 rfl) ?_
    refine xc_call (wc := pw hx hc hh (lpMove u0 k t, u1, ea)) (wr := []) (st1 := []) (va_runV (As := []) (rest := []) ⟨hx_, hb, hml, hown, hts⟩ (c_followHelper l dC dI hx hc hh H.size (lpMove u0 k t) u1 ea) (cwV 0 hts (gd_V wa_c k_ml_X0_32 k_im_X0_followHelper k_se_X0_followHelper k_in_X0 k_co_X0_followHelper) rfl rfl rfl (by decide +kernel) ⟨Nat.le_of_ble_eq_true rfl, Nat.le_of_ble_eq_true rfl⟩) (xc_preV (q0 := 0) (C := RX0) hK hP hD hZ rfl rfl) rfl rfl hl.1 rfl (lv_room (Nat.le_of_ble_eq_true rfl)) dX0_line_55 ⟨Nat.zero_le _, Nat.zero_le _⟩) hP hD hS hA [0, 1, 2] [] rfl rfl (by decide) (by decide) rfl (fun H locs hP hD hS _ => ?_)
    have hP : va_P (dC, dI) vwCl (pw hx hc hh (lpFol (lpMove u0 k t) u1, u1, ea)) H := hP
    have hD : va_D A (pw hx hc hh (lpFol (lpMove u0 k t) u1, u1, ea)) := hD
    refine lv_iload_n hx_ hb dX0_line_58 rfl (lv_at hl 0 rfl) ?_
    exact xc_zret (wf := pw hx hc hh) hx_ hb hr hlocks dX0_line_59 hK hP hD hS (lpMoveR_nar _ _ _) (by first | (simp only [lpLn, lpLnr, if_neg hk0, if_pos hk0, if_neg hk1, if_pos hk1, if_neg hk2, if_pos hk2, if_neg h1, if_pos h1]; done) | rfl | (simp only [lpLn, lpLnr]; simp only [if_neg hk0, if_pos hk0, if_neg hk1, if_pos hk1, if_neg hk2, if_pos hk2, if_neg h1, if_pos h1]; done) | (simp_all [lpLn, lpLnr]; done)) (by first | (simp only [lpLn, lpLnr, if_neg hk0, if_pos hk0, if_neg hk1, if_pos hk1, if_neg hk2, if_pos hk2, if_neg h1, if_pos h1]; done) | rfl | (simp only [lpLn, lpLnr]; simp only [if_neg hk0, if_pos hk0, if_neg hk1, if_pos hk1, if_neg hk2, if_pos hk2, if_neg h1, if_pos h1]; done) | (simp_all [lpLn, lpLnr]; done))

set_option maxHeartbeats 4000000 in
set_option maxRecDepth 100000 in
theorem c_write_0_0 (l : Launch) (dC : Nat → ClassId) (dI : Nat → Nat → Nat) (hx hc hh : Nat) (sz : Nat) (u0 u1 : Nat → Int32) (ea : Int32) (w : Int32) (hw0 : ¬ w < 0) (hw1 : w ≤ 255) : xc_M l yX0_write wsX0_write ({ frames := 5, cells := 0, slots := 0, locals := 108 }) [.ref hx, .int 0, .int 0, .int w] sz (dC, dI) vwCl [] pz (pw hx hc hh (u0, u1, ea)) (some (.int (lpBo (lpFol (lpP0 u0 w) u1)))) (pw hx hc hh ((lpFol (lpP0 u0 w) u1, u1, ea))) 0 0 := by
  refine Met.ofW (cc := cX0_write) (maxL := 5) (ret := (some .boolean)) (by decide) rfl ?_
  intro p e s m args below meth c s₁ B hml hv
  obtain ⟨rfl, hsz, hP, hK, hD0, hZ⟩ := hv
  have hx_ := B.exec
  have hb := B.bytes
  have hr := B.returns
  have hts := atoms_spec (ws := wsX0_write) B.pre
  have hown : s.vm.findClass RX0 = some m.cls := findClass_of_methodNamed B.named
  have hlocks := B.notSynchronized
  subst hsz
  have hD := hD0.self (sz := s.heap.size)
  generalize hAe : va_A (pw hx hc hh (u0, u1, ea)) s.heap.size = A at hD ⊢
  have hA : ∀ q : Nat, s.heap.size ≤ q → A q := fun q h => by rw [← hAe]; exact Or.inr h
  have hS : va_S A s.heap s.heap [] := va_S.rf
  have hin_RX0 : ∀ w ∈ u_ws RX0 TX0 3, w ∈ wsX0_write := fun w h => List.mem_cons_of_mem _ (u_X0 w h)
  have hlk_14 := hts _ (List.mem_cons_of_mem _ k_fl_X0_14)
  have hml_45 : va_Nw (.methodLinkNest RX0 45 yX1_acceptAtPort0 "LinePair") s := hZ.2 _ (by decide +kernel)
  have hml_48 : va_Nw (.methodLinkNest RX0 48 yX1_acceptAtPort1 "LinePair") s := hZ.2 _ (by decide +kernel)
  have hml_51 : va_Nw (.methodLinkNest RX0 51 yX1_lineToDeliver "LinePair") s := hZ.2 _ (by decide +kernel)
  have hl := lv_entry ([.ref hx, .int 0, .int 0, .int w]) (n := 5) (Nat.le_of_ble_eq_true rfl)
  rw [lg_entry_eq]
  generalize (lg_sl ([.ref hx, .int 0, .int 0, .int w]) ++ List.replicate (5 - (lg_sl ([.ref hx, .int 0, .int 0, .int w])).length) Slot.unset).toArray = ls at hl ⊢
  have hl : lv_has ls 5 [(0, .ref hx), (1, .int 0), (2, .int 0), (3, .int w)] := hl
  refine lv_aload_n hx_ hb dX0_write_0 rfl (lv_at hl 0 rfl) ?_
  refine lv_iload_n hx_ hb dX0_write_1 rfl (lv_at hl 1 rfl) ?_
  refine xr_call (st1 := [.ref hc]) (W.runV (As := [.int 0]) (rest := []) ⟨hx_, hb, hml, hown, hts⟩ (c_controllerNumbered_0 l dC dI hx hc hh u0 u1 ea) (cwV 1 hts (gd_V wa_c k_ml_X0_35 k_im_X0_controllerNumbered k_se_X0_controllerNumbered k_in_X0 k_co_X0_controllerNumbered) rfl rfl rfl (by decide +kernel) ⟨Nat.le_of_ble_eq_true rfl, Nat.le_of_ble_eq_true rfl⟩) (xr_preV (q0 := 0) (C := RX0) hK hP hZ rfl rfl) rfl rfl hl.1 rfl (lv_room (Nat.le_of_ble_eq_true rfl)) dX0_write_2 ⟨Nat.zero_le _, Nat.zero_le _⟩) rfl ?_
  refine lv_astore (lv' := [(4, .ref hc), (0, .ref hx), (1, .int 0), (2, .int 0), (3, .int w)]) hx_ hb dX0_write_5 hl (by decide) rfl (fun ls hl => ?_)
  refine lv_aload_n hx_ hb dX0_write_7 rfl (lv_at hl 1 rfl) ?_
  refine lv_iload_n hx_ hb dX0_write_8 rfl (lv_at hl 3 rfl) ?_
  refine xr_call (st1 := []) (W.runV (As := [.int 0]) (rest := []) ⟨hx_, hb, hml, hown, hts⟩ (c_checkPort_0 l dC dI hx hc hh u0 u1 ea) (cwV 1 hts (gd_V wa_c k_ml_X0_39 k_im_X0_checkPort k_se_X0_checkPort k_in_X0 k_co_X0_checkPort) rfl rfl rfl (by decide +kernel) ⟨Nat.le_of_ble_eq_true rfl, Nat.le_of_ble_eq_true rfl⟩) (xr_preV (q0 := 0) (C := RX0) hK hP hZ rfl rfl) rfl rfl hl.1 rfl (lv_room (Nat.le_of_ble_eq_true rfl)) dX0_write_9 ⟨Nat.zero_le _, Nat.zero_le _⟩) rfl ?_
  refine lv_iload_n hx_ hb dX0_write_12 rfl (lv_at hl 4 rfl) ?_
  refine lv_if_lt (tgt := 23) hx_ hb dX0_write_13 (by decide) (fun h => absurd h hw0) (fun _ => ?_)
  refine lv_iload_n hx_ hb dX0_write_16 rfl (lv_at hl 4 rfl) ?_
  refine lv_sipush (v := 255) hx_ hb dX0_write_17 (by decide) ?_
  refine lv_icmp_le (tgt := 31) hx_ hb dX0_write_20 (by decide) (fun _ => ?_) (fun h => absurd hw1 h)
  refine lv_iload_n hx_ hb dX0_write_31 rfl (lv_at hl 3 rfl) ?_
  refine lv_if_ne (tgt := 44) hx_ hb dX0_write_32 (by decide) (fun h => absurd (by decide) h) (fun _ => ?_)
  refine lv_aload hx_ hb dX0_write_35 (lv_at hl 0 rfl) ?_
  refine lv_iload_n hx_ hb dX0_write_37 rfl (lv_at hl 4 rfl) ?_
  refine xc_call (wc := cw1 hc u0) (wr := [(hx, .inr (0, [.ref hc, .ref hh, .int ea])), (hh, .inr (1, lpF u1))]) (st1 := []) (va_runVN (As := [.int w]) (rest := []) ⟨hx_, hb, hml, hown, hts⟩ (c_acceptAtPort0 l dC dI hc s.heap.size u0 w) ⟨va_cnB 1 hts (gd_0 wa_c k_co_X1_acceptAtPort0) rfl rfl rfl hml_45 (hts _ (List.mem_cons_of_mem _ k_in_X1)) (by decide +kernel) ⟨Nat.le_of_ble_eq_true rfl, Nat.le_of_ble_eq_true rfl⟩, hts _ (List.mem_cons_of_mem _ k_im_X1_acceptAtPort0), hts _ (List.mem_cons_of_mem _ k_se_X1_acceptAtPort0)⟩ (xc_preV (q0 := 0) (C := RX1) hK (hP.sub (ws' := cw1 hc u0) [1] rfl) (hD.sub (ws' := cw1 hc u0) [1] (by decide) rfl) xz_Z.nil rfl rfl) rfl rfl hl.1 rfl (lv_room (Nat.le_of_ble_eq_true rfl)) dX0_write_38 ⟨Nat.zero_le _, Nat.zero_le _⟩) hP hD hS hA [1] [0, 2] rfl rfl (by decide) (by decide) rfl (fun H locs hP hD hS _ => ?_)
  have hP := hP.sub (ws' := pw hx hc hh (lpP0 u0 w, u1, ea)) [0, 2, 1] rfl
  have hD := hD.sub (ws' := pw hx hc hh (lpP0 u0 w, u1, ea)) [0, 2, 1] (by decide) rfl
  refine lv_goto (tgt := 50) hx_ hb dX0_write_41 (by decide) ?_
  refine lv_aload_n hx_ hb dX0_write_50 rfl (lv_at hl 1 rfl) ?_
  refine xc_call (wc := pw hx hc hh (lpP0 u0 w, u1, ea)) (wr := []) (st1 := []) (va_runV (As := []) (rest := []) ⟨hx_, hb, hml, hown, hts⟩ (c_followHelper l dC dI hx hc hh H.size (lpP0 u0 w) u1 ea) (cwV 0 hts (gd_V wa_c k_ml_X0_32 k_im_X0_followHelper k_se_X0_followHelper k_in_X0 k_co_X0_followHelper) rfl rfl rfl (by decide +kernel) ⟨Nat.le_of_ble_eq_true rfl, Nat.le_of_ble_eq_true rfl⟩) (xc_preV (q0 := 0) (C := RX0) hK hP hD hZ rfl rfl) rfl rfl hl.1 rfl (lv_room (Nat.le_of_ble_eq_true rfl)) dX0_write_51 ⟨Nat.zero_le _, Nat.zero_le _⟩) hP hD hS hA [0, 1, 2] [] rfl rfl (by decide) (by decide) rfl (fun H locs hP hD hS _ => ?_)
  have hP : va_P (dC, dI) vwCl (pw hx hc hh (lpFol (lpP0 u0 w) u1, u1, ea)) H := hP
  have hD : va_D A (pw hx hc hh (lpFol (lpP0 u0 w) u1, u1, ea)) := hD
  refine lv_aload_n hx_ hb dX0_write_54 rfl (lv_at hl 1 rfl) ?_
  refine va_get (D := (dC, dI)) (ci := 0) (v := .ref hc) (C := RX0) (T := TX0) (N := 3) hx_ hb hts hin_RX0 hown hK hP 0 rfl rfl 0 (by decide) hlk_14 (fun _ h9 => h9) rfl dX0_write_55 ?_
  refine xr_call (st1 := [.int (lpDel (lpFol (lpP0 u0 w) u1))]) ((va_runVN (As := []) (rest := []) ⟨hx_, hb, hml, hown, hts⟩ (c_lineToDeliver l dC dI hc (lpFol (lpP0 u0 w) u1)) ⟨va_cnB 0 hts (gd_0 wa_c k_co_X1_lineToDeliver) rfl rfl rfl hml_51 (hts _ (List.mem_cons_of_mem _ k_in_X1)) (by decide +kernel) ⟨Nat.le_of_ble_eq_true rfl, Nat.le_of_ble_eq_true rfl⟩, hts _ (List.mem_cons_of_mem _ k_im_X1_lineToDeliver), hts _ (List.mem_cons_of_mem _ k_se_X1_lineToDeliver)⟩ (xr_preV (q0 := 0) (C := RX1) hK (hP.sub (ws' := cw1 hc (lpFol (lpP0 u0 w) u1)) [1] rfl) xz_Z.nil rfl rfl) rfl rfl hl.1 rfl (lv_room (Nat.le_of_ble_eq_true rfl)) dX0_write_58 ⟨Nat.zero_le _, Nat.zero_le _⟩).run) rfl ?_
  refine lv_iconst (v := -1) hx_ hb dX0_write_61 (by decide) ?_
  refine lv_icmp_eq (tgt := 69) hx_ hb dX0_write_62 (by decide) (fun h1 => ?_) (fun h1 => ?_)
  · refine lv_iconst (v := 0) hx_ hb dX0_write_69 (by decide) ?_
    exact xc_zret (wf := pw hx hc hh) hx_ hb hr hlocks dX0_write_70 hK hP hD hS rfl (by first | (simp only [lpBo, if_neg hw0, if_pos hw0, if_pos hw1, if_neg (not_not_intro hw1), if_pos h1, if_neg (not_not_intro h1)]; done) | rfl | (simp only [lpBo]; simp only [if_neg hw0, if_pos hw0, if_pos hw1, if_neg (not_not_intro hw1), if_pos h1, if_neg (not_not_intro h1)]; done) | (simp_all [lpBo]; done)) (by first | (simp only [lpBo, if_neg hw0, if_pos hw0, if_pos hw1, if_neg (not_not_intro hw1), if_pos h1, if_neg (not_not_intro h1)]; done) | rfl | (simp only [lpBo]; simp only [if_neg hw0, if_pos hw0, if_pos hw1, if_neg (not_not_intro hw1), if_pos h1, if_neg (not_not_intro h1)]; done) | (simp_all [lpBo]; done))
  · refine lv_iconst (v := 1) hx_ hb dX0_write_65 (by decide) ?_
    refine lv_goto (tgt := 70) hx_ hb dX0_write_66 (by decide) ?_
    exact xc_zret (wf := pw hx hc hh) hx_ hb hr hlocks dX0_write_70 hK hP hD hS rfl (by first | (simp only [lpBo, if_neg hw0, if_pos hw0, if_pos hw1, if_neg (not_not_intro hw1), if_neg h1, if_pos h1]; done) | rfl | (simp only [lpBo]; simp only [if_neg hw0, if_pos hw0, if_pos hw1, if_neg (not_not_intro hw1), if_neg h1, if_pos h1]; done) | (simp_all [lpBo]; done)) (by first | (simp only [lpBo, if_neg hw0, if_pos hw0, if_pos hw1, if_neg (not_not_intro hw1), if_neg h1, if_pos h1]; done) | rfl | (simp only [lpBo]; simp only [if_neg hw0, if_pos hw0, if_pos hw1, if_neg (not_not_intro hw1), if_neg h1, if_pos h1]; done) | (simp_all [lpBo]; done))

set_option maxHeartbeats 4000000 in
set_option maxRecDepth 100000 in
theorem c_write_0_1 (l : Launch) (dC : Nat → ClassId) (dI : Nat → Nat → Nat) (hx hc hh : Nat) (sz : Nat) (u0 u1 : Nat → Int32) (ea : Int32) (w : Int32) (hw0 : ¬ w < 0) (hw1 : w ≤ 255) : xc_M l yX0_write wsX0_write ({ frames := 5, cells := 0, slots := 0, locals := 108 }) [.ref hx, .int 0, .int 1, .int w] sz (dC, dI) vwCl [] pz (pw hx hc hh (u0, u1, ea)) (some (.int (lpBo (lpFol (lpP1 u0 w) u1)))) (pw hx hc hh ((lpFol (lpP1 u0 w) u1, u1, ea))) 0 0 := by
  refine Met.ofW (cc := cX0_write) (maxL := 5) (ret := (some .boolean)) (by decide) rfl ?_
  intro p e s m args below meth c s₁ B hml hv
  obtain ⟨rfl, hsz, hP, hK, hD0, hZ⟩ := hv
  have hx_ := B.exec
  have hb := B.bytes
  have hr := B.returns
  have hts := atoms_spec (ws := wsX0_write) B.pre
  have hown : s.vm.findClass RX0 = some m.cls := findClass_of_methodNamed B.named
  have hlocks := B.notSynchronized
  subst hsz
  have hD := hD0.self (sz := s.heap.size)
  generalize hAe : va_A (pw hx hc hh (u0, u1, ea)) s.heap.size = A at hD ⊢
  have hA : ∀ q : Nat, s.heap.size ≤ q → A q := fun q h => by rw [← hAe]; exact Or.inr h
  have hS : va_S A s.heap s.heap [] := va_S.rf
  have hin_RX0 : ∀ w ∈ u_ws RX0 TX0 3, w ∈ wsX0_write := fun w h => List.mem_cons_of_mem _ (u_X0 w h)
  have hlk_14 := hts _ (List.mem_cons_of_mem _ k_fl_X0_14)
  have hml_45 : va_Nw (.methodLinkNest RX0 45 yX1_acceptAtPort0 "LinePair") s := hZ.2 _ (by decide +kernel)
  have hml_48 : va_Nw (.methodLinkNest RX0 48 yX1_acceptAtPort1 "LinePair") s := hZ.2 _ (by decide +kernel)
  have hml_51 : va_Nw (.methodLinkNest RX0 51 yX1_lineToDeliver "LinePair") s := hZ.2 _ (by decide +kernel)
  have hl := lv_entry ([.ref hx, .int 0, .int 1, .int w]) (n := 5) (Nat.le_of_ble_eq_true rfl)
  rw [lg_entry_eq]
  generalize (lg_sl ([.ref hx, .int 0, .int 1, .int w]) ++ List.replicate (5 - (lg_sl ([.ref hx, .int 0, .int 1, .int w])).length) Slot.unset).toArray = ls at hl ⊢
  have hl : lv_has ls 5 [(0, .ref hx), (1, .int 0), (2, .int 1), (3, .int w)] := hl
  refine lv_aload_n hx_ hb dX0_write_0 rfl (lv_at hl 0 rfl) ?_
  refine lv_iload_n hx_ hb dX0_write_1 rfl (lv_at hl 1 rfl) ?_
  refine xr_call (st1 := [.ref hc]) (W.runV (As := [.int 0]) (rest := []) ⟨hx_, hb, hml, hown, hts⟩ (c_controllerNumbered_0 l dC dI hx hc hh u0 u1 ea) (cwV 1 hts (gd_V wa_c k_ml_X0_35 k_im_X0_controllerNumbered k_se_X0_controllerNumbered k_in_X0 k_co_X0_controllerNumbered) rfl rfl rfl (by decide +kernel) ⟨Nat.le_of_ble_eq_true rfl, Nat.le_of_ble_eq_true rfl⟩) (xr_preV (q0 := 0) (C := RX0) hK hP hZ rfl rfl) rfl rfl hl.1 rfl (lv_room (Nat.le_of_ble_eq_true rfl)) dX0_write_2 ⟨Nat.zero_le _, Nat.zero_le _⟩) rfl ?_
  refine lv_astore (lv' := [(4, .ref hc), (0, .ref hx), (1, .int 0), (2, .int 1), (3, .int w)]) hx_ hb dX0_write_5 hl (by decide) rfl (fun ls hl => ?_)
  refine lv_aload_n hx_ hb dX0_write_7 rfl (lv_at hl 1 rfl) ?_
  refine lv_iload_n hx_ hb dX0_write_8 rfl (lv_at hl 3 rfl) ?_
  refine xr_call (st1 := []) (W.runV (As := [.int 1]) (rest := []) ⟨hx_, hb, hml, hown, hts⟩ (c_checkPort_1 l dC dI hx hc hh u0 u1 ea) (cwV 1 hts (gd_V wa_c k_ml_X0_39 k_im_X0_checkPort k_se_X0_checkPort k_in_X0 k_co_X0_checkPort) rfl rfl rfl (by decide +kernel) ⟨Nat.le_of_ble_eq_true rfl, Nat.le_of_ble_eq_true rfl⟩) (xr_preV (q0 := 0) (C := RX0) hK hP hZ rfl rfl) rfl rfl hl.1 rfl (lv_room (Nat.le_of_ble_eq_true rfl)) dX0_write_9 ⟨Nat.zero_le _, Nat.zero_le _⟩) rfl ?_
  refine lv_iload_n hx_ hb dX0_write_12 rfl (lv_at hl 4 rfl) ?_
  refine lv_if_lt (tgt := 23) hx_ hb dX0_write_13 (by decide) (fun h => absurd h hw0) (fun _ => ?_)
  refine lv_iload_n hx_ hb dX0_write_16 rfl (lv_at hl 4 rfl) ?_
  refine lv_sipush (v := 255) hx_ hb dX0_write_17 (by decide) ?_
  refine lv_icmp_le (tgt := 31) hx_ hb dX0_write_20 (by decide) (fun _ => ?_) (fun h => absurd hw1 h)
  refine lv_iload_n hx_ hb dX0_write_31 rfl (lv_at hl 3 rfl) ?_
  refine lv_if_ne (tgt := 44) hx_ hb dX0_write_32 (by decide) (fun _ => ?_) (fun h => absurd h (by decide))
  refine lv_aload hx_ hb dX0_write_44 (lv_at hl 0 rfl) ?_
  refine lv_iload_n hx_ hb dX0_write_46 rfl (lv_at hl 4 rfl) ?_
  refine xc_call (wc := cw1 hc u0) (wr := [(hx, .inr (0, [.ref hc, .ref hh, .int ea])), (hh, .inr (1, lpF u1))]) (st1 := []) (va_runVN (As := [.int w]) (rest := []) ⟨hx_, hb, hml, hown, hts⟩ (c_acceptAtPort1 l dC dI hc s.heap.size u0 w) ⟨va_cnB 1 hts (gd_0 wa_c k_co_X1_acceptAtPort1) rfl rfl rfl hml_48 (hts _ (List.mem_cons_of_mem _ k_in_X1)) (by decide +kernel) ⟨Nat.le_of_ble_eq_true rfl, Nat.le_of_ble_eq_true rfl⟩, hts _ (List.mem_cons_of_mem _ k_im_X1_acceptAtPort1), hts _ (List.mem_cons_of_mem _ k_se_X1_acceptAtPort1)⟩ (xc_preV (q0 := 0) (C := RX1) hK (hP.sub (ws' := cw1 hc u0) [1] rfl) (hD.sub (ws' := cw1 hc u0) [1] (by decide) rfl) xz_Z.nil rfl rfl) rfl rfl hl.1 rfl (lv_room (Nat.le_of_ble_eq_true rfl)) dX0_write_47 ⟨Nat.zero_le _, Nat.zero_le _⟩) hP hD hS hA [1] [0, 2] rfl rfl (by decide) (by decide) rfl (fun H locs hP hD hS _ => ?_)
  have hP := hP.sub (ws' := pw hx hc hh (lpP1 u0 w, u1, ea)) [0, 2, 1] rfl
  have hD := hD.sub (ws' := pw hx hc hh (lpP1 u0 w, u1, ea)) [0, 2, 1] (by decide) rfl
  refine lv_aload_n hx_ hb dX0_write_50 rfl (lv_at hl 1 rfl) ?_
  refine xc_call (wc := pw hx hc hh (lpP1 u0 w, u1, ea)) (wr := []) (st1 := []) (va_runV (As := []) (rest := []) ⟨hx_, hb, hml, hown, hts⟩ (c_followHelper l dC dI hx hc hh H.size (lpP1 u0 w) u1 ea) (cwV 0 hts (gd_V wa_c k_ml_X0_32 k_im_X0_followHelper k_se_X0_followHelper k_in_X0 k_co_X0_followHelper) rfl rfl rfl (by decide +kernel) ⟨Nat.le_of_ble_eq_true rfl, Nat.le_of_ble_eq_true rfl⟩) (xc_preV (q0 := 0) (C := RX0) hK hP hD hZ rfl rfl) rfl rfl hl.1 rfl (lv_room (Nat.le_of_ble_eq_true rfl)) dX0_write_51 ⟨Nat.zero_le _, Nat.zero_le _⟩) hP hD hS hA [0, 1, 2] [] rfl rfl (by decide) (by decide) rfl (fun H locs hP hD hS _ => ?_)
  have hP : va_P (dC, dI) vwCl (pw hx hc hh (lpFol (lpP1 u0 w) u1, u1, ea)) H := hP
  have hD : va_D A (pw hx hc hh (lpFol (lpP1 u0 w) u1, u1, ea)) := hD
  refine lv_aload_n hx_ hb dX0_write_54 rfl (lv_at hl 1 rfl) ?_
  refine va_get (D := (dC, dI)) (ci := 0) (v := .ref hc) (C := RX0) (T := TX0) (N := 3) hx_ hb hts hin_RX0 hown hK hP 0 rfl rfl 0 (by decide) hlk_14 (fun _ h9 => h9) rfl dX0_write_55 ?_
  refine xr_call (st1 := [.int (lpDel (lpFol (lpP1 u0 w) u1))]) ((va_runVN (As := []) (rest := []) ⟨hx_, hb, hml, hown, hts⟩ (c_lineToDeliver l dC dI hc (lpFol (lpP1 u0 w) u1)) ⟨va_cnB 0 hts (gd_0 wa_c k_co_X1_lineToDeliver) rfl rfl rfl hml_51 (hts _ (List.mem_cons_of_mem _ k_in_X1)) (by decide +kernel) ⟨Nat.le_of_ble_eq_true rfl, Nat.le_of_ble_eq_true rfl⟩, hts _ (List.mem_cons_of_mem _ k_im_X1_lineToDeliver), hts _ (List.mem_cons_of_mem _ k_se_X1_lineToDeliver)⟩ (xr_preV (q0 := 0) (C := RX1) hK (hP.sub (ws' := cw1 hc (lpFol (lpP1 u0 w) u1)) [1] rfl) xz_Z.nil rfl rfl) rfl rfl hl.1 rfl (lv_room (Nat.le_of_ble_eq_true rfl)) dX0_write_58 ⟨Nat.zero_le _, Nat.zero_le _⟩).run) rfl ?_
  refine lv_iconst (v := -1) hx_ hb dX0_write_61 (by decide) ?_
  refine lv_icmp_eq (tgt := 69) hx_ hb dX0_write_62 (by decide) (fun h1 => ?_) (fun h1 => ?_)
  · refine lv_iconst (v := 0) hx_ hb dX0_write_69 (by decide) ?_
    exact xc_zret (wf := pw hx hc hh) hx_ hb hr hlocks dX0_write_70 hK hP hD hS rfl (by first | (simp only [lpBo, if_neg hw0, if_pos hw0, if_pos hw1, if_neg (not_not_intro hw1), if_pos h1, if_neg (not_not_intro h1)]; done) | rfl | (simp only [lpBo]; simp only [if_neg hw0, if_pos hw0, if_pos hw1, if_neg (not_not_intro hw1), if_pos h1, if_neg (not_not_intro h1)]; done) | (simp_all [lpBo]; done)) (by first | (simp only [lpBo, if_neg hw0, if_pos hw0, if_pos hw1, if_neg (not_not_intro hw1), if_pos h1, if_neg (not_not_intro h1)]; done) | rfl | (simp only [lpBo]; simp only [if_neg hw0, if_pos hw0, if_pos hw1, if_neg (not_not_intro hw1), if_pos h1, if_neg (not_not_intro h1)]; done) | (simp_all [lpBo]; done))
  · refine lv_iconst (v := 1) hx_ hb dX0_write_65 (by decide) ?_
    refine lv_goto (tgt := 70) hx_ hb dX0_write_66 (by decide) ?_
    exact xc_zret (wf := pw hx hc hh) hx_ hb hr hlocks dX0_write_70 hK hP hD hS rfl (by first | (simp only [lpBo, if_neg hw0, if_pos hw0, if_pos hw1, if_neg (not_not_intro hw1), if_neg h1, if_pos h1]; done) | rfl | (simp only [lpBo]; simp only [if_neg hw0, if_pos hw0, if_pos hw1, if_neg (not_not_intro hw1), if_neg h1, if_pos h1]; done) | (simp_all [lpBo]; done)) (by first | (simp only [lpBo, if_neg hw0, if_pos hw0, if_pos hw1, if_neg (not_not_intro hw1), if_neg h1, if_pos h1]; done) | rfl | (simp only [lpBo]; simp only [if_neg hw0, if_pos hw0, if_pos hw1, if_neg (not_not_intro hw1), if_neg h1, if_pos h1]; done) | (simp_all [lpBo]; done))

set_option maxHeartbeats 4000000 in
set_option maxRecDepth 100000 in
theorem c_read_0_1 (l : Launch) (dC : Nat → ClassId) (dI : Nat → Nat → Nat) (hx hc hh : Nat) (sz : Nat) (u0 u1 : Nat → Int32) (ea : Int32) : xc_M l yX0_read wsX0_read ({ frames := 5, cells := 0, slots := 0, locals := 108 }) [.ref hx, .int 0, .int 1] sz (dC, dI) vwCl [] pz (pw hx hc hh (u0, u1, ea)) (some (.int (u0 4))) (pw hx hc hh ((u0, u1, ea))) 0 0 := by
  refine Met.ofW (cc := cX0_read) (maxL := 5) (ret := (some .int)) (by decide) rfl ?_
  intro p e s m args below meth c s₁ B hml hv
  obtain ⟨rfl, hsz, hP, hK, hD0, hZ⟩ := hv
  have hx_ := B.exec
  have hb := B.bytes
  have hr := B.returns
  have hts := atoms_spec (ws := wsX0_read) B.pre
  have hown : s.vm.findClass RX0 = some m.cls := findClass_of_methodNamed B.named
  have hlocks := B.notSynchronized
  subst hsz
  have hD := hD0.self (sz := s.heap.size)
  generalize hAe : va_A (pw hx hc hh (u0, u1, ea)) s.heap.size = A at hD ⊢
  have hA : ∀ q : Nat, s.heap.size ≤ q → A q := fun q h => by rw [← hAe]; exact Or.inr h
  have hS : va_S A s.heap s.heap [] := va_S.rf
  have hin_RX1 : ∀ w ∈ u_ws RX1 TX1 19, w ∈ wsX0_read := fun w h => List.mem_cons_of_mem _ (u_X1 w h)
  have hlk_55 := hZ.use (w := .fieldLinkNest RX0 55 "LinePair$Controller" "masked" "I" "LinePair") (by decide +kernel) (a := ([.ref hx, .int 0, .int 1]).toArray)
  have hml_58 : va_Nw (.methodLinkNest RX0 58 yX1_answerAtPort0 "LinePair") s := hZ.2 _ (by decide +kernel)
  have hl := lv_entry ([.ref hx, .int 0, .int 1]) (n := 5) (Nat.le_of_ble_eq_true rfl)
  rw [lg_entry_eq]
  generalize (lg_sl ([.ref hx, .int 0, .int 1]) ++ List.replicate (5 - (lg_sl ([.ref hx, .int 0, .int 1])).length) Slot.unset).toArray = ls at hl ⊢
  have hl : lv_has ls 5 [(0, .ref hx), (1, .int 0), (2, .int 1)] := hl
  refine lv_aload_n hx_ hb dX0_read_0 rfl (lv_at hl 0 rfl) ?_
  refine lv_iload_n hx_ hb dX0_read_1 rfl (lv_at hl 1 rfl) ?_
  refine xr_call (st1 := [.ref hc]) (W.runV (As := [.int 0]) (rest := []) ⟨hx_, hb, hml, hown, hts⟩ (c_controllerNumbered_0 l dC dI hx hc hh u0 u1 ea) (cwV 1 hts (gd_V wa_c k_ml_X0_35 k_im_X0_controllerNumbered k_se_X0_controllerNumbered k_in_X0 k_co_X0_controllerNumbered) rfl rfl rfl (by decide +kernel) ⟨Nat.le_of_ble_eq_true rfl, Nat.le_of_ble_eq_true rfl⟩) (xr_preV (q0 := 0) (C := RX0) hK hP hZ rfl rfl) rfl rfl hl.1 rfl (lv_room (Nat.le_of_ble_eq_true rfl)) dX0_read_2 ⟨Nat.zero_le _, Nat.zero_le _⟩) rfl ?_
  refine lv_astore_n (lv' := [(3, .ref hc), (0, .ref hx), (1, .int 0), (2, .int 1)]) hx_ hb dX0_read_5 rfl hl (by decide) rfl (fun ls hl => ?_)
  refine lv_aload_n hx_ hb dX0_read_6 rfl (lv_at hl 1 rfl) ?_
  refine lv_iload_n hx_ hb dX0_read_7 rfl (lv_at hl 3 rfl) ?_
  refine xr_call (st1 := []) (W.runV (As := [.int 1]) (rest := []) ⟨hx_, hb, hml, hown, hts⟩ (c_checkPort_1 l dC dI hx hc hh u0 u1 ea) (cwV 1 hts (gd_V wa_c k_ml_X0_39 k_im_X0_checkPort k_se_X0_checkPort k_in_X0 k_co_X0_checkPort) rfl rfl rfl (by decide +kernel) ⟨Nat.le_of_ble_eq_true rfl, Nat.le_of_ble_eq_true rfl⟩) (xr_preV (q0 := 0) (C := RX0) hK hP hZ rfl rfl) rfl rfl hl.1 rfl (lv_room (Nat.le_of_ble_eq_true rfl)) dX0_read_8 ⟨Nat.zero_le _, Nat.zero_le _⟩) rfl ?_
  refine lv_iload_n hx_ hb dX0_read_11 rfl (lv_at hl 3 rfl) ?_
  refine lv_iconst (v := 1) hx_ hb dX0_read_12 (by decide) ?_
  refine lv_icmp_ne (tgt := 21) hx_ hb dX0_read_13 (by decide) (fun h => absurd (by decide) h) (fun _ => ?_)
  refine lv_aload_n hx_ hb dX0_read_16 rfl (lv_at hl 0 rfl) ?_
  refine va_getN (D := (dC, dI)) (ci := 1) (v := .int (u0 4)) (C := RX1) (T := TX1) (N := 19) hx_ hb hts hin_RX1 hown hK hP 1 rfl rfl 4 (by decide) hlk_55 (fun _ h9 => h9) rfl dX0_read_17 ?_
  exact xc_iret (wf := pw hx hc hh) hx_ hb hr hlocks dX0_read_20 hK hP hD hS rfl rfl

set_option maxHeartbeats 4000000 in
set_option maxRecDepth 100000 in
theorem c_read_0_0 (l : Launch) (dC : Nat → ClassId) (dI : Nat → Nat → Nat) (hx hc hh : Nat) (sz : Nat) (u0 u1 : Nat → Int32) (ea : Int32) : xc_M l yX0_read wsX0_read ({ frames := 5, cells := 0, slots := 0, locals := 108 }) [.ref hx, .int 0, .int 0] sz (dC, dI) vwCl [] pz (pw hx hc hh (u0, u1, ea)) (some (.int (lpAnsR u0))) (pw hx hc hh ((lpFol (lpAns u0) u1, u1, ea))) 0 0 := by
  refine Met.ofW (cc := cX0_read) (maxL := 5) (ret := (some .int)) (by decide) rfl ?_
  intro p e s m args below meth c s₁ B hml hv
  obtain ⟨rfl, hsz, hP, hK, hD0, hZ⟩ := hv
  have hx_ := B.exec
  have hb := B.bytes
  have hr := B.returns
  have hts := atoms_spec (ws := wsX0_read) B.pre
  have hown : s.vm.findClass RX0 = some m.cls := findClass_of_methodNamed B.named
  have hlocks := B.notSynchronized
  subst hsz
  have hD := hD0.self (sz := s.heap.size)
  generalize hAe : va_A (pw hx hc hh (u0, u1, ea)) s.heap.size = A at hD ⊢
  have hA : ∀ q : Nat, s.heap.size ≤ q → A q := fun q h => by rw [← hAe]; exact Or.inr h
  have hS : va_S A s.heap s.heap [] := va_S.rf
  have hin_RX1 : ∀ w ∈ u_ws RX1 TX1 19, w ∈ wsX0_read := fun w h => List.mem_cons_of_mem _ (u_X1 w h)
  have hlk_55 := hZ.use (w := .fieldLinkNest RX0 55 "LinePair$Controller" "masked" "I" "LinePair") (by decide +kernel) (a := ([.ref hx, .int 0, .int 0]).toArray)
  have hml_58 : va_Nw (.methodLinkNest RX0 58 yX1_answerAtPort0 "LinePair") s := hZ.2 _ (by decide +kernel)
  have hl := lv_entry ([.ref hx, .int 0, .int 0]) (n := 5) (Nat.le_of_ble_eq_true rfl)
  rw [lg_entry_eq]
  generalize (lg_sl ([.ref hx, .int 0, .int 0]) ++ List.replicate (5 - (lg_sl ([.ref hx, .int 0, .int 0])).length) Slot.unset).toArray = ls at hl ⊢
  have hl : lv_has ls 5 [(0, .ref hx), (1, .int 0), (2, .int 0)] := hl
  refine lv_aload_n hx_ hb dX0_read_0 rfl (lv_at hl 0 rfl) ?_
  refine lv_iload_n hx_ hb dX0_read_1 rfl (lv_at hl 1 rfl) ?_
  refine xr_call (st1 := [.ref hc]) (W.runV (As := [.int 0]) (rest := []) ⟨hx_, hb, hml, hown, hts⟩ (c_controllerNumbered_0 l dC dI hx hc hh u0 u1 ea) (cwV 1 hts (gd_V wa_c k_ml_X0_35 k_im_X0_controllerNumbered k_se_X0_controllerNumbered k_in_X0 k_co_X0_controllerNumbered) rfl rfl rfl (by decide +kernel) ⟨Nat.le_of_ble_eq_true rfl, Nat.le_of_ble_eq_true rfl⟩) (xr_preV (q0 := 0) (C := RX0) hK hP hZ rfl rfl) rfl rfl hl.1 rfl (lv_room (Nat.le_of_ble_eq_true rfl)) dX0_read_2 ⟨Nat.zero_le _, Nat.zero_le _⟩) rfl ?_
  refine lv_astore_n (lv' := [(3, .ref hc), (0, .ref hx), (1, .int 0), (2, .int 0)]) hx_ hb dX0_read_5 rfl hl (by decide) rfl (fun ls hl => ?_)
  refine lv_aload_n hx_ hb dX0_read_6 rfl (lv_at hl 1 rfl) ?_
  refine lv_iload_n hx_ hb dX0_read_7 rfl (lv_at hl 3 rfl) ?_
  refine xr_call (st1 := []) (W.runV (As := [.int 0]) (rest := []) ⟨hx_, hb, hml, hown, hts⟩ (c_checkPort_0 l dC dI hx hc hh u0 u1 ea) (cwV 1 hts (gd_V wa_c k_ml_X0_39 k_im_X0_checkPort k_se_X0_checkPort k_in_X0 k_co_X0_checkPort) rfl rfl rfl (by decide +kernel) ⟨Nat.le_of_ble_eq_true rfl, Nat.le_of_ble_eq_true rfl⟩) (xr_preV (q0 := 0) (C := RX0) hK hP hZ rfl rfl) rfl rfl hl.1 rfl (lv_room (Nat.le_of_ble_eq_true rfl)) dX0_read_8 ⟨Nat.zero_le _, Nat.zero_le _⟩) rfl ?_
  refine lv_iload_n hx_ hb dX0_read_11 rfl (lv_at hl 3 rfl) ?_
  refine lv_iconst (v := 1) hx_ hb dX0_read_12 (by decide) ?_
  refine lv_icmp_ne (tgt := 21) hx_ hb dX0_read_13 (by decide) (fun _ => ?_) (fun h => absurd h (by decide))
  refine lv_aload_n hx_ hb dX0_read_21 rfl (lv_at hl 0 rfl) ?_
  refine xc_call (wc := cw1 hc u0) (wr := [(hx, .inr (0, [.ref hc, .ref hh, .int ea])), (hh, .inr (1, lpF u1))]) (st1 := [.int (lpAnsR u0)]) (va_runVN (As := []) (rest := []) ⟨hx_, hb, hml, hown, hts⟩ (c_answerAtPort0 l dC dI hc s.heap.size u0) ⟨va_cnB 0 hts (gd_0 wa_c k_co_X1_answerAtPort0) rfl rfl rfl hml_58 (hts _ (List.mem_cons_of_mem _ k_in_X1)) (by decide +kernel) ⟨Nat.le_of_ble_eq_true rfl, Nat.le_of_ble_eq_true rfl⟩, hts _ (List.mem_cons_of_mem _ k_im_X1_answerAtPort0), hts _ (List.mem_cons_of_mem _ k_se_X1_answerAtPort0)⟩ (xc_preV (q0 := 0) (C := RX1) hK (hP.sub (ws' := cw1 hc u0) [1] rfl) (hD.sub (ws' := cw1 hc u0) [1] (by decide) rfl) xz_Z.nil rfl rfl) rfl rfl hl.1 rfl (lv_room (Nat.le_of_ble_eq_true rfl)) dX0_read_22 ⟨Nat.zero_le _, Nat.zero_le _⟩) hP hD hS hA [1] [0, 2] rfl rfl (by decide) (by decide) rfl (fun H locs hP hD hS _ => ?_)
  have hP := hP.sub (ws' := pw hx hc hh (lpAns u0, u1, ea)) [0, 2, 1] rfl
  have hD := hD.sub (ws' := pw hx hc hh (lpAns u0, u1, ea)) [0, 2, 1] (by decide) rfl
  refine lv_istore (lv' := [(4, .int (lpAnsR u0)), (3, .ref hc), (0, .ref hx), (1, .int 0), (2, .int 0)]) hx_ hb dX0_read_25 hl (by decide) rfl (fun ls hl => ?_)
  refine lv_aload_n hx_ hb dX0_read_27 rfl (lv_at hl 2 rfl) ?_
  refine xc_call (wc := pw hx hc hh (lpAns u0, u1, ea)) (wr := []) (st1 := []) (va_runV (As := []) (rest := []) ⟨hx_, hb, hml, hown, hts⟩ (c_followHelper l dC dI hx hc hh H.size (lpAns u0) u1 ea) (cwV 0 hts (gd_V wa_c k_ml_X0_32 k_im_X0_followHelper k_se_X0_followHelper k_in_X0 k_co_X0_followHelper) rfl rfl rfl (by decide +kernel) ⟨Nat.le_of_ble_eq_true rfl, Nat.le_of_ble_eq_true rfl⟩) (xc_preV (q0 := 0) (C := RX0) hK hP hD hZ rfl rfl) rfl rfl hl.1 rfl (lv_room (Nat.le_of_ble_eq_true rfl)) dX0_read_28 ⟨Nat.zero_le _, Nat.zero_le _⟩) hP hD hS hA [0, 1, 2] [] rfl rfl (by decide) (by decide) rfl (fun H locs hP hD hS _ => ?_)
  have hP : va_P (dC, dI) vwCl (pw hx hc hh (lpFol (lpAns u0) u1, u1, ea)) H := hP
  have hD : va_D A (pw hx hc hh (lpFol (lpAns u0) u1, u1, ea)) := hD
  refine lv_iload hx_ hb dX0_read_31 (lv_at hl 0 rfl) ?_
  exact xc_iret (wf := pw hx hc hh) hx_ hb hr hlocks dX0_read_33 hK hP hD hS rfl rfl

set_option maxHeartbeats 4000000 in
set_option maxRecDepth 100000 in
theorem c_delivers_0 (l : Launch) (dC : Nat → ClassId) (dI : Nat → Nat → Nat) (hx hc hh : Nat) (u0 u1 : Nat → Int32) (ea : Int32) : xr_M l yX0_delivers wsX0_delivers ({ frames := 3, cells := 0, slots := 0, locals := 66 }) [.ref hx, .int 0] (dC, dI) vwCl [] pz (pw hx hc hh (u0, u1, ea)) (some (.int (lpDel u0))) := by
  refine Met.ofW (cc := cX0_delivers) (maxL := 2) (ret := (some .int)) (by decide) rfl ?_
  intro p e s m args below meth c s₁ B hml hv
  obtain ⟨rfl, hP, hK, hZ⟩ := hv
  have hx_ := B.exec
  have hb := B.bytes
  have hr := B.returns
  have hts := atoms_spec (ws := wsX0_delivers) B.pre
  have hown : s.vm.findClass RX0 = some m.cls := findClass_of_methodNamed B.named
  have hlocks := B.notSynchronized
  have hml_51 : va_Nw (.methodLinkNest RX0 51 yX1_lineToDeliver "LinePair") s := hZ.2 _ (by decide +kernel)
  have hl := lv_entry ([.ref hx, .int 0]) (n := 2) (Nat.le_of_ble_eq_true rfl)
  rw [lg_entry_eq]
  generalize (lg_sl ([.ref hx, .int 0]) ++ List.replicate (2 - (lg_sl ([.ref hx, .int 0])).length) Slot.unset).toArray = ls at hl ⊢
  have hl : lv_has ls 2 [(0, .ref hx), (1, .int 0)] := hl
  refine lv_aload_n hx_ hb dX0_delivers_0 rfl (lv_at hl 0 rfl) ?_
  refine lv_iload_n hx_ hb dX0_delivers_1 rfl (lv_at hl 1 rfl) ?_
  refine xr_call (st1 := [.ref hc]) (W.runV (As := [.int 0]) (rest := []) ⟨hx_, hb, hml, hown, hts⟩ (c_controllerNumbered_0 l dC dI hx hc hh u0 u1 ea) (cwV 1 hts (gd_V wa_c k_ml_X0_35 k_im_X0_controllerNumbered k_se_X0_controllerNumbered k_in_X0 k_co_X0_controllerNumbered) rfl rfl rfl (by decide +kernel) ⟨Nat.le_of_ble_eq_true rfl, Nat.le_of_ble_eq_true rfl⟩) (xr_preV (q0 := 0) (C := RX0) hK hP hZ rfl rfl) rfl rfl hl.1 rfl (lv_room (Nat.le_of_ble_eq_true rfl)) dX0_delivers_2 ⟨Nat.zero_le _, Nat.zero_le _⟩) rfl ?_
  refine xr_call (st1 := [.int (lpDel u0)]) ((va_runVN (As := []) (rest := []) ⟨hx_, hb, hml, hown, hts⟩ (c_lineToDeliver l dC dI hc u0) ⟨va_cnB 0 hts (gd_0 wa_c k_co_X1_lineToDeliver) rfl rfl rfl hml_51 (hts _ (List.mem_cons_of_mem _ k_in_X1)) (by decide +kernel) ⟨Nat.le_of_ble_eq_true rfl, Nat.le_of_ble_eq_true rfl⟩, hts _ (List.mem_cons_of_mem _ k_im_X1_lineToDeliver), hts _ (List.mem_cons_of_mem _ k_se_X1_lineToDeliver)⟩ (xr_preV (q0 := 0) (C := RX1) hK (hP.sub (ws' := cw1 hc u0) [1] rfl) xz_Z.nil rfl rfl) rfl rfl hl.1 rfl (lv_room (Nat.le_of_ble_eq_true rfl)) dX0_delivers_5 ⟨Nat.zero_le _, Nat.zero_le _⟩).run) rfl ?_
  exact xr_iret hx_ hb hr hlocks dX0_delivers_8 rfl

set_option maxHeartbeats 4000000 in
set_option maxRecDepth 100000 in
theorem c_about_0_0 (l : Launch) (dC : Nat → ClassId) (dI : Nat → Nat → Nat) (hx hc hh : Nat) (u0 u1 : Nat → Int32) (ea : Int32) : xr_M l yX0_about wsX0_about ({ frames := 1, cells := 0, slots := 0, locals := 21 }) [.ref hx, .int 0, .int 0] (dC, dI) vwCl [] pz (pw hx hc hh (u0, u1, ea)) (some (.int (lpReq u0))) := by
  refine Met.ofW (cc := cX0_about) (maxL := 4) (ret := (some .int)) (by decide) rfl ?_
  intro p e s m args below meth c s₁ B hml hv
  obtain ⟨rfl, hP, hK, hZ⟩ := hv
  have hx_ := B.exec
  have hb := B.bytes
  have hr := B.returns
  have hts := atoms_spec (ws := wsX0_about) B.pre
  have hown : s.vm.findClass RX0 = some m.cls := findClass_of_methodNamed B.named
  have hlocks := B.notSynchronized
  have hin_RX1 : ∀ w ∈ u_ws RX1 TX1 19, w ∈ wsX0_about := fun w h => List.mem_cons_of_mem _ (u_X1 w h)
  have hlk_55 := hZ.use (w := .fieldLinkNest RX0 55 "LinePair$Controller" "masked" "I" "LinePair") (by decide +kernel) (a := ([.ref hx, .int 0, .int 0]).toArray)
  have hlk_74 := hZ.use (w := .fieldLinkNest RX0 74 "LinePair$Controller" "inService" "I" "LinePair") (by decide +kernel) (a := ([.ref hx, .int 0, .int 0]).toArray)
  have hlk_77 := hZ.use (w := .fieldLinkNest RX0 77 "LinePair$Controller" "up" "I" "LinePair") (by decide +kernel) (a := ([.ref hx, .int 0, .int 0]).toArray)
  have hlk_80 := hZ.use (w := .fieldLinkNest RX0 80 "LinePair$Controller" "lowest" "I" "LinePair") (by decide +kernel) (a := ([.ref hx, .int 0, .int 0]).toArray)
  have hlk_83 := hZ.use (w := .fieldLinkNest RX0 83 "LinePair$Controller" "base" "I" "LinePair") (by decide +kernel) (a := ([.ref hx, .int 0, .int 0]).toArray)
  have hlk_86 := hZ.use (w := .fieldLinkNest RX0 86 "LinePair$Controller" "awaited" "I" "LinePair") (by decide +kernel) (a := ([.ref hx, .int 0, .int 0]).toArray)
  have hlk_89 := hZ.use (w := .fieldLinkNest RX0 89 "LinePair$Controller" "readChoice" "I" "LinePair") (by decide +kernel) (a := ([.ref hx, .int 0, .int 0]).toArray)
  have hml_71 : va_Nw (.methodLinkNest RX0 71 yX1_requested "LinePair") s := hZ.2 _ (by decide +kernel)
  have hl := lv_entry ([.ref hx, .int 0, .int 0]) (n := 4) (Nat.le_of_ble_eq_true rfl)
  rw [lg_entry_eq]
  generalize (lg_sl ([.ref hx, .int 0, .int 0]) ++ List.replicate (4 - (lg_sl ([.ref hx, .int 0, .int 0])).length) Slot.unset).toArray = ls at hl ⊢
  have hl : lv_has ls 4 [(0, .ref hx), (1, .int 0), (2, .int 0)] := hl
  refine lv_aload_n hx_ hb dX0_about_0 rfl (lv_at hl 0 rfl) ?_
  refine lv_iload_n hx_ hb dX0_about_1 rfl (lv_at hl 1 rfl) ?_
  refine xr_call (st1 := [.ref hc]) (W.runV (As := [.int 0]) (rest := []) ⟨hx_, hb, hml, hown, hts⟩ (c_controllerNumbered_0 l dC dI hx hc hh u0 u1 ea) (cwV 1 hts (gd_V wa_c k_ml_X0_35 k_im_X0_controllerNumbered k_se_X0_controllerNumbered k_in_X0 k_co_X0_controllerNumbered) rfl rfl rfl (by decide +kernel) ⟨Nat.le_of_ble_eq_true rfl, Nat.le_of_ble_eq_true rfl⟩) (xr_preV (q0 := 0) (C := RX0) hK hP hZ rfl rfl) rfl rfl hl.1 rfl (lv_room (Nat.le_of_ble_eq_true rfl)) dX0_about_2 ⟨Nat.zero_le _, Nat.zero_le _⟩) rfl ?_
  refine lv_astore_n (lv' := [(3, .ref hc), (0, .ref hx), (1, .int 0), (2, .int 0)]) hx_ hb dX0_about_5 rfl hl (by decide) rfl (fun ls hl => ?_)
  refine lv_iload_n hx_ hb dX0_about_6 rfl (lv_at hl 3 rfl) ?_
  refine lv_tableIn (tgt := 52) hx_ hb dX0_about_7 (by decide) (by decide) (by rfl) (by decide) ?_
  refine lv_aload_n hx_ hb dX0_about_52 rfl (lv_at hl 0 rfl) ?_
  refine xr_call (st1 := [.int (lpReq u0)]) ((va_runVN (As := []) (rest := []) ⟨hx_, hb, hml, hown, hts⟩ (c_requested l dC dI hc u0) ⟨va_cnB 0 hts (gd_0 wa_c k_co_X1_requested) rfl rfl rfl hml_71 (hts _ (List.mem_cons_of_mem _ k_in_X1)) (by decide +kernel) ⟨Nat.le_of_ble_eq_true rfl, Nat.le_of_ble_eq_true rfl⟩, hts _ (List.mem_cons_of_mem _ k_im_X1_requested), hts _ (List.mem_cons_of_mem _ k_se_X1_requested)⟩ (xr_preV (q0 := 0) (C := RX1) hK (hP.sub (ws' := cw1 hc u0) [1] rfl) xz_Z.nil rfl rfl) rfl rfl hl.1 rfl (lv_room (Nat.le_of_ble_eq_true rfl)) dX0_about_53 ⟨Nat.zero_le _, Nat.zero_le _⟩).run) rfl ?_
  exact xr_iret hx_ hb hr hlocks dX0_about_56 rfl

set_option maxHeartbeats 4000000 in
set_option maxRecDepth 100000 in
theorem c_about_0_1 (l : Launch) (dC : Nat → ClassId) (dI : Nat → Nat → Nat) (hx hc hh : Nat) (u0 u1 : Nat → Int32) (ea : Int32) : xr_M l yX0_about wsX0_about ({ frames := 1, cells := 0, slots := 0, locals := 21 }) [.ref hx, .int 0, .int 1] (dC, dI) vwCl [] pz (pw hx hc hh (u0, u1, ea)) (some (.int (u0 3))) := by
  refine Met.ofW (cc := cX0_about) (maxL := 4) (ret := (some .int)) (by decide) rfl ?_
  intro p e s m args below meth c s₁ B hml hv
  obtain ⟨rfl, hP, hK, hZ⟩ := hv
  have hx_ := B.exec
  have hb := B.bytes
  have hr := B.returns
  have hts := atoms_spec (ws := wsX0_about) B.pre
  have hown : s.vm.findClass RX0 = some m.cls := findClass_of_methodNamed B.named
  have hlocks := B.notSynchronized
  have hin_RX1 : ∀ w ∈ u_ws RX1 TX1 19, w ∈ wsX0_about := fun w h => List.mem_cons_of_mem _ (u_X1 w h)
  have hlk_55 := hZ.use (w := .fieldLinkNest RX0 55 "LinePair$Controller" "masked" "I" "LinePair") (by decide +kernel) (a := ([.ref hx, .int 0, .int 1]).toArray)
  have hlk_74 := hZ.use (w := .fieldLinkNest RX0 74 "LinePair$Controller" "inService" "I" "LinePair") (by decide +kernel) (a := ([.ref hx, .int 0, .int 1]).toArray)
  have hlk_77 := hZ.use (w := .fieldLinkNest RX0 77 "LinePair$Controller" "up" "I" "LinePair") (by decide +kernel) (a := ([.ref hx, .int 0, .int 1]).toArray)
  have hlk_80 := hZ.use (w := .fieldLinkNest RX0 80 "LinePair$Controller" "lowest" "I" "LinePair") (by decide +kernel) (a := ([.ref hx, .int 0, .int 1]).toArray)
  have hlk_83 := hZ.use (w := .fieldLinkNest RX0 83 "LinePair$Controller" "base" "I" "LinePair") (by decide +kernel) (a := ([.ref hx, .int 0, .int 1]).toArray)
  have hlk_86 := hZ.use (w := .fieldLinkNest RX0 86 "LinePair$Controller" "awaited" "I" "LinePair") (by decide +kernel) (a := ([.ref hx, .int 0, .int 1]).toArray)
  have hlk_89 := hZ.use (w := .fieldLinkNest RX0 89 "LinePair$Controller" "readChoice" "I" "LinePair") (by decide +kernel) (a := ([.ref hx, .int 0, .int 1]).toArray)
  have hml_71 : va_Nw (.methodLinkNest RX0 71 yX1_requested "LinePair") s := hZ.2 _ (by decide +kernel)
  have hl := lv_entry ([.ref hx, .int 0, .int 1]) (n := 4) (Nat.le_of_ble_eq_true rfl)
  rw [lg_entry_eq]
  generalize (lg_sl ([.ref hx, .int 0, .int 1]) ++ List.replicate (4 - (lg_sl ([.ref hx, .int 0, .int 1])).length) Slot.unset).toArray = ls at hl ⊢
  have hl : lv_has ls 4 [(0, .ref hx), (1, .int 0), (2, .int 1)] := hl
  refine lv_aload_n hx_ hb dX0_about_0 rfl (lv_at hl 0 rfl) ?_
  refine lv_iload_n hx_ hb dX0_about_1 rfl (lv_at hl 1 rfl) ?_
  refine xr_call (st1 := [.ref hc]) (W.runV (As := [.int 0]) (rest := []) ⟨hx_, hb, hml, hown, hts⟩ (c_controllerNumbered_0 l dC dI hx hc hh u0 u1 ea) (cwV 1 hts (gd_V wa_c k_ml_X0_35 k_im_X0_controllerNumbered k_se_X0_controllerNumbered k_in_X0 k_co_X0_controllerNumbered) rfl rfl rfl (by decide +kernel) ⟨Nat.le_of_ble_eq_true rfl, Nat.le_of_ble_eq_true rfl⟩) (xr_preV (q0 := 0) (C := RX0) hK hP hZ rfl rfl) rfl rfl hl.1 rfl (lv_room (Nat.le_of_ble_eq_true rfl)) dX0_about_2 ⟨Nat.zero_le _, Nat.zero_le _⟩) rfl ?_
  refine lv_astore_n (lv' := [(3, .ref hc), (0, .ref hx), (1, .int 0), (2, .int 1)]) hx_ hb dX0_about_5 rfl hl (by decide) rfl (fun ls hl => ?_)
  refine lv_iload_n hx_ hb dX0_about_6 rfl (lv_at hl 3 rfl) ?_
  refine lv_tableIn (tgt := 57) hx_ hb dX0_about_7 (by decide) (by decide) (by rfl) (by decide) ?_
  refine lv_aload_n hx_ hb dX0_about_57 rfl (lv_at hl 0 rfl) ?_
  refine va_getN (D := (dC, dI)) (ci := 1) (v := .int (u0 3)) (C := RX1) (T := TX1) (N := 19) hx_ hb hts hin_RX1 hown hK hP 1 rfl rfl 3 (by decide) hlk_74 (fun _ h9 => h9) rfl dX0_about_58 ?_
  exact xr_iret hx_ hb hr hlocks dX0_about_61 rfl

set_option maxHeartbeats 4000000 in
set_option maxRecDepth 100000 in
theorem c_about_0_2 (l : Launch) (dC : Nat → ClassId) (dI : Nat → Nat → Nat) (hx hc hh : Nat) (u0 u1 : Nat → Int32) (ea : Int32) : xr_M l yX0_about wsX0_about ({ frames := 1, cells := 0, slots := 0, locals := 21 }) [.ref hx, .int 0, .int 2] (dC, dI) vwCl [] pz (pw hx hc hh (u0, u1, ea)) (some (.int (u0 4))) := by
  refine Met.ofW (cc := cX0_about) (maxL := 4) (ret := (some .int)) (by decide) rfl ?_
  intro p e s m args below meth c s₁ B hml hv
  obtain ⟨rfl, hP, hK, hZ⟩ := hv
  have hx_ := B.exec
  have hb := B.bytes
  have hr := B.returns
  have hts := atoms_spec (ws := wsX0_about) B.pre
  have hown : s.vm.findClass RX0 = some m.cls := findClass_of_methodNamed B.named
  have hlocks := B.notSynchronized
  have hin_RX1 : ∀ w ∈ u_ws RX1 TX1 19, w ∈ wsX0_about := fun w h => List.mem_cons_of_mem _ (u_X1 w h)
  have hlk_55 := hZ.use (w := .fieldLinkNest RX0 55 "LinePair$Controller" "masked" "I" "LinePair") (by decide +kernel) (a := ([.ref hx, .int 0, .int 2]).toArray)
  have hlk_74 := hZ.use (w := .fieldLinkNest RX0 74 "LinePair$Controller" "inService" "I" "LinePair") (by decide +kernel) (a := ([.ref hx, .int 0, .int 2]).toArray)
  have hlk_77 := hZ.use (w := .fieldLinkNest RX0 77 "LinePair$Controller" "up" "I" "LinePair") (by decide +kernel) (a := ([.ref hx, .int 0, .int 2]).toArray)
  have hlk_80 := hZ.use (w := .fieldLinkNest RX0 80 "LinePair$Controller" "lowest" "I" "LinePair") (by decide +kernel) (a := ([.ref hx, .int 0, .int 2]).toArray)
  have hlk_83 := hZ.use (w := .fieldLinkNest RX0 83 "LinePair$Controller" "base" "I" "LinePair") (by decide +kernel) (a := ([.ref hx, .int 0, .int 2]).toArray)
  have hlk_86 := hZ.use (w := .fieldLinkNest RX0 86 "LinePair$Controller" "awaited" "I" "LinePair") (by decide +kernel) (a := ([.ref hx, .int 0, .int 2]).toArray)
  have hlk_89 := hZ.use (w := .fieldLinkNest RX0 89 "LinePair$Controller" "readChoice" "I" "LinePair") (by decide +kernel) (a := ([.ref hx, .int 0, .int 2]).toArray)
  have hml_71 : va_Nw (.methodLinkNest RX0 71 yX1_requested "LinePair") s := hZ.2 _ (by decide +kernel)
  have hl := lv_entry ([.ref hx, .int 0, .int 2]) (n := 4) (Nat.le_of_ble_eq_true rfl)
  rw [lg_entry_eq]
  generalize (lg_sl ([.ref hx, .int 0, .int 2]) ++ List.replicate (4 - (lg_sl ([.ref hx, .int 0, .int 2])).length) Slot.unset).toArray = ls at hl ⊢
  have hl : lv_has ls 4 [(0, .ref hx), (1, .int 0), (2, .int 2)] := hl
  refine lv_aload_n hx_ hb dX0_about_0 rfl (lv_at hl 0 rfl) ?_
  refine lv_iload_n hx_ hb dX0_about_1 rfl (lv_at hl 1 rfl) ?_
  refine xr_call (st1 := [.ref hc]) (W.runV (As := [.int 0]) (rest := []) ⟨hx_, hb, hml, hown, hts⟩ (c_controllerNumbered_0 l dC dI hx hc hh u0 u1 ea) (cwV 1 hts (gd_V wa_c k_ml_X0_35 k_im_X0_controllerNumbered k_se_X0_controllerNumbered k_in_X0 k_co_X0_controllerNumbered) rfl rfl rfl (by decide +kernel) ⟨Nat.le_of_ble_eq_true rfl, Nat.le_of_ble_eq_true rfl⟩) (xr_preV (q0 := 0) (C := RX0) hK hP hZ rfl rfl) rfl rfl hl.1 rfl (lv_room (Nat.le_of_ble_eq_true rfl)) dX0_about_2 ⟨Nat.zero_le _, Nat.zero_le _⟩) rfl ?_
  refine lv_astore_n (lv' := [(3, .ref hc), (0, .ref hx), (1, .int 0), (2, .int 2)]) hx_ hb dX0_about_5 rfl hl (by decide) rfl (fun ls hl => ?_)
  refine lv_iload_n hx_ hb dX0_about_6 rfl (lv_at hl 3 rfl) ?_
  refine lv_tableIn (tgt := 62) hx_ hb dX0_about_7 (by decide) (by decide) (by rfl) (by decide) ?_
  refine lv_aload_n hx_ hb dX0_about_62 rfl (lv_at hl 0 rfl) ?_
  refine va_getN (D := (dC, dI)) (ci := 1) (v := .int (u0 4)) (C := RX1) (T := TX1) (N := 19) hx_ hb hts hin_RX1 hown hK hP 1 rfl rfl 4 (by decide) hlk_55 (fun _ h9 => h9) rfl dX0_about_63 ?_
  exact xr_iret hx_ hb hr hlocks dX0_about_66 rfl

set_option maxHeartbeats 4000000 in
set_option maxRecDepth 100000 in
theorem c_about_0_3 (l : Launch) (dC : Nat → ClassId) (dI : Nat → Nat → Nat) (hx hc hh : Nat) (u0 u1 : Nat → Int32) (ea : Int32) : xr_M l yX0_about wsX0_about ({ frames := 1, cells := 0, slots := 0, locals := 21 }) [.ref hx, .int 0, .int 3] (dC, dI) vwCl [] pz (pw hx hc hh (u0, u1, ea)) (some (.int (u0 1))) := by
  refine Met.ofW (cc := cX0_about) (maxL := 4) (ret := (some .int)) (by decide) rfl ?_
  intro p e s m args below meth c s₁ B hml hv
  obtain ⟨rfl, hP, hK, hZ⟩ := hv
  have hx_ := B.exec
  have hb := B.bytes
  have hr := B.returns
  have hts := atoms_spec (ws := wsX0_about) B.pre
  have hown : s.vm.findClass RX0 = some m.cls := findClass_of_methodNamed B.named
  have hlocks := B.notSynchronized
  have hin_RX1 : ∀ w ∈ u_ws RX1 TX1 19, w ∈ wsX0_about := fun w h => List.mem_cons_of_mem _ (u_X1 w h)
  have hlk_55 := hZ.use (w := .fieldLinkNest RX0 55 "LinePair$Controller" "masked" "I" "LinePair") (by decide +kernel) (a := ([.ref hx, .int 0, .int 3]).toArray)
  have hlk_74 := hZ.use (w := .fieldLinkNest RX0 74 "LinePair$Controller" "inService" "I" "LinePair") (by decide +kernel) (a := ([.ref hx, .int 0, .int 3]).toArray)
  have hlk_77 := hZ.use (w := .fieldLinkNest RX0 77 "LinePair$Controller" "up" "I" "LinePair") (by decide +kernel) (a := ([.ref hx, .int 0, .int 3]).toArray)
  have hlk_80 := hZ.use (w := .fieldLinkNest RX0 80 "LinePair$Controller" "lowest" "I" "LinePair") (by decide +kernel) (a := ([.ref hx, .int 0, .int 3]).toArray)
  have hlk_83 := hZ.use (w := .fieldLinkNest RX0 83 "LinePair$Controller" "base" "I" "LinePair") (by decide +kernel) (a := ([.ref hx, .int 0, .int 3]).toArray)
  have hlk_86 := hZ.use (w := .fieldLinkNest RX0 86 "LinePair$Controller" "awaited" "I" "LinePair") (by decide +kernel) (a := ([.ref hx, .int 0, .int 3]).toArray)
  have hlk_89 := hZ.use (w := .fieldLinkNest RX0 89 "LinePair$Controller" "readChoice" "I" "LinePair") (by decide +kernel) (a := ([.ref hx, .int 0, .int 3]).toArray)
  have hml_71 : va_Nw (.methodLinkNest RX0 71 yX1_requested "LinePair") s := hZ.2 _ (by decide +kernel)
  have hl := lv_entry ([.ref hx, .int 0, .int 3]) (n := 4) (Nat.le_of_ble_eq_true rfl)
  rw [lg_entry_eq]
  generalize (lg_sl ([.ref hx, .int 0, .int 3]) ++ List.replicate (4 - (lg_sl ([.ref hx, .int 0, .int 3])).length) Slot.unset).toArray = ls at hl ⊢
  have hl : lv_has ls 4 [(0, .ref hx), (1, .int 0), (2, .int 3)] := hl
  refine lv_aload_n hx_ hb dX0_about_0 rfl (lv_at hl 0 rfl) ?_
  refine lv_iload_n hx_ hb dX0_about_1 rfl (lv_at hl 1 rfl) ?_
  refine xr_call (st1 := [.ref hc]) (W.runV (As := [.int 0]) (rest := []) ⟨hx_, hb, hml, hown, hts⟩ (c_controllerNumbered_0 l dC dI hx hc hh u0 u1 ea) (cwV 1 hts (gd_V wa_c k_ml_X0_35 k_im_X0_controllerNumbered k_se_X0_controllerNumbered k_in_X0 k_co_X0_controllerNumbered) rfl rfl rfl (by decide +kernel) ⟨Nat.le_of_ble_eq_true rfl, Nat.le_of_ble_eq_true rfl⟩) (xr_preV (q0 := 0) (C := RX0) hK hP hZ rfl rfl) rfl rfl hl.1 rfl (lv_room (Nat.le_of_ble_eq_true rfl)) dX0_about_2 ⟨Nat.zero_le _, Nat.zero_le _⟩) rfl ?_
  refine lv_astore_n (lv' := [(3, .ref hc), (0, .ref hx), (1, .int 0), (2, .int 3)]) hx_ hb dX0_about_5 rfl hl (by decide) rfl (fun ls hl => ?_)
  refine lv_iload_n hx_ hb dX0_about_6 rfl (lv_at hl 3 rfl) ?_
  refine lv_tableIn (tgt := 67) hx_ hb dX0_about_7 (by decide) (by decide) (by rfl) (by decide) ?_
  refine lv_aload_n hx_ hb dX0_about_67 rfl (lv_at hl 0 rfl) ?_
  refine va_getN (D := (dC, dI)) (ci := 1) (v := .int (u0 1)) (C := RX1) (T := TX1) (N := 19) hx_ hb hts hin_RX1 hown hK hP 1 rfl rfl 1 (by decide) hlk_77 (fun _ h9 => h9) rfl dX0_about_68 ?_
  exact xr_iret hx_ hb hr hlocks dX0_about_71 rfl

set_option maxHeartbeats 4000000 in
set_option maxRecDepth 100000 in
theorem c_about_0_4 (l : Launch) (dC : Nat → ClassId) (dI : Nat → Nat → Nat) (hx hc hh : Nat) (u0 u1 : Nat → Int32) (ea : Int32) : xr_M l yX0_about wsX0_about ({ frames := 1, cells := 0, slots := 0, locals := 21 }) [.ref hx, .int 0, .int 4] (dC, dI) vwCl [] pz (pw hx hc hh (u0, u1, ea)) (some (.int (u0 5))) := by
  refine Met.ofW (cc := cX0_about) (maxL := 4) (ret := (some .int)) (by decide) rfl ?_
  intro p e s m args below meth c s₁ B hml hv
  obtain ⟨rfl, hP, hK, hZ⟩ := hv
  have hx_ := B.exec
  have hb := B.bytes
  have hr := B.returns
  have hts := atoms_spec (ws := wsX0_about) B.pre
  have hown : s.vm.findClass RX0 = some m.cls := findClass_of_methodNamed B.named
  have hlocks := B.notSynchronized
  have hin_RX1 : ∀ w ∈ u_ws RX1 TX1 19, w ∈ wsX0_about := fun w h => List.mem_cons_of_mem _ (u_X1 w h)
  have hlk_55 := hZ.use (w := .fieldLinkNest RX0 55 "LinePair$Controller" "masked" "I" "LinePair") (by decide +kernel) (a := ([.ref hx, .int 0, .int 4]).toArray)
  have hlk_74 := hZ.use (w := .fieldLinkNest RX0 74 "LinePair$Controller" "inService" "I" "LinePair") (by decide +kernel) (a := ([.ref hx, .int 0, .int 4]).toArray)
  have hlk_77 := hZ.use (w := .fieldLinkNest RX0 77 "LinePair$Controller" "up" "I" "LinePair") (by decide +kernel) (a := ([.ref hx, .int 0, .int 4]).toArray)
  have hlk_80 := hZ.use (w := .fieldLinkNest RX0 80 "LinePair$Controller" "lowest" "I" "LinePair") (by decide +kernel) (a := ([.ref hx, .int 0, .int 4]).toArray)
  have hlk_83 := hZ.use (w := .fieldLinkNest RX0 83 "LinePair$Controller" "base" "I" "LinePair") (by decide +kernel) (a := ([.ref hx, .int 0, .int 4]).toArray)
  have hlk_86 := hZ.use (w := .fieldLinkNest RX0 86 "LinePair$Controller" "awaited" "I" "LinePair") (by decide +kernel) (a := ([.ref hx, .int 0, .int 4]).toArray)
  have hlk_89 := hZ.use (w := .fieldLinkNest RX0 89 "LinePair$Controller" "readChoice" "I" "LinePair") (by decide +kernel) (a := ([.ref hx, .int 0, .int 4]).toArray)
  have hml_71 : va_Nw (.methodLinkNest RX0 71 yX1_requested "LinePair") s := hZ.2 _ (by decide +kernel)
  have hl := lv_entry ([.ref hx, .int 0, .int 4]) (n := 4) (Nat.le_of_ble_eq_true rfl)
  rw [lg_entry_eq]
  generalize (lg_sl ([.ref hx, .int 0, .int 4]) ++ List.replicate (4 - (lg_sl ([.ref hx, .int 0, .int 4])).length) Slot.unset).toArray = ls at hl ⊢
  have hl : lv_has ls 4 [(0, .ref hx), (1, .int 0), (2, .int 4)] := hl
  refine lv_aload_n hx_ hb dX0_about_0 rfl (lv_at hl 0 rfl) ?_
  refine lv_iload_n hx_ hb dX0_about_1 rfl (lv_at hl 1 rfl) ?_
  refine xr_call (st1 := [.ref hc]) (W.runV (As := [.int 0]) (rest := []) ⟨hx_, hb, hml, hown, hts⟩ (c_controllerNumbered_0 l dC dI hx hc hh u0 u1 ea) (cwV 1 hts (gd_V wa_c k_ml_X0_35 k_im_X0_controllerNumbered k_se_X0_controllerNumbered k_in_X0 k_co_X0_controllerNumbered) rfl rfl rfl (by decide +kernel) ⟨Nat.le_of_ble_eq_true rfl, Nat.le_of_ble_eq_true rfl⟩) (xr_preV (q0 := 0) (C := RX0) hK hP hZ rfl rfl) rfl rfl hl.1 rfl (lv_room (Nat.le_of_ble_eq_true rfl)) dX0_about_2 ⟨Nat.zero_le _, Nat.zero_le _⟩) rfl ?_
  refine lv_astore_n (lv' := [(3, .ref hc), (0, .ref hx), (1, .int 0), (2, .int 4)]) hx_ hb dX0_about_5 rfl hl (by decide) rfl (fun ls hl => ?_)
  refine lv_iload_n hx_ hb dX0_about_6 rfl (lv_at hl 3 rfl) ?_
  refine lv_tableIn (tgt := 72) hx_ hb dX0_about_7 (by decide) (by decide) (by rfl) (by decide) ?_
  refine lv_aload_n hx_ hb dX0_about_72 rfl (lv_at hl 0 rfl) ?_
  refine va_getN (D := (dC, dI)) (ci := 1) (v := .int (u0 5)) (C := RX1) (T := TX1) (N := 19) hx_ hb hts hin_RX1 hown hK hP 1 rfl rfl 5 (by decide) hlk_80 (fun _ h9 => h9) rfl dX0_about_73 ?_
  exact xr_iret hx_ hb hr hlocks dX0_about_76 rfl

set_option maxHeartbeats 4000000 in
set_option maxRecDepth 100000 in
theorem c_about_0_5 (l : Launch) (dC : Nat → ClassId) (dI : Nat → Nat → Nat) (hx hc hh : Nat) (u0 u1 : Nat → Int32) (ea : Int32) : xr_M l yX0_about wsX0_about ({ frames := 1, cells := 0, slots := 0, locals := 21 }) [.ref hx, .int 0, .int 5] (dC, dI) vwCl [] pz (pw hx hc hh (u0, u1, ea)) (some (.int (u0 6))) := by
  refine Met.ofW (cc := cX0_about) (maxL := 4) (ret := (some .int)) (by decide) rfl ?_
  intro p e s m args below meth c s₁ B hml hv
  obtain ⟨rfl, hP, hK, hZ⟩ := hv
  have hx_ := B.exec
  have hb := B.bytes
  have hr := B.returns
  have hts := atoms_spec (ws := wsX0_about) B.pre
  have hown : s.vm.findClass RX0 = some m.cls := findClass_of_methodNamed B.named
  have hlocks := B.notSynchronized
  have hin_RX1 : ∀ w ∈ u_ws RX1 TX1 19, w ∈ wsX0_about := fun w h => List.mem_cons_of_mem _ (u_X1 w h)
  have hlk_55 := hZ.use (w := .fieldLinkNest RX0 55 "LinePair$Controller" "masked" "I" "LinePair") (by decide +kernel) (a := ([.ref hx, .int 0, .int 5]).toArray)
  have hlk_74 := hZ.use (w := .fieldLinkNest RX0 74 "LinePair$Controller" "inService" "I" "LinePair") (by decide +kernel) (a := ([.ref hx, .int 0, .int 5]).toArray)
  have hlk_77 := hZ.use (w := .fieldLinkNest RX0 77 "LinePair$Controller" "up" "I" "LinePair") (by decide +kernel) (a := ([.ref hx, .int 0, .int 5]).toArray)
  have hlk_80 := hZ.use (w := .fieldLinkNest RX0 80 "LinePair$Controller" "lowest" "I" "LinePair") (by decide +kernel) (a := ([.ref hx, .int 0, .int 5]).toArray)
  have hlk_83 := hZ.use (w := .fieldLinkNest RX0 83 "LinePair$Controller" "base" "I" "LinePair") (by decide +kernel) (a := ([.ref hx, .int 0, .int 5]).toArray)
  have hlk_86 := hZ.use (w := .fieldLinkNest RX0 86 "LinePair$Controller" "awaited" "I" "LinePair") (by decide +kernel) (a := ([.ref hx, .int 0, .int 5]).toArray)
  have hlk_89 := hZ.use (w := .fieldLinkNest RX0 89 "LinePair$Controller" "readChoice" "I" "LinePair") (by decide +kernel) (a := ([.ref hx, .int 0, .int 5]).toArray)
  have hml_71 : va_Nw (.methodLinkNest RX0 71 yX1_requested "LinePair") s := hZ.2 _ (by decide +kernel)
  have hl := lv_entry ([.ref hx, .int 0, .int 5]) (n := 4) (Nat.le_of_ble_eq_true rfl)
  rw [lg_entry_eq]
  generalize (lg_sl ([.ref hx, .int 0, .int 5]) ++ List.replicate (4 - (lg_sl ([.ref hx, .int 0, .int 5])).length) Slot.unset).toArray = ls at hl ⊢
  have hl : lv_has ls 4 [(0, .ref hx), (1, .int 0), (2, .int 5)] := hl
  refine lv_aload_n hx_ hb dX0_about_0 rfl (lv_at hl 0 rfl) ?_
  refine lv_iload_n hx_ hb dX0_about_1 rfl (lv_at hl 1 rfl) ?_
  refine xr_call (st1 := [.ref hc]) (W.runV (As := [.int 0]) (rest := []) ⟨hx_, hb, hml, hown, hts⟩ (c_controllerNumbered_0 l dC dI hx hc hh u0 u1 ea) (cwV 1 hts (gd_V wa_c k_ml_X0_35 k_im_X0_controllerNumbered k_se_X0_controllerNumbered k_in_X0 k_co_X0_controllerNumbered) rfl rfl rfl (by decide +kernel) ⟨Nat.le_of_ble_eq_true rfl, Nat.le_of_ble_eq_true rfl⟩) (xr_preV (q0 := 0) (C := RX0) hK hP hZ rfl rfl) rfl rfl hl.1 rfl (lv_room (Nat.le_of_ble_eq_true rfl)) dX0_about_2 ⟨Nat.zero_le _, Nat.zero_le _⟩) rfl ?_
  refine lv_astore_n (lv' := [(3, .ref hc), (0, .ref hx), (1, .int 0), (2, .int 5)]) hx_ hb dX0_about_5 rfl hl (by decide) rfl (fun ls hl => ?_)
  refine lv_iload_n hx_ hb dX0_about_6 rfl (lv_at hl 3 rfl) ?_
  refine lv_tableIn (tgt := 77) hx_ hb dX0_about_7 (by decide) (by decide) (by rfl) (by decide) ?_
  refine lv_aload_n hx_ hb dX0_about_77 rfl (lv_at hl 0 rfl) ?_
  refine va_getN (D := (dC, dI)) (ci := 1) (v := .int (u0 6)) (C := RX1) (T := TX1) (N := 19) hx_ hb hts hin_RX1 hown hK hP 1 rfl rfl 6 (by decide) hlk_83 (fun _ h9 => h9) rfl dX0_about_78 ?_
  exact xr_iret hx_ hb hr hlocks dX0_about_81 rfl

set_option maxHeartbeats 4000000 in
set_option maxRecDepth 100000 in
theorem c_about_0_6 (l : Launch) (dC : Nat → ClassId) (dI : Nat → Nat → Nat) (hx hc hh : Nat) (u0 u1 : Nat → Int32) (ea : Int32) : xr_M l yX0_about wsX0_about ({ frames := 1, cells := 0, slots := 0, locals := 21 }) [.ref hx, .int 0, .int 6] (dC, dI) vwCl [] pz (pw hx hc hh (u0, u1, ea)) (some (.int (u0 7))) := by
  refine Met.ofW (cc := cX0_about) (maxL := 4) (ret := (some .int)) (by decide) rfl ?_
  intro p e s m args below meth c s₁ B hml hv
  obtain ⟨rfl, hP, hK, hZ⟩ := hv
  have hx_ := B.exec
  have hb := B.bytes
  have hr := B.returns
  have hts := atoms_spec (ws := wsX0_about) B.pre
  have hown : s.vm.findClass RX0 = some m.cls := findClass_of_methodNamed B.named
  have hlocks := B.notSynchronized
  have hin_RX1 : ∀ w ∈ u_ws RX1 TX1 19, w ∈ wsX0_about := fun w h => List.mem_cons_of_mem _ (u_X1 w h)
  have hlk_55 := hZ.use (w := .fieldLinkNest RX0 55 "LinePair$Controller" "masked" "I" "LinePair") (by decide +kernel) (a := ([.ref hx, .int 0, .int 6]).toArray)
  have hlk_74 := hZ.use (w := .fieldLinkNest RX0 74 "LinePair$Controller" "inService" "I" "LinePair") (by decide +kernel) (a := ([.ref hx, .int 0, .int 6]).toArray)
  have hlk_77 := hZ.use (w := .fieldLinkNest RX0 77 "LinePair$Controller" "up" "I" "LinePair") (by decide +kernel) (a := ([.ref hx, .int 0, .int 6]).toArray)
  have hlk_80 := hZ.use (w := .fieldLinkNest RX0 80 "LinePair$Controller" "lowest" "I" "LinePair") (by decide +kernel) (a := ([.ref hx, .int 0, .int 6]).toArray)
  have hlk_83 := hZ.use (w := .fieldLinkNest RX0 83 "LinePair$Controller" "base" "I" "LinePair") (by decide +kernel) (a := ([.ref hx, .int 0, .int 6]).toArray)
  have hlk_86 := hZ.use (w := .fieldLinkNest RX0 86 "LinePair$Controller" "awaited" "I" "LinePair") (by decide +kernel) (a := ([.ref hx, .int 0, .int 6]).toArray)
  have hlk_89 := hZ.use (w := .fieldLinkNest RX0 89 "LinePair$Controller" "readChoice" "I" "LinePair") (by decide +kernel) (a := ([.ref hx, .int 0, .int 6]).toArray)
  have hml_71 : va_Nw (.methodLinkNest RX0 71 yX1_requested "LinePair") s := hZ.2 _ (by decide +kernel)
  have hl := lv_entry ([.ref hx, .int 0, .int 6]) (n := 4) (Nat.le_of_ble_eq_true rfl)
  rw [lg_entry_eq]
  generalize (lg_sl ([.ref hx, .int 0, .int 6]) ++ List.replicate (4 - (lg_sl ([.ref hx, .int 0, .int 6])).length) Slot.unset).toArray = ls at hl ⊢
  have hl : lv_has ls 4 [(0, .ref hx), (1, .int 0), (2, .int 6)] := hl
  refine lv_aload_n hx_ hb dX0_about_0 rfl (lv_at hl 0 rfl) ?_
  refine lv_iload_n hx_ hb dX0_about_1 rfl (lv_at hl 1 rfl) ?_
  refine xr_call (st1 := [.ref hc]) (W.runV (As := [.int 0]) (rest := []) ⟨hx_, hb, hml, hown, hts⟩ (c_controllerNumbered_0 l dC dI hx hc hh u0 u1 ea) (cwV 1 hts (gd_V wa_c k_ml_X0_35 k_im_X0_controllerNumbered k_se_X0_controllerNumbered k_in_X0 k_co_X0_controllerNumbered) rfl rfl rfl (by decide +kernel) ⟨Nat.le_of_ble_eq_true rfl, Nat.le_of_ble_eq_true rfl⟩) (xr_preV (q0 := 0) (C := RX0) hK hP hZ rfl rfl) rfl rfl hl.1 rfl (lv_room (Nat.le_of_ble_eq_true rfl)) dX0_about_2 ⟨Nat.zero_le _, Nat.zero_le _⟩) rfl ?_
  refine lv_astore_n (lv' := [(3, .ref hc), (0, .ref hx), (1, .int 0), (2, .int 6)]) hx_ hb dX0_about_5 rfl hl (by decide) rfl (fun ls hl => ?_)
  refine lv_iload_n hx_ hb dX0_about_6 rfl (lv_at hl 3 rfl) ?_
  refine lv_tableIn (tgt := 82) hx_ hb dX0_about_7 (by decide) (by decide) (by rfl) (by decide) ?_
  refine lv_aload_n hx_ hb dX0_about_82 rfl (lv_at hl 0 rfl) ?_
  refine va_getN (D := (dC, dI)) (ci := 1) (v := .int (u0 7)) (C := RX1) (T := TX1) (N := 19) hx_ hb hts hin_RX1 hown hK hP 1 rfl rfl 7 (by decide) hlk_86 (fun _ h9 => h9) rfl dX0_about_83 ?_
  exact xr_iret hx_ hb hr hlocks dX0_about_86 rfl

set_option maxHeartbeats 4000000 in
set_option maxRecDepth 100000 in
theorem c_about_0_7 (l : Launch) (dC : Nat → ClassId) (dI : Nat → Nat → Nat) (hx hc hh : Nat) (u0 u1 : Nat → Int32) (ea : Int32) : xr_M l yX0_about wsX0_about ({ frames := 1, cells := 0, slots := 0, locals := 21 }) [.ref hx, .int 0, .int 7] (dC, dI) vwCl [] pz (pw hx hc hh (u0, u1, ea)) (some (.int (u0 8))) := by
  refine Met.ofW (cc := cX0_about) (maxL := 4) (ret := (some .int)) (by decide) rfl ?_
  intro p e s m args below meth c s₁ B hml hv
  obtain ⟨rfl, hP, hK, hZ⟩ := hv
  have hx_ := B.exec
  have hb := B.bytes
  have hr := B.returns
  have hts := atoms_spec (ws := wsX0_about) B.pre
  have hown : s.vm.findClass RX0 = some m.cls := findClass_of_methodNamed B.named
  have hlocks := B.notSynchronized
  have hin_RX1 : ∀ w ∈ u_ws RX1 TX1 19, w ∈ wsX0_about := fun w h => List.mem_cons_of_mem _ (u_X1 w h)
  have hlk_55 := hZ.use (w := .fieldLinkNest RX0 55 "LinePair$Controller" "masked" "I" "LinePair") (by decide +kernel) (a := ([.ref hx, .int 0, .int 7]).toArray)
  have hlk_74 := hZ.use (w := .fieldLinkNest RX0 74 "LinePair$Controller" "inService" "I" "LinePair") (by decide +kernel) (a := ([.ref hx, .int 0, .int 7]).toArray)
  have hlk_77 := hZ.use (w := .fieldLinkNest RX0 77 "LinePair$Controller" "up" "I" "LinePair") (by decide +kernel) (a := ([.ref hx, .int 0, .int 7]).toArray)
  have hlk_80 := hZ.use (w := .fieldLinkNest RX0 80 "LinePair$Controller" "lowest" "I" "LinePair") (by decide +kernel) (a := ([.ref hx, .int 0, .int 7]).toArray)
  have hlk_83 := hZ.use (w := .fieldLinkNest RX0 83 "LinePair$Controller" "base" "I" "LinePair") (by decide +kernel) (a := ([.ref hx, .int 0, .int 7]).toArray)
  have hlk_86 := hZ.use (w := .fieldLinkNest RX0 86 "LinePair$Controller" "awaited" "I" "LinePair") (by decide +kernel) (a := ([.ref hx, .int 0, .int 7]).toArray)
  have hlk_89 := hZ.use (w := .fieldLinkNest RX0 89 "LinePair$Controller" "readChoice" "I" "LinePair") (by decide +kernel) (a := ([.ref hx, .int 0, .int 7]).toArray)
  have hml_71 : va_Nw (.methodLinkNest RX0 71 yX1_requested "LinePair") s := hZ.2 _ (by decide +kernel)
  have hl := lv_entry ([.ref hx, .int 0, .int 7]) (n := 4) (Nat.le_of_ble_eq_true rfl)
  rw [lg_entry_eq]
  generalize (lg_sl ([.ref hx, .int 0, .int 7]) ++ List.replicate (4 - (lg_sl ([.ref hx, .int 0, .int 7])).length) Slot.unset).toArray = ls at hl ⊢
  have hl : lv_has ls 4 [(0, .ref hx), (1, .int 0), (2, .int 7)] := hl
  refine lv_aload_n hx_ hb dX0_about_0 rfl (lv_at hl 0 rfl) ?_
  refine lv_iload_n hx_ hb dX0_about_1 rfl (lv_at hl 1 rfl) ?_
  refine xr_call (st1 := [.ref hc]) (W.runV (As := [.int 0]) (rest := []) ⟨hx_, hb, hml, hown, hts⟩ (c_controllerNumbered_0 l dC dI hx hc hh u0 u1 ea) (cwV 1 hts (gd_V wa_c k_ml_X0_35 k_im_X0_controllerNumbered k_se_X0_controllerNumbered k_in_X0 k_co_X0_controllerNumbered) rfl rfl rfl (by decide +kernel) ⟨Nat.le_of_ble_eq_true rfl, Nat.le_of_ble_eq_true rfl⟩) (xr_preV (q0 := 0) (C := RX0) hK hP hZ rfl rfl) rfl rfl hl.1 rfl (lv_room (Nat.le_of_ble_eq_true rfl)) dX0_about_2 ⟨Nat.zero_le _, Nat.zero_le _⟩) rfl ?_
  refine lv_astore_n (lv' := [(3, .ref hc), (0, .ref hx), (1, .int 0), (2, .int 7)]) hx_ hb dX0_about_5 rfl hl (by decide) rfl (fun ls hl => ?_)
  refine lv_iload_n hx_ hb dX0_about_6 rfl (lv_at hl 3 rfl) ?_
  refine lv_tableIn (tgt := 87) hx_ hb dX0_about_7 (by decide) (by decide) (by rfl) (by decide) ?_
  refine lv_aload_n hx_ hb dX0_about_87 rfl (lv_at hl 0 rfl) ?_
  refine va_getN (D := (dC, dI)) (ci := 1) (v := .int (u0 8)) (C := RX1) (T := TX1) (N := 19) hx_ hb hts hin_RX1 hown hK hP 1 rfl rfl 8 (by decide) hlk_89 (fun _ h9 => h9) rfl dX0_about_88 ?_
  exact xr_iret hx_ hb hr hlocks dX0_about_91 rfl

set_option maxHeartbeats 4000000 in
set_option maxRecDepth 100000 in
theorem c_mode_0_0 (l : Launch) (dC : Nat → ClassId) (dI : Nat → Nat → Nat) (hx hc hh : Nat) (u0 u1 : Nat → Int32) (ea : Int32) (hok0 : lpOk u0) : xr_M l yX0_mode wsX0_mode ({ frames := 1, cells := 0, slots := 0, locals := 21 }) [.ref hx, .int 0, .int 0] (dC, dI) vwCl [] pz (pw hx hc hh (u0, u1, ea)) (some (.int (u0 10))) := by
  refine Met.ofW (cc := cX0_mode) (maxL := 4) (ret := (some .boolean)) (by decide) rfl ?_
  intro p e s m args below meth c s₁ B hml hv
  obtain ⟨rfl, hP, hK, hZ⟩ := hv
  have hx_ := B.exec
  have hb := B.bytes
  have hr := B.returns
  have hts := atoms_spec (ws := wsX0_mode) B.pre
  have hown : s.vm.findClass RX0 = some m.cls := findClass_of_methodNamed B.named
  have hlocks := B.notSynchronized
  have hin_RX1 : ∀ w ∈ u_ws RX1 TX1 19, w ∈ wsX0_mode := fun w h => List.mem_cons_of_mem _ (u_X1 w h)
  have hlk_92 := hZ.use (w := .fieldLinkNest RX0 92 "LinePair$Controller" "ready" "Z" "LinePair") (by decide +kernel) (a := ([.ref hx, .int 0, .int 0]).toArray)
  have hlk_96 := hZ.use (w := .fieldLinkNest RX0 96 "LinePair$Controller" "byLevels" "Z" "LinePair") (by decide +kernel) (a := ([.ref hx, .int 0, .int 0]).toArray)
  have hlk_99 := hZ.use (w := .fieldLinkNest RX0 99 "LinePair$Controller" "specialMask" "Z" "LinePair") (by decide +kernel) (a := ([.ref hx, .int 0, .int 0]).toArray)
  have hlk_102 := hZ.use (w := .fieldLinkNest RX0 102 "LinePair$Controller" "specialNesting" "Z" "LinePair") (by decide +kernel) (a := ([.ref hx, .int 0, .int 0]).toArray)
  have hlk_105 := hZ.use (w := .fieldLinkNest RX0 105 "LinePair$Controller" "endsAtOnce" "Z" "LinePair") (by decide +kernel) (a := ([.ref hx, .int 0, .int 0]).toArray)
  have hlk_108 := hZ.use (w := .fieldLinkNest RX0 108 "LinePair$Controller" "turnsAtOnce" "Z" "LinePair") (by decide +kernel) (a := ([.ref hx, .int 0, .int 0]).toArray)
  have hlk_111 := hZ.use (w := .fieldLinkNest RX0 111 "LinePair$Controller" "pollWaits" "Z" "LinePair") (by decide +kernel) (a := ([.ref hx, .int 0, .int 0]).toArray)
  have hl := lv_entry ([.ref hx, .int 0, .int 0]) (n := 4) (Nat.le_of_ble_eq_true rfl)
  rw [lg_entry_eq]
  generalize (lg_sl ([.ref hx, .int 0, .int 0]) ++ List.replicate (4 - (lg_sl ([.ref hx, .int 0, .int 0])).length) Slot.unset).toArray = ls at hl ⊢
  have hl : lv_has ls 4 [(0, .ref hx), (1, .int 0), (2, .int 0)] := hl
  refine lv_aload_n hx_ hb dX0_mode_0 rfl (lv_at hl 0 rfl) ?_
  refine lv_iload_n hx_ hb dX0_mode_1 rfl (lv_at hl 1 rfl) ?_
  refine xr_call (st1 := [.ref hc]) (W.runV (As := [.int 0]) (rest := []) ⟨hx_, hb, hml, hown, hts⟩ (c_controllerNumbered_0 l dC dI hx hc hh u0 u1 ea) (cwV 1 hts (gd_V wa_c k_ml_X0_35 k_im_X0_controllerNumbered k_se_X0_controllerNumbered k_in_X0 k_co_X0_controllerNumbered) rfl rfl rfl (by decide +kernel) ⟨Nat.le_of_ble_eq_true rfl, Nat.le_of_ble_eq_true rfl⟩) (xr_preV (q0 := 0) (C := RX0) hK hP hZ rfl rfl) rfl rfl hl.1 rfl (lv_room (Nat.le_of_ble_eq_true rfl)) dX0_mode_2 ⟨Nat.zero_le _, Nat.zero_le _⟩) rfl ?_
  refine lv_astore_n (lv' := [(3, .ref hc), (0, .ref hx), (1, .int 0), (2, .int 0)]) hx_ hb dX0_mode_5 rfl hl (by decide) rfl (fun ls hl => ?_)
  refine lv_iload_n hx_ hb dX0_mode_6 rfl (lv_at hl 3 rfl) ?_
  refine lv_tableIn (tgt := 48) hx_ hb dX0_mode_7 (by decide) (by decide) (by rfl) (by decide) ?_
  refine lv_aload_n hx_ hb dX0_mode_48 rfl (lv_at hl 0 rfl) ?_
  refine va_getN (D := (dC, dI)) (ci := 1) (v := .int (u0 10)) (C := RX1) (T := TX1) (N := 19) hx_ hb hts hin_RX1 hown hK hP 1 rfl rfl 10 (by decide) hlk_92 (fun _ h9 => h9) rfl dX0_mode_49 ?_
  exact xr_zret hx_ hb hr hlocks dX0_mode_52 (lpOk_nar hok0 10 (by decide)) rfl

set_option maxHeartbeats 4000000 in
set_option maxRecDepth 100000 in
theorem c_mode_0_1 (l : Launch) (dC : Nat → ClassId) (dI : Nat → Nat → Nat) (hx hc hh : Nat) (u0 u1 : Nat → Int32) (ea : Int32) (hok0 : lpOk u0) : xr_M l yX0_mode wsX0_mode ({ frames := 1, cells := 0, slots := 0, locals := 21 }) [.ref hx, .int 0, .int 1] (dC, dI) vwCl [] pz (pw hx hc hh (u0, u1, ea)) (some (.int (u0 11))) := by
  refine Met.ofW (cc := cX0_mode) (maxL := 4) (ret := (some .boolean)) (by decide) rfl ?_
  intro p e s m args below meth c s₁ B hml hv
  obtain ⟨rfl, hP, hK, hZ⟩ := hv
  have hx_ := B.exec
  have hb := B.bytes
  have hr := B.returns
  have hts := atoms_spec (ws := wsX0_mode) B.pre
  have hown : s.vm.findClass RX0 = some m.cls := findClass_of_methodNamed B.named
  have hlocks := B.notSynchronized
  have hin_RX1 : ∀ w ∈ u_ws RX1 TX1 19, w ∈ wsX0_mode := fun w h => List.mem_cons_of_mem _ (u_X1 w h)
  have hlk_92 := hZ.use (w := .fieldLinkNest RX0 92 "LinePair$Controller" "ready" "Z" "LinePair") (by decide +kernel) (a := ([.ref hx, .int 0, .int 1]).toArray)
  have hlk_96 := hZ.use (w := .fieldLinkNest RX0 96 "LinePair$Controller" "byLevels" "Z" "LinePair") (by decide +kernel) (a := ([.ref hx, .int 0, .int 1]).toArray)
  have hlk_99 := hZ.use (w := .fieldLinkNest RX0 99 "LinePair$Controller" "specialMask" "Z" "LinePair") (by decide +kernel) (a := ([.ref hx, .int 0, .int 1]).toArray)
  have hlk_102 := hZ.use (w := .fieldLinkNest RX0 102 "LinePair$Controller" "specialNesting" "Z" "LinePair") (by decide +kernel) (a := ([.ref hx, .int 0, .int 1]).toArray)
  have hlk_105 := hZ.use (w := .fieldLinkNest RX0 105 "LinePair$Controller" "endsAtOnce" "Z" "LinePair") (by decide +kernel) (a := ([.ref hx, .int 0, .int 1]).toArray)
  have hlk_108 := hZ.use (w := .fieldLinkNest RX0 108 "LinePair$Controller" "turnsAtOnce" "Z" "LinePair") (by decide +kernel) (a := ([.ref hx, .int 0, .int 1]).toArray)
  have hlk_111 := hZ.use (w := .fieldLinkNest RX0 111 "LinePair$Controller" "pollWaits" "Z" "LinePair") (by decide +kernel) (a := ([.ref hx, .int 0, .int 1]).toArray)
  have hl := lv_entry ([.ref hx, .int 0, .int 1]) (n := 4) (Nat.le_of_ble_eq_true rfl)
  rw [lg_entry_eq]
  generalize (lg_sl ([.ref hx, .int 0, .int 1]) ++ List.replicate (4 - (lg_sl ([.ref hx, .int 0, .int 1])).length) Slot.unset).toArray = ls at hl ⊢
  have hl : lv_has ls 4 [(0, .ref hx), (1, .int 0), (2, .int 1)] := hl
  refine lv_aload_n hx_ hb dX0_mode_0 rfl (lv_at hl 0 rfl) ?_
  refine lv_iload_n hx_ hb dX0_mode_1 rfl (lv_at hl 1 rfl) ?_
  refine xr_call (st1 := [.ref hc]) (W.runV (As := [.int 0]) (rest := []) ⟨hx_, hb, hml, hown, hts⟩ (c_controllerNumbered_0 l dC dI hx hc hh u0 u1 ea) (cwV 1 hts (gd_V wa_c k_ml_X0_35 k_im_X0_controllerNumbered k_se_X0_controllerNumbered k_in_X0 k_co_X0_controllerNumbered) rfl rfl rfl (by decide +kernel) ⟨Nat.le_of_ble_eq_true rfl, Nat.le_of_ble_eq_true rfl⟩) (xr_preV (q0 := 0) (C := RX0) hK hP hZ rfl rfl) rfl rfl hl.1 rfl (lv_room (Nat.le_of_ble_eq_true rfl)) dX0_mode_2 ⟨Nat.zero_le _, Nat.zero_le _⟩) rfl ?_
  refine lv_astore_n (lv' := [(3, .ref hc), (0, .ref hx), (1, .int 0), (2, .int 1)]) hx_ hb dX0_mode_5 rfl hl (by decide) rfl (fun ls hl => ?_)
  refine lv_iload_n hx_ hb dX0_mode_6 rfl (lv_at hl 3 rfl) ?_
  refine lv_tableIn (tgt := 53) hx_ hb dX0_mode_7 (by decide) (by decide) (by rfl) (by decide) ?_
  refine lv_aload_n hx_ hb dX0_mode_53 rfl (lv_at hl 0 rfl) ?_
  refine va_getN (D := (dC, dI)) (ci := 1) (v := .int (u0 11)) (C := RX1) (T := TX1) (N := 19) hx_ hb hts hin_RX1 hown hK hP 1 rfl rfl 11 (by decide) hlk_96 (fun _ h9 => h9) rfl dX0_mode_54 ?_
  exact xr_zret hx_ hb hr hlocks dX0_mode_57 (lpOk_nar hok0 11 (by decide)) rfl

set_option maxHeartbeats 4000000 in
set_option maxRecDepth 100000 in
theorem c_mode_0_2 (l : Launch) (dC : Nat → ClassId) (dI : Nat → Nat → Nat) (hx hc hh : Nat) (u0 u1 : Nat → Int32) (ea : Int32) (hok0 : lpOk u0) : xr_M l yX0_mode wsX0_mode ({ frames := 1, cells := 0, slots := 0, locals := 21 }) [.ref hx, .int 0, .int 2] (dC, dI) vwCl [] pz (pw hx hc hh (u0, u1, ea)) (some (.int (u0 12))) := by
  refine Met.ofW (cc := cX0_mode) (maxL := 4) (ret := (some .boolean)) (by decide) rfl ?_
  intro p e s m args below meth c s₁ B hml hv
  obtain ⟨rfl, hP, hK, hZ⟩ := hv
  have hx_ := B.exec
  have hb := B.bytes
  have hr := B.returns
  have hts := atoms_spec (ws := wsX0_mode) B.pre
  have hown : s.vm.findClass RX0 = some m.cls := findClass_of_methodNamed B.named
  have hlocks := B.notSynchronized
  have hin_RX1 : ∀ w ∈ u_ws RX1 TX1 19, w ∈ wsX0_mode := fun w h => List.mem_cons_of_mem _ (u_X1 w h)
  have hlk_92 := hZ.use (w := .fieldLinkNest RX0 92 "LinePair$Controller" "ready" "Z" "LinePair") (by decide +kernel) (a := ([.ref hx, .int 0, .int 2]).toArray)
  have hlk_96 := hZ.use (w := .fieldLinkNest RX0 96 "LinePair$Controller" "byLevels" "Z" "LinePair") (by decide +kernel) (a := ([.ref hx, .int 0, .int 2]).toArray)
  have hlk_99 := hZ.use (w := .fieldLinkNest RX0 99 "LinePair$Controller" "specialMask" "Z" "LinePair") (by decide +kernel) (a := ([.ref hx, .int 0, .int 2]).toArray)
  have hlk_102 := hZ.use (w := .fieldLinkNest RX0 102 "LinePair$Controller" "specialNesting" "Z" "LinePair") (by decide +kernel) (a := ([.ref hx, .int 0, .int 2]).toArray)
  have hlk_105 := hZ.use (w := .fieldLinkNest RX0 105 "LinePair$Controller" "endsAtOnce" "Z" "LinePair") (by decide +kernel) (a := ([.ref hx, .int 0, .int 2]).toArray)
  have hlk_108 := hZ.use (w := .fieldLinkNest RX0 108 "LinePair$Controller" "turnsAtOnce" "Z" "LinePair") (by decide +kernel) (a := ([.ref hx, .int 0, .int 2]).toArray)
  have hlk_111 := hZ.use (w := .fieldLinkNest RX0 111 "LinePair$Controller" "pollWaits" "Z" "LinePair") (by decide +kernel) (a := ([.ref hx, .int 0, .int 2]).toArray)
  have hl := lv_entry ([.ref hx, .int 0, .int 2]) (n := 4) (Nat.le_of_ble_eq_true rfl)
  rw [lg_entry_eq]
  generalize (lg_sl ([.ref hx, .int 0, .int 2]) ++ List.replicate (4 - (lg_sl ([.ref hx, .int 0, .int 2])).length) Slot.unset).toArray = ls at hl ⊢
  have hl : lv_has ls 4 [(0, .ref hx), (1, .int 0), (2, .int 2)] := hl
  refine lv_aload_n hx_ hb dX0_mode_0 rfl (lv_at hl 0 rfl) ?_
  refine lv_iload_n hx_ hb dX0_mode_1 rfl (lv_at hl 1 rfl) ?_
  refine xr_call (st1 := [.ref hc]) (W.runV (As := [.int 0]) (rest := []) ⟨hx_, hb, hml, hown, hts⟩ (c_controllerNumbered_0 l dC dI hx hc hh u0 u1 ea) (cwV 1 hts (gd_V wa_c k_ml_X0_35 k_im_X0_controllerNumbered k_se_X0_controllerNumbered k_in_X0 k_co_X0_controllerNumbered) rfl rfl rfl (by decide +kernel) ⟨Nat.le_of_ble_eq_true rfl, Nat.le_of_ble_eq_true rfl⟩) (xr_preV (q0 := 0) (C := RX0) hK hP hZ rfl rfl) rfl rfl hl.1 rfl (lv_room (Nat.le_of_ble_eq_true rfl)) dX0_mode_2 ⟨Nat.zero_le _, Nat.zero_le _⟩) rfl ?_
  refine lv_astore_n (lv' := [(3, .ref hc), (0, .ref hx), (1, .int 0), (2, .int 2)]) hx_ hb dX0_mode_5 rfl hl (by decide) rfl (fun ls hl => ?_)
  refine lv_iload_n hx_ hb dX0_mode_6 rfl (lv_at hl 3 rfl) ?_
  refine lv_tableIn (tgt := 58) hx_ hb dX0_mode_7 (by decide) (by decide) (by rfl) (by decide) ?_
  refine lv_aload_n hx_ hb dX0_mode_58 rfl (lv_at hl 0 rfl) ?_
  refine va_getN (D := (dC, dI)) (ci := 1) (v := .int (u0 12)) (C := RX1) (T := TX1) (N := 19) hx_ hb hts hin_RX1 hown hK hP 1 rfl rfl 12 (by decide) hlk_99 (fun _ h9 => h9) rfl dX0_mode_59 ?_
  exact xr_zret hx_ hb hr hlocks dX0_mode_62 (lpOk_nar hok0 12 (by decide)) rfl

set_option maxHeartbeats 4000000 in
set_option maxRecDepth 100000 in
theorem c_mode_0_3 (l : Launch) (dC : Nat → ClassId) (dI : Nat → Nat → Nat) (hx hc hh : Nat) (u0 u1 : Nat → Int32) (ea : Int32) (hok0 : lpOk u0) : xr_M l yX0_mode wsX0_mode ({ frames := 1, cells := 0, slots := 0, locals := 21 }) [.ref hx, .int 0, .int 3] (dC, dI) vwCl [] pz (pw hx hc hh (u0, u1, ea)) (some (.int (u0 13))) := by
  refine Met.ofW (cc := cX0_mode) (maxL := 4) (ret := (some .boolean)) (by decide) rfl ?_
  intro p e s m args below meth c s₁ B hml hv
  obtain ⟨rfl, hP, hK, hZ⟩ := hv
  have hx_ := B.exec
  have hb := B.bytes
  have hr := B.returns
  have hts := atoms_spec (ws := wsX0_mode) B.pre
  have hown : s.vm.findClass RX0 = some m.cls := findClass_of_methodNamed B.named
  have hlocks := B.notSynchronized
  have hin_RX1 : ∀ w ∈ u_ws RX1 TX1 19, w ∈ wsX0_mode := fun w h => List.mem_cons_of_mem _ (u_X1 w h)
  have hlk_92 := hZ.use (w := .fieldLinkNest RX0 92 "LinePair$Controller" "ready" "Z" "LinePair") (by decide +kernel) (a := ([.ref hx, .int 0, .int 3]).toArray)
  have hlk_96 := hZ.use (w := .fieldLinkNest RX0 96 "LinePair$Controller" "byLevels" "Z" "LinePair") (by decide +kernel) (a := ([.ref hx, .int 0, .int 3]).toArray)
  have hlk_99 := hZ.use (w := .fieldLinkNest RX0 99 "LinePair$Controller" "specialMask" "Z" "LinePair") (by decide +kernel) (a := ([.ref hx, .int 0, .int 3]).toArray)
  have hlk_102 := hZ.use (w := .fieldLinkNest RX0 102 "LinePair$Controller" "specialNesting" "Z" "LinePair") (by decide +kernel) (a := ([.ref hx, .int 0, .int 3]).toArray)
  have hlk_105 := hZ.use (w := .fieldLinkNest RX0 105 "LinePair$Controller" "endsAtOnce" "Z" "LinePair") (by decide +kernel) (a := ([.ref hx, .int 0, .int 3]).toArray)
  have hlk_108 := hZ.use (w := .fieldLinkNest RX0 108 "LinePair$Controller" "turnsAtOnce" "Z" "LinePair") (by decide +kernel) (a := ([.ref hx, .int 0, .int 3]).toArray)
  have hlk_111 := hZ.use (w := .fieldLinkNest RX0 111 "LinePair$Controller" "pollWaits" "Z" "LinePair") (by decide +kernel) (a := ([.ref hx, .int 0, .int 3]).toArray)
  have hl := lv_entry ([.ref hx, .int 0, .int 3]) (n := 4) (Nat.le_of_ble_eq_true rfl)
  rw [lg_entry_eq]
  generalize (lg_sl ([.ref hx, .int 0, .int 3]) ++ List.replicate (4 - (lg_sl ([.ref hx, .int 0, .int 3])).length) Slot.unset).toArray = ls at hl ⊢
  have hl : lv_has ls 4 [(0, .ref hx), (1, .int 0), (2, .int 3)] := hl
  refine lv_aload_n hx_ hb dX0_mode_0 rfl (lv_at hl 0 rfl) ?_
  refine lv_iload_n hx_ hb dX0_mode_1 rfl (lv_at hl 1 rfl) ?_
  refine xr_call (st1 := [.ref hc]) (W.runV (As := [.int 0]) (rest := []) ⟨hx_, hb, hml, hown, hts⟩ (c_controllerNumbered_0 l dC dI hx hc hh u0 u1 ea) (cwV 1 hts (gd_V wa_c k_ml_X0_35 k_im_X0_controllerNumbered k_se_X0_controllerNumbered k_in_X0 k_co_X0_controllerNumbered) rfl rfl rfl (by decide +kernel) ⟨Nat.le_of_ble_eq_true rfl, Nat.le_of_ble_eq_true rfl⟩) (xr_preV (q0 := 0) (C := RX0) hK hP hZ rfl rfl) rfl rfl hl.1 rfl (lv_room (Nat.le_of_ble_eq_true rfl)) dX0_mode_2 ⟨Nat.zero_le _, Nat.zero_le _⟩) rfl ?_
  refine lv_astore_n (lv' := [(3, .ref hc), (0, .ref hx), (1, .int 0), (2, .int 3)]) hx_ hb dX0_mode_5 rfl hl (by decide) rfl (fun ls hl => ?_)
  refine lv_iload_n hx_ hb dX0_mode_6 rfl (lv_at hl 3 rfl) ?_
  refine lv_tableIn (tgt := 63) hx_ hb dX0_mode_7 (by decide) (by decide) (by rfl) (by decide) ?_
  refine lv_aload_n hx_ hb dX0_mode_63 rfl (lv_at hl 0 rfl) ?_
  refine va_getN (D := (dC, dI)) (ci := 1) (v := .int (u0 13)) (C := RX1) (T := TX1) (N := 19) hx_ hb hts hin_RX1 hown hK hP 1 rfl rfl 13 (by decide) hlk_102 (fun _ h9 => h9) rfl dX0_mode_64 ?_
  exact xr_zret hx_ hb hr hlocks dX0_mode_67 (lpOk_nar hok0 13 (by decide)) rfl

set_option maxHeartbeats 4000000 in
set_option maxRecDepth 100000 in
theorem c_mode_0_4 (l : Launch) (dC : Nat → ClassId) (dI : Nat → Nat → Nat) (hx hc hh : Nat) (u0 u1 : Nat → Int32) (ea : Int32) (hok0 : lpOk u0) : xr_M l yX0_mode wsX0_mode ({ frames := 1, cells := 0, slots := 0, locals := 21 }) [.ref hx, .int 0, .int 4] (dC, dI) vwCl [] pz (pw hx hc hh (u0, u1, ea)) (some (.int (u0 14))) := by
  refine Met.ofW (cc := cX0_mode) (maxL := 4) (ret := (some .boolean)) (by decide) rfl ?_
  intro p e s m args below meth c s₁ B hml hv
  obtain ⟨rfl, hP, hK, hZ⟩ := hv
  have hx_ := B.exec
  have hb := B.bytes
  have hr := B.returns
  have hts := atoms_spec (ws := wsX0_mode) B.pre
  have hown : s.vm.findClass RX0 = some m.cls := findClass_of_methodNamed B.named
  have hlocks := B.notSynchronized
  have hin_RX1 : ∀ w ∈ u_ws RX1 TX1 19, w ∈ wsX0_mode := fun w h => List.mem_cons_of_mem _ (u_X1 w h)
  have hlk_92 := hZ.use (w := .fieldLinkNest RX0 92 "LinePair$Controller" "ready" "Z" "LinePair") (by decide +kernel) (a := ([.ref hx, .int 0, .int 4]).toArray)
  have hlk_96 := hZ.use (w := .fieldLinkNest RX0 96 "LinePair$Controller" "byLevels" "Z" "LinePair") (by decide +kernel) (a := ([.ref hx, .int 0, .int 4]).toArray)
  have hlk_99 := hZ.use (w := .fieldLinkNest RX0 99 "LinePair$Controller" "specialMask" "Z" "LinePair") (by decide +kernel) (a := ([.ref hx, .int 0, .int 4]).toArray)
  have hlk_102 := hZ.use (w := .fieldLinkNest RX0 102 "LinePair$Controller" "specialNesting" "Z" "LinePair") (by decide +kernel) (a := ([.ref hx, .int 0, .int 4]).toArray)
  have hlk_105 := hZ.use (w := .fieldLinkNest RX0 105 "LinePair$Controller" "endsAtOnce" "Z" "LinePair") (by decide +kernel) (a := ([.ref hx, .int 0, .int 4]).toArray)
  have hlk_108 := hZ.use (w := .fieldLinkNest RX0 108 "LinePair$Controller" "turnsAtOnce" "Z" "LinePair") (by decide +kernel) (a := ([.ref hx, .int 0, .int 4]).toArray)
  have hlk_111 := hZ.use (w := .fieldLinkNest RX0 111 "LinePair$Controller" "pollWaits" "Z" "LinePair") (by decide +kernel) (a := ([.ref hx, .int 0, .int 4]).toArray)
  have hl := lv_entry ([.ref hx, .int 0, .int 4]) (n := 4) (Nat.le_of_ble_eq_true rfl)
  rw [lg_entry_eq]
  generalize (lg_sl ([.ref hx, .int 0, .int 4]) ++ List.replicate (4 - (lg_sl ([.ref hx, .int 0, .int 4])).length) Slot.unset).toArray = ls at hl ⊢
  have hl : lv_has ls 4 [(0, .ref hx), (1, .int 0), (2, .int 4)] := hl
  refine lv_aload_n hx_ hb dX0_mode_0 rfl (lv_at hl 0 rfl) ?_
  refine lv_iload_n hx_ hb dX0_mode_1 rfl (lv_at hl 1 rfl) ?_
  refine xr_call (st1 := [.ref hc]) (W.runV (As := [.int 0]) (rest := []) ⟨hx_, hb, hml, hown, hts⟩ (c_controllerNumbered_0 l dC dI hx hc hh u0 u1 ea) (cwV 1 hts (gd_V wa_c k_ml_X0_35 k_im_X0_controllerNumbered k_se_X0_controllerNumbered k_in_X0 k_co_X0_controllerNumbered) rfl rfl rfl (by decide +kernel) ⟨Nat.le_of_ble_eq_true rfl, Nat.le_of_ble_eq_true rfl⟩) (xr_preV (q0 := 0) (C := RX0) hK hP hZ rfl rfl) rfl rfl hl.1 rfl (lv_room (Nat.le_of_ble_eq_true rfl)) dX0_mode_2 ⟨Nat.zero_le _, Nat.zero_le _⟩) rfl ?_
  refine lv_astore_n (lv' := [(3, .ref hc), (0, .ref hx), (1, .int 0), (2, .int 4)]) hx_ hb dX0_mode_5 rfl hl (by decide) rfl (fun ls hl => ?_)
  refine lv_iload_n hx_ hb dX0_mode_6 rfl (lv_at hl 3 rfl) ?_
  refine lv_tableIn (tgt := 68) hx_ hb dX0_mode_7 (by decide) (by decide) (by rfl) (by decide) ?_
  refine lv_aload_n hx_ hb dX0_mode_68 rfl (lv_at hl 0 rfl) ?_
  refine va_getN (D := (dC, dI)) (ci := 1) (v := .int (u0 14)) (C := RX1) (T := TX1) (N := 19) hx_ hb hts hin_RX1 hown hK hP 1 rfl rfl 14 (by decide) hlk_105 (fun _ h9 => h9) rfl dX0_mode_69 ?_
  exact xr_zret hx_ hb hr hlocks dX0_mode_72 (lpOk_nar hok0 14 (by decide)) rfl

set_option maxHeartbeats 4000000 in
set_option maxRecDepth 100000 in
theorem c_mode_0_5 (l : Launch) (dC : Nat → ClassId) (dI : Nat → Nat → Nat) (hx hc hh : Nat) (u0 u1 : Nat → Int32) (ea : Int32) (hok0 : lpOk u0) : xr_M l yX0_mode wsX0_mode ({ frames := 1, cells := 0, slots := 0, locals := 21 }) [.ref hx, .int 0, .int 5] (dC, dI) vwCl [] pz (pw hx hc hh (u0, u1, ea)) (some (.int (u0 15))) := by
  refine Met.ofW (cc := cX0_mode) (maxL := 4) (ret := (some .boolean)) (by decide) rfl ?_
  intro p e s m args below meth c s₁ B hml hv
  obtain ⟨rfl, hP, hK, hZ⟩ := hv
  have hx_ := B.exec
  have hb := B.bytes
  have hr := B.returns
  have hts := atoms_spec (ws := wsX0_mode) B.pre
  have hown : s.vm.findClass RX0 = some m.cls := findClass_of_methodNamed B.named
  have hlocks := B.notSynchronized
  have hin_RX1 : ∀ w ∈ u_ws RX1 TX1 19, w ∈ wsX0_mode := fun w h => List.mem_cons_of_mem _ (u_X1 w h)
  have hlk_92 := hZ.use (w := .fieldLinkNest RX0 92 "LinePair$Controller" "ready" "Z" "LinePair") (by decide +kernel) (a := ([.ref hx, .int 0, .int 5]).toArray)
  have hlk_96 := hZ.use (w := .fieldLinkNest RX0 96 "LinePair$Controller" "byLevels" "Z" "LinePair") (by decide +kernel) (a := ([.ref hx, .int 0, .int 5]).toArray)
  have hlk_99 := hZ.use (w := .fieldLinkNest RX0 99 "LinePair$Controller" "specialMask" "Z" "LinePair") (by decide +kernel) (a := ([.ref hx, .int 0, .int 5]).toArray)
  have hlk_102 := hZ.use (w := .fieldLinkNest RX0 102 "LinePair$Controller" "specialNesting" "Z" "LinePair") (by decide +kernel) (a := ([.ref hx, .int 0, .int 5]).toArray)
  have hlk_105 := hZ.use (w := .fieldLinkNest RX0 105 "LinePair$Controller" "endsAtOnce" "Z" "LinePair") (by decide +kernel) (a := ([.ref hx, .int 0, .int 5]).toArray)
  have hlk_108 := hZ.use (w := .fieldLinkNest RX0 108 "LinePair$Controller" "turnsAtOnce" "Z" "LinePair") (by decide +kernel) (a := ([.ref hx, .int 0, .int 5]).toArray)
  have hlk_111 := hZ.use (w := .fieldLinkNest RX0 111 "LinePair$Controller" "pollWaits" "Z" "LinePair") (by decide +kernel) (a := ([.ref hx, .int 0, .int 5]).toArray)
  have hl := lv_entry ([.ref hx, .int 0, .int 5]) (n := 4) (Nat.le_of_ble_eq_true rfl)
  rw [lg_entry_eq]
  generalize (lg_sl ([.ref hx, .int 0, .int 5]) ++ List.replicate (4 - (lg_sl ([.ref hx, .int 0, .int 5])).length) Slot.unset).toArray = ls at hl ⊢
  have hl : lv_has ls 4 [(0, .ref hx), (1, .int 0), (2, .int 5)] := hl
  refine lv_aload_n hx_ hb dX0_mode_0 rfl (lv_at hl 0 rfl) ?_
  refine lv_iload_n hx_ hb dX0_mode_1 rfl (lv_at hl 1 rfl) ?_
  refine xr_call (st1 := [.ref hc]) (W.runV (As := [.int 0]) (rest := []) ⟨hx_, hb, hml, hown, hts⟩ (c_controllerNumbered_0 l dC dI hx hc hh u0 u1 ea) (cwV 1 hts (gd_V wa_c k_ml_X0_35 k_im_X0_controllerNumbered k_se_X0_controllerNumbered k_in_X0 k_co_X0_controllerNumbered) rfl rfl rfl (by decide +kernel) ⟨Nat.le_of_ble_eq_true rfl, Nat.le_of_ble_eq_true rfl⟩) (xr_preV (q0 := 0) (C := RX0) hK hP hZ rfl rfl) rfl rfl hl.1 rfl (lv_room (Nat.le_of_ble_eq_true rfl)) dX0_mode_2 ⟨Nat.zero_le _, Nat.zero_le _⟩) rfl ?_
  refine lv_astore_n (lv' := [(3, .ref hc), (0, .ref hx), (1, .int 0), (2, .int 5)]) hx_ hb dX0_mode_5 rfl hl (by decide) rfl (fun ls hl => ?_)
  refine lv_iload_n hx_ hb dX0_mode_6 rfl (lv_at hl 3 rfl) ?_
  refine lv_tableIn (tgt := 73) hx_ hb dX0_mode_7 (by decide) (by decide) (by rfl) (by decide) ?_
  refine lv_aload_n hx_ hb dX0_mode_73 rfl (lv_at hl 0 rfl) ?_
  refine va_getN (D := (dC, dI)) (ci := 1) (v := .int (u0 15)) (C := RX1) (T := TX1) (N := 19) hx_ hb hts hin_RX1 hown hK hP 1 rfl rfl 15 (by decide) hlk_108 (fun _ h9 => h9) rfl dX0_mode_74 ?_
  exact xr_zret hx_ hb hr hlocks dX0_mode_77 (lpOk_nar hok0 15 (by decide)) rfl

set_option maxHeartbeats 4000000 in
set_option maxRecDepth 100000 in
theorem c_mode_0_6 (l : Launch) (dC : Nat → ClassId) (dI : Nat → Nat → Nat) (hx hc hh : Nat) (u0 u1 : Nat → Int32) (ea : Int32) (hok0 : lpOk u0) : xr_M l yX0_mode wsX0_mode ({ frames := 1, cells := 0, slots := 0, locals := 21 }) [.ref hx, .int 0, .int 6] (dC, dI) vwCl [] pz (pw hx hc hh (u0, u1, ea)) (some (.int (u0 16))) := by
  refine Met.ofW (cc := cX0_mode) (maxL := 4) (ret := (some .boolean)) (by decide) rfl ?_
  intro p e s m args below meth c s₁ B hml hv
  obtain ⟨rfl, hP, hK, hZ⟩ := hv
  have hx_ := B.exec
  have hb := B.bytes
  have hr := B.returns
  have hts := atoms_spec (ws := wsX0_mode) B.pre
  have hown : s.vm.findClass RX0 = some m.cls := findClass_of_methodNamed B.named
  have hlocks := B.notSynchronized
  have hin_RX1 : ∀ w ∈ u_ws RX1 TX1 19, w ∈ wsX0_mode := fun w h => List.mem_cons_of_mem _ (u_X1 w h)
  have hlk_92 := hZ.use (w := .fieldLinkNest RX0 92 "LinePair$Controller" "ready" "Z" "LinePair") (by decide +kernel) (a := ([.ref hx, .int 0, .int 6]).toArray)
  have hlk_96 := hZ.use (w := .fieldLinkNest RX0 96 "LinePair$Controller" "byLevels" "Z" "LinePair") (by decide +kernel) (a := ([.ref hx, .int 0, .int 6]).toArray)
  have hlk_99 := hZ.use (w := .fieldLinkNest RX0 99 "LinePair$Controller" "specialMask" "Z" "LinePair") (by decide +kernel) (a := ([.ref hx, .int 0, .int 6]).toArray)
  have hlk_102 := hZ.use (w := .fieldLinkNest RX0 102 "LinePair$Controller" "specialNesting" "Z" "LinePair") (by decide +kernel) (a := ([.ref hx, .int 0, .int 6]).toArray)
  have hlk_105 := hZ.use (w := .fieldLinkNest RX0 105 "LinePair$Controller" "endsAtOnce" "Z" "LinePair") (by decide +kernel) (a := ([.ref hx, .int 0, .int 6]).toArray)
  have hlk_108 := hZ.use (w := .fieldLinkNest RX0 108 "LinePair$Controller" "turnsAtOnce" "Z" "LinePair") (by decide +kernel) (a := ([.ref hx, .int 0, .int 6]).toArray)
  have hlk_111 := hZ.use (w := .fieldLinkNest RX0 111 "LinePair$Controller" "pollWaits" "Z" "LinePair") (by decide +kernel) (a := ([.ref hx, .int 0, .int 6]).toArray)
  have hl := lv_entry ([.ref hx, .int 0, .int 6]) (n := 4) (Nat.le_of_ble_eq_true rfl)
  rw [lg_entry_eq]
  generalize (lg_sl ([.ref hx, .int 0, .int 6]) ++ List.replicate (4 - (lg_sl ([.ref hx, .int 0, .int 6])).length) Slot.unset).toArray = ls at hl ⊢
  have hl : lv_has ls 4 [(0, .ref hx), (1, .int 0), (2, .int 6)] := hl
  refine lv_aload_n hx_ hb dX0_mode_0 rfl (lv_at hl 0 rfl) ?_
  refine lv_iload_n hx_ hb dX0_mode_1 rfl (lv_at hl 1 rfl) ?_
  refine xr_call (st1 := [.ref hc]) (W.runV (As := [.int 0]) (rest := []) ⟨hx_, hb, hml, hown, hts⟩ (c_controllerNumbered_0 l dC dI hx hc hh u0 u1 ea) (cwV 1 hts (gd_V wa_c k_ml_X0_35 k_im_X0_controllerNumbered k_se_X0_controllerNumbered k_in_X0 k_co_X0_controllerNumbered) rfl rfl rfl (by decide +kernel) ⟨Nat.le_of_ble_eq_true rfl, Nat.le_of_ble_eq_true rfl⟩) (xr_preV (q0 := 0) (C := RX0) hK hP hZ rfl rfl) rfl rfl hl.1 rfl (lv_room (Nat.le_of_ble_eq_true rfl)) dX0_mode_2 ⟨Nat.zero_le _, Nat.zero_le _⟩) rfl ?_
  refine lv_astore_n (lv' := [(3, .ref hc), (0, .ref hx), (1, .int 0), (2, .int 6)]) hx_ hb dX0_mode_5 rfl hl (by decide) rfl (fun ls hl => ?_)
  refine lv_iload_n hx_ hb dX0_mode_6 rfl (lv_at hl 3 rfl) ?_
  refine lv_tableIn (tgt := 78) hx_ hb dX0_mode_7 (by decide) (by decide) (by rfl) (by decide) ?_
  refine lv_aload_n hx_ hb dX0_mode_78 rfl (lv_at hl 0 rfl) ?_
  refine va_getN (D := (dC, dI)) (ci := 1) (v := .int (u0 16)) (C := RX1) (T := TX1) (N := 19) hx_ hb hts hin_RX1 hown hK hP 1 rfl rfl 16 (by decide) hlk_111 (fun _ h9 => h9) rfl dX0_mode_79 ?_
  exact xr_zret hx_ hb hr hlocks dX0_mode_82 (lpOk_nar hok0 16 (by decide)) rfl

set_option maxHeartbeats 4000000 in
set_option maxRecDepth 100000 in
theorem c_write_1_0 (l : Launch) (dC : Nat → ClassId) (dI : Nat → Nat → Nat) (hx hc hh : Nat) (sz : Nat) (u0 u1 : Nat → Int32) (ea : Int32) (w : Int32) (hw0 : ¬ w < 0) (hw1 : w ≤ 255) : xc_M l yX0_write wsX0_write ({ frames := 5, cells := 0, slots := 0, locals := 108 }) [.ref hx, .int 1, .int 0, .int w] sz (dC, dI) vwCl [] pz (pw hx hc hh (u0, u1, ea)) (some (.int (lpBo (lpFol u0 (lpP0 u1 w))))) (pw hx hc hh ((lpFol u0 (lpP0 u1 w), lpP0 u1 w, ea))) 0 0 := by
  refine Met.ofW (cc := cX0_write) (maxL := 5) (ret := (some .boolean)) (by decide) rfl ?_
  intro p e s m args below meth c s₁ B hml hv
  obtain ⟨rfl, hsz, hP, hK, hD0, hZ⟩ := hv
  have hx_ := B.exec
  have hb := B.bytes
  have hr := B.returns
  have hts := atoms_spec (ws := wsX0_write) B.pre
  have hown : s.vm.findClass RX0 = some m.cls := findClass_of_methodNamed B.named
  have hlocks := B.notSynchronized
  subst hsz
  have hD := hD0.self (sz := s.heap.size)
  generalize hAe : va_A (pw hx hc hh (u0, u1, ea)) s.heap.size = A at hD ⊢
  have hA : ∀ q : Nat, s.heap.size ≤ q → A q := fun q h => by rw [← hAe]; exact Or.inr h
  have hS : va_S A s.heap s.heap [] := va_S.rf
  have hin_RX0 : ∀ w ∈ u_ws RX0 TX0 3, w ∈ wsX0_write := fun w h => List.mem_cons_of_mem _ (u_X0 w h)
  have hlk_14 := hts _ (List.mem_cons_of_mem _ k_fl_X0_14)
  have hml_45 : va_Nw (.methodLinkNest RX0 45 yX1_acceptAtPort0 "LinePair") s := hZ.2 _ (by decide +kernel)
  have hml_48 : va_Nw (.methodLinkNest RX0 48 yX1_acceptAtPort1 "LinePair") s := hZ.2 _ (by decide +kernel)
  have hml_51 : va_Nw (.methodLinkNest RX0 51 yX1_lineToDeliver "LinePair") s := hZ.2 _ (by decide +kernel)
  have hl := lv_entry ([.ref hx, .int 1, .int 0, .int w]) (n := 5) (Nat.le_of_ble_eq_true rfl)
  rw [lg_entry_eq]
  generalize (lg_sl ([.ref hx, .int 1, .int 0, .int w]) ++ List.replicate (5 - (lg_sl ([.ref hx, .int 1, .int 0, .int w])).length) Slot.unset).toArray = ls at hl ⊢
  have hl : lv_has ls 5 [(0, .ref hx), (1, .int 1), (2, .int 0), (3, .int w)] := hl
  refine lv_aload_n hx_ hb dX0_write_0 rfl (lv_at hl 0 rfl) ?_
  refine lv_iload_n hx_ hb dX0_write_1 rfl (lv_at hl 1 rfl) ?_
  refine xr_call (st1 := [.ref hh]) (W.runV (As := [.int 1]) (rest := []) ⟨hx_, hb, hml, hown, hts⟩ (c_controllerNumbered_1 l dC dI hx hc hh u0 u1 ea) (cwV 1 hts (gd_V wa_c k_ml_X0_35 k_im_X0_controllerNumbered k_se_X0_controllerNumbered k_in_X0 k_co_X0_controllerNumbered) rfl rfl rfl (by decide +kernel) ⟨Nat.le_of_ble_eq_true rfl, Nat.le_of_ble_eq_true rfl⟩) (xr_preV (q0 := 0) (C := RX0) hK hP hZ rfl rfl) rfl rfl hl.1 rfl (lv_room (Nat.le_of_ble_eq_true rfl)) dX0_write_2 ⟨Nat.zero_le _, Nat.zero_le _⟩) rfl ?_
  refine lv_astore (lv' := [(4, .ref hh), (0, .ref hx), (1, .int 1), (2, .int 0), (3, .int w)]) hx_ hb dX0_write_5 hl (by decide) rfl (fun ls hl => ?_)
  refine lv_aload_n hx_ hb dX0_write_7 rfl (lv_at hl 1 rfl) ?_
  refine lv_iload_n hx_ hb dX0_write_8 rfl (lv_at hl 3 rfl) ?_
  refine xr_call (st1 := []) (W.runV (As := [.int 0]) (rest := []) ⟨hx_, hb, hml, hown, hts⟩ (c_checkPort_0 l dC dI hx hc hh u0 u1 ea) (cwV 1 hts (gd_V wa_c k_ml_X0_39 k_im_X0_checkPort k_se_X0_checkPort k_in_X0 k_co_X0_checkPort) rfl rfl rfl (by decide +kernel) ⟨Nat.le_of_ble_eq_true rfl, Nat.le_of_ble_eq_true rfl⟩) (xr_preV (q0 := 0) (C := RX0) hK hP hZ rfl rfl) rfl rfl hl.1 rfl (lv_room (Nat.le_of_ble_eq_true rfl)) dX0_write_9 ⟨Nat.zero_le _, Nat.zero_le _⟩) rfl ?_
  refine lv_iload_n hx_ hb dX0_write_12 rfl (lv_at hl 4 rfl) ?_
  refine lv_if_lt (tgt := 23) hx_ hb dX0_write_13 (by decide) (fun h => absurd h hw0) (fun _ => ?_)
  refine lv_iload_n hx_ hb dX0_write_16 rfl (lv_at hl 4 rfl) ?_
  refine lv_sipush (v := 255) hx_ hb dX0_write_17 (by decide) ?_
  refine lv_icmp_le (tgt := 31) hx_ hb dX0_write_20 (by decide) (fun _ => ?_) (fun h => absurd hw1 h)
  refine lv_iload_n hx_ hb dX0_write_31 rfl (lv_at hl 3 rfl) ?_
  refine lv_if_ne (tgt := 44) hx_ hb dX0_write_32 (by decide) (fun h => absurd (by decide) h) (fun _ => ?_)
  refine lv_aload hx_ hb dX0_write_35 (lv_at hl 0 rfl) ?_
  refine lv_iload_n hx_ hb dX0_write_37 rfl (lv_at hl 4 rfl) ?_
  refine xc_call (wc := cw1 hh u1) (wr := [(hx, .inr (0, [.ref hc, .ref hh, .int ea])), (hc, .inr (1, lpF u0))]) (st1 := []) (va_runVN (As := [.int w]) (rest := []) ⟨hx_, hb, hml, hown, hts⟩ (c_acceptAtPort0 l dC dI hh s.heap.size u1 w) ⟨va_cnB 1 hts (gd_0 wa_c k_co_X1_acceptAtPort0) rfl rfl rfl hml_45 (hts _ (List.mem_cons_of_mem _ k_in_X1)) (by decide +kernel) ⟨Nat.le_of_ble_eq_true rfl, Nat.le_of_ble_eq_true rfl⟩, hts _ (List.mem_cons_of_mem _ k_im_X1_acceptAtPort0), hts _ (List.mem_cons_of_mem _ k_se_X1_acceptAtPort0)⟩ (xc_preV (q0 := 0) (C := RX1) hK (hP.sub (ws' := cw1 hh u1) [2] rfl) (hD.sub (ws' := cw1 hh u1) [2] (by decide) rfl) xz_Z.nil rfl rfl) rfl rfl hl.1 rfl (lv_room (Nat.le_of_ble_eq_true rfl)) dX0_write_38 ⟨Nat.zero_le _, Nat.zero_le _⟩) hP hD hS hA [2] [0, 1] rfl rfl (by decide) (by decide) rfl (fun H locs hP hD hS _ => ?_)
  have hP := hP.sub (ws' := pw hx hc hh (u0, lpP0 u1 w, ea)) [0, 1, 2] rfl
  have hD := hD.sub (ws' := pw hx hc hh (u0, lpP0 u1 w, ea)) [0, 1, 2] (by decide) rfl
  refine lv_goto (tgt := 50) hx_ hb dX0_write_41 (by decide) ?_
  refine lv_aload_n hx_ hb dX0_write_50 rfl (lv_at hl 1 rfl) ?_
  refine xc_call (wc := pw hx hc hh (u0, lpP0 u1 w, ea)) (wr := []) (st1 := []) (va_runV (As := []) (rest := []) ⟨hx_, hb, hml, hown, hts⟩ (c_followHelper l dC dI hx hc hh H.size u0 (lpP0 u1 w) ea) (cwV 0 hts (gd_V wa_c k_ml_X0_32 k_im_X0_followHelper k_se_X0_followHelper k_in_X0 k_co_X0_followHelper) rfl rfl rfl (by decide +kernel) ⟨Nat.le_of_ble_eq_true rfl, Nat.le_of_ble_eq_true rfl⟩) (xc_preV (q0 := 0) (C := RX0) hK hP hD hZ rfl rfl) rfl rfl hl.1 rfl (lv_room (Nat.le_of_ble_eq_true rfl)) dX0_write_51 ⟨Nat.zero_le _, Nat.zero_le _⟩) hP hD hS hA [0, 1, 2] [] rfl rfl (by decide) (by decide) rfl (fun H locs hP hD hS _ => ?_)
  have hP : va_P (dC, dI) vwCl (pw hx hc hh (lpFol u0 (lpP0 u1 w), lpP0 u1 w, ea)) H := hP
  have hD : va_D A (pw hx hc hh (lpFol u0 (lpP0 u1 w), lpP0 u1 w, ea)) := hD
  refine lv_aload_n hx_ hb dX0_write_54 rfl (lv_at hl 1 rfl) ?_
  refine va_get (D := (dC, dI)) (ci := 0) (v := .ref hc) (C := RX0) (T := TX0) (N := 3) hx_ hb hts hin_RX0 hown hK hP 0 rfl rfl 0 (by decide) hlk_14 (fun _ h9 => h9) rfl dX0_write_55 ?_
  refine xr_call (st1 := [.int (lpDel (lpFol u0 (lpP0 u1 w)))]) ((va_runVN (As := []) (rest := []) ⟨hx_, hb, hml, hown, hts⟩ (c_lineToDeliver l dC dI hc (lpFol u0 (lpP0 u1 w))) ⟨va_cnB 0 hts (gd_0 wa_c k_co_X1_lineToDeliver) rfl rfl rfl hml_51 (hts _ (List.mem_cons_of_mem _ k_in_X1)) (by decide +kernel) ⟨Nat.le_of_ble_eq_true rfl, Nat.le_of_ble_eq_true rfl⟩, hts _ (List.mem_cons_of_mem _ k_im_X1_lineToDeliver), hts _ (List.mem_cons_of_mem _ k_se_X1_lineToDeliver)⟩ (xr_preV (q0 := 0) (C := RX1) hK (hP.sub (ws' := cw1 hc (lpFol u0 (lpP0 u1 w))) [1] rfl) xz_Z.nil rfl rfl) rfl rfl hl.1 rfl (lv_room (Nat.le_of_ble_eq_true rfl)) dX0_write_58 ⟨Nat.zero_le _, Nat.zero_le _⟩).run) rfl ?_
  refine lv_iconst (v := -1) hx_ hb dX0_write_61 (by decide) ?_
  refine lv_icmp_eq (tgt := 69) hx_ hb dX0_write_62 (by decide) (fun h1 => ?_) (fun h1 => ?_)
  · refine lv_iconst (v := 0) hx_ hb dX0_write_69 (by decide) ?_
    exact xc_zret (wf := pw hx hc hh) hx_ hb hr hlocks dX0_write_70 hK hP hD hS rfl (by first | (simp only [lpBo, if_neg hw0, if_pos hw0, if_pos hw1, if_neg (not_not_intro hw1), if_pos h1, if_neg (not_not_intro h1)]; done) | rfl | (simp only [lpBo]; simp only [if_neg hw0, if_pos hw0, if_pos hw1, if_neg (not_not_intro hw1), if_pos h1, if_neg (not_not_intro h1)]; done) | (simp_all [lpBo]; done)) (by first | (simp only [lpBo, if_neg hw0, if_pos hw0, if_pos hw1, if_neg (not_not_intro hw1), if_pos h1, if_neg (not_not_intro h1)]; done) | rfl | (simp only [lpBo]; simp only [if_neg hw0, if_pos hw0, if_pos hw1, if_neg (not_not_intro hw1), if_pos h1, if_neg (not_not_intro h1)]; done) | (simp_all [lpBo]; done))
  · refine lv_iconst (v := 1) hx_ hb dX0_write_65 (by decide) ?_
    refine lv_goto (tgt := 70) hx_ hb dX0_write_66 (by decide) ?_
    exact xc_zret (wf := pw hx hc hh) hx_ hb hr hlocks dX0_write_70 hK hP hD hS rfl (by first | (simp only [lpBo, if_neg hw0, if_pos hw0, if_pos hw1, if_neg (not_not_intro hw1), if_neg h1, if_pos h1]; done) | rfl | (simp only [lpBo]; simp only [if_neg hw0, if_pos hw0, if_pos hw1, if_neg (not_not_intro hw1), if_neg h1, if_pos h1]; done) | (simp_all [lpBo]; done)) (by first | (simp only [lpBo, if_neg hw0, if_pos hw0, if_pos hw1, if_neg (not_not_intro hw1), if_neg h1, if_pos h1]; done) | rfl | (simp only [lpBo]; simp only [if_neg hw0, if_pos hw0, if_pos hw1, if_neg (not_not_intro hw1), if_neg h1, if_pos h1]; done) | (simp_all [lpBo]; done))

set_option maxHeartbeats 4000000 in
set_option maxRecDepth 100000 in
theorem c_write_1_1 (l : Launch) (dC : Nat → ClassId) (dI : Nat → Nat → Nat) (hx hc hh : Nat) (sz : Nat) (u0 u1 : Nat → Int32) (ea : Int32) (w : Int32) (hw0 : ¬ w < 0) (hw1 : w ≤ 255) : xc_M l yX0_write wsX0_write ({ frames := 5, cells := 0, slots := 0, locals := 108 }) [.ref hx, .int 1, .int 1, .int w] sz (dC, dI) vwCl [] pz (pw hx hc hh (u0, u1, ea)) (some (.int (lpBo (lpFol u0 (lpP1 u1 w))))) (pw hx hc hh ((lpFol u0 (lpP1 u1 w), lpP1 u1 w, ea))) 0 0 := by
  refine Met.ofW (cc := cX0_write) (maxL := 5) (ret := (some .boolean)) (by decide) rfl ?_
  intro p e s m args below meth c s₁ B hml hv
  obtain ⟨rfl, hsz, hP, hK, hD0, hZ⟩ := hv
  have hx_ := B.exec
  have hb := B.bytes
  have hr := B.returns
  have hts := atoms_spec (ws := wsX0_write) B.pre
  have hown : s.vm.findClass RX0 = some m.cls := findClass_of_methodNamed B.named
  have hlocks := B.notSynchronized
  subst hsz
  have hD := hD0.self (sz := s.heap.size)
  generalize hAe : va_A (pw hx hc hh (u0, u1, ea)) s.heap.size = A at hD ⊢
  have hA : ∀ q : Nat, s.heap.size ≤ q → A q := fun q h => by rw [← hAe]; exact Or.inr h
  have hS : va_S A s.heap s.heap [] := va_S.rf
  have hin_RX0 : ∀ w ∈ u_ws RX0 TX0 3, w ∈ wsX0_write := fun w h => List.mem_cons_of_mem _ (u_X0 w h)
  have hlk_14 := hts _ (List.mem_cons_of_mem _ k_fl_X0_14)
  have hml_45 : va_Nw (.methodLinkNest RX0 45 yX1_acceptAtPort0 "LinePair") s := hZ.2 _ (by decide +kernel)
  have hml_48 : va_Nw (.methodLinkNest RX0 48 yX1_acceptAtPort1 "LinePair") s := hZ.2 _ (by decide +kernel)
  have hml_51 : va_Nw (.methodLinkNest RX0 51 yX1_lineToDeliver "LinePair") s := hZ.2 _ (by decide +kernel)
  have hl := lv_entry ([.ref hx, .int 1, .int 1, .int w]) (n := 5) (Nat.le_of_ble_eq_true rfl)
  rw [lg_entry_eq]
  generalize (lg_sl ([.ref hx, .int 1, .int 1, .int w]) ++ List.replicate (5 - (lg_sl ([.ref hx, .int 1, .int 1, .int w])).length) Slot.unset).toArray = ls at hl ⊢
  have hl : lv_has ls 5 [(0, .ref hx), (1, .int 1), (2, .int 1), (3, .int w)] := hl
  refine lv_aload_n hx_ hb dX0_write_0 rfl (lv_at hl 0 rfl) ?_
  refine lv_iload_n hx_ hb dX0_write_1 rfl (lv_at hl 1 rfl) ?_
  refine xr_call (st1 := [.ref hh]) (W.runV (As := [.int 1]) (rest := []) ⟨hx_, hb, hml, hown, hts⟩ (c_controllerNumbered_1 l dC dI hx hc hh u0 u1 ea) (cwV 1 hts (gd_V wa_c k_ml_X0_35 k_im_X0_controllerNumbered k_se_X0_controllerNumbered k_in_X0 k_co_X0_controllerNumbered) rfl rfl rfl (by decide +kernel) ⟨Nat.le_of_ble_eq_true rfl, Nat.le_of_ble_eq_true rfl⟩) (xr_preV (q0 := 0) (C := RX0) hK hP hZ rfl rfl) rfl rfl hl.1 rfl (lv_room (Nat.le_of_ble_eq_true rfl)) dX0_write_2 ⟨Nat.zero_le _, Nat.zero_le _⟩) rfl ?_
  refine lv_astore (lv' := [(4, .ref hh), (0, .ref hx), (1, .int 1), (2, .int 1), (3, .int w)]) hx_ hb dX0_write_5 hl (by decide) rfl (fun ls hl => ?_)
  refine lv_aload_n hx_ hb dX0_write_7 rfl (lv_at hl 1 rfl) ?_
  refine lv_iload_n hx_ hb dX0_write_8 rfl (lv_at hl 3 rfl) ?_
  refine xr_call (st1 := []) (W.runV (As := [.int 1]) (rest := []) ⟨hx_, hb, hml, hown, hts⟩ (c_checkPort_1 l dC dI hx hc hh u0 u1 ea) (cwV 1 hts (gd_V wa_c k_ml_X0_39 k_im_X0_checkPort k_se_X0_checkPort k_in_X0 k_co_X0_checkPort) rfl rfl rfl (by decide +kernel) ⟨Nat.le_of_ble_eq_true rfl, Nat.le_of_ble_eq_true rfl⟩) (xr_preV (q0 := 0) (C := RX0) hK hP hZ rfl rfl) rfl rfl hl.1 rfl (lv_room (Nat.le_of_ble_eq_true rfl)) dX0_write_9 ⟨Nat.zero_le _, Nat.zero_le _⟩) rfl ?_
  refine lv_iload_n hx_ hb dX0_write_12 rfl (lv_at hl 4 rfl) ?_
  refine lv_if_lt (tgt := 23) hx_ hb dX0_write_13 (by decide) (fun h => absurd h hw0) (fun _ => ?_)
  refine lv_iload_n hx_ hb dX0_write_16 rfl (lv_at hl 4 rfl) ?_
  refine lv_sipush (v := 255) hx_ hb dX0_write_17 (by decide) ?_
  refine lv_icmp_le (tgt := 31) hx_ hb dX0_write_20 (by decide) (fun _ => ?_) (fun h => absurd hw1 h)
  refine lv_iload_n hx_ hb dX0_write_31 rfl (lv_at hl 3 rfl) ?_
  refine lv_if_ne (tgt := 44) hx_ hb dX0_write_32 (by decide) (fun _ => ?_) (fun h => absurd h (by decide))
  refine lv_aload hx_ hb dX0_write_44 (lv_at hl 0 rfl) ?_
  refine lv_iload_n hx_ hb dX0_write_46 rfl (lv_at hl 4 rfl) ?_
  refine xc_call (wc := cw1 hh u1) (wr := [(hx, .inr (0, [.ref hc, .ref hh, .int ea])), (hc, .inr (1, lpF u0))]) (st1 := []) (va_runVN (As := [.int w]) (rest := []) ⟨hx_, hb, hml, hown, hts⟩ (c_acceptAtPort1 l dC dI hh s.heap.size u1 w) ⟨va_cnB 1 hts (gd_0 wa_c k_co_X1_acceptAtPort1) rfl rfl rfl hml_48 (hts _ (List.mem_cons_of_mem _ k_in_X1)) (by decide +kernel) ⟨Nat.le_of_ble_eq_true rfl, Nat.le_of_ble_eq_true rfl⟩, hts _ (List.mem_cons_of_mem _ k_im_X1_acceptAtPort1), hts _ (List.mem_cons_of_mem _ k_se_X1_acceptAtPort1)⟩ (xc_preV (q0 := 0) (C := RX1) hK (hP.sub (ws' := cw1 hh u1) [2] rfl) (hD.sub (ws' := cw1 hh u1) [2] (by decide) rfl) xz_Z.nil rfl rfl) rfl rfl hl.1 rfl (lv_room (Nat.le_of_ble_eq_true rfl)) dX0_write_47 ⟨Nat.zero_le _, Nat.zero_le _⟩) hP hD hS hA [2] [0, 1] rfl rfl (by decide) (by decide) rfl (fun H locs hP hD hS _ => ?_)
  have hP := hP.sub (ws' := pw hx hc hh (u0, lpP1 u1 w, ea)) [0, 1, 2] rfl
  have hD := hD.sub (ws' := pw hx hc hh (u0, lpP1 u1 w, ea)) [0, 1, 2] (by decide) rfl
  refine lv_aload_n hx_ hb dX0_write_50 rfl (lv_at hl 1 rfl) ?_
  refine xc_call (wc := pw hx hc hh (u0, lpP1 u1 w, ea)) (wr := []) (st1 := []) (va_runV (As := []) (rest := []) ⟨hx_, hb, hml, hown, hts⟩ (c_followHelper l dC dI hx hc hh H.size u0 (lpP1 u1 w) ea) (cwV 0 hts (gd_V wa_c k_ml_X0_32 k_im_X0_followHelper k_se_X0_followHelper k_in_X0 k_co_X0_followHelper) rfl rfl rfl (by decide +kernel) ⟨Nat.le_of_ble_eq_true rfl, Nat.le_of_ble_eq_true rfl⟩) (xc_preV (q0 := 0) (C := RX0) hK hP hD hZ rfl rfl) rfl rfl hl.1 rfl (lv_room (Nat.le_of_ble_eq_true rfl)) dX0_write_51 ⟨Nat.zero_le _, Nat.zero_le _⟩) hP hD hS hA [0, 1, 2] [] rfl rfl (by decide) (by decide) rfl (fun H locs hP hD hS _ => ?_)
  have hP : va_P (dC, dI) vwCl (pw hx hc hh (lpFol u0 (lpP1 u1 w), lpP1 u1 w, ea)) H := hP
  have hD : va_D A (pw hx hc hh (lpFol u0 (lpP1 u1 w), lpP1 u1 w, ea)) := hD
  refine lv_aload_n hx_ hb dX0_write_54 rfl (lv_at hl 1 rfl) ?_
  refine va_get (D := (dC, dI)) (ci := 0) (v := .ref hc) (C := RX0) (T := TX0) (N := 3) hx_ hb hts hin_RX0 hown hK hP 0 rfl rfl 0 (by decide) hlk_14 (fun _ h9 => h9) rfl dX0_write_55 ?_
  refine xr_call (st1 := [.int (lpDel (lpFol u0 (lpP1 u1 w)))]) ((va_runVN (As := []) (rest := []) ⟨hx_, hb, hml, hown, hts⟩ (c_lineToDeliver l dC dI hc (lpFol u0 (lpP1 u1 w))) ⟨va_cnB 0 hts (gd_0 wa_c k_co_X1_lineToDeliver) rfl rfl rfl hml_51 (hts _ (List.mem_cons_of_mem _ k_in_X1)) (by decide +kernel) ⟨Nat.le_of_ble_eq_true rfl, Nat.le_of_ble_eq_true rfl⟩, hts _ (List.mem_cons_of_mem _ k_im_X1_lineToDeliver), hts _ (List.mem_cons_of_mem _ k_se_X1_lineToDeliver)⟩ (xr_preV (q0 := 0) (C := RX1) hK (hP.sub (ws' := cw1 hc (lpFol u0 (lpP1 u1 w))) [1] rfl) xz_Z.nil rfl rfl) rfl rfl hl.1 rfl (lv_room (Nat.le_of_ble_eq_true rfl)) dX0_write_58 ⟨Nat.zero_le _, Nat.zero_le _⟩).run) rfl ?_
  refine lv_iconst (v := -1) hx_ hb dX0_write_61 (by decide) ?_
  refine lv_icmp_eq (tgt := 69) hx_ hb dX0_write_62 (by decide) (fun h1 => ?_) (fun h1 => ?_)
  · refine lv_iconst (v := 0) hx_ hb dX0_write_69 (by decide) ?_
    exact xc_zret (wf := pw hx hc hh) hx_ hb hr hlocks dX0_write_70 hK hP hD hS rfl (by first | (simp only [lpBo, if_neg hw0, if_pos hw0, if_pos hw1, if_neg (not_not_intro hw1), if_pos h1, if_neg (not_not_intro h1)]; done) | rfl | (simp only [lpBo]; simp only [if_neg hw0, if_pos hw0, if_pos hw1, if_neg (not_not_intro hw1), if_pos h1, if_neg (not_not_intro h1)]; done) | (simp_all [lpBo]; done)) (by first | (simp only [lpBo, if_neg hw0, if_pos hw0, if_pos hw1, if_neg (not_not_intro hw1), if_pos h1, if_neg (not_not_intro h1)]; done) | rfl | (simp only [lpBo]; simp only [if_neg hw0, if_pos hw0, if_pos hw1, if_neg (not_not_intro hw1), if_pos h1, if_neg (not_not_intro h1)]; done) | (simp_all [lpBo]; done))
  · refine lv_iconst (v := 1) hx_ hb dX0_write_65 (by decide) ?_
    refine lv_goto (tgt := 70) hx_ hb dX0_write_66 (by decide) ?_
    exact xc_zret (wf := pw hx hc hh) hx_ hb hr hlocks dX0_write_70 hK hP hD hS rfl (by first | (simp only [lpBo, if_neg hw0, if_pos hw0, if_pos hw1, if_neg (not_not_intro hw1), if_neg h1, if_pos h1]; done) | rfl | (simp only [lpBo]; simp only [if_neg hw0, if_pos hw0, if_pos hw1, if_neg (not_not_intro hw1), if_neg h1, if_pos h1]; done) | (simp_all [lpBo]; done)) (by first | (simp only [lpBo, if_neg hw0, if_pos hw0, if_pos hw1, if_neg (not_not_intro hw1), if_neg h1, if_pos h1]; done) | rfl | (simp only [lpBo]; simp only [if_neg hw0, if_pos hw0, if_pos hw1, if_neg (not_not_intro hw1), if_neg h1, if_pos h1]; done) | (simp_all [lpBo]; done))

set_option maxHeartbeats 4000000 in
set_option maxRecDepth 100000 in
theorem c_read_1_1 (l : Launch) (dC : Nat → ClassId) (dI : Nat → Nat → Nat) (hx hc hh : Nat) (sz : Nat) (u0 u1 : Nat → Int32) (ea : Int32) : xc_M l yX0_read wsX0_read ({ frames := 5, cells := 0, slots := 0, locals := 108 }) [.ref hx, .int 1, .int 1] sz (dC, dI) vwCl [] pz (pw hx hc hh (u0, u1, ea)) (some (.int (u1 4))) (pw hx hc hh ((u0, u1, ea))) 0 0 := by
  refine Met.ofW (cc := cX0_read) (maxL := 5) (ret := (some .int)) (by decide) rfl ?_
  intro p e s m args below meth c s₁ B hml hv
  obtain ⟨rfl, hsz, hP, hK, hD0, hZ⟩ := hv
  have hx_ := B.exec
  have hb := B.bytes
  have hr := B.returns
  have hts := atoms_spec (ws := wsX0_read) B.pre
  have hown : s.vm.findClass RX0 = some m.cls := findClass_of_methodNamed B.named
  have hlocks := B.notSynchronized
  subst hsz
  have hD := hD0.self (sz := s.heap.size)
  generalize hAe : va_A (pw hx hc hh (u0, u1, ea)) s.heap.size = A at hD ⊢
  have hA : ∀ q : Nat, s.heap.size ≤ q → A q := fun q h => by rw [← hAe]; exact Or.inr h
  have hS : va_S A s.heap s.heap [] := va_S.rf
  have hin_RX1 : ∀ w ∈ u_ws RX1 TX1 19, w ∈ wsX0_read := fun w h => List.mem_cons_of_mem _ (u_X1 w h)
  have hlk_55 := hZ.use (w := .fieldLinkNest RX0 55 "LinePair$Controller" "masked" "I" "LinePair") (by decide +kernel) (a := ([.ref hx, .int 1, .int 1]).toArray)
  have hml_58 : va_Nw (.methodLinkNest RX0 58 yX1_answerAtPort0 "LinePair") s := hZ.2 _ (by decide +kernel)
  have hl := lv_entry ([.ref hx, .int 1, .int 1]) (n := 5) (Nat.le_of_ble_eq_true rfl)
  rw [lg_entry_eq]
  generalize (lg_sl ([.ref hx, .int 1, .int 1]) ++ List.replicate (5 - (lg_sl ([.ref hx, .int 1, .int 1])).length) Slot.unset).toArray = ls at hl ⊢
  have hl : lv_has ls 5 [(0, .ref hx), (1, .int 1), (2, .int 1)] := hl
  refine lv_aload_n hx_ hb dX0_read_0 rfl (lv_at hl 0 rfl) ?_
  refine lv_iload_n hx_ hb dX0_read_1 rfl (lv_at hl 1 rfl) ?_
  refine xr_call (st1 := [.ref hh]) (W.runV (As := [.int 1]) (rest := []) ⟨hx_, hb, hml, hown, hts⟩ (c_controllerNumbered_1 l dC dI hx hc hh u0 u1 ea) (cwV 1 hts (gd_V wa_c k_ml_X0_35 k_im_X0_controllerNumbered k_se_X0_controllerNumbered k_in_X0 k_co_X0_controllerNumbered) rfl rfl rfl (by decide +kernel) ⟨Nat.le_of_ble_eq_true rfl, Nat.le_of_ble_eq_true rfl⟩) (xr_preV (q0 := 0) (C := RX0) hK hP hZ rfl rfl) rfl rfl hl.1 rfl (lv_room (Nat.le_of_ble_eq_true rfl)) dX0_read_2 ⟨Nat.zero_le _, Nat.zero_le _⟩) rfl ?_
  refine lv_astore_n (lv' := [(3, .ref hh), (0, .ref hx), (1, .int 1), (2, .int 1)]) hx_ hb dX0_read_5 rfl hl (by decide) rfl (fun ls hl => ?_)
  refine lv_aload_n hx_ hb dX0_read_6 rfl (lv_at hl 1 rfl) ?_
  refine lv_iload_n hx_ hb dX0_read_7 rfl (lv_at hl 3 rfl) ?_
  refine xr_call (st1 := []) (W.runV (As := [.int 1]) (rest := []) ⟨hx_, hb, hml, hown, hts⟩ (c_checkPort_1 l dC dI hx hc hh u0 u1 ea) (cwV 1 hts (gd_V wa_c k_ml_X0_39 k_im_X0_checkPort k_se_X0_checkPort k_in_X0 k_co_X0_checkPort) rfl rfl rfl (by decide +kernel) ⟨Nat.le_of_ble_eq_true rfl, Nat.le_of_ble_eq_true rfl⟩) (xr_preV (q0 := 0) (C := RX0) hK hP hZ rfl rfl) rfl rfl hl.1 rfl (lv_room (Nat.le_of_ble_eq_true rfl)) dX0_read_8 ⟨Nat.zero_le _, Nat.zero_le _⟩) rfl ?_
  refine lv_iload_n hx_ hb dX0_read_11 rfl (lv_at hl 3 rfl) ?_
  refine lv_iconst (v := 1) hx_ hb dX0_read_12 (by decide) ?_
  refine lv_icmp_ne (tgt := 21) hx_ hb dX0_read_13 (by decide) (fun h => absurd (by decide) h) (fun _ => ?_)
  refine lv_aload_n hx_ hb dX0_read_16 rfl (lv_at hl 0 rfl) ?_
  refine va_getN (D := (dC, dI)) (ci := 1) (v := .int (u1 4)) (C := RX1) (T := TX1) (N := 19) hx_ hb hts hin_RX1 hown hK hP 2 rfl rfl 4 (by decide) hlk_55 (fun _ h9 => h9) rfl dX0_read_17 ?_
  exact xc_iret (wf := pw hx hc hh) hx_ hb hr hlocks dX0_read_20 hK hP hD hS rfl rfl

set_option maxHeartbeats 4000000 in
set_option maxRecDepth 100000 in
theorem c_read_1_0 (l : Launch) (dC : Nat → ClassId) (dI : Nat → Nat → Nat) (hx hc hh : Nat) (sz : Nat) (u0 u1 : Nat → Int32) (ea : Int32) : xc_M l yX0_read wsX0_read ({ frames := 5, cells := 0, slots := 0, locals := 108 }) [.ref hx, .int 1, .int 0] sz (dC, dI) vwCl [] pz (pw hx hc hh (u0, u1, ea)) (some (.int (lpAnsR u1))) (pw hx hc hh ((lpFol u0 (lpAns u1), lpAns u1, ea))) 0 0 := by
  refine Met.ofW (cc := cX0_read) (maxL := 5) (ret := (some .int)) (by decide) rfl ?_
  intro p e s m args below meth c s₁ B hml hv
  obtain ⟨rfl, hsz, hP, hK, hD0, hZ⟩ := hv
  have hx_ := B.exec
  have hb := B.bytes
  have hr := B.returns
  have hts := atoms_spec (ws := wsX0_read) B.pre
  have hown : s.vm.findClass RX0 = some m.cls := findClass_of_methodNamed B.named
  have hlocks := B.notSynchronized
  subst hsz
  have hD := hD0.self (sz := s.heap.size)
  generalize hAe : va_A (pw hx hc hh (u0, u1, ea)) s.heap.size = A at hD ⊢
  have hA : ∀ q : Nat, s.heap.size ≤ q → A q := fun q h => by rw [← hAe]; exact Or.inr h
  have hS : va_S A s.heap s.heap [] := va_S.rf
  have hin_RX1 : ∀ w ∈ u_ws RX1 TX1 19, w ∈ wsX0_read := fun w h => List.mem_cons_of_mem _ (u_X1 w h)
  have hlk_55 := hZ.use (w := .fieldLinkNest RX0 55 "LinePair$Controller" "masked" "I" "LinePair") (by decide +kernel) (a := ([.ref hx, .int 1, .int 0]).toArray)
  have hml_58 : va_Nw (.methodLinkNest RX0 58 yX1_answerAtPort0 "LinePair") s := hZ.2 _ (by decide +kernel)
  have hl := lv_entry ([.ref hx, .int 1, .int 0]) (n := 5) (Nat.le_of_ble_eq_true rfl)
  rw [lg_entry_eq]
  generalize (lg_sl ([.ref hx, .int 1, .int 0]) ++ List.replicate (5 - (lg_sl ([.ref hx, .int 1, .int 0])).length) Slot.unset).toArray = ls at hl ⊢
  have hl : lv_has ls 5 [(0, .ref hx), (1, .int 1), (2, .int 0)] := hl
  refine lv_aload_n hx_ hb dX0_read_0 rfl (lv_at hl 0 rfl) ?_
  refine lv_iload_n hx_ hb dX0_read_1 rfl (lv_at hl 1 rfl) ?_
  refine xr_call (st1 := [.ref hh]) (W.runV (As := [.int 1]) (rest := []) ⟨hx_, hb, hml, hown, hts⟩ (c_controllerNumbered_1 l dC dI hx hc hh u0 u1 ea) (cwV 1 hts (gd_V wa_c k_ml_X0_35 k_im_X0_controllerNumbered k_se_X0_controllerNumbered k_in_X0 k_co_X0_controllerNumbered) rfl rfl rfl (by decide +kernel) ⟨Nat.le_of_ble_eq_true rfl, Nat.le_of_ble_eq_true rfl⟩) (xr_preV (q0 := 0) (C := RX0) hK hP hZ rfl rfl) rfl rfl hl.1 rfl (lv_room (Nat.le_of_ble_eq_true rfl)) dX0_read_2 ⟨Nat.zero_le _, Nat.zero_le _⟩) rfl ?_
  refine lv_astore_n (lv' := [(3, .ref hh), (0, .ref hx), (1, .int 1), (2, .int 0)]) hx_ hb dX0_read_5 rfl hl (by decide) rfl (fun ls hl => ?_)
  refine lv_aload_n hx_ hb dX0_read_6 rfl (lv_at hl 1 rfl) ?_
  refine lv_iload_n hx_ hb dX0_read_7 rfl (lv_at hl 3 rfl) ?_
  refine xr_call (st1 := []) (W.runV (As := [.int 0]) (rest := []) ⟨hx_, hb, hml, hown, hts⟩ (c_checkPort_0 l dC dI hx hc hh u0 u1 ea) (cwV 1 hts (gd_V wa_c k_ml_X0_39 k_im_X0_checkPort k_se_X0_checkPort k_in_X0 k_co_X0_checkPort) rfl rfl rfl (by decide +kernel) ⟨Nat.le_of_ble_eq_true rfl, Nat.le_of_ble_eq_true rfl⟩) (xr_preV (q0 := 0) (C := RX0) hK hP hZ rfl rfl) rfl rfl hl.1 rfl (lv_room (Nat.le_of_ble_eq_true rfl)) dX0_read_8 ⟨Nat.zero_le _, Nat.zero_le _⟩) rfl ?_
  refine lv_iload_n hx_ hb dX0_read_11 rfl (lv_at hl 3 rfl) ?_
  refine lv_iconst (v := 1) hx_ hb dX0_read_12 (by decide) ?_
  refine lv_icmp_ne (tgt := 21) hx_ hb dX0_read_13 (by decide) (fun _ => ?_) (fun h => absurd h (by decide))
  refine lv_aload_n hx_ hb dX0_read_21 rfl (lv_at hl 0 rfl) ?_
  refine xc_call (wc := cw1 hh u1) (wr := [(hx, .inr (0, [.ref hc, .ref hh, .int ea])), (hc, .inr (1, lpF u0))]) (st1 := [.int (lpAnsR u1)]) (va_runVN (As := []) (rest := []) ⟨hx_, hb, hml, hown, hts⟩ (c_answerAtPort0 l dC dI hh s.heap.size u1) ⟨va_cnB 0 hts (gd_0 wa_c k_co_X1_answerAtPort0) rfl rfl rfl hml_58 (hts _ (List.mem_cons_of_mem _ k_in_X1)) (by decide +kernel) ⟨Nat.le_of_ble_eq_true rfl, Nat.le_of_ble_eq_true rfl⟩, hts _ (List.mem_cons_of_mem _ k_im_X1_answerAtPort0), hts _ (List.mem_cons_of_mem _ k_se_X1_answerAtPort0)⟩ (xc_preV (q0 := 0) (C := RX1) hK (hP.sub (ws' := cw1 hh u1) [2] rfl) (hD.sub (ws' := cw1 hh u1) [2] (by decide) rfl) xz_Z.nil rfl rfl) rfl rfl hl.1 rfl (lv_room (Nat.le_of_ble_eq_true rfl)) dX0_read_22 ⟨Nat.zero_le _, Nat.zero_le _⟩) hP hD hS hA [2] [0, 1] rfl rfl (by decide) (by decide) rfl (fun H locs hP hD hS _ => ?_)
  have hP := hP.sub (ws' := pw hx hc hh (u0, lpAns u1, ea)) [0, 1, 2] rfl
  have hD := hD.sub (ws' := pw hx hc hh (u0, lpAns u1, ea)) [0, 1, 2] (by decide) rfl
  refine lv_istore (lv' := [(4, .int (lpAnsR u1)), (3, .ref hh), (0, .ref hx), (1, .int 1), (2, .int 0)]) hx_ hb dX0_read_25 hl (by decide) rfl (fun ls hl => ?_)
  refine lv_aload_n hx_ hb dX0_read_27 rfl (lv_at hl 2 rfl) ?_
  refine xc_call (wc := pw hx hc hh (u0, lpAns u1, ea)) (wr := []) (st1 := []) (va_runV (As := []) (rest := []) ⟨hx_, hb, hml, hown, hts⟩ (c_followHelper l dC dI hx hc hh H.size u0 (lpAns u1) ea) (cwV 0 hts (gd_V wa_c k_ml_X0_32 k_im_X0_followHelper k_se_X0_followHelper k_in_X0 k_co_X0_followHelper) rfl rfl rfl (by decide +kernel) ⟨Nat.le_of_ble_eq_true rfl, Nat.le_of_ble_eq_true rfl⟩) (xc_preV (q0 := 0) (C := RX0) hK hP hD hZ rfl rfl) rfl rfl hl.1 rfl (lv_room (Nat.le_of_ble_eq_true rfl)) dX0_read_28 ⟨Nat.zero_le _, Nat.zero_le _⟩) hP hD hS hA [0, 1, 2] [] rfl rfl (by decide) (by decide) rfl (fun H locs hP hD hS _ => ?_)
  have hP : va_P (dC, dI) vwCl (pw hx hc hh (lpFol u0 (lpAns u1), lpAns u1, ea)) H := hP
  have hD : va_D A (pw hx hc hh (lpFol u0 (lpAns u1), lpAns u1, ea)) := hD
  refine lv_iload hx_ hb dX0_read_31 (lv_at hl 0 rfl) ?_
  exact xc_iret (wf := pw hx hc hh) hx_ hb hr hlocks dX0_read_33 hK hP hD hS rfl rfl

set_option maxHeartbeats 4000000 in
set_option maxRecDepth 100000 in
theorem c_delivers_1 (l : Launch) (dC : Nat → ClassId) (dI : Nat → Nat → Nat) (hx hc hh : Nat) (u0 u1 : Nat → Int32) (ea : Int32) : xr_M l yX0_delivers wsX0_delivers ({ frames := 3, cells := 0, slots := 0, locals := 66 }) [.ref hx, .int 1] (dC, dI) vwCl [] pz (pw hx hc hh (u0, u1, ea)) (some (.int (lpDel u1))) := by
  refine Met.ofW (cc := cX0_delivers) (maxL := 2) (ret := (some .int)) (by decide) rfl ?_
  intro p e s m args below meth c s₁ B hml hv
  obtain ⟨rfl, hP, hK, hZ⟩ := hv
  have hx_ := B.exec
  have hb := B.bytes
  have hr := B.returns
  have hts := atoms_spec (ws := wsX0_delivers) B.pre
  have hown : s.vm.findClass RX0 = some m.cls := findClass_of_methodNamed B.named
  have hlocks := B.notSynchronized
  have hml_51 : va_Nw (.methodLinkNest RX0 51 yX1_lineToDeliver "LinePair") s := hZ.2 _ (by decide +kernel)
  have hl := lv_entry ([.ref hx, .int 1]) (n := 2) (Nat.le_of_ble_eq_true rfl)
  rw [lg_entry_eq]
  generalize (lg_sl ([.ref hx, .int 1]) ++ List.replicate (2 - (lg_sl ([.ref hx, .int 1])).length) Slot.unset).toArray = ls at hl ⊢
  have hl : lv_has ls 2 [(0, .ref hx), (1, .int 1)] := hl
  refine lv_aload_n hx_ hb dX0_delivers_0 rfl (lv_at hl 0 rfl) ?_
  refine lv_iload_n hx_ hb dX0_delivers_1 rfl (lv_at hl 1 rfl) ?_
  refine xr_call (st1 := [.ref hh]) (W.runV (As := [.int 1]) (rest := []) ⟨hx_, hb, hml, hown, hts⟩ (c_controllerNumbered_1 l dC dI hx hc hh u0 u1 ea) (cwV 1 hts (gd_V wa_c k_ml_X0_35 k_im_X0_controllerNumbered k_se_X0_controllerNumbered k_in_X0 k_co_X0_controllerNumbered) rfl rfl rfl (by decide +kernel) ⟨Nat.le_of_ble_eq_true rfl, Nat.le_of_ble_eq_true rfl⟩) (xr_preV (q0 := 0) (C := RX0) hK hP hZ rfl rfl) rfl rfl hl.1 rfl (lv_room (Nat.le_of_ble_eq_true rfl)) dX0_delivers_2 ⟨Nat.zero_le _, Nat.zero_le _⟩) rfl ?_
  refine xr_call (st1 := [.int (lpDel u1)]) ((va_runVN (As := []) (rest := []) ⟨hx_, hb, hml, hown, hts⟩ (c_lineToDeliver l dC dI hh u1) ⟨va_cnB 0 hts (gd_0 wa_c k_co_X1_lineToDeliver) rfl rfl rfl hml_51 (hts _ (List.mem_cons_of_mem _ k_in_X1)) (by decide +kernel) ⟨Nat.le_of_ble_eq_true rfl, Nat.le_of_ble_eq_true rfl⟩, hts _ (List.mem_cons_of_mem _ k_im_X1_lineToDeliver), hts _ (List.mem_cons_of_mem _ k_se_X1_lineToDeliver)⟩ (xr_preV (q0 := 0) (C := RX1) hK (hP.sub (ws' := cw1 hh u1) [2] rfl) xz_Z.nil rfl rfl) rfl rfl hl.1 rfl (lv_room (Nat.le_of_ble_eq_true rfl)) dX0_delivers_5 ⟨Nat.zero_le _, Nat.zero_le _⟩).run) rfl ?_
  exact xr_iret hx_ hb hr hlocks dX0_delivers_8 rfl

set_option maxHeartbeats 4000000 in
set_option maxRecDepth 100000 in
theorem c_about_1_0 (l : Launch) (dC : Nat → ClassId) (dI : Nat → Nat → Nat) (hx hc hh : Nat) (u0 u1 : Nat → Int32) (ea : Int32) : xr_M l yX0_about wsX0_about ({ frames := 1, cells := 0, slots := 0, locals := 21 }) [.ref hx, .int 1, .int 0] (dC, dI) vwCl [] pz (pw hx hc hh (u0, u1, ea)) (some (.int (lpReq u1))) := by
  refine Met.ofW (cc := cX0_about) (maxL := 4) (ret := (some .int)) (by decide) rfl ?_
  intro p e s m args below meth c s₁ B hml hv
  obtain ⟨rfl, hP, hK, hZ⟩ := hv
  have hx_ := B.exec
  have hb := B.bytes
  have hr := B.returns
  have hts := atoms_spec (ws := wsX0_about) B.pre
  have hown : s.vm.findClass RX0 = some m.cls := findClass_of_methodNamed B.named
  have hlocks := B.notSynchronized
  have hin_RX1 : ∀ w ∈ u_ws RX1 TX1 19, w ∈ wsX0_about := fun w h => List.mem_cons_of_mem _ (u_X1 w h)
  have hlk_55 := hZ.use (w := .fieldLinkNest RX0 55 "LinePair$Controller" "masked" "I" "LinePair") (by decide +kernel) (a := ([.ref hx, .int 1, .int 0]).toArray)
  have hlk_74 := hZ.use (w := .fieldLinkNest RX0 74 "LinePair$Controller" "inService" "I" "LinePair") (by decide +kernel) (a := ([.ref hx, .int 1, .int 0]).toArray)
  have hlk_77 := hZ.use (w := .fieldLinkNest RX0 77 "LinePair$Controller" "up" "I" "LinePair") (by decide +kernel) (a := ([.ref hx, .int 1, .int 0]).toArray)
  have hlk_80 := hZ.use (w := .fieldLinkNest RX0 80 "LinePair$Controller" "lowest" "I" "LinePair") (by decide +kernel) (a := ([.ref hx, .int 1, .int 0]).toArray)
  have hlk_83 := hZ.use (w := .fieldLinkNest RX0 83 "LinePair$Controller" "base" "I" "LinePair") (by decide +kernel) (a := ([.ref hx, .int 1, .int 0]).toArray)
  have hlk_86 := hZ.use (w := .fieldLinkNest RX0 86 "LinePair$Controller" "awaited" "I" "LinePair") (by decide +kernel) (a := ([.ref hx, .int 1, .int 0]).toArray)
  have hlk_89 := hZ.use (w := .fieldLinkNest RX0 89 "LinePair$Controller" "readChoice" "I" "LinePair") (by decide +kernel) (a := ([.ref hx, .int 1, .int 0]).toArray)
  have hml_71 : va_Nw (.methodLinkNest RX0 71 yX1_requested "LinePair") s := hZ.2 _ (by decide +kernel)
  have hl := lv_entry ([.ref hx, .int 1, .int 0]) (n := 4) (Nat.le_of_ble_eq_true rfl)
  rw [lg_entry_eq]
  generalize (lg_sl ([.ref hx, .int 1, .int 0]) ++ List.replicate (4 - (lg_sl ([.ref hx, .int 1, .int 0])).length) Slot.unset).toArray = ls at hl ⊢
  have hl : lv_has ls 4 [(0, .ref hx), (1, .int 1), (2, .int 0)] := hl
  refine lv_aload_n hx_ hb dX0_about_0 rfl (lv_at hl 0 rfl) ?_
  refine lv_iload_n hx_ hb dX0_about_1 rfl (lv_at hl 1 rfl) ?_
  refine xr_call (st1 := [.ref hh]) (W.runV (As := [.int 1]) (rest := []) ⟨hx_, hb, hml, hown, hts⟩ (c_controllerNumbered_1 l dC dI hx hc hh u0 u1 ea) (cwV 1 hts (gd_V wa_c k_ml_X0_35 k_im_X0_controllerNumbered k_se_X0_controllerNumbered k_in_X0 k_co_X0_controllerNumbered) rfl rfl rfl (by decide +kernel) ⟨Nat.le_of_ble_eq_true rfl, Nat.le_of_ble_eq_true rfl⟩) (xr_preV (q0 := 0) (C := RX0) hK hP hZ rfl rfl) rfl rfl hl.1 rfl (lv_room (Nat.le_of_ble_eq_true rfl)) dX0_about_2 ⟨Nat.zero_le _, Nat.zero_le _⟩) rfl ?_
  refine lv_astore_n (lv' := [(3, .ref hh), (0, .ref hx), (1, .int 1), (2, .int 0)]) hx_ hb dX0_about_5 rfl hl (by decide) rfl (fun ls hl => ?_)
  refine lv_iload_n hx_ hb dX0_about_6 rfl (lv_at hl 3 rfl) ?_
  refine lv_tableIn (tgt := 52) hx_ hb dX0_about_7 (by decide) (by decide) (by rfl) (by decide) ?_
  refine lv_aload_n hx_ hb dX0_about_52 rfl (lv_at hl 0 rfl) ?_
  refine xr_call (st1 := [.int (lpReq u1)]) ((va_runVN (As := []) (rest := []) ⟨hx_, hb, hml, hown, hts⟩ (c_requested l dC dI hh u1) ⟨va_cnB 0 hts (gd_0 wa_c k_co_X1_requested) rfl rfl rfl hml_71 (hts _ (List.mem_cons_of_mem _ k_in_X1)) (by decide +kernel) ⟨Nat.le_of_ble_eq_true rfl, Nat.le_of_ble_eq_true rfl⟩, hts _ (List.mem_cons_of_mem _ k_im_X1_requested), hts _ (List.mem_cons_of_mem _ k_se_X1_requested)⟩ (xr_preV (q0 := 0) (C := RX1) hK (hP.sub (ws' := cw1 hh u1) [2] rfl) xz_Z.nil rfl rfl) rfl rfl hl.1 rfl (lv_room (Nat.le_of_ble_eq_true rfl)) dX0_about_53 ⟨Nat.zero_le _, Nat.zero_le _⟩).run) rfl ?_
  exact xr_iret hx_ hb hr hlocks dX0_about_56 rfl

set_option maxHeartbeats 4000000 in
set_option maxRecDepth 100000 in
theorem c_about_1_1 (l : Launch) (dC : Nat → ClassId) (dI : Nat → Nat → Nat) (hx hc hh : Nat) (u0 u1 : Nat → Int32) (ea : Int32) : xr_M l yX0_about wsX0_about ({ frames := 1, cells := 0, slots := 0, locals := 21 }) [.ref hx, .int 1, .int 1] (dC, dI) vwCl [] pz (pw hx hc hh (u0, u1, ea)) (some (.int (u1 3))) := by
  refine Met.ofW (cc := cX0_about) (maxL := 4) (ret := (some .int)) (by decide) rfl ?_
  intro p e s m args below meth c s₁ B hml hv
  obtain ⟨rfl, hP, hK, hZ⟩ := hv
  have hx_ := B.exec
  have hb := B.bytes
  have hr := B.returns
  have hts := atoms_spec (ws := wsX0_about) B.pre
  have hown : s.vm.findClass RX0 = some m.cls := findClass_of_methodNamed B.named
  have hlocks := B.notSynchronized
  have hin_RX1 : ∀ w ∈ u_ws RX1 TX1 19, w ∈ wsX0_about := fun w h => List.mem_cons_of_mem _ (u_X1 w h)
  have hlk_55 := hZ.use (w := .fieldLinkNest RX0 55 "LinePair$Controller" "masked" "I" "LinePair") (by decide +kernel) (a := ([.ref hx, .int 1, .int 1]).toArray)
  have hlk_74 := hZ.use (w := .fieldLinkNest RX0 74 "LinePair$Controller" "inService" "I" "LinePair") (by decide +kernel) (a := ([.ref hx, .int 1, .int 1]).toArray)
  have hlk_77 := hZ.use (w := .fieldLinkNest RX0 77 "LinePair$Controller" "up" "I" "LinePair") (by decide +kernel) (a := ([.ref hx, .int 1, .int 1]).toArray)
  have hlk_80 := hZ.use (w := .fieldLinkNest RX0 80 "LinePair$Controller" "lowest" "I" "LinePair") (by decide +kernel) (a := ([.ref hx, .int 1, .int 1]).toArray)
  have hlk_83 := hZ.use (w := .fieldLinkNest RX0 83 "LinePair$Controller" "base" "I" "LinePair") (by decide +kernel) (a := ([.ref hx, .int 1, .int 1]).toArray)
  have hlk_86 := hZ.use (w := .fieldLinkNest RX0 86 "LinePair$Controller" "awaited" "I" "LinePair") (by decide +kernel) (a := ([.ref hx, .int 1, .int 1]).toArray)
  have hlk_89 := hZ.use (w := .fieldLinkNest RX0 89 "LinePair$Controller" "readChoice" "I" "LinePair") (by decide +kernel) (a := ([.ref hx, .int 1, .int 1]).toArray)
  have hml_71 : va_Nw (.methodLinkNest RX0 71 yX1_requested "LinePair") s := hZ.2 _ (by decide +kernel)
  have hl := lv_entry ([.ref hx, .int 1, .int 1]) (n := 4) (Nat.le_of_ble_eq_true rfl)
  rw [lg_entry_eq]
  generalize (lg_sl ([.ref hx, .int 1, .int 1]) ++ List.replicate (4 - (lg_sl ([.ref hx, .int 1, .int 1])).length) Slot.unset).toArray = ls at hl ⊢
  have hl : lv_has ls 4 [(0, .ref hx), (1, .int 1), (2, .int 1)] := hl
  refine lv_aload_n hx_ hb dX0_about_0 rfl (lv_at hl 0 rfl) ?_
  refine lv_iload_n hx_ hb dX0_about_1 rfl (lv_at hl 1 rfl) ?_
  refine xr_call (st1 := [.ref hh]) (W.runV (As := [.int 1]) (rest := []) ⟨hx_, hb, hml, hown, hts⟩ (c_controllerNumbered_1 l dC dI hx hc hh u0 u1 ea) (cwV 1 hts (gd_V wa_c k_ml_X0_35 k_im_X0_controllerNumbered k_se_X0_controllerNumbered k_in_X0 k_co_X0_controllerNumbered) rfl rfl rfl (by decide +kernel) ⟨Nat.le_of_ble_eq_true rfl, Nat.le_of_ble_eq_true rfl⟩) (xr_preV (q0 := 0) (C := RX0) hK hP hZ rfl rfl) rfl rfl hl.1 rfl (lv_room (Nat.le_of_ble_eq_true rfl)) dX0_about_2 ⟨Nat.zero_le _, Nat.zero_le _⟩) rfl ?_
  refine lv_astore_n (lv' := [(3, .ref hh), (0, .ref hx), (1, .int 1), (2, .int 1)]) hx_ hb dX0_about_5 rfl hl (by decide) rfl (fun ls hl => ?_)
  refine lv_iload_n hx_ hb dX0_about_6 rfl (lv_at hl 3 rfl) ?_
  refine lv_tableIn (tgt := 57) hx_ hb dX0_about_7 (by decide) (by decide) (by rfl) (by decide) ?_
  refine lv_aload_n hx_ hb dX0_about_57 rfl (lv_at hl 0 rfl) ?_
  refine va_getN (D := (dC, dI)) (ci := 1) (v := .int (u1 3)) (C := RX1) (T := TX1) (N := 19) hx_ hb hts hin_RX1 hown hK hP 2 rfl rfl 3 (by decide) hlk_74 (fun _ h9 => h9) rfl dX0_about_58 ?_
  exact xr_iret hx_ hb hr hlocks dX0_about_61 rfl

set_option maxHeartbeats 4000000 in
set_option maxRecDepth 100000 in
theorem c_about_1_2 (l : Launch) (dC : Nat → ClassId) (dI : Nat → Nat → Nat) (hx hc hh : Nat) (u0 u1 : Nat → Int32) (ea : Int32) : xr_M l yX0_about wsX0_about ({ frames := 1, cells := 0, slots := 0, locals := 21 }) [.ref hx, .int 1, .int 2] (dC, dI) vwCl [] pz (pw hx hc hh (u0, u1, ea)) (some (.int (u1 4))) := by
  refine Met.ofW (cc := cX0_about) (maxL := 4) (ret := (some .int)) (by decide) rfl ?_
  intro p e s m args below meth c s₁ B hml hv
  obtain ⟨rfl, hP, hK, hZ⟩ := hv
  have hx_ := B.exec
  have hb := B.bytes
  have hr := B.returns
  have hts := atoms_spec (ws := wsX0_about) B.pre
  have hown : s.vm.findClass RX0 = some m.cls := findClass_of_methodNamed B.named
  have hlocks := B.notSynchronized
  have hin_RX1 : ∀ w ∈ u_ws RX1 TX1 19, w ∈ wsX0_about := fun w h => List.mem_cons_of_mem _ (u_X1 w h)
  have hlk_55 := hZ.use (w := .fieldLinkNest RX0 55 "LinePair$Controller" "masked" "I" "LinePair") (by decide +kernel) (a := ([.ref hx, .int 1, .int 2]).toArray)
  have hlk_74 := hZ.use (w := .fieldLinkNest RX0 74 "LinePair$Controller" "inService" "I" "LinePair") (by decide +kernel) (a := ([.ref hx, .int 1, .int 2]).toArray)
  have hlk_77 := hZ.use (w := .fieldLinkNest RX0 77 "LinePair$Controller" "up" "I" "LinePair") (by decide +kernel) (a := ([.ref hx, .int 1, .int 2]).toArray)
  have hlk_80 := hZ.use (w := .fieldLinkNest RX0 80 "LinePair$Controller" "lowest" "I" "LinePair") (by decide +kernel) (a := ([.ref hx, .int 1, .int 2]).toArray)
  have hlk_83 := hZ.use (w := .fieldLinkNest RX0 83 "LinePair$Controller" "base" "I" "LinePair") (by decide +kernel) (a := ([.ref hx, .int 1, .int 2]).toArray)
  have hlk_86 := hZ.use (w := .fieldLinkNest RX0 86 "LinePair$Controller" "awaited" "I" "LinePair") (by decide +kernel) (a := ([.ref hx, .int 1, .int 2]).toArray)
  have hlk_89 := hZ.use (w := .fieldLinkNest RX0 89 "LinePair$Controller" "readChoice" "I" "LinePair") (by decide +kernel) (a := ([.ref hx, .int 1, .int 2]).toArray)
  have hml_71 : va_Nw (.methodLinkNest RX0 71 yX1_requested "LinePair") s := hZ.2 _ (by decide +kernel)
  have hl := lv_entry ([.ref hx, .int 1, .int 2]) (n := 4) (Nat.le_of_ble_eq_true rfl)
  rw [lg_entry_eq]
  generalize (lg_sl ([.ref hx, .int 1, .int 2]) ++ List.replicate (4 - (lg_sl ([.ref hx, .int 1, .int 2])).length) Slot.unset).toArray = ls at hl ⊢
  have hl : lv_has ls 4 [(0, .ref hx), (1, .int 1), (2, .int 2)] := hl
  refine lv_aload_n hx_ hb dX0_about_0 rfl (lv_at hl 0 rfl) ?_
  refine lv_iload_n hx_ hb dX0_about_1 rfl (lv_at hl 1 rfl) ?_
  refine xr_call (st1 := [.ref hh]) (W.runV (As := [.int 1]) (rest := []) ⟨hx_, hb, hml, hown, hts⟩ (c_controllerNumbered_1 l dC dI hx hc hh u0 u1 ea) (cwV 1 hts (gd_V wa_c k_ml_X0_35 k_im_X0_controllerNumbered k_se_X0_controllerNumbered k_in_X0 k_co_X0_controllerNumbered) rfl rfl rfl (by decide +kernel) ⟨Nat.le_of_ble_eq_true rfl, Nat.le_of_ble_eq_true rfl⟩) (xr_preV (q0 := 0) (C := RX0) hK hP hZ rfl rfl) rfl rfl hl.1 rfl (lv_room (Nat.le_of_ble_eq_true rfl)) dX0_about_2 ⟨Nat.zero_le _, Nat.zero_le _⟩) rfl ?_
  refine lv_astore_n (lv' := [(3, .ref hh), (0, .ref hx), (1, .int 1), (2, .int 2)]) hx_ hb dX0_about_5 rfl hl (by decide) rfl (fun ls hl => ?_)
  refine lv_iload_n hx_ hb dX0_about_6 rfl (lv_at hl 3 rfl) ?_
  refine lv_tableIn (tgt := 62) hx_ hb dX0_about_7 (by decide) (by decide) (by rfl) (by decide) ?_
  refine lv_aload_n hx_ hb dX0_about_62 rfl (lv_at hl 0 rfl) ?_
  refine va_getN (D := (dC, dI)) (ci := 1) (v := .int (u1 4)) (C := RX1) (T := TX1) (N := 19) hx_ hb hts hin_RX1 hown hK hP 2 rfl rfl 4 (by decide) hlk_55 (fun _ h9 => h9) rfl dX0_about_63 ?_
  exact xr_iret hx_ hb hr hlocks dX0_about_66 rfl

set_option maxHeartbeats 4000000 in
set_option maxRecDepth 100000 in
theorem c_about_1_3 (l : Launch) (dC : Nat → ClassId) (dI : Nat → Nat → Nat) (hx hc hh : Nat) (u0 u1 : Nat → Int32) (ea : Int32) : xr_M l yX0_about wsX0_about ({ frames := 1, cells := 0, slots := 0, locals := 21 }) [.ref hx, .int 1, .int 3] (dC, dI) vwCl [] pz (pw hx hc hh (u0, u1, ea)) (some (.int (u1 1))) := by
  refine Met.ofW (cc := cX0_about) (maxL := 4) (ret := (some .int)) (by decide) rfl ?_
  intro p e s m args below meth c s₁ B hml hv
  obtain ⟨rfl, hP, hK, hZ⟩ := hv
  have hx_ := B.exec
  have hb := B.bytes
  have hr := B.returns
  have hts := atoms_spec (ws := wsX0_about) B.pre
  have hown : s.vm.findClass RX0 = some m.cls := findClass_of_methodNamed B.named
  have hlocks := B.notSynchronized
  have hin_RX1 : ∀ w ∈ u_ws RX1 TX1 19, w ∈ wsX0_about := fun w h => List.mem_cons_of_mem _ (u_X1 w h)
  have hlk_55 := hZ.use (w := .fieldLinkNest RX0 55 "LinePair$Controller" "masked" "I" "LinePair") (by decide +kernel) (a := ([.ref hx, .int 1, .int 3]).toArray)
  have hlk_74 := hZ.use (w := .fieldLinkNest RX0 74 "LinePair$Controller" "inService" "I" "LinePair") (by decide +kernel) (a := ([.ref hx, .int 1, .int 3]).toArray)
  have hlk_77 := hZ.use (w := .fieldLinkNest RX0 77 "LinePair$Controller" "up" "I" "LinePair") (by decide +kernel) (a := ([.ref hx, .int 1, .int 3]).toArray)
  have hlk_80 := hZ.use (w := .fieldLinkNest RX0 80 "LinePair$Controller" "lowest" "I" "LinePair") (by decide +kernel) (a := ([.ref hx, .int 1, .int 3]).toArray)
  have hlk_83 := hZ.use (w := .fieldLinkNest RX0 83 "LinePair$Controller" "base" "I" "LinePair") (by decide +kernel) (a := ([.ref hx, .int 1, .int 3]).toArray)
  have hlk_86 := hZ.use (w := .fieldLinkNest RX0 86 "LinePair$Controller" "awaited" "I" "LinePair") (by decide +kernel) (a := ([.ref hx, .int 1, .int 3]).toArray)
  have hlk_89 := hZ.use (w := .fieldLinkNest RX0 89 "LinePair$Controller" "readChoice" "I" "LinePair") (by decide +kernel) (a := ([.ref hx, .int 1, .int 3]).toArray)
  have hml_71 : va_Nw (.methodLinkNest RX0 71 yX1_requested "LinePair") s := hZ.2 _ (by decide +kernel)
  have hl := lv_entry ([.ref hx, .int 1, .int 3]) (n := 4) (Nat.le_of_ble_eq_true rfl)
  rw [lg_entry_eq]
  generalize (lg_sl ([.ref hx, .int 1, .int 3]) ++ List.replicate (4 - (lg_sl ([.ref hx, .int 1, .int 3])).length) Slot.unset).toArray = ls at hl ⊢
  have hl : lv_has ls 4 [(0, .ref hx), (1, .int 1), (2, .int 3)] := hl
  refine lv_aload_n hx_ hb dX0_about_0 rfl (lv_at hl 0 rfl) ?_
  refine lv_iload_n hx_ hb dX0_about_1 rfl (lv_at hl 1 rfl) ?_
  refine xr_call (st1 := [.ref hh]) (W.runV (As := [.int 1]) (rest := []) ⟨hx_, hb, hml, hown, hts⟩ (c_controllerNumbered_1 l dC dI hx hc hh u0 u1 ea) (cwV 1 hts (gd_V wa_c k_ml_X0_35 k_im_X0_controllerNumbered k_se_X0_controllerNumbered k_in_X0 k_co_X0_controllerNumbered) rfl rfl rfl (by decide +kernel) ⟨Nat.le_of_ble_eq_true rfl, Nat.le_of_ble_eq_true rfl⟩) (xr_preV (q0 := 0) (C := RX0) hK hP hZ rfl rfl) rfl rfl hl.1 rfl (lv_room (Nat.le_of_ble_eq_true rfl)) dX0_about_2 ⟨Nat.zero_le _, Nat.zero_le _⟩) rfl ?_
  refine lv_astore_n (lv' := [(3, .ref hh), (0, .ref hx), (1, .int 1), (2, .int 3)]) hx_ hb dX0_about_5 rfl hl (by decide) rfl (fun ls hl => ?_)
  refine lv_iload_n hx_ hb dX0_about_6 rfl (lv_at hl 3 rfl) ?_
  refine lv_tableIn (tgt := 67) hx_ hb dX0_about_7 (by decide) (by decide) (by rfl) (by decide) ?_
  refine lv_aload_n hx_ hb dX0_about_67 rfl (lv_at hl 0 rfl) ?_
  refine va_getN (D := (dC, dI)) (ci := 1) (v := .int (u1 1)) (C := RX1) (T := TX1) (N := 19) hx_ hb hts hin_RX1 hown hK hP 2 rfl rfl 1 (by decide) hlk_77 (fun _ h9 => h9) rfl dX0_about_68 ?_
  exact xr_iret hx_ hb hr hlocks dX0_about_71 rfl

set_option maxHeartbeats 4000000 in
set_option maxRecDepth 100000 in
theorem c_about_1_4 (l : Launch) (dC : Nat → ClassId) (dI : Nat → Nat → Nat) (hx hc hh : Nat) (u0 u1 : Nat → Int32) (ea : Int32) : xr_M l yX0_about wsX0_about ({ frames := 1, cells := 0, slots := 0, locals := 21 }) [.ref hx, .int 1, .int 4] (dC, dI) vwCl [] pz (pw hx hc hh (u0, u1, ea)) (some (.int (u1 5))) := by
  refine Met.ofW (cc := cX0_about) (maxL := 4) (ret := (some .int)) (by decide) rfl ?_
  intro p e s m args below meth c s₁ B hml hv
  obtain ⟨rfl, hP, hK, hZ⟩ := hv
  have hx_ := B.exec
  have hb := B.bytes
  have hr := B.returns
  have hts := atoms_spec (ws := wsX0_about) B.pre
  have hown : s.vm.findClass RX0 = some m.cls := findClass_of_methodNamed B.named
  have hlocks := B.notSynchronized
  have hin_RX1 : ∀ w ∈ u_ws RX1 TX1 19, w ∈ wsX0_about := fun w h => List.mem_cons_of_mem _ (u_X1 w h)
  have hlk_55 := hZ.use (w := .fieldLinkNest RX0 55 "LinePair$Controller" "masked" "I" "LinePair") (by decide +kernel) (a := ([.ref hx, .int 1, .int 4]).toArray)
  have hlk_74 := hZ.use (w := .fieldLinkNest RX0 74 "LinePair$Controller" "inService" "I" "LinePair") (by decide +kernel) (a := ([.ref hx, .int 1, .int 4]).toArray)
  have hlk_77 := hZ.use (w := .fieldLinkNest RX0 77 "LinePair$Controller" "up" "I" "LinePair") (by decide +kernel) (a := ([.ref hx, .int 1, .int 4]).toArray)
  have hlk_80 := hZ.use (w := .fieldLinkNest RX0 80 "LinePair$Controller" "lowest" "I" "LinePair") (by decide +kernel) (a := ([.ref hx, .int 1, .int 4]).toArray)
  have hlk_83 := hZ.use (w := .fieldLinkNest RX0 83 "LinePair$Controller" "base" "I" "LinePair") (by decide +kernel) (a := ([.ref hx, .int 1, .int 4]).toArray)
  have hlk_86 := hZ.use (w := .fieldLinkNest RX0 86 "LinePair$Controller" "awaited" "I" "LinePair") (by decide +kernel) (a := ([.ref hx, .int 1, .int 4]).toArray)
  have hlk_89 := hZ.use (w := .fieldLinkNest RX0 89 "LinePair$Controller" "readChoice" "I" "LinePair") (by decide +kernel) (a := ([.ref hx, .int 1, .int 4]).toArray)
  have hml_71 : va_Nw (.methodLinkNest RX0 71 yX1_requested "LinePair") s := hZ.2 _ (by decide +kernel)
  have hl := lv_entry ([.ref hx, .int 1, .int 4]) (n := 4) (Nat.le_of_ble_eq_true rfl)
  rw [lg_entry_eq]
  generalize (lg_sl ([.ref hx, .int 1, .int 4]) ++ List.replicate (4 - (lg_sl ([.ref hx, .int 1, .int 4])).length) Slot.unset).toArray = ls at hl ⊢
  have hl : lv_has ls 4 [(0, .ref hx), (1, .int 1), (2, .int 4)] := hl
  refine lv_aload_n hx_ hb dX0_about_0 rfl (lv_at hl 0 rfl) ?_
  refine lv_iload_n hx_ hb dX0_about_1 rfl (lv_at hl 1 rfl) ?_
  refine xr_call (st1 := [.ref hh]) (W.runV (As := [.int 1]) (rest := []) ⟨hx_, hb, hml, hown, hts⟩ (c_controllerNumbered_1 l dC dI hx hc hh u0 u1 ea) (cwV 1 hts (gd_V wa_c k_ml_X0_35 k_im_X0_controllerNumbered k_se_X0_controllerNumbered k_in_X0 k_co_X0_controllerNumbered) rfl rfl rfl (by decide +kernel) ⟨Nat.le_of_ble_eq_true rfl, Nat.le_of_ble_eq_true rfl⟩) (xr_preV (q0 := 0) (C := RX0) hK hP hZ rfl rfl) rfl rfl hl.1 rfl (lv_room (Nat.le_of_ble_eq_true rfl)) dX0_about_2 ⟨Nat.zero_le _, Nat.zero_le _⟩) rfl ?_
  refine lv_astore_n (lv' := [(3, .ref hh), (0, .ref hx), (1, .int 1), (2, .int 4)]) hx_ hb dX0_about_5 rfl hl (by decide) rfl (fun ls hl => ?_)
  refine lv_iload_n hx_ hb dX0_about_6 rfl (lv_at hl 3 rfl) ?_
  refine lv_tableIn (tgt := 72) hx_ hb dX0_about_7 (by decide) (by decide) (by rfl) (by decide) ?_
  refine lv_aload_n hx_ hb dX0_about_72 rfl (lv_at hl 0 rfl) ?_
  refine va_getN (D := (dC, dI)) (ci := 1) (v := .int (u1 5)) (C := RX1) (T := TX1) (N := 19) hx_ hb hts hin_RX1 hown hK hP 2 rfl rfl 5 (by decide) hlk_80 (fun _ h9 => h9) rfl dX0_about_73 ?_
  exact xr_iret hx_ hb hr hlocks dX0_about_76 rfl

set_option maxHeartbeats 4000000 in
set_option maxRecDepth 100000 in
theorem c_about_1_5 (l : Launch) (dC : Nat → ClassId) (dI : Nat → Nat → Nat) (hx hc hh : Nat) (u0 u1 : Nat → Int32) (ea : Int32) : xr_M l yX0_about wsX0_about ({ frames := 1, cells := 0, slots := 0, locals := 21 }) [.ref hx, .int 1, .int 5] (dC, dI) vwCl [] pz (pw hx hc hh (u0, u1, ea)) (some (.int (u1 6))) := by
  refine Met.ofW (cc := cX0_about) (maxL := 4) (ret := (some .int)) (by decide) rfl ?_
  intro p e s m args below meth c s₁ B hml hv
  obtain ⟨rfl, hP, hK, hZ⟩ := hv
  have hx_ := B.exec
  have hb := B.bytes
  have hr := B.returns
  have hts := atoms_spec (ws := wsX0_about) B.pre
  have hown : s.vm.findClass RX0 = some m.cls := findClass_of_methodNamed B.named
  have hlocks := B.notSynchronized
  have hin_RX1 : ∀ w ∈ u_ws RX1 TX1 19, w ∈ wsX0_about := fun w h => List.mem_cons_of_mem _ (u_X1 w h)
  have hlk_55 := hZ.use (w := .fieldLinkNest RX0 55 "LinePair$Controller" "masked" "I" "LinePair") (by decide +kernel) (a := ([.ref hx, .int 1, .int 5]).toArray)
  have hlk_74 := hZ.use (w := .fieldLinkNest RX0 74 "LinePair$Controller" "inService" "I" "LinePair") (by decide +kernel) (a := ([.ref hx, .int 1, .int 5]).toArray)
  have hlk_77 := hZ.use (w := .fieldLinkNest RX0 77 "LinePair$Controller" "up" "I" "LinePair") (by decide +kernel) (a := ([.ref hx, .int 1, .int 5]).toArray)
  have hlk_80 := hZ.use (w := .fieldLinkNest RX0 80 "LinePair$Controller" "lowest" "I" "LinePair") (by decide +kernel) (a := ([.ref hx, .int 1, .int 5]).toArray)
  have hlk_83 := hZ.use (w := .fieldLinkNest RX0 83 "LinePair$Controller" "base" "I" "LinePair") (by decide +kernel) (a := ([.ref hx, .int 1, .int 5]).toArray)
  have hlk_86 := hZ.use (w := .fieldLinkNest RX0 86 "LinePair$Controller" "awaited" "I" "LinePair") (by decide +kernel) (a := ([.ref hx, .int 1, .int 5]).toArray)
  have hlk_89 := hZ.use (w := .fieldLinkNest RX0 89 "LinePair$Controller" "readChoice" "I" "LinePair") (by decide +kernel) (a := ([.ref hx, .int 1, .int 5]).toArray)
  have hml_71 : va_Nw (.methodLinkNest RX0 71 yX1_requested "LinePair") s := hZ.2 _ (by decide +kernel)
  have hl := lv_entry ([.ref hx, .int 1, .int 5]) (n := 4) (Nat.le_of_ble_eq_true rfl)
  rw [lg_entry_eq]
  generalize (lg_sl ([.ref hx, .int 1, .int 5]) ++ List.replicate (4 - (lg_sl ([.ref hx, .int 1, .int 5])).length) Slot.unset).toArray = ls at hl ⊢
  have hl : lv_has ls 4 [(0, .ref hx), (1, .int 1), (2, .int 5)] := hl
  refine lv_aload_n hx_ hb dX0_about_0 rfl (lv_at hl 0 rfl) ?_
  refine lv_iload_n hx_ hb dX0_about_1 rfl (lv_at hl 1 rfl) ?_
  refine xr_call (st1 := [.ref hh]) (W.runV (As := [.int 1]) (rest := []) ⟨hx_, hb, hml, hown, hts⟩ (c_controllerNumbered_1 l dC dI hx hc hh u0 u1 ea) (cwV 1 hts (gd_V wa_c k_ml_X0_35 k_im_X0_controllerNumbered k_se_X0_controllerNumbered k_in_X0 k_co_X0_controllerNumbered) rfl rfl rfl (by decide +kernel) ⟨Nat.le_of_ble_eq_true rfl, Nat.le_of_ble_eq_true rfl⟩) (xr_preV (q0 := 0) (C := RX0) hK hP hZ rfl rfl) rfl rfl hl.1 rfl (lv_room (Nat.le_of_ble_eq_true rfl)) dX0_about_2 ⟨Nat.zero_le _, Nat.zero_le _⟩) rfl ?_
  refine lv_astore_n (lv' := [(3, .ref hh), (0, .ref hx), (1, .int 1), (2, .int 5)]) hx_ hb dX0_about_5 rfl hl (by decide) rfl (fun ls hl => ?_)
  refine lv_iload_n hx_ hb dX0_about_6 rfl (lv_at hl 3 rfl) ?_
  refine lv_tableIn (tgt := 77) hx_ hb dX0_about_7 (by decide) (by decide) (by rfl) (by decide) ?_
  refine lv_aload_n hx_ hb dX0_about_77 rfl (lv_at hl 0 rfl) ?_
  refine va_getN (D := (dC, dI)) (ci := 1) (v := .int (u1 6)) (C := RX1) (T := TX1) (N := 19) hx_ hb hts hin_RX1 hown hK hP 2 rfl rfl 6 (by decide) hlk_83 (fun _ h9 => h9) rfl dX0_about_78 ?_
  exact xr_iret hx_ hb hr hlocks dX0_about_81 rfl

set_option maxHeartbeats 4000000 in
set_option maxRecDepth 100000 in
theorem c_about_1_6 (l : Launch) (dC : Nat → ClassId) (dI : Nat → Nat → Nat) (hx hc hh : Nat) (u0 u1 : Nat → Int32) (ea : Int32) : xr_M l yX0_about wsX0_about ({ frames := 1, cells := 0, slots := 0, locals := 21 }) [.ref hx, .int 1, .int 6] (dC, dI) vwCl [] pz (pw hx hc hh (u0, u1, ea)) (some (.int (u1 7))) := by
  refine Met.ofW (cc := cX0_about) (maxL := 4) (ret := (some .int)) (by decide) rfl ?_
  intro p e s m args below meth c s₁ B hml hv
  obtain ⟨rfl, hP, hK, hZ⟩ := hv
  have hx_ := B.exec
  have hb := B.bytes
  have hr := B.returns
  have hts := atoms_spec (ws := wsX0_about) B.pre
  have hown : s.vm.findClass RX0 = some m.cls := findClass_of_methodNamed B.named
  have hlocks := B.notSynchronized
  have hin_RX1 : ∀ w ∈ u_ws RX1 TX1 19, w ∈ wsX0_about := fun w h => List.mem_cons_of_mem _ (u_X1 w h)
  have hlk_55 := hZ.use (w := .fieldLinkNest RX0 55 "LinePair$Controller" "masked" "I" "LinePair") (by decide +kernel) (a := ([.ref hx, .int 1, .int 6]).toArray)
  have hlk_74 := hZ.use (w := .fieldLinkNest RX0 74 "LinePair$Controller" "inService" "I" "LinePair") (by decide +kernel) (a := ([.ref hx, .int 1, .int 6]).toArray)
  have hlk_77 := hZ.use (w := .fieldLinkNest RX0 77 "LinePair$Controller" "up" "I" "LinePair") (by decide +kernel) (a := ([.ref hx, .int 1, .int 6]).toArray)
  have hlk_80 := hZ.use (w := .fieldLinkNest RX0 80 "LinePair$Controller" "lowest" "I" "LinePair") (by decide +kernel) (a := ([.ref hx, .int 1, .int 6]).toArray)
  have hlk_83 := hZ.use (w := .fieldLinkNest RX0 83 "LinePair$Controller" "base" "I" "LinePair") (by decide +kernel) (a := ([.ref hx, .int 1, .int 6]).toArray)
  have hlk_86 := hZ.use (w := .fieldLinkNest RX0 86 "LinePair$Controller" "awaited" "I" "LinePair") (by decide +kernel) (a := ([.ref hx, .int 1, .int 6]).toArray)
  have hlk_89 := hZ.use (w := .fieldLinkNest RX0 89 "LinePair$Controller" "readChoice" "I" "LinePair") (by decide +kernel) (a := ([.ref hx, .int 1, .int 6]).toArray)
  have hml_71 : va_Nw (.methodLinkNest RX0 71 yX1_requested "LinePair") s := hZ.2 _ (by decide +kernel)
  have hl := lv_entry ([.ref hx, .int 1, .int 6]) (n := 4) (Nat.le_of_ble_eq_true rfl)
  rw [lg_entry_eq]
  generalize (lg_sl ([.ref hx, .int 1, .int 6]) ++ List.replicate (4 - (lg_sl ([.ref hx, .int 1, .int 6])).length) Slot.unset).toArray = ls at hl ⊢
  have hl : lv_has ls 4 [(0, .ref hx), (1, .int 1), (2, .int 6)] := hl
  refine lv_aload_n hx_ hb dX0_about_0 rfl (lv_at hl 0 rfl) ?_
  refine lv_iload_n hx_ hb dX0_about_1 rfl (lv_at hl 1 rfl) ?_
  refine xr_call (st1 := [.ref hh]) (W.runV (As := [.int 1]) (rest := []) ⟨hx_, hb, hml, hown, hts⟩ (c_controllerNumbered_1 l dC dI hx hc hh u0 u1 ea) (cwV 1 hts (gd_V wa_c k_ml_X0_35 k_im_X0_controllerNumbered k_se_X0_controllerNumbered k_in_X0 k_co_X0_controllerNumbered) rfl rfl rfl (by decide +kernel) ⟨Nat.le_of_ble_eq_true rfl, Nat.le_of_ble_eq_true rfl⟩) (xr_preV (q0 := 0) (C := RX0) hK hP hZ rfl rfl) rfl rfl hl.1 rfl (lv_room (Nat.le_of_ble_eq_true rfl)) dX0_about_2 ⟨Nat.zero_le _, Nat.zero_le _⟩) rfl ?_
  refine lv_astore_n (lv' := [(3, .ref hh), (0, .ref hx), (1, .int 1), (2, .int 6)]) hx_ hb dX0_about_5 rfl hl (by decide) rfl (fun ls hl => ?_)
  refine lv_iload_n hx_ hb dX0_about_6 rfl (lv_at hl 3 rfl) ?_
  refine lv_tableIn (tgt := 82) hx_ hb dX0_about_7 (by decide) (by decide) (by rfl) (by decide) ?_
  refine lv_aload_n hx_ hb dX0_about_82 rfl (lv_at hl 0 rfl) ?_
  refine va_getN (D := (dC, dI)) (ci := 1) (v := .int (u1 7)) (C := RX1) (T := TX1) (N := 19) hx_ hb hts hin_RX1 hown hK hP 2 rfl rfl 7 (by decide) hlk_86 (fun _ h9 => h9) rfl dX0_about_83 ?_
  exact xr_iret hx_ hb hr hlocks dX0_about_86 rfl

set_option maxHeartbeats 4000000 in
set_option maxRecDepth 100000 in
theorem c_about_1_7 (l : Launch) (dC : Nat → ClassId) (dI : Nat → Nat → Nat) (hx hc hh : Nat) (u0 u1 : Nat → Int32) (ea : Int32) : xr_M l yX0_about wsX0_about ({ frames := 1, cells := 0, slots := 0, locals := 21 }) [.ref hx, .int 1, .int 7] (dC, dI) vwCl [] pz (pw hx hc hh (u0, u1, ea)) (some (.int (u1 8))) := by
  refine Met.ofW (cc := cX0_about) (maxL := 4) (ret := (some .int)) (by decide) rfl ?_
  intro p e s m args below meth c s₁ B hml hv
  obtain ⟨rfl, hP, hK, hZ⟩ := hv
  have hx_ := B.exec
  have hb := B.bytes
  have hr := B.returns
  have hts := atoms_spec (ws := wsX0_about) B.pre
  have hown : s.vm.findClass RX0 = some m.cls := findClass_of_methodNamed B.named
  have hlocks := B.notSynchronized
  have hin_RX1 : ∀ w ∈ u_ws RX1 TX1 19, w ∈ wsX0_about := fun w h => List.mem_cons_of_mem _ (u_X1 w h)
  have hlk_55 := hZ.use (w := .fieldLinkNest RX0 55 "LinePair$Controller" "masked" "I" "LinePair") (by decide +kernel) (a := ([.ref hx, .int 1, .int 7]).toArray)
  have hlk_74 := hZ.use (w := .fieldLinkNest RX0 74 "LinePair$Controller" "inService" "I" "LinePair") (by decide +kernel) (a := ([.ref hx, .int 1, .int 7]).toArray)
  have hlk_77 := hZ.use (w := .fieldLinkNest RX0 77 "LinePair$Controller" "up" "I" "LinePair") (by decide +kernel) (a := ([.ref hx, .int 1, .int 7]).toArray)
  have hlk_80 := hZ.use (w := .fieldLinkNest RX0 80 "LinePair$Controller" "lowest" "I" "LinePair") (by decide +kernel) (a := ([.ref hx, .int 1, .int 7]).toArray)
  have hlk_83 := hZ.use (w := .fieldLinkNest RX0 83 "LinePair$Controller" "base" "I" "LinePair") (by decide +kernel) (a := ([.ref hx, .int 1, .int 7]).toArray)
  have hlk_86 := hZ.use (w := .fieldLinkNest RX0 86 "LinePair$Controller" "awaited" "I" "LinePair") (by decide +kernel) (a := ([.ref hx, .int 1, .int 7]).toArray)
  have hlk_89 := hZ.use (w := .fieldLinkNest RX0 89 "LinePair$Controller" "readChoice" "I" "LinePair") (by decide +kernel) (a := ([.ref hx, .int 1, .int 7]).toArray)
  have hml_71 : va_Nw (.methodLinkNest RX0 71 yX1_requested "LinePair") s := hZ.2 _ (by decide +kernel)
  have hl := lv_entry ([.ref hx, .int 1, .int 7]) (n := 4) (Nat.le_of_ble_eq_true rfl)
  rw [lg_entry_eq]
  generalize (lg_sl ([.ref hx, .int 1, .int 7]) ++ List.replicate (4 - (lg_sl ([.ref hx, .int 1, .int 7])).length) Slot.unset).toArray = ls at hl ⊢
  have hl : lv_has ls 4 [(0, .ref hx), (1, .int 1), (2, .int 7)] := hl
  refine lv_aload_n hx_ hb dX0_about_0 rfl (lv_at hl 0 rfl) ?_
  refine lv_iload_n hx_ hb dX0_about_1 rfl (lv_at hl 1 rfl) ?_
  refine xr_call (st1 := [.ref hh]) (W.runV (As := [.int 1]) (rest := []) ⟨hx_, hb, hml, hown, hts⟩ (c_controllerNumbered_1 l dC dI hx hc hh u0 u1 ea) (cwV 1 hts (gd_V wa_c k_ml_X0_35 k_im_X0_controllerNumbered k_se_X0_controllerNumbered k_in_X0 k_co_X0_controllerNumbered) rfl rfl rfl (by decide +kernel) ⟨Nat.le_of_ble_eq_true rfl, Nat.le_of_ble_eq_true rfl⟩) (xr_preV (q0 := 0) (C := RX0) hK hP hZ rfl rfl) rfl rfl hl.1 rfl (lv_room (Nat.le_of_ble_eq_true rfl)) dX0_about_2 ⟨Nat.zero_le _, Nat.zero_le _⟩) rfl ?_
  refine lv_astore_n (lv' := [(3, .ref hh), (0, .ref hx), (1, .int 1), (2, .int 7)]) hx_ hb dX0_about_5 rfl hl (by decide) rfl (fun ls hl => ?_)
  refine lv_iload_n hx_ hb dX0_about_6 rfl (lv_at hl 3 rfl) ?_
  refine lv_tableIn (tgt := 87) hx_ hb dX0_about_7 (by decide) (by decide) (by rfl) (by decide) ?_
  refine lv_aload_n hx_ hb dX0_about_87 rfl (lv_at hl 0 rfl) ?_
  refine va_getN (D := (dC, dI)) (ci := 1) (v := .int (u1 8)) (C := RX1) (T := TX1) (N := 19) hx_ hb hts hin_RX1 hown hK hP 2 rfl rfl 8 (by decide) hlk_89 (fun _ h9 => h9) rfl dX0_about_88 ?_
  exact xr_iret hx_ hb hr hlocks dX0_about_91 rfl

set_option maxHeartbeats 4000000 in
set_option maxRecDepth 100000 in
theorem c_mode_1_0 (l : Launch) (dC : Nat → ClassId) (dI : Nat → Nat → Nat) (hx hc hh : Nat) (u0 u1 : Nat → Int32) (ea : Int32) (hok1 : lpOk u1) : xr_M l yX0_mode wsX0_mode ({ frames := 1, cells := 0, slots := 0, locals := 21 }) [.ref hx, .int 1, .int 0] (dC, dI) vwCl [] pz (pw hx hc hh (u0, u1, ea)) (some (.int (u1 10))) := by
  refine Met.ofW (cc := cX0_mode) (maxL := 4) (ret := (some .boolean)) (by decide) rfl ?_
  intro p e s m args below meth c s₁ B hml hv
  obtain ⟨rfl, hP, hK, hZ⟩ := hv
  have hx_ := B.exec
  have hb := B.bytes
  have hr := B.returns
  have hts := atoms_spec (ws := wsX0_mode) B.pre
  have hown : s.vm.findClass RX0 = some m.cls := findClass_of_methodNamed B.named
  have hlocks := B.notSynchronized
  have hin_RX1 : ∀ w ∈ u_ws RX1 TX1 19, w ∈ wsX0_mode := fun w h => List.mem_cons_of_mem _ (u_X1 w h)
  have hlk_92 := hZ.use (w := .fieldLinkNest RX0 92 "LinePair$Controller" "ready" "Z" "LinePair") (by decide +kernel) (a := ([.ref hx, .int 1, .int 0]).toArray)
  have hlk_96 := hZ.use (w := .fieldLinkNest RX0 96 "LinePair$Controller" "byLevels" "Z" "LinePair") (by decide +kernel) (a := ([.ref hx, .int 1, .int 0]).toArray)
  have hlk_99 := hZ.use (w := .fieldLinkNest RX0 99 "LinePair$Controller" "specialMask" "Z" "LinePair") (by decide +kernel) (a := ([.ref hx, .int 1, .int 0]).toArray)
  have hlk_102 := hZ.use (w := .fieldLinkNest RX0 102 "LinePair$Controller" "specialNesting" "Z" "LinePair") (by decide +kernel) (a := ([.ref hx, .int 1, .int 0]).toArray)
  have hlk_105 := hZ.use (w := .fieldLinkNest RX0 105 "LinePair$Controller" "endsAtOnce" "Z" "LinePair") (by decide +kernel) (a := ([.ref hx, .int 1, .int 0]).toArray)
  have hlk_108 := hZ.use (w := .fieldLinkNest RX0 108 "LinePair$Controller" "turnsAtOnce" "Z" "LinePair") (by decide +kernel) (a := ([.ref hx, .int 1, .int 0]).toArray)
  have hlk_111 := hZ.use (w := .fieldLinkNest RX0 111 "LinePair$Controller" "pollWaits" "Z" "LinePair") (by decide +kernel) (a := ([.ref hx, .int 1, .int 0]).toArray)
  have hl := lv_entry ([.ref hx, .int 1, .int 0]) (n := 4) (Nat.le_of_ble_eq_true rfl)
  rw [lg_entry_eq]
  generalize (lg_sl ([.ref hx, .int 1, .int 0]) ++ List.replicate (4 - (lg_sl ([.ref hx, .int 1, .int 0])).length) Slot.unset).toArray = ls at hl ⊢
  have hl : lv_has ls 4 [(0, .ref hx), (1, .int 1), (2, .int 0)] := hl
  refine lv_aload_n hx_ hb dX0_mode_0 rfl (lv_at hl 0 rfl) ?_
  refine lv_iload_n hx_ hb dX0_mode_1 rfl (lv_at hl 1 rfl) ?_
  refine xr_call (st1 := [.ref hh]) (W.runV (As := [.int 1]) (rest := []) ⟨hx_, hb, hml, hown, hts⟩ (c_controllerNumbered_1 l dC dI hx hc hh u0 u1 ea) (cwV 1 hts (gd_V wa_c k_ml_X0_35 k_im_X0_controllerNumbered k_se_X0_controllerNumbered k_in_X0 k_co_X0_controllerNumbered) rfl rfl rfl (by decide +kernel) ⟨Nat.le_of_ble_eq_true rfl, Nat.le_of_ble_eq_true rfl⟩) (xr_preV (q0 := 0) (C := RX0) hK hP hZ rfl rfl) rfl rfl hl.1 rfl (lv_room (Nat.le_of_ble_eq_true rfl)) dX0_mode_2 ⟨Nat.zero_le _, Nat.zero_le _⟩) rfl ?_
  refine lv_astore_n (lv' := [(3, .ref hh), (0, .ref hx), (1, .int 1), (2, .int 0)]) hx_ hb dX0_mode_5 rfl hl (by decide) rfl (fun ls hl => ?_)
  refine lv_iload_n hx_ hb dX0_mode_6 rfl (lv_at hl 3 rfl) ?_
  refine lv_tableIn (tgt := 48) hx_ hb dX0_mode_7 (by decide) (by decide) (by rfl) (by decide) ?_
  refine lv_aload_n hx_ hb dX0_mode_48 rfl (lv_at hl 0 rfl) ?_
  refine va_getN (D := (dC, dI)) (ci := 1) (v := .int (u1 10)) (C := RX1) (T := TX1) (N := 19) hx_ hb hts hin_RX1 hown hK hP 2 rfl rfl 10 (by decide) hlk_92 (fun _ h9 => h9) rfl dX0_mode_49 ?_
  exact xr_zret hx_ hb hr hlocks dX0_mode_52 (lpOk_nar hok1 10 (by decide)) rfl

set_option maxHeartbeats 4000000 in
set_option maxRecDepth 100000 in
theorem c_mode_1_1 (l : Launch) (dC : Nat → ClassId) (dI : Nat → Nat → Nat) (hx hc hh : Nat) (u0 u1 : Nat → Int32) (ea : Int32) (hok1 : lpOk u1) : xr_M l yX0_mode wsX0_mode ({ frames := 1, cells := 0, slots := 0, locals := 21 }) [.ref hx, .int 1, .int 1] (dC, dI) vwCl [] pz (pw hx hc hh (u0, u1, ea)) (some (.int (u1 11))) := by
  refine Met.ofW (cc := cX0_mode) (maxL := 4) (ret := (some .boolean)) (by decide) rfl ?_
  intro p e s m args below meth c s₁ B hml hv
  obtain ⟨rfl, hP, hK, hZ⟩ := hv
  have hx_ := B.exec
  have hb := B.bytes
  have hr := B.returns
  have hts := atoms_spec (ws := wsX0_mode) B.pre
  have hown : s.vm.findClass RX0 = some m.cls := findClass_of_methodNamed B.named
  have hlocks := B.notSynchronized
  have hin_RX1 : ∀ w ∈ u_ws RX1 TX1 19, w ∈ wsX0_mode := fun w h => List.mem_cons_of_mem _ (u_X1 w h)
  have hlk_92 := hZ.use (w := .fieldLinkNest RX0 92 "LinePair$Controller" "ready" "Z" "LinePair") (by decide +kernel) (a := ([.ref hx, .int 1, .int 1]).toArray)
  have hlk_96 := hZ.use (w := .fieldLinkNest RX0 96 "LinePair$Controller" "byLevels" "Z" "LinePair") (by decide +kernel) (a := ([.ref hx, .int 1, .int 1]).toArray)
  have hlk_99 := hZ.use (w := .fieldLinkNest RX0 99 "LinePair$Controller" "specialMask" "Z" "LinePair") (by decide +kernel) (a := ([.ref hx, .int 1, .int 1]).toArray)
  have hlk_102 := hZ.use (w := .fieldLinkNest RX0 102 "LinePair$Controller" "specialNesting" "Z" "LinePair") (by decide +kernel) (a := ([.ref hx, .int 1, .int 1]).toArray)
  have hlk_105 := hZ.use (w := .fieldLinkNest RX0 105 "LinePair$Controller" "endsAtOnce" "Z" "LinePair") (by decide +kernel) (a := ([.ref hx, .int 1, .int 1]).toArray)
  have hlk_108 := hZ.use (w := .fieldLinkNest RX0 108 "LinePair$Controller" "turnsAtOnce" "Z" "LinePair") (by decide +kernel) (a := ([.ref hx, .int 1, .int 1]).toArray)
  have hlk_111 := hZ.use (w := .fieldLinkNest RX0 111 "LinePair$Controller" "pollWaits" "Z" "LinePair") (by decide +kernel) (a := ([.ref hx, .int 1, .int 1]).toArray)
  have hl := lv_entry ([.ref hx, .int 1, .int 1]) (n := 4) (Nat.le_of_ble_eq_true rfl)
  rw [lg_entry_eq]
  generalize (lg_sl ([.ref hx, .int 1, .int 1]) ++ List.replicate (4 - (lg_sl ([.ref hx, .int 1, .int 1])).length) Slot.unset).toArray = ls at hl ⊢
  have hl : lv_has ls 4 [(0, .ref hx), (1, .int 1), (2, .int 1)] := hl
  refine lv_aload_n hx_ hb dX0_mode_0 rfl (lv_at hl 0 rfl) ?_
  refine lv_iload_n hx_ hb dX0_mode_1 rfl (lv_at hl 1 rfl) ?_
  refine xr_call (st1 := [.ref hh]) (W.runV (As := [.int 1]) (rest := []) ⟨hx_, hb, hml, hown, hts⟩ (c_controllerNumbered_1 l dC dI hx hc hh u0 u1 ea) (cwV 1 hts (gd_V wa_c k_ml_X0_35 k_im_X0_controllerNumbered k_se_X0_controllerNumbered k_in_X0 k_co_X0_controllerNumbered) rfl rfl rfl (by decide +kernel) ⟨Nat.le_of_ble_eq_true rfl, Nat.le_of_ble_eq_true rfl⟩) (xr_preV (q0 := 0) (C := RX0) hK hP hZ rfl rfl) rfl rfl hl.1 rfl (lv_room (Nat.le_of_ble_eq_true rfl)) dX0_mode_2 ⟨Nat.zero_le _, Nat.zero_le _⟩) rfl ?_
  refine lv_astore_n (lv' := [(3, .ref hh), (0, .ref hx), (1, .int 1), (2, .int 1)]) hx_ hb dX0_mode_5 rfl hl (by decide) rfl (fun ls hl => ?_)
  refine lv_iload_n hx_ hb dX0_mode_6 rfl (lv_at hl 3 rfl) ?_
  refine lv_tableIn (tgt := 53) hx_ hb dX0_mode_7 (by decide) (by decide) (by rfl) (by decide) ?_
  refine lv_aload_n hx_ hb dX0_mode_53 rfl (lv_at hl 0 rfl) ?_
  refine va_getN (D := (dC, dI)) (ci := 1) (v := .int (u1 11)) (C := RX1) (T := TX1) (N := 19) hx_ hb hts hin_RX1 hown hK hP 2 rfl rfl 11 (by decide) hlk_96 (fun _ h9 => h9) rfl dX0_mode_54 ?_
  exact xr_zret hx_ hb hr hlocks dX0_mode_57 (lpOk_nar hok1 11 (by decide)) rfl

set_option maxHeartbeats 4000000 in
set_option maxRecDepth 100000 in
theorem c_mode_1_2 (l : Launch) (dC : Nat → ClassId) (dI : Nat → Nat → Nat) (hx hc hh : Nat) (u0 u1 : Nat → Int32) (ea : Int32) (hok1 : lpOk u1) : xr_M l yX0_mode wsX0_mode ({ frames := 1, cells := 0, slots := 0, locals := 21 }) [.ref hx, .int 1, .int 2] (dC, dI) vwCl [] pz (pw hx hc hh (u0, u1, ea)) (some (.int (u1 12))) := by
  refine Met.ofW (cc := cX0_mode) (maxL := 4) (ret := (some .boolean)) (by decide) rfl ?_
  intro p e s m args below meth c s₁ B hml hv
  obtain ⟨rfl, hP, hK, hZ⟩ := hv
  have hx_ := B.exec
  have hb := B.bytes
  have hr := B.returns
  have hts := atoms_spec (ws := wsX0_mode) B.pre
  have hown : s.vm.findClass RX0 = some m.cls := findClass_of_methodNamed B.named
  have hlocks := B.notSynchronized
  have hin_RX1 : ∀ w ∈ u_ws RX1 TX1 19, w ∈ wsX0_mode := fun w h => List.mem_cons_of_mem _ (u_X1 w h)
  have hlk_92 := hZ.use (w := .fieldLinkNest RX0 92 "LinePair$Controller" "ready" "Z" "LinePair") (by decide +kernel) (a := ([.ref hx, .int 1, .int 2]).toArray)
  have hlk_96 := hZ.use (w := .fieldLinkNest RX0 96 "LinePair$Controller" "byLevels" "Z" "LinePair") (by decide +kernel) (a := ([.ref hx, .int 1, .int 2]).toArray)
  have hlk_99 := hZ.use (w := .fieldLinkNest RX0 99 "LinePair$Controller" "specialMask" "Z" "LinePair") (by decide +kernel) (a := ([.ref hx, .int 1, .int 2]).toArray)
  have hlk_102 := hZ.use (w := .fieldLinkNest RX0 102 "LinePair$Controller" "specialNesting" "Z" "LinePair") (by decide +kernel) (a := ([.ref hx, .int 1, .int 2]).toArray)
  have hlk_105 := hZ.use (w := .fieldLinkNest RX0 105 "LinePair$Controller" "endsAtOnce" "Z" "LinePair") (by decide +kernel) (a := ([.ref hx, .int 1, .int 2]).toArray)
  have hlk_108 := hZ.use (w := .fieldLinkNest RX0 108 "LinePair$Controller" "turnsAtOnce" "Z" "LinePair") (by decide +kernel) (a := ([.ref hx, .int 1, .int 2]).toArray)
  have hlk_111 := hZ.use (w := .fieldLinkNest RX0 111 "LinePair$Controller" "pollWaits" "Z" "LinePair") (by decide +kernel) (a := ([.ref hx, .int 1, .int 2]).toArray)
  have hl := lv_entry ([.ref hx, .int 1, .int 2]) (n := 4) (Nat.le_of_ble_eq_true rfl)
  rw [lg_entry_eq]
  generalize (lg_sl ([.ref hx, .int 1, .int 2]) ++ List.replicate (4 - (lg_sl ([.ref hx, .int 1, .int 2])).length) Slot.unset).toArray = ls at hl ⊢
  have hl : lv_has ls 4 [(0, .ref hx), (1, .int 1), (2, .int 2)] := hl
  refine lv_aload_n hx_ hb dX0_mode_0 rfl (lv_at hl 0 rfl) ?_
  refine lv_iload_n hx_ hb dX0_mode_1 rfl (lv_at hl 1 rfl) ?_
  refine xr_call (st1 := [.ref hh]) (W.runV (As := [.int 1]) (rest := []) ⟨hx_, hb, hml, hown, hts⟩ (c_controllerNumbered_1 l dC dI hx hc hh u0 u1 ea) (cwV 1 hts (gd_V wa_c k_ml_X0_35 k_im_X0_controllerNumbered k_se_X0_controllerNumbered k_in_X0 k_co_X0_controllerNumbered) rfl rfl rfl (by decide +kernel) ⟨Nat.le_of_ble_eq_true rfl, Nat.le_of_ble_eq_true rfl⟩) (xr_preV (q0 := 0) (C := RX0) hK hP hZ rfl rfl) rfl rfl hl.1 rfl (lv_room (Nat.le_of_ble_eq_true rfl)) dX0_mode_2 ⟨Nat.zero_le _, Nat.zero_le _⟩) rfl ?_
  refine lv_astore_n (lv' := [(3, .ref hh), (0, .ref hx), (1, .int 1), (2, .int 2)]) hx_ hb dX0_mode_5 rfl hl (by decide) rfl (fun ls hl => ?_)
  refine lv_iload_n hx_ hb dX0_mode_6 rfl (lv_at hl 3 rfl) ?_
  refine lv_tableIn (tgt := 58) hx_ hb dX0_mode_7 (by decide) (by decide) (by rfl) (by decide) ?_
  refine lv_aload_n hx_ hb dX0_mode_58 rfl (lv_at hl 0 rfl) ?_
  refine va_getN (D := (dC, dI)) (ci := 1) (v := .int (u1 12)) (C := RX1) (T := TX1) (N := 19) hx_ hb hts hin_RX1 hown hK hP 2 rfl rfl 12 (by decide) hlk_99 (fun _ h9 => h9) rfl dX0_mode_59 ?_
  exact xr_zret hx_ hb hr hlocks dX0_mode_62 (lpOk_nar hok1 12 (by decide)) rfl

set_option maxHeartbeats 4000000 in
set_option maxRecDepth 100000 in
theorem c_mode_1_3 (l : Launch) (dC : Nat → ClassId) (dI : Nat → Nat → Nat) (hx hc hh : Nat) (u0 u1 : Nat → Int32) (ea : Int32) (hok1 : lpOk u1) : xr_M l yX0_mode wsX0_mode ({ frames := 1, cells := 0, slots := 0, locals := 21 }) [.ref hx, .int 1, .int 3] (dC, dI) vwCl [] pz (pw hx hc hh (u0, u1, ea)) (some (.int (u1 13))) := by
  refine Met.ofW (cc := cX0_mode) (maxL := 4) (ret := (some .boolean)) (by decide) rfl ?_
  intro p e s m args below meth c s₁ B hml hv
  obtain ⟨rfl, hP, hK, hZ⟩ := hv
  have hx_ := B.exec
  have hb := B.bytes
  have hr := B.returns
  have hts := atoms_spec (ws := wsX0_mode) B.pre
  have hown : s.vm.findClass RX0 = some m.cls := findClass_of_methodNamed B.named
  have hlocks := B.notSynchronized
  have hin_RX1 : ∀ w ∈ u_ws RX1 TX1 19, w ∈ wsX0_mode := fun w h => List.mem_cons_of_mem _ (u_X1 w h)
  have hlk_92 := hZ.use (w := .fieldLinkNest RX0 92 "LinePair$Controller" "ready" "Z" "LinePair") (by decide +kernel) (a := ([.ref hx, .int 1, .int 3]).toArray)
  have hlk_96 := hZ.use (w := .fieldLinkNest RX0 96 "LinePair$Controller" "byLevels" "Z" "LinePair") (by decide +kernel) (a := ([.ref hx, .int 1, .int 3]).toArray)
  have hlk_99 := hZ.use (w := .fieldLinkNest RX0 99 "LinePair$Controller" "specialMask" "Z" "LinePair") (by decide +kernel) (a := ([.ref hx, .int 1, .int 3]).toArray)
  have hlk_102 := hZ.use (w := .fieldLinkNest RX0 102 "LinePair$Controller" "specialNesting" "Z" "LinePair") (by decide +kernel) (a := ([.ref hx, .int 1, .int 3]).toArray)
  have hlk_105 := hZ.use (w := .fieldLinkNest RX0 105 "LinePair$Controller" "endsAtOnce" "Z" "LinePair") (by decide +kernel) (a := ([.ref hx, .int 1, .int 3]).toArray)
  have hlk_108 := hZ.use (w := .fieldLinkNest RX0 108 "LinePair$Controller" "turnsAtOnce" "Z" "LinePair") (by decide +kernel) (a := ([.ref hx, .int 1, .int 3]).toArray)
  have hlk_111 := hZ.use (w := .fieldLinkNest RX0 111 "LinePair$Controller" "pollWaits" "Z" "LinePair") (by decide +kernel) (a := ([.ref hx, .int 1, .int 3]).toArray)
  have hl := lv_entry ([.ref hx, .int 1, .int 3]) (n := 4) (Nat.le_of_ble_eq_true rfl)
  rw [lg_entry_eq]
  generalize (lg_sl ([.ref hx, .int 1, .int 3]) ++ List.replicate (4 - (lg_sl ([.ref hx, .int 1, .int 3])).length) Slot.unset).toArray = ls at hl ⊢
  have hl : lv_has ls 4 [(0, .ref hx), (1, .int 1), (2, .int 3)] := hl
  refine lv_aload_n hx_ hb dX0_mode_0 rfl (lv_at hl 0 rfl) ?_
  refine lv_iload_n hx_ hb dX0_mode_1 rfl (lv_at hl 1 rfl) ?_
  refine xr_call (st1 := [.ref hh]) (W.runV (As := [.int 1]) (rest := []) ⟨hx_, hb, hml, hown, hts⟩ (c_controllerNumbered_1 l dC dI hx hc hh u0 u1 ea) (cwV 1 hts (gd_V wa_c k_ml_X0_35 k_im_X0_controllerNumbered k_se_X0_controllerNumbered k_in_X0 k_co_X0_controllerNumbered) rfl rfl rfl (by decide +kernel) ⟨Nat.le_of_ble_eq_true rfl, Nat.le_of_ble_eq_true rfl⟩) (xr_preV (q0 := 0) (C := RX0) hK hP hZ rfl rfl) rfl rfl hl.1 rfl (lv_room (Nat.le_of_ble_eq_true rfl)) dX0_mode_2 ⟨Nat.zero_le _, Nat.zero_le _⟩) rfl ?_
  refine lv_astore_n (lv' := [(3, .ref hh), (0, .ref hx), (1, .int 1), (2, .int 3)]) hx_ hb dX0_mode_5 rfl hl (by decide) rfl (fun ls hl => ?_)
  refine lv_iload_n hx_ hb dX0_mode_6 rfl (lv_at hl 3 rfl) ?_
  refine lv_tableIn (tgt := 63) hx_ hb dX0_mode_7 (by decide) (by decide) (by rfl) (by decide) ?_
  refine lv_aload_n hx_ hb dX0_mode_63 rfl (lv_at hl 0 rfl) ?_
  refine va_getN (D := (dC, dI)) (ci := 1) (v := .int (u1 13)) (C := RX1) (T := TX1) (N := 19) hx_ hb hts hin_RX1 hown hK hP 2 rfl rfl 13 (by decide) hlk_102 (fun _ h9 => h9) rfl dX0_mode_64 ?_
  exact xr_zret hx_ hb hr hlocks dX0_mode_67 (lpOk_nar hok1 13 (by decide)) rfl

set_option maxHeartbeats 4000000 in
set_option maxRecDepth 100000 in
theorem c_mode_1_4 (l : Launch) (dC : Nat → ClassId) (dI : Nat → Nat → Nat) (hx hc hh : Nat) (u0 u1 : Nat → Int32) (ea : Int32) (hok1 : lpOk u1) : xr_M l yX0_mode wsX0_mode ({ frames := 1, cells := 0, slots := 0, locals := 21 }) [.ref hx, .int 1, .int 4] (dC, dI) vwCl [] pz (pw hx hc hh (u0, u1, ea)) (some (.int (u1 14))) := by
  refine Met.ofW (cc := cX0_mode) (maxL := 4) (ret := (some .boolean)) (by decide) rfl ?_
  intro p e s m args below meth c s₁ B hml hv
  obtain ⟨rfl, hP, hK, hZ⟩ := hv
  have hx_ := B.exec
  have hb := B.bytes
  have hr := B.returns
  have hts := atoms_spec (ws := wsX0_mode) B.pre
  have hown : s.vm.findClass RX0 = some m.cls := findClass_of_methodNamed B.named
  have hlocks := B.notSynchronized
  have hin_RX1 : ∀ w ∈ u_ws RX1 TX1 19, w ∈ wsX0_mode := fun w h => List.mem_cons_of_mem _ (u_X1 w h)
  have hlk_92 := hZ.use (w := .fieldLinkNest RX0 92 "LinePair$Controller" "ready" "Z" "LinePair") (by decide +kernel) (a := ([.ref hx, .int 1, .int 4]).toArray)
  have hlk_96 := hZ.use (w := .fieldLinkNest RX0 96 "LinePair$Controller" "byLevels" "Z" "LinePair") (by decide +kernel) (a := ([.ref hx, .int 1, .int 4]).toArray)
  have hlk_99 := hZ.use (w := .fieldLinkNest RX0 99 "LinePair$Controller" "specialMask" "Z" "LinePair") (by decide +kernel) (a := ([.ref hx, .int 1, .int 4]).toArray)
  have hlk_102 := hZ.use (w := .fieldLinkNest RX0 102 "LinePair$Controller" "specialNesting" "Z" "LinePair") (by decide +kernel) (a := ([.ref hx, .int 1, .int 4]).toArray)
  have hlk_105 := hZ.use (w := .fieldLinkNest RX0 105 "LinePair$Controller" "endsAtOnce" "Z" "LinePair") (by decide +kernel) (a := ([.ref hx, .int 1, .int 4]).toArray)
  have hlk_108 := hZ.use (w := .fieldLinkNest RX0 108 "LinePair$Controller" "turnsAtOnce" "Z" "LinePair") (by decide +kernel) (a := ([.ref hx, .int 1, .int 4]).toArray)
  have hlk_111 := hZ.use (w := .fieldLinkNest RX0 111 "LinePair$Controller" "pollWaits" "Z" "LinePair") (by decide +kernel) (a := ([.ref hx, .int 1, .int 4]).toArray)
  have hl := lv_entry ([.ref hx, .int 1, .int 4]) (n := 4) (Nat.le_of_ble_eq_true rfl)
  rw [lg_entry_eq]
  generalize (lg_sl ([.ref hx, .int 1, .int 4]) ++ List.replicate (4 - (lg_sl ([.ref hx, .int 1, .int 4])).length) Slot.unset).toArray = ls at hl ⊢
  have hl : lv_has ls 4 [(0, .ref hx), (1, .int 1), (2, .int 4)] := hl
  refine lv_aload_n hx_ hb dX0_mode_0 rfl (lv_at hl 0 rfl) ?_
  refine lv_iload_n hx_ hb dX0_mode_1 rfl (lv_at hl 1 rfl) ?_
  refine xr_call (st1 := [.ref hh]) (W.runV (As := [.int 1]) (rest := []) ⟨hx_, hb, hml, hown, hts⟩ (c_controllerNumbered_1 l dC dI hx hc hh u0 u1 ea) (cwV 1 hts (gd_V wa_c k_ml_X0_35 k_im_X0_controllerNumbered k_se_X0_controllerNumbered k_in_X0 k_co_X0_controllerNumbered) rfl rfl rfl (by decide +kernel) ⟨Nat.le_of_ble_eq_true rfl, Nat.le_of_ble_eq_true rfl⟩) (xr_preV (q0 := 0) (C := RX0) hK hP hZ rfl rfl) rfl rfl hl.1 rfl (lv_room (Nat.le_of_ble_eq_true rfl)) dX0_mode_2 ⟨Nat.zero_le _, Nat.zero_le _⟩) rfl ?_
  refine lv_astore_n (lv' := [(3, .ref hh), (0, .ref hx), (1, .int 1), (2, .int 4)]) hx_ hb dX0_mode_5 rfl hl (by decide) rfl (fun ls hl => ?_)
  refine lv_iload_n hx_ hb dX0_mode_6 rfl (lv_at hl 3 rfl) ?_
  refine lv_tableIn (tgt := 68) hx_ hb dX0_mode_7 (by decide) (by decide) (by rfl) (by decide) ?_
  refine lv_aload_n hx_ hb dX0_mode_68 rfl (lv_at hl 0 rfl) ?_
  refine va_getN (D := (dC, dI)) (ci := 1) (v := .int (u1 14)) (C := RX1) (T := TX1) (N := 19) hx_ hb hts hin_RX1 hown hK hP 2 rfl rfl 14 (by decide) hlk_105 (fun _ h9 => h9) rfl dX0_mode_69 ?_
  exact xr_zret hx_ hb hr hlocks dX0_mode_72 (lpOk_nar hok1 14 (by decide)) rfl

set_option maxHeartbeats 4000000 in
set_option maxRecDepth 100000 in
theorem c_mode_1_5 (l : Launch) (dC : Nat → ClassId) (dI : Nat → Nat → Nat) (hx hc hh : Nat) (u0 u1 : Nat → Int32) (ea : Int32) (hok1 : lpOk u1) : xr_M l yX0_mode wsX0_mode ({ frames := 1, cells := 0, slots := 0, locals := 21 }) [.ref hx, .int 1, .int 5] (dC, dI) vwCl [] pz (pw hx hc hh (u0, u1, ea)) (some (.int (u1 15))) := by
  refine Met.ofW (cc := cX0_mode) (maxL := 4) (ret := (some .boolean)) (by decide) rfl ?_
  intro p e s m args below meth c s₁ B hml hv
  obtain ⟨rfl, hP, hK, hZ⟩ := hv
  have hx_ := B.exec
  have hb := B.bytes
  have hr := B.returns
  have hts := atoms_spec (ws := wsX0_mode) B.pre
  have hown : s.vm.findClass RX0 = some m.cls := findClass_of_methodNamed B.named
  have hlocks := B.notSynchronized
  have hin_RX1 : ∀ w ∈ u_ws RX1 TX1 19, w ∈ wsX0_mode := fun w h => List.mem_cons_of_mem _ (u_X1 w h)
  have hlk_92 := hZ.use (w := .fieldLinkNest RX0 92 "LinePair$Controller" "ready" "Z" "LinePair") (by decide +kernel) (a := ([.ref hx, .int 1, .int 5]).toArray)
  have hlk_96 := hZ.use (w := .fieldLinkNest RX0 96 "LinePair$Controller" "byLevels" "Z" "LinePair") (by decide +kernel) (a := ([.ref hx, .int 1, .int 5]).toArray)
  have hlk_99 := hZ.use (w := .fieldLinkNest RX0 99 "LinePair$Controller" "specialMask" "Z" "LinePair") (by decide +kernel) (a := ([.ref hx, .int 1, .int 5]).toArray)
  have hlk_102 := hZ.use (w := .fieldLinkNest RX0 102 "LinePair$Controller" "specialNesting" "Z" "LinePair") (by decide +kernel) (a := ([.ref hx, .int 1, .int 5]).toArray)
  have hlk_105 := hZ.use (w := .fieldLinkNest RX0 105 "LinePair$Controller" "endsAtOnce" "Z" "LinePair") (by decide +kernel) (a := ([.ref hx, .int 1, .int 5]).toArray)
  have hlk_108 := hZ.use (w := .fieldLinkNest RX0 108 "LinePair$Controller" "turnsAtOnce" "Z" "LinePair") (by decide +kernel) (a := ([.ref hx, .int 1, .int 5]).toArray)
  have hlk_111 := hZ.use (w := .fieldLinkNest RX0 111 "LinePair$Controller" "pollWaits" "Z" "LinePair") (by decide +kernel) (a := ([.ref hx, .int 1, .int 5]).toArray)
  have hl := lv_entry ([.ref hx, .int 1, .int 5]) (n := 4) (Nat.le_of_ble_eq_true rfl)
  rw [lg_entry_eq]
  generalize (lg_sl ([.ref hx, .int 1, .int 5]) ++ List.replicate (4 - (lg_sl ([.ref hx, .int 1, .int 5])).length) Slot.unset).toArray = ls at hl ⊢
  have hl : lv_has ls 4 [(0, .ref hx), (1, .int 1), (2, .int 5)] := hl
  refine lv_aload_n hx_ hb dX0_mode_0 rfl (lv_at hl 0 rfl) ?_
  refine lv_iload_n hx_ hb dX0_mode_1 rfl (lv_at hl 1 rfl) ?_
  refine xr_call (st1 := [.ref hh]) (W.runV (As := [.int 1]) (rest := []) ⟨hx_, hb, hml, hown, hts⟩ (c_controllerNumbered_1 l dC dI hx hc hh u0 u1 ea) (cwV 1 hts (gd_V wa_c k_ml_X0_35 k_im_X0_controllerNumbered k_se_X0_controllerNumbered k_in_X0 k_co_X0_controllerNumbered) rfl rfl rfl (by decide +kernel) ⟨Nat.le_of_ble_eq_true rfl, Nat.le_of_ble_eq_true rfl⟩) (xr_preV (q0 := 0) (C := RX0) hK hP hZ rfl rfl) rfl rfl hl.1 rfl (lv_room (Nat.le_of_ble_eq_true rfl)) dX0_mode_2 ⟨Nat.zero_le _, Nat.zero_le _⟩) rfl ?_
  refine lv_astore_n (lv' := [(3, .ref hh), (0, .ref hx), (1, .int 1), (2, .int 5)]) hx_ hb dX0_mode_5 rfl hl (by decide) rfl (fun ls hl => ?_)
  refine lv_iload_n hx_ hb dX0_mode_6 rfl (lv_at hl 3 rfl) ?_
  refine lv_tableIn (tgt := 73) hx_ hb dX0_mode_7 (by decide) (by decide) (by rfl) (by decide) ?_
  refine lv_aload_n hx_ hb dX0_mode_73 rfl (lv_at hl 0 rfl) ?_
  refine va_getN (D := (dC, dI)) (ci := 1) (v := .int (u1 15)) (C := RX1) (T := TX1) (N := 19) hx_ hb hts hin_RX1 hown hK hP 2 rfl rfl 15 (by decide) hlk_108 (fun _ h9 => h9) rfl dX0_mode_74 ?_
  exact xr_zret hx_ hb hr hlocks dX0_mode_77 (lpOk_nar hok1 15 (by decide)) rfl

set_option maxHeartbeats 4000000 in
set_option maxRecDepth 100000 in
theorem c_mode_1_6 (l : Launch) (dC : Nat → ClassId) (dI : Nat → Nat → Nat) (hx hc hh : Nat) (u0 u1 : Nat → Int32) (ea : Int32) (hok1 : lpOk u1) : xr_M l yX0_mode wsX0_mode ({ frames := 1, cells := 0, slots := 0, locals := 21 }) [.ref hx, .int 1, .int 6] (dC, dI) vwCl [] pz (pw hx hc hh (u0, u1, ea)) (some (.int (u1 16))) := by
  refine Met.ofW (cc := cX0_mode) (maxL := 4) (ret := (some .boolean)) (by decide) rfl ?_
  intro p e s m args below meth c s₁ B hml hv
  obtain ⟨rfl, hP, hK, hZ⟩ := hv
  have hx_ := B.exec
  have hb := B.bytes
  have hr := B.returns
  have hts := atoms_spec (ws := wsX0_mode) B.pre
  have hown : s.vm.findClass RX0 = some m.cls := findClass_of_methodNamed B.named
  have hlocks := B.notSynchronized
  have hin_RX1 : ∀ w ∈ u_ws RX1 TX1 19, w ∈ wsX0_mode := fun w h => List.mem_cons_of_mem _ (u_X1 w h)
  have hlk_92 := hZ.use (w := .fieldLinkNest RX0 92 "LinePair$Controller" "ready" "Z" "LinePair") (by decide +kernel) (a := ([.ref hx, .int 1, .int 6]).toArray)
  have hlk_96 := hZ.use (w := .fieldLinkNest RX0 96 "LinePair$Controller" "byLevels" "Z" "LinePair") (by decide +kernel) (a := ([.ref hx, .int 1, .int 6]).toArray)
  have hlk_99 := hZ.use (w := .fieldLinkNest RX0 99 "LinePair$Controller" "specialMask" "Z" "LinePair") (by decide +kernel) (a := ([.ref hx, .int 1, .int 6]).toArray)
  have hlk_102 := hZ.use (w := .fieldLinkNest RX0 102 "LinePair$Controller" "specialNesting" "Z" "LinePair") (by decide +kernel) (a := ([.ref hx, .int 1, .int 6]).toArray)
  have hlk_105 := hZ.use (w := .fieldLinkNest RX0 105 "LinePair$Controller" "endsAtOnce" "Z" "LinePair") (by decide +kernel) (a := ([.ref hx, .int 1, .int 6]).toArray)
  have hlk_108 := hZ.use (w := .fieldLinkNest RX0 108 "LinePair$Controller" "turnsAtOnce" "Z" "LinePair") (by decide +kernel) (a := ([.ref hx, .int 1, .int 6]).toArray)
  have hlk_111 := hZ.use (w := .fieldLinkNest RX0 111 "LinePair$Controller" "pollWaits" "Z" "LinePair") (by decide +kernel) (a := ([.ref hx, .int 1, .int 6]).toArray)
  have hl := lv_entry ([.ref hx, .int 1, .int 6]) (n := 4) (Nat.le_of_ble_eq_true rfl)
  rw [lg_entry_eq]
  generalize (lg_sl ([.ref hx, .int 1, .int 6]) ++ List.replicate (4 - (lg_sl ([.ref hx, .int 1, .int 6])).length) Slot.unset).toArray = ls at hl ⊢
  have hl : lv_has ls 4 [(0, .ref hx), (1, .int 1), (2, .int 6)] := hl
  refine lv_aload_n hx_ hb dX0_mode_0 rfl (lv_at hl 0 rfl) ?_
  refine lv_iload_n hx_ hb dX0_mode_1 rfl (lv_at hl 1 rfl) ?_
  refine xr_call (st1 := [.ref hh]) (W.runV (As := [.int 1]) (rest := []) ⟨hx_, hb, hml, hown, hts⟩ (c_controllerNumbered_1 l dC dI hx hc hh u0 u1 ea) (cwV 1 hts (gd_V wa_c k_ml_X0_35 k_im_X0_controllerNumbered k_se_X0_controllerNumbered k_in_X0 k_co_X0_controllerNumbered) rfl rfl rfl (by decide +kernel) ⟨Nat.le_of_ble_eq_true rfl, Nat.le_of_ble_eq_true rfl⟩) (xr_preV (q0 := 0) (C := RX0) hK hP hZ rfl rfl) rfl rfl hl.1 rfl (lv_room (Nat.le_of_ble_eq_true rfl)) dX0_mode_2 ⟨Nat.zero_le _, Nat.zero_le _⟩) rfl ?_
  refine lv_astore_n (lv' := [(3, .ref hh), (0, .ref hx), (1, .int 1), (2, .int 6)]) hx_ hb dX0_mode_5 rfl hl (by decide) rfl (fun ls hl => ?_)
  refine lv_iload_n hx_ hb dX0_mode_6 rfl (lv_at hl 3 rfl) ?_
  refine lv_tableIn (tgt := 78) hx_ hb dX0_mode_7 (by decide) (by decide) (by rfl) (by decide) ?_
  refine lv_aload_n hx_ hb dX0_mode_78 rfl (lv_at hl 0 rfl) ?_
  refine va_getN (D := (dC, dI)) (ci := 1) (v := .int (u1 16)) (C := RX1) (T := TX1) (N := 19) hx_ hb hts hin_RX1 hown hK hP 2 rfl rfl 16 (by decide) hlk_111 (fun _ h9 => h9) rfl dX0_mode_79 ?_
  exact xr_zret hx_ hb hr hlocks dX0_mode_82 (lpOk_nar hok1 16 (by decide)) rfl

set_option maxHeartbeats 4000000 in
set_option maxRecDepth 100000 in
theorem c_count_0 (l : Launch) (dC : Nat → ClassId) (dI : Nat → Nat → Nat) (hx hc hh : Nat) (u0 u1 : Nat → Int32) (ea : Int32) : xr_M l yX0_count wsX0_count ({ frames := 0, cells := 0, slots := 0, locals := 0 }) [.ref hx, .int 0] (dC, dI) vwCl [] pz (pw hx hc hh (u0, u1, ea)) (some (.int (u0 17 + u1 17))) := by
  refine Met.ofW (cc := cX0_count) (maxL := 2) (ret := (some .int)) (by decide) rfl ?_
  intro p e s m args below meth c s₁ B hml hv
  obtain ⟨rfl, hP, hK, hZ⟩ := hv
  have hx_ := B.exec
  have hb := B.bytes
  have hr := B.returns
  have hts := atoms_spec (ws := wsX0_count) B.pre
  have hown : s.vm.findClass RX0 = some m.cls := findClass_of_methodNamed B.named
  have hlocks := B.notSynchronized
  have hin_RX0 : ∀ w ∈ u_ws RX0 TX0 3, w ∈ wsX0_count := fun w h => List.mem_cons_of_mem _ (u_X0 w h)
  have hin_RX1 : ∀ w ∈ u_ws RX1 TX1 19, w ∈ wsX0_count := fun w h => List.mem_cons_of_mem _ (u_X1 w h)
  have hlk_14 := hts _ (List.mem_cons_of_mem _ k_fl_X0_14)
  have hlk_18 := hts _ (List.mem_cons_of_mem _ k_fl_X0_18)
  have hlk_21 := hts _ (List.mem_cons_of_mem _ k_fl_X0_21)
  have hlk_114 := hZ.use (w := .fieldLinkNest RX0 114 "LinePair$Controller" "takenLines" "I" "LinePair") (by decide +kernel) (a := ([.ref hx, .int 0]).toArray)
  have hlk_117 := hZ.use (w := .fieldLinkNest RX0 117 "LinePair$Controller" "endedLines" "I" "LinePair") (by decide +kernel) (a := ([.ref hx, .int 0]).toArray)
  have hl := lv_entry ([.ref hx, .int 0]) (n := 2) (Nat.le_of_ble_eq_true rfl)
  rw [lg_entry_eq]
  generalize (lg_sl ([.ref hx, .int 0]) ++ List.replicate (2 - (lg_sl ([.ref hx, .int 0])).length) Slot.unset).toArray = ls at hl ⊢
  have hl : lv_has ls 2 [(0, .ref hx), (1, .int 0)] := hl
  refine lv_iload_n hx_ hb dX0_count_0 rfl (lv_at hl 1 rfl) ?_
  refine lv_tableIn (tgt := 28) hx_ hb dX0_count_1 (by decide) (by decide) (by rfl) (by decide) ?_
  refine lv_aload_n hx_ hb dX0_count_28 rfl (lv_at hl 0 rfl) ?_
  refine va_get (D := (dC, dI)) (ci := 0) (v := .ref hc) (C := RX0) (T := TX0) (N := 3) hx_ hb hts hin_RX0 hown hK hP 0 rfl rfl 0 (by decide) hlk_14 (fun _ h9 => h9) rfl dX0_count_29 ?_
  refine va_getN (D := (dC, dI)) (ci := 1) (v := .int (u0 17)) (C := RX1) (T := TX1) (N := 19) hx_ hb hts hin_RX1 hown hK hP 1 rfl rfl 17 (by decide) hlk_114 (fun _ h9 => h9) rfl dX0_count_32 ?_
  refine lv_aload_n hx_ hb dX0_count_35 rfl (lv_at hl 0 rfl) ?_
  refine va_get (D := (dC, dI)) (ci := 0) (v := .ref hh) (C := RX0) (T := TX0) (N := 3) hx_ hb hts hin_RX0 hown hK hP 0 rfl rfl 1 (by decide) hlk_18 (fun _ h9 => h9) rfl dX0_count_36 ?_
  refine va_getN (D := (dC, dI)) (ci := 1) (v := .int (u1 17)) (C := RX1) (T := TX1) (N := 19) hx_ hb hts hin_RX1 hown hK hP 2 rfl rfl 17 (by decide) hlk_114 (fun _ h9 => h9) rfl dX0_count_39 ?_
  refine lv_iadd hx_ hb dX0_count_42 ?_
  exact xr_iret hx_ hb hr hlocks dX0_count_43 rfl

set_option maxHeartbeats 4000000 in
set_option maxRecDepth 100000 in
theorem c_count_1 (l : Launch) (dC : Nat → ClassId) (dI : Nat → Nat → Nat) (hx hc hh : Nat) (u0 u1 : Nat → Int32) (ea : Int32) : xr_M l yX0_count wsX0_count ({ frames := 0, cells := 0, slots := 0, locals := 0 }) [.ref hx, .int 1] (dC, dI) vwCl [] pz (pw hx hc hh (u0, u1, ea)) (some (.int ea)) := by
  refine Met.ofW (cc := cX0_count) (maxL := 2) (ret := (some .int)) (by decide) rfl ?_
  intro p e s m args below meth c s₁ B hml hv
  obtain ⟨rfl, hP, hK, hZ⟩ := hv
  have hx_ := B.exec
  have hb := B.bytes
  have hr := B.returns
  have hts := atoms_spec (ws := wsX0_count) B.pre
  have hown : s.vm.findClass RX0 = some m.cls := findClass_of_methodNamed B.named
  have hlocks := B.notSynchronized
  have hin_RX0 : ∀ w ∈ u_ws RX0 TX0 3, w ∈ wsX0_count := fun w h => List.mem_cons_of_mem _ (u_X0 w h)
  have hin_RX1 : ∀ w ∈ u_ws RX1 TX1 19, w ∈ wsX0_count := fun w h => List.mem_cons_of_mem _ (u_X1 w h)
  have hlk_14 := hts _ (List.mem_cons_of_mem _ k_fl_X0_14)
  have hlk_18 := hts _ (List.mem_cons_of_mem _ k_fl_X0_18)
  have hlk_21 := hts _ (List.mem_cons_of_mem _ k_fl_X0_21)
  have hlk_114 := hZ.use (w := .fieldLinkNest RX0 114 "LinePair$Controller" "takenLines" "I" "LinePair") (by decide +kernel) (a := ([.ref hx, .int 1]).toArray)
  have hlk_117 := hZ.use (w := .fieldLinkNest RX0 117 "LinePair$Controller" "endedLines" "I" "LinePair") (by decide +kernel) (a := ([.ref hx, .int 1]).toArray)
  have hl := lv_entry ([.ref hx, .int 1]) (n := 2) (Nat.le_of_ble_eq_true rfl)
  rw [lg_entry_eq]
  generalize (lg_sl ([.ref hx, .int 1]) ++ List.replicate (2 - (lg_sl ([.ref hx, .int 1])).length) Slot.unset).toArray = ls at hl ⊢
  have hl : lv_has ls 2 [(0, .ref hx), (1, .int 1)] := hl
  refine lv_iload_n hx_ hb dX0_count_0 rfl (lv_at hl 1 rfl) ?_
  refine lv_tableIn (tgt := 44) hx_ hb dX0_count_1 (by decide) (by decide) (by rfl) (by decide) ?_
  refine lv_aload_n hx_ hb dX0_count_44 rfl (lv_at hl 0 rfl) ?_
  refine va_get (D := (dC, dI)) (ci := 0) (v := .int ea) (C := RX0) (T := TX0) (N := 3) hx_ hb hts hin_RX0 hown hK hP 0 rfl rfl 2 (by decide) hlk_21 (fun _ h9 => h9) rfl dX0_count_45 ?_
  exact xr_iret hx_ hb hr hlocks dX0_count_48 rfl

set_option maxHeartbeats 4000000 in
set_option maxRecDepth 100000 in
theorem c_count_2 (l : Launch) (dC : Nat → ClassId) (dI : Nat → Nat → Nat) (hx hc hh : Nat) (u0 u1 : Nat → Int32) (ea : Int32) : xr_M l yX0_count wsX0_count ({ frames := 0, cells := 0, slots := 0, locals := 0 }) [.ref hx, .int 2] (dC, dI) vwCl [] pz (pw hx hc hh (u0, u1, ea)) (some (.int (u0 18 + u1 18))) := by
  refine Met.ofW (cc := cX0_count) (maxL := 2) (ret := (some .int)) (by decide) rfl ?_
  intro p e s m args below meth c s₁ B hml hv
  obtain ⟨rfl, hP, hK, hZ⟩ := hv
  have hx_ := B.exec
  have hb := B.bytes
  have hr := B.returns
  have hts := atoms_spec (ws := wsX0_count) B.pre
  have hown : s.vm.findClass RX0 = some m.cls := findClass_of_methodNamed B.named
  have hlocks := B.notSynchronized
  have hin_RX0 : ∀ w ∈ u_ws RX0 TX0 3, w ∈ wsX0_count := fun w h => List.mem_cons_of_mem _ (u_X0 w h)
  have hin_RX1 : ∀ w ∈ u_ws RX1 TX1 19, w ∈ wsX0_count := fun w h => List.mem_cons_of_mem _ (u_X1 w h)
  have hlk_14 := hts _ (List.mem_cons_of_mem _ k_fl_X0_14)
  have hlk_18 := hts _ (List.mem_cons_of_mem _ k_fl_X0_18)
  have hlk_21 := hts _ (List.mem_cons_of_mem _ k_fl_X0_21)
  have hlk_114 := hZ.use (w := .fieldLinkNest RX0 114 "LinePair$Controller" "takenLines" "I" "LinePair") (by decide +kernel) (a := ([.ref hx, .int 2]).toArray)
  have hlk_117 := hZ.use (w := .fieldLinkNest RX0 117 "LinePair$Controller" "endedLines" "I" "LinePair") (by decide +kernel) (a := ([.ref hx, .int 2]).toArray)
  have hl := lv_entry ([.ref hx, .int 2]) (n := 2) (Nat.le_of_ble_eq_true rfl)
  rw [lg_entry_eq]
  generalize (lg_sl ([.ref hx, .int 2]) ++ List.replicate (2 - (lg_sl ([.ref hx, .int 2])).length) Slot.unset).toArray = ls at hl ⊢
  have hl : lv_has ls 2 [(0, .ref hx), (1, .int 2)] := hl
  refine lv_iload_n hx_ hb dX0_count_0 rfl (lv_at hl 1 rfl) ?_
  refine lv_tableIn (tgt := 49) hx_ hb dX0_count_1 (by decide) (by decide) (by rfl) (by decide) ?_
  refine lv_aload_n hx_ hb dX0_count_49 rfl (lv_at hl 0 rfl) ?_
  refine va_get (D := (dC, dI)) (ci := 0) (v := .ref hc) (C := RX0) (T := TX0) (N := 3) hx_ hb hts hin_RX0 hown hK hP 0 rfl rfl 0 (by decide) hlk_14 (fun _ h9 => h9) rfl dX0_count_50 ?_
  refine va_getN (D := (dC, dI)) (ci := 1) (v := .int (u0 18)) (C := RX1) (T := TX1) (N := 19) hx_ hb hts hin_RX1 hown hK hP 1 rfl rfl 18 (by decide) hlk_117 (fun _ h9 => h9) rfl dX0_count_53 ?_
  refine lv_aload_n hx_ hb dX0_count_56 rfl (lv_at hl 0 rfl) ?_
  refine va_get (D := (dC, dI)) (ci := 0) (v := .ref hh) (C := RX0) (T := TX0) (N := 3) hx_ hb hts hin_RX0 hown hK hP 0 rfl rfl 1 (by decide) hlk_18 (fun _ h9 => h9) rfl dX0_count_57 ?_
  refine va_getN (D := (dC, dI)) (ci := 1) (v := .int (u1 18)) (C := RX1) (T := TX1) (N := 19) hx_ hb hts hin_RX1 hown hK hP 2 rfl rfl 18 (by decide) hlk_117 (fun _ h9 => h9) rfl dX0_count_60 ?_
  refine lv_iadd hx_ hb dX0_count_63 ?_
  exact xr_iret hx_ hb hr hlocks dX0_count_64 rfl
