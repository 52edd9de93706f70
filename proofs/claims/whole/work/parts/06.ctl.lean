abbrev cw1 (h : Nat) (u : Nat → Int32) : va_W := [(h, .inr (1, lpF u))]

set_option maxHeartbeats 4000000 in
set_option maxRecDepth 100000 in
theorem c_hasBit (l : Launch) (dC : Nat → ClassId) (dI : Nat → Nat → Nat) (x k : Int32) : xr_M l yX1_hasBit wsX1_hasBit ({ frames := 0, cells := 0, slots := 0, locals := 0 }) [.int x, .int k] (dC, dI) vwCl [] [] ([]) (some (.int (lpHas x k))) := by
  refine Met.ofW (cc := cX1_hasBit) (maxL := 2) (ret := (some .boolean)) (by decide) rfl ?_
  intro p e s m args below meth c s₁ B hml hv
  obtain ⟨rfl, hP, hK, hZ⟩ := hv
  have hx := B.exec
  have hb := B.bytes
  have hr := B.returns
  have hts := atoms_spec (ws := wsX1_hasBit) B.pre
  have hown : s.vm.findClass RX1 = some m.cls := findClass_of_methodNamed B.named
  have hlocks := B.notSynchronized
  have hl := lv_entry ([.int x, .int k]) (n := 2) (Nat.le_of_ble_eq_true rfl)
  rw [lg_entry_eq]
  generalize (lg_sl ([.int x, .int k]) ++ List.replicate (2 - (lg_sl ([.int x, .int k])).length) Slot.unset).toArray = ls at hl ⊢
  have hl : lv_has ls 2 [(0, .int x), (1, .int k)] := hl
  refine lv_iload_n hx hb dX1_hasBit_0 rfl (lv_at hl 0 rfl) ?_
  refine lv_iload_n hx hb dX1_hasBit_1 rfl (lv_at hl 1 rfl) ?_
  refine lv_ishr hx hb dX1_hasBit_2 ?_
  refine lv_iconst (v := 1) hx hb dX1_hasBit_3 (by decide) ?_
  refine lv_iand hx hb dX1_hasBit_4 ?_
  refine lv_if_eq (tgt := 12) hx hb dX1_hasBit_5 (by decide) (fun h1 => ?_) (fun h1 => ?_)
  · refine lv_iconst (v := 0) hx hb dX1_hasBit_12 (by decide) ?_
    exact xr_zret hx hb hr hlocks dX1_hasBit_13 rfl (by first | (simp only [lpHas, if_pos h1, if_neg (not_not_intro h1)]; done) | rfl | (simp only [lpHas]; simp only [if_pos h1, if_neg (not_not_intro h1)]; done) | (simp_all [lpHas]; done))
  · refine lv_iconst (v := 1) hx hb dX1_hasBit_8 (by decide) ?_
    refine lv_goto (tgt := 13) hx hb dX1_hasBit_9 (by decide) ?_
    exact xr_zret hx hb hr hlocks dX1_hasBit_13 rfl (by first | (simp only [lpHas, if_neg h1, if_pos h1]; done) | rfl | (simp only [lpHas]; simp only [if_neg h1, if_pos h1]; done) | (simp_all [lpHas]; done))

set_option maxHeartbeats 4000000 in
set_option maxRecDepth 100000 in
theorem c_without (l : Launch) (dC : Nat → ClassId) (dI : Nat → Nat → Nat) (x k : Int32) : xr_M l yX1_without wsX1_without ({ frames := 0, cells := 0, slots := 0, locals := 0 }) [.int x, .int k] (dC, dI) vwCl [] [] ([]) (some (.int (lpWo x k))) := by
  refine Met.ofW (cc := cX1_without) (maxL := 2) (ret := (some .int)) (by decide) rfl ?_
  intro p e s m args below meth c s₁ B hml hv
  obtain ⟨rfl, hP, hK, hZ⟩ := hv
  have hx := B.exec
  have hb := B.bytes
  have hr := B.returns
  have hts := atoms_spec (ws := wsX1_without) B.pre
  have hown : s.vm.findClass RX1 = some m.cls := findClass_of_methodNamed B.named
  have hlocks := B.notSynchronized
  have hl := lv_entry ([.int x, .int k]) (n := 2) (Nat.le_of_ble_eq_true rfl)
  rw [lg_entry_eq]
  generalize (lg_sl ([.int x, .int k]) ++ List.replicate (2 - (lg_sl ([.int x, .int k])).length) Slot.unset).toArray = ls at hl ⊢
  have hl : lv_has ls 2 [(0, .int x), (1, .int k)] := hl
  refine lv_iload_n hx hb dX1_without_0 rfl (lv_at hl 0 rfl) ?_
  refine lv_iconst (v := 1) hx hb dX1_without_1 (by decide) ?_
  refine lv_iload_n hx hb dX1_without_2 rfl (lv_at hl 1 rfl) ?_
  refine lv_ishl hx hb dX1_without_3 ?_
  refine lv_iconst (v := -1) hx hb dX1_without_4 (by decide) ?_
  refine lv_ixor hx hb dX1_without_5 ?_
  refine lv_iand hx hb dX1_without_6 ?_
  exact xr_iret hx hb hr hlocks dX1_without_7 (by first | (simp only [lpWo]; done) | rfl | (simp_all [lpWo]; done))

set_option maxHeartbeats 4000000 in
set_option maxRecDepth 100000 in
theorem c_requested (l : Launch) (dC : Nat → ClassId) (dI : Nat → Nat → Nat) (h : Nat) (u : Nat → Int32) : xr_M l yX1_requested wsX1_requested ({ frames := 0, cells := 0, slots := 0, locals := 0 }) [.ref h] (dC, dI) vwCl [] [] (cw1 h u) (some (.int (lpReq u))) := by
  refine Met.ofW (cc := cX1_requested) (maxL := 1) (ret := (some .int)) (by decide) rfl ?_
  intro p e s m args below meth c s₁ B hml hv
  obtain ⟨rfl, hP, hK, hZ⟩ := hv
  have hx := B.exec
  have hb := B.bytes
  have hr := B.returns
  have hts := atoms_spec (ws := wsX1_requested) B.pre
  have hown : s.vm.findClass RX1 = some m.cls := findClass_of_methodNamed B.named
  have hlocks := B.notSynchronized
  have hin_RX1 : ∀ w ∈ u_ws RX1 TX1 19, w ∈ wsX1_requested := fun w h => List.mem_cons_of_mem _ (u_X1 w h)
  have hlk_18 := hts _ (List.mem_cons_of_mem _ k_fl_X1_18)
  have hlk_25 := hts _ (List.mem_cons_of_mem _ k_fl_X1_25)
  have hlk_32 := hts _ (List.mem_cons_of_mem _ k_fl_X1_32)
  have hl := lv_entry ([.ref h]) (n := 1) (Nat.le_of_ble_eq_true rfl)
  rw [lg_entry_eq]
  generalize (lg_sl ([.ref h]) ++ List.replicate (1 - (lg_sl ([.ref h])).length) Slot.unset).toArray = ls at hl ⊢
  have hl : lv_has ls 1 [(0, .ref h)] := hl
  refine lv_aload_n hx hb dX1_requested_0 rfl (lv_at hl 0 rfl) ?_
  refine va_get (D := (dC, dI)) (ci := 1) (v := .int (u 11)) (C := RX1) (T := TX1) (N := 19) hx hb hts hin_RX1 hown hK hP 0 rfl rfl 11 (by decide) hlk_32 (fun _ h9 => h9) rfl dX1_requested_1 ?_
  refine lv_if_eq (tgt := 14) hx hb dX1_requested_4 (by decide) (fun h1 => ?_) (fun h1 => ?_)
  · refine lv_aload_n hx hb dX1_requested_14 rfl (lv_at hl 0 rfl) ?_
    refine va_get (D := (dC, dI)) (ci := 1) (v := .int (u 2)) (C := RX1) (T := TX1) (N := 19) hx hb hts hin_RX1 hown hK hP 0 rfl rfl 2 (by decide) hlk_25 (fun _ h9 => h9) rfl dX1_requested_15 ?_
    exact xr_iret hx hb hr hlocks dX1_requested_18 (by first | (simp only [lpReq, if_pos h1, if_neg (not_not_intro h1)]; done) | rfl | (simp only [lpReq]; simp only [if_pos h1, if_neg (not_not_intro h1)]; done) | (simp_all [lpReq]; done))
  · refine lv_aload_n hx hb dX1_requested_7 rfl (lv_at hl 0 rfl) ?_
    refine va_get (D := (dC, dI)) (ci := 1) (v := .int (u 1)) (C := RX1) (T := TX1) (N := 19) hx hb hts hin_RX1 hown hK hP 0 rfl rfl 1 (by decide) hlk_18 (fun _ h9 => h9) rfl dX1_requested_8 ?_
    refine lv_goto (tgt := 18) hx hb dX1_requested_11 (by decide) ?_
    exact xr_iret hx hb hr hlocks dX1_requested_18 (by first | (simp only [lpReq, if_neg h1, if_pos h1]; done) | rfl | (simp only [lpReq]; simp only [if_neg h1, if_pos h1]; done) | (simp_all [lpReq]; done))

set_option maxHeartbeats 4000000 in
set_option maxRecDepth 100000 in
theorem c_inServiceThatCounts (l : Launch) (dC : Nat → ClassId) (dI : Nat → Nat → Nat) (h : Nat) (u : Nat → Int32) : xr_M l yX1_inServiceThatCounts wsX1_inServiceThatCounts ({ frames := 0, cells := 0, slots := 0, locals := 0 }) [.ref h] (dC, dI) vwCl [] [] (cw1 h u) (some (.int (lpIsc u))) := by
  refine Met.ofW (cc := cX1_inServiceThatCounts) (maxL := 1) (ret := (some .int)) (by decide) rfl ?_
  intro p e s m args below meth c s₁ B hml hv
  obtain ⟨rfl, hP, hK, hZ⟩ := hv
  have hx := B.exec
  have hb := B.bytes
  have hr := B.returns
  have hts := atoms_spec (ws := wsX1_inServiceThatCounts) B.pre
  have hown : s.vm.findClass RX1 = some m.cls := findClass_of_methodNamed B.named
  have hlocks := B.notSynchronized
  have hin_RX1 : ∀ w ∈ u_ws RX1 TX1 19, w ∈ wsX1_inServiceThatCounts := fun w h => List.mem_cons_of_mem _ (u_X1 w h)
  have hlk_43 := hts _ (List.mem_cons_of_mem _ k_fl_X1_43)
  have hlk_62 := hts _ (List.mem_cons_of_mem _ k_fl_X1_62)
  have hlk_65 := hts _ (List.mem_cons_of_mem _ k_fl_X1_65)
  have hl := lv_entry ([.ref h]) (n := 1) (Nat.le_of_ble_eq_true rfl)
  rw [lg_entry_eq]
  generalize (lg_sl ([.ref h]) ++ List.replicate (1 - (lg_sl ([.ref h])).length) Slot.unset).toArray = ls at hl ⊢
  have hl : lv_has ls 1 [(0, .ref h)] := hl
  refine lv_aload_n hx hb dX1_inServiceThatCounts_0 rfl (lv_at hl 0 rfl) ?_
  refine va_get (D := (dC, dI)) (ci := 1) (v := .int (u 12)) (C := RX1) (T := TX1) (N := 19) hx hb hts hin_RX1 hown hK hP 0 rfl rfl 12 (by decide) hlk_62 (fun _ h9 => h9) rfl dX1_inServiceThatCounts_1 ?_
  refine lv_if_eq (tgt := 21) hx hb dX1_inServiceThatCounts_4 (by decide) (fun h1 => ?_) (fun h1 => ?_)
  · refine lv_aload_n hx hb dX1_inServiceThatCounts_21 rfl (lv_at hl 0 rfl) ?_
    refine va_get (D := (dC, dI)) (ci := 1) (v := .int (u 3)) (C := RX1) (T := TX1) (N := 19) hx hb hts hin_RX1 hown hK hP 0 rfl rfl 3 (by decide) hlk_65 (fun _ h9 => h9) rfl dX1_inServiceThatCounts_22 ?_
    exact xr_iret hx hb hr hlocks dX1_inServiceThatCounts_25 (by first | (simp only [lpIsc, if_pos h1, if_neg (not_not_intro h1)]; done) | rfl | (simp only [lpIsc]; simp only [if_pos h1, if_neg (not_not_intro h1)]; done) | (simp_all [lpIsc]; done))
  · refine lv_aload_n hx hb dX1_inServiceThatCounts_7 rfl (lv_at hl 0 rfl) ?_
    refine va_get (D := (dC, dI)) (ci := 1) (v := .int (u 3)) (C := RX1) (T := TX1) (N := 19) hx hb hts hin_RX1 hown hK hP 0 rfl rfl 3 (by decide) hlk_65 (fun _ h9 => h9) rfl dX1_inServiceThatCounts_8 ?_
    refine lv_aload_n hx hb dX1_inServiceThatCounts_11 rfl (lv_at hl 0 rfl) ?_
    refine va_get (D := (dC, dI)) (ci := 1) (v := .int (u 4)) (C := RX1) (T := TX1) (N := 19) hx hb hts hin_RX1 hown hK hP 0 rfl rfl 4 (by decide) hlk_43 (fun _ h9 => h9) rfl dX1_inServiceThatCounts_12 ?_
    refine lv_iconst (v := -1) hx hb dX1_inServiceThatCounts_15 (by decide) ?_
    refine lv_ixor hx hb dX1_inServiceThatCounts_16 ?_
    refine lv_iand hx hb dX1_inServiceThatCounts_17 ?_
    refine lv_goto (tgt := 25) hx hb dX1_inServiceThatCounts_18 (by decide) ?_
    exact xr_iret hx hb hr hlocks dX1_inServiceThatCounts_25 (by first | (simp only [lpIsc, if_neg h1, if_pos h1]; done) | rfl | (simp only [lpIsc]; simp only [if_neg h1, if_pos h1]; done) | (simp_all [lpIsc]; done))

set_option maxHeartbeats 4000000 in
set_option maxRecDepth 100000 in
theorem c_rankOf (l : Launch) (dC : Nat → ClassId) (dI : Nat → Nat → Nat) (h : Nat) (u : Nat → Int32) (k : Int32) : xr_M l yX1_rankOf wsX1_rankOf ({ frames := 0, cells := 0, slots := 0, locals := 0 }) [.ref h, .int k] (dC, dI) vwCl [] [] (cw1 h u) (some (.int (lpRank u k))) := by
  refine Met.ofW (cc := cX1_rankOf) (maxL := 2) (ret := (some .int)) (by decide) rfl ?_
  intro p e s m args below meth c s₁ B hml hv
  obtain ⟨rfl, hP, hK, hZ⟩ := hv
  have hx := B.exec
  have hb := B.bytes
  have hr := B.returns
  have hts := atoms_spec (ws := wsX1_rankOf) B.pre
  have hown : s.vm.findClass RX1 = some m.cls := findClass_of_methodNamed B.named
  have hlocks := B.notSynchronized
  have hin_RX1 : ∀ w ∈ u_ws RX1 TX1 19, w ∈ wsX1_rankOf := fun w h => List.mem_cons_of_mem _ (u_X1 w h)
  have hlk_15 := hts _ (List.mem_cons_of_mem _ k_fl_X1_15)
  have hl := lv_entry ([.ref h, .int k]) (n := 2) (Nat.le_of_ble_eq_true rfl)
  rw [lg_entry_eq]
  generalize (lg_sl ([.ref h, .int k]) ++ List.replicate (2 - (lg_sl ([.ref h, .int k])).length) Slot.unset).toArray = ls at hl ⊢
  have hl : lv_has ls 2 [(0, .ref h), (1, .int k)] := hl
  refine lv_iload_n hx hb dX1_rankOf_0 rfl (lv_at hl 1 rfl) ?_
  refine lv_aload_n hx hb dX1_rankOf_1 rfl (lv_at hl 0 rfl) ?_
  refine va_get (D := (dC, dI)) (ci := 1) (v := .int (u 5)) (C := RX1) (T := TX1) (N := 19) hx hb hts hin_RX1 hown hK hP 0 rfl rfl 5 (by decide) hlk_15 (fun _ h9 => h9) rfl dX1_rankOf_2 ?_
  refine lv_isub hx hb dX1_rankOf_5 ?_
  refine lv_iconst (v := 1) hx hb dX1_rankOf_6 (by decide) ?_
  refine lv_isub hx hb dX1_rankOf_7 ?_
  refine lv_bipush (v := 7) hx hb dX1_rankOf_8 (by decide) ?_
  refine lv_iand hx hb dX1_rankOf_10 ?_
  exact xr_iret hx hb hr hlocks dX1_rankOf_11 (by first | (simp only [lpRank]; done) | rfl | (simp_all [lpRank]; done))

set_option maxHeartbeats 4000000 in
set_option maxRecDepth 100000 in
theorem c_highestOf (l : Launch) (dC : Nat → ClassId) (dI : Nat → Nat → Nat) (h : Nat) (u : Nat → Int32) (x : Int32) : xr_M l yX1_highestOf wsX1_highestOf ({ frames := 1, cells := 0, slots := 0, locals := 21 }) [.ref h, .int x] (dC, dI) vwCl [] [] (cw1 h u) (some (.int (lpHi u x))) := by
  refine Met.ofW (cc := cX1_highestOf) (maxL := 4) (ret := (some .int)) (by decide) rfl ?_
  intro p e s m args below meth c s₁ B hml hv
  obtain ⟨rfl, hP, hK, hZ⟩ := hv
  have hx := B.exec
  have hb := B.bytes
  have hr := B.returns
  have hts := atoms_spec (ws := wsX1_highestOf) B.pre
  have hown : s.vm.findClass RX1 = some m.cls := findClass_of_methodNamed B.named
  have hlocks := B.notSynchronized
  have hin_RX1 : ∀ w ∈ u_ws RX1 TX1 19, w ∈ wsX1_highestOf := fun w h => List.mem_cons_of_mem _ (u_X1 w h)
  have hlk_15 := hts _ (List.mem_cons_of_mem _ k_fl_X1_15)
  have hl := lv_entry ([.ref h, .int x]) (n := 4) (Nat.le_of_ble_eq_true rfl)
  rw [lg_entry_eq]
  generalize (lg_sl ([.ref h, .int x]) ++ List.replicate (4 - (lg_sl ([.ref h, .int x])).length) Slot.unset).toArray = ls at hl ⊢
  have hl : lv_has ls 4 [(0, .ref h), (1, .int x)] := hl
  refine lv_iconst (v := 0) hx hb dX1_highestOf_0 (by decide) ?_
  refine lv_istore_n (lv' := [(2, .int 0), (0, .ref h), (1, .int x)]) hx hb dX1_highestOf_1 rfl hl (by decide) rfl (fun ls hl => ?_)
  have loop : ∀ (n j : Nat), j + n = 8 → lpHiF (u 5) x n (nI j) = lpHi u x → ∀ ls : Array Slot, lv_has ls 4 [(2, .int (nI j)), (0, .ref h), (1, .int x)] → W p l e (headSpec wsX1_highestOf { frames := 1, cells := 0, slots := 0, locals := 21 }).room s m ([.ref h, .int x]).toArray below meth c s.heap [] 0 0 (MQ below (xr_Q (some (.int (lpHi u x)))) ([.ref h, .int x]).toArray s 0 0 (fun _ => False)) (F0 m 2 ls []) := by
    intro n
    induction n with
    | zero =>
      intro j hj hF ls hl
      obtain rfl : j = 8 := by omega
      refine lv_iload_n hx hb dX1_highestOf_2 rfl (lv_at hl 0 rfl) ?_
      refine lv_bipush (v := 8) hx hb dX1_highestOf_3 (by decide) ?_
      refine lv_icmp_ge (tgt := 36) hx hb dX1_highestOf_5 (by decide) (fun _ => ?_) (fun h => absurd (by decide) h)
      refine lv_iconst (v := -1) hx hb dX1_highestOf_36 (by decide) ?_
      exact xr_iret hx hb hr hlocks dX1_highestOf_37 hF
    | succ n ih =>
      intro j hj hF ls hl
      refine lv_iload_n hx hb dX1_highestOf_2 rfl (lv_at hl 0 rfl) ?_
      refine lv_bipush (v := 8) hx hb dX1_highestOf_3 (by decide) ?_
      refine lv_icmp_ge (tgt := 36) hx hb dX1_highestOf_5 (by decide) (fun h => absurd h (nI_ge (a := j) (b := 8) (by omega) (by decide))) (fun _ => ?_)
      refine lv_aload_n hx hb dX1_highestOf_8 rfl (lv_at hl 1 rfl) ?_
      refine va_get (D := (dC, dI)) (ci := 1) (v := .int (u 5)) (C := RX1) (T := TX1) (N := 19) hx hb hts hin_RX1 hown hK hP 0 rfl rfl 5 (by decide) hlk_15 (fun _ h9 => h9) rfl dX1_highestOf_9 ?_
      refine lv_iconst (v := 1) hx hb dX1_highestOf_12 (by decide) ?_
      refine lv_iadd hx hb dX1_highestOf_13 ?_
      refine lv_iload_n hx hb dX1_highestOf_14 rfl (lv_at hl 0 rfl) ?_
      refine lv_iadd hx hb dX1_highestOf_15 ?_
      refine lv_bipush (v := 7) hx hb dX1_highestOf_16 (by decide) ?_
      refine lv_iand hx hb dX1_highestOf_18 ?_
      refine lv_istore_n (lv' := [(3, .int ((((u 5) + 1) + (nI j)) &&& 7)), (2, .int (nI j)), (0, .ref h), (1, .int x)]) hx hb dX1_highestOf_19 rfl hl (by decide) rfl (fun ls hl => ?_)
      refine lv_iload_n hx hb dX1_highestOf_20 rfl (lv_at hl 3 rfl) ?_
      refine lv_iload_n hx hb dX1_highestOf_21 rfl (lv_at hl 0 rfl) ?_
      refine xr_call (st1 := [.int (lpHas x ((((u 5) + 1) + (nI j)) &&& 7))]) (W.runS (As := [.int x, .int ((((u 5) + 1) + (nI j)) &&& 7)]) (rest := []) ⟨hx, hb, hml, hown, hts⟩ (c_hasBit l dC dI x ((((u 5) + 1) + (nI j)) &&& 7)) (cwS 2 hts (gd_S wa_c k_ml_X1_21 k_st_X1_hasBit k_in_X1 k_co_X1_hasBit) rfl rfl rfl (by decide +kernel) ⟨Nat.le_of_ble_eq_true rfl, Nat.le_of_ble_eq_true rfl⟩) (xr_preS hK (hP.sub (ws' := []) [] rfl) xz_Z.nil) rfl rfl hl.1 rfl (lv_room (Nat.le_of_ble_eq_true rfl)) dX1_highestOf_22 ⟨Nat.zero_le _, Nat.zero_le _⟩) rfl ?_
      refine lv_if_eq (tgt := 30) hx hb dX1_highestOf_25 (by decide) (fun h1 => ?_) (fun h1 => ?_)
      · refine lv_iinc (k := 1) (v := nI (j + 1)) (lv' := [(2, .int (nI (j + 1))), (3, .int ((((u 5) + 1) + (nI j)) &&& 7)), (0, .ref h), (1, .int x)]) hx hb dX1_highestOf_30 hl rfl (nI_1 _) (by decide) rfl (fun ls hl => ?_)
        refine lv_goto (tgt := 2) hx hb dX1_highestOf_33 (by decide) ?_
        refine ih (j + 1) (by omega) ?_ ls (lv_sub hl [0, 2, 3] rfl)
        rw [← hF, lpHiF, if_pos h1, nI_1]
      · refine lv_iload_n hx hb dX1_highestOf_28 rfl (lv_at hl 0 rfl) ?_
        exact xr_iret hx hb hr hlocks dX1_highestOf_29 (by rw [← hF, lpHiF, if_neg h1])
  exact loop 8 0 rfl rfl ls hl

set_option maxHeartbeats 4000000 in
set_option maxRecDepth 100000 in
theorem c_blockersOf (l : Launch) (dC : Nat → ClassId) (dI : Nat → Nat → Nat) (h : Nat) (u : Nat → Int32) (k : Int32) : xr_M l yX1_blockersOf wsX1_blockersOf ({ frames := 1, cells := 0, slots := 0, locals := 21 }) [.ref h, .int k] (dC, dI) vwCl [] [] (cw1 h u) (some (.int (lpBlk u k))) := by
  refine Met.ofW (cc := cX1_blockersOf) (maxL := 3) (ret := (some .int)) (by decide) rfl ?_
  intro p e s m args below meth c s₁ B hml hv
  obtain ⟨rfl, hP, hK, hZ⟩ := hv
  have hx := B.exec
  have hb := B.bytes
  have hr := B.returns
  have hts := atoms_spec (ws := wsX1_blockersOf) B.pre
  have hown : s.vm.findClass RX1 = some m.cls := findClass_of_methodNamed B.named
  have hlocks := B.notSynchronized
  have hin_RX1 : ∀ w ∈ u_ws RX1 TX1 19, w ∈ wsX1_blockersOf := fun w h => List.mem_cons_of_mem _ (u_X1 w h)
  have hlk_9 := hts _ (List.mem_cons_of_mem _ k_fl_X1_9)
  have hlk_59 := hts _ (List.mem_cons_of_mem _ k_fl_X1_59)
  have hl := lv_entry ([.ref h, .int k]) (n := 3) (Nat.le_of_ble_eq_true rfl)
  rw [lg_entry_eq]
  generalize (lg_sl ([.ref h, .int k]) ++ List.replicate (3 - (lg_sl ([.ref h, .int k])).length) Slot.unset).toArray = ls at hl ⊢
  have hl : lv_has ls 3 [(0, .ref h), (1, .int k)] := hl
  refine lv_aload_n hx hb dX1_blockersOf_0 rfl (lv_at hl 0 rfl) ?_
  refine xr_call (st1 := [.int (lpIsc u)]) (W.runV (As := []) (rest := []) ⟨hx, hb, hml, hown, hts⟩ (c_inServiceThatCounts l dC dI h u) (cwV 0 hts (gd_V wa_c k_ml_X1_56 k_im_X1_inServiceThatCounts k_se_X1_inServiceThatCounts k_in_X1 k_co_X1_inServiceThatCounts) rfl rfl rfl (by decide +kernel) ⟨Nat.le_of_ble_eq_true rfl, Nat.le_of_ble_eq_true rfl⟩) (xr_preV (q0 := 0) (C := RX1) hK hP xz_Z.nil rfl rfl) rfl rfl hl.1 rfl (lv_room (Nat.le_of_ble_eq_true rfl)) dX1_blockersOf_1 ⟨Nat.zero_le _, Nat.zero_le _⟩) rfl ?_
  refine lv_istore_n (lv' := [(2, .int (lpIsc u)), (0, .ref h), (1, .int k)]) hx hb dX1_blockersOf_4 rfl hl (by decide) rfl (fun ls hl => ?_)
  refine lv_aload_n hx hb dX1_blockersOf_5 rfl (lv_at hl 1 rfl) ?_
  refine va_get (D := (dC, dI)) (ci := 1) (v := .int (u 13)) (C := RX1) (T := TX1) (N := 19) hx hb hts hin_RX1 hown hK hP 0 rfl rfl 13 (by decide) hlk_59 (fun _ h9 => h9) rfl dX1_blockersOf_6 ?_
  refine lv_if_eq (tgt := 28) hx hb dX1_blockersOf_9 (by decide) (fun h1 => ?_) (fun h1 => ?_)
  · refine lv_iload_n hx hb dX1_blockersOf_28 rfl (lv_at hl 0 rfl) ?_
    exact xr_iret hx hb hr hlocks dX1_blockersOf_29 (by first | (simp only [lpBlk, if_pos h1, if_neg (not_not_intro h1)]; done) | rfl | (simp only [lpBlk]; simp only [if_pos h1, if_neg (not_not_intro h1)]; done) | (simp_all [lpBlk]; done))
  · refine lv_iload_n hx hb dX1_blockersOf_12 rfl (lv_at hl 2 rfl) ?_
    refine lv_aload_n hx hb dX1_blockersOf_13 rfl (lv_at hl 1 rfl) ?_
    refine va_get (D := (dC, dI)) (ci := 1) (v := .int (u 0)) (C := RX1) (T := TX1) (N := 19) hx hb hts hin_RX1 hown hK hP 0 rfl rfl 0 (by decide) hlk_9 (fun _ h9 => h9) rfl dX1_blockersOf_14 ?_
    refine lv_icmp_ne (tgt := 28) hx hb dX1_blockersOf_17 (by decide) (fun h2 => ?_) (fun h2 => ?_)
    · refine lv_iload_n hx hb dX1_blockersOf_28 rfl (lv_at hl 0 rfl) ?_
      exact xr_iret hx hb hr hlocks dX1_blockersOf_29 (by first | (simp only [lpBlk, if_neg h1, if_pos h1, if_neg h2, if_pos h2]; done) | rfl | (simp only [lpBlk]; simp only [if_neg h1, if_pos h1, if_neg h2, if_pos h2]; done) | (simp_all [lpBlk]; done))
    · refine lv_iload_n hx hb dX1_blockersOf_20 rfl (lv_at hl 0 rfl) ?_
      refine lv_iload_n hx hb dX1_blockersOf_21 rfl (lv_at hl 2 rfl) ?_
      refine xr_call (st1 := [.int (lpWo (lpIsc u) k)]) (W.runS (As := [.int (lpIsc u), .int k]) (rest := []) ⟨hx, hb, hml, hown, hts⟩ (c_without l dC dI (lpIsc u) k) (cwS 2 hts (gd_S wa_c k_ml_X1_28 k_st_X1_without k_in_X1 k_co_X1_without) rfl rfl rfl (by decide +kernel) ⟨Nat.le_of_ble_eq_true rfl, Nat.le_of_ble_eq_true rfl⟩) (xr_preS hK (hP.sub (ws' := []) [] rfl) xz_Z.nil) rfl rfl hl.1 rfl (lv_room (Nat.le_of_ble_eq_true rfl)) dX1_blockersOf_22 ⟨Nat.zero_le _, Nat.zero_le _⟩) rfl ?_
      refine lv_goto (tgt := 29) hx hb dX1_blockersOf_25 (by decide) ?_
      exact xr_iret hx hb hr hlocks dX1_blockersOf_29 (by first | (simp only [lpBlk, if_neg h1, if_pos h1, if_pos h2, if_neg (not_not_intro h2)]; done) | rfl | (simp only [lpBlk]; simp only [if_neg h1, if_pos h1, if_pos h2, if_neg (not_not_intro h2)]; done) | (simp_all [lpBlk]; done))

set_option maxHeartbeats 4000000 in
set_option maxRecDepth 100000 in
theorem c_lineToDeliver (l : Launch) (dC : Nat → ClassId) (dI : Nat → Nat → Nat) (h : Nat) (u : Nat → Int32) : xr_M l yX1_lineToDeliver wsX1_lineToDeliver ({ frames := 2, cells := 0, slots := 0, locals := 44 }) [.ref h] (dC, dI) vwCl [] [] (cw1 h u) (some (.int (lpDel u))) := by
  refine Met.ofW (cc := cX1_lineToDeliver) (maxL := 3) (ret := (some .int)) (by decide) rfl ?_
  intro p e s m args below meth c s₁ B hml hv
  obtain ⟨rfl, hP, hK, hZ⟩ := hv
  have hx := B.exec
  have hb := B.bytes
  have hr := B.returns
  have hts := atoms_spec (ws := wsX1_lineToDeliver) B.pre
  have hown : s.vm.findClass RX1 = some m.cls := findClass_of_methodNamed B.named
  have hlocks := B.notSynchronized
  have hin_RX1 : ∀ w ∈ u_ws RX1 TX1 19, w ∈ wsX1_lineToDeliver := fun w h => List.mem_cons_of_mem _ (u_X1 w h)
  have hlk_36 := hts _ (List.mem_cons_of_mem _ k_fl_X1_36)
  have hlk_43 := hts _ (List.mem_cons_of_mem _ k_fl_X1_43)
  have hl := lv_entry ([.ref h]) (n := 3) (Nat.le_of_ble_eq_true rfl)
  rw [lg_entry_eq]
  generalize (lg_sl ([.ref h]) ++ List.replicate (3 - (lg_sl ([.ref h])).length) Slot.unset).toArray = ls at hl ⊢
  have hl : lv_has ls 3 [(0, .ref h)] := hl
  refine lv_aload_n hx hb dX1_lineToDeliver_0 rfl (lv_at hl 0 rfl) ?_
  refine va_get (D := (dC, dI)) (ci := 1) (v := .int (u 10)) (C := RX1) (T := TX1) (N := 19) hx hb hts hin_RX1 hown hK hP 0 rfl rfl 10 (by decide) hlk_36 (fun _ h9 => h9) rfl dX1_lineToDeliver_1 ?_
  refine lv_if_ne (tgt := 9) hx hb dX1_lineToDeliver_4 (by decide) (fun h1 => ?_) (fun h1 => ?_)
  · refine lv_aload_n hx hb dX1_lineToDeliver_9 rfl (lv_at hl 0 rfl) ?_
    refine lv_aload_n hx hb dX1_lineToDeliver_10 rfl (lv_at hl 0 rfl) ?_
    refine xr_call (st1 := [.int (lpReq u), .ref h]) (W.runV (As := []) (rest := [.ref h]) ⟨hx, hb, hml, hown, hts⟩ (c_requested l dC dI h u) (cwV 0 hts (gd_V wa_c k_ml_X1_39 k_im_X1_requested k_se_X1_requested k_in_X1 k_co_X1_requested) rfl rfl rfl (by decide +kernel) ⟨Nat.le_of_ble_eq_true rfl, Nat.le_of_ble_eq_true rfl⟩) (xr_preV (q0 := 0) (C := RX1) hK hP xz_Z.nil rfl rfl) rfl rfl hl.1 rfl (lv_room (Nat.le_of_ble_eq_true rfl)) dX1_lineToDeliver_11 ⟨Nat.zero_le _, Nat.zero_le _⟩) rfl ?_
    refine lv_aload_n hx hb dX1_lineToDeliver_14 rfl (lv_at hl 0 rfl) ?_
    refine va_get (D := (dC, dI)) (ci := 1) (v := .int (u 4)) (C := RX1) (T := TX1) (N := 19) hx hb hts hin_RX1 hown hK hP 0 rfl rfl 4 (by decide) hlk_43 (fun _ h9 => h9) rfl dX1_lineToDeliver_15 ?_
    refine lv_iconst (v := -1) hx hb dX1_lineToDeliver_18 (by decide) ?_
    refine lv_ixor hx hb dX1_lineToDeliver_19 ?_
    refine lv_iand hx hb dX1_lineToDeliver_20 ?_
    refine xr_call (st1 := [.int (lpHi u ((lpReq u) &&& ((u 4) ^^^ (-1))))]) (W.runV (As := [.int ((lpReq u) &&& ((u 4) ^^^ (-1)))]) (rest := []) ⟨hx, hb, hml, hown, hts⟩ (c_highestOf l dC dI h u ((lpReq u) &&& ((u 4) ^^^ (-1)))) (cwV 1 hts (gd_V wa_c k_ml_X1_46 k_im_X1_highestOf k_se_X1_highestOf k_in_X1 k_co_X1_highestOf) rfl rfl rfl (by decide +kernel) ⟨Nat.le_of_ble_eq_true rfl, Nat.le_of_ble_eq_true rfl⟩) (xr_preV (q0 := 0) (C := RX1) hK hP xz_Z.nil rfl rfl) rfl rfl hl.1 rfl (lv_room (Nat.le_of_ble_eq_true rfl)) dX1_lineToDeliver_21 ⟨Nat.zero_le _, Nat.zero_le _⟩) rfl ?_
    refine lv_istore_n (lv' := [(1, .int (lpHi u ((lpReq u) &&& ((u 4) ^^^ (-1))))), (0, .ref h)]) hx hb dX1_lineToDeliver_24 rfl hl (by decide) rfl (fun ls hl => ?_)
    refine lv_iload_n hx hb dX1_lineToDeliver_25 rfl (lv_at hl 0 rfl) ?_
    refine lv_iconst (v := -1) hx hb dX1_lineToDeliver_26 (by decide) ?_
    refine lv_icmp_ne (tgt := 32) hx hb dX1_lineToDeliver_27 (by decide) (fun h2 => ?_) (fun h2 => ?_)
    · refine lv_aload_n hx hb dX1_lineToDeliver_32 rfl (lv_at hl 1 rfl) ?_
      refine lv_aload_n hx hb dX1_lineToDeliver_33 rfl (lv_at hl 1 rfl) ?_
      refine lv_iload_n hx hb dX1_lineToDeliver_34 rfl (lv_at hl 0 rfl) ?_
      refine xr_call (st1 := [.int (lpBlk u (lpHi u ((lpReq u) &&& ((u 4) ^^^ (-1))))), .ref h]) (W.runV (As := [.int (lpHi u ((lpReq u) &&& ((u 4) ^^^ (-1))))]) (rest := [.ref h]) ⟨hx, hb, hml, hown, hts⟩ (c_blockersOf l dC dI h u (lpHi u ((lpReq u) &&& ((u 4) ^^^ (-1))))) (cwV 1 hts (gd_V wa_c k_ml_X1_50 k_im_X1_blockersOf k_se_X1_blockersOf k_in_X1 k_co_X1_blockersOf) rfl rfl rfl (by decide +kernel) ⟨Nat.le_of_ble_eq_true rfl, Nat.le_of_ble_eq_true rfl⟩) (xr_preV (q0 := 0) (C := RX1) hK hP xz_Z.nil rfl rfl) rfl rfl hl.1 rfl (lv_room (Nat.le_of_ble_eq_true rfl)) dX1_lineToDeliver_35 ⟨Nat.zero_le _, Nat.zero_le _⟩) rfl ?_
      refine xr_call (st1 := [.int (lpHi u (lpBlk u (lpHi u ((lpReq u) &&& ((u 4) ^^^ (-1))))))]) (W.runV (As := [.int (lpBlk u (lpHi u ((lpReq u) &&& ((u 4) ^^^ (-1)))))]) (rest := []) ⟨hx, hb, hml, hown, hts⟩ (c_highestOf l dC dI h u (lpBlk u (lpHi u ((lpReq u) &&& ((u 4) ^^^ (-1)))))) (cwV 1 hts (gd_V wa_c k_ml_X1_46 k_im_X1_highestOf k_se_X1_highestOf k_in_X1 k_co_X1_highestOf) rfl rfl rfl (by decide +kernel) ⟨Nat.le_of_ble_eq_true rfl, Nat.le_of_ble_eq_true rfl⟩) (xr_preV (q0 := 0) (C := RX1) hK hP xz_Z.nil rfl rfl) rfl rfl hl.1 rfl (lv_room (Nat.le_of_ble_eq_true rfl)) dX1_lineToDeliver_38 ⟨Nat.zero_le _, Nat.zero_le _⟩) rfl ?_
      refine lv_istore_n (lv' := [(2, .int (lpHi u (lpBlk u (lpHi u ((lpReq u) &&& ((u 4) ^^^ (-1))))))), (1, .int (lpHi u ((lpReq u) &&& ((u 4) ^^^ (-1))))), (0, .ref h)]) hx hb dX1_lineToDeliver_41 rfl hl (by decide) rfl (fun ls hl => ?_)
      refine lv_iload_n hx hb dX1_lineToDeliver_42 rfl (lv_at hl 0 rfl) ?_
      refine lv_iconst (v := -1) hx hb dX1_lineToDeliver_43 (by decide) ?_
      refine lv_icmp_eq (tgt := 60) hx hb dX1_lineToDeliver_44 (by decide) (fun h3 => ?_) (fun h3 => ?_)
      · refine lv_iload_n hx hb dX1_lineToDeliver_60 rfl (lv_at hl 1 rfl) ?_
        refine lv_goto (tgt := 65) hx hb dX1_lineToDeliver_61 (by decide) ?_
        exact xr_iret hx hb hr hlocks dX1_lineToDeliver_65 (by first | (simp only [lpDel, lpCand, if_neg h1, if_pos h1, if_neg h2, if_pos h2, if_pos h3, if_neg (not_not_intro h3)]; done) | rfl | (simp only [lpDel, lpCand]; simp only [if_neg h1, if_pos h1, if_neg h2, if_pos h2, if_pos h3, if_neg (not_not_intro h3)]; done) | (simp_all [lpDel, lpCand]; done))
      · refine lv_aload_n hx hb dX1_lineToDeliver_47 rfl (lv_at hl 2 rfl) ?_
        refine lv_iload_n hx hb dX1_lineToDeliver_48 rfl (lv_at hl 1 rfl) ?_
        refine xr_call (st1 := [.int (lpRank u (lpHi u ((lpReq u) &&& ((u 4) ^^^ (-1)))))]) (W.runV (As := [.int (lpHi u ((lpReq u) &&& ((u 4) ^^^ (-1))))]) (rest := []) ⟨hx, hb, hml, hown, hts⟩ (c_rankOf l dC dI h u (lpHi u ((lpReq u) &&& ((u 4) ^^^ (-1))))) (cwV 1 hts (gd_V wa_c k_ml_X1_53 k_im_X1_rankOf k_se_X1_rankOf k_in_X1 k_co_X1_rankOf) rfl rfl rfl (by decide +kernel) ⟨Nat.le_of_ble_eq_true rfl, Nat.le_of_ble_eq_true rfl⟩) (xr_preV (q0 := 0) (C := RX1) hK hP xz_Z.nil rfl rfl) rfl rfl hl.1 rfl (lv_room (Nat.le_of_ble_eq_true rfl)) dX1_lineToDeliver_49 ⟨Nat.zero_le _, Nat.zero_le _⟩) rfl ?_
        refine lv_aload_n hx hb dX1_lineToDeliver_52 rfl (lv_at hl 2 rfl) ?_
        refine lv_iload_n hx hb dX1_lineToDeliver_53 rfl (lv_at hl 0 rfl) ?_
        refine xr_call (st1 := [.int (lpRank u (lpHi u (lpBlk u (lpHi u ((lpReq u) &&& ((u 4) ^^^ (-1))))))), .int (lpRank u (lpHi u ((lpReq u) &&& ((u 4) ^^^ (-1)))))]) (W.runV (As := [.int (lpHi u (lpBlk u (lpHi u ((lpReq u) &&& ((u 4) ^^^ (-1))))))]) (rest := [.int (lpRank u (lpHi u ((lpReq u) &&& ((u 4) ^^^ (-1)))))]) ⟨hx, hb, hml, hown, hts⟩ (c_rankOf l dC dI h u (lpHi u (lpBlk u (lpHi u ((lpReq u) &&& ((u 4) ^^^ (-1))))))) (cwV 1 hts (gd_V wa_c k_ml_X1_53 k_im_X1_rankOf k_se_X1_rankOf k_in_X1 k_co_X1_rankOf) rfl rfl rfl (by decide +kernel) ⟨Nat.le_of_ble_eq_true rfl, Nat.le_of_ble_eq_true rfl⟩) (xr_preV (q0 := 0) (C := RX1) hK hP xz_Z.nil rfl rfl) rfl rfl hl.1 rfl (lv_room (Nat.le_of_ble_eq_true rfl)) dX1_lineToDeliver_54 ⟨Nat.zero_le _, Nat.zero_le _⟩) rfl ?_
        refine lv_icmp_ge (tgt := 64) hx hb dX1_lineToDeliver_57 (by decide) (fun h4 => ?_) (fun h4 => ?_)
        · refine lv_iconst (v := -1) hx hb dX1_lineToDeliver_64 (by decide) ?_
          exact xr_iret hx hb hr hlocks dX1_lineToDeliver_65 (by first | (simp only [lpDel, lpCand, if_neg h1, if_pos h1, if_neg h2, if_pos h2, if_neg h3, if_pos h3, if_pos h4, if_neg (not_not_intro h4)]; done) | rfl | (simp only [lpDel, lpCand]; simp only [if_neg h1, if_pos h1, if_neg h2, if_pos h2, if_neg h3, if_pos h3, if_pos h4, if_neg (not_not_intro h4)]; done) | (simp_all [lpDel, lpCand]; done))
        · refine lv_iload_n hx hb dX1_lineToDeliver_60 rfl (lv_at hl 1 rfl) ?_
          refine lv_goto (tgt := 65) hx hb dX1_lineToDeliver_61 (by decide) ?_
          exact xr_iret hx hb hr hlocks dX1_lineToDeliver_65 (by first | (simp only [lpDel, lpCand, if_neg h1, if_pos h1, if_neg h2, if_pos h2, if_neg h3, if_pos h3, if_neg h4, if_pos h4]; done) | rfl | (simp only [lpDel, lpCand]; simp only [if_neg h1, if_pos h1, if_neg h2, if_pos h2, if_neg h3, if_pos h3, if_neg h4, if_pos h4]; done) | (simp_all [lpDel, lpCand]; done))
    · refine lv_iconst (v := -1) hx hb dX1_lineToDeliver_30 (by decide) ?_
      exact xr_iret hx hb hr hlocks dX1_lineToDeliver_31 (by first | (simp only [lpDel, lpCand, if_neg h1, if_pos h1, if_pos h2, if_neg (not_not_intro h2)]; done) | rfl | (simp only [lpDel, lpCand]; simp only [if_neg h1, if_pos h1, if_pos h2, if_neg (not_not_intro h2)]; done) | (simp_all [lpDel, lpCand]; done))
  · refine lv_iconst (v := -1) hx hb dX1_lineToDeliver_7 (by decide) ?_
    exact xr_iret hx hb hr hlocks dX1_lineToDeliver_8 (by first | (simp only [lpDel, lpCand, if_pos h1, if_neg (not_not_intro h1)]; done) | rfl | (simp only [lpDel, lpCand]; simp only [if_pos h1, if_neg (not_not_intro h1)]; done) | (simp_all [lpDel, lpCand]; done))

set_option maxHeartbeats 4000000 in
set_option maxRecDepth 100000 in
theorem c_numberOf (l : Launch) (dC : Nat → ClassId) (dI : Nat → Nat → Nat) (h : Nat) (u : Nat → Int32) (k : Int32) : xr_M l yX1_numberOf wsX1_numberOf ({ frames := 0, cells := 0, slots := 0, locals := 0 }) [.ref h, .int k] (dC, dI) vwCl [] [] (cw1 h u) (some (.int (lpNum u k))) := by
  refine Met.ofW (cc := cX1_numberOf) (maxL := 2) (ret := (some .int)) (by decide) rfl ?_
  intro p e s m args below meth c s₁ B hml hv
  obtain ⟨rfl, hP, hK, hZ⟩ := hv
  have hx := B.exec
  have hb := B.bytes
  have hr := B.returns
  have hts := atoms_spec (ws := wsX1_numberOf) B.pre
  have hown : s.vm.findClass RX1 = some m.cls := findClass_of_methodNamed B.named
  have hlocks := B.notSynchronized
  have hin_RX1 : ∀ w ∈ u_ws RX1 TX1 19, w ∈ wsX1_numberOf := fun w h => List.mem_cons_of_mem _ (u_X1 w h)
  have hlk_80 := hts _ (List.mem_cons_of_mem _ k_fl_X1_80)
  have hl := lv_entry ([.ref h, .int k]) (n := 2) (Nat.le_of_ble_eq_true rfl)
  rw [lg_entry_eq]
  generalize (lg_sl ([.ref h, .int k]) ++ List.replicate (2 - (lg_sl ([.ref h, .int k])).length) Slot.unset).toArray = ls at hl ⊢
  have hl : lv_has ls 2 [(0, .ref h), (1, .int k)] := hl
  refine lv_aload_n hx hb dX1_numberOf_0 rfl (lv_at hl 0 rfl) ?_
  refine va_get (D := (dC, dI)) (ci := 1) (v := .int (u 6)) (C := RX1) (T := TX1) (N := 19) hx hb hts hin_RX1 hown hK hP 0 rfl rfl 6 (by decide) hlk_80 (fun _ h9 => h9) rfl dX1_numberOf_1 ?_
  refine lv_iload_n hx hb dX1_numberOf_4 rfl (lv_at hl 1 rfl) ?_
  refine lv_iconst (v := -1) hx hb dX1_numberOf_5 (by decide) ?_
  refine lv_icmp_ne (tgt := 14) hx hb dX1_numberOf_6 (by decide) (fun h1 => ?_) (fun h1 => ?_)
  · refine lv_iload_n hx hb dX1_numberOf_14 rfl (lv_at hl 1 rfl) ?_
    refine lv_iadd hx hb dX1_numberOf_15 ?_
    exact xr_iret hx hb hr hlocks dX1_numberOf_16 (by first | (simp only [lpNum, if_neg h1, if_pos h1]; done) | rfl | (simp only [lpNum]; simp only [if_neg h1, if_pos h1]; done) | (simp_all [lpNum]; done))
  · refine lv_bipush (v := 7) hx hb dX1_numberOf_9 (by decide) ?_
    refine lv_goto (tgt := 15) hx hb dX1_numberOf_11 (by decide) ?_
    refine lv_iadd hx hb dX1_numberOf_15 ?_
    exact xr_iret hx hb hr hlocks dX1_numberOf_16 (by first | (simp only [lpNum, if_pos h1, if_neg (not_not_intro h1)]; done) | rfl | (simp only [lpNum]; simp only [if_pos h1, if_neg (not_not_intro h1)]; done) | (simp_all [lpNum]; done))

set_option maxHeartbeats 4000000 in
set_option maxRecDepth 100000 in
theorem c_moveLine (l : Launch) (dC : Nat → ClassId) (dI : Nat → Nat → Nat) (h : Nat) (sz : Nat) (u : Nat → Int32) (k t : Int32) : xc_M l yX1_moveLine wsX1_moveLine ({ frames := 1, cells := 0, slots := 0, locals := 21 }) [.ref h, .int k, .int t] sz (dC, dI) vwCl [] [] (cw1 h u) (some (.int (lpMoveR u k t))) (cw1 h (lpMove u k t)) 0 0 := by
  refine Met.ofW (cc := cX1_moveLine) (maxL := 3) (ret := (some .boolean)) (by decide) rfl ?_
  intro p e s m args below meth c s₁ B hml hv
  obtain ⟨rfl, hsz, hP, hK, hD0, hZ⟩ := hv
  have hx := B.exec
  have hb := B.bytes
  have hr := B.returns
  have hts := atoms_spec (ws := wsX1_moveLine) B.pre
  have hown : s.vm.findClass RX1 = some m.cls := findClass_of_methodNamed B.named
  have hlocks := B.notSynchronized
  subst hsz
  have hD := hD0.self (sz := s.heap.size)
  generalize hAe : va_A (cw1 h u) s.heap.size = A at hD ⊢
  have hA : ∀ q : Nat, s.heap.size ≤ q → A q := fun q h => by rw [← hAe]; exact Or.inr h
  have hS : va_S A s.heap s.heap [] := va_S.rf
  have hin_RX1 : ∀ w ∈ u_ws RX1 TX1 19, w ∈ wsX1_moveLine := fun w h => List.mem_cons_of_mem _ (u_X1 w h)
  have hlk_18 := hts _ (List.mem_cons_of_mem _ k_fl_X1_18)
  have hlk_25 := hts _ (List.mem_cons_of_mem _ k_fl_X1_25)
  have hl := lv_entry ([.ref h, .int k, .int t]) (n := 3) (Nat.le_of_ble_eq_true rfl)
  rw [lg_entry_eq]
  generalize (lg_sl ([.ref h, .int k, .int t]) ++ List.replicate (3 - (lg_sl ([.ref h, .int k, .int t])).length) Slot.unset).toArray = ls at hl ⊢
  have hl : lv_has ls 3 [(0, .ref h), (1, .int k), (2, .int t)] := hl
  refine lv_aload_n hx hb dX1_moveLine_0 rfl (lv_at hl 0 rfl) ?_
  refine va_get (D := (dC, dI)) (ci := 1) (v := .int (u 1)) (C := RX1) (T := TX1) (N := 19) hx hb hts hin_RX1 hown hK hP 0 rfl rfl 1 (by decide) hlk_18 (fun _ h9 => h9) rfl dX1_moveLine_1 ?_
  refine lv_iload_n hx hb dX1_moveLine_4 rfl (lv_at hl 1 rfl) ?_
  refine xr_call (st1 := [.int (lpHas (u 1) k)]) (W.runS (As := [.int (u 1), .int k]) (rest := []) ⟨hx, hb, hml, hown, hts⟩ (c_hasBit l dC dI (u 1) k) (cwS 2 hts (gd_S wa_c k_ml_X1_21 k_st_X1_hasBit k_in_X1 k_co_X1_hasBit) rfl rfl rfl (by decide +kernel) ⟨Nat.le_of_ble_eq_true rfl, Nat.le_of_ble_eq_true rfl⟩) (xr_preS hK (hP.sub (ws' := []) [] rfl) xz_Z.nil) rfl rfl hl.1 rfl (lv_room (Nat.le_of_ble_eq_true rfl)) dX1_moveLine_5 ⟨Nat.zero_le _, Nat.zero_le _⟩) rfl ?_
  refine lv_iload_n hx hb dX1_moveLine_8 rfl (lv_at hl 2 rfl) ?_
  refine lv_icmp_ne (tgt := 14) hx hb dX1_moveLine_9 (by decide) (fun h1 => ?_) (fun h1 => ?_)
  · refine lv_aload_n hx hb dX1_moveLine_14 rfl (lv_at hl 0 rfl) ?_
    refine lv_dup hx hb dX1_moveLine_15 rfl ?_
    refine va_get (D := (dC, dI)) (ci := 1) (v := .int (u 1)) (C := RX1) (T := TX1) (N := 19) hx hb hts hin_RX1 hown hK hP 0 rfl rfl 1 (by decide) hlk_18 (fun _ h9 => h9) rfl dX1_moveLine_16 ?_
    refine lv_iconst (v := 1) hx hb dX1_moveLine_19 (by decide) ?_
    refine lv_iload_n hx hb dX1_moveLine_20 rfl (lv_at hl 1 rfl) ?_
    refine lv_ishl hx hb dX1_moveLine_21 ?_
    refine lv_ixor hx hb dX1_moveLine_22 ?_
    refine va_put (D := (dC, dI)) (ci := 1) (v := .int ((u 1) ^^^ ((1 : Int32) <<< (k &&& 31)))) (ty := .int) (C := RX1) (T := TX1) (N := 19) hx hb hts hin_RX1 tyX1 tyX1_ok nX1 hown hK hP hD hS 0 rfl rfl 1 (by decide) hlk_18 (fun _ h9 => h9) rfl (by decide +kernel) rfl rfl (Nat.le_of_ble_eq_true rfl) dX1_moveLine_23 (fun H locs hP hD hS => ?_)
    have hP : va_P (dC, dI) vwCl (cw1 h (upd u 1 ((u 1) ^^^ ((1 : Int32) <<< (k &&& 31))))) H := hP
    have hD : va_D A (cw1 h (upd u 1 ((u 1) ^^^ ((1 : Int32) <<< (k &&& 31))))) := hD
    refine lv_aload_n hx hb dX1_moveLine_26 rfl (lv_at hl 0 rfl) ?_
    refine lv_iload_n hx hb dX1_moveLine_27 rfl (lv_at hl 2 rfl) ?_
    refine lv_if_eq (tgt := 42) hx hb dX1_moveLine_28 (by decide) (fun h2 => ?_) (fun h2 => ?_)
    · refine lv_aload_n hx hb dX1_moveLine_42 rfl (lv_at hl 0 rfl) ?_
      refine va_get (D := (dC, dI)) (ci := 1) (v := .int (u 2)) (C := RX1) (T := TX1) (N := 19) hx hb hts hin_RX1 hown hK hP 0 rfl rfl 2 (by decide) hlk_25 (fun _ h9 => h9) rfl dX1_moveLine_43 ?_
      refine lv_iload_n hx hb dX1_moveLine_46 rfl (lv_at hl 1 rfl) ?_
      refine xr_call (st1 := [.int (lpWo (u 2) k), .ref h]) (W.runS (As := [.int (u 2), .int k]) (rest := [.ref h]) ⟨hx, hb, hml, hown, hts⟩ (c_without l dC dI (u 2) k) (cwS 2 hts (gd_S wa_c k_ml_X1_28 k_st_X1_without k_in_X1 k_co_X1_without) rfl rfl rfl (by decide +kernel) ⟨Nat.le_of_ble_eq_true rfl, Nat.le_of_ble_eq_true rfl⟩) (xr_preS hK (hP.sub (ws' := []) [] rfl) xz_Z.nil) rfl rfl hl.1 rfl (lv_room (Nat.le_of_ble_eq_true rfl)) dX1_moveLine_47 ⟨Nat.zero_le _, Nat.zero_le _⟩) rfl ?_
      refine va_put (D := (dC, dI)) (ci := 1) (v := .int (lpWo (u 2) k)) (ty := .int) (C := RX1) (T := TX1) (N := 19) hx hb hts hin_RX1 tyX1 tyX1_ok nX1 hown hK hP hD hS 0 rfl rfl 2 (by decide) hlk_25 (fun _ h9 => h9) rfl (by decide +kernel) rfl rfl (Nat.le_of_ble_eq_true rfl) dX1_moveLine_50 (fun H locs hP hD hS => ?_)
      have hP : va_P (dC, dI) vwCl (cw1 h (upd (upd u 1 ((u 1) ^^^ ((1 : Int32) <<< (k &&& 31)))) 2 (lpWo (u 2) k))) H := hP
      have hD : va_D A (cw1 h (upd (upd u 1 ((u 1) ^^^ ((1 : Int32) <<< (k &&& 31)))) 2 (lpWo (u 2) k))) := hD
      refine lv_iconst (v := 1) hx hb dX1_moveLine_53 (by decide) ?_
      exact xc_zret (wf := cw1 h) hx hb hr hlocks dX1_moveLine_54 hK hP hD hS rfl (by first | (simp only [lpMoveR, lpMove, if_neg h1, if_pos h1, if_pos h2, if_neg (not_not_intro h2)]; done) | rfl | (simp only [lpMoveR, lpMove]; simp only [if_neg h1, if_pos h1, if_pos h2, if_neg (not_not_intro h2)]; done) | (simp_all [lpMoveR, lpMove]; done)) (by first | (simp only [lpMoveR, lpMove, if_neg h1, if_pos h1, if_pos h2, if_neg (not_not_intro h2)]; done) | rfl | (simp only [lpMoveR, lpMove]; simp only [if_neg h1, if_pos h1, if_pos h2, if_neg (not_not_intro h2)]; done) | (simp_all [lpMoveR, lpMove]; done))
    · refine lv_aload_n hx hb dX1_moveLine_31 rfl (lv_at hl 0 rfl) ?_
      refine va_get (D := (dC, dI)) (ci := 1) (v := .int (u 2)) (C := RX1) (T := TX1) (N := 19) hx hb hts hin_RX1 hown hK hP 0 rfl rfl 2 (by decide) hlk_25 (fun _ h9 => h9) rfl dX1_moveLine_32 ?_
      refine lv_iconst (v := 1) hx hb dX1_moveLine_35 (by decide) ?_
      refine lv_iload_n hx hb dX1_moveLine_36 rfl (lv_at hl 1 rfl) ?_
      refine lv_ishl hx hb dX1_moveLine_37 ?_
      refine lv_ior hx hb dX1_moveLine_38 ?_
      refine lv_goto (tgt := 50) hx hb dX1_moveLine_39 (by decide) ?_
      refine va_put (D := (dC, dI)) (ci := 1) (v := .int ((u 2) ||| ((1 : Int32) <<< (k &&& 31)))) (ty := .int) (C := RX1) (T := TX1) (N := 19) hx hb hts hin_RX1 tyX1 tyX1_ok nX1 hown hK hP hD hS 0 rfl rfl 2 (by decide) hlk_25 (fun _ h9 => h9) rfl (by decide +kernel) rfl rfl (Nat.le_of_ble_eq_true rfl) dX1_moveLine_50 (fun H locs hP hD hS => ?_)
      have hP : va_P (dC, dI) vwCl (cw1 h (upd (upd u 1 ((u 1) ^^^ ((1 : Int32) <<< (k &&& 31)))) 2 ((u 2) ||| ((1 : Int32) <<< (k &&& 31))))) H := hP
      have hD : va_D A (cw1 h (upd (upd u 1 ((u 1) ^^^ ((1 : Int32) <<< (k &&& 31)))) 2 ((u 2) ||| ((1 : Int32) <<< (k &&& 31))))) := hD
      refine lv_iconst (v := 1) hx hb dX1_moveLine_53 (by decide) ?_
      exact xc_zret (wf := cw1 h) hx hb hr hlocks dX1_moveLine_54 hK hP hD hS rfl (by first | (simp only [lpMoveR, lpMove, if_neg h1, if_pos h1, if_neg h2, if_pos h2]; done) | rfl | (simp only [lpMoveR, lpMove]; simp only [if_neg h1, if_pos h1, if_neg h2, if_pos h2]; done) | (simp_all [lpMoveR, lpMove]; done)) (by first | (simp only [lpMoveR, lpMove, if_neg h1, if_pos h1, if_neg h2, if_pos h2]; done) | rfl | (simp only [lpMoveR, lpMove]; simp only [if_neg h1, if_pos h1, if_neg h2, if_pos h2]; done) | (simp_all [lpMoveR, lpMove]; done))
  · refine lv_iconst (v := 0) hx hb dX1_moveLine_12 (by decide) ?_
    exact xc_zret (wf := cw1 h) hx hb hr hlocks dX1_moveLine_13 hK hP hD hS rfl (by first | (simp only [lpMoveR, lpMove, if_pos h1, if_neg (not_not_intro h1)]; done) | rfl | (simp only [lpMoveR, lpMove]; simp only [if_pos h1, if_neg (not_not_intro h1)]; done) | (simp_all [lpMoveR, lpMove]; done)) (by first | (simp only [lpMoveR, lpMove, if_pos h1, if_neg (not_not_intro h1)]; done) | rfl | (simp only [lpMoveR, lpMove]; simp only [if_pos h1, if_neg (not_not_intro h1)]; done) | (simp_all [lpMoveR, lpMove]; done))

set_option maxHeartbeats 4000000 in
set_option maxRecDepth 100000 in
theorem c_takeDelivered (l : Launch) (dC : Nat → ClassId) (dI : Nat → Nat → Nat) (h : Nat) (sz : Nat) (u : Nat → Int32) : xc_M l yX1_takeDelivered wsX1_takeDelivered ({ frames := 3, cells := 0, slots := 0, locals := 66 }) [.ref h] sz (dC, dI) vwCl [] [] (cw1 h u) (some (.int (lpDel u))) (cw1 h (lpTake u)) 0 0 := by
  refine Met.ofW (cc := cX1_takeDelivered) (maxL := 2) (ret := (some .int)) (by decide) rfl ?_
  intro p e s m args below meth c s₁ B hml hv
  obtain ⟨rfl, hsz, hP, hK, hD0, hZ⟩ := hv
  have hx := B.exec
  have hb := B.bytes
  have hr := B.returns
  have hts := atoms_spec (ws := wsX1_takeDelivered) B.pre
  have hown : s.vm.findClass RX1 = some m.cls := findClass_of_methodNamed B.named
  have hlocks := B.notSynchronized
  subst hsz
  have hD := hD0.self (sz := s.heap.size)
  generalize hAe : va_A (cw1 h u) s.heap.size = A at hD ⊢
  have hA : ∀ q : Nat, s.heap.size ≤ q → A q := fun q h => by rw [← hAe]; exact Or.inr h
  have hS : va_S A s.heap s.heap [] := va_S.rf
  have hin_RX1 : ∀ w ∈ u_ws RX1 TX1 19, w ∈ wsX1_takeDelivered := fun w h => List.mem_cons_of_mem _ (u_X1 w h)
  have hlk_15 := hts _ (List.mem_cons_of_mem _ k_fl_X1_15)
  have hlk_25 := hts _ (List.mem_cons_of_mem _ k_fl_X1_25)
  have hlk_65 := hts _ (List.mem_cons_of_mem _ k_fl_X1_65)
  have hlk_71 := hts _ (List.mem_cons_of_mem _ k_fl_X1_71)
  have hlk_74 := hts _ (List.mem_cons_of_mem _ k_fl_X1_74)
  have hlk_77 := hts _ (List.mem_cons_of_mem _ k_fl_X1_77)
  have hl := lv_entry ([.ref h]) (n := 2) (Nat.le_of_ble_eq_true rfl)
  rw [lg_entry_eq]
  generalize (lg_sl ([.ref h]) ++ List.replicate (2 - (lg_sl ([.ref h])).length) Slot.unset).toArray = ls at hl ⊢
  have hl : lv_has ls 2 [(0, .ref h)] := hl
  refine lv_aload_n hx hb dX1_takeDelivered_0 rfl (lv_at hl 0 rfl) ?_
  refine xr_call (st1 := [.int (lpDel u)]) (W.runV (As := []) (rest := []) ⟨hx, hb, hml, hown, hts⟩ (c_lineToDeliver l dC dI h u) (cwV 0 hts (gd_V wa_c k_ml_X1_68 k_im_X1_lineToDeliver k_se_X1_lineToDeliver k_in_X1 k_co_X1_lineToDeliver) rfl rfl rfl (by decide +kernel) ⟨Nat.le_of_ble_eq_true rfl, Nat.le_of_ble_eq_true rfl⟩) (xr_preV (q0 := 0) (C := RX1) hK hP xz_Z.nil rfl rfl) rfl rfl hl.1 rfl (lv_room (Nat.le_of_ble_eq_true rfl)) dX1_takeDelivered_1 ⟨Nat.zero_le _, Nat.zero_le _⟩) rfl ?_
  refine lv_istore_n (lv' := [(1, .int (lpDel u)), (0, .ref h)]) hx hb dX1_takeDelivered_4 rfl hl (by decide) rfl (fun ls hl => ?_)
  refine lv_iload_n hx hb dX1_takeDelivered_5 rfl (lv_at hl 0 rfl) ?_
  refine lv_iconst (v := -1) hx hb dX1_takeDelivered_6 (by decide) ?_
  refine lv_icmp_ne (tgt := 12) hx hb dX1_takeDelivered_7 (by decide) (fun h1 => ?_) (fun h1 => ?_)
  · refine lv_aload_n hx hb dX1_takeDelivered_12 rfl (lv_at hl 1 rfl) ?_
    refine lv_aload_n hx hb dX1_takeDelivered_13 rfl (lv_at hl 1 rfl) ?_
    refine va_get (D := (dC, dI)) (ci := 1) (v := .int (u 2)) (C := RX1) (T := TX1) (N := 19) hx hb hts hin_RX1 hown hK hP 0 rfl rfl 2 (by decide) hlk_25 (fun _ h9 => h9) rfl dX1_takeDelivered_14 ?_
    refine lv_iload_n hx hb dX1_takeDelivered_17 rfl (lv_at hl 0 rfl) ?_
    refine xr_call (st1 := [.int (lpWo (u 2) (lpDel u)), .ref h]) (W.runS (As := [.int (u 2), .int (lpDel u)]) (rest := [.ref h]) ⟨hx, hb, hml, hown, hts⟩ (c_without l dC dI (u 2) (lpDel u)) (cwS 2 hts (gd_S wa_c k_ml_X1_28 k_st_X1_without k_in_X1 k_co_X1_without) rfl rfl rfl (by decide +kernel) ⟨Nat.le_of_ble_eq_true rfl, Nat.le_of_ble_eq_true rfl⟩) (xr_preS hK (hP.sub (ws' := []) [] rfl) xz_Z.nil) rfl rfl hl.1 rfl (lv_room (Nat.le_of_ble_eq_true rfl)) dX1_takeDelivered_18 ⟨Nat.zero_le _, Nat.zero_le _⟩) rfl ?_
    refine va_put (D := (dC, dI)) (ci := 1) (v := .int (lpWo (u 2) (lpDel u))) (ty := .int) (C := RX1) (T := TX1) (N := 19) hx hb hts hin_RX1 tyX1 tyX1_ok nX1 hown hK hP hD hS 0 rfl rfl 2 (by decide) hlk_25 (fun _ h9 => h9) rfl (by decide +kernel) rfl rfl (Nat.le_of_ble_eq_true rfl) dX1_takeDelivered_21 (fun H locs hP hD hS => ?_)
    have hP : va_P (dC, dI) vwCl (cw1 h (upd u 2 (lpWo (u 2) (lpDel u)))) H := hP
    have hD : va_D A (cw1 h (upd u 2 (lpWo (u 2) (lpDel u)))) := hD
    refine lv_aload_n hx hb dX1_takeDelivered_24 rfl (lv_at hl 1 rfl) ?_
    refine va_get (D := (dC, dI)) (ci := 1) (v := .int (u 14)) (C := RX1) (T := TX1) (N := 19) hx hb hts hin_RX1 hown hK hP 0 rfl rfl 14 (by decide) hlk_71 (fun _ h9 => h9) rfl dX1_takeDelivered_25 ?_
    refine lv_if_ne (tgt := 46) hx hb dX1_takeDelivered_28 (by decide) (fun h2 => ?_) (fun h2 => ?_)
    · refine lv_aload_n hx hb dX1_takeDelivered_46 rfl (lv_at hl 1 rfl) ?_
      refine va_get (D := (dC, dI)) (ci := 1) (v := .int (u 15)) (C := RX1) (T := TX1) (N := 19) hx hb hts hin_RX1 hown hK hP 0 rfl rfl 15 (by decide) hlk_74 (fun _ h9 => h9) rfl dX1_takeDelivered_47 ?_
      refine lv_if_eq (tgt := 58) hx hb dX1_takeDelivered_50 (by decide) (fun h3 => ?_) (fun h3 => ?_)
      · refine lv_aload_n hx hb dX1_takeDelivered_58 rfl (lv_at hl 1 rfl) ?_
        refine lv_dup hx hb dX1_takeDelivered_59 rfl ?_
        refine va_get (D := (dC, dI)) (ci := 1) (v := .int (u 17)) (C := RX1) (T := TX1) (N := 19) hx hb hts hin_RX1 hown hK hP 0 rfl rfl 17 (by decide) hlk_77 (fun _ h9 => h9) rfl dX1_takeDelivered_60 ?_
        refine lv_iconst (v := 1) hx hb dX1_takeDelivered_63 (by decide) ?_
        refine lv_iadd hx hb dX1_takeDelivered_64 ?_
        refine va_put (D := (dC, dI)) (ci := 1) (v := .int ((u 17) + 1)) (ty := .int) (C := RX1) (T := TX1) (N := 19) hx hb hts hin_RX1 tyX1 tyX1_ok nX1 hown hK hP hD hS 0 rfl rfl 17 (by decide) hlk_77 (fun _ h9 => h9) rfl (by decide +kernel) rfl rfl (Nat.le_of_ble_eq_true rfl) dX1_takeDelivered_65 (fun H locs hP hD hS => ?_)
        have hP : va_P (dC, dI) vwCl (cw1 h (upd (upd u 2 (lpWo (u 2) (lpDel u))) 17 ((u 17) + 1))) H := hP
        have hD : va_D A (cw1 h (upd (upd u 2 (lpWo (u 2) (lpDel u))) 17 ((u 17) + 1))) := hD
        refine lv_iload_n hx hb dX1_takeDelivered_68 rfl (lv_at hl 0 rfl) ?_
        exact xc_iret (wf := cw1 h) hx hb hr hlocks dX1_takeDelivered_69 hK hP hD hS (by first | (simp only [lpTake, if_neg h1, if_pos h1, if_neg h2, if_pos h2, if_pos h3, if_neg (not_not_intro h3)]; done) | rfl | (simp only [lpTake]; simp only [if_neg h1, if_pos h1, if_neg h2, if_pos h2, if_pos h3, if_neg (not_not_intro h3)]; done) | (simp_all [lpTake]; done)) (by first | (simp only [lpTake, if_neg h1, if_pos h1, if_neg h2, if_pos h2, if_pos h3, if_neg (not_not_intro h3)]; done) | rfl | (simp only [lpTake]; simp only [if_neg h1, if_pos h1, if_neg h2, if_pos h2, if_pos h3, if_neg (not_not_intro h3)]; done) | (simp_all [lpTake]; done))
      · refine lv_aload_n hx hb dX1_takeDelivered_53 rfl (lv_at hl 1 rfl) ?_
        refine lv_iload_n hx hb dX1_takeDelivered_54 rfl (lv_at hl 0 rfl) ?_
        refine va_put (D := (dC, dI)) (ci := 1) (v := .int (lpDel u)) (ty := .int) (C := RX1) (T := TX1) (N := 19) hx hb hts hin_RX1 tyX1 tyX1_ok nX1 hown hK hP hD hS 0 rfl rfl 5 (by decide) hlk_15 (fun _ h9 => h9) rfl (by decide +kernel) rfl rfl (Nat.le_of_ble_eq_true rfl) dX1_takeDelivered_55 (fun H locs hP hD hS => ?_)
        have hP : va_P (dC, dI) vwCl (cw1 h (upd (upd u 2 (lpWo (u 2) (lpDel u))) 5 (lpDel u))) H := hP
        have hD : va_D A (cw1 h (upd (upd u 2 (lpWo (u 2) (lpDel u))) 5 (lpDel u))) := hD
        refine lv_aload_n hx hb dX1_takeDelivered_58 rfl (lv_at hl 1 rfl) ?_
        refine lv_dup hx hb dX1_takeDelivered_59 rfl ?_
        refine va_get (D := (dC, dI)) (ci := 1) (v := .int (u 17)) (C := RX1) (T := TX1) (N := 19) hx hb hts hin_RX1 hown hK hP 0 rfl rfl 17 (by decide) hlk_77 (fun _ h9 => h9) rfl dX1_takeDelivered_60 ?_
        refine lv_iconst (v := 1) hx hb dX1_takeDelivered_63 (by decide) ?_
        refine lv_iadd hx hb dX1_takeDelivered_64 ?_
        refine va_put (D := (dC, dI)) (ci := 1) (v := .int ((u 17) + 1)) (ty := .int) (C := RX1) (T := TX1) (N := 19) hx hb hts hin_RX1 tyX1 tyX1_ok nX1 hown hK hP hD hS 0 rfl rfl 17 (by decide) hlk_77 (fun _ h9 => h9) rfl (by decide +kernel) rfl rfl (Nat.le_of_ble_eq_true rfl) dX1_takeDelivered_65 (fun H locs hP hD hS => ?_)
        have hP : va_P (dC, dI) vwCl (cw1 h (upd (upd (upd u 2 (lpWo (u 2) (lpDel u))) 5 (lpDel u)) 17 ((u 17) + 1))) H := hP
        have hD : va_D A (cw1 h (upd (upd (upd u 2 (lpWo (u 2) (lpDel u))) 5 (lpDel u)) 17 ((u 17) + 1))) := hD
        refine lv_iload_n hx hb dX1_takeDelivered_68 rfl (lv_at hl 0 rfl) ?_
        exact xc_iret (wf := cw1 h) hx hb hr hlocks dX1_takeDelivered_69 hK hP hD hS (by first | (simp only [lpTake, if_neg h1, if_pos h1, if_neg h2, if_pos h2, if_neg h3, if_pos h3]; done) | rfl | (simp only [lpTake]; simp only [if_neg h1, if_pos h1, if_neg h2, if_pos h2, if_neg h3, if_pos h3]; done) | (simp_all [lpTake]; done)) (by first | (simp only [lpTake, if_neg h1, if_pos h1, if_neg h2, if_pos h2, if_neg h3, if_pos h3]; done) | rfl | (simp only [lpTake]; simp only [if_neg h1, if_pos h1, if_neg h2, if_pos h2, if_neg h3, if_pos h3]; done) | (simp_all [lpTake]; done))
    · refine lv_aload_n hx hb dX1_takeDelivered_31 rfl (lv_at hl 1 rfl) ?_
      refine lv_dup hx hb dX1_takeDelivered_32 rfl ?_
      refine va_get (D := (dC, dI)) (ci := 1) (v := .int (u 3)) (C := RX1) (T := TX1) (N := 19) hx hb hts hin_RX1 hown hK hP 0 rfl rfl 3 (by decide) hlk_65 (fun _ h9 => h9) rfl dX1_takeDelivered_33 ?_
      refine lv_iconst (v := 1) hx hb dX1_takeDelivered_36 (by decide) ?_
      refine lv_iload_n hx hb dX1_takeDelivered_37 rfl (lv_at hl 0 rfl) ?_
      refine lv_ishl hx hb dX1_takeDelivered_38 ?_
      refine lv_ior hx hb dX1_takeDelivered_39 ?_
      refine va_put (D := (dC, dI)) (ci := 1) (v := .int ((u 3) ||| ((1 : Int32) <<< ((lpDel u) &&& 31)))) (ty := .int) (C := RX1) (T := TX1) (N := 19) hx hb hts hin_RX1 tyX1 tyX1_ok nX1 hown hK hP hD hS 0 rfl rfl 3 (by decide) hlk_65 (fun _ h9 => h9) rfl (by decide +kernel) rfl rfl (Nat.le_of_ble_eq_true rfl) dX1_takeDelivered_40 (fun H locs hP hD hS => ?_)
      have hP : va_P (dC, dI) vwCl (cw1 h (upd (upd u 2 (lpWo (u 2) (lpDel u))) 3 ((u 3) ||| ((1 : Int32) <<< ((lpDel u) &&& 31))))) H := hP
      have hD : va_D A (cw1 h (upd (upd u 2 (lpWo (u 2) (lpDel u))) 3 ((u 3) ||| ((1 : Int32) <<< ((lpDel u) &&& 31))))) := hD
      refine lv_goto (tgt := 58) hx hb dX1_takeDelivered_43 (by decide) ?_
      refine lv_aload_n hx hb dX1_takeDelivered_58 rfl (lv_at hl 1 rfl) ?_
      refine lv_dup hx hb dX1_takeDelivered_59 rfl ?_
      refine va_get (D := (dC, dI)) (ci := 1) (v := .int (u 17)) (C := RX1) (T := TX1) (N := 19) hx hb hts hin_RX1 hown hK hP 0 rfl rfl 17 (by decide) hlk_77 (fun _ h9 => h9) rfl dX1_takeDelivered_60 ?_
      refine lv_iconst (v := 1) hx hb dX1_takeDelivered_63 (by decide) ?_
      refine lv_iadd hx hb dX1_takeDelivered_64 ?_
      refine va_put (D := (dC, dI)) (ci := 1) (v := .int ((u 17) + 1)) (ty := .int) (C := RX1) (T := TX1) (N := 19) hx hb hts hin_RX1 tyX1 tyX1_ok nX1 hown hK hP hD hS 0 rfl rfl 17 (by decide) hlk_77 (fun _ h9 => h9) rfl (by decide +kernel) rfl rfl (Nat.le_of_ble_eq_true rfl) dX1_takeDelivered_65 (fun H locs hP hD hS => ?_)
      have hP : va_P (dC, dI) vwCl (cw1 h (upd (upd (upd u 2 (lpWo (u 2) (lpDel u))) 3 ((u 3) ||| ((1 : Int32) <<< ((lpDel u) &&& 31)))) 17 ((u 17) + 1))) H := hP
      have hD : va_D A (cw1 h (upd (upd (upd u 2 (lpWo (u 2) (lpDel u))) 3 ((u 3) ||| ((1 : Int32) <<< ((lpDel u) &&& 31)))) 17 ((u 17) + 1))) := hD
      refine lv_iload_n hx hb dX1_takeDelivered_68 rfl (lv_at hl 0 rfl) ?_
      exact xc_iret (wf := cw1 h) hx hb hr hlocks dX1_takeDelivered_69 hK hP hD hS (by first | (simp only [lpTake, if_neg h1, if_pos h1, if_pos h2, if_neg (not_not_intro h2)]; done) | rfl | (simp only [lpTake]; simp only [if_neg h1, if_pos h1, if_pos h2, if_neg (not_not_intro h2)]; done) | (simp_all [lpTake]; done)) (by first | (simp only [lpTake, if_neg h1, if_pos h1, if_pos h2, if_neg (not_not_intro h2)]; done) | rfl | (simp only [lpTake]; simp only [if_neg h1, if_pos h1, if_pos h2, if_neg (not_not_intro h2)]; done) | (simp_all [lpTake]; done))
  · refine lv_iconst (v := -1) hx hb dX1_takeDelivered_10 (by decide) ?_
    exact xc_iret (wf := cw1 h) hx hb hr hlocks dX1_takeDelivered_11 hK hP hD hS (by first | (simp only [lpTake, if_pos h1, if_neg (not_not_intro h1)]; done) | rfl | (simp only [lpTake]; simp only [if_pos h1, if_neg (not_not_intro h1)]; done) | (simp_all [lpTake]; done)) (by first | (simp only [lpTake, if_pos h1, if_neg (not_not_intro h1)]; done) | rfl | (simp only [lpTake]; simp only [if_pos h1, if_neg (not_not_intro h1)]; done) | (simp_all [lpTake]; done))

set_option maxHeartbeats 4000000 in
set_option maxRecDepth 100000 in
theorem c_answerAtPort0 (l : Launch) (dC : Nat → ClassId) (dI : Nat → Nat → Nat) (h : Nat) (sz : Nat) (u : Nat → Int32) : xc_M l yX1_answerAtPort0 wsX1_answerAtPort0 ({ frames := 4, cells := 0, slots := 0, locals := 87 }) [.ref h] sz (dC, dI) vwCl [] [] (cw1 h u) (some (.int (lpAnsR u))) (cw1 h (lpAns u)) 0 0 := by
  refine Met.ofW (cc := cX1_answerAtPort0) (maxL := 2) (ret := (some .int)) (by decide) rfl ?_
  intro p e s m args below meth c s₁ B hml hv
  obtain ⟨rfl, hsz, hP, hK, hD0, hZ⟩ := hv
  have hx := B.exec
  have hb := B.bytes
  have hr := B.returns
  have hts := atoms_spec (ws := wsX1_answerAtPort0) B.pre
  have hown : s.vm.findClass RX1 = some m.cls := findClass_of_methodNamed B.named
  have hlocks := B.notSynchronized
  subst hsz
  have hD := hD0.self (sz := s.heap.size)
  generalize hAe : va_A (cw1 h u) s.heap.size = A at hD ⊢
  have hA : ∀ q : Nat, s.heap.size ≤ q → A q := fun q h => by rw [← hAe]; exact Or.inr h
  have hS : va_S A s.heap s.heap [] := va_S.rf
  have hin_RX1 : ∀ w ∈ u_ws RX1 TX1 19, w ∈ wsX1_answerAtPort0 := fun w h => List.mem_cons_of_mem _ (u_X1 w h)
  have hlk_65 := hts _ (List.mem_cons_of_mem _ k_fl_X1_65)
  have hlk_83 := hts _ (List.mem_cons_of_mem _ k_fl_X1_83)
  have hlk_89 := hts _ (List.mem_cons_of_mem _ k_fl_X1_89)
  have hl := lv_entry ([.ref h]) (n := 2) (Nat.le_of_ble_eq_true rfl)
  rw [lg_entry_eq]
  generalize (lg_sl ([.ref h]) ++ List.replicate (2 - (lg_sl ([.ref h])).length) Slot.unset).toArray = ls at hl ⊢
  have hl : lv_has ls 2 [(0, .ref h)] := hl
  refine lv_aload_n hx hb dX1_answerAtPort0_0 rfl (lv_at hl 0 rfl) ?_
  refine va_get (D := (dC, dI)) (ci := 1) (v := .int (u 16)) (C := RX1) (T := TX1) (N := 19) hx hb hts hin_RX1 hown hK hP 0 rfl rfl 16 (by decide) hlk_83 (fun _ h9 => h9) rfl dX1_answerAtPort0_1 ?_
  refine lv_if_eq (tgt := 32) hx hb dX1_answerAtPort0_4 (by decide) (fun h1 => ?_) (fun h1 => ?_)
  · refine lv_aload_n hx hb dX1_answerAtPort0_32 rfl (lv_at hl 0 rfl) ?_
    refine va_get (D := (dC, dI)) (ci := 1) (v := .int (u 8)) (C := RX1) (T := TX1) (N := 19) hx hb hts hin_RX1 hown hK hP 0 rfl rfl 8 (by decide) hlk_89 (fun _ h9 => h9) rfl dX1_answerAtPort0_33 ?_
    refine lv_if_ne (tgt := 46) hx hb dX1_answerAtPort0_36 (by decide) (fun h2 => ?_) (fun h2 => ?_)
    · refine lv_aload_n hx hb dX1_answerAtPort0_46 rfl (lv_at hl 0 rfl) ?_
      refine va_get (D := (dC, dI)) (ci := 1) (v := .int (u 3)) (C := RX1) (T := TX1) (N := 19) hx hb hts hin_RX1 hown hK hP 0 rfl rfl 3 (by decide) hlk_65 (fun _ h9 => h9) rfl dX1_answerAtPort0_47 ?_
      exact xc_iret (wf := cw1 h) hx hb hr hlocks dX1_answerAtPort0_50 hK hP hD hS (by first | (simp only [lpAnsR, lpAns, if_pos h1, if_neg (not_not_intro h1), if_neg h2, if_pos h2]; done) | rfl | (simp only [lpAnsR, lpAns]; simp only [if_pos h1, if_neg (not_not_intro h1), if_neg h2, if_pos h2]; done) | (simp_all [lpAnsR, lpAns]; done)) (by first | (simp only [lpAnsR, lpAns, if_pos h1, if_neg (not_not_intro h1), if_neg h2, if_pos h2]; done) | rfl | (simp only [lpAnsR, lpAns]; simp only [if_pos h1, if_neg (not_not_intro h1), if_neg h2, if_pos h2]; done) | (simp_all [lpAnsR, lpAns]; done))
    · refine lv_aload_n hx hb dX1_answerAtPort0_39 rfl (lv_at hl 0 rfl) ?_
      refine xr_call (st1 := [.int (lpReq u)]) (W.runV (As := []) (rest := []) ⟨hx, hb, hml, hown, hts⟩ (c_requested l dC dI h u) (cwV 0 hts (gd_V wa_c k_ml_X1_39 k_im_X1_requested k_se_X1_requested k_in_X1 k_co_X1_requested) rfl rfl rfl (by decide +kernel) ⟨Nat.le_of_ble_eq_true rfl, Nat.le_of_ble_eq_true rfl⟩) (xr_preV (q0 := 0) (C := RX1) hK hP xz_Z.nil rfl rfl) rfl rfl hl.1 rfl (lv_room (Nat.le_of_ble_eq_true rfl)) dX1_answerAtPort0_40 ⟨Nat.zero_le _, Nat.zero_le _⟩) rfl ?_
      refine lv_goto (tgt := 50) hx hb dX1_answerAtPort0_43 (by decide) ?_
      exact xc_iret (wf := cw1 h) hx hb hr hlocks dX1_answerAtPort0_50 hK hP hD hS (by first | (simp only [lpAnsR, lpAns, if_pos h1, if_neg (not_not_intro h1), if_pos h2, if_neg (not_not_intro h2)]; done) | rfl | (simp only [lpAnsR, lpAns]; simp only [if_pos h1, if_neg (not_not_intro h1), if_pos h2, if_neg (not_not_intro h2)]; done) | (simp_all [lpAnsR, lpAns]; done)) (by first | (simp only [lpAnsR, lpAns, if_pos h1, if_neg (not_not_intro h1), if_pos h2, if_neg (not_not_intro h2)]; done) | rfl | (simp only [lpAnsR, lpAns]; simp only [if_pos h1, if_neg (not_not_intro h1), if_pos h2, if_neg (not_not_intro h2)]; done) | (simp_all [lpAnsR, lpAns]; done))
  · refine lv_aload_n hx hb dX1_answerAtPort0_7 rfl (lv_at hl 0 rfl) ?_
    refine lv_iconst (v := 0) hx hb dX1_answerAtPort0_8 (by decide) ?_
    refine va_put (D := (dC, dI)) (ci := 1) (v := .int 0) (ty := .boolean) (C := RX1) (T := TX1) (N := 19) hx hb hts hin_RX1 tyX1 tyX1_ok nX1 hown hK hP hD hS 0 rfl rfl 16 (by decide) hlk_83 (fun _ h9 => h9) rfl (by decide +kernel) rfl rfl (Nat.le_of_ble_eq_true rfl) dX1_answerAtPort0_9 (fun H locs hP hD hS => ?_)
    have hP : va_P (dC, dI) vwCl (cw1 h (upd u 16 0)) H := hP
    have hD : va_D A (cw1 h (upd u 16 0)) := hD
    refine lv_aload_n hx hb dX1_answerAtPort0_12 rfl (lv_at hl 0 rfl) ?_
    refine xc_call (wc := cw1 h (upd u 16 0)) (wr := []) (st1 := [.int (lpDel (upd u 16 0))]) (va_runV (As := []) (rest := []) ⟨hx, hb, hml, hown, hts⟩ (c_takeDelivered l dC dI h H.size (upd u 16 0)) (cwV 0 hts (gd_V wa_c k_ml_X1_86 k_im_X1_takeDelivered k_se_X1_takeDelivered k_in_X1 k_co_X1_takeDelivered) rfl rfl rfl (by decide +kernel) ⟨Nat.le_of_ble_eq_true rfl, Nat.le_of_ble_eq_true rfl⟩) (xc_preV (q0 := 0) (C := RX1) hK hP hD xz_Z.nil rfl rfl) rfl rfl hl.1 rfl (lv_room (Nat.le_of_ble_eq_true rfl)) dX1_answerAtPort0_13 ⟨Nat.zero_le _, Nat.zero_le _⟩) hP hD hS hA [0] [] rfl rfl (by decide) (by decide) rfl (fun H locs hP hD hS _ => ?_)
    have hP : va_P (dC, dI) vwCl (cw1 h (lpTake (upd u 16 0))) H := hP
    have hD : va_D A (cw1 h (lpTake (upd u 16 0))) := hD
    refine lv_istore_n (lv' := [(1, .int (lpDel (upd u 16 0))), (0, .ref h)]) hx hb dX1_answerAtPort0_16 rfl hl (by decide) rfl (fun ls hl => ?_)
    refine lv_iload_n hx hb dX1_answerAtPort0_17 rfl (lv_at hl 0 rfl) ?_
    refine lv_iconst (v := -1) hx hb dX1_answerAtPort0_18 (by decide) ?_
    refine lv_icmp_ne (tgt := 26) hx hb dX1_answerAtPort0_19 (by decide) (fun h3 => ?_) (fun h3 => ?_)
    · refine lv_sipush (v := 128) hx hb dX1_answerAtPort0_26 (by decide) ?_
      refine lv_iload_n hx hb dX1_answerAtPort0_29 rfl (lv_at hl 0 rfl) ?_
      refine lv_iadd hx hb dX1_answerAtPort0_30 ?_
      exact xc_iret (wf := cw1 h) hx hb hr hlocks dX1_answerAtPort0_31 hK hP hD hS (by first | (simp only [lpAnsR, lpAns, if_neg h1, if_pos h1, if_neg h3, if_pos h3]; done) | rfl | (simp only [lpAnsR, lpAns]; simp only [if_neg h1, if_pos h1, if_neg h3, if_pos h3]; done) | (simp_all [lpAnsR, lpAns]; done)) (by first | (simp only [lpAnsR, lpAns, if_neg h1, if_pos h1, if_neg h3, if_pos h3]; done) | rfl | (simp only [lpAnsR, lpAns]; simp only [if_neg h1, if_pos h1, if_neg h3, if_pos h3]; done) | (simp_all [lpAnsR, lpAns]; done))
    · refine lv_iconst (v := 0) hx hb dX1_answerAtPort0_22 (by decide) ?_
      refine lv_goto (tgt := 31) hx hb dX1_answerAtPort0_23 (by decide) ?_
      exact xc_iret (wf := cw1 h) hx hb hr hlocks dX1_answerAtPort0_31 hK hP hD hS (by first | (simp only [lpAnsR, lpAns, if_neg h1, if_pos h1, if_pos h3, if_neg (not_not_intro h3)]; done) | rfl | (simp only [lpAnsR, lpAns]; simp only [if_neg h1, if_pos h1, if_pos h3, if_neg (not_not_intro h3)]; done) | (simp_all [lpAnsR, lpAns]; done)) (by first | (simp only [lpAnsR, lpAns, if_neg h1, if_pos h1, if_pos h3, if_neg (not_not_intro h3)]; done) | rfl | (simp only [lpAnsR, lpAns]; simp only [if_neg h1, if_pos h1, if_pos h3, if_neg (not_not_intro h3)]; done) | (simp_all [lpAnsR, lpAns]; done))

set_option maxHeartbeats 4000000 in
set_option maxRecDepth 100000 in
theorem c_begin (l : Launch) (dC : Nat → ClassId) (dI : Nat → Nat → Nat) (h : Nat) (sz : Nat) (u : Nat → Int32) (w : Int32) : xc_M l yX1_begin wsX1_begin ({ frames := 1, cells := 0, slots := 0, locals := 21 }) [.ref h, .int w] sz (dC, dI) vwCl [] [] (cw1 h u) none (cw1 h (lpBegin u w)) 0 0 := by
  refine Met.ofW (cc := cX1_begin) (maxL := 2) (ret := none) (by decide) rfl ?_
  intro p e s m args below meth c s₁ B hml hv
  obtain ⟨rfl, hsz, hP, hK, hD0, hZ⟩ := hv
  have hx := B.exec
  have hb := B.bytes
  have hr := B.returns
  have hts := atoms_spec (ws := wsX1_begin) B.pre
  have hown : s.vm.findClass RX1 = some m.cls := findClass_of_methodNamed B.named
  have hlocks := B.notSynchronized
  subst hsz
  have hD := hD0.self (sz := s.heap.size)
  generalize hAe : va_A (cw1 h u) s.heap.size = A at hD ⊢
  have hA : ∀ q : Nat, s.heap.size ≤ q → A q := fun q h => by rw [← hAe]; exact Or.inr h
  have hS : va_S A s.heap s.heap [] := va_S.rf
  have hin_RX1 : ∀ w ∈ u_ws RX1 TX1 19, w ∈ wsX1_begin := fun w h => List.mem_cons_of_mem _ (u_X1 w h)
  have hlk_15 := hts _ (List.mem_cons_of_mem _ k_fl_X1_15)
  have hlk_25 := hts _ (List.mem_cons_of_mem _ k_fl_X1_25)
  have hlk_32 := hts _ (List.mem_cons_of_mem _ k_fl_X1_32)
  have hlk_36 := hts _ (List.mem_cons_of_mem _ k_fl_X1_36)
  have hlk_43 := hts _ (List.mem_cons_of_mem _ k_fl_X1_43)
  have hlk_59 := hts _ (List.mem_cons_of_mem _ k_fl_X1_59)
  have hlk_62 := hts _ (List.mem_cons_of_mem _ k_fl_X1_62)
  have hlk_65 := hts _ (List.mem_cons_of_mem _ k_fl_X1_65)
  have hlk_71 := hts _ (List.mem_cons_of_mem _ k_fl_X1_71)
  have hlk_74 := hts _ (List.mem_cons_of_mem _ k_fl_X1_74)
  have hlk_83 := hts _ (List.mem_cons_of_mem _ k_fl_X1_83)
  have hlk_89 := hts _ (List.mem_cons_of_mem _ k_fl_X1_89)
  have hlk_103 := hts _ (List.mem_cons_of_mem _ k_fl_X1_103)
  have hlk_106 := hts _ (List.mem_cons_of_mem _ k_fl_X1_106)
  have hl := lv_entry ([.ref h, .int w]) (n := 2) (Nat.le_of_ble_eq_true rfl)
  rw [lg_entry_eq]
  generalize (lg_sl ([.ref h, .int w]) ++ List.replicate (2 - (lg_sl ([.ref h, .int w])).length) Slot.unset).toArray = ls at hl ⊢
  have hl : lv_has ls 2 [(0, .ref h), (1, .int w)] := hl
  refine lv_aload_n hx hb dX1_begin_0 rfl (lv_at hl 0 rfl) ?_
  refine lv_iconst (v := 0) hx hb dX1_begin_1 (by decide) ?_
  refine va_put (D := (dC, dI)) (ci := 1) (v := .int 0) (ty := .int) (C := RX1) (T := TX1) (N := 19) hx hb hts hin_RX1 tyX1 tyX1_ok nX1 hown hK hP hD hS 0 rfl rfl 4 (by decide) hlk_43 (fun _ h9 => h9) rfl (by decide +kernel) rfl rfl (Nat.le_of_ble_eq_true rfl) dX1_begin_2 (fun H locs hP hD hS => ?_)
  have hP : va_P (dC, dI) vwCl (cw1 h (upd u 4 0)) H := hP
  have hD : va_D A (cw1 h (upd u 4 0)) := hD
  refine lv_aload_n hx hb dX1_begin_5 rfl (lv_at hl 0 rfl) ?_
  refine lv_iconst (v := 0) hx hb dX1_begin_6 (by decide) ?_
  refine va_put (D := (dC, dI)) (ci := 1) (v := .int 0) (ty := .int) (C := RX1) (T := TX1) (N := 19) hx hb hts hin_RX1 tyX1 tyX1_ok nX1 hown hK hP hD hS 0 rfl rfl 3 (by decide) hlk_65 (fun _ h9 => h9) rfl (by decide +kernel) rfl rfl (Nat.le_of_ble_eq_true rfl) dX1_begin_7 (fun H locs hP hD hS => ?_)
  have hP : va_P (dC, dI) vwCl (cw1 h (upd (upd u 4 0) 3 0)) H := hP
  have hD : va_D A (cw1 h (upd (upd u 4 0) 3 0)) := hD
  refine lv_aload_n hx hb dX1_begin_10 rfl (lv_at hl 0 rfl) ?_
  refine lv_iconst (v := 0) hx hb dX1_begin_11 (by decide) ?_
  refine va_put (D := (dC, dI)) (ci := 1) (v := .int 0) (ty := .int) (C := RX1) (T := TX1) (N := 19) hx hb hts hin_RX1 tyX1 tyX1_ok nX1 hown hK hP hD hS 0 rfl rfl 2 (by decide) hlk_25 (fun _ h9 => h9) rfl (by decide +kernel) rfl rfl (Nat.le_of_ble_eq_true rfl) dX1_begin_12 (fun H locs hP hD hS => ?_)
  have hP : va_P (dC, dI) vwCl (cw1 h (upd (upd (upd u 4 0) 3 0) 2 0)) H := hP
  have hD : va_D A (cw1 h (upd (upd (upd u 4 0) 3 0) 2 0)) := hD
  refine lv_aload_n hx hb dX1_begin_15 rfl (lv_at hl 0 rfl) ?_
  refine lv_bipush (v := 7) hx hb dX1_begin_16 (by decide) ?_
  refine va_put (D := (dC, dI)) (ci := 1) (v := .int 7) (ty := .int) (C := RX1) (T := TX1) (N := 19) hx hb hts hin_RX1 tyX1 tyX1_ok nX1 hown hK hP hD hS 0 rfl rfl 5 (by decide) hlk_15 (fun _ h9 => h9) rfl (by decide +kernel) rfl rfl (Nat.le_of_ble_eq_true rfl) dX1_begin_18 (fun H locs hP hD hS => ?_)
  have hP : va_P (dC, dI) vwCl (cw1 h (upd (upd (upd (upd u 4 0) 3 0) 2 0) 5 7)) H := hP
  have hD : va_D A (cw1 h (upd (upd (upd (upd u 4 0) 3 0) 2 0) 5 7)) := hD
  refine lv_aload_n hx hb dX1_begin_21 rfl (lv_at hl 0 rfl) ?_
  refine lv_iload_n hx hb dX1_begin_22 rfl (lv_at hl 1 rfl) ?_
  refine lv_iconst (v := 3) hx hb dX1_begin_23 (by decide) ?_
  refine xr_call (st1 := [.int (lpHas w 3), .ref h]) (W.runS (As := [.int w, .int 3]) (rest := [.ref h]) ⟨hx, hb, hml, hown, hts⟩ (c_hasBit l dC dI w 3) (cwS 2 hts (gd_S wa_c k_ml_X1_21 k_st_X1_hasBit k_in_X1 k_co_X1_hasBit) rfl rfl rfl (by decide +kernel) ⟨Nat.le_of_ble_eq_true rfl, Nat.le_of_ble_eq_true rfl⟩) (xr_preS hK (hP.sub (ws' := []) [] rfl) xz_Z.nil) rfl rfl hl.1 rfl (lv_room (Nat.le_of_ble_eq_true rfl)) dX1_begin_24 ⟨Nat.zero_le _, Nat.zero_le _⟩) rfl ?_
  refine va_put (D := (dC, dI)) (ci := 1) (v := .int (lpHas w 3)) (ty := .boolean) (C := RX1) (T := TX1) (N := 19) hx hb hts hin_RX1 tyX1 tyX1_ok nX1 hown hK hP hD hS 0 rfl rfl 11 (by decide) hlk_32 (fun _ h9 => h9) rfl (by decide +kernel) (lpHas_nar _ _) (lpHas_fit _ _) (Nat.le_of_ble_eq_true rfl) dX1_begin_27 (fun H locs hP hD hS => ?_)
  have hP : va_P (dC, dI) vwCl (cw1 h (upd (upd (upd (upd (upd u 4 0) 3 0) 2 0) 5 7) 11 (lpHas w 3))) H := hP
  have hD : va_D A (cw1 h (upd (upd (upd (upd (upd u 4 0) 3 0) 2 0) 5 7) 11 (lpHas w 3))) := hD
  refine lv_aload_n hx hb dX1_begin_30 rfl (lv_at hl 0 rfl) ?_
  refine lv_iconst (v := 0) hx hb dX1_begin_31 (by decide) ?_
  refine va_put (D := (dC, dI)) (ci := 1) (v := .int 0) (ty := .boolean) (C := RX1) (T := TX1) (N := 19) hx hb hts hin_RX1 tyX1 tyX1_ok nX1 hown hK hP hD hS 0 rfl rfl 12 (by decide) hlk_62 (fun _ h9 => h9) rfl (by decide +kernel) rfl rfl (Nat.le_of_ble_eq_true rfl) dX1_begin_32 (fun H locs hP hD hS => ?_)
  have hP : va_P (dC, dI) vwCl (cw1 h (upd (upd (upd (upd (upd (upd u 4 0) 3 0) 2 0) 5 7) 11 (lpHas w 3)) 12 0)) H := hP
  have hD : va_D A (cw1 h (upd (upd (upd (upd (upd (upd u 4 0) 3 0) 2 0) 5 7) 11 (lpHas w 3)) 12 0)) := hD
  refine lv_aload_n hx hb dX1_begin_35 rfl (lv_at hl 0 rfl) ?_
  refine lv_iconst (v := 0) hx hb dX1_begin_36 (by decide) ?_
  refine va_put (D := (dC, dI)) (ci := 1) (v := .int 0) (ty := .boolean) (C := RX1) (T := TX1) (N := 19) hx hb hts hin_RX1 tyX1 tyX1_ok nX1 hown hK hP hD hS 0 rfl rfl 13 (by decide) hlk_59 (fun _ h9 => h9) rfl (by decide +kernel) rfl rfl (Nat.le_of_ble_eq_true rfl) dX1_begin_37 (fun H locs hP hD hS => ?_)
  have hP : va_P (dC, dI) vwCl (cw1 h (upd (upd (upd (upd (upd (upd (upd u 4 0) 3 0) 2 0) 5 7) 11 (lpHas w 3)) 12 0) 13 0)) H := hP
  have hD : va_D A (cw1 h (upd (upd (upd (upd (upd (upd (upd u 4 0) 3 0) 2 0) 5 7) 11 (lpHas w 3)) 12 0) 13 0)) := hD
  refine lv_aload_n hx hb dX1_begin_40 rfl (lv_at hl 0 rfl) ?_
  refine lv_iconst (v := 0) hx hb dX1_begin_41 (by decide) ?_
  refine va_put (D := (dC, dI)) (ci := 1) (v := .int 0) (ty := .boolean) (C := RX1) (T := TX1) (N := 19) hx hb hts hin_RX1 tyX1 tyX1_ok nX1 hown hK hP hD hS 0 rfl rfl 14 (by decide) hlk_71 (fun _ h9 => h9) rfl (by decide +kernel) rfl rfl (Nat.le_of_ble_eq_true rfl) dX1_begin_42 (fun H locs hP hD hS => ?_)
  have hP : va_P (dC, dI) vwCl (cw1 h (upd (upd (upd (upd (upd (upd (upd (upd u 4 0) 3 0) 2 0) 5 7) 11 (lpHas w 3)) 12 0) 13 0) 14 0)) H := hP
  have hD : va_D A (cw1 h (upd (upd (upd (upd (upd (upd (upd (upd u 4 0) 3 0) 2 0) 5 7) 11 (lpHas w 3)) 12 0) 13 0) 14 0)) := hD
  refine lv_aload_n hx hb dX1_begin_45 rfl (lv_at hl 0 rfl) ?_
  refine lv_iconst (v := 0) hx hb dX1_begin_46 (by decide) ?_
  refine va_put (D := (dC, dI)) (ci := 1) (v := .int 0) (ty := .boolean) (C := RX1) (T := TX1) (N := 19) hx hb hts hin_RX1 tyX1 tyX1_ok nX1 hown hK hP hD hS 0 rfl rfl 15 (by decide) hlk_74 (fun _ h9 => h9) rfl (by decide +kernel) rfl rfl (Nat.le_of_ble_eq_true rfl) dX1_begin_47 (fun H locs hP hD hS => ?_)
  have hP : va_P (dC, dI) vwCl (cw1 h (upd (upd (upd (upd (upd (upd (upd (upd (upd u 4 0) 3 0) 2 0) 5 7) 11 (lpHas w 3)) 12 0) 13 0) 14 0) 15 0)) H := hP
  have hD : va_D A (cw1 h (upd (upd (upd (upd (upd (upd (upd (upd (upd u 4 0) 3 0) 2 0) 5 7) 11 (lpHas w 3)) 12 0) 13 0) 14 0) 15 0)) := hD
  refine lv_aload_n hx hb dX1_begin_50 rfl (lv_at hl 0 rfl) ?_
  refine lv_iconst (v := 0) hx hb dX1_begin_51 (by decide) ?_
  refine va_put (D := (dC, dI)) (ci := 1) (v := .int 0) (ty := .boolean) (C := RX1) (T := TX1) (N := 19) hx hb hts hin_RX1 tyX1 tyX1_ok nX1 hown hK hP hD hS 0 rfl rfl 16 (by decide) hlk_83 (fun _ h9 => h9) rfl (by decide +kernel) rfl rfl (Nat.le_of_ble_eq_true rfl) dX1_begin_52 (fun H locs hP hD hS => ?_)
  have hP : va_P (dC, dI) vwCl (cw1 h (upd (upd (upd (upd (upd (upd (upd (upd (upd (upd u 4 0) 3 0) 2 0) 5 7) 11 (lpHas w 3)) 12 0) 13 0) 14 0) 15 0) 16 0)) H := hP
  have hD : va_D A (cw1 h (upd (upd (upd (upd (upd (upd (upd (upd (upd (upd u 4 0) 3 0) 2 0) 5 7) 11 (lpHas w 3)) 12 0) 13 0) 14 0) 15 0) 16 0)) := hD
  refine lv_aload_n hx hb dX1_begin_55 rfl (lv_at hl 0 rfl) ?_
  refine lv_iconst (v := 0) hx hb dX1_begin_56 (by decide) ?_
  refine va_put (D := (dC, dI)) (ci := 1) (v := .int 0) (ty := .int) (C := RX1) (T := TX1) (N := 19) hx hb hts hin_RX1 tyX1 tyX1_ok nX1 hown hK hP hD hS 0 rfl rfl 8 (by decide) hlk_89 (fun _ h9 => h9) rfl (by decide +kernel) rfl rfl (Nat.le_of_ble_eq_true rfl) dX1_begin_57 (fun H locs hP hD hS => ?_)
  have hP : va_P (dC, dI) vwCl (cw1 h (upd (upd (upd (upd (upd (upd (upd (upd (upd (upd (upd u 4 0) 3 0) 2 0) 5 7) 11 (lpHas w 3)) 12 0) 13 0) 14 0) 15 0) 16 0) 8 0)) H := hP
  have hD : va_D A (cw1 h (upd (upd (upd (upd (upd (upd (upd (upd (upd (upd (upd u 4 0) 3 0) 2 0) 5 7) 11 (lpHas w 3)) 12 0) 13 0) 14 0) 15 0) 16 0) 8 0)) := hD
  refine lv_aload_n hx hb dX1_begin_60 rfl (lv_at hl 0 rfl) ?_
  refine lv_iconst (v := 0) hx hb dX1_begin_61 (by decide) ?_
  refine va_put (D := (dC, dI)) (ci := 1) (v := .int 0) (ty := .boolean) (C := RX1) (T := TX1) (N := 19) hx hb hts hin_RX1 tyX1 tyX1_ok nX1 hown hK hP hD hS 0 rfl rfl 10 (by decide) hlk_36 (fun _ h9 => h9) rfl (by decide +kernel) rfl rfl (Nat.le_of_ble_eq_true rfl) dX1_begin_62 (fun H locs hP hD hS => ?_)
  have hP : va_P (dC, dI) vwCl (cw1 h (upd (upd (upd (upd (upd (upd (upd (upd (upd (upd (upd (upd u 4 0) 3 0) 2 0) 5 7) 11 (lpHas w 3)) 12 0) 13 0) 14 0) 15 0) 16 0) 8 0) 10 0)) H := hP
  have hD : va_D A (cw1 h (upd (upd (upd (upd (upd (upd (upd (upd (upd (upd (upd (upd u 4 0) 3 0) 2 0) 5 7) 11 (lpHas w 3)) 12 0) 13 0) 14 0) 15 0) 16 0) 8 0) 10 0)) := hD
  refine lv_aload_n hx hb dX1_begin_65 rfl (lv_at hl 0 rfl) ?_
  refine lv_iconst (v := 2) hx hb dX1_begin_66 (by decide) ?_
  refine va_put (D := (dC, dI)) (ci := 1) (v := .int 2) (ty := .int) (C := RX1) (T := TX1) (N := 19) hx hb hts hin_RX1 tyX1 tyX1_ok nX1 hown hK hP hD hS 0 rfl rfl 7 (by decide) hlk_103 (fun _ h9 => h9) rfl (by decide +kernel) rfl rfl (Nat.le_of_ble_eq_true rfl) dX1_begin_67 (fun H locs hP hD hS => ?_)
  have hP : va_P (dC, dI) vwCl (cw1 h (upd (upd (upd (upd (upd (upd (upd (upd (upd (upd (upd (upd (upd u 4 0) 3 0) 2 0) 5 7) 11 (lpHas w 3)) 12 0) 13 0) 14 0) 15 0) 16 0) 8 0) 10 0) 7 2)) H := hP
  have hD : va_D A (cw1 h (upd (upd (upd (upd (upd (upd (upd (upd (upd (upd (upd (upd (upd u 4 0) 3 0) 2 0) 5 7) 11 (lpHas w 3)) 12 0) 13 0) 14 0) 15 0) 16 0) 8 0) 10 0) 7 2)) := hD
  refine lv_aload_n hx hb dX1_begin_70 rfl (lv_at hl 0 rfl) ?_
  refine lv_iload_n hx hb dX1_begin_71 rfl (lv_at hl 1 rfl) ?_
  refine lv_iconst (v := 0) hx hb dX1_begin_72 (by decide) ?_
  refine xr_call (st1 := [.int (lpHas w 0), .ref h]) (W.runS (As := [.int w, .int 0]) (rest := [.ref h]) ⟨hx, hb, hml, hown, hts⟩ (c_hasBit l dC dI w 0) (cwS 2 hts (gd_S wa_c k_ml_X1_21 k_st_X1_hasBit k_in_X1 k_co_X1_hasBit) rfl rfl rfl (by decide +kernel) ⟨Nat.le_of_ble_eq_true rfl, Nat.le_of_ble_eq_true rfl⟩) (xr_preS hK (hP.sub (ws' := []) [] rfl) xz_Z.nil) rfl rfl hl.1 rfl (lv_room (Nat.le_of_ble_eq_true rfl)) dX1_begin_73 ⟨Nat.zero_le _, Nat.zero_le _⟩) rfl ?_
  refine va_put (D := (dC, dI)) (ci := 1) (v := .int (lpHas w 0)) (ty := .boolean) (C := RX1) (T := TX1) (N := 19) hx hb hts hin_RX1 tyX1 tyX1_ok nX1 hown hK hP hD hS 0 rfl rfl 9 (by decide) hlk_106 (fun _ h9 => h9) rfl (by decide +kernel) (lpHas_nar _ _) (lpHas_fit _ _) (Nat.le_of_ble_eq_true rfl) dX1_begin_76 (fun H locs hP hD hS => ?_)
  have hP : va_P (dC, dI) vwCl (cw1 h (upd (upd (upd (upd (upd (upd (upd (upd (upd (upd (upd (upd (upd (upd u 4 0) 3 0) 2 0) 5 7) 11 (lpHas w 3)) 12 0) 13 0) 14 0) 15 0) 16 0) 8 0) 10 0) 7 2) 9 (lpHas w 0))) H := hP
  have hD : va_D A (cw1 h (upd (upd (upd (upd (upd (upd (upd (upd (upd (upd (upd (upd (upd (upd u 4 0) 3 0) 2 0) 5 7) 11 (lpHas w 3)) 12 0) 13 0) 14 0) 15 0) 16 0) 8 0) 10 0) 7 2) 9 (lpHas w 0))) := hD
  exact xc_vret (wf := cw1 h) hx hb hr hlocks dX1_begin_79 hK hP hD hS (by first | (simp only [lpBegin]; done) | rfl | (simp_all [lpBegin]; done))

set_option maxHeartbeats 4000000 in
set_option maxRecDepth 100000 in
theorem c_choose (l : Launch) (dC : Nat → ClassId) (dI : Nat → Nat → Nat) (h : Nat) (sz : Nat) (u : Nat → Int32) (w : Int32) : xc_M l yX1_choose wsX1_choose ({ frames := 1, cells := 0, slots := 0, locals := 21 }) [.ref h, .int w] sz (dC, dI) vwCl [] [] (cw1 h u) none (cw1 h (lpChoose u w)) 0 0 := by
  refine Met.ofW (cc := cX1_choose) (maxL := 2) (ret := none) (by decide) rfl ?_
  intro p e s m args below meth c s₁ B hml hv
  obtain ⟨rfl, hsz, hP, hK, hD0, hZ⟩ := hv
  have hx := B.exec
  have hb := B.bytes
  have hr := B.returns
  have hts := atoms_spec (ws := wsX1_choose) B.pre
  have hown : s.vm.findClass RX1 = some m.cls := findClass_of_methodNamed B.named
  have hlocks := B.notSynchronized
  subst hsz
  have hD := hD0.self (sz := s.heap.size)
  generalize hAe : va_A (cw1 h u) s.heap.size = A at hD ⊢
  have hA : ∀ q : Nat, s.heap.size ≤ q → A q := fun q h => by rw [← hAe]; exact Or.inr h
  have hS : va_S A s.heap s.heap [] := va_S.rf
  have hin_RX1 : ∀ w ∈ u_ws RX1 TX1 19, w ∈ wsX1_choose := fun w h => List.mem_cons_of_mem _ (u_X1 w h)
  have hlk_62 := hts _ (List.mem_cons_of_mem _ k_fl_X1_62)
  have hlk_83 := hts _ (List.mem_cons_of_mem _ k_fl_X1_83)
  have hlk_89 := hts _ (List.mem_cons_of_mem _ k_fl_X1_89)
  have hl := lv_entry ([.ref h, .int w]) (n := 2) (Nat.le_of_ble_eq_true rfl)
  rw [lg_entry_eq]
  generalize (lg_sl ([.ref h, .int w]) ++ List.replicate (2 - (lg_sl ([.ref h, .int w])).length) Slot.unset).toArray = ls at hl ⊢
  have hl : lv_has ls 2 [(0, .ref h), (1, .int w)] := hl
  refine lv_iload_n hx hb dX1_choose_0 rfl (lv_at hl 1 rfl) ?_
  refine lv_bipush (v := 6) hx hb dX1_choose_1 (by decide) ?_
  refine xr_call (st1 := [.int (lpHas w 6)]) (W.runS (As := [.int w, .int 6]) (rest := []) ⟨hx, hb, hml, hown, hts⟩ (c_hasBit l dC dI w 6) (cwS 2 hts (gd_S wa_c k_ml_X1_21 k_st_X1_hasBit k_in_X1 k_co_X1_hasBit) rfl rfl rfl (by decide +kernel) ⟨Nat.le_of_ble_eq_true rfl, Nat.le_of_ble_eq_true rfl⟩) (xr_preS hK (hP.sub (ws' := []) [] rfl) xz_Z.nil) rfl rfl hl.1 rfl (lv_room (Nat.le_of_ble_eq_true rfl)) dX1_choose_3 ⟨Nat.zero_le _, Nat.zero_le _⟩) rfl ?_
  refine lv_if_eq (tgt := 18) hx hb dX1_choose_6 (by decide) (fun h1 => ?_) (fun h1 => ?_)
  · refine lv_iload_n hx hb dX1_choose_18 rfl (lv_at hl 1 rfl) ?_
    refine lv_iconst (v := 2) hx hb dX1_choose_19 (by decide) ?_
    refine xr_call (st1 := [.int (lpHas w 2)]) (W.runS (As := [.int w, .int 2]) (rest := []) ⟨hx, hb, hml, hown, hts⟩ (c_hasBit l dC dI w 2) (cwS 2 hts (gd_S wa_c k_ml_X1_21 k_st_X1_hasBit k_in_X1 k_co_X1_hasBit) rfl rfl rfl (by decide +kernel) ⟨Nat.le_of_ble_eq_true rfl, Nat.le_of_ble_eq_true rfl⟩) (xr_preS hK (hP.sub (ws' := []) [] rfl) xz_Z.nil) rfl rfl hl.1 rfl (lv_room (Nat.le_of_ble_eq_true rfl)) dX1_choose_20 ⟨Nat.zero_le _, Nat.zero_le _⟩) rfl ?_
    refine lv_if_eq (tgt := 31) hx hb dX1_choose_23 (by decide) (fun h2 => ?_) (fun h2 => ?_)
    · refine lv_iload_n hx hb dX1_choose_31 rfl (lv_at hl 1 rfl) ?_
      refine lv_iconst (v := 1) hx hb dX1_choose_32 (by decide) ?_
      refine xr_call (st1 := [.int (lpHas w 1)]) (W.runS (As := [.int w, .int 1]) (rest := []) ⟨hx, hb, hml, hown, hts⟩ (c_hasBit l dC dI w 1) (cwS 2 hts (gd_S wa_c k_ml_X1_21 k_st_X1_hasBit k_in_X1 k_co_X1_hasBit) rfl rfl rfl (by decide +kernel) ⟨Nat.le_of_ble_eq_true rfl, Nat.le_of_ble_eq_true rfl⟩) (xr_preS hK (hP.sub (ws' := []) [] rfl) xz_Z.nil) rfl rfl hl.1 rfl (lv_room (Nat.le_of_ble_eq_true rfl)) dX1_choose_33 ⟨Nat.zero_le _, Nat.zero_le _⟩) rfl ?_
      refine lv_if_eq (tgt := 46) hx hb dX1_choose_36 (by decide) (fun h3 => ?_) (fun h3 => ?_)
      · exact xc_vret (wf := cw1 h) hx hb hr hlocks dX1_choose_46 hK hP hD hS (by first | (simp only [lpChoose, lpCh1, lpCh2, lpCh3, if_pos h1, if_neg (not_not_intro h1), if_pos h2, if_neg (not_not_intro h2), if_pos h3, if_neg (not_not_intro h3)]; done) | rfl | (simp only [lpChoose, lpCh1, lpCh2, lpCh3]; simp only [if_pos h1, if_neg (not_not_intro h1), if_pos h2, if_neg (not_not_intro h2), if_pos h3, if_neg (not_not_intro h3)]; done) | (simp_all [lpChoose, lpCh1, lpCh2, lpCh3]; done))
      · refine lv_aload_n hx hb dX1_choose_39 rfl (lv_at hl 0 rfl) ?_
        refine lv_iload_n hx hb dX1_choose_40 rfl (lv_at hl 1 rfl) ?_
        refine lv_iconst (v := 1) hx hb dX1_choose_41 (by decide) ?_
        refine lv_iand hx hb dX1_choose_42 ?_
        refine va_put (D := (dC, dI)) (ci := 1) (v := .int (w &&& 1)) (ty := .int) (C := RX1) (T := TX1) (N := 19) hx hb hts hin_RX1 tyX1 tyX1_ok nX1 hown hK hP hD hS 0 rfl rfl 8 (by decide) hlk_89 (fun _ h9 => h9) rfl (by decide +kernel) rfl rfl (Nat.le_of_ble_eq_true rfl) dX1_choose_43 (fun H locs hP hD hS => ?_)
        have hP : va_P (dC, dI) vwCl (cw1 h (upd u 8 (w &&& 1))) H := hP
        have hD : va_D A (cw1 h (upd u 8 (w &&& 1))) := hD
        exact xc_vret (wf := cw1 h) hx hb hr hlocks dX1_choose_46 hK hP hD hS (by first | (simp only [lpChoose, lpCh1, lpCh2, lpCh3, if_pos h1, if_neg (not_not_intro h1), if_pos h2, if_neg (not_not_intro h2), if_neg h3, if_pos h3]; done) | rfl | (simp only [lpChoose, lpCh1, lpCh2, lpCh3]; simp only [if_pos h1, if_neg (not_not_intro h1), if_pos h2, if_neg (not_not_intro h2), if_neg h3, if_pos h3]; done) | (simp_all [lpChoose, lpCh1, lpCh2, lpCh3]; done))
    · refine lv_aload_n hx hb dX1_choose_26 rfl (lv_at hl 0 rfl) ?_
      refine lv_iconst (v := 1) hx hb dX1_choose_27 (by decide) ?_
      refine va_put (D := (dC, dI)) (ci := 1) (v := .int 1) (ty := .boolean) (C := RX1) (T := TX1) (N := 19) hx hb hts hin_RX1 tyX1 tyX1_ok nX1 hown hK hP hD hS 0 rfl rfl 16 (by decide) hlk_83 (fun _ h9 => h9) rfl (by decide +kernel) rfl rfl (Nat.le_of_ble_eq_true rfl) dX1_choose_28 (fun H locs hP hD hS => ?_)
      have hP : va_P (dC, dI) vwCl (cw1 h (upd u 16 1)) H := hP
      have hD : va_D A (cw1 h (upd u 16 1)) := hD
      refine lv_iload_n hx hb dX1_choose_31 rfl (lv_at hl 1 rfl) ?_
      refine lv_iconst (v := 1) hx hb dX1_choose_32 (by decide) ?_
      refine xr_call (st1 := [.int (lpHas w 1)]) (W.runS (As := [.int w, .int 1]) (rest := []) ⟨hx, hb, hml, hown, hts⟩ (c_hasBit l dC dI w 1) (cwS 2 hts (gd_S wa_c k_ml_X1_21 k_st_X1_hasBit k_in_X1 k_co_X1_hasBit) rfl rfl rfl (by decide +kernel) ⟨Nat.le_of_ble_eq_true rfl, Nat.le_of_ble_eq_true rfl⟩) (xr_preS hK (hP.sub (ws' := []) [] rfl) xz_Z.nil) rfl rfl hl.1 rfl (lv_room (Nat.le_of_ble_eq_true rfl)) dX1_choose_33 ⟨Nat.zero_le _, Nat.zero_le _⟩) rfl ?_
      refine lv_if_eq (tgt := 46) hx hb dX1_choose_36 (by decide) (fun h4 => ?_) (fun h4 => ?_)
      · exact xc_vret (wf := cw1 h) hx hb hr hlocks dX1_choose_46 hK hP hD hS (by first | (simp only [lpChoose, lpCh1, lpCh2, lpCh3, if_pos h1, if_neg (not_not_intro h1), if_neg h2, if_pos h2, if_pos h4, if_neg (not_not_intro h4)]; done) | rfl | (simp only [lpChoose, lpCh1, lpCh2, lpCh3]; simp only [if_pos h1, if_neg (not_not_intro h1), if_neg h2, if_pos h2, if_pos h4, if_neg (not_not_intro h4)]; done) | (simp_all [lpChoose, lpCh1, lpCh2, lpCh3]; done))
      · refine lv_aload_n hx hb dX1_choose_39 rfl (lv_at hl 0 rfl) ?_
        refine lv_iload_n hx hb dX1_choose_40 rfl (lv_at hl 1 rfl) ?_
        refine lv_iconst (v := 1) hx hb dX1_choose_41 (by decide) ?_
        refine lv_iand hx hb dX1_choose_42 ?_
        refine va_put (D := (dC, dI)) (ci := 1) (v := .int (w &&& 1)) (ty := .int) (C := RX1) (T := TX1) (N := 19) hx hb hts hin_RX1 tyX1 tyX1_ok nX1 hown hK hP hD hS 0 rfl rfl 8 (by decide) hlk_89 (fun _ h9 => h9) rfl (by decide +kernel) rfl rfl (Nat.le_of_ble_eq_true rfl) dX1_choose_43 (fun H locs hP hD hS => ?_)
        have hP : va_P (dC, dI) vwCl (cw1 h (upd (upd u 16 1) 8 (w &&& 1))) H := hP
        have hD : va_D A (cw1 h (upd (upd u 16 1) 8 (w &&& 1))) := hD
        exact xc_vret (wf := cw1 h) hx hb hr hlocks dX1_choose_46 hK hP hD hS (by first | (simp only [lpChoose, lpCh1, lpCh2, lpCh3, if_pos h1, if_neg (not_not_intro h1), if_neg h2, if_pos h2, if_neg h4, if_pos h4]; done) | rfl | (simp only [lpChoose, lpCh1, lpCh2, lpCh3]; simp only [if_pos h1, if_neg (not_not_intro h1), if_neg h2, if_pos h2, if_neg h4, if_pos h4]; done) | (simp_all [lpChoose, lpCh1, lpCh2, lpCh3]; done))
  · refine lv_aload_n hx hb dX1_choose_9 rfl (lv_at hl 0 rfl) ?_
    refine lv_iload_n hx hb dX1_choose_10 rfl (lv_at hl 1 rfl) ?_
    refine lv_iconst (v := 5) hx hb dX1_choose_11 (by decide) ?_
    refine xr_call (st1 := [.int (lpHas w 5), .ref h]) (W.runS (As := [.int w, .int 5]) (rest := [.ref h]) ⟨hx, hb, hml, hown, hts⟩ (c_hasBit l dC dI w 5) (cwS 2 hts (gd_S wa_c k_ml_X1_21 k_st_X1_hasBit k_in_X1 k_co_X1_hasBit) rfl rfl rfl (by decide +kernel) ⟨Nat.le_of_ble_eq_true rfl, Nat.le_of_ble_eq_true rfl⟩) (xr_preS hK (hP.sub (ws' := []) [] rfl) xz_Z.nil) rfl rfl hl.1 rfl (lv_room (Nat.le_of_ble_eq_true rfl)) dX1_choose_12 ⟨Nat.zero_le _, Nat.zero_le _⟩) rfl ?_
    refine va_put (D := (dC, dI)) (ci := 1) (v := .int (lpHas w 5)) (ty := .boolean) (C := RX1) (T := TX1) (N := 19) hx hb hts hin_RX1 tyX1 tyX1_ok nX1 hown hK hP hD hS 0 rfl rfl 12 (by decide) hlk_62 (fun _ h9 => h9) rfl (by decide +kernel) (lpHas_nar _ _) (lpHas_fit _ _) (Nat.le_of_ble_eq_true rfl) dX1_choose_15 (fun H locs hP hD hS => ?_)
    have hP : va_P (dC, dI) vwCl (cw1 h (upd u 12 (lpHas w 5))) H := hP
    have hD : va_D A (cw1 h (upd u 12 (lpHas w 5))) := hD
    refine lv_iload_n hx hb dX1_choose_18 rfl (lv_at hl 1 rfl) ?_
    refine lv_iconst (v := 2) hx hb dX1_choose_19 (by decide) ?_
    refine xr_call (st1 := [.int (lpHas w 2)]) (W.runS (As := [.int w, .int 2]) (rest := []) ⟨hx, hb, hml, hown, hts⟩ (c_hasBit l dC dI w 2) (cwS 2 hts (gd_S wa_c k_ml_X1_21 k_st_X1_hasBit k_in_X1 k_co_X1_hasBit) rfl rfl rfl (by decide +kernel) ⟨Nat.le_of_ble_eq_true rfl, Nat.le_of_ble_eq_true rfl⟩) (xr_preS hK (hP.sub (ws' := []) [] rfl) xz_Z.nil) rfl rfl hl.1 rfl (lv_room (Nat.le_of_ble_eq_true rfl)) dX1_choose_20 ⟨Nat.zero_le _, Nat.zero_le _⟩) rfl ?_
    refine lv_if_eq (tgt := 31) hx hb dX1_choose_23 (by decide) (fun h5 => ?_) (fun h5 => ?_)
    · refine lv_iload_n hx hb dX1_choose_31 rfl (lv_at hl 1 rfl) ?_
      refine lv_iconst (v := 1) hx hb dX1_choose_32 (by decide) ?_
      refine xr_call (st1 := [.int (lpHas w 1)]) (W.runS (As := [.int w, .int 1]) (rest := []) ⟨hx, hb, hml, hown, hts⟩ (c_hasBit l dC dI w 1) (cwS 2 hts (gd_S wa_c k_ml_X1_21 k_st_X1_hasBit k_in_X1 k_co_X1_hasBit) rfl rfl rfl (by decide +kernel) ⟨Nat.le_of_ble_eq_true rfl, Nat.le_of_ble_eq_true rfl⟩) (xr_preS hK (hP.sub (ws' := []) [] rfl) xz_Z.nil) rfl rfl hl.1 rfl (lv_room (Nat.le_of_ble_eq_true rfl)) dX1_choose_33 ⟨Nat.zero_le _, Nat.zero_le _⟩) rfl ?_
      refine lv_if_eq (tgt := 46) hx hb dX1_choose_36 (by decide) (fun h6 => ?_) (fun h6 => ?_)
      · exact xc_vret (wf := cw1 h) hx hb hr hlocks dX1_choose_46 hK hP hD hS (by first | (simp only [lpChoose, lpCh1, lpCh2, lpCh3, if_neg h1, if_pos h1, if_pos h5, if_neg (not_not_intro h5), if_pos h6, if_neg (not_not_intro h6)]; done) | rfl | (simp only [lpChoose, lpCh1, lpCh2, lpCh3]; simp only [if_neg h1, if_pos h1, if_pos h5, if_neg (not_not_intro h5), if_pos h6, if_neg (not_not_intro h6)]; done) | (simp_all [lpChoose, lpCh1, lpCh2, lpCh3]; done))
      · refine lv_aload_n hx hb dX1_choose_39 rfl (lv_at hl 0 rfl) ?_
        refine lv_iload_n hx hb dX1_choose_40 rfl (lv_at hl 1 rfl) ?_
        refine lv_iconst (v := 1) hx hb dX1_choose_41 (by decide) ?_
        refine lv_iand hx hb dX1_choose_42 ?_
        refine va_put (D := (dC, dI)) (ci := 1) (v := .int (w &&& 1)) (ty := .int) (C := RX1) (T := TX1) (N := 19) hx hb hts hin_RX1 tyX1 tyX1_ok nX1 hown hK hP hD hS 0 rfl rfl 8 (by decide) hlk_89 (fun _ h9 => h9) rfl (by decide +kernel) rfl rfl (Nat.le_of_ble_eq_true rfl) dX1_choose_43 (fun H locs hP hD hS => ?_)
        have hP : va_P (dC, dI) vwCl (cw1 h (upd (upd u 12 (lpHas w 5)) 8 (w &&& 1))) H := hP
        have hD : va_D A (cw1 h (upd (upd u 12 (lpHas w 5)) 8 (w &&& 1))) := hD
        exact xc_vret (wf := cw1 h) hx hb hr hlocks dX1_choose_46 hK hP hD hS (by first | (simp only [lpChoose, lpCh1, lpCh2, lpCh3, if_neg h1, if_pos h1, if_pos h5, if_neg (not_not_intro h5), if_neg h6, if_pos h6]; done) | rfl | (simp only [lpChoose, lpCh1, lpCh2, lpCh3]; simp only [if_neg h1, if_pos h1, if_pos h5, if_neg (not_not_intro h5), if_neg h6, if_pos h6]; done) | (simp_all [lpChoose, lpCh1, lpCh2, lpCh3]; done))
    · refine lv_aload_n hx hb dX1_choose_26 rfl (lv_at hl 0 rfl) ?_
      refine lv_iconst (v := 1) hx hb dX1_choose_27 (by decide) ?_
      refine va_put (D := (dC, dI)) (ci := 1) (v := .int 1) (ty := .boolean) (C := RX1) (T := TX1) (N := 19) hx hb hts hin_RX1 tyX1 tyX1_ok nX1 hown hK hP hD hS 0 rfl rfl 16 (by decide) hlk_83 (fun _ h9 => h9) rfl (by decide +kernel) rfl rfl (Nat.le_of_ble_eq_true rfl) dX1_choose_28 (fun H locs hP hD hS => ?_)
      have hP : va_P (dC, dI) vwCl (cw1 h (upd (upd u 12 (lpHas w 5)) 16 1)) H := hP
      have hD : va_D A (cw1 h (upd (upd u 12 (lpHas w 5)) 16 1)) := hD
      refine lv_iload_n hx hb dX1_choose_31 rfl (lv_at hl 1 rfl) ?_
      refine lv_iconst (v := 1) hx hb dX1_choose_32 (by decide) ?_
      refine xr_call (st1 := [.int (lpHas w 1)]) (W.runS (As := [.int w, .int 1]) (rest := []) ⟨hx, hb, hml, hown, hts⟩ (c_hasBit l dC dI w 1) (cwS 2 hts (gd_S wa_c k_ml_X1_21 k_st_X1_hasBit k_in_X1 k_co_X1_hasBit) rfl rfl rfl (by decide +kernel) ⟨Nat.le_of_ble_eq_true rfl, Nat.le_of_ble_eq_true rfl⟩) (xr_preS hK (hP.sub (ws' := []) [] rfl) xz_Z.nil) rfl rfl hl.1 rfl (lv_room (Nat.le_of_ble_eq_true rfl)) dX1_choose_33 ⟨Nat.zero_le _, Nat.zero_le _⟩) rfl ?_
      refine lv_if_eq (tgt := 46) hx hb dX1_choose_36 (by decide) (fun h7 => ?_) (fun h7 => ?_)
      · exact xc_vret (wf := cw1 h) hx hb hr hlocks dX1_choose_46 hK hP hD hS (by first | (simp only [lpChoose, lpCh1, lpCh2, lpCh3, if_neg h1, if_pos h1, if_neg h5, if_pos h5, if_pos h7, if_neg (not_not_intro h7)]; done) | rfl | (simp only [lpChoose, lpCh1, lpCh2, lpCh3]; simp only [if_neg h1, if_pos h1, if_neg h5, if_pos h5, if_pos h7, if_neg (not_not_intro h7)]; done) | (simp_all [lpChoose, lpCh1, lpCh2, lpCh3]; done))
      · refine lv_aload_n hx hb dX1_choose_39 rfl (lv_at hl 0 rfl) ?_
        refine lv_iload_n hx hb dX1_choose_40 rfl (lv_at hl 1 rfl) ?_
        refine lv_iconst (v := 1) hx hb dX1_choose_41 (by decide) ?_
        refine lv_iand hx hb dX1_choose_42 ?_
        refine va_put (D := (dC, dI)) (ci := 1) (v := .int (w &&& 1)) (ty := .int) (C := RX1) (T := TX1) (N := 19) hx hb hts hin_RX1 tyX1 tyX1_ok nX1 hown hK hP hD hS 0 rfl rfl 8 (by decide) hlk_89 (fun _ h9 => h9) rfl (by decide +kernel) rfl rfl (Nat.le_of_ble_eq_true rfl) dX1_choose_43 (fun H locs hP hD hS => ?_)
        have hP : va_P (dC, dI) vwCl (cw1 h (upd (upd (upd u 12 (lpHas w 5)) 16 1) 8 (w &&& 1))) H := hP
        have hD : va_D A (cw1 h (upd (upd (upd u 12 (lpHas w 5)) 16 1) 8 (w &&& 1))) := hD
        exact xc_vret (wf := cw1 h) hx hb hr hlocks dX1_choose_46 hK hP hD hS (by first | (simp only [lpChoose, lpCh1, lpCh2, lpCh3, if_neg h1, if_pos h1, if_neg h5, if_pos h5, if_neg h7, if_pos h7]; done) | rfl | (simp only [lpChoose, lpCh1, lpCh2, lpCh3]; simp only [if_neg h1, if_pos h1, if_neg h5, if_pos h5, if_neg h7, if_pos h7]; done) | (simp_all [lpChoose, lpCh1, lpCh2, lpCh3]; done))

set_option maxHeartbeats 4000000 in
set_option maxRecDepth 100000 in
theorem c_end (l : Launch) (dC : Nat → ClassId) (dI : Nat → Nat → Nat) (h : Nat) (sz : Nat) (u : Nat → Int32) (k : Int32) : xc_M l yX1_end wsX1_end ({ frames := 1, cells := 0, slots := 0, locals := 21 }) [.ref h, .int k] sz (dC, dI) vwCl [] [] (cw1 h u) none (cw1 h (lpEnd u k)) 0 0 := by
  refine Met.ofW (cc := cX1_end) (maxL := 2) (ret := none) (by decide) rfl ?_
  intro p e s m args below meth c s₁ B hml hv
  obtain ⟨rfl, hsz, hP, hK, hD0, hZ⟩ := hv
  have hx := B.exec
  have hb := B.bytes
  have hr := B.returns
  have hts := atoms_spec (ws := wsX1_end) B.pre
  have hown : s.vm.findClass RX1 = some m.cls := findClass_of_methodNamed B.named
  have hlocks := B.notSynchronized
  subst hsz
  have hD := hD0.self (sz := s.heap.size)
  generalize hAe : va_A (cw1 h u) s.heap.size = A at hD ⊢
  have hA : ∀ q : Nat, s.heap.size ≤ q → A q := fun q h => by rw [← hAe]; exact Or.inr h
  have hS : va_S A s.heap s.heap [] := va_S.rf
  have hin_RX1 : ∀ w ∈ u_ws RX1 TX1 19, w ∈ wsX1_end := fun w h => List.mem_cons_of_mem _ (u_X1 w h)
  have hlk_65 := hts _ (List.mem_cons_of_mem _ k_fl_X1_65)
  have hlk_115 := hts _ (List.mem_cons_of_mem _ k_fl_X1_115)
  have hl := lv_entry ([.ref h, .int k]) (n := 2) (Nat.le_of_ble_eq_true rfl)
  rw [lg_entry_eq]
  generalize (lg_sl ([.ref h, .int k]) ++ List.replicate (2 - (lg_sl ([.ref h, .int k])).length) Slot.unset).toArray = ls at hl ⊢
  have hl : lv_has ls 2 [(0, .ref h), (1, .int k)] := hl
  refine lv_iload_n hx hb dX1_end_0 rfl (lv_at hl 1 rfl) ?_
  refine lv_iconst (v := -1) hx hb dX1_end_1 (by decide) ?_
  refine lv_icmp_eq (tgt := 38) hx hb dX1_end_2 (by decide) (fun h1 => ?_) (fun h1 => ?_)
  · exact xc_vret (wf := cw1 h) hx hb hr hlocks dX1_end_38 hK hP hD hS (by first | (simp only [lpEnd, if_pos h1, if_neg (not_not_intro h1)]; done) | rfl | (simp only [lpEnd]; simp only [if_pos h1, if_neg (not_not_intro h1)]; done) | (simp_all [lpEnd]; done))
  · refine lv_aload_n hx hb dX1_end_5 rfl (lv_at hl 0 rfl) ?_
    refine va_get (D := (dC, dI)) (ci := 1) (v := .int (u 3)) (C := RX1) (T := TX1) (N := 19) hx hb hts hin_RX1 hown hK hP 0 rfl rfl 3 (by decide) hlk_65 (fun _ h9 => h9) rfl dX1_end_6 ?_
    refine lv_iload_n hx hb dX1_end_9 rfl (lv_at hl 1 rfl) ?_
    refine xr_call (st1 := [.int (lpHas (u 3) k)]) (W.runS (As := [.int (u 3), .int k]) (rest := []) ⟨hx, hb, hml, hown, hts⟩ (c_hasBit l dC dI (u 3) k) (cwS 2 hts (gd_S wa_c k_ml_X1_21 k_st_X1_hasBit k_in_X1 k_co_X1_hasBit) rfl rfl rfl (by decide +kernel) ⟨Nat.le_of_ble_eq_true rfl, Nat.le_of_ble_eq_true rfl⟩) (xr_preS hK (hP.sub (ws' := []) [] rfl) xz_Z.nil) rfl rfl hl.1 rfl (lv_room (Nat.le_of_ble_eq_true rfl)) dX1_end_10 ⟨Nat.zero_le _, Nat.zero_le _⟩) rfl ?_
    refine lv_if_eq (tgt := 38) hx hb dX1_end_13 (by decide) (fun h2 => ?_) (fun h2 => ?_)
    · exact xc_vret (wf := cw1 h) hx hb hr hlocks dX1_end_38 hK hP hD hS (by first | (simp only [lpEnd, if_neg h1, if_pos h1, if_pos h2, if_neg (not_not_intro h2)]; done) | rfl | (simp only [lpEnd]; simp only [if_neg h1, if_pos h1, if_pos h2, if_neg (not_not_intro h2)]; done) | (simp_all [lpEnd]; done))
    · refine lv_aload_n hx hb dX1_end_16 rfl (lv_at hl 0 rfl) ?_
      refine lv_aload_n hx hb dX1_end_17 rfl (lv_at hl 0 rfl) ?_
      refine va_get (D := (dC, dI)) (ci := 1) (v := .int (u 3)) (C := RX1) (T := TX1) (N := 19) hx hb hts hin_RX1 hown hK hP 0 rfl rfl 3 (by decide) hlk_65 (fun _ h9 => h9) rfl dX1_end_18 ?_
      refine lv_iload_n hx hb dX1_end_21 rfl (lv_at hl 1 rfl) ?_
      refine xr_call (st1 := [.int (lpWo (u 3) k), .ref h]) (W.runS (As := [.int (u 3), .int k]) (rest := [.ref h]) ⟨hx, hb, hml, hown, hts⟩ (c_without l dC dI (u 3) k) (cwS 2 hts (gd_S wa_c k_ml_X1_28 k_st_X1_without k_in_X1 k_co_X1_without) rfl rfl rfl (by decide +kernel) ⟨Nat.le_of_ble_eq_true rfl, Nat.le_of_ble_eq_true rfl⟩) (xr_preS hK (hP.sub (ws' := []) [] rfl) xz_Z.nil) rfl rfl hl.1 rfl (lv_room (Nat.le_of_ble_eq_true rfl)) dX1_end_22 ⟨Nat.zero_le _, Nat.zero_le _⟩) rfl ?_
      refine va_put (D := (dC, dI)) (ci := 1) (v := .int (lpWo (u 3) k)) (ty := .int) (C := RX1) (T := TX1) (N := 19) hx hb hts hin_RX1 tyX1 tyX1_ok nX1 hown hK hP hD hS 0 rfl rfl 3 (by decide) hlk_65 (fun _ h9 => h9) rfl (by decide +kernel) rfl rfl (Nat.le_of_ble_eq_true rfl) dX1_end_25 (fun H locs hP hD hS => ?_)
      have hP : va_P (dC, dI) vwCl (cw1 h (upd u 3 (lpWo (u 3) k))) H := hP
      have hD : va_D A (cw1 h (upd u 3 (lpWo (u 3) k))) := hD
      refine lv_aload_n hx hb dX1_end_28 rfl (lv_at hl 0 rfl) ?_
      refine lv_dup hx hb dX1_end_29 rfl ?_
      refine va_get (D := (dC, dI)) (ci := 1) (v := .int (u 18)) (C := RX1) (T := TX1) (N := 19) hx hb hts hin_RX1 hown hK hP 0 rfl rfl 18 (by decide) hlk_115 (fun _ h9 => h9) rfl dX1_end_30 ?_
      refine lv_iconst (v := 1) hx hb dX1_end_33 (by decide) ?_
      refine lv_iadd hx hb dX1_end_34 ?_
      refine va_put (D := (dC, dI)) (ci := 1) (v := .int ((u 18) + 1)) (ty := .int) (C := RX1) (T := TX1) (N := 19) hx hb hts hin_RX1 tyX1 tyX1_ok nX1 hown hK hP hD hS 0 rfl rfl 18 (by decide) hlk_115 (fun _ h9 => h9) rfl (by decide +kernel) rfl rfl (Nat.le_of_ble_eq_true rfl) dX1_end_35 (fun H locs hP hD hS => ?_)
      have hP : va_P (dC, dI) vwCl (cw1 h (upd (upd u 3 (lpWo (u 3) k)) 18 ((u 18) + 1))) H := hP
      have hD : va_D A (cw1 h (upd (upd u 3 (lpWo (u 3) k)) 18 ((u 18) + 1))) := hD
      exact xc_vret (wf := cw1 h) hx hb hr hlocks dX1_end_38 hK hP hD hS (by first | (simp only [lpEnd, if_neg h1, if_pos h1, if_neg h2, if_pos h2]; done) | rfl | (simp only [lpEnd]; simp only [if_neg h1, if_pos h1, if_neg h2, if_pos h2]; done) | (simp_all [lpEnd]; done))

set_option maxHeartbeats 4000000 in
set_option maxRecDepth 100000 in
theorem c_endHighestAndTurn (l : Launch) (dC : Nat → ClassId) (dI : Nat → Nat → Nat) (h : Nat) (sz : Nat) (u : Nat → Int32) : xc_M l yX1_endHighestAndTurn wsX1_endHighestAndTurn ({ frames := 2, cells := 0, slots := 0, locals := 44 }) [.ref h] sz (dC, dI) vwCl [] [] (cw1 h u) none (cw1 h (lpEht u)) 0 0 := by
  refine Met.ofW (cc := cX1_endHighestAndTurn) (maxL := 2) (ret := none) (by decide) rfl ?_
  intro p e s m args below meth c s₁ B hml hv
  obtain ⟨rfl, hsz, hP, hK, hD0, hZ⟩ := hv
  have hx := B.exec
  have hb := B.bytes
  have hr := B.returns
  have hts := atoms_spec (ws := wsX1_endHighestAndTurn) B.pre
  have hown : s.vm.findClass RX1 = some m.cls := findClass_of_methodNamed B.named
  have hlocks := B.notSynchronized
  subst hsz
  have hD := hD0.self (sz := s.heap.size)
  generalize hAe : va_A (cw1 h u) s.heap.size = A at hD ⊢
  have hA : ∀ q : Nat, s.heap.size ≤ q → A q := fun q h => by rw [← hAe]; exact Or.inr h
  have hS : va_S A s.heap s.heap [] := va_S.rf
  have hin_RX1 : ∀ w ∈ u_ws RX1 TX1 19, w ∈ wsX1_endHighestAndTurn := fun w h => List.mem_cons_of_mem _ (u_X1 w h)
  have hlk_15 := hts _ (List.mem_cons_of_mem _ k_fl_X1_15)
  have hl := lv_entry ([.ref h]) (n := 2) (Nat.le_of_ble_eq_true rfl)
  rw [lg_entry_eq]
  generalize (lg_sl ([.ref h]) ++ List.replicate (2 - (lg_sl ([.ref h])).length) Slot.unset).toArray = ls at hl ⊢
  have hl : lv_has ls 2 [(0, .ref h)] := hl
  refine lv_aload_n hx hb dX1_endHighestAndTurn_0 rfl (lv_at hl 0 rfl) ?_
  refine lv_aload_n hx hb dX1_endHighestAndTurn_1 rfl (lv_at hl 0 rfl) ?_
  refine xr_call (st1 := [.int (lpIsc u), .ref h]) (W.runV (As := []) (rest := [.ref h]) ⟨hx, hb, hml, hown, hts⟩ (c_inServiceThatCounts l dC dI h u) (cwV 0 hts (gd_V wa_c k_ml_X1_56 k_im_X1_inServiceThatCounts k_se_X1_inServiceThatCounts k_in_X1 k_co_X1_inServiceThatCounts) rfl rfl rfl (by decide +kernel) ⟨Nat.le_of_ble_eq_true rfl, Nat.le_of_ble_eq_true rfl⟩) (xr_preV (q0 := 0) (C := RX1) hK hP xz_Z.nil rfl rfl) rfl rfl hl.1 rfl (lv_room (Nat.le_of_ble_eq_true rfl)) dX1_endHighestAndTurn_2 ⟨Nat.zero_le _, Nat.zero_le _⟩) rfl ?_
  refine xr_call (st1 := [.int (lpHi u (lpIsc u))]) (W.runV (As := [.int (lpIsc u)]) (rest := []) ⟨hx, hb, hml, hown, hts⟩ (c_highestOf l dC dI h u (lpIsc u)) (cwV 1 hts (gd_V wa_c k_ml_X1_46 k_im_X1_highestOf k_se_X1_highestOf k_in_X1 k_co_X1_highestOf) rfl rfl rfl (by decide +kernel) ⟨Nat.le_of_ble_eq_true rfl, Nat.le_of_ble_eq_true rfl⟩) (xr_preV (q0 := 0) (C := RX1) hK hP xz_Z.nil rfl rfl) rfl rfl hl.1 rfl (lv_room (Nat.le_of_ble_eq_true rfl)) dX1_endHighestAndTurn_5 ⟨Nat.zero_le _, Nat.zero_le _⟩) rfl ?_
  refine lv_istore_n (lv' := [(1, .int (lpHi u (lpIsc u))), (0, .ref h)]) hx hb dX1_endHighestAndTurn_8 rfl hl (by decide) rfl (fun ls hl => ?_)
  refine lv_iload_n hx hb dX1_endHighestAndTurn_9 rfl (lv_at hl 0 rfl) ?_
  refine lv_iconst (v := -1) hx hb dX1_endHighestAndTurn_10 (by decide) ?_
  refine lv_icmp_eq (tgt := 24) hx hb dX1_endHighestAndTurn_11 (by decide) (fun h1 => ?_) (fun h1 => ?_)
  · exact xc_vret (wf := cw1 h) hx hb hr hlocks dX1_endHighestAndTurn_24 hK hP hD hS (by first | (simp only [lpEht, lpTop, if_pos h1, if_neg (not_not_intro h1)]; done) | rfl | (simp only [lpEht, lpTop]; simp only [if_pos h1, if_neg (not_not_intro h1)]; done) | (simp_all [lpEht, lpTop]; done))
  · refine lv_aload_n hx hb dX1_endHighestAndTurn_14 rfl (lv_at hl 1 rfl) ?_
    refine lv_iload_n hx hb dX1_endHighestAndTurn_15 rfl (lv_at hl 0 rfl) ?_
    refine xc_call (wc := cw1 h u) (wr := []) (st1 := []) (va_runV (As := [.int (lpHi u (lpIsc u))]) (rest := []) ⟨hx, hb, hml, hown, hts⟩ (c_end l dC dI h s.heap.size u (lpHi u (lpIsc u))) (cwV 1 hts (gd_V wa_c k_ml_X1_109 k_im_X1_end k_se_X1_end k_in_X1 k_co_X1_end) rfl rfl rfl (by decide +kernel) ⟨Nat.le_of_ble_eq_true rfl, Nat.le_of_ble_eq_true rfl⟩) (xc_preV (q0 := 0) (C := RX1) hK hP hD xz_Z.nil rfl rfl) rfl rfl hl.1 rfl (lv_room (Nat.le_of_ble_eq_true rfl)) dX1_endHighestAndTurn_16 ⟨Nat.zero_le _, Nat.zero_le _⟩) hP hD hS hA [0] [] rfl rfl (by decide) (by decide) rfl (fun H locs hP hD hS _ => ?_)
    have hP : va_P (dC, dI) vwCl (cw1 h (lpEnd u (lpHi u (lpIsc u)))) H := hP
    have hD : va_D A (cw1 h (lpEnd u (lpHi u (lpIsc u)))) := hD
    refine lv_aload_n hx hb dX1_endHighestAndTurn_19 rfl (lv_at hl 1 rfl) ?_
    refine lv_iload_n hx hb dX1_endHighestAndTurn_20 rfl (lv_at hl 0 rfl) ?_
    refine va_put (D := (dC, dI)) (ci := 1) (v := .int (lpHi u (lpIsc u))) (ty := .int) (C := RX1) (T := TX1) (N := 19) hx hb hts hin_RX1 tyX1 tyX1_ok nX1 hown hK hP hD hS 0 rfl rfl 5 (by decide) hlk_15 (fun _ h9 => h9) rfl (by decide +kernel) rfl rfl (Nat.le_of_ble_eq_true rfl) dX1_endHighestAndTurn_21 (fun H locs hP hD hS => ?_)
    have hP : va_P (dC, dI) vwCl (cw1 h (upd (lpEnd u (lpHi u (lpIsc u))) 5 (lpHi u (lpIsc u)))) H := hP
    have hD : va_D A (cw1 h (upd (lpEnd u (lpHi u (lpIsc u))) 5 (lpHi u (lpIsc u)))) := hD
    exact xc_vret (wf := cw1 h) hx hb hr hlocks dX1_endHighestAndTurn_24 hK hP hD hS (by first | (simp only [lpEht, lpTop, if_neg h1, if_pos h1]; done) | rfl | (simp only [lpEht, lpTop]; simp only [if_neg h1, if_pos h1]; done) | (simp_all [lpEht, lpTop]; done))

set_option maxHeartbeats 4000000 in
set_option maxRecDepth 100000 in
theorem c_endOrTurn (l : Launch) (dC : Nat → ClassId) (dI : Nat → Nat → Nat) (h : Nat) (sz : Nat) (u : Nat → Int32) (o k : Int32) : xc_M l yX1_endOrTurn wsX1_endOrTurn ({ frames := 3, cells := 0, slots := 0, locals := 65 }) [.ref h, .int o, .int k] sz (dC, dI) vwCl [] [] (cw1 h u) none (cw1 h (lpOrd u o k)) 0 0 := by
  refine Met.ofW (cc := cX1_endOrTurn) (maxL := 3) (ret := none) (by decide) rfl ?_
  intro p e s m args below meth c s₁ B hml hv
  obtain ⟨rfl, hsz, hP, hK, hD0, hZ⟩ := hv
  have hx := B.exec
  have hb := B.bytes
  have hr := B.returns
  have hts := atoms_spec (ws := wsX1_endOrTurn) B.pre
  have hown : s.vm.findClass RX1 = some m.cls := findClass_of_methodNamed B.named
  have hlocks := B.notSynchronized
  subst hsz
  have hD := hD0.self (sz := s.heap.size)
  generalize hAe : va_A (cw1 h u) s.heap.size = A at hD ⊢
  have hA : ∀ q : Nat, s.heap.size ≤ q → A q := fun q h => by rw [← hAe]; exact Or.inr h
  have hS : va_S A s.heap s.heap [] := va_S.rf
  have hin_RX1 : ∀ w ∈ u_ws RX1 TX1 19, w ∈ wsX1_endOrTurn := fun w h => List.mem_cons_of_mem _ (u_X1 w h)
  have hlk_15 := hts _ (List.mem_cons_of_mem _ k_fl_X1_15)
  have hlk_74 := hts _ (List.mem_cons_of_mem _ k_fl_X1_74)
  have hl := lv_entry ([.ref h, .int o, .int k]) (n := 3) (Nat.le_of_ble_eq_true rfl)
  rw [lg_entry_eq]
  generalize (lg_sl ([.ref h, .int o, .int k]) ++ List.replicate (3 - (lg_sl ([.ref h, .int o, .int k])).length) Slot.unset).toArray = ls at hl ⊢
  have hl : lv_has ls 3 [(0, .ref h), (1, .int o), (2, .int k)] := hl
  refine lv_iload_n hx hb dX1_endOrTurn_0 rfl (lv_at hl 1 rfl) ?_
  by_cases h1 : o = 0
  · refine lv_tableIn (tgt := 48) hx hb dX1_endOrTurn_1 (by rw [h1]; decide) (by rw [h1]; decide) (by rw [h1]; rfl) (by decide) ?_
    refine lv_aload_n hx hb dX1_endOrTurn_48 rfl (lv_at hl 0 rfl) ?_
    refine lv_iconst (v := 0) hx hb dX1_endOrTurn_49 (by decide) ?_
    refine va_put (D := (dC, dI)) (ci := 1) (v := .int 0) (ty := .boolean) (C := RX1) (T := TX1) (N := 19) hx hb hts hin_RX1 tyX1 tyX1_ok nX1 hown hK hP hD hS 0 rfl rfl 15 (by decide) hlk_74 (fun _ h9 => h9) rfl (by decide +kernel) rfl rfl (Nat.le_of_ble_eq_true rfl) dX1_endOrTurn_50 (fun H locs hP hD hS => ?_)
    have hP : va_P (dC, dI) vwCl (cw1 h (upd u 15 0)) H := hP
    have hD : va_D A (cw1 h (upd u 15 0)) := hD
    refine lv_goto (tgt := 115) hx hb dX1_endOrTurn_53 (by decide) ?_
    exact xc_vret (wf := cw1 h) hx hb hr hlocks dX1_endOrTurn_115 hK hP hD hS (by first | (simp only [lpOrd, lpTop, if_pos h1, if_neg (not_not_intro h1)]; done) | rfl | (simp only [lpOrd, lpTop]; simp only [if_pos h1, if_neg (not_not_intro h1)]; done) | (simp_all [lpOrd, lpTop]; done))
  by_cases h2 : o = 1
  · refine lv_tableIn (tgt := 56) hx hb dX1_endOrTurn_1 (by rw [h2]; decide) (by rw [h2]; decide) (by rw [h2]; rfl) (by decide) ?_
    refine lv_aload_n hx hb dX1_endOrTurn_56 rfl (lv_at hl 0 rfl) ?_
    refine lv_aload_n hx hb dX1_endOrTurn_57 rfl (lv_at hl 0 rfl) ?_
    refine lv_aload_n hx hb dX1_endOrTurn_58 rfl (lv_at hl 0 rfl) ?_
    refine xr_call (st1 := [.int (lpIsc u), .ref h, .ref h]) (W.runV (As := []) (rest := [.ref h, .ref h]) ⟨hx, hb, hml, hown, hts⟩ (c_inServiceThatCounts l dC dI h u) (cwV 0 hts (gd_V wa_c k_ml_X1_56 k_im_X1_inServiceThatCounts k_se_X1_inServiceThatCounts k_in_X1 k_co_X1_inServiceThatCounts) rfl rfl rfl (by decide +kernel) ⟨Nat.le_of_ble_eq_true rfl, Nat.le_of_ble_eq_true rfl⟩) (xr_preV (q0 := 0) (C := RX1) hK hP xz_Z.nil rfl rfl) rfl rfl hl.1 rfl (lv_room (Nat.le_of_ble_eq_true rfl)) dX1_endOrTurn_59 ⟨Nat.zero_le _, Nat.zero_le _⟩) rfl ?_
    refine xr_call (st1 := [.int (lpHi u (lpIsc u)), .ref h]) (W.runV (As := [.int (lpIsc u)]) (rest := [.ref h]) ⟨hx, hb, hml, hown, hts⟩ (c_highestOf l dC dI h u (lpIsc u)) (cwV 1 hts (gd_V wa_c k_ml_X1_46 k_im_X1_highestOf k_se_X1_highestOf k_in_X1 k_co_X1_highestOf) rfl rfl rfl (by decide +kernel) ⟨Nat.le_of_ble_eq_true rfl, Nat.le_of_ble_eq_true rfl⟩) (xr_preV (q0 := 0) (C := RX1) hK hP xz_Z.nil rfl rfl) rfl rfl hl.1 rfl (lv_room (Nat.le_of_ble_eq_true rfl)) dX1_endOrTurn_62 ⟨Nat.zero_le _, Nat.zero_le _⟩) rfl ?_
    refine xc_call (wc := cw1 h u) (wr := []) (st1 := []) (va_runV (As := [.int (lpHi u (lpIsc u))]) (rest := []) ⟨hx, hb, hml, hown, hts⟩ (c_end l dC dI h s.heap.size u (lpHi u (lpIsc u))) (cwV 1 hts (gd_V wa_c k_ml_X1_109 k_im_X1_end k_se_X1_end k_in_X1 k_co_X1_end) rfl rfl rfl (by decide +kernel) ⟨Nat.le_of_ble_eq_true rfl, Nat.le_of_ble_eq_true rfl⟩) (xc_preV (q0 := 0) (C := RX1) hK hP hD xz_Z.nil rfl rfl) rfl rfl hl.1 rfl (lv_room (Nat.le_of_ble_eq_true rfl)) dX1_endOrTurn_65 ⟨Nat.zero_le _, Nat.zero_le _⟩) hP hD hS hA [0] [] rfl rfl (by decide) (by decide) rfl (fun H locs hP hD hS _ => ?_)
    have hP : va_P (dC, dI) vwCl (cw1 h (lpEnd u (lpHi u (lpIsc u)))) H := hP
    have hD : va_D A (cw1 h (lpEnd u (lpHi u (lpIsc u)))) := hD
    refine lv_goto (tgt := 115) hx hb dX1_endOrTurn_68 (by decide) ?_
    exact xc_vret (wf := cw1 h) hx hb hr hlocks dX1_endOrTurn_115 hK hP hD hS (by first | (simp only [lpOrd, lpTop, if_neg h1, if_pos h1, if_pos h2, if_neg (not_not_intro h2)]; done) | rfl | (simp only [lpOrd, lpTop]; simp only [if_neg h1, if_pos h1, if_pos h2, if_neg (not_not_intro h2)]; done) | (simp_all [lpOrd, lpTop]; done))
  by_cases h3 : o = 2
  · refine lv_tableIn (tgt := 115) hx hb dX1_endOrTurn_1 (by rw [h3]; decide) (by rw [h3]; decide) (by rw [h3]; rfl) (by decide) ?_
    exact xc_vret (wf := cw1 h) hx hb hr hlocks dX1_endOrTurn_115 hK hP hD hS (by first | (simp only [lpOrd, lpTop, if_neg h1, if_pos h1, if_neg h2, if_pos h2, if_pos h3, if_neg (not_not_intro h3)]; done) | rfl | (simp only [lpOrd, lpTop]; simp only [if_neg h1, if_pos h1, if_neg h2, if_pos h2, if_pos h3, if_neg (not_not_intro h3)]; done) | (simp_all [lpOrd, lpTop]; done))
  by_cases h4 : o = 3
  · refine lv_tableIn (tgt := 71) hx hb dX1_endOrTurn_1 (by rw [h4]; decide) (by rw [h4]; decide) (by rw [h4]; rfl) (by decide) ?_
    refine lv_aload_n hx hb dX1_endOrTurn_71 rfl (lv_at hl 0 rfl) ?_
    refine lv_iload_n hx hb dX1_endOrTurn_72 rfl (lv_at hl 2 rfl) ?_
    refine xc_call (wc := cw1 h u) (wr := []) (st1 := []) (va_runV (As := [.int k]) (rest := []) ⟨hx, hb, hml, hown, hts⟩ (c_end l dC dI h s.heap.size u k) (cwV 1 hts (gd_V wa_c k_ml_X1_109 k_im_X1_end k_se_X1_end k_in_X1 k_co_X1_end) rfl rfl rfl (by decide +kernel) ⟨Nat.le_of_ble_eq_true rfl, Nat.le_of_ble_eq_true rfl⟩) (xc_preV (q0 := 0) (C := RX1) hK hP hD xz_Z.nil rfl rfl) rfl rfl hl.1 rfl (lv_room (Nat.le_of_ble_eq_true rfl)) dX1_endOrTurn_73 ⟨Nat.zero_le _, Nat.zero_le _⟩) hP hD hS hA [0] [] rfl rfl (by decide) (by decide) rfl (fun H locs hP hD hS _ => ?_)
    have hP : va_P (dC, dI) vwCl (cw1 h (lpEnd u k)) H := hP
    have hD : va_D A (cw1 h (lpEnd u k)) := hD
    refine lv_goto (tgt := 115) hx hb dX1_endOrTurn_76 (by decide) ?_
    exact xc_vret (wf := cw1 h) hx hb hr hlocks dX1_endOrTurn_115 hK hP hD hS (by first | (simp only [lpOrd, lpTop, if_neg h1, if_pos h1, if_neg h2, if_pos h2, if_neg h3, if_pos h3, if_pos h4, if_neg (not_not_intro h4)]; done) | rfl | (simp only [lpOrd, lpTop]; simp only [if_neg h1, if_pos h1, if_neg h2, if_pos h2, if_neg h3, if_pos h3, if_pos h4, if_neg (not_not_intro h4)]; done) | (simp_all [lpOrd, lpTop]; done))
  by_cases h5 : o = 4
  · refine lv_tableIn (tgt := 79) hx hb dX1_endOrTurn_1 (by rw [h5]; decide) (by rw [h5]; decide) (by rw [h5]; rfl) (by decide) ?_
    refine lv_aload_n hx hb dX1_endOrTurn_79 rfl (lv_at hl 0 rfl) ?_
    refine lv_iconst (v := 1) hx hb dX1_endOrTurn_80 (by decide) ?_
    refine va_put (D := (dC, dI)) (ci := 1) (v := .int 1) (ty := .boolean) (C := RX1) (T := TX1) (N := 19) hx hb hts hin_RX1 tyX1 tyX1_ok nX1 hown hK hP hD hS 0 rfl rfl 15 (by decide) hlk_74 (fun _ h9 => h9) rfl (by decide +kernel) rfl rfl (Nat.le_of_ble_eq_true rfl) dX1_endOrTurn_81 (fun H locs hP hD hS => ?_)
    have hP : va_P (dC, dI) vwCl (cw1 h (upd u 15 1)) H := hP
    have hD : va_D A (cw1 h (upd u 15 1)) := hD
    refine lv_goto (tgt := 115) hx hb dX1_endOrTurn_84 (by decide) ?_
    exact xc_vret (wf := cw1 h) hx hb hr hlocks dX1_endOrTurn_115 hK hP hD hS (by first | (simp only [lpOrd, lpTop, if_neg h1, if_pos h1, if_neg h2, if_pos h2, if_neg h3, if_pos h3, if_neg h4, if_pos h4, if_pos h5, if_neg (not_not_intro h5)]; done) | rfl | (simp only [lpOrd, lpTop]; simp only [if_neg h1, if_pos h1, if_neg h2, if_pos h2, if_neg h3, if_pos h3, if_neg h4, if_pos h4, if_pos h5, if_neg (not_not_intro h5)]; done) | (simp_all [lpOrd, lpTop]; done))
  by_cases h6 : o = 5
  · refine lv_tableIn (tgt := 87) hx hb dX1_endOrTurn_1 (by rw [h6]; decide) (by rw [h6]; decide) (by rw [h6]; rfl) (by decide) ?_
    refine lv_aload_n hx hb dX1_endOrTurn_87 rfl (lv_at hl 0 rfl) ?_
    refine xc_call (wc := cw1 h u) (wr := []) (st1 := []) (va_runV (As := []) (rest := []) ⟨hx, hb, hml, hown, hts⟩ (c_endHighestAndTurn l dC dI h s.heap.size u) (cwV 0 hts (gd_V wa_c k_ml_X1_112 k_im_X1_endHighestAndTurn k_se_X1_endHighestAndTurn k_in_X1 k_co_X1_endHighestAndTurn) rfl rfl rfl (by decide +kernel) ⟨Nat.le_of_ble_eq_true rfl, Nat.le_of_ble_eq_true rfl⟩) (xc_preV (q0 := 0) (C := RX1) hK hP hD xz_Z.nil rfl rfl) rfl rfl hl.1 rfl (lv_room (Nat.le_of_ble_eq_true rfl)) dX1_endOrTurn_88 ⟨Nat.zero_le _, Nat.zero_le _⟩) hP hD hS hA [0] [] rfl rfl (by decide) (by decide) rfl (fun H locs hP hD hS _ => ?_)
    have hP : va_P (dC, dI) vwCl (cw1 h (lpEht u)) H := hP
    have hD : va_D A (cw1 h (lpEht u)) := hD
    refine lv_goto (tgt := 115) hx hb dX1_endOrTurn_91 (by decide) ?_
    exact xc_vret (wf := cw1 h) hx hb hr hlocks dX1_endOrTurn_115 hK hP hD hS (by first | (simp only [lpOrd, lpTop, if_neg h1, if_pos h1, if_neg h2, if_pos h2, if_neg h3, if_pos h3, if_neg h4, if_pos h4, if_neg h5, if_pos h5, if_pos h6, if_neg (not_not_intro h6)]; done) | rfl | (simp only [lpOrd, lpTop]; simp only [if_neg h1, if_pos h1, if_neg h2, if_pos h2, if_neg h3, if_pos h3, if_neg h4, if_pos h4, if_neg h5, if_pos h5, if_pos h6, if_neg (not_not_intro h6)]; done) | (simp_all [lpOrd, lpTop]; done))
  by_cases h7 : o = 6
  · refine lv_tableIn (tgt := 94) hx hb dX1_endOrTurn_1 (by rw [h7]; decide) (by rw [h7]; decide) (by rw [h7]; rfl) (by decide) ?_
    refine lv_aload_n hx hb dX1_endOrTurn_94 rfl (lv_at hl 0 rfl) ?_
    refine lv_iload_n hx hb dX1_endOrTurn_95 rfl (lv_at hl 2 rfl) ?_
    refine va_put (D := (dC, dI)) (ci := 1) (v := .int k) (ty := .int) (C := RX1) (T := TX1) (N := 19) hx hb hts hin_RX1 tyX1 tyX1_ok nX1 hown hK hP hD hS 0 rfl rfl 5 (by decide) hlk_15 (fun _ h9 => h9) rfl (by decide +kernel) rfl rfl (Nat.le_of_ble_eq_true rfl) dX1_endOrTurn_96 (fun H locs hP hD hS => ?_)
    have hP : va_P (dC, dI) vwCl (cw1 h (upd u 5 k)) H := hP
    have hD : va_D A (cw1 h (upd u 5 k)) := hD
    refine lv_goto (tgt := 115) hx hb dX1_endOrTurn_99 (by decide) ?_
    exact xc_vret (wf := cw1 h) hx hb hr hlocks dX1_endOrTurn_115 hK hP hD hS (by first | (simp only [lpOrd, lpTop, if_neg h1, if_pos h1, if_neg h2, if_pos h2, if_neg h3, if_pos h3, if_neg h4, if_pos h4, if_neg h5, if_pos h5, if_neg h6, if_pos h6, if_pos h7, if_neg (not_not_intro h7)]; done) | rfl | (simp only [lpOrd, lpTop]; simp only [if_neg h1, if_pos h1, if_neg h2, if_pos h2, if_neg h3, if_pos h3, if_neg h4, if_pos h4, if_neg h5, if_pos h5, if_neg h6, if_pos h6, if_pos h7, if_neg (not_not_intro h7)]; done) | (simp_all [lpOrd, lpTop]; done))
  by_cases h8 : o = 7
  · refine lv_tableIn (tgt := 102) hx hb dX1_endOrTurn_1 (by rw [h8]; decide) (by rw [h8]; decide) (by rw [h8]; rfl) (by decide) ?_
    refine lv_aload_n hx hb dX1_endOrTurn_102 rfl (lv_at hl 0 rfl) ?_
    refine lv_iload_n hx hb dX1_endOrTurn_103 rfl (lv_at hl 2 rfl) ?_
    refine xc_call (wc := cw1 h u) (wr := []) (st1 := []) (va_runV (As := [.int k]) (rest := []) ⟨hx, hb, hml, hown, hts⟩ (c_end l dC dI h s.heap.size u k) (cwV 1 hts (gd_V wa_c k_ml_X1_109 k_im_X1_end k_se_X1_end k_in_X1 k_co_X1_end) rfl rfl rfl (by decide +kernel) ⟨Nat.le_of_ble_eq_true rfl, Nat.le_of_ble_eq_true rfl⟩) (xc_preV (q0 := 0) (C := RX1) hK hP hD xz_Z.nil rfl rfl) rfl rfl hl.1 rfl (lv_room (Nat.le_of_ble_eq_true rfl)) dX1_endOrTurn_104 ⟨Nat.zero_le _, Nat.zero_le _⟩) hP hD hS hA [0] [] rfl rfl (by decide) (by decide) rfl (fun H locs hP hD hS _ => ?_)
    have hP : va_P (dC, dI) vwCl (cw1 h (lpEnd u k)) H := hP
    have hD : va_D A (cw1 h (lpEnd u k)) := hD
    refine lv_aload_n hx hb dX1_endOrTurn_107 rfl (lv_at hl 0 rfl) ?_
    refine lv_iload_n hx hb dX1_endOrTurn_108 rfl (lv_at hl 2 rfl) ?_
    refine va_put (D := (dC, dI)) (ci := 1) (v := .int k) (ty := .int) (C := RX1) (T := TX1) (N := 19) hx hb hts hin_RX1 tyX1 tyX1_ok nX1 hown hK hP hD hS 0 rfl rfl 5 (by decide) hlk_15 (fun _ h9 => h9) rfl (by decide +kernel) rfl rfl (Nat.le_of_ble_eq_true rfl) dX1_endOrTurn_109 (fun H locs hP hD hS => ?_)
    have hP : va_P (dC, dI) vwCl (cw1 h (upd (lpEnd u k) 5 k)) H := hP
    have hD : va_D A (cw1 h (upd (lpEnd u k) 5 k)) := hD
    refine lv_goto (tgt := 115) hx hb dX1_endOrTurn_112 (by decide) ?_
    exact xc_vret (wf := cw1 h) hx hb hr hlocks dX1_endOrTurn_115 hK hP hD hS (by first | (simp only [lpOrd, lpTop, if_neg h1, if_pos h1, if_neg h2, if_pos h2, if_neg h3, if_pos h3, if_neg h4, if_pos h4, if_neg h5, if_pos h5, if_neg h6, if_pos h6, if_neg h7, if_pos h7, if_pos h8, if_neg (not_not_intro h8)]; done) | rfl | (simp only [lpOrd, lpTop]; simp only [if_neg h1, if_pos h1, if_neg h2, if_pos h2, if_neg h3, if_pos h3, if_neg h4, if_pos h4, if_neg h5, if_pos h5, if_neg h6, if_pos h6, if_neg h7, if_pos h7, if_pos h8, if_neg (not_not_intro h8)]; done) | (simp_all [lpOrd, lpTop]; done))
  refine lv_tableOut (tgt := 115) hx hb dX1_endOrTurn_1 (by have q0 := lv_neT (a := 0) h1 (by decide); have q1 := lv_neT (a := 1) h2 (by decide); have q2 := lv_neT (a := 2) h3 (by decide); have q3 := lv_neT (a := 3) h4 (by decide); have q4 := lv_neT (a := 4) h5 (by decide); have q5 := lv_neT (a := 5) h6 (by decide); have q6 := lv_neT (a := 6) h7 (by decide); have q7 := lv_neT (a := 7) h8 (by decide); omega) (by decide) ?_
  exact xc_vret (wf := cw1 h) hx hb hr hlocks dX1_endOrTurn_115 hK hP hD hS (by first | (simp only [lpOrd, lpTop, if_neg h1, if_pos h1, if_neg h2, if_pos h2, if_neg h3, if_pos h3, if_neg h4, if_pos h4, if_neg h5, if_pos h5, if_neg h6, if_pos h6, if_neg h7, if_pos h7, if_neg h8, if_pos h8]; done) | rfl | (simp only [lpOrd, lpTop]; simp only [if_neg h1, if_pos h1, if_neg h2, if_pos h2, if_neg h3, if_pos h3, if_neg h4, if_pos h4, if_neg h5, if_pos h5, if_neg h6, if_pos h6, if_neg h7, if_pos h7, if_neg h8, if_pos h8]; done) | (simp_all [lpOrd, lpTop]; done))

set_option maxHeartbeats 4000000 in
set_option maxRecDepth 100000 in
theorem c_acceptAtPort0 (l : Launch) (dC : Nat → ClassId) (dI : Nat → Nat → Nat) (h : Nat) (sz : Nat) (u : Nat → Int32) (w : Int32) : xc_M l yX1_acceptAtPort0 wsX1_acceptAtPort0 ({ frames := 4, cells := 0, slots := 0, locals := 87 }) [.ref h, .int w] sz (dC, dI) vwCl [] [] (cw1 h u) none (cw1 h (lpP0 u w)) 0 0 := by
  refine Met.ofW (cc := cX1_acceptAtPort0) (maxL := 2) (ret := none) (by decide) rfl ?_
  intro p e s m args below meth c s₁ B hml hv
  obtain ⟨rfl, hsz, hP, hK, hD0, hZ⟩ := hv
  have hx := B.exec
  have hb := B.bytes
  have hr := B.returns
  have hts := atoms_spec (ws := wsX1_acceptAtPort0) B.pre
  have hown : s.vm.findClass RX1 = some m.cls := findClass_of_methodNamed B.named
  have hlocks := B.notSynchronized
  subst hsz
  have hD := hD0.self (sz := s.heap.size)
  generalize hAe : va_A (cw1 h u) s.heap.size = A at hD ⊢
  have hA : ∀ q : Nat, s.heap.size ≤ q → A q := fun q h => by rw [← hAe]; exact Or.inr h
  have hS : va_S A s.heap s.heap [] := va_S.rf
  have hl := lv_entry ([.ref h, .int w]) (n := 2) (Nat.le_of_ble_eq_true rfl)
  rw [lg_entry_eq]
  generalize (lg_sl ([.ref h, .int w]) ++ List.replicate (2 - (lg_sl ([.ref h, .int w])).length) Slot.unset).toArray = ls at hl ⊢
  have hl : lv_has ls 2 [(0, .ref h), (1, .int w)] := hl
  refine lv_iload_n hx hb dX1_acceptAtPort0_0 rfl (lv_at hl 1 rfl) ?_
  refine lv_iconst (v := 4) hx hb dX1_acceptAtPort0_1 (by decide) ?_
  refine xr_call (st1 := [.int (lpHas w 4)]) (W.runS (As := [.int w, .int 4]) (rest := []) ⟨hx, hb, hml, hown, hts⟩ (c_hasBit l dC dI w 4) (cwS 2 hts (gd_S wa_c k_ml_X1_21 k_st_X1_hasBit k_in_X1 k_co_X1_hasBit) rfl rfl rfl (by decide +kernel) ⟨Nat.le_of_ble_eq_true rfl, Nat.le_of_ble_eq_true rfl⟩) (xr_preS hK (hP.sub (ws' := []) [] rfl) xz_Z.nil) rfl rfl hl.1 rfl (lv_room (Nat.le_of_ble_eq_true rfl)) dX1_acceptAtPort0_2 ⟨Nat.zero_le _, Nat.zero_le _⟩) rfl ?_
  refine lv_if_eq (tgt := 16) hx hb dX1_acceptAtPort0_5 (by decide) (fun h1 => ?_) (fun h1 => ?_)
  · refine lv_iload_n hx hb dX1_acceptAtPort0_16 rfl (lv_at hl 1 rfl) ?_
    refine lv_iconst (v := 3) hx hb dX1_acceptAtPort0_17 (by decide) ?_
    refine xr_call (st1 := [.int (lpHas w 3)]) (W.runS (As := [.int w, .int 3]) (rest := []) ⟨hx, hb, hml, hown, hts⟩ (c_hasBit l dC dI w 3) (cwS 2 hts (gd_S wa_c k_ml_X1_21 k_st_X1_hasBit k_in_X1 k_co_X1_hasBit) rfl rfl rfl (by decide +kernel) ⟨Nat.le_of_ble_eq_true rfl, Nat.le_of_ble_eq_true rfl⟩) (xr_preS hK (hP.sub (ws' := []) [] rfl) xz_Z.nil) rfl rfl hl.1 rfl (lv_room (Nat.le_of_ble_eq_true rfl)) dX1_acceptAtPort0_18 ⟨Nat.zero_le _, Nat.zero_le _⟩) rfl ?_
    refine lv_if_eq (tgt := 32) hx hb dX1_acceptAtPort0_21 (by decide) (fun h2 => ?_) (fun h2 => ?_)
    · refine lv_aload_n hx hb dX1_acceptAtPort0_32 rfl (lv_at hl 0 rfl) ?_
      refine lv_iload_n hx hb dX1_acceptAtPort0_33 rfl (lv_at hl 1 rfl) ?_
      refine lv_iconst (v := 5) hx hb dX1_acceptAtPort0_34 (by decide) ?_
      refine lv_ishr hx hb dX1_acceptAtPort0_35 ?_
      refine lv_iload_n hx hb dX1_acceptAtPort0_36 rfl (lv_at hl 1 rfl) ?_
      refine lv_bipush (v := 7) hx hb dX1_acceptAtPort0_37 (by decide) ?_
      refine lv_iand hx hb dX1_acceptAtPort0_39 ?_
      refine xc_call (wc := cw1 h u) (wr := []) (st1 := []) (va_runV (As := [.int (w >>> ((5 : Int32) &&& 31)), .int (w &&& 7)]) (rest := []) ⟨hx, hb, hml, hown, hts⟩ (c_endOrTurn l dC dI h s.heap.size u (w >>> ((5 : Int32) &&& 31)) (w &&& 7)) (cwV 2 hts (gd_V wa_c k_ml_X1_99 k_im_X1_endOrTurn k_se_X1_endOrTurn k_in_X1 k_co_X1_endOrTurn) rfl rfl rfl (by decide +kernel) ⟨Nat.le_of_ble_eq_true rfl, Nat.le_of_ble_eq_true rfl⟩) (xc_preV (q0 := 0) (C := RX1) hK hP hD xz_Z.nil rfl rfl) rfl rfl hl.1 rfl (lv_room (Nat.le_of_ble_eq_true rfl)) dX1_acceptAtPort0_40 ⟨Nat.zero_le _, Nat.zero_le _⟩) hP hD hS hA [0] [] rfl rfl (by decide) (by decide) rfl (fun H locs hP hD hS _ => ?_)
      have hP : va_P (dC, dI) vwCl (cw1 h (lpOrd u (w >>> ((5 : Int32) &&& 31)) (w &&& 7))) H := hP
      have hD : va_D A (cw1 h (lpOrd u (w >>> ((5 : Int32) &&& 31)) (w &&& 7))) := hD
      exact xc_vret (wf := cw1 h) hx hb hr hlocks dX1_acceptAtPort0_43 hK hP hD hS (by first | (simp only [lpP0, if_pos h1, if_neg (not_not_intro h1), if_pos h2, if_neg (not_not_intro h2)]; done) | rfl | (simp only [lpP0]; simp only [if_pos h1, if_neg (not_not_intro h1), if_pos h2, if_neg (not_not_intro h2)]; done) | (simp_all [lpP0]; done))
    · refine lv_aload_n hx hb dX1_acceptAtPort0_24 rfl (lv_at hl 0 rfl) ?_
      refine lv_iload_n hx hb dX1_acceptAtPort0_25 rfl (lv_at hl 1 rfl) ?_
      refine xc_call (wc := cw1 h u) (wr := []) (st1 := []) (va_runV (As := [.int w]) (rest := []) ⟨hx, hb, hml, hown, hts⟩ (c_choose l dC dI h s.heap.size u w) (cwV 1 hts (gd_V wa_c k_ml_X1_96 k_im_X1_choose k_se_X1_choose k_in_X1 k_co_X1_choose) rfl rfl rfl (by decide +kernel) ⟨Nat.le_of_ble_eq_true rfl, Nat.le_of_ble_eq_true rfl⟩) (xc_preV (q0 := 0) (C := RX1) hK hP hD xz_Z.nil rfl rfl) rfl rfl hl.1 rfl (lv_room (Nat.le_of_ble_eq_true rfl)) dX1_acceptAtPort0_26 ⟨Nat.zero_le _, Nat.zero_le _⟩) hP hD hS hA [0] [] rfl rfl (by decide) (by decide) rfl (fun H locs hP hD hS _ => ?_)
      have hP : va_P (dC, dI) vwCl (cw1 h (lpChoose u w)) H := hP
      have hD : va_D A (cw1 h (lpChoose u w)) := hD
      refine lv_goto (tgt := 43) hx hb dX1_acceptAtPort0_29 (by decide) ?_
      exact xc_vret (wf := cw1 h) hx hb hr hlocks dX1_acceptAtPort0_43 hK hP hD hS (by first | (simp only [lpP0, if_pos h1, if_neg (not_not_intro h1), if_neg h2, if_pos h2]; done) | rfl | (simp only [lpP0]; simp only [if_pos h1, if_neg (not_not_intro h1), if_neg h2, if_pos h2]; done) | (simp_all [lpP0]; done))
  · refine lv_aload_n hx hb dX1_acceptAtPort0_8 rfl (lv_at hl 0 rfl) ?_
    refine lv_iload_n hx hb dX1_acceptAtPort0_9 rfl (lv_at hl 1 rfl) ?_
    refine xc_call (wc := cw1 h u) (wr := []) (st1 := []) (va_runV (As := [.int w]) (rest := []) ⟨hx, hb, hml, hown, hts⟩ (c_begin l dC dI h s.heap.size u w) (cwV 1 hts (gd_V wa_c k_ml_X1_92 k_im_X1_begin k_se_X1_begin k_in_X1 k_co_X1_begin) rfl rfl rfl (by decide +kernel) ⟨Nat.le_of_ble_eq_true rfl, Nat.le_of_ble_eq_true rfl⟩) (xc_preV (q0 := 0) (C := RX1) hK hP hD xz_Z.nil rfl rfl) rfl rfl hl.1 rfl (lv_room (Nat.le_of_ble_eq_true rfl)) dX1_acceptAtPort0_10 ⟨Nat.zero_le _, Nat.zero_le _⟩) hP hD hS hA [0] [] rfl rfl (by decide) (by decide) rfl (fun H locs hP hD hS _ => ?_)
    have hP : va_P (dC, dI) vwCl (cw1 h (lpBegin u w)) H := hP
    have hD : va_D A (cw1 h (lpBegin u w)) := hD
    refine lv_goto (tgt := 43) hx hb dX1_acceptAtPort0_13 (by decide) ?_
    exact xc_vret (wf := cw1 h) hx hb hr hlocks dX1_acceptAtPort0_43 hK hP hD hS (by first | (simp only [lpP0, if_neg h1, if_pos h1]; done) | rfl | (simp only [lpP0]; simp only [if_neg h1, if_pos h1]; done) | (simp_all [lpP0]; done))

set_option maxHeartbeats 4000000 in
set_option maxRecDepth 100000 in
theorem c_acceptAtPort1 (l : Launch) (dC : Nat → ClassId) (dI : Nat → Nat → Nat) (h : Nat) (sz : Nat) (u : Nat → Int32) (w : Int32) : xc_M l yX1_acceptAtPort1 wsX1_acceptAtPort1 ({ frames := 1, cells := 0, slots := 0, locals := 21 }) [.ref h, .int w] sz (dC, dI) vwCl [] [] (cw1 h u) none (cw1 h (lpP1 u w)) 0 0 := by
  refine Met.ofW (cc := cX1_acceptAtPort1) (maxL := 2) (ret := none) (by decide) rfl ?_
  intro p e s m args below meth c s₁ B hml hv
  obtain ⟨rfl, hsz, hP, hK, hD0, hZ⟩ := hv
  have hx := B.exec
  have hb := B.bytes
  have hr := B.returns
  have hts := atoms_spec (ws := wsX1_acceptAtPort1) B.pre
  have hown : s.vm.findClass RX1 = some m.cls := findClass_of_methodNamed B.named
  have hlocks := B.notSynchronized
  subst hsz
  have hD := hD0.self (sz := s.heap.size)
  generalize hAe : va_A (cw1 h u) s.heap.size = A at hD ⊢
  have hA : ∀ q : Nat, s.heap.size ≤ q → A q := fun q h => by rw [← hAe]; exact Or.inr h
  have hS : va_S A s.heap s.heap [] := va_S.rf
  have hin_RX1 : ∀ w ∈ u_ws RX1 TX1 19, w ∈ wsX1_acceptAtPort1 := fun w h => List.mem_cons_of_mem _ (u_X1 w h)
  have hlk_36 := hts _ (List.mem_cons_of_mem _ k_fl_X1_36)
  have hlk_43 := hts _ (List.mem_cons_of_mem _ k_fl_X1_43)
  have hlk_59 := hts _ (List.mem_cons_of_mem _ k_fl_X1_59)
  have hlk_71 := hts _ (List.mem_cons_of_mem _ k_fl_X1_71)
  have hlk_80 := hts _ (List.mem_cons_of_mem _ k_fl_X1_80)
  have hlk_103 := hts _ (List.mem_cons_of_mem _ k_fl_X1_103)
  have hlk_106 := hts _ (List.mem_cons_of_mem _ k_fl_X1_106)
  have hl := lv_entry ([.ref h, .int w]) (n := 2) (Nat.le_of_ble_eq_true rfl)
  rw [lg_entry_eq]
  generalize (lg_sl ([.ref h, .int w]) ++ List.replicate (2 - (lg_sl ([.ref h, .int w])).length) Slot.unset).toArray = ls at hl ⊢
  have hl : lv_has ls 2 [(0, .ref h), (1, .int w)] := hl
  refine lv_aload_n hx hb dX1_acceptAtPort1_0 rfl (lv_at hl 0 rfl) ?_
  refine va_get (D := (dC, dI)) (ci := 1) (v := .int (u 7)) (C := RX1) (T := TX1) (N := 19) hx hb hts hin_RX1 hown hK hP 0 rfl rfl 7 (by decide) hlk_103 (fun _ h9 => h9) rfl dX1_acceptAtPort1_1 ?_
  by_cases h1 : u 7 = 2
  · refine lv_tableIn (tgt := 32) hx hb dX1_acceptAtPort1_4 (by rw [h1]; decide) (by rw [h1]; decide) (by rw [h1]; rfl) (by decide) ?_
    refine lv_aload_n hx hb dX1_acceptAtPort1_32 rfl (lv_at hl 0 rfl) ?_
    refine lv_iload_n hx hb dX1_acceptAtPort1_33 rfl (lv_at hl 1 rfl) ?_
    refine lv_sipush (v := 248) hx hb dX1_acceptAtPort1_34 (by decide) ?_
    refine lv_iand hx hb dX1_acceptAtPort1_37 ?_
    refine va_put (D := (dC, dI)) (ci := 1) (v := .int (w &&& 248)) (ty := .int) (C := RX1) (T := TX1) (N := 19) hx hb hts hin_RX1 tyX1 tyX1_ok nX1 hown hK hP hD hS 0 rfl rfl 6 (by decide) hlk_80 (fun _ h9 => h9) rfl (by decide +kernel) rfl rfl (Nat.le_of_ble_eq_true rfl) dX1_acceptAtPort1_38 (fun H locs hP hD hS => ?_)
    have hP : va_P (dC, dI) vwCl (cw1 h (upd u 6 (w &&& 248))) H := hP
    have hD : va_D A (cw1 h (upd u 6 (w &&& 248))) := hD
    refine lv_aload_n hx hb dX1_acceptAtPort1_41 rfl (lv_at hl 0 rfl) ?_
    refine lv_iconst (v := 3) hx hb dX1_acceptAtPort1_42 (by decide) ?_
    refine va_put (D := (dC, dI)) (ci := 1) (v := .int 3) (ty := .int) (C := RX1) (T := TX1) (N := 19) hx hb hts hin_RX1 tyX1 tyX1_ok nX1 hown hK hP hD hS 0 rfl rfl 7 (by decide) hlk_103 (fun _ h9 => h9) rfl (by decide +kernel) rfl rfl (Nat.le_of_ble_eq_true rfl) dX1_acceptAtPort1_43 (fun H locs hP hD hS => ?_)
    have hP : va_P (dC, dI) vwCl (cw1 h (upd (upd u 6 (w &&& 248)) 7 3)) H := hP
    have hD : va_D A (cw1 h (upd (upd u 6 (w &&& 248)) 7 3)) := hD
    refine lv_goto (tgt := 120) hx hb dX1_acceptAtPort1_46 (by decide) ?_
    exact xc_vret (wf := cw1 h) hx hb hr hlocks dX1_acceptAtPort1_120 hK hP hD hS (by first | (simp only [lpP1, if_pos h1, if_neg (not_not_intro h1)]; done) | rfl | (simp only [lpP1]; simp only [if_pos h1, if_neg (not_not_intro h1)]; done) | (simp_all [lpP1]; done))
  by_cases h2 : u 7 = 3
  · refine lv_tableIn (tgt := 49) hx hb dX1_acceptAtPort1_4 (by rw [h2]; decide) (by rw [h2]; decide) (by rw [h2]; rfl) (by decide) ?_
    refine lv_aload_n hx hb dX1_acceptAtPort1_49 rfl (lv_at hl 0 rfl) ?_
    refine lv_aload_n hx hb dX1_acceptAtPort1_50 rfl (lv_at hl 0 rfl) ?_
    refine va_get (D := (dC, dI)) (ci := 1) (v := .int (u 9)) (C := RX1) (T := TX1) (N := 19) hx hb hts hin_RX1 hown hK hP 0 rfl rfl 9 (by decide) hlk_106 (fun _ h9 => h9) rfl dX1_acceptAtPort1_51 ?_
    refine lv_if_eq (tgt := 61) hx hb dX1_acceptAtPort1_54 (by decide) (fun h3 => ?_) (fun h3 => ?_)
    · refine lv_iconst (v := 0) hx hb dX1_acceptAtPort1_61 (by decide) ?_
      refine va_put (D := (dC, dI)) (ci := 1) (v := .int 0) (ty := .int) (C := RX1) (T := TX1) (N := 19) hx hb hts hin_RX1 tyX1 tyX1_ok nX1 hown hK hP hD hS 0 rfl rfl 7 (by decide) hlk_103 (fun _ h9 => h9) rfl (by decide +kernel) rfl rfl (Nat.le_of_ble_eq_true rfl) dX1_acceptAtPort1_62 (fun H locs hP hD hS => ?_)
      have hP : va_P (dC, dI) vwCl (cw1 h (upd u 7 0)) H := hP
      have hD : va_D A (cw1 h (upd u 7 0)) := hD
      refine lv_aload_n hx hb dX1_acceptAtPort1_65 rfl (lv_at hl 0 rfl) ?_
      refine lv_aload_n hx hb dX1_acceptAtPort1_66 rfl (lv_at hl 0 rfl) ?_
      refine va_get (D := (dC, dI)) (ci := 1) (v := .int (u 9)) (C := RX1) (T := TX1) (N := 19) hx hb hts hin_RX1 hown hK hP 0 rfl rfl 9 (by decide) hlk_106 (fun _ h9 => h9) rfl dX1_acceptAtPort1_67 ?_
      refine lv_if_ne (tgt := 77) hx hb dX1_acceptAtPort1_70 (by decide) (fun h => absurd h3 h) (fun _ => ?_)
      refine lv_iconst (v := 1) hx hb dX1_acceptAtPort1_73 (by decide) ?_
      refine lv_goto (tgt := 78) hx hb dX1_acceptAtPort1_74 (by decide) ?_
      refine va_put (D := (dC, dI)) (ci := 1) (v := .int 1) (ty := .boolean) (C := RX1) (T := TX1) (N := 19) hx hb hts hin_RX1 tyX1 tyX1_ok nX1 hown hK hP hD hS 0 rfl rfl 10 (by decide) hlk_36 (fun _ h9 => h9) rfl (by decide +kernel) rfl rfl (Nat.le_of_ble_eq_true rfl) dX1_acceptAtPort1_78 (fun H locs hP hD hS => ?_)
      have hP : va_P (dC, dI) vwCl (cw1 h (upd (upd u 7 0) 10 1)) H := hP
      have hD : va_D A (cw1 h (upd (upd u 7 0) 10 1)) := hD
      refine lv_goto (tgt := 120) hx hb dX1_acceptAtPort1_81 (by decide) ?_
      exact xc_vret (wf := cw1 h) hx hb hr hlocks dX1_acceptAtPort1_120 hK hP hD hS (by first | (simp only [lpP1, if_neg h1, if_pos h1, if_pos h2, if_neg (not_not_intro h2), if_pos h3, if_neg (not_not_intro h3)]; done) | rfl | (simp only [lpP1]; simp only [if_neg h1, if_pos h1, if_pos h2, if_neg (not_not_intro h2), if_pos h3, if_neg (not_not_intro h3)]; done) | (simp_all [lpP1]; done))
    · refine lv_iconst (v := 4) hx hb dX1_acceptAtPort1_57 (by decide) ?_
      refine lv_goto (tgt := 62) hx hb dX1_acceptAtPort1_58 (by decide) ?_
      refine va_put (D := (dC, dI)) (ci := 1) (v := .int 4) (ty := .int) (C := RX1) (T := TX1) (N := 19) hx hb hts hin_RX1 tyX1 tyX1_ok nX1 hown hK hP hD hS 0 rfl rfl 7 (by decide) hlk_103 (fun _ h9 => h9) rfl (by decide +kernel) rfl rfl (Nat.le_of_ble_eq_true rfl) dX1_acceptAtPort1_62 (fun H locs hP hD hS => ?_)
      have hP : va_P (dC, dI) vwCl (cw1 h (upd u 7 4)) H := hP
      have hD : va_D A (cw1 h (upd u 7 4)) := hD
      refine lv_aload_n hx hb dX1_acceptAtPort1_65 rfl (lv_at hl 0 rfl) ?_
      refine lv_aload_n hx hb dX1_acceptAtPort1_66 rfl (lv_at hl 0 rfl) ?_
      refine va_get (D := (dC, dI)) (ci := 1) (v := .int (u 9)) (C := RX1) (T := TX1) (N := 19) hx hb hts hin_RX1 hown hK hP 0 rfl rfl 9 (by decide) hlk_106 (fun _ h9 => h9) rfl dX1_acceptAtPort1_67 ?_
      refine lv_if_ne (tgt := 77) hx hb dX1_acceptAtPort1_70 (by decide) (fun _ => ?_) (fun h => absurd h h3)
      refine lv_iconst (v := 0) hx hb dX1_acceptAtPort1_77 (by decide) ?_
      refine va_put (D := (dC, dI)) (ci := 1) (v := .int 0) (ty := .boolean) (C := RX1) (T := TX1) (N := 19) hx hb hts hin_RX1 tyX1 tyX1_ok nX1 hown hK hP hD hS 0 rfl rfl 10 (by decide) hlk_36 (fun _ h9 => h9) rfl (by decide +kernel) rfl rfl (Nat.le_of_ble_eq_true rfl) dX1_acceptAtPort1_78 (fun H locs hP hD hS => ?_)
      have hP : va_P (dC, dI) vwCl (cw1 h (upd (upd u 7 4) 10 0)) H := hP
      have hD : va_D A (cw1 h (upd (upd u 7 4) 10 0)) := hD
      refine lv_goto (tgt := 120) hx hb dX1_acceptAtPort1_81 (by decide) ?_
      exact xc_vret (wf := cw1 h) hx hb hr hlocks dX1_acceptAtPort1_120 hK hP hD hS (by first | (simp only [lpP1, if_neg h1, if_pos h1, if_pos h2, if_neg (not_not_intro h2), if_neg h3, if_pos h3]; done) | rfl | (simp only [lpP1]; simp only [if_neg h1, if_pos h1, if_pos h2, if_neg (not_not_intro h2), if_neg h3, if_pos h3]; done) | (simp_all [lpP1]; done))
  by_cases h4 : u 7 = 4
  · refine lv_tableIn (tgt := 84) hx hb dX1_acceptAtPort1_4 (by rw [h4]; decide) (by rw [h4]; decide) (by rw [h4]; rfl) (by decide) ?_
    refine lv_aload_n hx hb dX1_acceptAtPort1_84 rfl (lv_at hl 0 rfl) ?_
    refine lv_iload_n hx hb dX1_acceptAtPort1_85 rfl (lv_at hl 1 rfl) ?_
    refine lv_iconst (v := 1) hx hb dX1_acceptAtPort1_86 (by decide) ?_
    refine xr_call (st1 := [.int (lpHas w 1), .ref h]) (W.runS (As := [.int w, .int 1]) (rest := [.ref h]) ⟨hx, hb, hml, hown, hts⟩ (c_hasBit l dC dI w 1) (cwS 2 hts (gd_S wa_c k_ml_X1_21 k_st_X1_hasBit k_in_X1 k_co_X1_hasBit) rfl rfl rfl (by decide +kernel) ⟨Nat.le_of_ble_eq_true rfl, Nat.le_of_ble_eq_true rfl⟩) (xr_preS hK (hP.sub (ws' := []) [] rfl) xz_Z.nil) rfl rfl hl.1 rfl (lv_room (Nat.le_of_ble_eq_true rfl)) dX1_acceptAtPort1_87 ⟨Nat.zero_le _, Nat.zero_le _⟩) rfl ?_
    refine va_put (D := (dC, dI)) (ci := 1) (v := .int (lpHas w 1)) (ty := .boolean) (C := RX1) (T := TX1) (N := 19) hx hb hts hin_RX1 tyX1 tyX1_ok nX1 hown hK hP hD hS 0 rfl rfl 14 (by decide) hlk_71 (fun _ h9 => h9) rfl (by decide +kernel) (lpHas_nar _ _) (lpHas_fit _ _) (Nat.le_of_ble_eq_true rfl) dX1_acceptAtPort1_90 (fun H locs hP hD hS => ?_)
    have hP : va_P (dC, dI) vwCl (cw1 h (upd u 14 (lpHas w 1))) H := hP
    have hD : va_D A (cw1 h (upd u 14 (lpHas w 1))) := hD
    refine lv_aload_n hx hb dX1_acceptAtPort1_93 rfl (lv_at hl 0 rfl) ?_
    refine lv_iload_n hx hb dX1_acceptAtPort1_94 rfl (lv_at hl 1 rfl) ?_
    refine lv_iconst (v := 4) hx hb dX1_acceptAtPort1_95 (by decide) ?_
    refine xr_call (st1 := [.int (lpHas w 4), .ref h]) (W.runS (As := [.int w, .int 4]) (rest := [.ref h]) ⟨hx, hb, hml, hown, hts⟩ (c_hasBit l dC dI w 4) (cwS 2 hts (gd_S wa_c k_ml_X1_21 k_st_X1_hasBit k_in_X1 k_co_X1_hasBit) rfl rfl rfl (by decide +kernel) ⟨Nat.le_of_ble_eq_true rfl, Nat.le_of_ble_eq_true rfl⟩) (xr_preS hK (hP.sub (ws' := []) [] rfl) xz_Z.nil) rfl rfl hl.1 rfl (lv_room (Nat.le_of_ble_eq_true rfl)) dX1_acceptAtPort1_96 ⟨Nat.zero_le _, Nat.zero_le _⟩) rfl ?_
    refine va_put (D := (dC, dI)) (ci := 1) (v := .int (lpHas w 4)) (ty := .boolean) (C := RX1) (T := TX1) (N := 19) hx hb hts hin_RX1 tyX1 tyX1_ok nX1 hown hK hP hD hS 0 rfl rfl 13 (by decide) hlk_59 (fun _ h9 => h9) rfl (by decide +kernel) (lpHas_nar _ _) (lpHas_fit _ _) (Nat.le_of_ble_eq_true rfl) dX1_acceptAtPort1_99 (fun H locs hP hD hS => ?_)
    have hP : va_P (dC, dI) vwCl (cw1 h (upd (upd u 14 (lpHas w 1)) 13 (lpHas w 4))) H := hP
    have hD : va_D A (cw1 h (upd (upd u 14 (lpHas w 1)) 13 (lpHas w 4))) := hD
    refine lv_aload_n hx hb dX1_acceptAtPort1_102 rfl (lv_at hl 0 rfl) ?_
    refine lv_iconst (v := 0) hx hb dX1_acceptAtPort1_103 (by decide) ?_
    refine va_put (D := (dC, dI)) (ci := 1) (v := .int 0) (ty := .int) (C := RX1) (T := TX1) (N := 19) hx hb hts hin_RX1 tyX1 tyX1_ok nX1 hown hK hP hD hS 0 rfl rfl 7 (by decide) hlk_103 (fun _ h9 => h9) rfl (by decide +kernel) rfl rfl (Nat.le_of_ble_eq_true rfl) dX1_acceptAtPort1_104 (fun H locs hP hD hS => ?_)
    have hP : va_P (dC, dI) vwCl (cw1 h (upd (upd (upd u 14 (lpHas w 1)) 13 (lpHas w 4)) 7 0)) H := hP
    have hD : va_D A (cw1 h (upd (upd (upd u 14 (lpHas w 1)) 13 (lpHas w 4)) 7 0)) := hD
    refine lv_aload_n hx hb dX1_acceptAtPort1_107 rfl (lv_at hl 0 rfl) ?_
    refine lv_iconst (v := 1) hx hb dX1_acceptAtPort1_108 (by decide) ?_
    refine va_put (D := (dC, dI)) (ci := 1) (v := .int 1) (ty := .boolean) (C := RX1) (T := TX1) (N := 19) hx hb hts hin_RX1 tyX1 tyX1_ok nX1 hown hK hP hD hS 0 rfl rfl 10 (by decide) hlk_36 (fun _ h9 => h9) rfl (by decide +kernel) rfl rfl (Nat.le_of_ble_eq_true rfl) dX1_acceptAtPort1_109 (fun H locs hP hD hS => ?_)
    have hP : va_P (dC, dI) vwCl (cw1 h (upd (upd (upd (upd u 14 (lpHas w 1)) 13 (lpHas w 4)) 7 0) 10 1)) H := hP
    have hD : va_D A (cw1 h (upd (upd (upd (upd u 14 (lpHas w 1)) 13 (lpHas w 4)) 7 0) 10 1)) := hD
    refine lv_goto (tgt := 120) hx hb dX1_acceptAtPort1_112 (by decide) ?_
    exact xc_vret (wf := cw1 h) hx hb hr hlocks dX1_acceptAtPort1_120 hK hP hD hS (by first | (simp only [lpP1, if_neg h1, if_pos h1, if_neg h2, if_pos h2, if_pos h4, if_neg (not_not_intro h4)]; done) | rfl | (simp only [lpP1]; simp only [if_neg h1, if_pos h1, if_neg h2, if_pos h2, if_pos h4, if_neg (not_not_intro h4)]; done) | (simp_all [lpP1]; done))
  refine lv_tableOut (tgt := 115) hx hb dX1_acceptAtPort1_4 (by have q0 := lv_neT (a := 2) h1 (by decide); have q1 := lv_neT (a := 3) h2 (by decide); have q2 := lv_neT (a := 4) h4 (by decide); omega) (by decide) ?_
  refine lv_aload_n hx hb dX1_acceptAtPort1_115 rfl (lv_at hl 0 rfl) ?_
  refine lv_iload_n hx hb dX1_acceptAtPort1_116 rfl (lv_at hl 1 rfl) ?_
  refine va_put (D := (dC, dI)) (ci := 1) (v := .int w) (ty := .int) (C := RX1) (T := TX1) (N := 19) hx hb hts hin_RX1 tyX1 tyX1_ok nX1 hown hK hP hD hS 0 rfl rfl 4 (by decide) hlk_43 (fun _ h9 => h9) rfl (by decide +kernel) rfl rfl (Nat.le_of_ble_eq_true rfl) dX1_acceptAtPort1_117 (fun H locs hP hD hS => ?_)
  have hP : va_P (dC, dI) vwCl (cw1 h (upd u 4 w)) H := hP
  have hD : va_D A (cw1 h (upd u 4 w)) := hD
  exact xc_vret (wf := cw1 h) hx hb hr hlocks dX1_acceptAtPort1_120 hK hP hD hS (by first | (simp only [lpP1, if_neg h1, if_pos h1, if_neg h2, if_pos h2, if_neg h4, if_pos h4]; done) | rfl | (simp only [lpP1]; simp only [if_neg h1, if_pos h1, if_neg h2, if_pos h2, if_neg h4, if_pos h4]; done) | (simp_all [lpP1]; done))
