abbrev lh (hx hc hh ho : Nat) (cJ : ClassId) (q : PS × (Nat → Int64)) : va_W := [(hx, .inr (0, [.ref hc, .ref hh, .int q.1.2.2])), (hc, .inr (1, lpF q.1.1)), (hh, .inr (1, lpF q.1.2.1)), (ho, .inl (cJ, 1, .inr (.inl q.2)))]
def xh_P (av : List Value) (sz : Nat) (D : va_G) (cl : List vw_C) (tys : List (ClassId × FieldType)) (wc : va_W) : Array Value → State → Prop := va_Pc av (fun U => U.heap.size = sz ∧ va_P D cl wc U.heap ∧ va_K D cl tys U ∧ va_D (fun _ => True) wc ∧ xz_Z pz U ∧ xt_Z TL U ∧ va_Nc "java/lang/IllegalArgumentException" "java/util/NoSuchElementException" U)
abbrev xh_M (l : Launch) (y : MethodName) (ws : List Cond) (rm : Room) (av : List Value) (sz : Nat) (D : va_G) (cl : List vw_C) (tys : List (ClassId × FieldType)) (wc : va_W) (F : Option Value) (wG : va_W) : Prop := Met l y ws rm (xh_P av sz D cl tys wc) (xc_Q F D cl tys wG (va_A wc sz)) 1 6 (va_A wc sz)
theorem xh_blind {av : List Value} {sz : Nat} {D : va_G} {cl : List vw_C} {tys : List (ClassId × FieldType)} {wc : va_W} : FrameBlind (xh_P av sz D cl tys wc) := by
  intro a U g mk q
  obtain ⟨q0, q1, q2, q3, q4, q5, q6, q7⟩ := q
  exact ⟨q0, q1, q2, va_K.moved (u := U) (U := U.calling g mk a) (Vm.Alike.refl U.vm) q3, q4, xz_Z.same (u := U) (U := U.calling g mk a) rfl q5, q6.move (V := U.calling g mk a) (State.WarmedH.refl U) (fun _ _ => rfl), va_Nc.moved (u := U) (U := U.calling g mk a) (Vm.Alike.refl U.vm) q7⟩
theorem xh_preS {s : State} {H : Heap} {As : List Value} {D : va_G} {cl : List vw_C} {tys : List (ClassId × FieldType)} {A : Nat → Prop} {wc : va_W} (hK : va_K D cl tys s) (hP : va_P D cl wc H) (hD : va_D A wc) (hZ : xz_Z pz s) (hT : xt_Z TL s) (hN : va_Nc "java/lang/IllegalArgumentException" "java/util/NoSuchElementException" s) (hH : ∀ q : Nat, q < s.heap.size → H[q]? = s.heap[q]?) : PreS s H (xh_P As H.size D cl tys wc) As :=
  ⟨xh_blind, fun U hU hW => ⟨rfl, by rw [hU], by rw [hU]; exact hP, va_K.moved hW.alike hK, hD.weaken (fun _ _ _ _ => trivial), hZ.warm hW, hT.move hW (by rw [hU]; exact hH), hN.moved hW.alike⟩⟩
theorem xh_tab {p : Program} {l : Launch} {x : MethodName} {S : Spec} {cc : ByteArray} {maxL : Nat} {ret : Option FieldType} {e : Env} {s : State} {m : MethodId} {args : Array Value} {below : List Frame} {meth : Method} {c : Code} {s₁ : State} {hh : List (Nat × Nat × Nat × Nat)} (B : BodyLoose p l x S cc maxL ret e s m args below meth c s₁) (h : (Cond.codeWith x cc maxL ret hh).before args s = true) : c.exceptionTable.toList.map (fun h => (h.startPc, h.endPc, h.handlerPc, h.catchType)) = hh := by
  obtain ⟨m9, meth', c', hn', hm', hc', -, -, htab, -⟩ := Cond.codeWith_spec h
  cases B.named.symm.trans hn'
  cases B.method.symm.trans hm'
  cases (Stand.of_body B).code.symm.trans hc'
  exact htab
theorem xh_one {L : List ClassFile.ExceptionTableEntry} {a b c d : Nat} (h : L.map (fun h => (h.startPc, h.endPc, h.handlerPc, h.catchType)) = [(a, b, c, d)]) : ∃ x, L = [x] ∧ x.startPc = a ∧ x.endPc = b ∧ x.handlerPc = c ∧ x.catchType = d := by
  match L, h with
  | [x], h => simp only [List.map_cons, List.map_nil, List.cons.injEq, Prod.mk.injEq, and_true] at h; exact ⟨x, rfl, h.1, h.2.1, h.2.2.1, h.2.2.2⟩
theorem xh_two {L : List ClassFile.ExceptionTableEntry} {a b c d a' b' c' d' : Nat} (h : L.map (fun h => (h.startPc, h.endPc, h.handlerPc, h.catchType)) = [(a, b, c, d), (a', b', c', d')]) : ∃ y x, L = [y, x] ∧ (y.startPc = a ∧ y.endPc = b ∧ y.handlerPc = c ∧ y.catchType = d) ∧ x.startPc = a' ∧ x.endPc = b' ∧ x.handlerPc = c' ∧ x.catchType = d' := by
  match L, h with
  | [y, x], h => simp only [List.map_cons, List.map_nil, List.cons.injEq, Prod.mk.injEq, and_true] at h; exact ⟨y, x, rfl, h.1, h.2⟩
set_option maxHeartbeats 4000000 in
set_option maxRecDepth 100000 in
theorem L_line_ok (l : Launch) (dC : Nat → ClassId) (dI : Nat → Nat → Nat) (hx hc hh ho : Nat) (cJ : ClassId) (sz : Nat) (q q' : PS) (o : Nat → Int64) (k t r : Int32) (hM : ∀ sz, xc_M l yX0_line wsX0_line ({ frames := 4, cells := 0, slots := 0, locals := 86 }) [.ref hx, .int k, .int t] sz (dC, dI) vwCl [] pz (pw hx hc hh q) (some (.int r)) (pw hx hc hh q') 0 0) : xh_M l yL_line wsL_line ({ frames := 7, cells := 1, slots := 6, locals := 113 }) [.ref hx, .int k, .int t, .ref ho] sz (dC, dI) vwCl [(cJ, .long)] (lh hx hc hh ho cJ (q, o)) (some (.int 0)) (lh hx hc hh ho cJ (q', vp_updL o 0 (if r = 0 then 0 else 1))) := by
  refine va_MetW (hh := [(0, 17, 20, 13)]) (cc := cL_line) (maxL := 5) (ret := (some .int)) (by decide) rfl ?_
  intro p e s m args below meth c s₁ B hml hv
  obtain ⟨rfl, hsz, hP, hK, hD0, hZ, hT, hNc⟩ := hv
  have hx_ := B.exec
  have hb := B.bytes
  have hr := B.returns
  have hts := atoms_spec (ws := wsL_line) B.pre
  have hown : s.vm.findClass RL = some m.cls := findClass_of_methodNamed B.named
  have hlocks := B.notSynchronized
  subst hsz
  have hD := hD0.self (sz := s.heap.size)
  generalize hAe : va_A (lh hx hc hh ho cJ (q, o)) s.heap.size = A at hD ⊢
  have hA : ∀ q : Nat, s.heap.size ≤ q → A q := fun q h => by rw [← hAe]; exact Or.inr h
  have hS : va_S A s.heap s.heap [] := va_S.rf
  have hl := lv_entry ([.ref hx, .int k, .int t, .ref ho]) (n := 5) (Nat.le_of_ble_eq_true rfl)
  rw [lg_entry_eq]
  generalize (lg_sl ([.ref hx, .int k, .int t, .ref ho]) ++ List.replicate (5 - (lg_sl ([.ref hx, .int k, .int t, .ref ho])).length) Slot.unset).toArray = ls at hl ⊢
  have hl : lv_has ls 5 [(0, .ref hx), (1, .int k), (2, .int t), (3, .ref ho)] := hl
  refine lv_aload_n hx_ hb dL_line_0 rfl (lv_at hl 3 rfl) ?_
  refine lv_iconst (v := 0) hx_ hb dL_line_1 (by decide) ?_
  refine lv_aload_n hx_ hb dL_line_2 rfl (lv_at hl 0 rfl) ?_
  refine lv_iload_n hx_ hb dL_line_3 rfl (lv_at hl 1 rfl) ?_
  refine lv_iload_n hx_ hb dL_line_4 rfl (lv_at hl 2 rfl) ?_
  refine xc_call (wc := pw hx hc hh q) (wr := [(ho, .inl (cJ, 1, .inr (.inl o)))]) (st1 := [.int r, .int 0, .ref ho]) (va_runV (As := [.int k, .int t]) (rest := [.int 0, .ref ho]) ⟨hx_, hb, hml, hown, hts⟩ (hM s.heap.size) (cwV 2 hts (gd_V wa_c k_ml_L_7 k_im_X0_line k_se_X0_line k_in_X0 k_co_X0_line) rfl rfl rfl (by decide +kernel) ⟨Nat.le_of_ble_eq_true rfl, Nat.le_of_ble_eq_true rfl⟩) (xc_preV (q0 := 0) (C := RX0) (hK.sub (tys' := []) [] rfl) (hP.sub (ws' := pw hx hc hh q) [0, 1, 2] rfl) (hD.sub (ws' := pw hx hc hh q) [0, 1, 2] (by decide) rfl) hZ rfl rfl) rfl rfl hl.1 rfl (lv_room (Nat.le_of_ble_eq_true rfl)) dL_line_5 ⟨Nat.zero_le _, Nat.zero_le _⟩) hP hD hS hA [0, 1, 2] [3] rfl rfl (by decide) (by decide) rfl (fun H locs hP hD hS _ => ?_)
  have hP := hP.sub (ws' := lh hx hc hh ho cJ (q', o)) [1, 2, 3, 0] rfl
  have hD := hD.sub (ws' := lh hx hc hh ho cJ (q', o)) [1, 2, 3, 0] (by decide) rfl
  refine lv_if_eq (tgt := 15) hx_ hb dL_line_8 (by decide) (fun h1 => ?_) (fun h1 => ?_)
  · refine lv_lconst (v := 0) hx_ hb dL_line_15 (by decide) ?_
    refine va_last hx_ hb hK hP hD hS 3 0 rfl rfl (vp_in_nI (n := 0) (N := 1) (by decide) (by decide)) dL_line_16 (fun H locs hP hD hS => ?_)
    have hP : va_P (dC, dI) vwCl (lh hx hc hh ho cJ (q', vp_updL o 0 (0))) H := hP
    have hD : va_D A (lh hx hc hh ho cJ (q', vp_updL o 0 (0))) := hD
    refine lv_goto (tgt := 24) hx_ hb dL_line_17 (by decide) ?_
    refine lv_iconst (v := 0) hx_ hb dL_line_24 (by decide) ?_
    refine W.widen (k := 1) (n := 6) (by decide) (by decide) ?_
    exact xc_iret (wf := lh hx hc hh ho cJ) hx_ hb hr hlocks dL_line_25 hK hP hD hS rfl (by first | rw [if_pos h1] | rw [if_neg h1])
  · refine lv_lconst (v := 1) hx_ hb dL_line_11 (by decide) ?_
    refine lv_goto (tgt := 16) hx_ hb dL_line_12 (by decide) ?_
    refine va_last hx_ hb hK hP hD hS 3 0 rfl rfl (vp_in_nI (n := 0) (N := 1) (by decide) (by decide)) dL_line_16 (fun H locs hP hD hS => ?_)
    have hP : va_P (dC, dI) vwCl (lh hx hc hh ho cJ (q', vp_updL o 0 (1))) H := hP
    have hD : va_D A (lh hx hc hh ho cJ (q', vp_updL o 0 (1))) := hD
    refine lv_goto (tgt := 24) hx_ hb dL_line_17 (by decide) ?_
    refine lv_iconst (v := 0) hx_ hb dL_line_24 (by decide) ?_
    refine W.widen (k := 1) (n := 6) (by decide) (by decide) ?_
    exact xc_iret (wf := lh hx hc hh ho cJ) hx_ hb hr hlocks dL_line_25 hK hP hD hS rfl (by first | rw [if_pos h1] | rw [if_neg h1])
set_option maxHeartbeats 4000000 in
set_option maxRecDepth 100000 in
theorem L_line_t1 (l : Launch) (dC : Nat → ClassId) (dI : Nat → Nat → Nat) (hx hc hh ho : Nat) (cJ : ClassId) (sz : Nat) (q : PS) (o : Nat → Int64) (k t : Int32) (hM : xt_M l yX0_line wsX0_line ({ frames := 6, cells := 1, slots := 6, locals := 90 }) (xt_P [.ref hx, .int k, .int t] (dC, dI) vwCl [] pz TL (pw hx hc hh q)) "java/util/NoSuchElementException") : xh_M l yL_line wsL_line ({ frames := 7, cells := 1, slots := 6, locals := 113 }) [.ref hx, .int k, .int t, .ref ho] sz (dC, dI) vwCl [(cJ, .long)] (lh hx hc hh ho cJ (q, o)) (some (.int 1)) (lh hx hc hh ho cJ (q, o)) := by
  refine va_MetW (hh := [(0, 17, 20, 13)]) (cc := cL_line) (maxL := 5) (ret := (some .int)) (by decide) rfl ?_
  intro p e s m args below meth c s₁ B hml hv
  obtain ⟨rfl, hsz, hP, hK, hD0, hZ, hT, hNc⟩ := hv
  have hx_ := B.exec
  have hb := B.bytes
  have hr := B.returns
  have hts := atoms_spec (ws := wsL_line) B.pre
  have hown : s.vm.findClass RL = some m.cls := findClass_of_methodNamed B.named
  have hlocks := B.notSynchronized
  subst hsz
  have hD := hD0.self (sz := s.heap.size)
  generalize hAe : va_A (lh hx hc hh ho cJ (q, o)) s.heap.size = A at hD ⊢
  have hA : ∀ q : Nat, s.heap.size ≤ q → A q := fun q h => by rw [← hAe]; exact Or.inr h
  have hS : va_S A s.heap s.heap [] := va_S.rf
  have hl := lv_entry ([.ref hx, .int k, .int t, .ref ho]) (n := 5) (Nat.le_of_ble_eq_true rfl)
  rw [lg_entry_eq]
  generalize (lg_sl ([.ref hx, .int k, .int t, .ref ho]) ++ List.replicate (5 - (lg_sl ([.ref hx, .int k, .int t, .ref ho])).length) Slot.unset).toArray = ls at hl ⊢
  have hl : lv_has ls 5 [(0, .ref hx), (1, .int k), (2, .int t), (3, .ref ho)] := hl
  refine lv_aload_n hx_ hb dL_line_0 rfl (lv_at hl 3 rfl) ?_
  refine lv_iconst (v := 0) hx_ hb dL_line_1 (by decide) ?_
  refine lv_aload_n hx_ hb dL_line_2 rfl (lv_at hl 0 rfl) ?_
  refine lv_iload_n hx_ hb dL_line_3 rfl (lv_at hl 1 rfl) ?_
  refine lv_iload_n hx_ hb dL_line_4 rfl (lv_at hl 2 rfl) ?_
  have htab := xh_tab B (hts _ List.mem_cons_self)
  obtain ⟨tx, htl, x1, x2, x3, x4⟩ := xh_one htab
  refine xt_catch1 (name := "java/util/NoSuchElementException") (xt_runV (As := [.int k, .int t]) (rest := [.int 0, .ref ho]) ⟨hx_, hb, hml, hown, hts⟩ hM (cwV 2 hts (gd_V wa_c k_ml_L_7 k_im_X0_line k_se_X0_line k_in_X0 k_co_X0_line) rfl rfl rfl (by decide +kernel) ⟨Nat.le_of_ble_eq_true rfl, Nat.le_of_ble_eq_true rfl⟩) (xt_preV (q0 := 0) (C := RX0) (hK.sub (tys' := []) [] rfl) (hP.sub (ws' := pw hx hc hh q) [0, 1, 2] rfl) hZ hT (fun _ _ => rfl) rfl rfl) rfl rfl hl.1 rfl (lv_room (Nat.le_of_ble_eq_true rfl)) dL_line_5 ⟨Nat.le_of_ble_eq_true rfl, Nat.le_of_ble_eq_true rfl⟩) hown htl (by simp [covers, x1, x2]) (by rw [x4]; decide) (by rw [x4]; exact hts _ (List.mem_cons_of_mem _ k_cl_L_13)) (hT.use (by decide +kernel)) (fun q9 H hz hk => ?_)
  rw [x3]
  have hP : va_P (dC, dI) vwCl (lh hx hc hh ho cJ (q, o)) H := hP.kept (fun k z hz9 => hk z.1 (hP k z hz9).lt)
  have hS : va_S A s.heap H [] := ⟨hz, fun z h1 _ => hk z h1, fun z h1 => by cases h1⟩
  refine lv_astore (lv' := [(4, .ref q9), (0, .ref hx), (1, .int k), (2, .int t), (3, .ref ho)]) hx_ hb dL_line_20 hl (by decide) rfl (fun ls hl => ?_)
  refine lv_iconst (v := 1) hx_ hb dL_line_22 (by decide) ?_
  exact xc_iret (wf := lh hx hc hh ho cJ) hx_ hb hr hlocks dL_line_23 hK hP hD hS rfl rfl
set_option maxHeartbeats 4000000 in
set_option maxRecDepth 100000 in
theorem L_write_ok (l : Launch) (dC : Nat → ClassId) (dI : Nat → Nat → Nat) (hx hc hh ho : Nat) (cJ : ClassId) (sz : Nat) (q q' : PS) (o : Nat → Int64) (x y w r : Int32) (hM : ∀ sz, xc_M l yX0_write wsX0_write ({ frames := 5, cells := 0, slots := 0, locals := 108 }) [.ref hx, .int x, .int y, .int w] sz (dC, dI) vwCl [] pz (pw hx hc hh q) (some (.int r)) (pw hx hc hh q') 0 0) : xh_M l yL_write wsL_write ({ frames := 8, cells := 1, slots := 6, locals := 144 }) [.ref hx, .int x, .int y, .int w, .ref ho] sz (dC, dI) vwCl [(cJ, .long)] (lh hx hc hh ho cJ (q, o)) (some (.int 0)) (lh hx hc hh ho cJ (q', vp_updL o 0 (if r = 0 then 0 else 1))) := by
  refine va_MetW (hh := [(0, 19, 22, 13), (0, 19, 26, 19)]) (cc := cL_write) (maxL := 6) (ret := (some .int)) (by decide) rfl ?_
  intro p e s m args below meth c s₁ B hml hv
  obtain ⟨rfl, hsz, hP, hK, hD0, hZ, hT, hNc⟩ := hv
  have hx_ := B.exec
  have hb := B.bytes
  have hr := B.returns
  have hts := atoms_spec (ws := wsL_write) B.pre
  have hown : s.vm.findClass RL = some m.cls := findClass_of_methodNamed B.named
  have hlocks := B.notSynchronized
  subst hsz
  have hD := hD0.self (sz := s.heap.size)
  generalize hAe : va_A (lh hx hc hh ho cJ (q, o)) s.heap.size = A at hD ⊢
  have hA : ∀ q : Nat, s.heap.size ≤ q → A q := fun q h => by rw [← hAe]; exact Or.inr h
  have hS : va_S A s.heap s.heap [] := va_S.rf
  have hl := lv_entry ([.ref hx, .int x, .int y, .int w, .ref ho]) (n := 6) (Nat.le_of_ble_eq_true rfl)
  rw [lg_entry_eq]
  generalize (lg_sl ([.ref hx, .int x, .int y, .int w, .ref ho]) ++ List.replicate (6 - (lg_sl ([.ref hx, .int x, .int y, .int w, .ref ho])).length) Slot.unset).toArray = ls at hl ⊢
  have hl : lv_has ls 6 [(0, .ref hx), (1, .int x), (2, .int y), (3, .int w), (4, .ref ho)] := hl
  refine lv_aload hx_ hb dL_write_0 (lv_at hl 4 rfl) ?_
  refine lv_iconst (v := 0) hx_ hb dL_write_2 (by decide) ?_
  refine lv_aload_n hx_ hb dL_write_3 rfl (lv_at hl 0 rfl) ?_
  refine lv_iload_n hx_ hb dL_write_4 rfl (lv_at hl 1 rfl) ?_
  refine lv_iload_n hx_ hb dL_write_5 rfl (lv_at hl 2 rfl) ?_
  refine lv_iload_n hx_ hb dL_write_6 rfl (lv_at hl 3 rfl) ?_
  refine xc_call (wc := pw hx hc hh q) (wr := [(ho, .inl (cJ, 1, .inr (.inl o)))]) (st1 := [.int r, .int 0, .ref ho]) (va_runV (As := [.int x, .int y, .int w]) (rest := [.int 0, .ref ho]) ⟨hx_, hb, hml, hown, hts⟩ (hM s.heap.size) (cwV 3 hts (gd_V wa_c k_ml_L_15 k_im_X0_write k_se_X0_write k_in_X0 k_co_X0_write) rfl rfl rfl (by decide +kernel) ⟨Nat.le_of_ble_eq_true rfl, Nat.le_of_ble_eq_true rfl⟩) (xc_preV (q0 := 0) (C := RX0) (hK.sub (tys' := []) [] rfl) (hP.sub (ws' := pw hx hc hh q) [0, 1, 2] rfl) (hD.sub (ws' := pw hx hc hh q) [0, 1, 2] (by decide) rfl) hZ rfl rfl) rfl rfl hl.1 rfl (lv_room (Nat.le_of_ble_eq_true rfl)) dL_write_7 ⟨Nat.zero_le _, Nat.zero_le _⟩) hP hD hS hA [0, 1, 2] [3] rfl rfl (by decide) (by decide) rfl (fun H locs hP hD hS _ => ?_)
  have hP := hP.sub (ws' := lh hx hc hh ho cJ (q', o)) [1, 2, 3, 0] rfl
  have hD := hD.sub (ws' := lh hx hc hh ho cJ (q', o)) [1, 2, 3, 0] (by decide) rfl
  refine lv_if_eq (tgt := 17) hx_ hb dL_write_10 (by decide) (fun h1 => ?_) (fun h1 => ?_)
  · refine lv_lconst (v := 0) hx_ hb dL_write_17 (by decide) ?_
    refine va_last hx_ hb hK hP hD hS 3 0 rfl rfl (vp_in_nI (n := 0) (N := 1) (by decide) (by decide)) dL_write_18 (fun H locs hP hD hS => ?_)
    have hP : va_P (dC, dI) vwCl (lh hx hc hh ho cJ (q', vp_updL o 0 (0))) H := hP
    have hD : va_D A (lh hx hc hh ho cJ (q', vp_updL o 0 (0))) := hD
    refine lv_goto (tgt := 30) hx_ hb dL_write_19 (by decide) ?_
    refine lv_iconst (v := 0) hx_ hb dL_write_30 (by decide) ?_
    refine W.widen (k := 1) (n := 6) (by decide) (by decide) ?_
    exact xc_iret (wf := lh hx hc hh ho cJ) hx_ hb hr hlocks dL_write_31 hK hP hD hS rfl (by first | rw [if_pos h1] | rw [if_neg h1])
  · refine lv_lconst (v := 1) hx_ hb dL_write_13 (by decide) ?_
    refine lv_goto (tgt := 18) hx_ hb dL_write_14 (by decide) ?_
    refine va_last hx_ hb hK hP hD hS 3 0 rfl rfl (vp_in_nI (n := 0) (N := 1) (by decide) (by decide)) dL_write_18 (fun H locs hP hD hS => ?_)
    have hP : va_P (dC, dI) vwCl (lh hx hc hh ho cJ (q', vp_updL o 0 (1))) H := hP
    have hD : va_D A (lh hx hc hh ho cJ (q', vp_updL o 0 (1))) := hD
    refine lv_goto (tgt := 30) hx_ hb dL_write_19 (by decide) ?_
    refine lv_iconst (v := 0) hx_ hb dL_write_30 (by decide) ?_
    refine W.widen (k := 1) (n := 6) (by decide) (by decide) ?_
    exact xc_iret (wf := lh hx hc hh ho cJ) hx_ hb hr hlocks dL_write_31 hK hP hD hS rfl (by first | rw [if_pos h1] | rw [if_neg h1])
set_option maxHeartbeats 4000000 in
set_option maxRecDepth 100000 in
theorem L_write_t1 (l : Launch) (dC : Nat → ClassId) (dI : Nat → Nat → Nat) (hx hc hh ho : Nat) (cJ : ClassId) (sz : Nat) (q : PS) (o : Nat → Int64) (x y w : Int32) (hM : xt_M l yX0_write wsX0_write ({ frames := 7, cells := 1, slots := 6, locals := 120 }) (xt_P [.ref hx, .int x, .int y, .int w] (dC, dI) vwCl [] pz TL (pw hx hc hh q)) "java/util/NoSuchElementException") : xh_M l yL_write wsL_write ({ frames := 8, cells := 1, slots := 6, locals := 144 }) [.ref hx, .int x, .int y, .int w, .ref ho] sz (dC, dI) vwCl [(cJ, .long)] (lh hx hc hh ho cJ (q, o)) (some (.int 1)) (lh hx hc hh ho cJ (q, o)) := by
  refine va_MetW (hh := [(0, 19, 22, 13), (0, 19, 26, 19)]) (cc := cL_write) (maxL := 6) (ret := (some .int)) (by decide) rfl ?_
  intro p e s m args below meth c s₁ B hml hv
  obtain ⟨rfl, hsz, hP, hK, hD0, hZ, hT, hNc⟩ := hv
  have hx_ := B.exec
  have hb := B.bytes
  have hr := B.returns
  have hts := atoms_spec (ws := wsL_write) B.pre
  have hown : s.vm.findClass RL = some m.cls := findClass_of_methodNamed B.named
  have hlocks := B.notSynchronized
  subst hsz
  have hD := hD0.self (sz := s.heap.size)
  generalize hAe : va_A (lh hx hc hh ho cJ (q, o)) s.heap.size = A at hD ⊢
  have hA : ∀ q : Nat, s.heap.size ≤ q → A q := fun q h => by rw [← hAe]; exact Or.inr h
  have hS : va_S A s.heap s.heap [] := va_S.rf
  have hl := lv_entry ([.ref hx, .int x, .int y, .int w, .ref ho]) (n := 6) (Nat.le_of_ble_eq_true rfl)
  rw [lg_entry_eq]
  generalize (lg_sl ([.ref hx, .int x, .int y, .int w, .ref ho]) ++ List.replicate (6 - (lg_sl ([.ref hx, .int x, .int y, .int w, .ref ho])).length) Slot.unset).toArray = ls at hl ⊢
  have hl : lv_has ls 6 [(0, .ref hx), (1, .int x), (2, .int y), (3, .int w), (4, .ref ho)] := hl
  refine lv_aload hx_ hb dL_write_0 (lv_at hl 4 rfl) ?_
  refine lv_iconst (v := 0) hx_ hb dL_write_2 (by decide) ?_
  refine lv_aload_n hx_ hb dL_write_3 rfl (lv_at hl 0 rfl) ?_
  refine lv_iload_n hx_ hb dL_write_4 rfl (lv_at hl 1 rfl) ?_
  refine lv_iload_n hx_ hb dL_write_5 rfl (lv_at hl 2 rfl) ?_
  refine lv_iload_n hx_ hb dL_write_6 rfl (lv_at hl 3 rfl) ?_
  have htab := xh_tab B (hts _ List.mem_cons_self)
  obtain ⟨tx, tx0, htl, ⟨x1, x2, x3, x4⟩, -⟩ := xh_two htab
  refine xt_catch1 (name := "java/util/NoSuchElementException") (xt_runV (As := [.int x, .int y, .int w]) (rest := [.int 0, .ref ho]) ⟨hx_, hb, hml, hown, hts⟩ hM (cwV 3 hts (gd_V wa_c k_ml_L_15 k_im_X0_write k_se_X0_write k_in_X0 k_co_X0_write) rfl rfl rfl (by decide +kernel) ⟨Nat.le_of_ble_eq_true rfl, Nat.le_of_ble_eq_true rfl⟩) (xt_preV (q0 := 0) (C := RX0) (hK.sub (tys' := []) [] rfl) (hP.sub (ws' := pw hx hc hh q) [0, 1, 2] rfl) hZ hT (fun _ _ => rfl) rfl rfl) rfl rfl hl.1 rfl (lv_room (Nat.le_of_ble_eq_true rfl)) dL_write_7 ⟨Nat.le_of_ble_eq_true rfl, Nat.le_of_ble_eq_true rfl⟩) hown htl (by simp [covers, x1, x2]) (by rw [x4]; decide) (by rw [x4]; exact hts _ (List.mem_cons_of_mem _ k_cl_L_13)) (hT.use (by decide +kernel)) (fun q9 H hz hk => ?_)
  rw [x3]
  have hP : va_P (dC, dI) vwCl (lh hx hc hh ho cJ (q, o)) H := hP.kept (fun k z hz9 => hk z.1 (hP k z hz9).lt)
  have hS : va_S A s.heap H [] := ⟨hz, fun z h1 _ => hk z h1, fun z h1 => by cases h1⟩
  refine lv_astore (lv' := [(5, .ref q9), (0, .ref hx), (1, .int x), (2, .int y), (3, .int w), (4, .ref ho)]) hx_ hb dL_write_22 hl (by decide) rfl (fun ls hl => ?_)
  refine lv_iconst (v := 1) hx_ hb dL_write_24 (by decide) ?_
  exact xc_iret (wf := lh hx hc hh ho cJ) hx_ hb hr hlocks dL_write_25 hK hP hD hS rfl rfl
set_option maxHeartbeats 4000000 in
set_option maxRecDepth 100000 in
theorem L_write_t2 (l : Launch) (dC : Nat → ClassId) (dI : Nat → Nat → Nat) (hx hc hh ho : Nat) (cJ : ClassId) (sz : Nat) (q : PS) (o : Nat → Int64) (x y w : Int32) (hM : xt_M l yX0_write wsX0_write ({ frames := 7, cells := 1, slots := 6, locals := 120 }) (xt_P [.ref hx, .int x, .int y, .int w] (dC, dI) vwCl [] pz TL (pw hx hc hh q)) "java/lang/IllegalArgumentException") : xh_M l yL_write wsL_write ({ frames := 8, cells := 1, slots := 6, locals := 144 }) [.ref hx, .int x, .int y, .int w, .ref ho] sz (dC, dI) vwCl [(cJ, .long)] (lh hx hc hh ho cJ (q, o)) (some (.int 2)) (lh hx hc hh ho cJ (q, o)) := by
  refine va_MetW (hh := [(0, 19, 22, 13), (0, 19, 26, 19)]) (cc := cL_write) (maxL := 6) (ret := (some .int)) (by decide) rfl ?_
  intro p e s m args below meth c s₁ B hml hv
  obtain ⟨rfl, hsz, hP, hK, hD0, hZ, hT, hNc⟩ := hv
  have hx_ := B.exec
  have hb := B.bytes
  have hr := B.returns
  have hts := atoms_spec (ws := wsL_write) B.pre
  have hown : s.vm.findClass RL = some m.cls := findClass_of_methodNamed B.named
  have hlocks := B.notSynchronized
  subst hsz
  have hD := hD0.self (sz := s.heap.size)
  generalize hAe : va_A (lh hx hc hh ho cJ (q, o)) s.heap.size = A at hD ⊢
  have hA : ∀ q : Nat, s.heap.size ≤ q → A q := fun q h => by rw [← hAe]; exact Or.inr h
  have hS : va_S A s.heap s.heap [] := va_S.rf
  have hl := lv_entry ([.ref hx, .int x, .int y, .int w, .ref ho]) (n := 6) (Nat.le_of_ble_eq_true rfl)
  rw [lg_entry_eq]
  generalize (lg_sl ([.ref hx, .int x, .int y, .int w, .ref ho]) ++ List.replicate (6 - (lg_sl ([.ref hx, .int x, .int y, .int w, .ref ho])).length) Slot.unset).toArray = ls at hl ⊢
  have hl : lv_has ls 6 [(0, .ref hx), (1, .int x), (2, .int y), (3, .int w), (4, .ref ho)] := hl
  refine lv_aload hx_ hb dL_write_0 (lv_at hl 4 rfl) ?_
  refine lv_iconst (v := 0) hx_ hb dL_write_2 (by decide) ?_
  refine lv_aload_n hx_ hb dL_write_3 rfl (lv_at hl 0 rfl) ?_
  refine lv_iload_n hx_ hb dL_write_4 rfl (lv_at hl 1 rfl) ?_
  refine lv_iload_n hx_ hb dL_write_5 rfl (lv_at hl 2 rfl) ?_
  refine lv_iload_n hx_ hb dL_write_6 rfl (lv_at hl 3 rfl) ?_
  have htab := xh_tab B (hts _ List.mem_cons_self)
  obtain ⟨ty, tx, htl, ⟨y1, y2, y3, y4⟩, x1, x2, x3, x4⟩ := xh_two htab
  refine xt_catch2 (name := "java/lang/IllegalArgumentException") (nm := "java/util/NoSuchElementException") (xt_runV (As := [.int x, .int y, .int w]) (rest := [.int 0, .ref ho]) ⟨hx_, hb, hml, hown, hts⟩ hM (cwV 3 hts (gd_V wa_c k_ml_L_15 k_im_X0_write k_se_X0_write k_in_X0 k_co_X0_write) rfl rfl rfl (by decide +kernel) ⟨Nat.le_of_ble_eq_true rfl, Nat.le_of_ble_eq_true rfl⟩) (xt_preV (q0 := 0) (C := RX0) (hK.sub (tys' := []) [] rfl) (hP.sub (ws' := pw hx hc hh q) [0, 1, 2] rfl) hZ hT (fun _ _ => rfl) rfl rfl) rfl rfl hl.1 rfl (lv_room (Nat.le_of_ble_eq_true rfl)) dL_write_7 ⟨Nat.le_of_ble_eq_true rfl, Nat.le_of_ble_eq_true rfl⟩) hown htl (by simp [covers, y1, y2]) (by rw [y4]; decide) (by rw [y4]; exact hts _ (List.mem_cons_of_mem _ k_cl_L_13)) hNc (by simp [covers, x1, x2]) (by rw [x4]; decide) (by rw [x4]; exact hts _ (List.mem_cons_of_mem _ k_cl_L_19)) (hT.use (by decide +kernel)) (fun q9 H hz hk => ?_)
  rw [x3]
  have hP : va_P (dC, dI) vwCl (lh hx hc hh ho cJ (q, o)) H := hP.kept (fun k z hz9 => hk z.1 (hP k z hz9).lt)
  have hS : va_S A s.heap H [] := ⟨hz, fun z h1 _ => hk z h1, fun z h1 => by cases h1⟩
  refine lv_astore (lv' := [(5, .ref q9), (0, .ref hx), (1, .int x), (2, .int y), (3, .int w), (4, .ref ho)]) hx_ hb dL_write_26 hl (by decide) rfl (fun ls hl => ?_)
  refine lv_iconst (v := 2) hx_ hb dL_write_28 (by decide) ?_
  exact xc_iret (wf := lh hx hc hh ho cJ) hx_ hb hr hlocks dL_write_29 hK hP hD hS rfl rfl
set_option maxHeartbeats 4000000 in
set_option maxRecDepth 100000 in
theorem L_read_ok (l : Launch) (dC : Nat → ClassId) (dI : Nat → Nat → Nat) (hx hc hh ho : Nat) (cJ : ClassId) (sz : Nat) (q q' : PS) (o : Nat → Int64) (x y r : Int32) (hM : ∀ sz, xc_M l yX0_read wsX0_read ({ frames := 5, cells := 0, slots := 0, locals := 108 }) [.ref hx, .int x, .int y] sz (dC, dI) vwCl [] pz (pw hx hc hh q) (some (.int r)) (pw hx hc hh q') 0 0) : xh_M l yL_read wsL_read ({ frames := 8, cells := 1, slots := 6, locals := 144 }) [.ref hx, .int x, .int y, .ref ho] sz (dC, dI) vwCl [(cJ, .long)] (lh hx hc hh ho cJ (q, o)) (some (.int 0)) (lh hx hc hh ho cJ (q', vp_updL o 0 (r.toInt64))) := by
  refine va_MetW (hh := [(0, 10, 13, 13)]) (cc := cL_read) (maxL := 5) (ret := (some .int)) (by decide) rfl ?_
  intro p e s m args below meth c s₁ B hml hv
  obtain ⟨rfl, hsz, hP, hK, hD0, hZ, hT, hNc⟩ := hv
  have hx_ := B.exec
  have hb := B.bytes
  have hr := B.returns
  have hts := atoms_spec (ws := wsL_read) B.pre
  have hown : s.vm.findClass RL = some m.cls := findClass_of_methodNamed B.named
  have hlocks := B.notSynchronized
  subst hsz
  have hD := hD0.self (sz := s.heap.size)
  generalize hAe : va_A (lh hx hc hh ho cJ (q, o)) s.heap.size = A at hD ⊢
  have hA : ∀ q : Nat, s.heap.size ≤ q → A q := fun q h => by rw [← hAe]; exact Or.inr h
  have hS : va_S A s.heap s.heap [] := va_S.rf
  have hl := lv_entry ([.ref hx, .int x, .int y, .ref ho]) (n := 5) (Nat.le_of_ble_eq_true rfl)
  rw [lg_entry_eq]
  generalize (lg_sl ([.ref hx, .int x, .int y, .ref ho]) ++ List.replicate (5 - (lg_sl ([.ref hx, .int x, .int y, .ref ho])).length) Slot.unset).toArray = ls at hl ⊢
  have hl : lv_has ls 5 [(0, .ref hx), (1, .int x), (2, .int y), (3, .ref ho)] := hl
  refine lv_aload_n hx_ hb dL_read_0 rfl (lv_at hl 3 rfl) ?_
  refine lv_iconst (v := 0) hx_ hb dL_read_1 (by decide) ?_
  refine lv_aload_n hx_ hb dL_read_2 rfl (lv_at hl 0 rfl) ?_
  refine lv_iload_n hx_ hb dL_read_3 rfl (lv_at hl 1 rfl) ?_
  refine lv_iload_n hx_ hb dL_read_4 rfl (lv_at hl 2 rfl) ?_
  refine xc_call (wc := pw hx hc hh q) (wr := [(ho, .inl (cJ, 1, .inr (.inl o)))]) (st1 := [.int r, .int 0, .ref ho]) (va_runV (As := [.int x, .int y]) (rest := [.int 0, .ref ho]) ⟨hx_, hb, hml, hown, hts⟩ (hM s.heap.size) (cwV 2 hts (gd_V wa_c k_ml_L_21 k_im_X0_read k_se_X0_read k_in_X0 k_co_X0_read) rfl rfl rfl (by decide +kernel) ⟨Nat.le_of_ble_eq_true rfl, Nat.le_of_ble_eq_true rfl⟩) (xc_preV (q0 := 0) (C := RX0) (hK.sub (tys' := []) [] rfl) (hP.sub (ws' := pw hx hc hh q) [0, 1, 2] rfl) (hD.sub (ws' := pw hx hc hh q) [0, 1, 2] (by decide) rfl) hZ rfl rfl) rfl rfl hl.1 rfl (lv_room (Nat.le_of_ble_eq_true rfl)) dL_read_5 ⟨Nat.zero_le _, Nat.zero_le _⟩) hP hD hS hA [0, 1, 2] [3] rfl rfl (by decide) (by decide) rfl (fun H locs hP hD hS _ => ?_)
  have hP := hP.sub (ws' := lh hx hc hh ho cJ (q', o)) [1, 2, 3, 0] rfl
  have hD := hD.sub (ws' := lh hx hc hh ho cJ (q', o)) [1, 2, 3, 0] (by decide) rfl
  refine lv_i2l hx_ hb dL_read_8 rfl ?_
  refine va_last hx_ hb hK hP hD hS 3 0 rfl rfl (vp_in_nI (n := 0) (N := 1) (by decide) (by decide)) dL_read_9 (fun H locs hP hD hS => ?_)
  have hP : va_P (dC, dI) vwCl (lh hx hc hh ho cJ (q', vp_updL o 0 (r.toInt64))) H := hP
  have hD : va_D A (lh hx hc hh ho cJ (q', vp_updL o 0 (r.toInt64))) := hD
  refine lv_goto (tgt := 17) hx_ hb dL_read_10 (by decide) ?_
  refine lv_iconst (v := 0) hx_ hb dL_read_17 (by decide) ?_
  refine W.widen (k := 1) (n := 6) (by decide) (by decide) ?_
  exact xc_iret (wf := lh hx hc hh ho cJ) hx_ hb hr hlocks dL_read_18 hK hP hD hS rfl rfl
set_option maxHeartbeats 4000000 in
set_option maxRecDepth 100000 in
theorem L_read_t1 (l : Launch) (dC : Nat → ClassId) (dI : Nat → Nat → Nat) (hx hc hh ho : Nat) (cJ : ClassId) (sz : Nat) (q : PS) (o : Nat → Int64) (x y : Int32) (hM : xt_M l yX0_read wsX0_read ({ frames := 7, cells := 1, slots := 6, locals := 120 }) (xt_P [.ref hx, .int x, .int y] (dC, dI) vwCl [] pz TL (pw hx hc hh q)) "java/util/NoSuchElementException") : xh_M l yL_read wsL_read ({ frames := 8, cells := 1, slots := 6, locals := 144 }) [.ref hx, .int x, .int y, .ref ho] sz (dC, dI) vwCl [(cJ, .long)] (lh hx hc hh ho cJ (q, o)) (some (.int 1)) (lh hx hc hh ho cJ (q, o)) := by
  refine va_MetW (hh := [(0, 10, 13, 13)]) (cc := cL_read) (maxL := 5) (ret := (some .int)) (by decide) rfl ?_
  intro p e s m args below meth c s₁ B hml hv
  obtain ⟨rfl, hsz, hP, hK, hD0, hZ, hT, hNc⟩ := hv
  have hx_ := B.exec
  have hb := B.bytes
  have hr := B.returns
  have hts := atoms_spec (ws := wsL_read) B.pre
  have hown : s.vm.findClass RL = some m.cls := findClass_of_methodNamed B.named
  have hlocks := B.notSynchronized
  subst hsz
  have hD := hD0.self (sz := s.heap.size)
  generalize hAe : va_A (lh hx hc hh ho cJ (q, o)) s.heap.size = A at hD ⊢
  have hA : ∀ q : Nat, s.heap.size ≤ q → A q := fun q h => by rw [← hAe]; exact Or.inr h
  have hS : va_S A s.heap s.heap [] := va_S.rf
  have hl := lv_entry ([.ref hx, .int x, .int y, .ref ho]) (n := 5) (Nat.le_of_ble_eq_true rfl)
  rw [lg_entry_eq]
  generalize (lg_sl ([.ref hx, .int x, .int y, .ref ho]) ++ List.replicate (5 - (lg_sl ([.ref hx, .int x, .int y, .ref ho])).length) Slot.unset).toArray = ls at hl ⊢
  have hl : lv_has ls 5 [(0, .ref hx), (1, .int x), (2, .int y), (3, .ref ho)] := hl
  refine lv_aload_n hx_ hb dL_read_0 rfl (lv_at hl 3 rfl) ?_
  refine lv_iconst (v := 0) hx_ hb dL_read_1 (by decide) ?_
  refine lv_aload_n hx_ hb dL_read_2 rfl (lv_at hl 0 rfl) ?_
  refine lv_iload_n hx_ hb dL_read_3 rfl (lv_at hl 1 rfl) ?_
  refine lv_iload_n hx_ hb dL_read_4 rfl (lv_at hl 2 rfl) ?_
  have htab := xh_tab B (hts _ List.mem_cons_self)
  obtain ⟨tx, htl, x1, x2, x3, x4⟩ := xh_one htab
  refine xt_catch1 (name := "java/util/NoSuchElementException") (xt_runV (As := [.int x, .int y]) (rest := [.int 0, .ref ho]) ⟨hx_, hb, hml, hown, hts⟩ hM (cwV 2 hts (gd_V wa_c k_ml_L_21 k_im_X0_read k_se_X0_read k_in_X0 k_co_X0_read) rfl rfl rfl (by decide +kernel) ⟨Nat.le_of_ble_eq_true rfl, Nat.le_of_ble_eq_true rfl⟩) (xt_preV (q0 := 0) (C := RX0) (hK.sub (tys' := []) [] rfl) (hP.sub (ws' := pw hx hc hh q) [0, 1, 2] rfl) hZ hT (fun _ _ => rfl) rfl rfl) rfl rfl hl.1 rfl (lv_room (Nat.le_of_ble_eq_true rfl)) dL_read_5 ⟨Nat.le_of_ble_eq_true rfl, Nat.le_of_ble_eq_true rfl⟩) hown htl (by simp [covers, x1, x2]) (by rw [x4]; decide) (by rw [x4]; exact hts _ (List.mem_cons_of_mem _ k_cl_L_13)) (hT.use (by decide +kernel)) (fun q9 H hz hk => ?_)
  rw [x3]
  have hP : va_P (dC, dI) vwCl (lh hx hc hh ho cJ (q, o)) H := hP.kept (fun k z hz9 => hk z.1 (hP k z hz9).lt)
  have hS : va_S A s.heap H [] := ⟨hz, fun z h1 _ => hk z h1, fun z h1 => by cases h1⟩
  refine lv_astore (lv' := [(4, .ref q9), (0, .ref hx), (1, .int x), (2, .int y), (3, .ref ho)]) hx_ hb dL_read_13 hl (by decide) rfl (fun ls hl => ?_)
  refine lv_iconst (v := 1) hx_ hb dL_read_15 (by decide) ?_
  exact xc_iret (wf := lh hx hc hh ho cJ) hx_ hb hr hlocks dL_read_16 hK hP hD hS rfl rfl
set_option maxHeartbeats 4000000 in
set_option maxRecDepth 100000 in
theorem L_delivers_ok (l : Launch) (dC : Nat → ClassId) (dI : Nat → Nat → Nat) (hx hc hh ho : Nat) (cJ : ClassId) (sz : Nat) (q : PS) (o : Nat → Int64) (x r : Int32) (hM : xr_M l yX0_delivers wsX0_delivers ({ frames := 3, cells := 0, slots := 0, locals := 66 }) [.ref hx, .int x] (dC, dI) vwCl [] pz (pw hx hc hh q) (some (.int r))) : xh_M l yL_delivers wsL_delivers ({ frames := 8, cells := 1, slots := 6, locals := 141 }) [.ref hx, .int x, .ref ho] sz (dC, dI) vwCl [(cJ, .long)] (lh hx hc hh ho cJ (q, o)) (some (.int 0)) (lh hx hc hh ho cJ (q, vp_updL o 0 (r.toInt64))) := by
  refine va_MetW (hh := [(0, 9, 12, 13)]) (cc := cL_delivers) (maxL := 4) (ret := (some .int)) (by decide) rfl ?_
  intro p e s m args below meth c s₁ B hml hv
  obtain ⟨rfl, hsz, hP, hK, hD0, hZ, hT, hNc⟩ := hv
  have hx_ := B.exec
  have hb := B.bytes
  have hr := B.returns
  have hts := atoms_spec (ws := wsL_delivers) B.pre
  have hown : s.vm.findClass RL = some m.cls := findClass_of_methodNamed B.named
  have hlocks := B.notSynchronized
  subst hsz
  have hD := hD0.self (sz := s.heap.size)
  generalize hAe : va_A (lh hx hc hh ho cJ (q, o)) s.heap.size = A at hD ⊢
  have hA : ∀ q : Nat, s.heap.size ≤ q → A q := fun q h => by rw [← hAe]; exact Or.inr h
  have hS : va_S A s.heap s.heap [] := va_S.rf
  have hl := lv_entry ([.ref hx, .int x, .ref ho]) (n := 4) (Nat.le_of_ble_eq_true rfl)
  rw [lg_entry_eq]
  generalize (lg_sl ([.ref hx, .int x, .ref ho]) ++ List.replicate (4 - (lg_sl ([.ref hx, .int x, .ref ho])).length) Slot.unset).toArray = ls at hl ⊢
  have hl : lv_has ls 4 [(0, .ref hx), (1, .int x), (2, .ref ho)] := hl
  refine lv_aload_n hx_ hb dL_delivers_0 rfl (lv_at hl 2 rfl) ?_
  refine lv_iconst (v := 0) hx_ hb dL_delivers_1 (by decide) ?_
  refine lv_aload_n hx_ hb dL_delivers_2 rfl (lv_at hl 0 rfl) ?_
  refine lv_iload_n hx_ hb dL_delivers_3 rfl (lv_at hl 1 rfl) ?_
  refine xr_call (st1 := [.int r, .int 0, .ref ho]) (W.runV (As := [.int x]) (rest := [.int 0, .ref ho]) ⟨hx_, hb, hml, hown, hts⟩ hM (cwV 1 hts (gd_V wa_c k_ml_L_25 k_im_X0_delivers k_se_X0_delivers k_in_X0 k_co_X0_delivers) rfl rfl rfl (by decide +kernel) ⟨Nat.le_of_ble_eq_true rfl, Nat.le_of_ble_eq_true rfl⟩) (xr_preV (q0 := 0) (C := RX0) (hK.sub (tys' := []) [] rfl) (hP.sub (ws' := pw hx hc hh q) [0, 1, 2] rfl) hZ rfl rfl) rfl rfl hl.1 rfl (lv_room (Nat.le_of_ble_eq_true rfl)) dL_delivers_4 ⟨Nat.zero_le _, Nat.zero_le _⟩) rfl ?_
  refine lv_i2l hx_ hb dL_delivers_7 rfl ?_
  refine va_last hx_ hb hK hP hD hS 3 0 rfl rfl (vp_in_nI (n := 0) (N := 1) (by decide) (by decide)) dL_delivers_8 (fun H locs hP hD hS => ?_)
  have hP : va_P (dC, dI) vwCl (lh hx hc hh ho cJ (q, vp_updL o 0 (r.toInt64))) H := hP
  have hD : va_D A (lh hx hc hh ho cJ (q, vp_updL o 0 (r.toInt64))) := hD
  refine lv_goto (tgt := 15) hx_ hb dL_delivers_9 (by decide) ?_
  refine lv_iconst (v := 0) hx_ hb dL_delivers_15 (by decide) ?_
  refine W.widen (k := 1) (n := 6) (by decide) (by decide) ?_
  exact xc_iret (wf := lh hx hc hh ho cJ) hx_ hb hr hlocks dL_delivers_16 hK hP hD hS rfl rfl
set_option maxHeartbeats 4000000 in
set_option maxRecDepth 100000 in
theorem L_delivers_t1 (l : Launch) (dC : Nat → ClassId) (dI : Nat → Nat → Nat) (hx hc hh ho : Nat) (cJ : ClassId) (sz : Nat) (q : PS) (o : Nat → Int64) (x : Int32) (hM : xt_M l yX0_delivers wsX0_delivers ({ frames := 7, cells := 1, slots := 6, locals := 120 }) (xt_P [.ref hx, .int x] (dC, dI) vwCl [] pz TL (pw hx hc hh q)) "java/util/NoSuchElementException") : xh_M l yL_delivers wsL_delivers ({ frames := 8, cells := 1, slots := 6, locals := 141 }) [.ref hx, .int x, .ref ho] sz (dC, dI) vwCl [(cJ, .long)] (lh hx hc hh ho cJ (q, o)) (some (.int 1)) (lh hx hc hh ho cJ (q, o)) := by
  refine va_MetW (hh := [(0, 9, 12, 13)]) (cc := cL_delivers) (maxL := 4) (ret := (some .int)) (by decide) rfl ?_
  intro p e s m args below meth c s₁ B hml hv
  obtain ⟨rfl, hsz, hP, hK, hD0, hZ, hT, hNc⟩ := hv
  have hx_ := B.exec
  have hb := B.bytes
  have hr := B.returns
  have hts := atoms_spec (ws := wsL_delivers) B.pre
  have hown : s.vm.findClass RL = some m.cls := findClass_of_methodNamed B.named
  have hlocks := B.notSynchronized
  subst hsz
  have hD := hD0.self (sz := s.heap.size)
  generalize hAe : va_A (lh hx hc hh ho cJ (q, o)) s.heap.size = A at hD ⊢
  have hA : ∀ q : Nat, s.heap.size ≤ q → A q := fun q h => by rw [← hAe]; exact Or.inr h
  have hS : va_S A s.heap s.heap [] := va_S.rf
  have hl := lv_entry ([.ref hx, .int x, .ref ho]) (n := 4) (Nat.le_of_ble_eq_true rfl)
  rw [lg_entry_eq]
  generalize (lg_sl ([.ref hx, .int x, .ref ho]) ++ List.replicate (4 - (lg_sl ([.ref hx, .int x, .ref ho])).length) Slot.unset).toArray = ls at hl ⊢
  have hl : lv_has ls 4 [(0, .ref hx), (1, .int x), (2, .ref ho)] := hl
  refine lv_aload_n hx_ hb dL_delivers_0 rfl (lv_at hl 2 rfl) ?_
  refine lv_iconst (v := 0) hx_ hb dL_delivers_1 (by decide) ?_
  refine lv_aload_n hx_ hb dL_delivers_2 rfl (lv_at hl 0 rfl) ?_
  refine lv_iload_n hx_ hb dL_delivers_3 rfl (lv_at hl 1 rfl) ?_
  have htab := xh_tab B (hts _ List.mem_cons_self)
  obtain ⟨tx, htl, x1, x2, x3, x4⟩ := xh_one htab
  refine xt_catch1 (name := "java/util/NoSuchElementException") (xt_runV (As := [.int x]) (rest := [.int 0, .ref ho]) ⟨hx_, hb, hml, hown, hts⟩ hM (cwV 1 hts (gd_V wa_c k_ml_L_25 k_im_X0_delivers k_se_X0_delivers k_in_X0 k_co_X0_delivers) rfl rfl rfl (by decide +kernel) ⟨Nat.le_of_ble_eq_true rfl, Nat.le_of_ble_eq_true rfl⟩) (xt_preV (q0 := 0) (C := RX0) (hK.sub (tys' := []) [] rfl) (hP.sub (ws' := pw hx hc hh q) [0, 1, 2] rfl) hZ hT (fun _ _ => rfl) rfl rfl) rfl rfl hl.1 rfl (lv_room (Nat.le_of_ble_eq_true rfl)) dL_delivers_4 ⟨Nat.le_of_ble_eq_true rfl, Nat.le_of_ble_eq_true rfl⟩) hown htl (by simp [covers, x1, x2]) (by rw [x4]; decide) (by rw [x4]; exact hts _ (List.mem_cons_of_mem _ k_cl_L_13)) (hT.use (by decide +kernel)) (fun q9 H hz hk => ?_)
  rw [x3]
  have hP : va_P (dC, dI) vwCl (lh hx hc hh ho cJ (q, o)) H := hP.kept (fun k z hz9 => hk z.1 (hP k z hz9).lt)
  have hS : va_S A s.heap H [] := ⟨hz, fun z h1 _ => hk z h1, fun z h1 => by cases h1⟩
  refine lv_astore_n (lv' := [(3, .ref q9), (0, .ref hx), (1, .int x), (2, .ref ho)]) hx_ hb dL_delivers_12 rfl hl (by decide) rfl (fun ls hl => ?_)
  refine lv_iconst (v := 1) hx_ hb dL_delivers_13 (by decide) ?_
  exact xc_iret (wf := lh hx hc hh ho cJ) hx_ hb hr hlocks dL_delivers_14 hK hP hD hS rfl rfl
set_option maxHeartbeats 4000000 in
set_option maxRecDepth 100000 in
theorem L_about_ok (l : Launch) (dC : Nat → ClassId) (dI : Nat → Nat → Nat) (hx hc hh ho : Nat) (cJ : ClassId) (sz : Nat) (q : PS) (o : Nat → Int64) (x y r : Int32) (hM : xr_M l yX0_about wsX0_about ({ frames := 1, cells := 0, slots := 0, locals := 21 }) [.ref hx, .int x, .int y] (dC, dI) vwCl [] pz (pw hx hc hh q) (some (.int r))) : xh_M l yL_about wsL_about ({ frames := 8, cells := 1, slots := 6, locals := 143 }) [.ref hx, .int x, .int y, .ref ho] sz (dC, dI) vwCl [(cJ, .long)] (lh hx hc hh ho cJ (q, o)) (some (.int 0)) (lh hx hc hh ho cJ (q, vp_updL o 0 (r.toInt64))) := by
  refine va_MetW (hh := [(0, 10, 13, 13), (0, 10, 17, 19)]) (cc := cL_about) (maxL := 5) (ret := (some .int)) (by decide) rfl ?_
  intro p e s m args below meth c s₁ B hml hv
  obtain ⟨rfl, hsz, hP, hK, hD0, hZ, hT, hNc⟩ := hv
  have hx_ := B.exec
  have hb := B.bytes
  have hr := B.returns
  have hts := atoms_spec (ws := wsL_about) B.pre
  have hown : s.vm.findClass RL = some m.cls := findClass_of_methodNamed B.named
  have hlocks := B.notSynchronized
  subst hsz
  have hD := hD0.self (sz := s.heap.size)
  generalize hAe : va_A (lh hx hc hh ho cJ (q, o)) s.heap.size = A at hD ⊢
  have hA : ∀ q : Nat, s.heap.size ≤ q → A q := fun q h => by rw [← hAe]; exact Or.inr h
  have hS : va_S A s.heap s.heap [] := va_S.rf
  have hl := lv_entry ([.ref hx, .int x, .int y, .ref ho]) (n := 5) (Nat.le_of_ble_eq_true rfl)
  rw [lg_entry_eq]
  generalize (lg_sl ([.ref hx, .int x, .int y, .ref ho]) ++ List.replicate (5 - (lg_sl ([.ref hx, .int x, .int y, .ref ho])).length) Slot.unset).toArray = ls at hl ⊢
  have hl : lv_has ls 5 [(0, .ref hx), (1, .int x), (2, .int y), (3, .ref ho)] := hl
  refine lv_aload_n hx_ hb dL_about_0 rfl (lv_at hl 3 rfl) ?_
  refine lv_iconst (v := 0) hx_ hb dL_about_1 (by decide) ?_
  refine lv_aload_n hx_ hb dL_about_2 rfl (lv_at hl 0 rfl) ?_
  refine lv_iload_n hx_ hb dL_about_3 rfl (lv_at hl 1 rfl) ?_
  refine lv_iload_n hx_ hb dL_about_4 rfl (lv_at hl 2 rfl) ?_
  refine xr_call (st1 := [.int r, .int 0, .ref ho]) (W.runV (As := [.int x, .int y]) (rest := [.int 0, .ref ho]) ⟨hx_, hb, hml, hown, hts⟩ hM (cwV 2 hts (gd_V wa_c k_ml_L_29 k_im_X0_about k_se_X0_about k_in_X0 k_co_X0_about) rfl rfl rfl (by decide +kernel) ⟨Nat.le_of_ble_eq_true rfl, Nat.le_of_ble_eq_true rfl⟩) (xr_preV (q0 := 0) (C := RX0) (hK.sub (tys' := []) [] rfl) (hP.sub (ws' := pw hx hc hh q) [0, 1, 2] rfl) hZ rfl rfl) rfl rfl hl.1 rfl (lv_room (Nat.le_of_ble_eq_true rfl)) dL_about_5 ⟨Nat.zero_le _, Nat.zero_le _⟩) rfl ?_
  refine lv_i2l hx_ hb dL_about_8 rfl ?_
  refine va_last hx_ hb hK hP hD hS 3 0 rfl rfl (vp_in_nI (n := 0) (N := 1) (by decide) (by decide)) dL_about_9 (fun H locs hP hD hS => ?_)
  have hP : va_P (dC, dI) vwCl (lh hx hc hh ho cJ (q, vp_updL o 0 (r.toInt64))) H := hP
  have hD : va_D A (lh hx hc hh ho cJ (q, vp_updL o 0 (r.toInt64))) := hD
  refine lv_goto (tgt := 21) hx_ hb dL_about_10 (by decide) ?_
  refine lv_iconst (v := 0) hx_ hb dL_about_21 (by decide) ?_
  refine W.widen (k := 1) (n := 6) (by decide) (by decide) ?_
  exact xc_iret (wf := lh hx hc hh ho cJ) hx_ hb hr hlocks dL_about_22 hK hP hD hS rfl rfl
set_option maxHeartbeats 4000000 in
set_option maxRecDepth 100000 in
theorem L_about_t1 (l : Launch) (dC : Nat → ClassId) (dI : Nat → Nat → Nat) (hx hc hh ho : Nat) (cJ : ClassId) (sz : Nat) (q : PS) (o : Nat → Int64) (x y : Int32) (hM : xt_M l yX0_about wsX0_about ({ frames := 7, cells := 1, slots := 6, locals := 120 }) (xt_P [.ref hx, .int x, .int y] (dC, dI) vwCl [] pz TL (pw hx hc hh q)) "java/util/NoSuchElementException") : xh_M l yL_about wsL_about ({ frames := 8, cells := 1, slots := 6, locals := 143 }) [.ref hx, .int x, .int y, .ref ho] sz (dC, dI) vwCl [(cJ, .long)] (lh hx hc hh ho cJ (q, o)) (some (.int 1)) (lh hx hc hh ho cJ (q, o)) := by
  refine va_MetW (hh := [(0, 10, 13, 13), (0, 10, 17, 19)]) (cc := cL_about) (maxL := 5) (ret := (some .int)) (by decide) rfl ?_
  intro p e s m args below meth c s₁ B hml hv
  obtain ⟨rfl, hsz, hP, hK, hD0, hZ, hT, hNc⟩ := hv
  have hx_ := B.exec
  have hb := B.bytes
  have hr := B.returns
  have hts := atoms_spec (ws := wsL_about) B.pre
  have hown : s.vm.findClass RL = some m.cls := findClass_of_methodNamed B.named
  have hlocks := B.notSynchronized
  subst hsz
  have hD := hD0.self (sz := s.heap.size)
  generalize hAe : va_A (lh hx hc hh ho cJ (q, o)) s.heap.size = A at hD ⊢
  have hA : ∀ q : Nat, s.heap.size ≤ q → A q := fun q h => by rw [← hAe]; exact Or.inr h
  have hS : va_S A s.heap s.heap [] := va_S.rf
  have hl := lv_entry ([.ref hx, .int x, .int y, .ref ho]) (n := 5) (Nat.le_of_ble_eq_true rfl)
  rw [lg_entry_eq]
  generalize (lg_sl ([.ref hx, .int x, .int y, .ref ho]) ++ List.replicate (5 - (lg_sl ([.ref hx, .int x, .int y, .ref ho])).length) Slot.unset).toArray = ls at hl ⊢
  have hl : lv_has ls 5 [(0, .ref hx), (1, .int x), (2, .int y), (3, .ref ho)] := hl
  refine lv_aload_n hx_ hb dL_about_0 rfl (lv_at hl 3 rfl) ?_
  refine lv_iconst (v := 0) hx_ hb dL_about_1 (by decide) ?_
  refine lv_aload_n hx_ hb dL_about_2 rfl (lv_at hl 0 rfl) ?_
  refine lv_iload_n hx_ hb dL_about_3 rfl (lv_at hl 1 rfl) ?_
  refine lv_iload_n hx_ hb dL_about_4 rfl (lv_at hl 2 rfl) ?_
  have htab := xh_tab B (hts _ List.mem_cons_self)
  obtain ⟨tx, tx0, htl, ⟨x1, x2, x3, x4⟩, -⟩ := xh_two htab
  refine xt_catch1 (name := "java/util/NoSuchElementException") (xt_runV (As := [.int x, .int y]) (rest := [.int 0, .ref ho]) ⟨hx_, hb, hml, hown, hts⟩ hM (cwV 2 hts (gd_V wa_c k_ml_L_29 k_im_X0_about k_se_X0_about k_in_X0 k_co_X0_about) rfl rfl rfl (by decide +kernel) ⟨Nat.le_of_ble_eq_true rfl, Nat.le_of_ble_eq_true rfl⟩) (xt_preV (q0 := 0) (C := RX0) (hK.sub (tys' := []) [] rfl) (hP.sub (ws' := pw hx hc hh q) [0, 1, 2] rfl) hZ hT (fun _ _ => rfl) rfl rfl) rfl rfl hl.1 rfl (lv_room (Nat.le_of_ble_eq_true rfl)) dL_about_5 ⟨Nat.le_of_ble_eq_true rfl, Nat.le_of_ble_eq_true rfl⟩) hown htl (by simp [covers, x1, x2]) (by rw [x4]; decide) (by rw [x4]; exact hts _ (List.mem_cons_of_mem _ k_cl_L_13)) (hT.use (by decide +kernel)) (fun q9 H hz hk => ?_)
  rw [x3]
  have hP : va_P (dC, dI) vwCl (lh hx hc hh ho cJ (q, o)) H := hP.kept (fun k z hz9 => hk z.1 (hP k z hz9).lt)
  have hS : va_S A s.heap H [] := ⟨hz, fun z h1 _ => hk z h1, fun z h1 => by cases h1⟩
  refine lv_astore (lv' := [(4, .ref q9), (0, .ref hx), (1, .int x), (2, .int y), (3, .ref ho)]) hx_ hb dL_about_13 hl (by decide) rfl (fun ls hl => ?_)
  refine lv_iconst (v := 1) hx_ hb dL_about_15 (by decide) ?_
  exact xc_iret (wf := lh hx hc hh ho cJ) hx_ hb hr hlocks dL_about_16 hK hP hD hS rfl rfl
set_option maxHeartbeats 4000000 in
set_option maxRecDepth 100000 in
theorem L_about_t2 (l : Launch) (dC : Nat → ClassId) (dI : Nat → Nat → Nat) (hx hc hh ho : Nat) (cJ : ClassId) (sz : Nat) (q : PS) (o : Nat → Int64) (x y : Int32) (hM : xt_M l yX0_about wsX0_about ({ frames := 7, cells := 1, slots := 6, locals := 120 }) (xt_P [.ref hx, .int x, .int y] (dC, dI) vwCl [] pz TL (pw hx hc hh q)) "java/lang/IllegalArgumentException") : xh_M l yL_about wsL_about ({ frames := 8, cells := 1, slots := 6, locals := 143 }) [.ref hx, .int x, .int y, .ref ho] sz (dC, dI) vwCl [(cJ, .long)] (lh hx hc hh ho cJ (q, o)) (some (.int 2)) (lh hx hc hh ho cJ (q, o)) := by
  refine va_MetW (hh := [(0, 10, 13, 13), (0, 10, 17, 19)]) (cc := cL_about) (maxL := 5) (ret := (some .int)) (by decide) rfl ?_
  intro p e s m args below meth c s₁ B hml hv
  obtain ⟨rfl, hsz, hP, hK, hD0, hZ, hT, hNc⟩ := hv
  have hx_ := B.exec
  have hb := B.bytes
  have hr := B.returns
  have hts := atoms_spec (ws := wsL_about) B.pre
  have hown : s.vm.findClass RL = some m.cls := findClass_of_methodNamed B.named
  have hlocks := B.notSynchronized
  subst hsz
  have hD := hD0.self (sz := s.heap.size)
  generalize hAe : va_A (lh hx hc hh ho cJ (q, o)) s.heap.size = A at hD ⊢
  have hA : ∀ q : Nat, s.heap.size ≤ q → A q := fun q h => by rw [← hAe]; exact Or.inr h
  have hS : va_S A s.heap s.heap [] := va_S.rf
  have hl := lv_entry ([.ref hx, .int x, .int y, .ref ho]) (n := 5) (Nat.le_of_ble_eq_true rfl)
  rw [lg_entry_eq]
  generalize (lg_sl ([.ref hx, .int x, .int y, .ref ho]) ++ List.replicate (5 - (lg_sl ([.ref hx, .int x, .int y, .ref ho])).length) Slot.unset).toArray = ls at hl ⊢
  have hl : lv_has ls 5 [(0, .ref hx), (1, .int x), (2, .int y), (3, .ref ho)] := hl
  refine lv_aload_n hx_ hb dL_about_0 rfl (lv_at hl 3 rfl) ?_
  refine lv_iconst (v := 0) hx_ hb dL_about_1 (by decide) ?_
  refine lv_aload_n hx_ hb dL_about_2 rfl (lv_at hl 0 rfl) ?_
  refine lv_iload_n hx_ hb dL_about_3 rfl (lv_at hl 1 rfl) ?_
  refine lv_iload_n hx_ hb dL_about_4 rfl (lv_at hl 2 rfl) ?_
  have htab := xh_tab B (hts _ List.mem_cons_self)
  obtain ⟨ty, tx, htl, ⟨y1, y2, y3, y4⟩, x1, x2, x3, x4⟩ := xh_two htab
  refine xt_catch2 (name := "java/lang/IllegalArgumentException") (nm := "java/util/NoSuchElementException") (xt_runV (As := [.int x, .int y]) (rest := [.int 0, .ref ho]) ⟨hx_, hb, hml, hown, hts⟩ hM (cwV 2 hts (gd_V wa_c k_ml_L_29 k_im_X0_about k_se_X0_about k_in_X0 k_co_X0_about) rfl rfl rfl (by decide +kernel) ⟨Nat.le_of_ble_eq_true rfl, Nat.le_of_ble_eq_true rfl⟩) (xt_preV (q0 := 0) (C := RX0) (hK.sub (tys' := []) [] rfl) (hP.sub (ws' := pw hx hc hh q) [0, 1, 2] rfl) hZ hT (fun _ _ => rfl) rfl rfl) rfl rfl hl.1 rfl (lv_room (Nat.le_of_ble_eq_true rfl)) dL_about_5 ⟨Nat.le_of_ble_eq_true rfl, Nat.le_of_ble_eq_true rfl⟩) hown htl (by simp [covers, y1, y2]) (by rw [y4]; decide) (by rw [y4]; exact hts _ (List.mem_cons_of_mem _ k_cl_L_13)) hNc (by simp [covers, x1, x2]) (by rw [x4]; decide) (by rw [x4]; exact hts _ (List.mem_cons_of_mem _ k_cl_L_19)) (hT.use (by decide +kernel)) (fun q9 H hz hk => ?_)
  rw [x3]
  have hP : va_P (dC, dI) vwCl (lh hx hc hh ho cJ (q, o)) H := hP.kept (fun k z hz9 => hk z.1 (hP k z hz9).lt)
  have hS : va_S A s.heap H [] := ⟨hz, fun z h1 _ => hk z h1, fun z h1 => by cases h1⟩
  refine lv_astore (lv' := [(4, .ref q9), (0, .ref hx), (1, .int x), (2, .int y), (3, .ref ho)]) hx_ hb dL_about_17 hl (by decide) rfl (fun ls hl => ?_)
  refine lv_iconst (v := 2) hx_ hb dL_about_19 (by decide) ?_
  exact xc_iret (wf := lh hx hc hh ho cJ) hx_ hb hr hlocks dL_about_20 hK hP hD hS rfl rfl
set_option maxHeartbeats 4000000 in
set_option maxRecDepth 100000 in
theorem L_mode_ok (l : Launch) (dC : Nat → ClassId) (dI : Nat → Nat → Nat) (hx hc hh ho : Nat) (cJ : ClassId) (sz : Nat) (q : PS) (o : Nat → Int64) (x y r : Int32) (hM : xr_M l yX0_mode wsX0_mode ({ frames := 1, cells := 0, slots := 0, locals := 21 }) [.ref hx, .int x, .int y] (dC, dI) vwCl [] pz (pw hx hc hh q) (some (.int r))) : xh_M l yL_mode wsL_mode ({ frames := 8, cells := 1, slots := 6, locals := 143 }) [.ref hx, .int x, .int y, .ref ho] sz (dC, dI) vwCl [(cJ, .long)] (lh hx hc hh ho cJ (q, o)) (some (.int 0)) (lh hx hc hh ho cJ (q, vp_updL o 0 (if r = 0 then 0 else 1))) := by
  refine va_MetW (hh := [(0, 17, 20, 13), (0, 17, 24, 19)]) (cc := cL_mode) (maxL := 5) (ret := (some .int)) (by decide) rfl ?_
  intro p e s m args below meth c s₁ B hml hv
  obtain ⟨rfl, hsz, hP, hK, hD0, hZ, hT, hNc⟩ := hv
  have hx_ := B.exec
  have hb := B.bytes
  have hr := B.returns
  have hts := atoms_spec (ws := wsL_mode) B.pre
  have hown : s.vm.findClass RL = some m.cls := findClass_of_methodNamed B.named
  have hlocks := B.notSynchronized
  subst hsz
  have hD := hD0.self (sz := s.heap.size)
  generalize hAe : va_A (lh hx hc hh ho cJ (q, o)) s.heap.size = A at hD ⊢
  have hA : ∀ q : Nat, s.heap.size ≤ q → A q := fun q h => by rw [← hAe]; exact Or.inr h
  have hS : va_S A s.heap s.heap [] := va_S.rf
  have hl := lv_entry ([.ref hx, .int x, .int y, .ref ho]) (n := 5) (Nat.le_of_ble_eq_true rfl)
  rw [lg_entry_eq]
  generalize (lg_sl ([.ref hx, .int x, .int y, .ref ho]) ++ List.replicate (5 - (lg_sl ([.ref hx, .int x, .int y, .ref ho])).length) Slot.unset).toArray = ls at hl ⊢
  have hl : lv_has ls 5 [(0, .ref hx), (1, .int x), (2, .int y), (3, .ref ho)] := hl
  refine lv_aload_n hx_ hb dL_mode_0 rfl (lv_at hl 3 rfl) ?_
  refine lv_iconst (v := 0) hx_ hb dL_mode_1 (by decide) ?_
  refine lv_aload_n hx_ hb dL_mode_2 rfl (lv_at hl 0 rfl) ?_
  refine lv_iload_n hx_ hb dL_mode_3 rfl (lv_at hl 1 rfl) ?_
  refine lv_iload_n hx_ hb dL_mode_4 rfl (lv_at hl 2 rfl) ?_
  refine xr_call (st1 := [.int r, .int 0, .ref ho]) (W.runV (As := [.int x, .int y]) (rest := [.int 0, .ref ho]) ⟨hx_, hb, hml, hown, hts⟩ hM (cwV 2 hts (gd_V wa_c k_ml_L_32 k_im_X0_mode k_se_X0_mode k_in_X0 k_co_X0_mode) rfl rfl rfl (by decide +kernel) ⟨Nat.le_of_ble_eq_true rfl, Nat.le_of_ble_eq_true rfl⟩) (xr_preV (q0 := 0) (C := RX0) (hK.sub (tys' := []) [] rfl) (hP.sub (ws' := pw hx hc hh q) [0, 1, 2] rfl) hZ rfl rfl) rfl rfl hl.1 rfl (lv_room (Nat.le_of_ble_eq_true rfl)) dL_mode_5 ⟨Nat.zero_le _, Nat.zero_le _⟩) rfl ?_
  refine lv_if_eq (tgt := 15) hx_ hb dL_mode_8 (by decide) (fun h1 => ?_) (fun h1 => ?_)
  · refine lv_lconst (v := 0) hx_ hb dL_mode_15 (by decide) ?_
    refine va_last hx_ hb hK hP hD hS 3 0 rfl rfl (vp_in_nI (n := 0) (N := 1) (by decide) (by decide)) dL_mode_16 (fun H locs hP hD hS => ?_)
    have hP : va_P (dC, dI) vwCl (lh hx hc hh ho cJ (q, vp_updL o 0 (0))) H := hP
    have hD : va_D A (lh hx hc hh ho cJ (q, vp_updL o 0 (0))) := hD
    refine lv_goto (tgt := 28) hx_ hb dL_mode_17 (by decide) ?_
    refine lv_iconst (v := 0) hx_ hb dL_mode_28 (by decide) ?_
    refine W.widen (k := 1) (n := 6) (by decide) (by decide) ?_
    exact xc_iret (wf := lh hx hc hh ho cJ) hx_ hb hr hlocks dL_mode_29 hK hP hD hS rfl (by first | rw [if_pos h1] | rw [if_neg h1])
  · refine lv_lconst (v := 1) hx_ hb dL_mode_11 (by decide) ?_
    refine lv_goto (tgt := 16) hx_ hb dL_mode_12 (by decide) ?_
    refine va_last hx_ hb hK hP hD hS 3 0 rfl rfl (vp_in_nI (n := 0) (N := 1) (by decide) (by decide)) dL_mode_16 (fun H locs hP hD hS => ?_)
    have hP : va_P (dC, dI) vwCl (lh hx hc hh ho cJ (q, vp_updL o 0 (1))) H := hP
    have hD : va_D A (lh hx hc hh ho cJ (q, vp_updL o 0 (1))) := hD
    refine lv_goto (tgt := 28) hx_ hb dL_mode_17 (by decide) ?_
    refine lv_iconst (v := 0) hx_ hb dL_mode_28 (by decide) ?_
    refine W.widen (k := 1) (n := 6) (by decide) (by decide) ?_
    exact xc_iret (wf := lh hx hc hh ho cJ) hx_ hb hr hlocks dL_mode_29 hK hP hD hS rfl (by first | rw [if_pos h1] | rw [if_neg h1])
set_option maxHeartbeats 4000000 in
set_option maxRecDepth 100000 in
theorem L_mode_t1 (l : Launch) (dC : Nat → ClassId) (dI : Nat → Nat → Nat) (hx hc hh ho : Nat) (cJ : ClassId) (sz : Nat) (q : PS) (o : Nat → Int64) (x y : Int32) (hM : xt_M l yX0_mode wsX0_mode ({ frames := 7, cells := 1, slots := 6, locals := 120 }) (xt_P [.ref hx, .int x, .int y] (dC, dI) vwCl [] pz TL (pw hx hc hh q)) "java/util/NoSuchElementException") : xh_M l yL_mode wsL_mode ({ frames := 8, cells := 1, slots := 6, locals := 143 }) [.ref hx, .int x, .int y, .ref ho] sz (dC, dI) vwCl [(cJ, .long)] (lh hx hc hh ho cJ (q, o)) (some (.int 1)) (lh hx hc hh ho cJ (q, o)) := by
  refine va_MetW (hh := [(0, 17, 20, 13), (0, 17, 24, 19)]) (cc := cL_mode) (maxL := 5) (ret := (some .int)) (by decide) rfl ?_
  intro p e s m args below meth c s₁ B hml hv
  obtain ⟨rfl, hsz, hP, hK, hD0, hZ, hT, hNc⟩ := hv
  have hx_ := B.exec
  have hb := B.bytes
  have hr := B.returns
  have hts := atoms_spec (ws := wsL_mode) B.pre
  have hown : s.vm.findClass RL = some m.cls := findClass_of_methodNamed B.named
  have hlocks := B.notSynchronized
  subst hsz
  have hD := hD0.self (sz := s.heap.size)
  generalize hAe : va_A (lh hx hc hh ho cJ (q, o)) s.heap.size = A at hD ⊢
  have hA : ∀ q : Nat, s.heap.size ≤ q → A q := fun q h => by rw [← hAe]; exact Or.inr h
  have hS : va_S A s.heap s.heap [] := va_S.rf
  have hl := lv_entry ([.ref hx, .int x, .int y, .ref ho]) (n := 5) (Nat.le_of_ble_eq_true rfl)
  rw [lg_entry_eq]
  generalize (lg_sl ([.ref hx, .int x, .int y, .ref ho]) ++ List.replicate (5 - (lg_sl ([.ref hx, .int x, .int y, .ref ho])).length) Slot.unset).toArray = ls at hl ⊢
  have hl : lv_has ls 5 [(0, .ref hx), (1, .int x), (2, .int y), (3, .ref ho)] := hl
  refine lv_aload_n hx_ hb dL_mode_0 rfl (lv_at hl 3 rfl) ?_
  refine lv_iconst (v := 0) hx_ hb dL_mode_1 (by decide) ?_
  refine lv_aload_n hx_ hb dL_mode_2 rfl (lv_at hl 0 rfl) ?_
  refine lv_iload_n hx_ hb dL_mode_3 rfl (lv_at hl 1 rfl) ?_
  refine lv_iload_n hx_ hb dL_mode_4 rfl (lv_at hl 2 rfl) ?_
  have htab := xh_tab B (hts _ List.mem_cons_self)
  obtain ⟨tx, tx0, htl, ⟨x1, x2, x3, x4⟩, -⟩ := xh_two htab
  refine xt_catch1 (name := "java/util/NoSuchElementException") (xt_runV (As := [.int x, .int y]) (rest := [.int 0, .ref ho]) ⟨hx_, hb, hml, hown, hts⟩ hM (cwV 2 hts (gd_V wa_c k_ml_L_32 k_im_X0_mode k_se_X0_mode k_in_X0 k_co_X0_mode) rfl rfl rfl (by decide +kernel) ⟨Nat.le_of_ble_eq_true rfl, Nat.le_of_ble_eq_true rfl⟩) (xt_preV (q0 := 0) (C := RX0) (hK.sub (tys' := []) [] rfl) (hP.sub (ws' := pw hx hc hh q) [0, 1, 2] rfl) hZ hT (fun _ _ => rfl) rfl rfl) rfl rfl hl.1 rfl (lv_room (Nat.le_of_ble_eq_true rfl)) dL_mode_5 ⟨Nat.le_of_ble_eq_true rfl, Nat.le_of_ble_eq_true rfl⟩) hown htl (by simp [covers, x1, x2]) (by rw [x4]; decide) (by rw [x4]; exact hts _ (List.mem_cons_of_mem _ k_cl_L_13)) (hT.use (by decide +kernel)) (fun q9 H hz hk => ?_)
  rw [x3]
  have hP : va_P (dC, dI) vwCl (lh hx hc hh ho cJ (q, o)) H := hP.kept (fun k z hz9 => hk z.1 (hP k z hz9).lt)
  have hS : va_S A s.heap H [] := ⟨hz, fun z h1 _ => hk z h1, fun z h1 => by cases h1⟩
  refine lv_astore (lv' := [(4, .ref q9), (0, .ref hx), (1, .int x), (2, .int y), (3, .ref ho)]) hx_ hb dL_mode_20 hl (by decide) rfl (fun ls hl => ?_)
  refine lv_iconst (v := 1) hx_ hb dL_mode_22 (by decide) ?_
  exact xc_iret (wf := lh hx hc hh ho cJ) hx_ hb hr hlocks dL_mode_23 hK hP hD hS rfl rfl
set_option maxHeartbeats 4000000 in
set_option maxRecDepth 100000 in
theorem L_mode_t2 (l : Launch) (dC : Nat → ClassId) (dI : Nat → Nat → Nat) (hx hc hh ho : Nat) (cJ : ClassId) (sz : Nat) (q : PS) (o : Nat → Int64) (x y : Int32) (hM : xt_M l yX0_mode wsX0_mode ({ frames := 7, cells := 1, slots := 6, locals := 120 }) (xt_P [.ref hx, .int x, .int y] (dC, dI) vwCl [] pz TL (pw hx hc hh q)) "java/lang/IllegalArgumentException") : xh_M l yL_mode wsL_mode ({ frames := 8, cells := 1, slots := 6, locals := 143 }) [.ref hx, .int x, .int y, .ref ho] sz (dC, dI) vwCl [(cJ, .long)] (lh hx hc hh ho cJ (q, o)) (some (.int 2)) (lh hx hc hh ho cJ (q, o)) := by
  refine va_MetW (hh := [(0, 17, 20, 13), (0, 17, 24, 19)]) (cc := cL_mode) (maxL := 5) (ret := (some .int)) (by decide) rfl ?_
  intro p e s m args below meth c s₁ B hml hv
  obtain ⟨rfl, hsz, hP, hK, hD0, hZ, hT, hNc⟩ := hv
  have hx_ := B.exec
  have hb := B.bytes
  have hr := B.returns
  have hts := atoms_spec (ws := wsL_mode) B.pre
  have hown : s.vm.findClass RL = some m.cls := findClass_of_methodNamed B.named
  have hlocks := B.notSynchronized
  subst hsz
  have hD := hD0.self (sz := s.heap.size)
  generalize hAe : va_A (lh hx hc hh ho cJ (q, o)) s.heap.size = A at hD ⊢
  have hA : ∀ q : Nat, s.heap.size ≤ q → A q := fun q h => by rw [← hAe]; exact Or.inr h
  have hS : va_S A s.heap s.heap [] := va_S.rf
  have hl := lv_entry ([.ref hx, .int x, .int y, .ref ho]) (n := 5) (Nat.le_of_ble_eq_true rfl)
  rw [lg_entry_eq]
  generalize (lg_sl ([.ref hx, .int x, .int y, .ref ho]) ++ List.replicate (5 - (lg_sl ([.ref hx, .int x, .int y, .ref ho])).length) Slot.unset).toArray = ls at hl ⊢
  have hl : lv_has ls 5 [(0, .ref hx), (1, .int x), (2, .int y), (3, .ref ho)] := hl
  refine lv_aload_n hx_ hb dL_mode_0 rfl (lv_at hl 3 rfl) ?_
  refine lv_iconst (v := 0) hx_ hb dL_mode_1 (by decide) ?_
  refine lv_aload_n hx_ hb dL_mode_2 rfl (lv_at hl 0 rfl) ?_
  refine lv_iload_n hx_ hb dL_mode_3 rfl (lv_at hl 1 rfl) ?_
  refine lv_iload_n hx_ hb dL_mode_4 rfl (lv_at hl 2 rfl) ?_
  have htab := xh_tab B (hts _ List.mem_cons_self)
  obtain ⟨ty, tx, htl, ⟨y1, y2, y3, y4⟩, x1, x2, x3, x4⟩ := xh_two htab
  refine xt_catch2 (name := "java/lang/IllegalArgumentException") (nm := "java/util/NoSuchElementException") (xt_runV (As := [.int x, .int y]) (rest := [.int 0, .ref ho]) ⟨hx_, hb, hml, hown, hts⟩ hM (cwV 2 hts (gd_V wa_c k_ml_L_32 k_im_X0_mode k_se_X0_mode k_in_X0 k_co_X0_mode) rfl rfl rfl (by decide +kernel) ⟨Nat.le_of_ble_eq_true rfl, Nat.le_of_ble_eq_true rfl⟩) (xt_preV (q0 := 0) (C := RX0) (hK.sub (tys' := []) [] rfl) (hP.sub (ws' := pw hx hc hh q) [0, 1, 2] rfl) hZ hT (fun _ _ => rfl) rfl rfl) rfl rfl hl.1 rfl (lv_room (Nat.le_of_ble_eq_true rfl)) dL_mode_5 ⟨Nat.le_of_ble_eq_true rfl, Nat.le_of_ble_eq_true rfl⟩) hown htl (by simp [covers, y1, y2]) (by rw [y4]; decide) (by rw [y4]; exact hts _ (List.mem_cons_of_mem _ k_cl_L_13)) hNc (by simp [covers, x1, x2]) (by rw [x4]; decide) (by rw [x4]; exact hts _ (List.mem_cons_of_mem _ k_cl_L_19)) (hT.use (by decide +kernel)) (fun q9 H hz hk => ?_)
  rw [x3]
  have hP : va_P (dC, dI) vwCl (lh hx hc hh ho cJ (q, o)) H := hP.kept (fun k z hz9 => hk z.1 (hP k z hz9).lt)
  have hS : va_S A s.heap H [] := ⟨hz, fun z h1 _ => hk z h1, fun z h1 => by cases h1⟩
  refine lv_astore (lv' := [(4, .ref q9), (0, .ref hx), (1, .int x), (2, .int y), (3, .ref ho)]) hx_ hb dL_mode_24 hl (by decide) rfl (fun ls hl => ?_)
  refine lv_iconst (v := 2) hx_ hb dL_mode_26 (by decide) ?_
  exact xc_iret (wf := lh hx hc hh ho cJ) hx_ hb hr hlocks dL_mode_27 hK hP hD hS rfl rfl
set_option maxHeartbeats 4000000 in
set_option maxRecDepth 100000 in
theorem L_count_ok (l : Launch) (dC : Nat → ClassId) (dI : Nat → Nat → Nat) (hx hc hh ho : Nat) (cJ : ClassId) (sz : Nat) (q : PS) (o : Nat → Int64) (y r : Int32) (hM : xr_M l yX0_count wsX0_count ({ frames := 0, cells := 0, slots := 0, locals := 0 }) [.ref hx, .int y] (dC, dI) vwCl [] pz (pw hx hc hh q) (some (.int r))) : xh_M l yL_count wsL_count ({ frames := 7, cells := 1, slots := 6, locals := 111 }) [.ref hx, .int y, .ref ho] sz (dC, dI) vwCl [(cJ, .long)] (lh hx hc hh ho cJ (q, o)) (some (.int 0)) (lh hx hc hh ho cJ (q, vp_updL o 0 (r.toInt64))) := by
  refine va_MetW (hh := [(0, 9, 12, 19)]) (cc := cL_count) (maxL := 4) (ret := (some .int)) (by decide) rfl ?_
  intro p e s m args below meth c s₁ B hml hv
  obtain ⟨rfl, hsz, hP, hK, hD0, hZ, hT, hNc⟩ := hv
  have hx_ := B.exec
  have hb := B.bytes
  have hr := B.returns
  have hts := atoms_spec (ws := wsL_count) B.pre
  have hown : s.vm.findClass RL = some m.cls := findClass_of_methodNamed B.named
  have hlocks := B.notSynchronized
  subst hsz
  have hD := hD0.self (sz := s.heap.size)
  generalize hAe : va_A (lh hx hc hh ho cJ (q, o)) s.heap.size = A at hD ⊢
  have hA : ∀ q : Nat, s.heap.size ≤ q → A q := fun q h => by rw [← hAe]; exact Or.inr h
  have hS : va_S A s.heap s.heap [] := va_S.rf
  have hl := lv_entry ([.ref hx, .int y, .ref ho]) (n := 4) (Nat.le_of_ble_eq_true rfl)
  rw [lg_entry_eq]
  generalize (lg_sl ([.ref hx, .int y, .ref ho]) ++ List.replicate (4 - (lg_sl ([.ref hx, .int y, .ref ho])).length) Slot.unset).toArray = ls at hl ⊢
  have hl : lv_has ls 4 [(0, .ref hx), (1, .int y), (2, .ref ho)] := hl
  refine lv_aload_n hx_ hb dL_count_0 rfl (lv_at hl 2 rfl) ?_
  refine lv_iconst (v := 0) hx_ hb dL_count_1 (by decide) ?_
  refine lv_aload_n hx_ hb dL_count_2 rfl (lv_at hl 0 rfl) ?_
  refine lv_iload_n hx_ hb dL_count_3 rfl (lv_at hl 1 rfl) ?_
  refine xr_call (st1 := [.int r, .int 0, .ref ho]) (W.runV (As := [.int y]) (rest := [.int 0, .ref ho]) ⟨hx_, hb, hml, hown, hts⟩ hM (cwV 1 hts (gd_V wa_c k_ml_L_36 k_im_X0_count k_se_X0_count k_in_X0 k_co_X0_count) rfl rfl rfl (by decide +kernel) ⟨Nat.le_of_ble_eq_true rfl, Nat.le_of_ble_eq_true rfl⟩) (xr_preV (q0 := 0) (C := RX0) (hK.sub (tys' := []) [] rfl) (hP.sub (ws' := pw hx hc hh q) [0, 1, 2] rfl) hZ rfl rfl) rfl rfl hl.1 rfl (lv_room (Nat.le_of_ble_eq_true rfl)) dL_count_4 ⟨Nat.zero_le _, Nat.zero_le _⟩) rfl ?_
  refine lv_i2l hx_ hb dL_count_7 rfl ?_
  refine va_last hx_ hb hK hP hD hS 3 0 rfl rfl (vp_in_nI (n := 0) (N := 1) (by decide) (by decide)) dL_count_8 (fun H locs hP hD hS => ?_)
  have hP : va_P (dC, dI) vwCl (lh hx hc hh ho cJ (q, vp_updL o 0 (r.toInt64))) H := hP
  have hD : va_D A (lh hx hc hh ho cJ (q, vp_updL o 0 (r.toInt64))) := hD
  refine lv_goto (tgt := 15) hx_ hb dL_count_9 (by decide) ?_
  refine lv_iconst (v := 0) hx_ hb dL_count_15 (by decide) ?_
  refine W.widen (k := 1) (n := 6) (by decide) (by decide) ?_
  exact xc_iret (wf := lh hx hc hh ho cJ) hx_ hb hr hlocks dL_count_16 hK hP hD hS rfl rfl
set_option maxHeartbeats 4000000 in
set_option maxRecDepth 100000 in
theorem L_count_t1 (l : Launch) (dC : Nat → ClassId) (dI : Nat → Nat → Nat) (hx hc hh ho : Nat) (cJ : ClassId) (sz : Nat) (q : PS) (o : Nat → Int64) (y : Int32) (hM : xt_M l yX0_count wsX0_count ({ frames := 6, cells := 1, slots := 6, locals := 90 }) (xt_P [.ref hx, .int y] (dC, dI) vwCl [] pz TL (pw hx hc hh q)) "java/lang/IllegalArgumentException") : xh_M l yL_count wsL_count ({ frames := 7, cells := 1, slots := 6, locals := 111 }) [.ref hx, .int y, .ref ho] sz (dC, dI) vwCl [(cJ, .long)] (lh hx hc hh ho cJ (q, o)) (some (.int 1)) (lh hx hc hh ho cJ (q, o)) := by
  refine va_MetW (hh := [(0, 9, 12, 19)]) (cc := cL_count) (maxL := 4) (ret := (some .int)) (by decide) rfl ?_
  intro p e s m args below meth c s₁ B hml hv
  obtain ⟨rfl, hsz, hP, hK, hD0, hZ, hT, hNc⟩ := hv
  have hx_ := B.exec
  have hb := B.bytes
  have hr := B.returns
  have hts := atoms_spec (ws := wsL_count) B.pre
  have hown : s.vm.findClass RL = some m.cls := findClass_of_methodNamed B.named
  have hlocks := B.notSynchronized
  subst hsz
  have hD := hD0.self (sz := s.heap.size)
  generalize hAe : va_A (lh hx hc hh ho cJ (q, o)) s.heap.size = A at hD ⊢
  have hA : ∀ q : Nat, s.heap.size ≤ q → A q := fun q h => by rw [← hAe]; exact Or.inr h
  have hS : va_S A s.heap s.heap [] := va_S.rf
  have hl := lv_entry ([.ref hx, .int y, .ref ho]) (n := 4) (Nat.le_of_ble_eq_true rfl)
  rw [lg_entry_eq]
  generalize (lg_sl ([.ref hx, .int y, .ref ho]) ++ List.replicate (4 - (lg_sl ([.ref hx, .int y, .ref ho])).length) Slot.unset).toArray = ls at hl ⊢
  have hl : lv_has ls 4 [(0, .ref hx), (1, .int y), (2, .ref ho)] := hl
  refine lv_aload_n hx_ hb dL_count_0 rfl (lv_at hl 2 rfl) ?_
  refine lv_iconst (v := 0) hx_ hb dL_count_1 (by decide) ?_
  refine lv_aload_n hx_ hb dL_count_2 rfl (lv_at hl 0 rfl) ?_
  refine lv_iload_n hx_ hb dL_count_3 rfl (lv_at hl 1 rfl) ?_
  have htab := xh_tab B (hts _ List.mem_cons_self)
  obtain ⟨tx, htl, x1, x2, x3, x4⟩ := xh_one htab
  refine xt_catch1 (name := "java/lang/IllegalArgumentException") (xt_runV (As := [.int y]) (rest := [.int 0, .ref ho]) ⟨hx_, hb, hml, hown, hts⟩ hM (cwV 1 hts (gd_V wa_c k_ml_L_36 k_im_X0_count k_se_X0_count k_in_X0 k_co_X0_count) rfl rfl rfl (by decide +kernel) ⟨Nat.le_of_ble_eq_true rfl, Nat.le_of_ble_eq_true rfl⟩) (xt_preV (q0 := 0) (C := RX0) (hK.sub (tys' := []) [] rfl) (hP.sub (ws' := pw hx hc hh q) [0, 1, 2] rfl) hZ hT (fun _ _ => rfl) rfl rfl) rfl rfl hl.1 rfl (lv_room (Nat.le_of_ble_eq_true rfl)) dL_count_4 ⟨Nat.le_of_ble_eq_true rfl, Nat.le_of_ble_eq_true rfl⟩) hown htl (by simp [covers, x1, x2]) (by rw [x4]; decide) (by rw [x4]; exact hts _ (List.mem_cons_of_mem _ k_cl_L_19)) (hT.use (by decide +kernel)) (fun q9 H hz hk => ?_)
  rw [x3]
  have hP : va_P (dC, dI) vwCl (lh hx hc hh ho cJ (q, o)) H := hP.kept (fun k z hz9 => hk z.1 (hP k z hz9).lt)
  have hS : va_S A s.heap H [] := ⟨hz, fun z h1 _ => hk z h1, fun z h1 => by cases h1⟩
  refine lv_astore_n (lv' := [(3, .ref q9), (0, .ref hx), (1, .int y), (2, .ref ho)]) hx_ hb dL_count_12 rfl hl (by decide) rfl (fun ls hl => ?_)
  refine lv_iconst (v := 1) hx_ hb dL_count_13 (by decide) ?_
  exact xc_iret (wf := lh hx hc hh ho cJ) hx_ hb hr hlocks dL_count_14 hK hP hD hS rfl rfl
