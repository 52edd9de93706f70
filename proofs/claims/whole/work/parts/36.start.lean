def R_law : String := "LinePairLaw"
def lw_P (b : Addr) (xs : List Int32) (args : Array Value) (s : State) : Prop := args = #[.ref b] ∧ s.IntsAt b xs ∧ xs.length ≤ 2048 ∧ (Jvm.Cond.and given_1 narrow_1).before args s = true
def lw_Q (_ : Array Value) (s : State) (o : Outcome) (t : State) : Prop := o = .returned (some (.int 1)) ∧ Framed s o t [] 1046 8378
def lw_Z (below : List Frame) (a : Array Value) (s : State) : State → Prop := fun t => ∃ o, t.status = .running ∧ Ended t below o ∧ lw_Q a s o t
theorem lw_ret {p : Program} {l : Launch} {e : Env} {s : State} {m : MethodId} {below : List Frame} {meth : Method} {c : Code} {b : Nat} (hx : p.tables.exec = Jvm.exec) (hb : c.code = code) (hr : meth.sig.returnType = ret) (hlocks : meth.locks = false) {pc : Nat} {H : Heap} {ls : Array Slot} (hdg : decode code pc = .ok (.ireturn, 1)) : W p l e room_1 s m #[Value.ref b] below meth c H [] 1046 8378 (lw_Z below #[Value.ref b] s) (F0 m pc ls [.int 1]) := by
  intro T hT X
  obtain ⟨fs, hret, hrun, hended, hW, hframe⟩ := X.leave (v := some (.int 1)) (hlocks := hlocks) (fun h => by rw [hr] at h; cases h)
  have hmeth' : T.vm.method? m = some meth := X.method'
  refine ⟨T.setFrames fs, ?_, .returned (some (.int 1)), hrun, hended, rfl, ⟨_, rfl⟩, hW, hframe⟩
  jvm_step X.here [X.here.top, hx, hb, hdg, hmeth', hr, ret, narrow_b1]
  (try refine ⟨rfl, ?_⟩); (try refine ⟨rfl, ?_⟩)
  first | (intro acts; rw [hret _ acts rfl rfl rfl]) | rw [hret _ _ rfl rfl rfl]
  exact Steps.refl _
def lw_At (p : Program) (s : State) (m : MethodId) (meth : Method) (c : Code) (b L : Nat) (xs : Nat → Int32) : Prop :=
  p.tables.exec = Jvm.exec ∧ c.code = code ∧ meth.sig.returnType = ret ∧ c.maxLocals = 7 ∧ s.vm.findClass R_law = some m.cls ∧ (∀ w ∈ lw_tbl, w.before #[Value.ref b] s = true) ∧ va_X b L xs s s.heap ∧ b < s.heap.size ∧ meth.locks = false ∧ (Jvm.Cond.and given_1 narrow_1).before #[Value.ref b] s = true
theorem lp_gt {L j : Nat} (hL : L ≤ 2048) (hj : 4 * j ≤ L) : Int32.ofNat L - 4 < nI (4 * j) ↔ L < 4 * j + 4 := by
  have h1 : (Int32.ofNat L).toInt = (L : Int) := nI_toInt (n := L) (by omega)
  have h2 : (nI (4 * j)).toInt = ((4 * j : Nat) : Int) := nI_toInt (by omega)
  have h3 : (4 : Int32).toInt = 4 := by decide
  rw [Int32.lt_iff_toInt_lt, Int32.toInt_sub, h1, h2, h3, Int.bmod_eq_of_le (by omega) (by omega)]
  omega
theorem and7 (x : Int32) : ∃ k, k < 8 ∧ x &&& 7 = nI k := by
  refine ⟨(x.toBitVec &&& 7#32).toNat, ?_, ?_⟩
  · rw [BitVec.toNat_and]
    exact Nat.lt_of_le_of_lt Nat.and_le_right (by decide)
  · apply Int32.toBitVec_inj.mp
    show x.toBitVec &&& 7#32 = BitVec.ofNat 32 (x.toBitVec &&& 7#32).toNat
    rw [BitVec.ofNat_toNat, BitVec.setWidth_eq]
theorem inc4 (j : Nat) : nI (4 * j) + Int32.ofInt 4 = nI (4 * (j + 1)) := by
  show nI (4 * j) + nI 4 = nI (4 * (j + 1))
  rw [nI_add]; rfl
set_option maxHeartbeats 4000000 in
set_option maxRecDepth 100000 in
theorem law_loop (l : Launch) (htr : l.stackTraces = false) {p : Program} {e : Env} {s : State} {m : MethodId} {below : List Frame} {meth : Method} {c : Code} {b L : Nat} {xs : Nat → Int32} (dC : Nat → ClassId) (dI : Nat → Nat → Nat) (hx hc hh ho : Nat) (cJ : ClassId) (hm : Nat) (a : Nat → Nat) (cA : Nat → ClassId) (E : Lx p s m c b L xs (dC, dI) (wt cA cJ)) (hr : meth.sig.returnType = ret) (hlocks : meth.locks = false) : ∀ (n j : Nat), L < 4 * (j + n) + 4 → 4 * j ≤ L → ∀ (ls : Array Slot) (H : Heap) (locs : List Loc) (g : PS × (Nat → Int64)) (z : (Nat → Nat → Bool) × (Nat → Nat → Nat)), lv_has ls 7 (ll b hx hm ho j) → va_P (dC, dI) vwCl (ww hx hc hh ho cJ hm a cA g z) H → va_D (lA s) (ww hx hc hh ho cJ hm a cA g z) → va_S (lA s) s.heap H locs → Rp g.1 z.1 z.2 → W p l e room_1 s m #[Value.ref b] below meth c H locs (15 + j) (144 + 6 * j) (lw_Z below #[Value.ref b] s) (F0 m 23 ls []) := by
  intro n
  induction n with
  | zero =>
    intro j hn hj ls H locs g z hl hP hD hS hR
    obtain ⟨hx_, hb, hml, hown, hts, hX, hbl, hK, hZ, hT, hN, hL⟩ := E
    have hbA : ¬ lA s b := Nat.not_le.mpr hbl
    refine lv_iload hx_ hb dL_law_23 (lv_at hl 0 rfl) ?_
    refine lv_aload_n hx_ hb dL_law_25 rfl (lv_at hl 1 rfl) ?_
    refine va_slen hx_ hb hX hbl hbA hS dL_law_26 ?_
    refine lv_iconst (v := 4) hx_ hb dL_law_27 (by decide) ?_
    refine lv_isub hx_ hb dL_law_28 ?_
    refine lv_icmp_gt (tgt := 604) hx_ hb dL_law_29 (by decide) (fun h => ?_) (fun h => (h ((lp_gt hL hj).mpr (by omega))).elim)
    refine lv_iconst (v := 1) hx_ hb dL_law_604 (by decide) ?_
    refine W.forget (locs := []) (L := locs) (fun q hq => hS.2.2 q hq) ?_
    refine W.widen (k := 1046) (n := 8378) (by omega) (by omega) ?_
    exact lw_ret hx_ hb hr hlocks dL_law_605
  | succ n ih =>
    intro j hn hj ls H locs g z hl hP hD hS hR
    obtain ⟨q, o⟩ := g
    have E0 := E
    obtain ⟨hx_, hb, hml, hown, hts, hX, hbl, hK, hZ, hT, hN, hL⟩ := E
    have hbA : ¬ lA s b := Nat.not_le.mpr hbl
    refine lv_iload hx_ hb dL_law_23 (lv_at hl 0 rfl) ?_
    refine lv_aload_n hx_ hb dL_law_25 rfl (lv_at hl 1 rfl) ?_
    refine va_slen hx_ hb hX hbl hbA hS dL_law_26 ?_
    refine lv_iconst (v := 4) hx_ hb dL_law_27 (by decide) ?_
    refine lv_isub hx_ hb dL_law_28 ?_
    refine lv_icmp_gt (tgt := 604) hx_ hb dL_law_29 (by decide) (fun h => ?_) (fun h => ?_)
    · have h := (lp_gt hL hj).mp h
      refine lv_iconst (v := 1) hx_ hb dL_law_604 (by decide) ?_
      refine W.forget (locs := []) (L := locs) (fun q hq => hS.2.2 q hq) ?_
      refine W.widen (k := 1046) (n := 8378) (by omega) (by omega) ?_
      exact lw_ret hx_ hb hr hlocks dL_law_605
    · have h : 4 * j + 4 ≤ L := by
        have := mt (lp_gt hL hj).mpr h
        omega
      have kk : ∀ (ls : Array Slot) (H : Heap) (locs : List Loc) (g : PS × (Nat → Int64)) (z : (Nat → Nat → Bool) × (Nat → Nat → Nat)), lv_has ls 7 (ll b hx hm ho j) → va_P (dC, dI) vwCl (ww hx hc hh ho cJ hm a cA g z) H → va_D (lA s) (ww hx hc hh ho cJ hm a cA g z) → va_S (lA s) s.heap H locs → Rp g.1 z.1 z.2 → W p l e room_1 s m #[Value.ref b] below meth c H locs (15 + j + 1) (144 + 6 * j + 6) (lw_Z below #[Value.ref b] s) (F0 m 598 ls []) := by
        intro ls H locs g z hl hP hD hS hR
        refine lv_iinc (k := 0) (v := nI (4 * (j + 1))) (lv' := ll b hx hm ho (j + 1)) hx_ hb dL_law_598 hl rfl (inc4 j) (by decide) rfl (fun ls hl => ?_)
        refine lv_goto (tgt := 23) hx_ hb dL_law_601 (by decide) ?_
        refine W.widen (k := 15 + (j + 1)) (n := 144 + 6 * (j + 1)) (by omega) (by omega) ?_
        exact ih (j + 1) (by omega) (by omega) ls H locs g z hl hP hD hS hR
      have hc1 : 15 + j + 1 ≤ room_1.cells := by show 15 + j + 1 ≤ 1046; omega
      have hc2 : 144 + 6 * j + 6 ≤ room_1.slots := by show 144 + 6 * j + 6 ≤ 8378; omega
      refine lv_aload_n hx_ hb dL_law_32 rfl (lv_at hl 1 rfl) ?_
      refine lv_iload hx_ hb dL_law_33 (lv_at hl 0 rfl) ?_
      refine va_sld hx_ hb hX hbl hbA hS (vp_in_nI (by omega) (by omega)) dL_law_35 ?_
      refine lv_bipush (v := 7) hx_ hb dL_law_36 (by decide) ?_
      refine lv_iand hx_ hb dL_law_38 ?_
      obtain ⟨k, hk, ek⟩ := and7 (xs (nI (4 * j)).toNatClampNeg)
      refine xi_eq ek ?_
      rcases (show k = 0 ∨ k = 1 ∨ k = 2 ∨ k = 3 ∨ k = 4 ∨ k = 5 ∨ k = 6 ∨ k = 7 by omega) with rfl | rfl | rfl | rfl | rfl | rfl | rfl | rfl
      · refine lv_tableIn (off := 45) (tgt := 84) hx_ hb dL_law_39 (by decide) (by decide) (by decide) (by decide) ?_
        exact law_line l htr dC dI hx hc hh ho cJ hm a cA E0 h hl q o z hP hD hS hR hc1 hc2 kk
      · refine lv_tableIn (off := 136) (tgt := 175) hx_ hb dL_law_39 (by decide) (by decide) (by decide) (by decide) ?_
        exact law_write l htr dC dI hx hc hh ho cJ hm a cA E0 h hl q o z hP hD hS hR hc1 hc2 kk
      · refine lv_tableIn (off := 223) (tgt := 262) hx_ hb dL_law_39 (by decide) (by decide) (by decide) (by decide) ?_
        exact law_read l htr dC dI hx hc hh ho cJ hm a cA E0 h hl q o z hP hD hS hR hc1 hc2 kk
      · refine lv_tableIn (off := 291) (tgt := 330) hx_ hb dL_law_39 (by decide) (by decide) (by decide) (by decide) ?_
        exact law_take l htr dC dI hx hc hh ho cJ hm a cA E0 h hl q o z hP hD hS hR hc1 hc2 kk
      · refine lv_tableIn (off := 304) (tgt := 343) hx_ hb dL_law_39 (by decide) (by decide) (by decide) (by decide) ?_
        exact law_delivers l htr dC dI hx hc hh ho cJ hm a cA E0 h hl q o z hP hD hS hR hc1 hc2 kk
      · refine lv_tableIn (off := 360) (tgt := 399) hx_ hb dL_law_39 (by decide) (by decide) (by decide) (by decide) ?_
        exact law_about l htr dC dI hx hc hh ho cJ hm a cA E0 h hl q o z hP hD hS hR hc1 hc2 kk
      · refine lv_tableIn (off := 428) (tgt := 467) hx_ hb dL_law_39 (by decide) (by decide) (by decide) (by decide) ?_
        exact law_mode l htr dC dI hx hc hh ho cJ hm a cA E0 h hl q o z hP hD hS hR hc1 hc2 kk
      · refine lv_tableIn (off := 503) (tgt := 542) hx_ hb dL_law_39 (by decide) (by decide) (by decide) (by decide) ?_
        exact law_count l htr dC dI hx hc hh ho cJ hm a cA E0 h hl q o z hP hD hS hR hc1 hc2 kk
theorem pz_in : ∀ w ∈ pz, w ∈ lw_tbl := by decide +kernel
theorem pz_ok : pz.all xz_ok = true := by decide +kernel
theorem TL_ok : TL.all xt_ok = true ∧ xt_h3 ∈ TL ∧ xt_h4 ∈ TL ∧ Cond.initialized Bundle.tN ∈ TL := by decide +kernel
theorem TL_in : ∀ w ∈ TL, w ∈ lw_tbl ∨ w = xt_h1 ∨ w = xt_h2 := by decide +kernel
theorem st_K {s : State} {args : Array Value} (hts : ∀ w ∈ lw_tbl, w.before args s = true) : ∃ (dC : Nat → ClassId) (dI : Nat → Nat → Nat), va_K (dC, dI) vwCl [] s := by
  obtain ⟨c0, i0, k0⟩ := u_known (C := RX0) (T := TX0) (N := 3) hts (fun w h => wl_c w (u_X0 w h)) (hts _ (wl_c _ k_is_X0))
  obtain ⟨c1, i1, k1⟩ := u_known (C := RX1) (T := TX1) (N := 19) hts (fun w h => wl_c w (u_X1 w h)) (hts _ (wl_c _ k_is_X1))
  obtain ⟨c2, i2, k2⟩ := u_known (C := RX2) (T := TX2) (N := 14) hts (fun w h => wl_c w (u_X2 w h)) (hts _ (wl_c _ k_is_X2))
  refine ⟨fun k => match k with | 0 => c0 | 1 => c1 | _ => c2, fun k => match k with | 0 => i0 | 1 => i1 | _ => i2, fun k q hq => ?_, fun k q hk => by cases hk⟩
  match k, hq with
  | 0, hq => cases hq; exact k0
  | 1, hq => cases hq; exact k1
  | 2, hq => cases hq; exact k2
  | k + 3, hq => cases hq
theorem st_w {w : Cond} (hw : xz_ok w = true) {s : State} {A : Array Value} (h : w.before A s = true) : va_Nw w s := va_Nw.of (xz_tab hw) h
theorem st_Z {s : State} {args : Array Value} (hts : ∀ w ∈ lw_tbl, w.before args s = true) : xz_Z pz s := ⟨pz_ok, fun w hw => st_w (List.all_eq_true.mp pz_ok w hw) (hts w (pz_in w hw))⟩
theorem st_any {w : Cond} (h : xt_ok w = true) {s : State} {A : Array Value} (hw : w.before A s = true) : va_Nw w s := by
  simp only [xt_ok, Bool.or_eq_true, decide_eq_true_eq] at h
  rcases h with (((h | rfl) | rfl) | rfl) | rfl
  · exact st_w h hw
  · exact hw
  · exact hw
  · exact hw
  · exact hw
theorem st_T {s : State} {args : Array Value} (hts : ∀ w ∈ lw_tbl, w.before args s = true) (h1 : xt_h1.before args s = true) (h2 : xt_h2.before args s = true) : xt_Z TL s := ⟨TL_ok, fun w hw => st_any (List.all_eq_true.mp TL_ok.1 w hw) (by
  rcases TL_in w hw with h | rfl | rfl
  · exact hts w h
  · exact h1
  · exact h2)⟩
set_option maxHeartbeats 4000000 in
set_option maxRecDepth 100000 in
theorem whole_start {p : Program} {e : Env} {s : State} {m : MethodId} {below : List Frame} {meth : Method} {c : Code} (l : Launch) (htr : l.stackTraces = false) {b L : Nat} {xs : Nat → Int32} (hL : L ≤ 2048) (C0 : lw_At p s m meth c b L xs) : W p l e room_1 s m #[Value.ref b] below meth c s.heap [] 0 0 (lw_Z below #[Value.ref b] s) (entryFrame m ([Value.ref b] : List Value).toArray 7) := by
  obtain ⟨hx_, hb, hr, hml, hown, hts, hX, hbl, hlocks, hgv⟩ := C0
  have hgf := flat_of_before _ hgv
  have hT : xt_Z TL s := st_T hts (hgf _ (by decide +kernel)) (hgf _ (by decide +kernel))
  have hN : va_Nc "java/lang/IllegalArgumentException" "java/util/NoSuchElementException" s := va_Nc.of (hgf _ (by decide +kernel))
  have hZ : xz_Z pz s := st_Z hts
  obtain ⟨dC, dI, hK⟩ := st_K hts
  have hA : ∀ q : Nat, s.heap.size ≤ q → lA s q := fun _ h => h
  have hS : va_S (lA s) s.heap s.heap [] := va_S.rf
  have hP : va_P (dC, dI) vwCl [] s.heap := fun k q h => by cases h
  have hD : va_D (lA s) [] := ⟨(fun i j p q h => by cases h), (fun k q h => by cases h)⟩
  have hl := lv_entry ([.ref b]) (n := 7) (Nat.le_of_ble_eq_true rfl)
  rw [lg_entry_eq]
  generalize (lg_sl ([.ref b]) ++ List.replicate (7 - (lg_sl ([.ref b])).length) Slot.unset).toArray = ls at hl ⊢
  have hl : lv_has ls 7 [(0, .ref b)] := hl
  refine va_new (ci := 0) (fs := [.null, .null, .int 0]) (C := RX0) (T := TX0) (N := 3) hx_ hb hts (fun w h => wl_c w (u_X0 w h)) tyX0 tyX0_ok hown (hts _ (wl_c _ k_cl_L_8)) (hts _ (wl_c _ k_is_X0)) (hts _ (wl_c _ k_in_X0)) hK hP hD hS hA rfl (by decide) (show 0 + 1 ≤ 1046 by decide) (show 0 + 3 ≤ 8378 by decide) dL_law_0 (fun hx H hP hD hS => ?_)
  have hP : va_P (dC, dI) vwCl ([(hx, .inr (0, [.null, .null, .int 0]))]) H := hP
  have hD : va_D (lA s) ([(hx, .inr (0, [.null, .null, .int 0]))]) := hD
  refine lv_dup hx_ hb dL_law_3 rfl ?_
  have hFc := va_free (wc := [(hx, .inr (0, [.null, .null, .int 0]))]) hD hS hA [0] rfl
  refine va_callv (va_runI (As := []) (rest := [.ref hx]) ⟨hx_, hb, hml, hown, hts⟩ (c_pair_init l dC dI hx H.size) (cwI 0 hts (gd_0 wl_c k_co_X0_init) rfl rfl rfl (hts _ (wl_c _ k_in_X0)) (hts _ (wl_c _ k_ml_L_39)) (hts _ (wl_c _ k_im_X0_init)) rfl (by decide +kernel) ⟨Nat.le_of_ble_eq_true rfl, Nat.le_of_ble_eq_true rfl⟩) (xc_preS hK hP hD hZ) rfl rfl hl.1 rfl (lv_room (Nat.le_of_ble_eq_true rfl)) dL_law_4 ⟨Nat.le_of_ble_eq_true rfl, Nat.le_of_ble_eq_true rfl⟩) hS (fun q _ h => hFc q h) hFc (fun u t H1 locs ht hvm _ hB hz1 hk1 hS => ?_)
  obtain ⟨hc, hh⟩ := u
  obtain ⟨hP1, hK1, hD1⟩ := hB
  rw [ht] at hP1
  obtain ⟨hP, hD⟩ := va_join (wr := []) (w1 := pw hx hc hh (lpI 2, lpI (-1), 0)) hP hD [0] [] rfl rfl (by decide) (by decide) hk1 hFc hP1 hD1
  have hP : va_P (dC, dI) vwCl (pw hx hc hh (lpI 2, lpI (-1), 0)) H1 := hP
  have hD : va_D (lA s) (pw hx hc hh (lpI 2, lpI (-1), 0)) := hD
  clear hP1 hK1 hD1 hk1 hFc ht hvm t
  refine lv_astore_n (lv' := [(1, .ref hx), (0, .ref b)]) hx_ hb dL_law_7 rfl hl (by decide) rfl (fun ls hl => ?_)
  refine va_new (ci := 2) (fs := [.int 0, .null, .null, .null, .null, .null, .null, .null, .null, .null, .null, .int 0, .int 0, .int 0]) (C := RX2) (T := TX2) (N := 14) hx_ hb hts (fun w h => wl_c w (u_X2 w h)) tyX2 tyX2_ok hown (hts _ (wl_c _ k_cl_L_40)) (hts _ (wl_c _ k_is_X2)) (hts _ (wl_c _ k_in_X2)) hK hP hD hS hA rfl (by decide) (show 0 + 1 + 2 + 1 ≤ 1046 by decide) (show 0 + 3 + 38 + 14 ≤ 8378 by decide) dL_law_8 (fun hm H hP hD hS => ?_)
  have hP : va_P (dC, dI) vwCl (pw hx hc hh (lpI 2, lpI (-1), 0) ++ [(hm, .inr (2, [.int 0, .null, .null, .null, .null, .null, .null, .null, .null, .null, .null, .int 0, .int 0, .int 0]))]) H := hP
  have hD : va_D (lA s) (pw hx hc hh (lpI 2, lpI (-1), 0) ++ [(hm, .inr (2, [.int 0, .null, .null, .null, .null, .null, .null, .null, .null, .null, .null, .int 0, .int 0, .int 0]))]) := hD
  refine lv_dup hx_ hb dL_law_11 rfl ?_
  have hFc := va_free (wc := [(hm, .inr (2, [.int 0, .null, .null, .null, .null, .null, .null, .null, .null, .null, .null, .int 0, .int 0, .int 0]))]) hD hS hA [3] rfl
  refine va_callv (va_runI (As := []) (rest := [.ref hm]) ⟨hx_, hb, hml, hown, hts⟩ (c_model_init l dC dI hm H.size) (cwI 0 hts (gd_0 wl_c k_co_X2_init) rfl rfl rfl (hts _ (wl_c _ k_in_X2)) (hts _ (wl_c _ k_ml_L_42)) (hts _ (wl_c _ k_im_X2_init)) rfl (by decide +kernel) ⟨Nat.le_of_ble_eq_true rfl, Nat.le_of_ble_eq_true rfl⟩) (xc_preS hK (hP.sub (ws' := [(hm, .inr (2, [.int 0, .null, .null, .null, .null, .null, .null, .null, .null, .null, .null, .int 0, .int 0, .int 0]))]) [3] rfl) (hD.sub (ws' := [(hm, .inr (2, [.int 0, .null, .null, .null, .null, .null, .null, .null, .null, .null, .null, .int 0, .int 0, .int 0]))]) [3] (by decide) rfl) xz_Z.nil) rfl rfl hl.1 rfl (lv_room (Nat.le_of_ble_eq_true rfl)) dL_law_12 ⟨Nat.le_of_ble_eq_true rfl, Nat.le_of_ble_eq_true rfl⟩) hS (fun q _ h => hFc q h) hFc (fun u t H1 locs ht hvm _ hB hz1 hk1 hS => ?_)
  obtain ⟨a, cA⟩ := u
  obtain ⟨hP1, hK1, hD1⟩ := hB
  rw [ht] at hP1
  have hK := va_K.moved hvm.symm hK1
  have hK : va_K (dC, dI) vwCl (mtys cA) s := hK
  obtain ⟨hP, hD⟩ := va_join (wr := pw hx hc hh (lpI 2, lpI (-1), 0)) (w1 := mw hm a cA (mIB, mIN)) hP hD [3] [0, 1, 2] rfl rfl (by decide) (by decide) hk1 hFc hP1 hD1
  clear hP1 hK1 hD1 hk1 hFc ht hvm t
  refine lv_astore_n (lv' := [(2, .ref hm), (1, .ref hx), (0, .ref b)]) hx_ hb dL_law_15 rfl hl (by decide) rfl (fun ls hl => ?_)
  refine lv_iconst (v := 1) hx_ hb dL_law_16 (by decide) ?_
  refine va_newa (atype := .long) (a0 := (1, .inr (.inl (fun _ => 0)))) (N' := 1) hx_ hb (ty := .long) (hts _ (wl_c _ k_ac_long)) rfl hK hP hD hS hA (fun _ => rfl) (by decide) (by decide) (by decide) (show 0 + 1 + 2 + 1 + 10 + 1 ≤ 1046 by decide) (show 0 + 3 + 38 + 14 + 88 + 1 ≤ 8378 by decide) dL_law_17 (fun ho cJ H hK hP hD hS => ?_)
  have hP := hP.sub (ws' := ww hx hc hh ho cJ hm a cA ((lpI 2, lpI (-1), 0), fun _ => 0) (mIB, mIN)) [0, 1, 2, 14, 3, 4, 5, 6, 7, 8, 9, 10, 11, 12, 13] rfl
  have hD := hD.sub (ws' := ww hx hc hh ho cJ hm a cA ((lpI 2, lpI (-1), 0), fun _ => 0) (mIB, mIN)) [0, 1, 2, 14, 3, 4, 5, 6, 7, 8, 9, 10, 11, 12, 13] (by decide) rfl
  refine lv_astore_n (lv' := [(3, .ref ho), (2, .ref hm), (1, .ref hx), (0, .ref b)]) hx_ hb dL_law_19 rfl hl (by decide) rfl (fun ls hl => ?_)
  refine lv_iconst (v := 0) hx_ hb dL_law_20 (by decide) ?_
  refine lv_istore (lv' := [(4, .int 0), (3, .ref ho), (2, .ref hm), (1, .ref hx), (0, .ref b)]) hx_ hb dL_law_21 hl (by decide) rfl (fun ls hl => ?_)
  exact law_loop l htr dC dI hx hc hh ho cJ hm a cA ⟨hx_, hb, hml, hown, hts, hX, hbl, hK, hZ, hT, hN, hL⟩ hr hlocks 512 0 (by omega) (by omega) ls H _ ((lpI 2, lpI (-1), 0), fun _ => 0) (mIB, mIN) (lv_sub hl [0, 4, 3, 2, 1] rfl) hP hD hS Rp_I
