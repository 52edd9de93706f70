abbrev ww (hx hc hh ho : Nat) (cJ : ClassId) (hm : Nat) (a : Nat → Nat) (cA : Nat → ClassId) (g : PS × (Nat → Int64)) (z : (Nat → Nat → Bool) × (Nat → Nat → Nat)) : va_W := lh hx hc hh ho cJ g ++ mw hm a cA z
abbrev wt (cA : Nat → ClassId) (cJ : ClassId) : List (ClassId × FieldType) := mtys cA ++ [(cJ, .long)]
theorem wl_c : ∀ w ∈ WA, w ∈ lw_tbl := fun _ h => (List.mem_filter.mp h).1
theorem wl_xw {s : State} {args : Array Value} (hts : ∀ w ∈ lw_tbl, w.before args s = true) {y : MethodName} {bytes : ByteArray} {maxL idx n : Nat} {ret : Option FieldType} {hh : List (Nat × Nat × Nat × Nat)} {rm : Room} (h1 : Cond.methodLink RL idx y ∈ WA) (h2 : Cond.static y ∈ WA) (h3 : Cond.codeWith y bytes maxL ret hh ∈ WA) (hy : y.cls = RL) (hlen : ∀ sig, parseMethodDescriptor y.desc = some sig → n = sig.parameters.length) (hf : rm.frames + 1 ≤ room_1.frames ∧ 8 + (maxL + 11) + rm.locals ≤ room_1.locals) (hc : rm.cells = 1 ∧ rm.slots = 6) : xw_W room_1 s args RL idx y bytes maxL ret hh (.codeWith y bytes maxL ret hh :: WA) rm 1 6 n :=
  ⟨⟨hc.1, hc.2, hf.1, hf.2⟩, (fun w hw a' U hW => by have h := gd_0 wl_c h3 w hw; exact word_at hW h.2 (hts w h.1)), List.mem_cons_self, by rw [hy]; exact hts _ (wl_c _ k_in_L), by rw [hy]; exact ⟨by decide, by decide⟩, hlen, hts _ (wl_c _ h1), hts _ (wl_c _ h2)⟩
theorem lg_same (x : Int64) : lg_cmp x x = 0 := by unfold lg_cmp; rw [if_neg (Int64.lt_irrefl), if_pos rfl]
theorem lc_0 : (0 : Int32).toNatClampNeg = 0 := by decide
def Lx (p : Program) (s : State) (m : MethodId) (c : Code) (b L : Nat) (xs : Nat → Int32) (D : va_G) (tys : List (ClassId × FieldType)) : Prop := p.tables.exec = Jvm.exec ∧ c.code = code ∧ c.maxLocals = 7 ∧ s.vm.findClass RL = some m.cls ∧ (∀ w ∈ lw_tbl, w.before #[Value.ref b] s = true) ∧ va_X b L xs s s.heap ∧ b < s.heap.size ∧ va_K D vwCl tys s ∧ xz_Z pz s ∧ xt_Z TL s ∧ va_Nc "java/lang/IllegalArgumentException" "java/util/NoSuchElementException" s ∧ L ≤ 2048
abbrev lA (s : State) : Nat → Prop := fun q => s.heap.size ≤ q
abbrev ll (b hx hm ho : Nat) (j : Nat) : List (Nat × Value) := [(4, .int (nI (4 * j))), (0, .ref b), (1, .ref hx), (2, .ref hm), (3, .ref ho)]
set_option maxHeartbeats 4000000 in
set_option maxRecDepth 100000 in
theorem law_line (l : Launch) (htr : l.stackTraces = false) {p : Program} {e : Env} {s : State} {m : MethodId} {below : List Frame} {meth : Method} {c : Code} {b L : Nat} {xs : Nat → Int32} (dC : Nat → ClassId) (dI : Nat → Nat → Nat) (hx hc hh ho : Nat) (cJ : ClassId) (hm : Nat) (a : Nat → Nat) (cA : Nat → ClassId) (E : Lx p s m c b L xs (dC, dI) (wt cA cJ)) {Q : State → Prop} {ls : Array Slot} {H : Heap} {locs : List Loc} {cells slots j : Nat} (hj : 4 * j + 4 ≤ L) (hl : lv_has ls 7 (ll b hx hm ho j)) (q : PS) (o : Nat → Int64) (z : (Nat → Nat → Bool) × (Nat → Nat → Nat)) (hP : va_P (dC, dI) vwCl (ww hx hc hh ho cJ hm a cA (q, o) z) H) (hD : va_D (lA s) (ww hx hc hh ho cJ hm a cA (q, o) z)) (hS : va_S (lA s) s.heap H locs) (hR : Rp q z.1 z.2) (hcells : cells + 1 ≤ room_1.cells) (hslots : slots + 6 ≤ room_1.slots) (kk : ∀ (ls : Array Slot) (H : Heap) (locs : List Loc) (g : PS × (Nat → Int64)) (z : (Nat → Nat → Bool) × (Nat → Nat → Nat)), lv_has ls 7 (ll b hx hm ho j) → va_P (dC, dI) vwCl (ww hx hc hh ho cJ hm a cA g z) H → va_D (lA s) (ww hx hc hh ho cJ hm a cA g z) → va_S (lA s) s.heap H locs → Rp g.1 z.1 z.2 → W p l e room_1 s m #[Value.ref b] below meth c H locs (cells + 1) (slots + 6) Q (F0 m 598 ls [])) : W p l e room_1 s m #[Value.ref b] below meth c H locs cells slots Q (F0 m 84 ls []) := by
  obtain ⟨hx_, hb, hml, hown, hts, hX, hbl, hK, hZ, hT, hN, hL⟩ := E
  obtain ⟨u0, u1, ea⟩ := q
  obtain ⟨B, N⟩ := z
  have hA : ∀ q : Nat, s.heap.size ≤ q → lA s q := fun _ h => h
  have hbA : ¬ lA s b := Nat.not_le.mpr hbl
  have hlo : ∀ q : Nat, q < s.heap.size → ¬ lA s q := fun _ h => Nat.not_le.mpr h
  have hin1 : vp_in (nI (4 * j) + 1) L := by rw [show nI (4 * j) + 1 = nI (4 * j + 1) from nI_add _ 1]; exact vp_in_nI (by omega) (by omega)
  have hin2 : vp_in (nI (4 * j) + 2) L := by rw [show nI (4 * j) + 2 = nI (4 * j + 2) from nI_add _ 2]; exact vp_in_nI (by omega) (by omega)
  have hin3 : vp_in (nI (4 * j) + 3) L := by rw [show nI (4 * j) + 3 = nI (4 * j + 3) from nI_add _ 3]; exact vp_in_nI (by omega) (by omega)
  obtain ⟨k, g, r, z', hH, hO, hk, hv, hR'⟩ := pk_line l htr dC dI hx hc hh ho cJ hm a cA u0 u1 ea o B N hR (xs (nI (4 * j) + 1).toNatClampNeg) (!(decide (xs (nI (4 * j) + 2).toNatClampNeg = 0)))
  obtain ⟨q', o'⟩ := g
  obtain ⟨B', N'⟩ := z'
  refine lv_aload_n hx_ hb dL_law_84 rfl (lv_at hl 2 rfl) ?_
  refine lv_aload_n hx_ hb dL_law_85 rfl (lv_at hl 1 rfl) ?_
  refine lv_iload hx_ hb dL_law_86 (lv_at hl 0 rfl) ?_
  refine lv_iconst (v := 1) hx_ hb dL_law_88 (by decide) ?_
  refine lv_iadd hx_ hb dL_law_89 ?_
  refine va_sld hx_ hb hX hbl hbA hS hin1 dL_law_90 ?_
  refine lv_aload_n hx_ hb dL_law_91 rfl (lv_at hl 1 rfl) ?_
  refine lv_iload hx_ hb dL_law_92 (lv_at hl 0 rfl) ?_
  refine lv_iconst (v := 2) hx_ hb dL_law_94 (by decide) ?_
  refine lv_iadd hx_ hb dL_law_95 ?_
  refine va_sld hx_ hb hX hbl hbA hS hin2 dL_law_96 ?_
  refine xj_meet (pcJ := 105) (stJ := fun y => .int y :: .int (xs (nI (4 * j) + 1).toNatClampNeg) :: [.ref hx]) (bI (!(decide (xs (nI (4 * j) + 2).toNatClampNeg = 0)))) ?_ (fun kj => ?_)
  rotate_left
  · refine lv_if_eq (tgt := 104) hx_ hb dL_law_97 (by decide) (fun h1 => ?_) (fun h1 => ?_)
    · refine lv_iconst (v := 0) hx_ hb dL_law_104 (by decide) ?_
      exact kj 0 (by rw [decide_eq_true h1]; rfl)
    · refine lv_iconst (v := 1) hx_ hb dL_law_100 (by decide) ?_
      refine lv_goto (tgt := 105) hx_ hb dL_law_101 (by decide) ?_
      exact kj 1 (by rw [decide_eq_false h1]; rfl)
  refine lv_aload_n hx_ hb dL_law_105 rfl (lv_at hl 4 rfl) ?_
  refine xc_call (wc := lh hx hc hh ho cJ ((u0, u1, ea), o)) (wr := mw hm a cA (B, N)) (st1 := [.int k]) (xw_runS (As := [.ref hx, .int (xs (nI (4 * j) + 1).toNatClampNeg), .int (bI (!(decide (xs (nI (4 * j) + 2).toNatClampNeg = 0)))), .ref ho]) (rest := []) ⟨hx_, hb, hml, hown, hts⟩ (hH H.size) (wl_xw (n := 4) hts k_ml_L_43 k_st_L_line k_co_L_line rfl (by decide +kernel) ⟨Nat.le_of_ble_eq_true rfl, Nat.le_of_ble_eq_true rfl⟩ ⟨rfl, rfl⟩) (xh_preS (hK.sub (tys' := [(cJ, .long)]) [10] rfl) (hP.sub (ws' := lh hx hc hh ho cJ ((u0, u1, ea), o)) [0, 1, 2, 3] rfl) (hD.sub (ws' := lh hx hc hh ho cJ ((u0, u1, ea), o)) [0, 1, 2, 3] (by decide) rfl) hZ hT hN (fun q hq => hS.2.1 q hq (hlo q hq))) rfl rfl hl.1 rfl (lv_room (Nat.le_of_ble_eq_true rfl)) dL_law_106 ⟨hcells, hslots⟩) hP hD hS hA [0, 1, 2, 3] [4, 5, 6, 7, 8, 9, 10, 11, 12, 13, 14] rfl rfl (by decide) (by decide) rfl (fun H locs hP hD hS _ => ?_)
  have hP := hP.sub (ws' := ww hx hc hh ho cJ hm a cA (q', o') (B, N)) [11, 12, 13, 14, 0, 1, 2, 3, 4, 5, 6, 7, 8, 9, 10] rfl
  have hD := hD.sub (ws' := ww hx hc hh ho cJ hm a cA (q', o') (B, N)) [11, 12, 13, 14, 0, 1, 2, 3, 4, 5, 6, 7, 8, 9, 10] (by decide) rfl
  refine lv_istore (lv' := (5, .int k) :: ll b hx hm ho j) hx_ hb dL_law_109 hl (by decide) rfl (fun ls hl => ?_)
  refine lv_aload_n hx_ hb dL_law_111 rfl (lv_at hl 4 rfl) ?_
  refine lv_aload_n hx_ hb dL_law_112 rfl (lv_at hl 2 rfl) ?_
  refine lv_iload hx_ hb dL_law_113 (lv_at hl 1 rfl) ?_
  refine lv_iconst (v := 1) hx_ hb dL_law_115 (by decide) ?_
  refine lv_iadd hx_ hb dL_law_116 ?_
  refine va_sld hx_ hb hX hbl hbA hS hin1 dL_law_117 ?_
  refine lv_aload_n hx_ hb dL_law_118 rfl (lv_at hl 2 rfl) ?_
  refine lv_iload hx_ hb dL_law_119 (lv_at hl 1 rfl) ?_
  refine lv_iconst (v := 2) hx_ hb dL_law_121 (by decide) ?_
  refine lv_iadd hx_ hb dL_law_122 ?_
  refine va_sld hx_ hb hX hbl hbA hS hin2 dL_law_123 ?_
  refine xj_meet (pcJ := 132) (stJ := fun y => .int y :: .int (xs (nI (4 * j) + 1).toNatClampNeg) :: [.ref hm]) (bI (!(decide (xs (nI (4 * j) + 2).toNatClampNeg = 0)))) ?_ (fun kj => ?_)
  rotate_left
  · refine lv_if_eq (tgt := 131) hx_ hb dL_law_124 (by decide) (fun h1 => ?_) (fun h1 => ?_)
    · refine lv_iconst (v := 0) hx_ hb dL_law_131 (by decide) ?_
      exact kj 0 (by rw [decide_eq_true h1]; rfl)
    · refine lv_iconst (v := 1) hx_ hb dL_law_127 (by decide) ?_
      refine lv_goto (tgt := 132) hx_ hb dL_law_128 (by decide) ?_
      exact kj 1 (by rw [decide_eq_false h1]; rfl)
  refine xc_call (wc := mw hm a cA (B, N)) (wr := lh hx hc hh ho cJ (q', o')) (st1 := [.int r]) (va_runV (As := [.int (xs (nI (4 * j) + 1).toNatClampNeg), .int (bI (!(decide (xs (nI (4 * j) + 2).toNatClampNeg = 0))))]) (rest := []) ⟨hx_, hb, hml, hown, hts⟩ (hO H.size) (cwV 2 hts (gd_V wl_c k_ml_L_48 k_im_X2_line k_se_X2_line k_in_X2 k_co_X2_line) rfl rfl rfl (by decide +kernel) ⟨Nat.le_of_ble_eq_true rfl, Nat.le_of_ble_eq_true rfl⟩) (xc_preV (q0 := 0) (C := RX2) (hK.sub (tys' := mtys cA) [0, 1, 2, 3, 4, 5, 6, 7, 8, 9] rfl) (hP.sub (ws' := mw hm a cA (B, N)) [4, 5, 6, 7, 8, 9, 10, 11, 12, 13, 14] rfl) (hD.sub (ws' := mw hm a cA (B, N)) [4, 5, 6, 7, 8, 9, 10, 11, 12, 13, 14] (by decide) rfl) (hZ.sub (zl' := []) (fun _ h => by cases h)) rfl rfl) rfl rfl hl.1 rfl (lv_room (Nat.le_of_ble_eq_true rfl)) dL_law_132 ⟨hcells, hslots⟩) hP hD hS hA [4, 5, 6, 7, 8, 9, 10, 11, 12, 13, 14] [0, 1, 2, 3] rfl rfl (by decide) (by decide) rfl (fun H locs hP hD hS _ => ?_)
  refine lv_istore (lv' := (6, .int r) :: (5, .int k) :: ll b hx hm ho j) hx_ hb dL_law_135 hl (by decide) rfl (fun ls hl => ?_)
  refine lv_aload_n hx_ hb dL_law_137 rfl (lv_at hl 5 rfl) ?_
  refine xr_call (st1 := [.int (nI (N' 4 0))]) (W.runV (As := []) (rest := []) ⟨hx_, hb, hml, hown, hts⟩ (c2_thrown l dC dI hm a cA B' N') (cwV 0 hts (gd_V wl_c k_ml_L_49 k_im_X2_thrown k_se_X2_thrown k_in_X2 k_co_X2_thrown) rfl rfl rfl (by decide +kernel) ⟨Nat.le_of_ble_eq_true rfl, Nat.le_of_ble_eq_true rfl⟩) (xr_preV (q0 := 0) (C := RX2) (hK.sub (tys' := mtys cA) [0, 1, 2, 3, 4, 5, 6, 7, 8, 9] rfl) (hP.sub (ws' := mw hm a cA (B', N')) [4, 5, 6, 7, 8, 9, 10, 11, 12, 13, 14] rfl) (hZ.sub (zl' := []) (fun _ h => by cases h)) rfl rfl) rfl rfl hl.1 rfl (lv_room (Nat.le_of_ble_eq_true rfl)) dL_law_138 ⟨hcells, hslots⟩) rfl ?_
  refine lv_iload hx_ hb dL_law_141 (lv_at hl 1 rfl) ?_
  refine lv_icmp_eq (tgt := 148) hx_ hb dL_law_143 (by decide) (fun _ => ?_) (fun h => (h hk).elim)
  have kend : W p l e room_1 s m #[Value.ref b] below meth c H locs (cells + 1) (slots + 6) Q (F0 m 172 ls []) := by
    refine lv_goto (tgt := 598) hx_ hb dL_law_172 (by decide) ?_
    exact kk ls H locs (q', o') (B', N') (lv_sub hl [2, 3, 4, 5, 6] rfl) hP hD hS hR'
  refine lv_iload hx_ hb dL_law_148 (lv_at hl 1 rfl) ?_
  refine lv_if_ne (tgt := 172) hx_ hb dL_law_150 (by decide) (fun _ => kend) (fun h0 => ?_)
  have hv := hv h0
  refine lv_aload_n hx_ hb dL_law_153 rfl (lv_at hl 6 rfl) ?_
  refine lv_iconst (v := 0) hx_ hb dL_law_154 (by decide) ?_
  refine va_lald hx_ hb hK hP 3 10 rfl rfl (vp_in_nI (n := 0) (N := 1) (by decide) (by decide)) dL_law_155 ?_
  refine lv_iload hx_ hb dL_law_156 (lv_at hl 0 rfl) ?_
  refine lv_if_eq (tgt := 165) hx_ hb dL_law_158 (by decide) (fun h1 => ?_) (fun h1 => ?_)
  · refine lv_lconst (v := 0) hx_ hb dL_law_165 (by decide) ?_
    refine W.lcmp hx_ hb dL_law_166 ?_
    refine lv_if_eq (tgt := 172) hx_ hb dL_law_167 (by decide) (fun _ => kend) (fun h => (h ?_).elim)
    rw [lc_0]; show lg_cmp (o' 0) _ = 0; rw [show o' 0 = 0 from hv.trans (if_pos h1)]; exact lg_same _
  · refine lv_lconst (v := 1) hx_ hb dL_law_161 (by decide) ?_
    refine lv_goto (tgt := 166) hx_ hb dL_law_162 (by decide) ?_
    refine W.lcmp hx_ hb dL_law_166 ?_
    refine lv_if_eq (tgt := 172) hx_ hb dL_law_167 (by decide) (fun _ => kend) (fun h => (h ?_).elim)
    rw [lc_0]; show lg_cmp (o' 0) _ = 0; rw [show o' 0 = 1 from hv.trans (if_neg h1)]; exact lg_same _
set_option maxHeartbeats 4000000 in
set_option maxRecDepth 100000 in
theorem law_write (l : Launch) (htr : l.stackTraces = false) {p : Program} {e : Env} {s : State} {m : MethodId} {below : List Frame} {meth : Method} {c : Code} {b L : Nat} {xs : Nat → Int32} (dC : Nat → ClassId) (dI : Nat → Nat → Nat) (hx hc hh ho : Nat) (cJ : ClassId) (hm : Nat) (a : Nat → Nat) (cA : Nat → ClassId) (E : Lx p s m c b L xs (dC, dI) (wt cA cJ)) {Q : State → Prop} {ls : Array Slot} {H : Heap} {locs : List Loc} {cells slots j : Nat} (hj : 4 * j + 4 ≤ L) (hl : lv_has ls 7 (ll b hx hm ho j)) (q : PS) (o : Nat → Int64) (z : (Nat → Nat → Bool) × (Nat → Nat → Nat)) (hP : va_P (dC, dI) vwCl (ww hx hc hh ho cJ hm a cA (q, o) z) H) (hD : va_D (lA s) (ww hx hc hh ho cJ hm a cA (q, o) z)) (hS : va_S (lA s) s.heap H locs) (hR : Rp q z.1 z.2) (hcells : cells + 1 ≤ room_1.cells) (hslots : slots + 6 ≤ room_1.slots) (kk : ∀ (ls : Array Slot) (H : Heap) (locs : List Loc) (g : PS × (Nat → Int64)) (z : (Nat → Nat → Bool) × (Nat → Nat → Nat)), lv_has ls 7 (ll b hx hm ho j) → va_P (dC, dI) vwCl (ww hx hc hh ho cJ hm a cA g z) H → va_D (lA s) (ww hx hc hh ho cJ hm a cA g z) → va_S (lA s) s.heap H locs → Rp g.1 z.1 z.2 → W p l e room_1 s m #[Value.ref b] below meth c H locs (cells + 1) (slots + 6) Q (F0 m 598 ls [])) : W p l e room_1 s m #[Value.ref b] below meth c H locs cells slots Q (F0 m 175 ls []) := by
  obtain ⟨hx_, hb, hml, hown, hts, hX, hbl, hK, hZ, hT, hN, hL⟩ := E
  obtain ⟨u0, u1, ea⟩ := q
  obtain ⟨B, N⟩ := z
  have hA : ∀ q : Nat, s.heap.size ≤ q → lA s q := fun _ h => h
  have hbA : ¬ lA s b := Nat.not_le.mpr hbl
  have hlo : ∀ q : Nat, q < s.heap.size → ¬ lA s q := fun _ h => Nat.not_le.mpr h
  have hin1 : vp_in (nI (4 * j) + 1) L := by rw [show nI (4 * j) + 1 = nI (4 * j + 1) from nI_add _ 1]; exact vp_in_nI (by omega) (by omega)
  have hin2 : vp_in (nI (4 * j) + 2) L := by rw [show nI (4 * j) + 2 = nI (4 * j + 2) from nI_add _ 2]; exact vp_in_nI (by omega) (by omega)
  have hin3 : vp_in (nI (4 * j) + 3) L := by rw [show nI (4 * j) + 3 = nI (4 * j + 3) from nI_add _ 3]; exact vp_in_nI (by omega) (by omega)
  obtain ⟨k, g, r, z', hH, hO, hk, hv, hR'⟩ := pk_write l htr dC dI hx hc hh ho cJ hm a cA u0 u1 ea o B N hR (xs (nI (4 * j) + 1).toNatClampNeg) (xs (nI (4 * j) + 2).toNatClampNeg) (xs (nI (4 * j) + 3).toNatClampNeg)
  obtain ⟨q', o'⟩ := g
  obtain ⟨B', N'⟩ := z'
  refine lv_aload_n hx_ hb dL_law_175 rfl (lv_at hl 2 rfl) ?_
  refine lv_aload_n hx_ hb dL_law_176 rfl (lv_at hl 1 rfl) ?_
  refine lv_iload hx_ hb dL_law_177 (lv_at hl 0 rfl) ?_
  refine lv_iconst (v := 1) hx_ hb dL_law_179 (by decide) ?_
  refine lv_iadd hx_ hb dL_law_180 ?_
  refine va_sld hx_ hb hX hbl hbA hS hin1 dL_law_181 ?_
  refine lv_aload_n hx_ hb dL_law_182 rfl (lv_at hl 1 rfl) ?_
  refine lv_iload hx_ hb dL_law_183 (lv_at hl 0 rfl) ?_
  refine lv_iconst (v := 2) hx_ hb dL_law_185 (by decide) ?_
  refine lv_iadd hx_ hb dL_law_186 ?_
  refine va_sld hx_ hb hX hbl hbA hS hin2 dL_law_187 ?_
  refine lv_aload_n hx_ hb dL_law_188 rfl (lv_at hl 1 rfl) ?_
  refine lv_iload hx_ hb dL_law_189 (lv_at hl 0 rfl) ?_
  refine lv_iconst (v := 3) hx_ hb dL_law_191 (by decide) ?_
  refine lv_iadd hx_ hb dL_law_192 ?_
  refine va_sld hx_ hb hX hbl hbA hS hin3 dL_law_193 ?_
  refine lv_aload_n hx_ hb dL_law_194 rfl (lv_at hl 4 rfl) ?_
  refine xc_call (wc := lh hx hc hh ho cJ ((u0, u1, ea), o)) (wr := mw hm a cA (B, N)) (st1 := [.int k]) (xw_runS (As := [.ref hx, .int (xs (nI (4 * j) + 1).toNatClampNeg), .int (xs (nI (4 * j) + 2).toNatClampNeg), .int (xs (nI (4 * j) + 3).toNatClampNeg), .ref ho]) (rest := []) ⟨hx_, hb, hml, hown, hts⟩ (hH H.size) (wl_xw (n := 5) hts k_ml_L_53 k_st_L_write k_co_L_write rfl (by decide +kernel) ⟨Nat.le_of_ble_eq_true rfl, Nat.le_of_ble_eq_true rfl⟩ ⟨rfl, rfl⟩) (xh_preS (hK.sub (tys' := [(cJ, .long)]) [10] rfl) (hP.sub (ws' := lh hx hc hh ho cJ ((u0, u1, ea), o)) [0, 1, 2, 3] rfl) (hD.sub (ws' := lh hx hc hh ho cJ ((u0, u1, ea), o)) [0, 1, 2, 3] (by decide) rfl) hZ hT hN (fun q hq => hS.2.1 q hq (hlo q hq))) rfl rfl hl.1 rfl (lv_room (Nat.le_of_ble_eq_true rfl)) dL_law_195 ⟨hcells, hslots⟩) hP hD hS hA [0, 1, 2, 3] [4, 5, 6, 7, 8, 9, 10, 11, 12, 13, 14] rfl rfl (by decide) (by decide) rfl (fun H locs hP hD hS _ => ?_)
  have hP := hP.sub (ws' := ww hx hc hh ho cJ hm a cA (q', o') (B, N)) [11, 12, 13, 14, 0, 1, 2, 3, 4, 5, 6, 7, 8, 9, 10] rfl
  have hD := hD.sub (ws' := ww hx hc hh ho cJ hm a cA (q', o') (B, N)) [11, 12, 13, 14, 0, 1, 2, 3, 4, 5, 6, 7, 8, 9, 10] (by decide) rfl
  refine lv_istore (lv' := (5, .int k) :: ll b hx hm ho j) hx_ hb dL_law_198 hl (by decide) rfl (fun ls hl => ?_)
  refine lv_aload_n hx_ hb dL_law_200 rfl (lv_at hl 4 rfl) ?_
  refine lv_aload_n hx_ hb dL_law_201 rfl (lv_at hl 2 rfl) ?_
  refine lv_iload hx_ hb dL_law_202 (lv_at hl 1 rfl) ?_
  refine lv_iconst (v := 1) hx_ hb dL_law_204 (by decide) ?_
  refine lv_iadd hx_ hb dL_law_205 ?_
  refine va_sld hx_ hb hX hbl hbA hS hin1 dL_law_206 ?_
  refine lv_aload_n hx_ hb dL_law_207 rfl (lv_at hl 2 rfl) ?_
  refine lv_iload hx_ hb dL_law_208 (lv_at hl 1 rfl) ?_
  refine lv_iconst (v := 2) hx_ hb dL_law_210 (by decide) ?_
  refine lv_iadd hx_ hb dL_law_211 ?_
  refine va_sld hx_ hb hX hbl hbA hS hin2 dL_law_212 ?_
  refine lv_aload_n hx_ hb dL_law_213 rfl (lv_at hl 2 rfl) ?_
  refine lv_iload hx_ hb dL_law_214 (lv_at hl 1 rfl) ?_
  refine lv_iconst (v := 3) hx_ hb dL_law_216 (by decide) ?_
  refine lv_iadd hx_ hb dL_law_217 ?_
  refine va_sld hx_ hb hX hbl hbA hS hin3 dL_law_218 ?_
  refine xc_call (wc := mw hm a cA (B, N)) (wr := lh hx hc hh ho cJ (q', o')) (st1 := [.int r]) (va_runV (As := [.int (xs (nI (4 * j) + 1).toNatClampNeg), .int (xs (nI (4 * j) + 2).toNatClampNeg), .int (xs (nI (4 * j) + 3).toNatClampNeg)]) (rest := []) ⟨hx_, hb, hml, hown, hts⟩ (hO H.size) (cwV 3 hts (gd_V wl_c k_ml_L_56 k_im_X2_write k_se_X2_write k_in_X2 k_co_X2_write) rfl rfl rfl (by decide +kernel) ⟨Nat.le_of_ble_eq_true rfl, Nat.le_of_ble_eq_true rfl⟩) (xc_preV (q0 := 0) (C := RX2) (hK.sub (tys' := mtys cA) [0, 1, 2, 3, 4, 5, 6, 7, 8, 9] rfl) (hP.sub (ws' := mw hm a cA (B, N)) [4, 5, 6, 7, 8, 9, 10, 11, 12, 13, 14] rfl) (hD.sub (ws' := mw hm a cA (B, N)) [4, 5, 6, 7, 8, 9, 10, 11, 12, 13, 14] (by decide) rfl) (hZ.sub (zl' := []) (fun _ h => by cases h)) rfl rfl) rfl rfl hl.1 rfl (lv_room (Nat.le_of_ble_eq_true rfl)) dL_law_219 ⟨hcells, hslots⟩) hP hD hS hA [4, 5, 6, 7, 8, 9, 10, 11, 12, 13, 14] [0, 1, 2, 3] rfl rfl (by decide) (by decide) rfl (fun H locs hP hD hS _ => ?_)
  refine lv_istore (lv' := (6, .int r) :: (5, .int k) :: ll b hx hm ho j) hx_ hb dL_law_222 hl (by decide) rfl (fun ls hl => ?_)
  refine lv_aload_n hx_ hb dL_law_224 rfl (lv_at hl 5 rfl) ?_
  refine xr_call (st1 := [.int (nI (N' 4 0))]) (W.runV (As := []) (rest := []) ⟨hx_, hb, hml, hown, hts⟩ (c2_thrown l dC dI hm a cA B' N') (cwV 0 hts (gd_V wl_c k_ml_L_49 k_im_X2_thrown k_se_X2_thrown k_in_X2 k_co_X2_thrown) rfl rfl rfl (by decide +kernel) ⟨Nat.le_of_ble_eq_true rfl, Nat.le_of_ble_eq_true rfl⟩) (xr_preV (q0 := 0) (C := RX2) (hK.sub (tys' := mtys cA) [0, 1, 2, 3, 4, 5, 6, 7, 8, 9] rfl) (hP.sub (ws' := mw hm a cA (B', N')) [4, 5, 6, 7, 8, 9, 10, 11, 12, 13, 14] rfl) (hZ.sub (zl' := []) (fun _ h => by cases h)) rfl rfl) rfl rfl hl.1 rfl (lv_room (Nat.le_of_ble_eq_true rfl)) dL_law_225 ⟨hcells, hslots⟩) rfl ?_
  refine lv_iload hx_ hb dL_law_228 (lv_at hl 1 rfl) ?_
  refine lv_icmp_eq (tgt := 235) hx_ hb dL_law_230 (by decide) (fun _ => ?_) (fun h => (h hk).elim)
  have kend : W p l e room_1 s m #[Value.ref b] below meth c H locs (cells + 1) (slots + 6) Q (F0 m 259 ls []) := by
    refine lv_goto (tgt := 598) hx_ hb dL_law_259 (by decide) ?_
    exact kk ls H locs (q', o') (B', N') (lv_sub hl [2, 3, 4, 5, 6] rfl) hP hD hS hR'
  refine lv_iload hx_ hb dL_law_235 (lv_at hl 1 rfl) ?_
  refine lv_if_ne (tgt := 259) hx_ hb dL_law_237 (by decide) (fun _ => kend) (fun h0 => ?_)
  have hv := hv h0
  refine lv_aload_n hx_ hb dL_law_240 rfl (lv_at hl 6 rfl) ?_
  refine lv_iconst (v := 0) hx_ hb dL_law_241 (by decide) ?_
  refine va_lald hx_ hb hK hP 3 10 rfl rfl (vp_in_nI (n := 0) (N := 1) (by decide) (by decide)) dL_law_242 ?_
  refine lv_iload hx_ hb dL_law_243 (lv_at hl 0 rfl) ?_
  refine lv_if_eq (tgt := 252) hx_ hb dL_law_245 (by decide) (fun h1 => ?_) (fun h1 => ?_)
  · refine lv_lconst (v := 0) hx_ hb dL_law_252 (by decide) ?_
    refine W.lcmp hx_ hb dL_law_253 ?_
    refine lv_if_eq (tgt := 259) hx_ hb dL_law_254 (by decide) (fun _ => kend) (fun h => (h ?_).elim)
    rw [lc_0]; show lg_cmp (o' 0) _ = 0; rw [show o' 0 = 0 from hv.trans (if_pos h1)]; exact lg_same _
  · refine lv_lconst (v := 1) hx_ hb dL_law_248 (by decide) ?_
    refine lv_goto (tgt := 253) hx_ hb dL_law_249 (by decide) ?_
    refine W.lcmp hx_ hb dL_law_253 ?_
    refine lv_if_eq (tgt := 259) hx_ hb dL_law_254 (by decide) (fun _ => kend) (fun h => (h ?_).elim)
    rw [lc_0]; show lg_cmp (o' 0) _ = 0; rw [show o' 0 = 1 from hv.trans (if_neg h1)]; exact lg_same _
set_option maxHeartbeats 4000000 in
set_option maxRecDepth 100000 in
theorem law_read (l : Launch) (htr : l.stackTraces = false) {p : Program} {e : Env} {s : State} {m : MethodId} {below : List Frame} {meth : Method} {c : Code} {b L : Nat} {xs : Nat → Int32} (dC : Nat → ClassId) (dI : Nat → Nat → Nat) (hx hc hh ho : Nat) (cJ : ClassId) (hm : Nat) (a : Nat → Nat) (cA : Nat → ClassId) (E : Lx p s m c b L xs (dC, dI) (wt cA cJ)) {Q : State → Prop} {ls : Array Slot} {H : Heap} {locs : List Loc} {cells slots j : Nat} (hj : 4 * j + 4 ≤ L) (hl : lv_has ls 7 (ll b hx hm ho j)) (q : PS) (o : Nat → Int64) (z : (Nat → Nat → Bool) × (Nat → Nat → Nat)) (hP : va_P (dC, dI) vwCl (ww hx hc hh ho cJ hm a cA (q, o) z) H) (hD : va_D (lA s) (ww hx hc hh ho cJ hm a cA (q, o) z)) (hS : va_S (lA s) s.heap H locs) (hR : Rp q z.1 z.2) (hcells : cells + 1 ≤ room_1.cells) (hslots : slots + 6 ≤ room_1.slots) (kk : ∀ (ls : Array Slot) (H : Heap) (locs : List Loc) (g : PS × (Nat → Int64)) (z : (Nat → Nat → Bool) × (Nat → Nat → Nat)), lv_has ls 7 (ll b hx hm ho j) → va_P (dC, dI) vwCl (ww hx hc hh ho cJ hm a cA g z) H → va_D (lA s) (ww hx hc hh ho cJ hm a cA g z) → va_S (lA s) s.heap H locs → Rp g.1 z.1 z.2 → W p l e room_1 s m #[Value.ref b] below meth c H locs (cells + 1) (slots + 6) Q (F0 m 598 ls [])) : W p l e room_1 s m #[Value.ref b] below meth c H locs cells slots Q (F0 m 262 ls []) := by
  obtain ⟨hx_, hb, hml, hown, hts, hX, hbl, hK, hZ, hT, hN, hL⟩ := E
  obtain ⟨u0, u1, ea⟩ := q
  obtain ⟨B, N⟩ := z
  have hA : ∀ q : Nat, s.heap.size ≤ q → lA s q := fun _ h => h
  have hbA : ¬ lA s b := Nat.not_le.mpr hbl
  have hlo : ∀ q : Nat, q < s.heap.size → ¬ lA s q := fun _ h => Nat.not_le.mpr h
  have hin1 : vp_in (nI (4 * j) + 1) L := by rw [show nI (4 * j) + 1 = nI (4 * j + 1) from nI_add _ 1]; exact vp_in_nI (by omega) (by omega)
  have hin2 : vp_in (nI (4 * j) + 2) L := by rw [show nI (4 * j) + 2 = nI (4 * j + 2) from nI_add _ 2]; exact vp_in_nI (by omega) (by omega)
  have hin3 : vp_in (nI (4 * j) + 3) L := by rw [show nI (4 * j) + 3 = nI (4 * j + 3) from nI_add _ 3]; exact vp_in_nI (by omega) (by omega)
  obtain ⟨k, g, r, z', hH, hO, hk, hv, hR'⟩ := pk_read l htr dC dI hx hc hh ho cJ hm a cA u0 u1 ea o B N hR (xs (nI (4 * j) + 1).toNatClampNeg) (xs (nI (4 * j) + 2).toNatClampNeg)
  obtain ⟨q', o'⟩ := g
  obtain ⟨B', N'⟩ := z'
  refine lv_aload_n hx_ hb dL_law_262 rfl (lv_at hl 2 rfl) ?_
  refine lv_aload_n hx_ hb dL_law_263 rfl (lv_at hl 1 rfl) ?_
  refine lv_iload hx_ hb dL_law_264 (lv_at hl 0 rfl) ?_
  refine lv_iconst (v := 1) hx_ hb dL_law_266 (by decide) ?_
  refine lv_iadd hx_ hb dL_law_267 ?_
  refine va_sld hx_ hb hX hbl hbA hS hin1 dL_law_268 ?_
  refine lv_aload_n hx_ hb dL_law_269 rfl (lv_at hl 1 rfl) ?_
  refine lv_iload hx_ hb dL_law_270 (lv_at hl 0 rfl) ?_
  refine lv_iconst (v := 2) hx_ hb dL_law_272 (by decide) ?_
  refine lv_iadd hx_ hb dL_law_273 ?_
  refine va_sld hx_ hb hX hbl hbA hS hin2 dL_law_274 ?_
  refine lv_aload_n hx_ hb dL_law_275 rfl (lv_at hl 4 rfl) ?_
  refine xc_call (wc := lh hx hc hh ho cJ ((u0, u1, ea), o)) (wr := mw hm a cA (B, N)) (st1 := [.int k]) (xw_runS (As := [.ref hx, .int (xs (nI (4 * j) + 1).toNatClampNeg), .int (xs (nI (4 * j) + 2).toNatClampNeg), .ref ho]) (rest := []) ⟨hx_, hb, hml, hown, hts⟩ (hH H.size) (wl_xw (n := 4) hts k_ml_L_57 k_st_L_read k_co_L_read rfl (by decide +kernel) ⟨Nat.le_of_ble_eq_true rfl, Nat.le_of_ble_eq_true rfl⟩ ⟨rfl, rfl⟩) (xh_preS (hK.sub (tys' := [(cJ, .long)]) [10] rfl) (hP.sub (ws' := lh hx hc hh ho cJ ((u0, u1, ea), o)) [0, 1, 2, 3] rfl) (hD.sub (ws' := lh hx hc hh ho cJ ((u0, u1, ea), o)) [0, 1, 2, 3] (by decide) rfl) hZ hT hN (fun q hq => hS.2.1 q hq (hlo q hq))) rfl rfl hl.1 rfl (lv_room (Nat.le_of_ble_eq_true rfl)) dL_law_276 ⟨hcells, hslots⟩) hP hD hS hA [0, 1, 2, 3] [4, 5, 6, 7, 8, 9, 10, 11, 12, 13, 14] rfl rfl (by decide) (by decide) rfl (fun H locs hP hD hS _ => ?_)
  have hP := hP.sub (ws' := ww hx hc hh ho cJ hm a cA (q', o') (B, N)) [11, 12, 13, 14, 0, 1, 2, 3, 4, 5, 6, 7, 8, 9, 10] rfl
  have hD := hD.sub (ws' := ww hx hc hh ho cJ hm a cA (q', o') (B, N)) [11, 12, 13, 14, 0, 1, 2, 3, 4, 5, 6, 7, 8, 9, 10] (by decide) rfl
  refine lv_istore (lv' := (5, .int k) :: ll b hx hm ho j) hx_ hb dL_law_279 hl (by decide) rfl (fun ls hl => ?_)
  refine lv_aload_n hx_ hb dL_law_281 rfl (lv_at hl 4 rfl) ?_
  refine lv_aload_n hx_ hb dL_law_282 rfl (lv_at hl 2 rfl) ?_
  refine lv_iload hx_ hb dL_law_283 (lv_at hl 1 rfl) ?_
  refine lv_iconst (v := 1) hx_ hb dL_law_285 (by decide) ?_
  refine lv_iadd hx_ hb dL_law_286 ?_
  refine va_sld hx_ hb hX hbl hbA hS hin1 dL_law_287 ?_
  refine lv_aload_n hx_ hb dL_law_288 rfl (lv_at hl 2 rfl) ?_
  refine lv_iload hx_ hb dL_law_289 (lv_at hl 1 rfl) ?_
  refine lv_iconst (v := 2) hx_ hb dL_law_291 (by decide) ?_
  refine lv_iadd hx_ hb dL_law_292 ?_
  refine va_sld hx_ hb hX hbl hbA hS hin2 dL_law_293 ?_
  refine xc_call (wc := mw hm a cA (B, N)) (wr := lh hx hc hh ho cJ (q', o')) (st1 := [.int r]) (va_runV (As := [.int (xs (nI (4 * j) + 1).toNatClampNeg), .int (xs (nI (4 * j) + 2).toNatClampNeg)]) (rest := []) ⟨hx_, hb, hml, hown, hts⟩ (hO H.size) (cwV 2 hts (gd_V wl_c k_ml_L_60 k_im_X2_read k_se_X2_read k_in_X2 k_co_X2_read) rfl rfl rfl (by decide +kernel) ⟨Nat.le_of_ble_eq_true rfl, Nat.le_of_ble_eq_true rfl⟩) (xc_preV (q0 := 0) (C := RX2) (hK.sub (tys' := mtys cA) [0, 1, 2, 3, 4, 5, 6, 7, 8, 9] rfl) (hP.sub (ws' := mw hm a cA (B, N)) [4, 5, 6, 7, 8, 9, 10, 11, 12, 13, 14] rfl) (hD.sub (ws' := mw hm a cA (B, N)) [4, 5, 6, 7, 8, 9, 10, 11, 12, 13, 14] (by decide) rfl) (hZ.sub (zl' := []) (fun _ h => by cases h)) rfl rfl) rfl rfl hl.1 rfl (lv_room (Nat.le_of_ble_eq_true rfl)) dL_law_294 ⟨hcells, hslots⟩) hP hD hS hA [4, 5, 6, 7, 8, 9, 10, 11, 12, 13, 14] [0, 1, 2, 3] rfl rfl (by decide) (by decide) rfl (fun H locs hP hD hS _ => ?_)
  refine lv_istore (lv' := (6, .int r) :: (5, .int k) :: ll b hx hm ho j) hx_ hb dL_law_297 hl (by decide) rfl (fun ls hl => ?_)
  refine lv_aload_n hx_ hb dL_law_299 rfl (lv_at hl 5 rfl) ?_
  refine xr_call (st1 := [.int (nI (N' 4 0))]) (W.runV (As := []) (rest := []) ⟨hx_, hb, hml, hown, hts⟩ (c2_thrown l dC dI hm a cA B' N') (cwV 0 hts (gd_V wl_c k_ml_L_49 k_im_X2_thrown k_se_X2_thrown k_in_X2 k_co_X2_thrown) rfl rfl rfl (by decide +kernel) ⟨Nat.le_of_ble_eq_true rfl, Nat.le_of_ble_eq_true rfl⟩) (xr_preV (q0 := 0) (C := RX2) (hK.sub (tys' := mtys cA) [0, 1, 2, 3, 4, 5, 6, 7, 8, 9] rfl) (hP.sub (ws' := mw hm a cA (B', N')) [4, 5, 6, 7, 8, 9, 10, 11, 12, 13, 14] rfl) (hZ.sub (zl' := []) (fun _ h => by cases h)) rfl rfl) rfl rfl hl.1 rfl (lv_room (Nat.le_of_ble_eq_true rfl)) dL_law_300 ⟨hcells, hslots⟩) rfl ?_
  refine lv_iload hx_ hb dL_law_303 (lv_at hl 1 rfl) ?_
  refine lv_icmp_eq (tgt := 310) hx_ hb dL_law_305 (by decide) (fun _ => ?_) (fun h => (h hk).elim)
  have kend : W p l e room_1 s m #[Value.ref b] below meth c H locs (cells + 1) (slots + 6) Q (F0 m 327 ls []) := by
    refine lv_goto (tgt := 598) hx_ hb dL_law_327 (by decide) ?_
    exact kk ls H locs (q', o') (B', N') (lv_sub hl [2, 3, 4, 5, 6] rfl) hP hD hS hR'
  refine lv_iload hx_ hb dL_law_310 (lv_at hl 1 rfl) ?_
  refine lv_if_ne (tgt := 327) hx_ hb dL_law_312 (by decide) (fun _ => kend) (fun h0 => ?_)
  have hv := hv h0
  refine lv_aload_n hx_ hb dL_law_315 rfl (lv_at hl 6 rfl) ?_
  refine lv_iconst (v := 0) hx_ hb dL_law_316 (by decide) ?_
  refine va_lald hx_ hb hK hP 3 10 rfl rfl (vp_in_nI (n := 0) (N := 1) (by decide) (by decide)) dL_law_317 ?_
  refine lv_iload hx_ hb dL_law_318 (lv_at hl 0 rfl) ?_
  refine lv_i2l hx_ hb dL_law_320 rfl ?_
  refine W.lcmp hx_ hb dL_law_321 ?_
  refine lv_if_eq (tgt := 327) hx_ hb dL_law_322 (by decide) (fun _ => kend) (fun h => (h ?_).elim)
  rw [lc_0]; show lg_cmp (o' 0) _ = 0; rw [show o' 0 = r.toInt64 from hv]; exact lg_same _
set_option maxHeartbeats 4000000 in
set_option maxRecDepth 100000 in
theorem law_take (l : Launch) (htr : l.stackTraces = false) {p : Program} {e : Env} {s : State} {m : MethodId} {below : List Frame} {meth : Method} {c : Code} {b L : Nat} {xs : Nat → Int32} (dC : Nat → ClassId) (dI : Nat → Nat → Nat) (hx hc hh ho : Nat) (cJ : ClassId) (hm : Nat) (a : Nat → Nat) (cA : Nat → ClassId) (E : Lx p s m c b L xs (dC, dI) (wt cA cJ)) {Q : State → Prop} {ls : Array Slot} {H : Heap} {locs : List Loc} {cells slots j : Nat} (hj : 4 * j + 4 ≤ L) (hl : lv_has ls 7 (ll b hx hm ho j)) (q : PS) (o : Nat → Int64) (z : (Nat → Nat → Bool) × (Nat → Nat → Nat)) (hP : va_P (dC, dI) vwCl (ww hx hc hh ho cJ hm a cA (q, o) z) H) (hD : va_D (lA s) (ww hx hc hh ho cJ hm a cA (q, o) z)) (hS : va_S (lA s) s.heap H locs) (hR : Rp q z.1 z.2) (hcells : cells + 1 ≤ room_1.cells) (hslots : slots + 6 ≤ room_1.slots) (kk : ∀ (ls : Array Slot) (H : Heap) (locs : List Loc) (g : PS × (Nat → Int64)) (z : (Nat → Nat → Bool) × (Nat → Nat → Nat)), lv_has ls 7 (ll b hx hm ho j) → va_P (dC, dI) vwCl (ww hx hc hh ho cJ hm a cA g z) H → va_D (lA s) (ww hx hc hh ho cJ hm a cA g z) → va_S (lA s) s.heap H locs → Rp g.1 z.1 z.2 → W p l e room_1 s m #[Value.ref b] below meth c H locs (cells + 1) (slots + 6) Q (F0 m 598 ls [])) : W p l e room_1 s m #[Value.ref b] below meth c H locs cells slots Q (F0 m 330 ls []) := by
  obtain ⟨hx_, hb, hml, hown, hts, hX, hbl, hK, hZ, hT, hN, hL⟩ := E
  obtain ⟨u0, u1, ea⟩ := q
  obtain ⟨B, N⟩ := z
  have hA : ∀ q : Nat, s.heap.size ≤ q → lA s q := fun _ h => h
  have hbA : ¬ lA s b := Nat.not_le.mpr hbl
  have hlo : ∀ q : Nat, q < s.heap.size → ¬ lA s q := fun _ h => Nat.not_le.mpr h
  have hin1 : vp_in (nI (4 * j) + 1) L := by rw [show nI (4 * j) + 1 = nI (4 * j + 1) from nI_add _ 1]; exact vp_in_nI (by omega) (by omega)
  have hin2 : vp_in (nI (4 * j) + 2) L := by rw [show nI (4 * j) + 2 = nI (4 * j + 2) from nI_add _ 2]; exact vp_in_nI (by omega) (by omega)
  have hin3 : vp_in (nI (4 * j) + 3) L := by rw [show nI (4 * j) + 3 = nI (4 * j + 3) from nI_add _ 3]; exact vp_in_nI (by omega) (by omega)
  obtain ⟨r, q', z', hC, hO, hR'⟩ := pk_take l dC dI hx hc hh hm a cA u0 u1 ea B N hR
  obtain ⟨B', N'⟩ := z'
  refine lv_aload_n hx_ hb dL_law_330 rfl (lv_at hl 2 rfl) ?_
  refine xc_call (wc := pw hx hc hh (u0, u1, ea)) (wr := (ho, .inl (cJ, 1, .inr (.inl o))) :: mw hm a cA (B, N)) (st1 := [.int r]) (va_runV (As := []) (rest := []) ⟨hx_, hb, hml, hown, hts⟩ (hC H.size) (cwV 0 hts (gd_V wl_c k_ml_L_61 k_im_X0_take k_se_X0_take k_in_X0 k_co_X0_take) rfl rfl rfl (by decide +kernel) ⟨Nat.le_of_ble_eq_true rfl, Nat.le_of_ble_eq_true rfl⟩) (xc_preV (q0 := 0) (C := RX0) (hK.sub (tys' := []) [] rfl) (hP.sub (ws' := pw hx hc hh (u0, u1, ea)) [0, 1, 2] rfl) (hD.sub (ws' := pw hx hc hh (u0, u1, ea)) [0, 1, 2] (by decide) rfl) hZ rfl rfl) rfl rfl hl.1 rfl (lv_room (Nat.le_of_ble_eq_true rfl)) dL_law_331 ⟨Nat.le_of_succ_le hcells, by omega⟩) hP hD hS hA [0, 1, 2] [3, 4, 5, 6, 7, 8, 9, 10, 11, 12, 13, 14] rfl rfl (by decide) (by decide) rfl (fun H locs hP hD hS _ => ?_)
  have hP := hP.sub (ws' := ww hx hc hh ho cJ hm a cA (q', o) (B, N)) [12, 13, 14, 0, 1, 2, 3, 4, 5, 6, 7, 8, 9, 10, 11] rfl
  have hD := hD.sub (ws' := ww hx hc hh ho cJ hm a cA (q', o) (B, N)) [12, 13, 14, 0, 1, 2, 3, 4, 5, 6, 7, 8, 9, 10, 11] (by decide) rfl
  refine lv_aload_n hx_ hb dL_law_334 rfl (lv_at hl 3 rfl) ?_
  refine xc_call (wc := mw hm a cA (B, N)) (wr := lh hx hc hh ho cJ (q', o)) (st1 := [.int r, .int r]) (va_runV (As := []) (rest := [.int r]) ⟨hx_, hb, hml, hown, hts⟩ (hO H.size) (cwV 0 hts (gd_V wl_c k_ml_L_64 k_im_X2_take k_se_X2_take k_in_X2 k_co_X2_take) rfl rfl rfl (by decide +kernel) ⟨Nat.le_of_ble_eq_true rfl, Nat.le_of_ble_eq_true rfl⟩) (xc_preV (q0 := 0) (C := RX2) (hK.sub (tys' := mtys cA) [0, 1, 2, 3, 4, 5, 6, 7, 8, 9] rfl) (hP.sub (ws' := mw hm a cA (B, N)) [4, 5, 6, 7, 8, 9, 10, 11, 12, 13, 14] rfl) (hD.sub (ws' := mw hm a cA (B, N)) [4, 5, 6, 7, 8, 9, 10, 11, 12, 13, 14] (by decide) rfl) (hZ.sub (zl' := []) (fun _ h => by cases h)) rfl rfl) rfl rfl hl.1 rfl (lv_room (Nat.le_of_ble_eq_true rfl)) dL_law_335 ⟨Nat.le_of_succ_le hcells, by omega⟩) hP hD hS hA [4, 5, 6, 7, 8, 9, 10, 11, 12, 13, 14] [0, 1, 2, 3] rfl rfl (by decide) (by decide) rfl (fun H locs hP hD hS _ => ?_)
  refine lv_icmp_eq (tgt := 598) hx_ hb dL_law_338 (by decide) (fun _ => ?_) (fun h => (h rfl).elim)
  exact W.widen (k := cells + 1) (n := slots + 6) (by omega) (by omega) (kk ls H locs (q', o) (B', N') hl hP hD hS hR')
set_option maxHeartbeats 4000000 in
set_option maxRecDepth 100000 in
theorem law_delivers (l : Launch) (htr : l.stackTraces = false) {p : Program} {e : Env} {s : State} {m : MethodId} {below : List Frame} {meth : Method} {c : Code} {b L : Nat} {xs : Nat → Int32} (dC : Nat → ClassId) (dI : Nat → Nat → Nat) (hx hc hh ho : Nat) (cJ : ClassId) (hm : Nat) (a : Nat → Nat) (cA : Nat → ClassId) (E : Lx p s m c b L xs (dC, dI) (wt cA cJ)) {Q : State → Prop} {ls : Array Slot} {H : Heap} {locs : List Loc} {cells slots j : Nat} (hj : 4 * j + 4 ≤ L) (hl : lv_has ls 7 (ll b hx hm ho j)) (q : PS) (o : Nat → Int64) (z : (Nat → Nat → Bool) × (Nat → Nat → Nat)) (hP : va_P (dC, dI) vwCl (ww hx hc hh ho cJ hm a cA (q, o) z) H) (hD : va_D (lA s) (ww hx hc hh ho cJ hm a cA (q, o) z)) (hS : va_S (lA s) s.heap H locs) (hR : Rp q z.1 z.2) (hcells : cells + 1 ≤ room_1.cells) (hslots : slots + 6 ≤ room_1.slots) (kk : ∀ (ls : Array Slot) (H : Heap) (locs : List Loc) (g : PS × (Nat → Int64)) (z : (Nat → Nat → Bool) × (Nat → Nat → Nat)), lv_has ls 7 (ll b hx hm ho j) → va_P (dC, dI) vwCl (ww hx hc hh ho cJ hm a cA g z) H → va_D (lA s) (ww hx hc hh ho cJ hm a cA g z) → va_S (lA s) s.heap H locs → Rp g.1 z.1 z.2 → W p l e room_1 s m #[Value.ref b] below meth c H locs (cells + 1) (slots + 6) Q (F0 m 598 ls [])) : W p l e room_1 s m #[Value.ref b] below meth c H locs cells slots Q (F0 m 343 ls []) := by
  obtain ⟨hx_, hb, hml, hown, hts, hX, hbl, hK, hZ, hT, hN, hL⟩ := E
  obtain ⟨u0, u1, ea⟩ := q
  obtain ⟨B, N⟩ := z
  have hA : ∀ q : Nat, s.heap.size ≤ q → lA s q := fun _ h => h
  have hbA : ¬ lA s b := Nat.not_le.mpr hbl
  have hlo : ∀ q : Nat, q < s.heap.size → ¬ lA s q := fun _ h => Nat.not_le.mpr h
  have hin1 : vp_in (nI (4 * j) + 1) L := by rw [show nI (4 * j) + 1 = nI (4 * j + 1) from nI_add _ 1]; exact vp_in_nI (by omega) (by omega)
  have hin2 : vp_in (nI (4 * j) + 2) L := by rw [show nI (4 * j) + 2 = nI (4 * j + 2) from nI_add _ 2]; exact vp_in_nI (by omega) (by omega)
  have hin3 : vp_in (nI (4 * j) + 3) L := by rw [show nI (4 * j) + 3 = nI (4 * j + 3) from nI_add _ 3]; exact vp_in_nI (by omega) (by omega)
  obtain ⟨k, g, r, z', hH, hO, hk, hv, hR'⟩ := pk_delivers l htr dC dI hx hc hh ho cJ hm a cA u0 u1 ea o B N hR (xs (nI (4 * j) + 1).toNatClampNeg)
  obtain ⟨q', o'⟩ := g
  obtain ⟨B', N'⟩ := z'
  refine lv_aload_n hx_ hb dL_law_343 rfl (lv_at hl 2 rfl) ?_
  refine lv_aload_n hx_ hb dL_law_344 rfl (lv_at hl 1 rfl) ?_
  refine lv_iload hx_ hb dL_law_345 (lv_at hl 0 rfl) ?_
  refine lv_iconst (v := 1) hx_ hb dL_law_347 (by decide) ?_
  refine lv_iadd hx_ hb dL_law_348 ?_
  refine va_sld hx_ hb hX hbl hbA hS hin1 dL_law_349 ?_
  refine lv_aload_n hx_ hb dL_law_350 rfl (lv_at hl 4 rfl) ?_
  refine xc_call (wc := lh hx hc hh ho cJ ((u0, u1, ea), o)) (wr := mw hm a cA (B, N)) (st1 := [.int k]) (xw_runS (As := [.ref hx, .int (xs (nI (4 * j) + 1).toNatClampNeg), .ref ho]) (rest := []) ⟨hx_, hb, hml, hown, hts⟩ (hH H.size) (wl_xw (n := 3) hts k_ml_L_65 k_st_L_delivers k_co_L_delivers rfl (by decide +kernel) ⟨Nat.le_of_ble_eq_true rfl, Nat.le_of_ble_eq_true rfl⟩ ⟨rfl, rfl⟩) (xh_preS (hK.sub (tys' := [(cJ, .long)]) [10] rfl) (hP.sub (ws' := lh hx hc hh ho cJ ((u0, u1, ea), o)) [0, 1, 2, 3] rfl) (hD.sub (ws' := lh hx hc hh ho cJ ((u0, u1, ea), o)) [0, 1, 2, 3] (by decide) rfl) hZ hT hN (fun q hq => hS.2.1 q hq (hlo q hq))) rfl rfl hl.1 rfl (lv_room (Nat.le_of_ble_eq_true rfl)) dL_law_351 ⟨hcells, hslots⟩) hP hD hS hA [0, 1, 2, 3] [4, 5, 6, 7, 8, 9, 10, 11, 12, 13, 14] rfl rfl (by decide) (by decide) rfl (fun H locs hP hD hS _ => ?_)
  have hP := hP.sub (ws' := ww hx hc hh ho cJ hm a cA (q', o') (B, N)) [11, 12, 13, 14, 0, 1, 2, 3, 4, 5, 6, 7, 8, 9, 10] rfl
  have hD := hD.sub (ws' := ww hx hc hh ho cJ hm a cA (q', o') (B, N)) [11, 12, 13, 14, 0, 1, 2, 3, 4, 5, 6, 7, 8, 9, 10] (by decide) rfl
  refine lv_istore (lv' := (5, .int k) :: ll b hx hm ho j) hx_ hb dL_law_354 hl (by decide) rfl (fun ls hl => ?_)
  refine lv_aload_n hx_ hb dL_law_356 rfl (lv_at hl 4 rfl) ?_
  refine lv_aload_n hx_ hb dL_law_357 rfl (lv_at hl 2 rfl) ?_
  refine lv_iload hx_ hb dL_law_358 (lv_at hl 1 rfl) ?_
  refine lv_iconst (v := 1) hx_ hb dL_law_360 (by decide) ?_
  refine lv_iadd hx_ hb dL_law_361 ?_
  refine va_sld hx_ hb hX hbl hbA hS hin1 dL_law_362 ?_
  refine xc_call (wc := mw hm a cA (B, N)) (wr := lh hx hc hh ho cJ (q', o')) (st1 := [.int r]) (va_runV (As := [.int (xs (nI (4 * j) + 1).toNatClampNeg)]) (rest := []) ⟨hx_, hb, hml, hown, hts⟩ (hO H.size) (cwV 1 hts (gd_V wl_c k_ml_L_68 k_im_X2_delivers k_se_X2_delivers k_in_X2 k_co_X2_delivers) rfl rfl rfl (by decide +kernel) ⟨Nat.le_of_ble_eq_true rfl, Nat.le_of_ble_eq_true rfl⟩) (xc_preV (q0 := 0) (C := RX2) (hK.sub (tys' := mtys cA) [0, 1, 2, 3, 4, 5, 6, 7, 8, 9] rfl) (hP.sub (ws' := mw hm a cA (B, N)) [4, 5, 6, 7, 8, 9, 10, 11, 12, 13, 14] rfl) (hD.sub (ws' := mw hm a cA (B, N)) [4, 5, 6, 7, 8, 9, 10, 11, 12, 13, 14] (by decide) rfl) (hZ.sub (zl' := []) (fun _ h => by cases h)) rfl rfl) rfl rfl hl.1 rfl (lv_room (Nat.le_of_ble_eq_true rfl)) dL_law_363 ⟨hcells, hslots⟩) hP hD hS hA [4, 5, 6, 7, 8, 9, 10, 11, 12, 13, 14] [0, 1, 2, 3] rfl rfl (by decide) (by decide) rfl (fun H locs hP hD hS _ => ?_)
  refine lv_istore (lv' := (6, .int r) :: (5, .int k) :: ll b hx hm ho j) hx_ hb dL_law_366 hl (by decide) rfl (fun ls hl => ?_)
  refine lv_aload_n hx_ hb dL_law_368 rfl (lv_at hl 5 rfl) ?_
  refine xr_call (st1 := [.int (nI (N' 4 0))]) (W.runV (As := []) (rest := []) ⟨hx_, hb, hml, hown, hts⟩ (c2_thrown l dC dI hm a cA B' N') (cwV 0 hts (gd_V wl_c k_ml_L_49 k_im_X2_thrown k_se_X2_thrown k_in_X2 k_co_X2_thrown) rfl rfl rfl (by decide +kernel) ⟨Nat.le_of_ble_eq_true rfl, Nat.le_of_ble_eq_true rfl⟩) (xr_preV (q0 := 0) (C := RX2) (hK.sub (tys' := mtys cA) [0, 1, 2, 3, 4, 5, 6, 7, 8, 9] rfl) (hP.sub (ws' := mw hm a cA (B', N')) [4, 5, 6, 7, 8, 9, 10, 11, 12, 13, 14] rfl) (hZ.sub (zl' := []) (fun _ h => by cases h)) rfl rfl) rfl rfl hl.1 rfl (lv_room (Nat.le_of_ble_eq_true rfl)) dL_law_369 ⟨hcells, hslots⟩) rfl ?_
  refine lv_iload hx_ hb dL_law_372 (lv_at hl 1 rfl) ?_
  refine lv_icmp_eq (tgt := 379) hx_ hb dL_law_374 (by decide) (fun _ => ?_) (fun h => (h hk).elim)
  have kend : W p l e room_1 s m #[Value.ref b] below meth c H locs (cells + 1) (slots + 6) Q (F0 m 396 ls []) := by
    refine lv_goto (tgt := 598) hx_ hb dL_law_396 (by decide) ?_
    exact kk ls H locs (q', o') (B', N') (lv_sub hl [2, 3, 4, 5, 6] rfl) hP hD hS hR'
  refine lv_iload hx_ hb dL_law_379 (lv_at hl 1 rfl) ?_
  refine lv_if_ne (tgt := 396) hx_ hb dL_law_381 (by decide) (fun _ => kend) (fun h0 => ?_)
  have hv := hv h0
  refine lv_aload_n hx_ hb dL_law_384 rfl (lv_at hl 6 rfl) ?_
  refine lv_iconst (v := 0) hx_ hb dL_law_385 (by decide) ?_
  refine va_lald hx_ hb hK hP 3 10 rfl rfl (vp_in_nI (n := 0) (N := 1) (by decide) (by decide)) dL_law_386 ?_
  refine lv_iload hx_ hb dL_law_387 (lv_at hl 0 rfl) ?_
  refine lv_i2l hx_ hb dL_law_389 rfl ?_
  refine W.lcmp hx_ hb dL_law_390 ?_
  refine lv_if_eq (tgt := 396) hx_ hb dL_law_391 (by decide) (fun _ => kend) (fun h => (h ?_).elim)
  rw [lc_0]; show lg_cmp (o' 0) _ = 0; rw [show o' 0 = r.toInt64 from hv]; exact lg_same _
set_option maxHeartbeats 4000000 in
set_option maxRecDepth 100000 in
theorem law_about (l : Launch) (htr : l.stackTraces = false) {p : Program} {e : Env} {s : State} {m : MethodId} {below : List Frame} {meth : Method} {c : Code} {b L : Nat} {xs : Nat → Int32} (dC : Nat → ClassId) (dI : Nat → Nat → Nat) (hx hc hh ho : Nat) (cJ : ClassId) (hm : Nat) (a : Nat → Nat) (cA : Nat → ClassId) (E : Lx p s m c b L xs (dC, dI) (wt cA cJ)) {Q : State → Prop} {ls : Array Slot} {H : Heap} {locs : List Loc} {cells slots j : Nat} (hj : 4 * j + 4 ≤ L) (hl : lv_has ls 7 (ll b hx hm ho j)) (q : PS) (o : Nat → Int64) (z : (Nat → Nat → Bool) × (Nat → Nat → Nat)) (hP : va_P (dC, dI) vwCl (ww hx hc hh ho cJ hm a cA (q, o) z) H) (hD : va_D (lA s) (ww hx hc hh ho cJ hm a cA (q, o) z)) (hS : va_S (lA s) s.heap H locs) (hR : Rp q z.1 z.2) (hcells : cells + 1 ≤ room_1.cells) (hslots : slots + 6 ≤ room_1.slots) (kk : ∀ (ls : Array Slot) (H : Heap) (locs : List Loc) (g : PS × (Nat → Int64)) (z : (Nat → Nat → Bool) × (Nat → Nat → Nat)), lv_has ls 7 (ll b hx hm ho j) → va_P (dC, dI) vwCl (ww hx hc hh ho cJ hm a cA g z) H → va_D (lA s) (ww hx hc hh ho cJ hm a cA g z) → va_S (lA s) s.heap H locs → Rp g.1 z.1 z.2 → W p l e room_1 s m #[Value.ref b] below meth c H locs (cells + 1) (slots + 6) Q (F0 m 598 ls [])) : W p l e room_1 s m #[Value.ref b] below meth c H locs cells slots Q (F0 m 399 ls []) := by
  obtain ⟨hx_, hb, hml, hown, hts, hX, hbl, hK, hZ, hT, hN, hL⟩ := E
  obtain ⟨u0, u1, ea⟩ := q
  obtain ⟨B, N⟩ := z
  have hA : ∀ q : Nat, s.heap.size ≤ q → lA s q := fun _ h => h
  have hbA : ¬ lA s b := Nat.not_le.mpr hbl
  have hlo : ∀ q : Nat, q < s.heap.size → ¬ lA s q := fun _ h => Nat.not_le.mpr h
  have hin1 : vp_in (nI (4 * j) + 1) L := by rw [show nI (4 * j) + 1 = nI (4 * j + 1) from nI_add _ 1]; exact vp_in_nI (by omega) (by omega)
  have hin2 : vp_in (nI (4 * j) + 2) L := by rw [show nI (4 * j) + 2 = nI (4 * j + 2) from nI_add _ 2]; exact vp_in_nI (by omega) (by omega)
  have hin3 : vp_in (nI (4 * j) + 3) L := by rw [show nI (4 * j) + 3 = nI (4 * j + 3) from nI_add _ 3]; exact vp_in_nI (by omega) (by omega)
  obtain ⟨k, g, r, z', hH, hO, hk, hv, hR'⟩ := pk_about l htr dC dI hx hc hh ho cJ hm a cA u0 u1 ea o B N hR (xs (nI (4 * j) + 1).toNatClampNeg) (xs (nI (4 * j) + 2).toNatClampNeg)
  obtain ⟨q', o'⟩ := g
  obtain ⟨B', N'⟩ := z'
  refine lv_aload_n hx_ hb dL_law_399 rfl (lv_at hl 2 rfl) ?_
  refine lv_aload_n hx_ hb dL_law_400 rfl (lv_at hl 1 rfl) ?_
  refine lv_iload hx_ hb dL_law_401 (lv_at hl 0 rfl) ?_
  refine lv_iconst (v := 1) hx_ hb dL_law_403 (by decide) ?_
  refine lv_iadd hx_ hb dL_law_404 ?_
  refine va_sld hx_ hb hX hbl hbA hS hin1 dL_law_405 ?_
  refine lv_aload_n hx_ hb dL_law_406 rfl (lv_at hl 1 rfl) ?_
  refine lv_iload hx_ hb dL_law_407 (lv_at hl 0 rfl) ?_
  refine lv_iconst (v := 2) hx_ hb dL_law_409 (by decide) ?_
  refine lv_iadd hx_ hb dL_law_410 ?_
  refine va_sld hx_ hb hX hbl hbA hS hin2 dL_law_411 ?_
  refine lv_aload_n hx_ hb dL_law_412 rfl (lv_at hl 4 rfl) ?_
  refine xc_call (wc := lh hx hc hh ho cJ ((u0, u1, ea), o)) (wr := mw hm a cA (B, N)) (st1 := [.int k]) (xw_runS (As := [.ref hx, .int (xs (nI (4 * j) + 1).toNatClampNeg), .int (xs (nI (4 * j) + 2).toNatClampNeg), .ref ho]) (rest := []) ⟨hx_, hb, hml, hown, hts⟩ (hH H.size) (wl_xw (n := 4) hts k_ml_L_69 k_st_L_about k_co_L_about rfl (by decide +kernel) ⟨Nat.le_of_ble_eq_true rfl, Nat.le_of_ble_eq_true rfl⟩ ⟨rfl, rfl⟩) (xh_preS (hK.sub (tys' := [(cJ, .long)]) [10] rfl) (hP.sub (ws' := lh hx hc hh ho cJ ((u0, u1, ea), o)) [0, 1, 2, 3] rfl) (hD.sub (ws' := lh hx hc hh ho cJ ((u0, u1, ea), o)) [0, 1, 2, 3] (by decide) rfl) hZ hT hN (fun q hq => hS.2.1 q hq (hlo q hq))) rfl rfl hl.1 rfl (lv_room (Nat.le_of_ble_eq_true rfl)) dL_law_413 ⟨hcells, hslots⟩) hP hD hS hA [0, 1, 2, 3] [4, 5, 6, 7, 8, 9, 10, 11, 12, 13, 14] rfl rfl (by decide) (by decide) rfl (fun H locs hP hD hS _ => ?_)
  have hP := hP.sub (ws' := ww hx hc hh ho cJ hm a cA (q', o') (B, N)) [11, 12, 13, 14, 0, 1, 2, 3, 4, 5, 6, 7, 8, 9, 10] rfl
  have hD := hD.sub (ws' := ww hx hc hh ho cJ hm a cA (q', o') (B, N)) [11, 12, 13, 14, 0, 1, 2, 3, 4, 5, 6, 7, 8, 9, 10] (by decide) rfl
  refine lv_istore (lv' := (5, .int k) :: ll b hx hm ho j) hx_ hb dL_law_416 hl (by decide) rfl (fun ls hl => ?_)
  refine lv_aload_n hx_ hb dL_law_418 rfl (lv_at hl 4 rfl) ?_
  refine lv_aload_n hx_ hb dL_law_419 rfl (lv_at hl 2 rfl) ?_
  refine lv_iload hx_ hb dL_law_420 (lv_at hl 1 rfl) ?_
  refine lv_iconst (v := 1) hx_ hb dL_law_422 (by decide) ?_
  refine lv_iadd hx_ hb dL_law_423 ?_
  refine va_sld hx_ hb hX hbl hbA hS hin1 dL_law_424 ?_
  refine lv_aload_n hx_ hb dL_law_425 rfl (lv_at hl 2 rfl) ?_
  refine lv_iload hx_ hb dL_law_426 (lv_at hl 1 rfl) ?_
  refine lv_iconst (v := 2) hx_ hb dL_law_428 (by decide) ?_
  refine lv_iadd hx_ hb dL_law_429 ?_
  refine va_sld hx_ hb hX hbl hbA hS hin2 dL_law_430 ?_
  refine xc_call (wc := mw hm a cA (B, N)) (wr := lh hx hc hh ho cJ (q', o')) (st1 := [.int r]) (va_runV (As := [.int (xs (nI (4 * j) + 1).toNatClampNeg), .int (xs (nI (4 * j) + 2).toNatClampNeg)]) (rest := []) ⟨hx_, hb, hml, hown, hts⟩ (hO H.size) (cwV 2 hts (gd_V wl_c k_ml_L_71 k_im_X2_about k_se_X2_about k_in_X2 k_co_X2_about) rfl rfl rfl (by decide +kernel) ⟨Nat.le_of_ble_eq_true rfl, Nat.le_of_ble_eq_true rfl⟩) (xc_preV (q0 := 0) (C := RX2) (hK.sub (tys' := mtys cA) [0, 1, 2, 3, 4, 5, 6, 7, 8, 9] rfl) (hP.sub (ws' := mw hm a cA (B, N)) [4, 5, 6, 7, 8, 9, 10, 11, 12, 13, 14] rfl) (hD.sub (ws' := mw hm a cA (B, N)) [4, 5, 6, 7, 8, 9, 10, 11, 12, 13, 14] (by decide) rfl) (hZ.sub (zl' := []) (fun _ h => by cases h)) rfl rfl) rfl rfl hl.1 rfl (lv_room (Nat.le_of_ble_eq_true rfl)) dL_law_431 ⟨hcells, hslots⟩) hP hD hS hA [4, 5, 6, 7, 8, 9, 10, 11, 12, 13, 14] [0, 1, 2, 3] rfl rfl (by decide) (by decide) rfl (fun H locs hP hD hS _ => ?_)
  refine lv_istore (lv' := (6, .int r) :: (5, .int k) :: ll b hx hm ho j) hx_ hb dL_law_434 hl (by decide) rfl (fun ls hl => ?_)
  refine lv_aload_n hx_ hb dL_law_436 rfl (lv_at hl 5 rfl) ?_
  refine xr_call (st1 := [.int (nI (N' 4 0))]) (W.runV (As := []) (rest := []) ⟨hx_, hb, hml, hown, hts⟩ (c2_thrown l dC dI hm a cA B' N') (cwV 0 hts (gd_V wl_c k_ml_L_49 k_im_X2_thrown k_se_X2_thrown k_in_X2 k_co_X2_thrown) rfl rfl rfl (by decide +kernel) ⟨Nat.le_of_ble_eq_true rfl, Nat.le_of_ble_eq_true rfl⟩) (xr_preV (q0 := 0) (C := RX2) (hK.sub (tys' := mtys cA) [0, 1, 2, 3, 4, 5, 6, 7, 8, 9] rfl) (hP.sub (ws' := mw hm a cA (B', N')) [4, 5, 6, 7, 8, 9, 10, 11, 12, 13, 14] rfl) (hZ.sub (zl' := []) (fun _ h => by cases h)) rfl rfl) rfl rfl hl.1 rfl (lv_room (Nat.le_of_ble_eq_true rfl)) dL_law_437 ⟨hcells, hslots⟩) rfl ?_
  refine lv_iload hx_ hb dL_law_440 (lv_at hl 1 rfl) ?_
  refine lv_icmp_eq (tgt := 447) hx_ hb dL_law_442 (by decide) (fun _ => ?_) (fun h => (h hk).elim)
  have kend : W p l e room_1 s m #[Value.ref b] below meth c H locs (cells + 1) (slots + 6) Q (F0 m 464 ls []) := by
    refine lv_goto (tgt := 598) hx_ hb dL_law_464 (by decide) ?_
    exact kk ls H locs (q', o') (B', N') (lv_sub hl [2, 3, 4, 5, 6] rfl) hP hD hS hR'
  refine lv_iload hx_ hb dL_law_447 (lv_at hl 1 rfl) ?_
  refine lv_if_ne (tgt := 464) hx_ hb dL_law_449 (by decide) (fun _ => kend) (fun h0 => ?_)
  have hv := hv h0
  refine lv_aload_n hx_ hb dL_law_452 rfl (lv_at hl 6 rfl) ?_
  refine lv_iconst (v := 0) hx_ hb dL_law_453 (by decide) ?_
  refine va_lald hx_ hb hK hP 3 10 rfl rfl (vp_in_nI (n := 0) (N := 1) (by decide) (by decide)) dL_law_454 ?_
  refine lv_iload hx_ hb dL_law_455 (lv_at hl 0 rfl) ?_
  refine lv_i2l hx_ hb dL_law_457 rfl ?_
  refine W.lcmp hx_ hb dL_law_458 ?_
  refine lv_if_eq (tgt := 464) hx_ hb dL_law_459 (by decide) (fun _ => kend) (fun h => (h ?_).elim)
  rw [lc_0]; show lg_cmp (o' 0) _ = 0; rw [show o' 0 = r.toInt64 from hv]; exact lg_same _
set_option maxHeartbeats 4000000 in
set_option maxRecDepth 100000 in
theorem law_mode (l : Launch) (htr : l.stackTraces = false) {p : Program} {e : Env} {s : State} {m : MethodId} {below : List Frame} {meth : Method} {c : Code} {b L : Nat} {xs : Nat → Int32} (dC : Nat → ClassId) (dI : Nat → Nat → Nat) (hx hc hh ho : Nat) (cJ : ClassId) (hm : Nat) (a : Nat → Nat) (cA : Nat → ClassId) (E : Lx p s m c b L xs (dC, dI) (wt cA cJ)) {Q : State → Prop} {ls : Array Slot} {H : Heap} {locs : List Loc} {cells slots j : Nat} (hj : 4 * j + 4 ≤ L) (hl : lv_has ls 7 (ll b hx hm ho j)) (q : PS) (o : Nat → Int64) (z : (Nat → Nat → Bool) × (Nat → Nat → Nat)) (hP : va_P (dC, dI) vwCl (ww hx hc hh ho cJ hm a cA (q, o) z) H) (hD : va_D (lA s) (ww hx hc hh ho cJ hm a cA (q, o) z)) (hS : va_S (lA s) s.heap H locs) (hR : Rp q z.1 z.2) (hcells : cells + 1 ≤ room_1.cells) (hslots : slots + 6 ≤ room_1.slots) (kk : ∀ (ls : Array Slot) (H : Heap) (locs : List Loc) (g : PS × (Nat → Int64)) (z : (Nat → Nat → Bool) × (Nat → Nat → Nat)), lv_has ls 7 (ll b hx hm ho j) → va_P (dC, dI) vwCl (ww hx hc hh ho cJ hm a cA g z) H → va_D (lA s) (ww hx hc hh ho cJ hm a cA g z) → va_S (lA s) s.heap H locs → Rp g.1 z.1 z.2 → W p l e room_1 s m #[Value.ref b] below meth c H locs (cells + 1) (slots + 6) Q (F0 m 598 ls [])) : W p l e room_1 s m #[Value.ref b] below meth c H locs cells slots Q (F0 m 467 ls []) := by
  obtain ⟨hx_, hb, hml, hown, hts, hX, hbl, hK, hZ, hT, hN, hL⟩ := E
  obtain ⟨u0, u1, ea⟩ := q
  obtain ⟨B, N⟩ := z
  have hA : ∀ q : Nat, s.heap.size ≤ q → lA s q := fun _ h => h
  have hbA : ¬ lA s b := Nat.not_le.mpr hbl
  have hlo : ∀ q : Nat, q < s.heap.size → ¬ lA s q := fun _ h => Nat.not_le.mpr h
  have hin1 : vp_in (nI (4 * j) + 1) L := by rw [show nI (4 * j) + 1 = nI (4 * j + 1) from nI_add _ 1]; exact vp_in_nI (by omega) (by omega)
  have hin2 : vp_in (nI (4 * j) + 2) L := by rw [show nI (4 * j) + 2 = nI (4 * j + 2) from nI_add _ 2]; exact vp_in_nI (by omega) (by omega)
  have hin3 : vp_in (nI (4 * j) + 3) L := by rw [show nI (4 * j) + 3 = nI (4 * j + 3) from nI_add _ 3]; exact vp_in_nI (by omega) (by omega)
  obtain ⟨k, g, r, z', hH, hO, hk, hv, hR'⟩ := pk_mode l htr dC dI hx hc hh ho cJ hm a cA u0 u1 ea o B N hR (xs (nI (4 * j) + 1).toNatClampNeg) (xs (nI (4 * j) + 2).toNatClampNeg)
  obtain ⟨q', o'⟩ := g
  obtain ⟨B', N'⟩ := z'
  refine lv_aload_n hx_ hb dL_law_467 rfl (lv_at hl 2 rfl) ?_
  refine lv_aload_n hx_ hb dL_law_468 rfl (lv_at hl 1 rfl) ?_
  refine lv_iload hx_ hb dL_law_469 (lv_at hl 0 rfl) ?_
  refine lv_iconst (v := 1) hx_ hb dL_law_471 (by decide) ?_
  refine lv_iadd hx_ hb dL_law_472 ?_
  refine va_sld hx_ hb hX hbl hbA hS hin1 dL_law_473 ?_
  refine lv_aload_n hx_ hb dL_law_474 rfl (lv_at hl 1 rfl) ?_
  refine lv_iload hx_ hb dL_law_475 (lv_at hl 0 rfl) ?_
  refine lv_iconst (v := 2) hx_ hb dL_law_477 (by decide) ?_
  refine lv_iadd hx_ hb dL_law_478 ?_
  refine va_sld hx_ hb hX hbl hbA hS hin2 dL_law_479 ?_
  refine lv_aload_n hx_ hb dL_law_480 rfl (lv_at hl 4 rfl) ?_
  refine xc_call (wc := lh hx hc hh ho cJ ((u0, u1, ea), o)) (wr := mw hm a cA (B, N)) (st1 := [.int k]) (xw_runS (As := [.ref hx, .int (xs (nI (4 * j) + 1).toNatClampNeg), .int (xs (nI (4 * j) + 2).toNatClampNeg), .ref ho]) (rest := []) ⟨hx_, hb, hml, hown, hts⟩ (hH H.size) (wl_xw (n := 4) hts k_ml_L_72 k_st_L_mode k_co_L_mode rfl (by decide +kernel) ⟨Nat.le_of_ble_eq_true rfl, Nat.le_of_ble_eq_true rfl⟩ ⟨rfl, rfl⟩) (xh_preS (hK.sub (tys' := [(cJ, .long)]) [10] rfl) (hP.sub (ws' := lh hx hc hh ho cJ ((u0, u1, ea), o)) [0, 1, 2, 3] rfl) (hD.sub (ws' := lh hx hc hh ho cJ ((u0, u1, ea), o)) [0, 1, 2, 3] (by decide) rfl) hZ hT hN (fun q hq => hS.2.1 q hq (hlo q hq))) rfl rfl hl.1 rfl (lv_room (Nat.le_of_ble_eq_true rfl)) dL_law_481 ⟨hcells, hslots⟩) hP hD hS hA [0, 1, 2, 3] [4, 5, 6, 7, 8, 9, 10, 11, 12, 13, 14] rfl rfl (by decide) (by decide) rfl (fun H locs hP hD hS _ => ?_)
  have hP := hP.sub (ws' := ww hx hc hh ho cJ hm a cA (q', o') (B, N)) [11, 12, 13, 14, 0, 1, 2, 3, 4, 5, 6, 7, 8, 9, 10] rfl
  have hD := hD.sub (ws' := ww hx hc hh ho cJ hm a cA (q', o') (B, N)) [11, 12, 13, 14, 0, 1, 2, 3, 4, 5, 6, 7, 8, 9, 10] (by decide) rfl
  refine lv_istore (lv' := (5, .int k) :: ll b hx hm ho j) hx_ hb dL_law_484 hl (by decide) rfl (fun ls hl => ?_)
  refine lv_aload_n hx_ hb dL_law_486 rfl (lv_at hl 4 rfl) ?_
  refine lv_aload_n hx_ hb dL_law_487 rfl (lv_at hl 2 rfl) ?_
  refine lv_iload hx_ hb dL_law_488 (lv_at hl 1 rfl) ?_
  refine lv_iconst (v := 1) hx_ hb dL_law_490 (by decide) ?_
  refine lv_iadd hx_ hb dL_law_491 ?_
  refine va_sld hx_ hb hX hbl hbA hS hin1 dL_law_492 ?_
  refine lv_aload_n hx_ hb dL_law_493 rfl (lv_at hl 2 rfl) ?_
  refine lv_iload hx_ hb dL_law_494 (lv_at hl 1 rfl) ?_
  refine lv_iconst (v := 2) hx_ hb dL_law_496 (by decide) ?_
  refine lv_iadd hx_ hb dL_law_497 ?_
  refine va_sld hx_ hb hX hbl hbA hS hin2 dL_law_498 ?_
  refine xc_call (wc := mw hm a cA (B, N)) (wr := lh hx hc hh ho cJ (q', o')) (st1 := [.int r]) (va_runV (As := [.int (xs (nI (4 * j) + 1).toNatClampNeg), .int (xs (nI (4 * j) + 2).toNatClampNeg)]) (rest := []) ⟨hx_, hb, hml, hown, hts⟩ (hO H.size) (cwV 2 hts (gd_V wl_c k_ml_L_74 k_im_X2_mode k_se_X2_mode k_in_X2 k_co_X2_mode) rfl rfl rfl (by decide +kernel) ⟨Nat.le_of_ble_eq_true rfl, Nat.le_of_ble_eq_true rfl⟩) (xc_preV (q0 := 0) (C := RX2) (hK.sub (tys' := mtys cA) [0, 1, 2, 3, 4, 5, 6, 7, 8, 9] rfl) (hP.sub (ws' := mw hm a cA (B, N)) [4, 5, 6, 7, 8, 9, 10, 11, 12, 13, 14] rfl) (hD.sub (ws' := mw hm a cA (B, N)) [4, 5, 6, 7, 8, 9, 10, 11, 12, 13, 14] (by decide) rfl) (hZ.sub (zl' := []) (fun _ h => by cases h)) rfl rfl) rfl rfl hl.1 rfl (lv_room (Nat.le_of_ble_eq_true rfl)) dL_law_499 ⟨hcells, hslots⟩) hP hD hS hA [4, 5, 6, 7, 8, 9, 10, 11, 12, 13, 14] [0, 1, 2, 3] rfl rfl (by decide) (by decide) rfl (fun H locs hP hD hS _ => ?_)
  refine lv_istore (lv' := (6, .int r) :: (5, .int k) :: ll b hx hm ho j) hx_ hb dL_law_502 hl (by decide) rfl (fun ls hl => ?_)
  refine lv_aload_n hx_ hb dL_law_504 rfl (lv_at hl 5 rfl) ?_
  refine xr_call (st1 := [.int (nI (N' 4 0))]) (W.runV (As := []) (rest := []) ⟨hx_, hb, hml, hown, hts⟩ (c2_thrown l dC dI hm a cA B' N') (cwV 0 hts (gd_V wl_c k_ml_L_49 k_im_X2_thrown k_se_X2_thrown k_in_X2 k_co_X2_thrown) rfl rfl rfl (by decide +kernel) ⟨Nat.le_of_ble_eq_true rfl, Nat.le_of_ble_eq_true rfl⟩) (xr_preV (q0 := 0) (C := RX2) (hK.sub (tys' := mtys cA) [0, 1, 2, 3, 4, 5, 6, 7, 8, 9] rfl) (hP.sub (ws' := mw hm a cA (B', N')) [4, 5, 6, 7, 8, 9, 10, 11, 12, 13, 14] rfl) (hZ.sub (zl' := []) (fun _ h => by cases h)) rfl rfl) rfl rfl hl.1 rfl (lv_room (Nat.le_of_ble_eq_true rfl)) dL_law_505 ⟨hcells, hslots⟩) rfl ?_
  refine lv_iload hx_ hb dL_law_508 (lv_at hl 1 rfl) ?_
  refine lv_icmp_eq (tgt := 515) hx_ hb dL_law_510 (by decide) (fun _ => ?_) (fun h => (h hk).elim)
  have kend : W p l e room_1 s m #[Value.ref b] below meth c H locs (cells + 1) (slots + 6) Q (F0 m 539 ls []) := by
    refine lv_goto (tgt := 598) hx_ hb dL_law_539 (by decide) ?_
    exact kk ls H locs (q', o') (B', N') (lv_sub hl [2, 3, 4, 5, 6] rfl) hP hD hS hR'
  refine lv_iload hx_ hb dL_law_515 (lv_at hl 1 rfl) ?_
  refine lv_if_ne (tgt := 539) hx_ hb dL_law_517 (by decide) (fun _ => kend) (fun h0 => ?_)
  have hv := hv h0
  refine lv_aload_n hx_ hb dL_law_520 rfl (lv_at hl 6 rfl) ?_
  refine lv_iconst (v := 0) hx_ hb dL_law_521 (by decide) ?_
  refine va_lald hx_ hb hK hP 3 10 rfl rfl (vp_in_nI (n := 0) (N := 1) (by decide) (by decide)) dL_law_522 ?_
  refine lv_iload hx_ hb dL_law_523 (lv_at hl 0 rfl) ?_
  refine lv_if_eq (tgt := 532) hx_ hb dL_law_525 (by decide) (fun h1 => ?_) (fun h1 => ?_)
  · refine lv_lconst (v := 0) hx_ hb dL_law_532 (by decide) ?_
    refine W.lcmp hx_ hb dL_law_533 ?_
    refine lv_if_eq (tgt := 539) hx_ hb dL_law_534 (by decide) (fun _ => kend) (fun h => (h ?_).elim)
    rw [lc_0]; show lg_cmp (o' 0) _ = 0; rw [show o' 0 = 0 from hv.trans (if_pos h1)]; exact lg_same _
  · refine lv_lconst (v := 1) hx_ hb dL_law_528 (by decide) ?_
    refine lv_goto (tgt := 533) hx_ hb dL_law_529 (by decide) ?_
    refine W.lcmp hx_ hb dL_law_533 ?_
    refine lv_if_eq (tgt := 539) hx_ hb dL_law_534 (by decide) (fun _ => kend) (fun h => (h ?_).elim)
    rw [lc_0]; show lg_cmp (o' 0) _ = 0; rw [show o' 0 = 1 from hv.trans (if_neg h1)]; exact lg_same _
set_option maxHeartbeats 4000000 in
set_option maxRecDepth 100000 in
theorem law_count (l : Launch) (htr : l.stackTraces = false) {p : Program} {e : Env} {s : State} {m : MethodId} {below : List Frame} {meth : Method} {c : Code} {b L : Nat} {xs : Nat → Int32} (dC : Nat → ClassId) (dI : Nat → Nat → Nat) (hx hc hh ho : Nat) (cJ : ClassId) (hm : Nat) (a : Nat → Nat) (cA : Nat → ClassId) (E : Lx p s m c b L xs (dC, dI) (wt cA cJ)) {Q : State → Prop} {ls : Array Slot} {H : Heap} {locs : List Loc} {cells slots j : Nat} (hj : 4 * j + 4 ≤ L) (hl : lv_has ls 7 (ll b hx hm ho j)) (q : PS) (o : Nat → Int64) (z : (Nat → Nat → Bool) × (Nat → Nat → Nat)) (hP : va_P (dC, dI) vwCl (ww hx hc hh ho cJ hm a cA (q, o) z) H) (hD : va_D (lA s) (ww hx hc hh ho cJ hm a cA (q, o) z)) (hS : va_S (lA s) s.heap H locs) (hR : Rp q z.1 z.2) (hcells : cells + 1 ≤ room_1.cells) (hslots : slots + 6 ≤ room_1.slots) (kk : ∀ (ls : Array Slot) (H : Heap) (locs : List Loc) (g : PS × (Nat → Int64)) (z : (Nat → Nat → Bool) × (Nat → Nat → Nat)), lv_has ls 7 (ll b hx hm ho j) → va_P (dC, dI) vwCl (ww hx hc hh ho cJ hm a cA g z) H → va_D (lA s) (ww hx hc hh ho cJ hm a cA g z) → va_S (lA s) s.heap H locs → Rp g.1 z.1 z.2 → W p l e room_1 s m #[Value.ref b] below meth c H locs (cells + 1) (slots + 6) Q (F0 m 598 ls [])) : W p l e room_1 s m #[Value.ref b] below meth c H locs cells slots Q (F0 m 542 ls []) := by
  obtain ⟨hx_, hb, hml, hown, hts, hX, hbl, hK, hZ, hT, hN, hL⟩ := E
  obtain ⟨u0, u1, ea⟩ := q
  obtain ⟨B, N⟩ := z
  have hA : ∀ q : Nat, s.heap.size ≤ q → lA s q := fun _ h => h
  have hbA : ¬ lA s b := Nat.not_le.mpr hbl
  have hlo : ∀ q : Nat, q < s.heap.size → ¬ lA s q := fun _ h => Nat.not_le.mpr h
  have hin1 : vp_in (nI (4 * j) + 1) L := by rw [show nI (4 * j) + 1 = nI (4 * j + 1) from nI_add _ 1]; exact vp_in_nI (by omega) (by omega)
  have hin2 : vp_in (nI (4 * j) + 2) L := by rw [show nI (4 * j) + 2 = nI (4 * j + 2) from nI_add _ 2]; exact vp_in_nI (by omega) (by omega)
  have hin3 : vp_in (nI (4 * j) + 3) L := by rw [show nI (4 * j) + 3 = nI (4 * j + 3) from nI_add _ 3]; exact vp_in_nI (by omega) (by omega)
  obtain ⟨k, g, r, z', hH, hO, hk, hv, hR'⟩ := pk_count l htr dC dI hx hc hh ho cJ hm a cA u0 u1 ea o B N hR (xs (nI (4 * j) + 1).toNatClampNeg)
  obtain ⟨q', o'⟩ := g
  obtain ⟨B', N'⟩ := z'
  refine lv_aload_n hx_ hb dL_law_542 rfl (lv_at hl 2 rfl) ?_
  refine lv_aload_n hx_ hb dL_law_543 rfl (lv_at hl 1 rfl) ?_
  refine lv_iload hx_ hb dL_law_544 (lv_at hl 0 rfl) ?_
  refine lv_iconst (v := 1) hx_ hb dL_law_546 (by decide) ?_
  refine lv_iadd hx_ hb dL_law_547 ?_
  refine va_sld hx_ hb hX hbl hbA hS hin1 dL_law_548 ?_
  refine lv_aload_n hx_ hb dL_law_549 rfl (lv_at hl 4 rfl) ?_
  refine xc_call (wc := lh hx hc hh ho cJ ((u0, u1, ea), o)) (wr := mw hm a cA (B, N)) (st1 := [.int k]) (xw_runS (As := [.ref hx, .int (xs (nI (4 * j) + 1).toNatClampNeg), .ref ho]) (rest := []) ⟨hx_, hb, hml, hown, hts⟩ (hH H.size) (wl_xw (n := 3) hts k_ml_L_75 k_st_L_count k_co_L_count rfl (by decide +kernel) ⟨Nat.le_of_ble_eq_true rfl, Nat.le_of_ble_eq_true rfl⟩ ⟨rfl, rfl⟩) (xh_preS (hK.sub (tys' := [(cJ, .long)]) [10] rfl) (hP.sub (ws' := lh hx hc hh ho cJ ((u0, u1, ea), o)) [0, 1, 2, 3] rfl) (hD.sub (ws' := lh hx hc hh ho cJ ((u0, u1, ea), o)) [0, 1, 2, 3] (by decide) rfl) hZ hT hN (fun q hq => hS.2.1 q hq (hlo q hq))) rfl rfl hl.1 rfl (lv_room (Nat.le_of_ble_eq_true rfl)) dL_law_550 ⟨hcells, hslots⟩) hP hD hS hA [0, 1, 2, 3] [4, 5, 6, 7, 8, 9, 10, 11, 12, 13, 14] rfl rfl (by decide) (by decide) rfl (fun H locs hP hD hS _ => ?_)
  have hP := hP.sub (ws' := ww hx hc hh ho cJ hm a cA (q', o') (B, N)) [11, 12, 13, 14, 0, 1, 2, 3, 4, 5, 6, 7, 8, 9, 10] rfl
  have hD := hD.sub (ws' := ww hx hc hh ho cJ hm a cA (q', o') (B, N)) [11, 12, 13, 14, 0, 1, 2, 3, 4, 5, 6, 7, 8, 9, 10] (by decide) rfl
  refine lv_istore (lv' := (5, .int k) :: ll b hx hm ho j) hx_ hb dL_law_553 hl (by decide) rfl (fun ls hl => ?_)
  refine lv_aload_n hx_ hb dL_law_555 rfl (lv_at hl 4 rfl) ?_
  refine lv_aload_n hx_ hb dL_law_556 rfl (lv_at hl 2 rfl) ?_
  refine lv_iload hx_ hb dL_law_557 (lv_at hl 1 rfl) ?_
  refine lv_iconst (v := 1) hx_ hb dL_law_559 (by decide) ?_
  refine lv_iadd hx_ hb dL_law_560 ?_
  refine va_sld hx_ hb hX hbl hbA hS hin1 dL_law_561 ?_
  refine xc_call (wc := mw hm a cA (B, N)) (wr := lh hx hc hh ho cJ (q', o')) (st1 := [.int r]) (va_runV (As := [.int (xs (nI (4 * j) + 1).toNatClampNeg)]) (rest := []) ⟨hx_, hb, hml, hown, hts⟩ (hO H.size) (cwV 1 hts (gd_V wl_c k_ml_L_77 k_im_X2_count k_se_X2_count k_in_X2 k_co_X2_count) rfl rfl rfl (by decide +kernel) ⟨Nat.le_of_ble_eq_true rfl, Nat.le_of_ble_eq_true rfl⟩) (xc_preV (q0 := 0) (C := RX2) (hK.sub (tys' := mtys cA) [0, 1, 2, 3, 4, 5, 6, 7, 8, 9] rfl) (hP.sub (ws' := mw hm a cA (B, N)) [4, 5, 6, 7, 8, 9, 10, 11, 12, 13, 14] rfl) (hD.sub (ws' := mw hm a cA (B, N)) [4, 5, 6, 7, 8, 9, 10, 11, 12, 13, 14] (by decide) rfl) (hZ.sub (zl' := []) (fun _ h => by cases h)) rfl rfl) rfl rfl hl.1 rfl (lv_room (Nat.le_of_ble_eq_true rfl)) dL_law_562 ⟨hcells, hslots⟩) hP hD hS hA [4, 5, 6, 7, 8, 9, 10, 11, 12, 13, 14] [0, 1, 2, 3] rfl rfl (by decide) (by decide) rfl (fun H locs hP hD hS _ => ?_)
  refine lv_istore (lv' := (6, .int r) :: (5, .int k) :: ll b hx hm ho j) hx_ hb dL_law_565 hl (by decide) rfl (fun ls hl => ?_)
  refine lv_aload_n hx_ hb dL_law_567 rfl (lv_at hl 5 rfl) ?_
  refine xr_call (st1 := [.int (nI (N' 4 0))]) (W.runV (As := []) (rest := []) ⟨hx_, hb, hml, hown, hts⟩ (c2_thrown l dC dI hm a cA B' N') (cwV 0 hts (gd_V wl_c k_ml_L_49 k_im_X2_thrown k_se_X2_thrown k_in_X2 k_co_X2_thrown) rfl rfl rfl (by decide +kernel) ⟨Nat.le_of_ble_eq_true rfl, Nat.le_of_ble_eq_true rfl⟩) (xr_preV (q0 := 0) (C := RX2) (hK.sub (tys' := mtys cA) [0, 1, 2, 3, 4, 5, 6, 7, 8, 9] rfl) (hP.sub (ws' := mw hm a cA (B', N')) [4, 5, 6, 7, 8, 9, 10, 11, 12, 13, 14] rfl) (hZ.sub (zl' := []) (fun _ h => by cases h)) rfl rfl) rfl rfl hl.1 rfl (lv_room (Nat.le_of_ble_eq_true rfl)) dL_law_568 ⟨hcells, hslots⟩) rfl ?_
  refine lv_iload hx_ hb dL_law_571 (lv_at hl 1 rfl) ?_
  refine lv_icmp_eq (tgt := 578) hx_ hb dL_law_573 (by decide) (fun _ => ?_) (fun h => (h hk).elim)
  have kend : W p l e room_1 s m #[Value.ref b] below meth c H locs (cells + 1) (slots + 6) Q (F0 m 595 ls []) := by
    refine lv_goto (tgt := 598) hx_ hb dL_law_595 (by decide) ?_
    exact kk ls H locs (q', o') (B', N') (lv_sub hl [2, 3, 4, 5, 6] rfl) hP hD hS hR'
  refine lv_iload hx_ hb dL_law_578 (lv_at hl 1 rfl) ?_
  refine lv_if_ne (tgt := 595) hx_ hb dL_law_580 (by decide) (fun _ => kend) (fun h0 => ?_)
  have hv := hv h0
  refine lv_aload_n hx_ hb dL_law_583 rfl (lv_at hl 6 rfl) ?_
  refine lv_iconst (v := 0) hx_ hb dL_law_584 (by decide) ?_
  refine va_lald hx_ hb hK hP 3 10 rfl rfl (vp_in_nI (n := 0) (N := 1) (by decide) (by decide)) dL_law_585 ?_
  refine lv_iload hx_ hb dL_law_586 (lv_at hl 0 rfl) ?_
  refine lv_i2l hx_ hb dL_law_588 rfl ?_
  refine W.lcmp hx_ hb dL_law_589 ?_
  refine lv_if_eq (tgt := 595) hx_ hb dL_law_590 (by decide) (fun _ => kend) (fun h => (h ?_).elim)
  rw [lc_0]; show lg_cmp (o' 0) _ = 0; rw [show o' 0 = r.toInt64 from hv]; exact lg_same _
