set_option maxHeartbeats 4000000 in
set_option maxRecDepth 100000 in
theorem c2_begin (l : Launch) (dC : Nat → ClassId) (dI : Nat → Nat → Nat) (hm : Nat) (a : Nat → Nat) (cA : Nat → ClassId) (sz : Nat) (B : Nat → Nat → Bool) (N : Nat → Nat → Nat) (c : Nat) (w : Nat) (hc : c < 2) (hw : w < 256) : xc_M l yX2_begin wsX2_begin ({ frames := 0, cells := 0, slots := 0, locals := 0 }) [.ref hm, .int (nI c), .int (nI w)] sz (dC, dI) vwCl (mtys cA) [] (mw hm a cA (B, N)) none (mw hm a cA (mBegB B c w, mBegN N c)) 0 0 := by
  refine Met.ofW (cc := cX2_begin) (maxL := 4) (ret := none) (by decide) rfl ?_
  intro p e s m args below meth cd s₁ B₀ hml hv
  obtain ⟨rfl, hsz, hP, hK, hD0, hZ⟩ := hv
  have hx := B₀.exec
  have hb := B₀.bytes
  have hr := B₀.returns
  have hts := atoms_spec (ws := wsX2_begin) B₀.pre
  have hown : s.vm.findClass RX2 = some m.cls := findClass_of_methodNamed B₀.named
  have hlocks := B₀.notSynchronized
  subst hsz
  have hD := hD0.self (sz := s.heap.size)
  generalize hAe : va_A (mw hm a cA (B, N)) s.heap.size = A at hD ⊢
  have hA : ∀ q : Nat, s.heap.size ≤ q → A q := fun q h => by rw [← hAe]; exact Or.inr h
  have hS : va_S A s.heap s.heap [] := va_S.rf
  have hin_RX2 : ∀ w ∈ u_ws RX2 TX2 14, w ∈ wsX2_begin := fun w h => List.mem_cons_of_mem _ (u_X2 w h)
  have hlk_13 := hts _ (List.mem_cons_of_mem _ k_fl_X2_13)
  have hlk_16 := hts _ (List.mem_cons_of_mem _ k_fl_X2_16)
  have hlk_19 := hts _ (List.mem_cons_of_mem _ k_fl_X2_19)
  have hlk_22 := hts _ (List.mem_cons_of_mem _ k_fl_X2_22)
  have hlk_29 := hts _ (List.mem_cons_of_mem _ k_fl_X2_29)
  have hlk_32 := hts _ (List.mem_cons_of_mem _ k_fl_X2_32)
  have hlk_35 := hts _ (List.mem_cons_of_mem _ k_fl_X2_35)
  have hlk_38 := hts _ (List.mem_cons_of_mem _ k_fl_X2_38)
  have hl := lv_entry ([.ref hm, .int (nI c), .int (nI w)]) (n := 4) (Nat.le_of_ble_eq_true rfl)
  rw [lg_entry_eq]
  generalize (lg_sl ([.ref hm, .int (nI c), .int (nI w)]) ++ List.replicate (4 - (lg_sl ([.ref hm, .int (nI c), .int (nI w)])).length) Slot.unset).toArray = ls at hl ⊢
  have hl : lv_has ls 4 [(0, .ref hm), (1, .int (nI c)), (2, .int (nI w))] := hl
  have loop2 : ∀ (Bc : Nat → Nat → Bool), Bc = mClr B c 8 → ∀ (n j : Nat), j + n = 7 → ∀ (ls : Array Slot) (H : Heap) (locs : List Loc), lv_has ls 4 [(3, .int (nI j)), (0, .ref hm), (1, .int (nI c)), (2, .int (nI w))] → va_P (dC, dI) vwCl (mw hm a cA (mMod Bc c w j, N)) H → va_D A (mw hm a cA (mMod Bc c w j, N)) → va_S A s.heap H locs → W p l e (headSpec wsX2_begin ({ frames := 0, cells := 0, slots := 0, locals := 0 })).room s m ([.ref hm, .int (nI c), .int (nI w)]).toArray below meth cd H locs 0 0 (MQ below (xc_Q none (dC, dI) vwCl (mtys cA) (mw hm a cA (mBegB B c w, mBegN N c)) A) ([.ref hm, .int (nI c), .int (nI w)]).toArray s 0 0 A) (F0 m 52 ls []) := by
    intro Bc hBc n
    induction n with
    | zero =>
      intro j hj ls H locs hl hP hD hS
      have hjt : j = 7 := by omega
      refine lv_iload_n hx hb dX2_begin_52 rfl (lv_at hl 0 rfl) ?_
      refine lv_bipush (v := nI 7) hx hb dX2_begin_53 (by decide) ?_
      refine xn_icmp_ge (x := j) (y := 7) (tgt := 94) (by omega) (by omega) hx hb dX2_begin_55 (by decide) (fun _ => ?_) (fun h => absurd (show 7 ≤ j by omega) h)
      refine lv_aload_n hx hb dX2_begin_94 rfl (lv_at hl 1 rfl) ?_
      refine va_get (D := (dC, dI)) (ci := 2) (v := .ref (a 4)) (C := RX2) (T := TX2) (N := 14) hx hb hts hin_RX2 hown hK hP 0 rfl rfl 5 (by decide) hlk_22 (fun _ h9 => h9) rfl dX2_begin_95 ?_
      refine lv_iload_n hx hb dX2_begin_98 rfl (lv_at hl 2 rfl) ?_
      refine lv_bipush (v := nI 7) hx hb dX2_begin_99 (by decide) ?_
      refine xn_st (f := N 0) (j := c) (x := 7) hx hb hK hP hD hS 5 4 rfl rfl (by omega) (by decide) dX2_begin_101 (fun H locs hP hD hS => ?_)
      have hP : va_P (dC, dI) vwCl (mw hm a cA (mMod Bc c w j, sN N 0 c 7)) H := hP
      have hD : va_D A (mw hm a cA (mMod Bc c w j, sN N 0 c 7)) := hD
      refine lv_aload_n hx hb dX2_begin_102 rfl (lv_at hl 1 rfl) ?_
      refine va_get (D := (dC, dI)) (ci := 2) (v := .ref (a 7)) (C := RX2) (T := TX2) (N := 14) hx hb hts hin_RX2 hown hK hP 0 rfl rfl 8 (by decide) hlk_32 (fun _ h9 => h9) rfl dX2_begin_103 ?_
      refine lv_iload_n hx hb dX2_begin_106 rfl (lv_at hl 2 rfl) ?_
      refine lv_iconst (v := nI 0) hx hb dX2_begin_107 (by decide) ?_
      refine xn_st (f := (sN N 0 c 7) 3) (j := c) (x := 0) hx hb hK hP hD hS 8 7 rfl rfl (by omega) (by decide) dX2_begin_108 (fun H locs hP hD hS => ?_)
      have hP : va_P (dC, dI) vwCl (mw hm a cA (mMod Bc c w j, sN (sN N 0 c 7) 3 c 0)) H := hP
      have hD : va_D A (mw hm a cA (mMod Bc c w j, sN (sN N 0 c 7) 3 c 0)) := hD
      refine lv_aload_n hx hb dX2_begin_109 rfl (lv_at hl 1 rfl) ?_
      refine va_get (D := (dC, dI)) (ci := 2) (v := .ref (a 6)) (C := RX2) (T := TX2) (N := 14) hx hb hts hin_RX2 hown hK hP 0 rfl rfl 7 (by decide) hlk_29 (fun _ h9 => h9) rfl dX2_begin_110 ?_
      refine lv_iload_n hx hb dX2_begin_113 rfl (lv_at hl 2 rfl) ?_
      refine lv_iconst (v := nI 2) hx hb dX2_begin_114 (by decide) ?_
      refine xn_st (f := (sN (sN N 0 c 7) 3 c 0) 2) (j := c) (x := 2) hx hb hK hP hD hS 7 6 rfl rfl (by omega) (by decide) dX2_begin_115 (fun H locs hP hD hS => ?_)
      have hP : va_P (dC, dI) vwCl (mw hm a cA (mMod Bc c w j, sN (sN (sN N 0 c 7) 3 c 0) 2 c 2)) H := hP
      have hD : va_D A (mw hm a cA (mMod Bc c w j, sN (sN (sN N 0 c 7) 3 c 0) 2 c 2)) := hD
      refine lv_aload_n hx hb dX2_begin_116 rfl (lv_at hl 1 rfl) ?_
      refine va_get (D := (dC, dI)) (ci := 2) (v := .ref (a 9)) (C := RX2) (T := TX2) (N := 14) hx hb hts hin_RX2 hown hK hP 0 rfl rfl 10 (by decide) hlk_38 (fun _ h9 => h9) rfl dX2_begin_117 ?_
      refine lv_iload_n hx hb dX2_begin_120 rfl (lv_at hl 2 rfl) ?_
      refine xj_meet (pcJ := 133) (stJ := fun y => .int y :: [.int (nI c), .ref (a 9)]) (bI (decide (w % 2 = 1))) ?_ (fun J133 => ?_)
      · refine xz_st (f := (mMod Bc c w j) 5) (j := c) (b := (decide (w % 2 = 1))) hx hb hK hP hD hS 10 9 rfl rfl (by omega) (by decide) dX2_begin_133 (fun H locs hP hD hS => ?_)
        have hP : va_P (dC, dI) vwCl (mw hm a cA (sB (mMod Bc c w j) 5 c (decide (w % 2 = 1)), sN (sN (sN N 0 c 7) 3 c 0) 2 c 2)) H := hP
        have hD : va_D A (mw hm a cA (sB (mMod Bc c w j) 5 c (decide (w % 2 = 1)), sN (sN (sN N 0 c 7) 3 c 0) 2 c 2)) := hD
        exact xc_vret (wf := mw hm a cA) hx hb hr hlocks dX2_begin_134 hK hP hD hS (by subst hjt; subst hBc; rfl)
      · refine lv_iload_n hx hb dX2_begin_121 rfl (lv_at hl 3 rfl) ?_
        refine lv_iconst (v := nI 1) hx hb dX2_begin_122 (by decide) ?_
        refine lv_iand hx hb dX2_begin_123 ?_
        refine xi_eq (y := nI (w % 2)) (pk_andN (by omega) 1 (by decide)) ?_
        refine lv_iconst (v := nI 1) hx hb dX2_begin_124 (by decide) ?_
        refine xn_icmp_ne (x := (w % 2)) (y := 1) (tgt := 132) (by omega) (by omega) hx hb dX2_begin_125 (by decide) (fun h1 => ?_) (fun h1 => ?_)
        · refine lv_iconst (v := nI 0) hx hb dX2_begin_132 (by decide) ?_
          exact J133 (bI false) (congrArg bI (show false = (decide (w % 2 = 1)) from (by first | rfl | (simp only [if_neg h1, if_pos h1, decide_eq_false h1, Bool.true_and, Bool.false_and, Bool.and_true, Bool.and_false, Bool.true_or, Bool.or_true, Bool.false_or, Bool.or_false, Bool.not_true, Bool.not_false, decide_true, decide_false, Option.isSome, not_true_eq_false, not_false_eq_true, if_true, if_false, reduceCtorEq, ↓reduceIte]; done) | (simp only [mBegB, if_neg h1, if_pos h1, decide_eq_false h1, Bool.true_and, Bool.false_and, Bool.and_true, Bool.and_false, Bool.true_or, Bool.or_true, Bool.false_or, Bool.or_false, Bool.not_true, Bool.not_false, decide_true, decide_false, Option.isSome, not_true_eq_false, not_false_eq_true, if_true, if_false, reduceCtorEq, ↓reduceIte]; done) | (simp only [mBegN, if_neg h1, if_pos h1, decide_eq_false h1, Bool.true_and, Bool.false_and, Bool.and_true, Bool.and_false, Bool.true_or, Bool.or_true, Bool.false_or, Bool.or_false, Bool.not_true, Bool.not_false, decide_true, decide_false, Option.isSome, not_true_eq_false, not_false_eq_true, if_true, if_false, reduceCtorEq, ↓reduceIte]; done) | (simp only [mBegB, mBegN, if_neg h1, if_pos h1, decide_eq_false h1, Bool.true_and, Bool.false_and, Bool.and_true, Bool.and_false, Bool.true_or, Bool.or_true, Bool.false_or, Bool.or_false, Bool.not_true, Bool.not_false, decide_true, decide_false, Option.isSome, not_true_eq_false, not_false_eq_true, if_true, if_false, reduceCtorEq, ↓reduceIte]; done) | (simp only [mBegB]; simp only [if_neg h1, if_pos h1, decide_eq_false h1, Bool.true_and, Bool.false_and, Bool.and_true, Bool.and_false, Bool.true_or, Bool.or_true, Bool.false_or, Bool.or_false, Bool.not_true, Bool.not_false, decide_true, decide_false, Option.isSome, not_true_eq_false, not_false_eq_true, if_true, if_false, reduceCtorEq, ↓reduceIte]; done) | (simp only [mBegN]; simp only [if_neg h1, if_pos h1, decide_eq_false h1, Bool.true_and, Bool.false_and, Bool.and_true, Bool.and_false, Bool.true_or, Bool.or_true, Bool.false_or, Bool.or_false, Bool.not_true, Bool.not_false, decide_true, decide_false, Option.isSome, not_true_eq_false, not_false_eq_true, if_true, if_false, reduceCtorEq, ↓reduceIte]; done) | (simp only [mBegB, mBegN]; simp only [if_neg h1, if_pos h1, decide_eq_false h1, Bool.true_and, Bool.false_and, Bool.and_true, Bool.and_false, Bool.true_or, Bool.or_true, Bool.false_or, Bool.or_false, Bool.not_true, Bool.not_false, decide_true, decide_false, Option.isSome, not_true_eq_false, not_false_eq_true, if_true, if_false, reduceCtorEq, ↓reduceIte]; done) | (simp only [mBegB, mBegN]; simp only [if_neg h1, if_pos h1, decide_eq_false h1, Bool.true_and, Bool.false_and, Bool.and_true, Bool.and_false, Bool.true_or, Bool.or_true, Bool.false_or, Bool.or_false, Bool.not_true, Bool.not_false, decide_true, decide_false, Option.isSome, not_true_eq_false, not_false_eq_true, if_true, if_false, reduceCtorEq, ↓reduceIte]; rfl) | (simp only [if_neg h1, if_pos h1, decide_eq_false h1, Bool.true_and, Bool.false_and, Bool.and_true, Bool.and_false, Bool.true_or, Bool.or_true, Bool.false_or, Bool.or_false, Bool.not_true, Bool.not_false, decide_true, decide_false, Option.isSome, not_true_eq_false, not_false_eq_true, if_true, if_false, reduceCtorEq, ↓reduceIte]; rfl) | (simp_all [mBegB, mBegN]; done))))
        · refine lv_iconst (v := nI 1) hx hb dX2_begin_128 (by decide) ?_
          refine lv_goto (tgt := 133) hx hb dX2_begin_129 (by decide) ?_
          exact J133 (bI true) (congrArg bI (show true = (decide (w % 2 = 1)) from (by first | rfl | (simp only [if_pos h1, if_neg (not_not_intro h1), decide_eq_true h1, Bool.true_and, Bool.false_and, Bool.and_true, Bool.and_false, Bool.true_or, Bool.or_true, Bool.false_or, Bool.or_false, Bool.not_true, Bool.not_false, decide_true, decide_false, Option.isSome, not_true_eq_false, not_false_eq_true, if_true, if_false, reduceCtorEq, ↓reduceIte]; done) | (simp only [mBegB, if_pos h1, if_neg (not_not_intro h1), decide_eq_true h1, Bool.true_and, Bool.false_and, Bool.and_true, Bool.and_false, Bool.true_or, Bool.or_true, Bool.false_or, Bool.or_false, Bool.not_true, Bool.not_false, decide_true, decide_false, Option.isSome, not_true_eq_false, not_false_eq_true, if_true, if_false, reduceCtorEq, ↓reduceIte]; done) | (simp only [mBegN, if_pos h1, if_neg (not_not_intro h1), decide_eq_true h1, Bool.true_and, Bool.false_and, Bool.and_true, Bool.and_false, Bool.true_or, Bool.or_true, Bool.false_or, Bool.or_false, Bool.not_true, Bool.not_false, decide_true, decide_false, Option.isSome, not_true_eq_false, not_false_eq_true, if_true, if_false, reduceCtorEq, ↓reduceIte]; done) | (simp only [mBegB, mBegN, if_pos h1, if_neg (not_not_intro h1), decide_eq_true h1, Bool.true_and, Bool.false_and, Bool.and_true, Bool.and_false, Bool.true_or, Bool.or_true, Bool.false_or, Bool.or_false, Bool.not_true, Bool.not_false, decide_true, decide_false, Option.isSome, not_true_eq_false, not_false_eq_true, if_true, if_false, reduceCtorEq, ↓reduceIte]; done) | (simp only [mBegB]; simp only [if_pos h1, if_neg (not_not_intro h1), decide_eq_true h1, Bool.true_and, Bool.false_and, Bool.and_true, Bool.and_false, Bool.true_or, Bool.or_true, Bool.false_or, Bool.or_false, Bool.not_true, Bool.not_false, decide_true, decide_false, Option.isSome, not_true_eq_false, not_false_eq_true, if_true, if_false, reduceCtorEq, ↓reduceIte]; done) | (simp only [mBegN]; simp only [if_pos h1, if_neg (not_not_intro h1), decide_eq_true h1, Bool.true_and, Bool.false_and, Bool.and_true, Bool.and_false, Bool.true_or, Bool.or_true, Bool.false_or, Bool.or_false, Bool.not_true, Bool.not_false, decide_true, decide_false, Option.isSome, not_true_eq_false, not_false_eq_true, if_true, if_false, reduceCtorEq, ↓reduceIte]; done) | (simp only [mBegB, mBegN]; simp only [if_pos h1, if_neg (not_not_intro h1), decide_eq_true h1, Bool.true_and, Bool.false_and, Bool.and_true, Bool.and_false, Bool.true_or, Bool.or_true, Bool.false_or, Bool.or_false, Bool.not_true, Bool.not_false, decide_true, decide_false, Option.isSome, not_true_eq_false, not_false_eq_true, if_true, if_false, reduceCtorEq, ↓reduceIte]; done) | (simp only [mBegB, mBegN]; simp only [if_pos h1, if_neg (not_not_intro h1), decide_eq_true h1, Bool.true_and, Bool.false_and, Bool.and_true, Bool.and_false, Bool.true_or, Bool.or_true, Bool.false_or, Bool.or_false, Bool.not_true, Bool.not_false, decide_true, decide_false, Option.isSome, not_true_eq_false, not_false_eq_true, if_true, if_false, reduceCtorEq, ↓reduceIte]; rfl) | (simp only [if_pos h1, if_neg (not_not_intro h1), decide_eq_true h1, Bool.true_and, Bool.false_and, Bool.and_true, Bool.and_false, Bool.true_or, Bool.or_true, Bool.false_or, Bool.or_false, Bool.not_true, Bool.not_false, decide_true, decide_false, Option.isSome, not_true_eq_false, not_false_eq_true, if_true, if_false, reduceCtorEq, ↓reduceIte]; rfl) | (simp_all [mBegB, mBegN]; done))))
    | succ n ih =>
      intro j hj ls H locs hl hP hD hS
      refine lv_iload_n hx hb dX2_begin_52 rfl (lv_at hl 0 rfl) ?_
      refine lv_bipush (v := nI 7) hx hb dX2_begin_53 (by decide) ?_
      refine xn_icmp_ge (x := j) (y := 7) (tgt := 94) (by omega) (by omega) hx hb dX2_begin_55 (by decide) (fun h => absurd h (by omega)) (fun _ => ?_)
      refine lv_aload_n hx hb dX2_begin_58 rfl (lv_at hl 1 rfl) ?_
      refine va_get (D := (dC, dI)) (ci := 2) (v := .ref (a 8)) (C := RX2) (T := TX2) (N := 14) hx hb hts hin_RX2 hown hK hP 0 rfl rfl 9 (by decide) hlk_35 (fun _ h9 => h9) rfl dX2_begin_59 ?_
      refine lv_bipush (v := nI 7) hx hb dX2_begin_62 (by decide) ?_
      refine lv_iload_n hx hb dX2_begin_64 rfl (lv_at hl 2 rfl) ?_
      refine lv_imul hx hb dX2_begin_65 ?_
      refine xi_eq (y := nI (7 * c)) (pk_mul _ _) ?_
      refine lv_iload_n hx hb dX2_begin_66 rfl (lv_at hl 0 rfl) ?_
      refine lv_iadd hx hb dX2_begin_67 ?_
      refine xi_eq (y := nI ((7 * c) + j)) (nI_add _ _) ?_
      refine xj_meet (pcJ := 87) (stJ := fun y => .int y :: [.int (nI ((7 * c) + j)), .ref (a 8)]) (bI (decide (j = 1) && decide (w / 8 % 2 = 1))) ?_ (fun J87 => ?_)
      · refine xz_st (f := (mMod Bc c w j) 4) (j := ((7 * c) + j)) (b := (decide (j = 1) && decide (w / 8 % 2 = 1))) hx hb hK hP hD hS 9 8 rfl rfl (by omega) (by decide) dX2_begin_87 (fun H locs hP hD hS => ?_)
        have hP : va_P (dC, dI) vwCl (mw hm a cA (sB (mMod Bc c w j) 4 ((7 * c) + j) (decide (j = 1) && decide (w / 8 % 2 = 1)), N)) H := hP
        have hD : va_D A (mw hm a cA (sB (mMod Bc c w j) 4 ((7 * c) + j) (decide (j = 1) && decide (w / 8 % 2 = 1)), N)) := hD
        refine lv_iinc (k := 0) (v := nI (j + 1)) (lv' := [(3, .int (nI (j + 1))), (0, .ref hm), (1, .int (nI c)), (2, .int (nI w))]) hx hb dX2_begin_88 hl rfl (nI_1 _) (by decide) rfl (fun ls hl => ?_)
        refine lv_goto (tgt := 52) hx hb dX2_begin_91 (by decide) ?_
        exact ih (j + 1) (by omega) ls H locs hl hP hD hS
      · refine lv_iload_n hx hb dX2_begin_68 rfl (lv_at hl 0 rfl) ?_
        refine lv_iconst (v := nI 1) hx hb dX2_begin_69 (by decide) ?_
        refine xn_icmp_ne (x := j) (y := 1) (tgt := 86) (by omega) (by omega) hx hb dX2_begin_70 (by decide) (fun h2 => ?_) (fun h2 => ?_)
        · refine lv_iconst (v := nI 0) hx hb dX2_begin_86 (by decide) ?_
          exact J87 (bI false) (congrArg bI (show false = (decide (j = 1) && decide (w / 8 % 2 = 1)) from (by first | rfl | (simp only [if_neg h2, if_pos h2, decide_eq_false h2, Bool.true_and, Bool.false_and, Bool.and_true, Bool.and_false, Bool.true_or, Bool.or_true, Bool.false_or, Bool.or_false, Bool.not_true, Bool.not_false, decide_true, decide_false, Option.isSome, not_true_eq_false, not_false_eq_true, if_true, if_false, reduceCtorEq, ↓reduceIte]; done) | (simp only [mBegB, if_neg h2, if_pos h2, decide_eq_false h2, Bool.true_and, Bool.false_and, Bool.and_true, Bool.and_false, Bool.true_or, Bool.or_true, Bool.false_or, Bool.or_false, Bool.not_true, Bool.not_false, decide_true, decide_false, Option.isSome, not_true_eq_false, not_false_eq_true, if_true, if_false, reduceCtorEq, ↓reduceIte]; done) | (simp only [mBegN, if_neg h2, if_pos h2, decide_eq_false h2, Bool.true_and, Bool.false_and, Bool.and_true, Bool.and_false, Bool.true_or, Bool.or_true, Bool.false_or, Bool.or_false, Bool.not_true, Bool.not_false, decide_true, decide_false, Option.isSome, not_true_eq_false, not_false_eq_true, if_true, if_false, reduceCtorEq, ↓reduceIte]; done) | (simp only [mBegB, mBegN, if_neg h2, if_pos h2, decide_eq_false h2, Bool.true_and, Bool.false_and, Bool.and_true, Bool.and_false, Bool.true_or, Bool.or_true, Bool.false_or, Bool.or_false, Bool.not_true, Bool.not_false, decide_true, decide_false, Option.isSome, not_true_eq_false, not_false_eq_true, if_true, if_false, reduceCtorEq, ↓reduceIte]; done) | (simp only [mBegB]; simp only [if_neg h2, if_pos h2, decide_eq_false h2, Bool.true_and, Bool.false_and, Bool.and_true, Bool.and_false, Bool.true_or, Bool.or_true, Bool.false_or, Bool.or_false, Bool.not_true, Bool.not_false, decide_true, decide_false, Option.isSome, not_true_eq_false, not_false_eq_true, if_true, if_false, reduceCtorEq, ↓reduceIte]; done) | (simp only [mBegN]; simp only [if_neg h2, if_pos h2, decide_eq_false h2, Bool.true_and, Bool.false_and, Bool.and_true, Bool.and_false, Bool.true_or, Bool.or_true, Bool.false_or, Bool.or_false, Bool.not_true, Bool.not_false, decide_true, decide_false, Option.isSome, not_true_eq_false, not_false_eq_true, if_true, if_false, reduceCtorEq, ↓reduceIte]; done) | (simp only [mBegB, mBegN]; simp only [if_neg h2, if_pos h2, decide_eq_false h2, Bool.true_and, Bool.false_and, Bool.and_true, Bool.and_false, Bool.true_or, Bool.or_true, Bool.false_or, Bool.or_false, Bool.not_true, Bool.not_false, decide_true, decide_false, Option.isSome, not_true_eq_false, not_false_eq_true, if_true, if_false, reduceCtorEq, ↓reduceIte]; done) | (simp only [mBegB, mBegN]; simp only [if_neg h2, if_pos h2, decide_eq_false h2, Bool.true_and, Bool.false_and, Bool.and_true, Bool.and_false, Bool.true_or, Bool.or_true, Bool.false_or, Bool.or_false, Bool.not_true, Bool.not_false, decide_true, decide_false, Option.isSome, not_true_eq_false, not_false_eq_true, if_true, if_false, reduceCtorEq, ↓reduceIte]; rfl) | (simp only [if_neg h2, if_pos h2, decide_eq_false h2, Bool.true_and, Bool.false_and, Bool.and_true, Bool.and_false, Bool.true_or, Bool.or_true, Bool.false_or, Bool.or_false, Bool.not_true, Bool.not_false, decide_true, decide_false, Option.isSome, not_true_eq_false, not_false_eq_true, if_true, if_false, reduceCtorEq, ↓reduceIte]; rfl) | (simp_all [mBegB, mBegN]; done))))
        · refine lv_iload_n hx hb dX2_begin_73 rfl (lv_at hl 3 rfl) ?_
          refine lv_iconst (v := nI 3) hx hb dX2_begin_74 (by decide) ?_
          refine lv_ishr hx hb dX2_begin_75 ?_
          refine xi_eq (y := nI (w / 8)) (xs_shr (by omega) (by omega)) ?_
          refine lv_iconst (v := nI 1) hx hb dX2_begin_76 (by decide) ?_
          refine lv_iand hx hb dX2_begin_77 ?_
          refine xi_eq (y := nI ((w / 8) % 2)) (pk_andN (by omega) 1 (by decide)) ?_
          refine lv_iconst (v := nI 1) hx hb dX2_begin_78 (by decide) ?_
          refine xn_icmp_ne (x := ((w / 8) % 2)) (y := 1) (tgt := 86) (by omega) (by omega) hx hb dX2_begin_79 (by decide) (fun h3 => ?_) (fun h3 => ?_)
          · refine lv_iconst (v := nI 0) hx hb dX2_begin_86 (by decide) ?_
            exact J87 (bI false) (congrArg bI (show false = (decide (j = 1) && decide (w / 8 % 2 = 1)) from (by first | rfl | (simp only [if_pos h2, if_neg (not_not_intro h2), decide_eq_true h2, if_neg h3, if_pos h3, decide_eq_false h3, Bool.true_and, Bool.false_and, Bool.and_true, Bool.and_false, Bool.true_or, Bool.or_true, Bool.false_or, Bool.or_false, Bool.not_true, Bool.not_false, decide_true, decide_false, Option.isSome, not_true_eq_false, not_false_eq_true, if_true, if_false, reduceCtorEq, ↓reduceIte]; done) | (simp only [mBegB, if_pos h2, if_neg (not_not_intro h2), decide_eq_true h2, if_neg h3, if_pos h3, decide_eq_false h3, Bool.true_and, Bool.false_and, Bool.and_true, Bool.and_false, Bool.true_or, Bool.or_true, Bool.false_or, Bool.or_false, Bool.not_true, Bool.not_false, decide_true, decide_false, Option.isSome, not_true_eq_false, not_false_eq_true, if_true, if_false, reduceCtorEq, ↓reduceIte]; done) | (simp only [mBegN, if_pos h2, if_neg (not_not_intro h2), decide_eq_true h2, if_neg h3, if_pos h3, decide_eq_false h3, Bool.true_and, Bool.false_and, Bool.and_true, Bool.and_false, Bool.true_or, Bool.or_true, Bool.false_or, Bool.or_false, Bool.not_true, Bool.not_false, decide_true, decide_false, Option.isSome, not_true_eq_false, not_false_eq_true, if_true, if_false, reduceCtorEq, ↓reduceIte]; done) | (simp only [mBegB, mBegN, if_pos h2, if_neg (not_not_intro h2), decide_eq_true h2, if_neg h3, if_pos h3, decide_eq_false h3, Bool.true_and, Bool.false_and, Bool.and_true, Bool.and_false, Bool.true_or, Bool.or_true, Bool.false_or, Bool.or_false, Bool.not_true, Bool.not_false, decide_true, decide_false, Option.isSome, not_true_eq_false, not_false_eq_true, if_true, if_false, reduceCtorEq, ↓reduceIte]; done) | (simp only [mBegB]; simp only [if_pos h2, if_neg (not_not_intro h2), decide_eq_true h2, if_neg h3, if_pos h3, decide_eq_false h3, Bool.true_and, Bool.false_and, Bool.and_true, Bool.and_false, Bool.true_or, Bool.or_true, Bool.false_or, Bool.or_false, Bool.not_true, Bool.not_false, decide_true, decide_false, Option.isSome, not_true_eq_false, not_false_eq_true, if_true, if_false, reduceCtorEq, ↓reduceIte]; done) | (simp only [mBegN]; simp only [if_pos h2, if_neg (not_not_intro h2), decide_eq_true h2, if_neg h3, if_pos h3, decide_eq_false h3, Bool.true_and, Bool.false_and, Bool.and_true, Bool.and_false, Bool.true_or, Bool.or_true, Bool.false_or, Bool.or_false, Bool.not_true, Bool.not_false, decide_true, decide_false, Option.isSome, not_true_eq_false, not_false_eq_true, if_true, if_false, reduceCtorEq, ↓reduceIte]; done) | (simp only [mBegB, mBegN]; simp only [if_pos h2, if_neg (not_not_intro h2), decide_eq_true h2, if_neg h3, if_pos h3, decide_eq_false h3, Bool.true_and, Bool.false_and, Bool.and_true, Bool.and_false, Bool.true_or, Bool.or_true, Bool.false_or, Bool.or_false, Bool.not_true, Bool.not_false, decide_true, decide_false, Option.isSome, not_true_eq_false, not_false_eq_true, if_true, if_false, reduceCtorEq, ↓reduceIte]; done) | (simp only [mBegB, mBegN]; simp only [if_pos h2, if_neg (not_not_intro h2), decide_eq_true h2, if_neg h3, if_pos h3, decide_eq_false h3, Bool.true_and, Bool.false_and, Bool.and_true, Bool.and_false, Bool.true_or, Bool.or_true, Bool.false_or, Bool.or_false, Bool.not_true, Bool.not_false, decide_true, decide_false, Option.isSome, not_true_eq_false, not_false_eq_true, if_true, if_false, reduceCtorEq, ↓reduceIte]; rfl) | (simp only [if_pos h2, if_neg (not_not_intro h2), decide_eq_true h2, if_neg h3, if_pos h3, decide_eq_false h3, Bool.true_and, Bool.false_and, Bool.and_true, Bool.and_false, Bool.true_or, Bool.or_true, Bool.false_or, Bool.or_false, Bool.not_true, Bool.not_false, decide_true, decide_false, Option.isSome, not_true_eq_false, not_false_eq_true, if_true, if_false, reduceCtorEq, ↓reduceIte]; rfl) | (simp_all [mBegB, mBegN]; done))))
          · refine lv_iconst (v := nI 1) hx hb dX2_begin_82 (by decide) ?_
            refine lv_goto (tgt := 87) hx hb dX2_begin_83 (by decide) ?_
            exact J87 (bI true) (congrArg bI (show true = (decide (j = 1) && decide (w / 8 % 2 = 1)) from (by first | rfl | (simp only [if_pos h2, if_neg (not_not_intro h2), decide_eq_true h2, if_pos h3, if_neg (not_not_intro h3), decide_eq_true h3, Bool.true_and, Bool.false_and, Bool.and_true, Bool.and_false, Bool.true_or, Bool.or_true, Bool.false_or, Bool.or_false, Bool.not_true, Bool.not_false, decide_true, decide_false, Option.isSome, not_true_eq_false, not_false_eq_true, if_true, if_false, reduceCtorEq, ↓reduceIte]; done) | (simp only [mBegB, if_pos h2, if_neg (not_not_intro h2), decide_eq_true h2, if_pos h3, if_neg (not_not_intro h3), decide_eq_true h3, Bool.true_and, Bool.false_and, Bool.and_true, Bool.and_false, Bool.true_or, Bool.or_true, Bool.false_or, Bool.or_false, Bool.not_true, Bool.not_false, decide_true, decide_false, Option.isSome, not_true_eq_false, not_false_eq_true, if_true, if_false, reduceCtorEq, ↓reduceIte]; done) | (simp only [mBegN, if_pos h2, if_neg (not_not_intro h2), decide_eq_true h2, if_pos h3, if_neg (not_not_intro h3), decide_eq_true h3, Bool.true_and, Bool.false_and, Bool.and_true, Bool.and_false, Bool.true_or, Bool.or_true, Bool.false_or, Bool.or_false, Bool.not_true, Bool.not_false, decide_true, decide_false, Option.isSome, not_true_eq_false, not_false_eq_true, if_true, if_false, reduceCtorEq, ↓reduceIte]; done) | (simp only [mBegB, mBegN, if_pos h2, if_neg (not_not_intro h2), decide_eq_true h2, if_pos h3, if_neg (not_not_intro h3), decide_eq_true h3, Bool.true_and, Bool.false_and, Bool.and_true, Bool.and_false, Bool.true_or, Bool.or_true, Bool.false_or, Bool.or_false, Bool.not_true, Bool.not_false, decide_true, decide_false, Option.isSome, not_true_eq_false, not_false_eq_true, if_true, if_false, reduceCtorEq, ↓reduceIte]; done) | (simp only [mBegB]; simp only [if_pos h2, if_neg (not_not_intro h2), decide_eq_true h2, if_pos h3, if_neg (not_not_intro h3), decide_eq_true h3, Bool.true_and, Bool.false_and, Bool.and_true, Bool.and_false, Bool.true_or, Bool.or_true, Bool.false_or, Bool.or_false, Bool.not_true, Bool.not_false, decide_true, decide_false, Option.isSome, not_true_eq_false, not_false_eq_true, if_true, if_false, reduceCtorEq, ↓reduceIte]; done) | (simp only [mBegN]; simp only [if_pos h2, if_neg (not_not_intro h2), decide_eq_true h2, if_pos h3, if_neg (not_not_intro h3), decide_eq_true h3, Bool.true_and, Bool.false_and, Bool.and_true, Bool.and_false, Bool.true_or, Bool.or_true, Bool.false_or, Bool.or_false, Bool.not_true, Bool.not_false, decide_true, decide_false, Option.isSome, not_true_eq_false, not_false_eq_true, if_true, if_false, reduceCtorEq, ↓reduceIte]; done) | (simp only [mBegB, mBegN]; simp only [if_pos h2, if_neg (not_not_intro h2), decide_eq_true h2, if_pos h3, if_neg (not_not_intro h3), decide_eq_true h3, Bool.true_and, Bool.false_and, Bool.and_true, Bool.and_false, Bool.true_or, Bool.or_true, Bool.false_or, Bool.or_false, Bool.not_true, Bool.not_false, decide_true, decide_false, Option.isSome, not_true_eq_false, not_false_eq_true, if_true, if_false, reduceCtorEq, ↓reduceIte]; done) | (simp only [mBegB, mBegN]; simp only [if_pos h2, if_neg (not_not_intro h2), decide_eq_true h2, if_pos h3, if_neg (not_not_intro h3), decide_eq_true h3, Bool.true_and, Bool.false_and, Bool.and_true, Bool.and_false, Bool.true_or, Bool.or_true, Bool.false_or, Bool.or_false, Bool.not_true, Bool.not_false, decide_true, decide_false, Option.isSome, not_true_eq_false, not_false_eq_true, if_true, if_false, reduceCtorEq, ↓reduceIte]; rfl) | (simp only [if_pos h2, if_neg (not_not_intro h2), decide_eq_true h2, if_pos h3, if_neg (not_not_intro h3), decide_eq_true h3, Bool.true_and, Bool.false_and, Bool.and_true, Bool.and_false, Bool.true_or, Bool.or_true, Bool.false_or, Bool.or_false, Bool.not_true, Bool.not_false, decide_true, decide_false, Option.isSome, not_true_eq_false, not_false_eq_true, if_true, if_false, reduceCtorEq, ↓reduceIte]; rfl) | (simp_all [mBegB, mBegN]; done))))
  have loop1 : ∀ (n j : Nat), j + n = 8 → ∀ (ls : Array Slot) (H : Heap) (locs : List Loc), lv_has ls 4 [(3, .int (nI j)), (0, .ref hm), (1, .int (nI c)), (2, .int (nI w))] → va_P (dC, dI) vwCl (mw hm a cA (mClr B c j, N)) H → va_D A (mw hm a cA (mClr B c j, N)) → va_S A s.heap H locs → W p l e (headSpec wsX2_begin ({ frames := 0, cells := 0, slots := 0, locals := 0 })).room s m ([.ref hm, .int (nI c), .int (nI w)]).toArray below meth cd H locs 0 0 (MQ below (xc_Q none (dC, dI) vwCl (mtys cA) (mw hm a cA (mBegB B c w, mBegN N c)) A) ([.ref hm, .int (nI c), .int (nI w)]).toArray s 0 0 A) (F0 m 2 ls []) := by
    intro n
    induction n with
    | zero =>
      intro j hj ls H locs hl hP hD hS
      have hjt : j = 8 := by omega
      refine lv_iload_n hx hb dX2_begin_2 rfl (lv_at hl 0 rfl) ?_
      refine lv_bipush (v := nI 8) hx hb dX2_begin_3 (by decide) ?_
      refine xn_icmp_ge (x := j) (y := 8) (tgt := 50) (by omega) (by omega) hx hb dX2_begin_5 (by decide) (fun _ => ?_) (fun h => absurd (show 8 ≤ j by omega) h)
      refine lv_iconst (v := nI 0) hx hb dX2_begin_50 (by decide) ?_
      refine lv_istore_n (lv' := [(3, .int (nI 0)), (0, .ref hm), (1, .int (nI c)), (2, .int (nI w))]) hx hb dX2_begin_51 rfl hl (by decide) rfl (fun ls hl => ?_)
      exact loop2 (mClr B c j) (by rw [hjt]) 7 0 rfl ls H locs hl hP hD hS
    | succ n ih =>
      intro j hj ls H locs hl hP hD hS
      refine lv_iload_n hx hb dX2_begin_2 rfl (lv_at hl 0 rfl) ?_
      refine lv_bipush (v := nI 8) hx hb dX2_begin_3 (by decide) ?_
      refine xn_icmp_ge (x := j) (y := 8) (tgt := 50) (by omega) (by omega) hx hb dX2_begin_5 (by decide) (fun h => absurd h (by omega)) (fun _ => ?_)
      refine lv_aload_n hx hb dX2_begin_8 rfl (lv_at hl 1 rfl) ?_
      refine va_get (D := (dC, dI)) (ci := 2) (v := .ref (a 3)) (C := RX2) (T := TX2) (N := 14) hx hb hts hin_RX2 hown hK hP 0 rfl rfl 4 (by decide) hlk_19 (fun _ h9 => h9) rfl dX2_begin_9 ?_
      refine lv_bipush (v := nI 8) hx hb dX2_begin_12 (by decide) ?_
      refine lv_iload_n hx hb dX2_begin_14 rfl (lv_at hl 2 rfl) ?_
      refine lv_imul hx hb dX2_begin_15 ?_
      refine xi_eq (y := nI (8 * c)) (pk_mul _ _) ?_
      refine lv_iload_n hx hb dX2_begin_16 rfl (lv_at hl 0 rfl) ?_
      refine lv_iadd hx hb dX2_begin_17 ?_
      refine xi_eq (y := nI ((8 * c) + j)) (nI_add _ _) ?_
      refine lv_iconst (v := nI 0) hx hb dX2_begin_18 (by decide) ?_
      refine xz_st (f := (mClr B c j) 3) (j := ((8 * c) + j)) (b := false) hx hb hK hP hD hS 4 3 rfl rfl (by omega) (by decide) dX2_begin_19 (fun H locs hP hD hS => ?_)
      have hP : va_P (dC, dI) vwCl (mw hm a cA (sB (mClr B c j) 3 ((8 * c) + j) false, N)) H := hP
      have hD : va_D A (mw hm a cA (sB (mClr B c j) 3 ((8 * c) + j) false, N)) := hD
      refine lv_aload_n hx hb dX2_begin_20 rfl (lv_at hl 1 rfl) ?_
      refine va_get (D := (dC, dI)) (ci := 2) (v := .ref (a 2)) (C := RX2) (T := TX2) (N := 14) hx hb hts hin_RX2 hown hK hP 0 rfl rfl 3 (by decide) hlk_16 (fun _ h9 => h9) rfl dX2_begin_21 ?_
      refine lv_bipush (v := nI 8) hx hb dX2_begin_24 (by decide) ?_
      refine lv_iload_n hx hb dX2_begin_26 rfl (lv_at hl 2 rfl) ?_
      refine lv_imul hx hb dX2_begin_27 ?_
      refine xi_eq (y := nI (8 * c)) (pk_mul _ _) ?_
      refine lv_iload_n hx hb dX2_begin_28 rfl (lv_at hl 0 rfl) ?_
      refine lv_iadd hx hb dX2_begin_29 ?_
      refine xi_eq (y := nI ((8 * c) + j)) (nI_add _ _) ?_
      refine lv_iconst (v := nI 0) hx hb dX2_begin_30 (by decide) ?_
      refine xz_st (f := (sB (mClr B c j) 3 ((8 * c) + j) false) 2) (j := ((8 * c) + j)) (b := false) hx hb hK hP hD hS 3 2 rfl rfl (by omega) (by decide) dX2_begin_31 (fun H locs hP hD hS => ?_)
      have hP : va_P (dC, dI) vwCl (mw hm a cA (sB (sB (mClr B c j) 3 ((8 * c) + j) false) 2 ((8 * c) + j) false, N)) H := hP
      have hD : va_D A (mw hm a cA (sB (sB (mClr B c j) 3 ((8 * c) + j) false) 2 ((8 * c) + j) false, N)) := hD
      refine lv_aload_n hx hb dX2_begin_32 rfl (lv_at hl 1 rfl) ?_
      refine va_get (D := (dC, dI)) (ci := 2) (v := .ref (a 1)) (C := RX2) (T := TX2) (N := 14) hx hb hts hin_RX2 hown hK hP 0 rfl rfl 2 (by decide) hlk_13 (fun _ h9 => h9) rfl dX2_begin_33 ?_
      refine lv_bipush (v := nI 8) hx hb dX2_begin_36 (by decide) ?_
      refine lv_iload_n hx hb dX2_begin_38 rfl (lv_at hl 2 rfl) ?_
      refine lv_imul hx hb dX2_begin_39 ?_
      refine xi_eq (y := nI (8 * c)) (pk_mul _ _) ?_
      refine lv_iload_n hx hb dX2_begin_40 rfl (lv_at hl 0 rfl) ?_
      refine lv_iadd hx hb dX2_begin_41 ?_
      refine xi_eq (y := nI ((8 * c) + j)) (nI_add _ _) ?_
      refine lv_iconst (v := nI 0) hx hb dX2_begin_42 (by decide) ?_
      refine xz_st (f := (sB (sB (mClr B c j) 3 ((8 * c) + j) false) 2 ((8 * c) + j) false) 1) (j := ((8 * c) + j)) (b := false) hx hb hK hP hD hS 2 1 rfl rfl (by omega) (by decide) dX2_begin_43 (fun H locs hP hD hS => ?_)
      have hP : va_P (dC, dI) vwCl (mw hm a cA (sB (sB (sB (mClr B c j) 3 ((8 * c) + j) false) 2 ((8 * c) + j) false) 1 ((8 * c) + j) false, N)) H := hP
      have hD : va_D A (mw hm a cA (sB (sB (sB (mClr B c j) 3 ((8 * c) + j) false) 2 ((8 * c) + j) false) 1 ((8 * c) + j) false, N)) := hD
      refine lv_iinc (k := 0) (v := nI (j + 1)) (lv' := [(3, .int (nI (j + 1))), (0, .ref hm), (1, .int (nI c)), (2, .int (nI w))]) hx hb dX2_begin_44 hl rfl (nI_1 _) (by decide) rfl (fun ls hl => ?_)
      refine lv_goto (tgt := 2) hx hb dX2_begin_47 (by decide) ?_
      exact ih (j + 1) (by omega) ls H locs hl hP hD hS
  refine lv_iconst (v := nI 0) hx hb dX2_begin_0 (by decide) ?_
  refine lv_istore_n (lv' := [(3, .int (nI 0)), (0, .ref hm), (1, .int (nI c)), (2, .int (nI w))]) hx hb dX2_begin_1 rfl hl (by decide) rfl (fun ls hl => ?_)
  exact loop1 8 0 rfl ls s.heap [] hl hP hD hS

