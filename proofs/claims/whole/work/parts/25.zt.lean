def xt_h1 : Cond := .isRef (.static Bundle.tN "UNASSIGNED_STACK" Bundle.steD)
def xt_h2 : Cond := .isRef (.static Bundle.tN "SUPPRESSED_SENTINEL" Bundle.listD)
def xt_h3 : Cond := .laysStatic Bundle.tN "UNASSIGNED_STACK" Bundle.steD
def xt_h4 : Cond := .laysStatic Bundle.tN "SUPPRESSED_SENTINEL" Bundle.listD
def xt_ok (w : Cond) : Bool := xz_ok w || decide (w = xt_h1) || decide (w = xt_h2) || decide (w = xt_h3) || decide (w = xt_h4)
def xt_Z (L : List Cond) (U : State) : Prop := (L.all xt_ok = true ∧ xt_h3 ∈ L ∧ xt_h4 ∈ L ∧ Cond.initialized Bundle.tN ∈ L) ∧ ∀ w ∈ L, va_Nw w U
theorem xt_lays {C n d : String} {a a' : Array Value} {U V : State} (hal : U.vm.Alike V.vm) (hk : ∀ q : Nat, q < U.heap.size → V.heap[q]? = U.heap[q]?) (h : (Cond.laysStatic C n d).before a U = true) : (Cond.laysStatic C n d).before a' V = true := by
  obtain ⟨c, k, i, f, x, cell, h1, h2, h3, h4, h5, h6, h7, h8, h9⟩ := Cond.laysStatic_spec h
  obtain ⟨k', hi', he⟩ := State.fieldFound?_setVm hal h2
  show (Cond.laysStatic C n d).holds a' V none V [] = true
  exact Cond.laysStatic_of (by rw [hal.findClass]; exact h1) hi' h3 (by rw [he]; exact h4) (by rw [hk x (Array.getElem?_eq_some_iff.mp h5).1]; exact h5) h6 h7 h8 (by rw [he]; exact h9)
theorem xt_isr {C n d : String} {v : Value} {A : Nat → Prop} {V : State} {a : Array Value} (h : va_Z C n d v A V V.heap) (hv : v.isRef = true) : (Cond.isRef (.static C n d)).before a V = true := by
  obtain ⟨cf, kf, fi, f, x, cell, h1, h2, h3, h4, h5, h6, h7, -⟩ := h
  have he : (Term.static C n d).eval a V none [] V = some v := by
    simp [Term.eval, State.fieldNamed?, h1, h2, h4, h5, h6, h7]
  simp only [Cond.before, Cond.holds, Cond.value, he]
  cases v <;> simp_all [Value.isRef]
theorem xt_isr2 {C n d : String} {a a' : Array Value} {U V : State} (hal : U.vm.Alike V.vm) (hk : ∀ q : Nat, q < U.heap.size → V.heap[q]? = U.heap[q]?) (hl : (Cond.laysStatic C n d).before a U = true) (hini : (Cond.initialized C).before a U = true) (h : (Cond.isRef (.static C n d)).before a U = true) : (Cond.isRef (.static C n d)).before a' V = true := by
  have h1 : va_Zq C n d (fun _ => False) U U.heap := va_Zqof hl hini h (fun _ _ z => z)
  have h2 := (h1.moved hal).kept (H1 := V.heap) (fun q hq _ => hk q hq)
  rcases h2 with h | ⟨t, h⟩
  · exact xt_isr h rfl
  · exact xt_isr h rfl
theorem xt_Z.move {L : List Cond} {U V : State} (hW : U.WarmedH V.vm) (hk : ∀ q : Nat, q < U.heap.size → V.heap[q]? = U.heap[q]?) (h : xt_Z L U) : xt_Z L V := by
  refine ⟨h.1, fun w hw => ?_⟩
  have hok := List.all_eq_true.mp h.1.1 w hw
  have h0 := h.2 w hw
  simp only [xt_ok, Bool.or_eq_true, decide_eq_true_eq] at hok
  rcases hok with (((hok | rfl) | rfl) | rfl) | rfl
  · exact xz_warm hok hW h0
  · exact xt_isr2 hW.alike hk (h.2 _ h.1.2.1) (h.2 _ h.1.2.2.2) h0
  · exact xt_isr2 hW.alike hk (h.2 _ h.1.2.2.1) (h.2 _ h.1.2.2.2) h0
  · exact xt_lays hW.alike hk h0
  · exact xt_lays hW.alike hk h0
theorem xt_before {w : Cond} (h : xt_ok w = true) {U : State} (hw : va_Nw w U) {a : Array Value} : w.before a U = true := by
  simp only [xt_ok, Bool.or_eq_true, decide_eq_true_eq] at h
  rcases h with (((h | rfl) | rfl) | rfl) | rfl
  · exact va_Nw.use (xz_tab h) hw
  · exact hw
  · exact hw
  · exact hw
  · exact hw
theorem xt_Z.use {L : List Cond} {U : State} (h : xt_Z L U) {w : Cond} (hw : w ∈ L) {a : Array Value} : w.before a U = true := xt_before (List.all_eq_true.mp h.1.1 w hw) (h.2 w hw)
def xt_P (av : List Value) (D : va_G) (cl : List vw_C) (tys : List (ClassId × FieldType)) (zl L : List Cond) (wc : va_W) : Array Value → State → Prop := va_Pc av (fun U => va_P D cl wc U.heap ∧ va_K D cl tys U ∧ xz_Z zl U ∧ xt_Z L U)
theorem xt_blind {av : List Value} {D : va_G} {cl : List vw_C} {tys : List (ClassId × FieldType)} {zl L : List Cond} {wc : va_W} : FrameBlind (xt_P av D cl tys zl L wc) := by
  intro a U g mk q
  obtain ⟨q0, q1, q2, q3, q4⟩ := q
  exact ⟨q0, q1, va_K.moved (u := U) (U := U.calling g mk a) (Vm.Alike.refl U.vm) q2, xz_Z.same (u := U) (U := U.calling g mk a) rfl q3, q4.move (V := U.calling g mk a) (State.WarmedH.refl U) (fun _ _ => rfl)⟩
theorem xt_preV {s : State} {H : Heap} {b : Nat} {As : List Value} {D : va_G} {cl : List vw_C} {tys : List (ClassId × FieldType)} {zl L : List Cond} {wc : va_W} {ci q0 : Nat} {fs : List Value} {C : String} {T : u_T} {N : Nat} (hK : va_K D cl tys s) (hP : va_P D cl wc H) (hZ : xz_Z zl s) (hT : xt_Z L s) (hH : ∀ q : Nat, q < s.heap.size → H[q]? = s.heap[q]?) (he : wc[q0]? = some (b, .inr (ci, fs))) (hc : cl[ci]? = some (C, T, N)) : PreV s H C b (xt_P (.ref b :: As) D cl tys zl L wc) As :=
  ⟨xt_blind, va_recv hK hP hc he, fun U hU hW => ⟨rfl, by rw [hU]; exact hP, va_K.moved hW.alike hK, hZ.warm hW, hT.move hW (by rw [hU]; exact hH)⟩⟩
