def xz_ok : Cond → Bool
  | .fieldLinkNest .. => true
  | .methodLinkNest .. => true
  | .castable .. => true
  | .declares .. => true
  | w => w.onTables && w.keeps
theorem xz_tab {w : Cond} (h : xz_ok w = true) : w.onTables = true := by
  cases w <;> first | rfl | (simp only [xz_ok, Bool.and_eq_true] at h; exact h.1)
theorem xz_warm {w : Cond} (h : xz_ok w = true) {s U : State} (hW : s.WarmedH U.vm) (hZ : va_Nw w s) : va_Nw w U := by
  cases w <;> first | exact va_Nw.warmF hW hZ | exact va_Nw.warmM hW hZ | exact va_Nw.warmC hW hZ | exact va_Nw.warmD hW hZ | exact word_at hW (Or.inl h) hZ
theorem xz_same {w : Cond} (h : xz_ok w = true) {u U : State} (e : u.vm = U.vm) (hZ : va_Nw w u) : va_Nw w U := va_Nw.same (xz_tab h) e hZ
def xz_Z (zl : List Cond) (U : State) : Prop := zl.all xz_ok = true ∧ ∀ w ∈ zl, va_Nw w U
theorem xz_Z.warm {zl : List Cond} {s U : State} (hW : s.WarmedH U.vm) (h : xz_Z zl s) : xz_Z zl U := ⟨h.1, fun w hw => xz_warm (List.all_eq_true.mp h.1 w hw) hW (h.2 w hw)⟩
theorem xz_Z.same {zl : List Cond} {u U : State} (e : u.vm = U.vm) (h : xz_Z zl u) : xz_Z zl U := ⟨h.1, fun w hw => xz_same (List.all_eq_true.mp h.1 w hw) e (h.2 w hw)⟩
theorem xz_Z.sub {zl zl' : List Cond} {U : State} (h : xz_Z zl U) (hs : ∀ w ∈ zl', w ∈ zl) : xz_Z zl' U := ⟨List.all_eq_true.mpr fun w hw => List.all_eq_true.mp h.1 w (hs w hw), fun w hw => h.2 w (hs w hw)⟩
theorem xz_Z.nil {U : State} : xz_Z [] U := ⟨rfl, fun _ h => by cases h⟩
theorem xz_Z.use {zl : List Cond} {U : State} {w : Cond} (h : xz_Z zl U) (hw : w ∈ zl) {a : Array Value} : w.before a U = true := va_Nw.use (xz_tab (List.all_eq_true.mp h.1 w hw)) (h.2 w hw)

def xr_Q (F : Option Value) : Array Value → State → Outcome → State → Prop := fun _ st o t => o = .returned F ∧ t.heap = st.heap
def xr_P (av : List Value) (D : va_G) (cl : List vw_C) (tys : List (ClassId × FieldType)) (zl : List Cond) (wc : va_W) : Array Value → State → Prop := va_Pc av (fun U => va_P D cl wc U.heap ∧ va_K D cl tys U ∧ xz_Z zl U)
abbrev xr_M (l : Launch) (y : MethodName) (ws : List Cond) (rm : Room) (av : List Value) (D : va_G) (cl : List vw_C) (tys : List (ClassId × FieldType)) (zl : List Cond) (wc : va_W) (F : Option Value) : Prop := Met l y ws rm (xr_P av D cl tys zl wc) (xr_Q F) 0 0 (fun _ => False)
def xc_P (av : List Value) (sz : Nat) (D : va_G) (cl : List vw_C) (tys : List (ClassId × FieldType)) (zl : List Cond) (wc : va_W) : Array Value → State → Prop := va_Pc av (fun U => U.heap.size = sz ∧ va_P D cl wc U.heap ∧ va_K D cl tys U ∧ va_D (fun _ => True) wc ∧ xz_Z zl U)
def xc_Q (F : Option Value) (D : va_G) (cl : List vw_C) (tys : List (ClassId × FieldType)) (wG : va_W) (A : Nat → Prop) : Array Value → State → Outcome → State → Prop := fun _ st o t => (o = .returned F ∧ va_P D cl wG t.heap ∧ va_K D cl tys t ∧ va_D A wG) ∧ va_F A st t
abbrev xc_M (l : Launch) (y : MethodName) (ws : List Cond) (rm : Room) (av : List Value) (sz : Nat) (D : va_G) (cl : List vw_C) (tys : List (ClassId × FieldType)) (zl : List Cond) (wc : va_W) (F : Option Value) (wG : va_W) (mc ms : Nat) : Prop := Met l y ws rm (xc_P av sz D cl tys zl wc) (xc_Q F D cl tys wG (va_A wc sz)) mc ms (va_A wc sz)

theorem xr_blind {av : List Value} {D : va_G} {cl : List vw_C} {tys : List (ClassId × FieldType)} {zl : List Cond} {wc : va_W} : FrameBlind (xr_P av D cl tys zl wc) := by
  intro a U g mk q
  obtain ⟨q0, q1, q2, q3⟩ := q
  exact ⟨q0, q1, va_K.moved (u := U) (U := U.calling g mk a) (Vm.Alike.refl U.vm) q2, xz_Z.same (u := U) (U := U.calling g mk a) rfl q3⟩
theorem xc_blind {av : List Value} {sz : Nat} {D : va_G} {cl : List vw_C} {tys : List (ClassId × FieldType)} {zl : List Cond} {wc : va_W} : FrameBlind (xc_P av sz D cl tys zl wc) := by
  intro a U g mk q
  obtain ⟨q0, q1, q2, q3, q4, q5⟩ := q
  exact ⟨q0, q1, q2, va_K.moved (u := U) (U := U.calling g mk a) (Vm.Alike.refl U.vm) q3, q4, xz_Z.same (u := U) (U := U.calling g mk a) rfl q5⟩

section XL
variable {p : Program} {l : Launch} {e : Env} {R : Room} {s : State} {m : MethodId} {args : Array Value} {below : List Frame} {meth : Method} {c : Code} {H : Heap} {locs : List Loc} {cells slots : Nat} {Q : State → Prop}
variable {cc : ByteArray} {pc : Nat} {ls : Array Slot} {rest st0 st1 : List Value} {D : va_G} {cl : List vw_C} {A A0 : Nat → Prop} {tys : List (ClassId × FieldType)} {ws wc wr wG : va_W} {H0 : Heap} {zl : List Cond} {F : Option Value} {b : Nat} {As : List Value}
theorem xi_eq {x y : Int32} (h : x = y) (k : W p l e R s m args below meth c H locs cells slots Q (F0 m pc ls (.int y :: rest))) : W p l e R s m args below meth c H locs cells slots Q (F0 m pc ls (.int x :: rest)) := by
  rw [h]; exact k
theorem xj_meet {pcJ : Nat} {stJ : Int32 → List Value} (x : Int32) (k : W p l e R s m args below meth c H locs cells slots Q (F0 m pcJ ls (stJ x))) (h : (∀ y : Int32, y = x → W p l e R s m args below meth c H locs cells slots Q (F0 m pcJ ls (stJ y))) → W p l e R s m args below meth c H locs cells slots Q (F0 m pc ls st0)) : W p l e R s m args below meth c H locs cells slots Q (F0 m pc ls st0) := h (fun y e => by rw [e]; exact k)
theorem xr_preV {ci q0 : Nat} {fs : List Value} {C : String} {T : u_T} {N : Nat} (hK : va_K D cl tys s) (hP : va_P D cl wc H) (hZ : xz_Z zl s) (he : wc[q0]? = some (b, .inr (ci, fs))) (hc : cl[ci]? = some (C, T, N)) : PreV s H C b (xr_P (.ref b :: As) D cl tys zl wc) As :=
  ⟨xr_blind, va_recv hK hP hc he, fun U hU hW => ⟨rfl, by rw [hU]; exact hP, va_K.moved hW.alike hK, hZ.warm hW⟩⟩
theorem xr_preS (hK : va_K D cl tys s) (hP : va_P D cl wc H) (hZ : xz_Z zl s) : PreS s H (xr_P As D cl tys zl wc) As :=
  ⟨xr_blind, fun U hU hW => ⟨rfl, by rw [hU]; exact hP, va_K.moved hW.alike hK, hZ.warm hW⟩⟩
theorem xc_preV {ci q0 : Nat} {fs : List Value} {C : String} {T : u_T} {N : Nat} (hK : va_K D cl tys s) (hP : va_P D cl wc H) (hD : va_D A wc) (hZ : xz_Z zl s) (he : wc[q0]? = some (b, .inr (ci, fs))) (hc : cl[ci]? = some (C, T, N)) : PreV s H C b (xc_P (.ref b :: As) H.size D cl tys zl wc) As :=
  ⟨xc_blind, va_recv hK hP hc he, fun U hU hW => ⟨rfl, by rw [hU], by rw [hU]; exact hP, va_K.moved hW.alike hK, hD.weaken (fun _ _ _ _ => trivial), hZ.warm hW⟩⟩
theorem xc_preS (hK : va_K D cl tys s) (hP : va_P D cl wc H) (hD : va_D A wc) (hZ : xz_Z zl s) : PreS s H (xc_P As H.size D cl tys zl wc) As :=
  ⟨xc_blind, fun U hU hW => ⟨rfl, by rw [hU], by rw [hU]; exact hP, va_K.moved hW.alike hK, hD.weaken (fun _ _ _ _ => trivial), hZ.warm hW⟩⟩
theorem xr_call {a : Array Value} (hr : CallRun p l e R s m args below meth c H locs cells slots 0 0 (F0 m pc ls st0) rest (xr_Q F a) (fun _ => False)) (hs1 : F.toList ++ rest = st1)
    (kk : W p l e R s m args below meth c H locs cells slots Q (F0 m (pc + 3) ls st1)) : W p l e R s m args below meth c H locs cells slots Q (F0 m pc ls st0) := by
  subst hs1
  intro T hT X
  obtain ⟨v, st₀, t, T', L, h0, X', hL, e1, ⟨hv, hh⟩, st⟩ := hr T hT X
  cases hv
  obtain ⟨t2, a1, b1⟩ := kk T' (by rw [e1, hh, h0]) (Stand.forget X' (fun q h => (hL q h).elim))
  exact ⟨t2, st t2 a1, b1⟩
theorem xc_call {a : Array Value} {mc ms : Nat} (hr : va_Run p l e R s m args below meth c H locs cells slots mc ms (F0 m pc ls st0) rest (xc_Q F D cl tys wG (va_A wc H.size) a) (va_A wc H.size))
    (hP : va_P D cl ws H) (hD : va_D A0 ws) (hS : va_S A0 H0 H locs) (hA : ∀ q, H0.size ≤ q → A0 q) (isC isR : List Nat) (hC : isC.map (fun i => ws[i]?) = wc.map some) (hR : isR.map (fun i => ws[i]?) = wr.map some) (hn : va_nd isR = true) (hdis : ∀ i ∈ isR, i ∉ isC) (hs1 : F.toList ++ rest = st1)
    (kk : ∀ (H1 : Heap) (locs1 : List Loc), va_P D cl (wr ++ wG) H1 → va_D A0 (wr ++ wG) → va_S A0 H0 H1 locs1 → H.size ≤ H1.size → W p l e R s m args below meth c H1 locs1 (cells + mc) (slots + ms) Q (F0 m (pc + 3) ls st1)) : W p l e R s m args below meth c H locs cells slots Q (F0 m pc ls st0) := by
  subst hs1
  intro T hT X
  obtain ⟨v, st₀, t, T', L, h0, X', hL, e1, e2, ⟨⟨hv, hPg, -, hDg⟩, hz, hk⟩, st⟩ := hr T hT X
  cases hv
  rw [h0] at hz hk
  rw [← e1] at hPg hz hk
  have hFc := va_free hD hS hA isC hC
  obtain ⟨hP', hD'⟩ := va_join hP hD isC isR hC hR hn hdis hk hFc hPg hDg
  obtain ⟨t2, a1, b1⟩ := kk T'.heap (locs ++ L) hP' hD'
    ⟨Nat.le_trans hS.1 hz, fun q h1 h2 => by rw [hk q (Nat.lt_of_lt_of_le h1 hS.1) (fun z => h2 (hFc q z))]; exact hS.2.1 q h1 h2, fun q hq => by
      rcases List.mem_append.mp hq with h | h
      · exact hS.2.2 q h
      · exact hFc _ (hL q h)⟩ hz T' rfl X'
  exact ⟨t2, st t2 a1, b1⟩
theorem xr_iret {r v : Int32} (hx : p.tables.exec = Jvm.exec) (hb : c.code = cc) (hr : meth.sig.returnType = some .int) (hlocks : meth.locks = false) (hdg : decode cc pc = .ok (.ireturn, 1)) (hv : v = r) :
    W p l e R s m args below meth c s.heap [] 0 0 (MQ below (xr_Q (some (.int r))) args s 0 0 (fun _ => False)) (F0 m pc ls [.int v]) := by
  subst hv
  exact W.iret hx hb hr (fun t ht _ => ⟨rfl, ht⟩) (fun q h => by cases h) hdg hlocks
theorem xr_zret {r v : Int32} (hx : p.tables.exec = Jvm.exec) (hb : c.code = cc) (hr : meth.sig.returnType = some .boolean) (hlocks : meth.locks = false) (hdg : decode cc pc = .ok (.ireturn, 1)) (hn : narrow .boolean (.int v) = .int v) (hv : v = r) :
    W p l e R s m args below meth c s.heap [] 0 0 (MQ below (xr_Q (some (.int r))) args s 0 0 (fun _ => False)) (F0 m pc ls [.int v]) := by
  subst hv
  exact W.zret hx hb hr hn (fun t ht _ => ⟨rfl, ht⟩) (fun q h => by cases h) hdg hlocks
theorem xr_vret (hx : p.tables.exec = Jvm.exec) (hb : c.code = cc) (hr : meth.sig.returnType = none) (hlocks : meth.locks = false) (hdg : decode cc pc = .ok (.return_, 1)) :
    W p l e R s m args below meth c s.heap [] 0 0 (MQ below (xr_Q none) args s 0 0 (fun _ => False)) (F0 m pc ls []) :=
  W.vret hx hb hr (fun t ht _ => ⟨rfl, ht⟩) (fun q h => by cases h) hdg hlocks
theorem xr_aret {n : String} {r v : Nat} (hx : p.tables.exec = Jvm.exec) (hb : c.code = cc) (hr : meth.sig.returnType = some (.object n)) (hlocks : meth.locks = false) (hdg : decode cc pc = .ok (.areturn, 1)) (hv : v = r) :
    W p l e R s m args below meth c s.heap [] 0 0 (MQ below (xr_Q (some (.ref r))) args s 0 0 (fun _ => False)) (F0 m pc ls [.ref v]) := by
  subst hv
  exact W.aret hx hb hr (Or.inl ⟨n, rfl⟩) (Or.inr ⟨_, rfl⟩) (fun t ht _ => ⟨rfl, ht⟩) (fun q h => by cases h) hdg hlocks
theorem xc_iret {σ : Type} {wf : σ → va_W} {x y : σ} {r v : Int32} (hx : p.tables.exec = Jvm.exec) (hb : c.code = cc) (hr : meth.sig.returnType = some .int) (hlocks : meth.locks = false) (hdg : decode cc pc = .ok (.ireturn, 1)) (hK : va_K D cl tys s) (hP : va_P D cl (wf x) H) (hD : va_D A (wf x)) (hS : va_S A s.heap H locs) (hv : v = r) (hxy : x = y) :
    W p l e R s m args below meth c H locs cells slots (MQ below (xc_Q (some (.int r)) D cl tys (wf y) A) args s cells slots A) (F0 m pc ls [.int v]) := by
  subst hv; subst hxy
  exact W.iret hx hb hr (fun t ht hW => ⟨⟨rfl, by rw [ht]; exact hP, va_K.moved hW.alike hK, hD⟩, hS.F ht⟩) hS.2.2 hdg hlocks
theorem xc_zret {σ : Type} {wf : σ → va_W} {x y : σ} {r v : Int32} (hx : p.tables.exec = Jvm.exec) (hb : c.code = cc) (hr : meth.sig.returnType = some .boolean) (hlocks : meth.locks = false) (hdg : decode cc pc = .ok (.ireturn, 1)) (hK : va_K D cl tys s) (hP : va_P D cl (wf x) H) (hD : va_D A (wf x)) (hS : va_S A s.heap H locs) (hn : narrow .boolean (.int v) = .int v) (hv : v = r) (hxy : x = y) :
    W p l e R s m args below meth c H locs cells slots (MQ below (xc_Q (some (.int r)) D cl tys (wf y) A) args s cells slots A) (F0 m pc ls [.int v]) := by
  subst hv; subst hxy
  exact W.zret hx hb hr hn (fun t ht hW => ⟨⟨rfl, by rw [ht]; exact hP, va_K.moved hW.alike hK, hD⟩, hS.F ht⟩) hS.2.2 hdg hlocks
theorem xc_vret {σ : Type} {wf : σ → va_W} {x y : σ} (hx : p.tables.exec = Jvm.exec) (hb : c.code = cc) (hr : meth.sig.returnType = none) (hlocks : meth.locks = false) (hdg : decode cc pc = .ok (.return_, 1)) (hK : va_K D cl tys s) (hP : va_P D cl (wf x) H) (hD : va_D A (wf x)) (hS : va_S A s.heap H locs) (hxy : x = y) :
    W p l e R s m args below meth c H locs cells slots (MQ below (xc_Q none D cl tys (wf y) A) args s cells slots A) (F0 m pc ls []) := by
  subst hxy
  exact W.vret hx hb hr (fun t ht hW => ⟨⟨rfl, by rw [ht]; exact hP, va_K.moved hW.alike hK, hD⟩, hS.F ht⟩) hS.2.2 hdg hlocks
end XL
