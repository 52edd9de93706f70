def pk (V : Int32 → Int64) (HM : Int32 → PS × (Nat → Int64) → Prop) (MM : Int32 → (Nat → Nat → Bool) × (Nat → Nat → Nat) → Prop) : Prop := ∃ (k : Int32) (g : PS × (Nat → Int64)) (r : Int32) (z : (Nat → Nat → Bool) × (Nat → Nat → Nat)), HM k g ∧ MM r z ∧ nI (z.2 4 0) = k ∧ (k = 0 → g.2 0 = V r) ∧ Rp g.1 z.1 z.2
def vZ (r : Int32) : Int64 := if r = 0 then 0 else 1
def vJ (r : Int32) : Int64 := r.toInt64
section PK
variable {V : Int32 → Int64} {HM : Int32 → PS × (Nat → Int64) → Prop} {MM : Int32 → (Nat → Nat → Bool) × (Nat → Nat → Nat) → Prop} {q' q : PS} {oo : Nat → Int64} {v : Int64} {r k : Int32} {n : Nat} {B' B : Nat → Nat → Bool} {N' N : Nat → Nat → Nat}
theorem pk.ok (h1 : HM 0 (q', vp_updL oo 0 v)) (h2 : MM r (B', N')) (h3 : N' 4 0 = 0) (h4 : v = V r) (h5 : Rp q' B' N') : pk V HM MM := ⟨0, _, r, _, h1, h2, by show nI (N' 4 0) = 0; rw [h3]; exact nI_0, fun _ => h4, h5⟩
theorem pk.bad (h5 : Rp q B N) (h1 : HM k (q, oo)) (h2 : MM r (B, sN N 4 0 n)) (h3 : nI n = k) (h4 : ¬ k = 0) : pk V HM MM := ⟨k, _, r, _, h1, h2, h3, fun z => (h4 z).elim, h5.thrown n⟩
theorem Rp.n8 (h : Rp q B N) : ∀ c, c < 2 → N 0 c < 8 := fun c hc => (h.1.2.2.2.2.2.1 c hc).1
theorem vZ_eq {x y : Int32} (h : x = y) : (if x = 0 then 0 else 1 : Int64) = vZ y := by rw [h]; rfl
theorem vJ_eq {x y : Int32} (h : x = y) : x.toInt64 = vJ y := by rw [h]; rfl
theorem mIsC_no {y : Int32} (h0 : ¬ y = 0) (h1 : ¬ y = 1) : mIsC y = false := by unfold mIsC; rw [decide_eq_false h0, decide_eq_false (show ¬ y = nI 1 from h1)]; rfl
theorem up_to {y : Int32} {n : Nat} (hn : n < 2 ^ 31) (h : ¬ (y < 0 ∨ nI n < y)) : ∃ j, j ≤ n ∧ y = nI j := by
  obtain ⟨j, hj, rfl⟩ := nI_of (fun z => h (Or.inl z))
  refine ⟨j, ?_, rfl⟩
  have := mt (nI_ltI hn hj).mpr (fun z => h (Or.inr z))
  omega
theorem not_lit {y : Int32} {n j : Nat} (hn : n < 2 ^ 31) (hj : j ≤ n) (h : y < 0 ∨ nI n < y) : ¬ y = nI j := by
  rintro rfl
  rcases h with h | h
  · exact nI_pos (by omega) h
  · exact nI_nlt hj hn h
end PK
abbrev hH (l : Launch) (dC : Nat → ClassId) (dI : Nat → Nat → Nat) (hx hc hh ho : Nat) (cJ : ClassId) (y : MethodName) (ws : List Cond) (rm : Room) (av : List Value) (q : PS) (o : Nat → Int64) : Int32 → PS × (Nat → Int64) → Prop := fun k g => ∀ sz, xh_M l y ws rm av sz (dC, dI) vwCl [(cJ, .long)] (lh hx hc hh ho cJ (q, o)) (some (.int k)) (lh hx hc hh ho cJ g)
abbrev hO (l : Launch) (dC : Nat → ClassId) (dI : Nat → Nat → Nat) (hm : Nat) (a : Nat → Nat) (cA : Nat → ClassId) (y : MethodName) (ws : List Cond) (rm : Room) (av : List Value) (B : Nat → Nat → Bool) (N : Nat → Nat → Nat) : Int32 → (Nat → Nat → Bool) × (Nat → Nat → Nat) → Prop := fun r z => ∀ sz, xc_M l y ws rm av sz (dC, dI) vwCl (mtys cA) [] (mw hm a cA (B, N)) (some (.int r)) (mw hm a cA z) 0 0
theorem pk_line (l : Launch) (htr : l.stackTraces = false) (dC : Nat → ClassId) (dI : Nat → Nat → Nat) (hx hc hh ho : Nat) (cJ : ClassId) (hm : Nat) (a : Nat → Nat) (cA : Nat → ClassId) (u0 u1 : Nat → Int32) (ea : Int32) (o : Nat → Int64) (B : Nat → Nat → Bool) (N : Nat → Nat → Nat) (h : Rp (u0, u1, ea) B N) (y : Int32) (x : Bool) : pk vZ (hH l dC dI hx hc hh ho cJ yL_line wsL_line ({ frames := 7, cells := 1, slots := 6, locals := 113 }) [.ref hx, .int y, .int (bI x), .ref ho] (u0, u1, ea) o) (hO l dC dI hm a cA yX2_line wsX2_line ({ frames := 4, cells := 0, slots := 0, locals := 89 }) [.ref hm, .int y, .int (bI x)] B N) := by
  by_cases hbad : y < 0 ∨ 16 ≤ y ∨ y = 2
  · exact pk.bad h (fun sz => L_line_t1 l dC dI hx hc hh ho cJ sz (u0, u1, ea) o y (bI x) (t_line l htr dC dI hx hc hh u0 u1 ea y (bI x) hbad)) (fun sz => c2_line_bad l dC dI hm a cA sz B N y x hbad) (n := 1) (by decide) (by decide)
  · have hk0 : ¬ y < 0 := fun z => hbad (Or.inl z)
    have hk1 : ¬ 16 ≤ y := fun z => hbad (Or.inr (Or.inl z))
    have hk2 : ¬ y = 2 := fun z => hbad (Or.inr (Or.inr z))
    obtain ⟨k, hk, rfl⟩ := nI_of hk0
    have hk16 : k < 16 := by
      have := mt (nI_leI (by decide : 16 < 2 ^ 31) hk).mpr hk1
      omega
    have hkn : k ≠ 2 := by rintro rfl; exact hk2 rfl
    have r := (h.thrown 0).1.line hk16 hkn x
    exact pk.ok (fun sz => L_line_ok l dC dI hx hc hh ho cJ sz (u0, u1, ea) _ o (nI k) (bI x) _ (fun sz => c_line l dC dI hx hc hh sz u0 u1 ea (nI k) (bI x) hk0 hk1 hk2)) (fun sz => c2_line_ok l dC dI hm a cA sz B N k x hk16 hkn h.n8) rfl (vZ_eq r.1) r.2
theorem pk_write (l : Launch) (htr : l.stackTraces = false) (dC : Nat → ClassId) (dI : Nat → Nat → Nat) (hx hc hh ho : Nat) (cJ : ClassId) (hm : Nat) (a : Nat → Nat) (cA : Nat → ClassId) (u0 u1 : Nat → Int32) (ea : Int32) (o : Nat → Int64) (B : Nat → Nat → Bool) (N : Nat → Nat → Nat) (h : Rp (u0, u1, ea) B N) (y p w : Int32) : pk vZ (hH l dC dI hx hc hh ho cJ yL_write wsL_write ({ frames := 8, cells := 1, slots := 6, locals := 144 }) [.ref hx, .int y, .int p, .int w, .ref ho] (u0, u1, ea) o) (hO l dC dI hm a cA yX2_write wsX2_write ({ frames := 5, cells := 0, slots := 0, locals := 113 }) [.ref hm, .int y, .int p, .int w] B N) := by
  by_cases y0 : y = 0
  · subst y0
    by_cases p0 : p = 0
    · subst p0
      by_cases hw : w < 0 ∨ nI 255 < w
      · exact pk.bad h (fun sz => L_write_t2 l dC dI hx hc hh ho cJ sz (u0, u1, ea) o 0 0 w (t_write_w00 l htr dC dI hx hc hh u0 u1 ea w (hw.imp_right fun z => Int32.not_le.mpr z))) (fun sz => c2_write_bad2 l dC dI hm a cA sz B N 0 0 w rfl (Or.inl rfl) hw) (n := 2) (by decide) (by decide)
      · obtain ⟨j, hj, rfl⟩ := up_to (by decide) hw
        have h1 := h.thrown 0
        have r := h1.1.st0 (St.p0 h1.1.1 (by decide) h1.1.2.2.2.2.2.1 h1.1.2.2.2.2.2.2 (w := j) (by omega))
        exact pk.ok (fun sz => L_write_ok l dC dI hx hc hh ho cJ sz (u0, u1, ea) _ o 0 0 (nI j) _ (fun sz => c_write_0_0 l dC dI hx hc hh sz u0 u1 ea (nI j) (nI_pos (by omega)) (nI_le hj (by decide)))) (fun sz => c2_write_ok0 l dC dI hm a cA sz B N 0 j (by decide) (by omega) h.n8 (h.1.2.2.2.2.2.1 0 (by decide)).2.1) r.2.2 (vZ_eq r.2.1) r.1
    · by_cases p1 : p = 1
      · subst p1
        by_cases hw : w < 0 ∨ nI 255 < w
        · exact pk.bad h (fun sz => L_write_t2 l dC dI hx hc hh ho cJ sz (u0, u1, ea) o 0 1 w (t_write_w01 l htr dC dI hx hc hh u0 u1 ea w (hw.imp_right fun z => Int32.not_le.mpr z))) (fun sz => c2_write_bad2 l dC dI hm a cA sz B N 0 1 w rfl (Or.inr rfl) hw) (n := 2) (by decide) (by decide)
        · obtain ⟨j, hj, rfl⟩ := up_to (by decide) hw
          have h1 := h.thrown 0
          have r := h1.1.st0 (St.second h1.1.1 (by decide) h1.1.2.2.2.2.2.1 h1.1.2.2.2.2.2.2 (w := j) (by omega))
          exact pk.ok (fun sz => L_write_ok l dC dI hx hc hh ho cJ sz (u0, u1, ea) _ o 0 1 (nI j) _ (fun sz => c_write_0_1 l dC dI hx hc hh sz u0 u1 ea (nI j) (nI_pos (by omega)) (nI_le hj (by decide)))) (fun sz => c2_write_ok1 l dC dI hm a cA sz B N 0 j (by decide) (by omega) h.n8 (h.1.2.2.2.2.2.1 0 (by decide)).2.1) r.2.2 (vZ_eq r.2.1) r.1
      · exact pk.bad h (fun sz => L_write_t1 l dC dI hx hc hh ho cJ sz (u0, u1, ea) o 0 p w (t_write_p0 l htr dC dI hx hc hh u0 u1 ea p w p0 p1)) (fun sz => c2_write_bad1 l dC dI hm a cA sz B N 0 p w (Or.inr ⟨p0, p1⟩)) (n := 1) (by decide) (by decide)
  · by_cases y1 : y = 1
    · subst y1
      by_cases p0 : p = 0
      · subst p0
        by_cases hw : w < 0 ∨ nI 255 < w
        · exact pk.bad h (fun sz => L_write_t2 l dC dI hx hc hh ho cJ sz (u0, u1, ea) o 1 0 w (t_write_w10 l htr dC dI hx hc hh u0 u1 ea w (hw.imp_right fun z => Int32.not_le.mpr z))) (fun sz => c2_write_bad2 l dC dI hm a cA sz B N 1 0 w rfl (Or.inl rfl) hw) (n := 2) (by decide) (by decide)
        · obtain ⟨j, hj, rfl⟩ := up_to (by decide) hw
          have h1 := h.thrown 0
          have r := h1.1.st1 (St.p0 h1.1.2.1 (by decide) h1.1.2.2.2.2.2.1 h1.1.2.2.2.2.2.2 (w := j) (by omega))
          exact pk.ok (fun sz => L_write_ok l dC dI hx hc hh ho cJ sz (u0, u1, ea) _ o 1 0 (nI j) _ (fun sz => c_write_1_0 l dC dI hx hc hh sz u0 u1 ea (nI j) (nI_pos (by omega)) (nI_le hj (by decide)))) (fun sz => c2_write_ok0 l dC dI hm a cA sz B N 1 j (by decide) (by omega) h.n8 (h.1.2.2.2.2.2.1 1 (by decide)).2.1) r.2.2 (vZ_eq r.2.1) r.1
      · by_cases p1 : p = 1
        · subst p1
          by_cases hw : w < 0 ∨ nI 255 < w
          · exact pk.bad h (fun sz => L_write_t2 l dC dI hx hc hh ho cJ sz (u0, u1, ea) o 1 1 w (t_write_w11 l htr dC dI hx hc hh u0 u1 ea w (hw.imp_right fun z => Int32.not_le.mpr z))) (fun sz => c2_write_bad2 l dC dI hm a cA sz B N 1 1 w rfl (Or.inr rfl) hw) (n := 2) (by decide) (by decide)
          · obtain ⟨j, hj, rfl⟩ := up_to (by decide) hw
            have h1 := h.thrown 0
            have r := h1.1.st1 (St.second h1.1.2.1 (by decide) h1.1.2.2.2.2.2.1 h1.1.2.2.2.2.2.2 (w := j) (by omega))
            exact pk.ok (fun sz => L_write_ok l dC dI hx hc hh ho cJ sz (u0, u1, ea) _ o 1 1 (nI j) _ (fun sz => c_write_1_1 l dC dI hx hc hh sz u0 u1 ea (nI j) (nI_pos (by omega)) (nI_le hj (by decide)))) (fun sz => c2_write_ok1 l dC dI hm a cA sz B N 1 j (by decide) (by omega) h.n8 (h.1.2.2.2.2.2.1 1 (by decide)).2.1) r.2.2 (vZ_eq r.2.1) r.1
        · exact pk.bad h (fun sz => L_write_t1 l dC dI hx hc hh ho cJ sz (u0, u1, ea) o 1 p w (t_write_p1 l htr dC dI hx hc hh u0 u1 ea p w p0 p1)) (fun sz => c2_write_bad1 l dC dI hm a cA sz B N 1 p w (Or.inr ⟨p0, p1⟩)) (n := 1) (by decide) (by decide)
    · exact pk.bad h (fun sz => L_write_t1 l dC dI hx hc hh ho cJ sz (u0, u1, ea) o y p w (t_write_c l htr dC dI hx hc hh u0 u1 ea y p w y0 y1)) (fun sz => c2_write_bad1 l dC dI hm a cA sz B N y p w (Or.inl (mIsC_no y0 y1))) (n := 1) (by decide) (by decide)
theorem pk_read (l : Launch) (htr : l.stackTraces = false) (dC : Nat → ClassId) (dI : Nat → Nat → Nat) (hx hc hh ho : Nat) (cJ : ClassId) (hm : Nat) (a : Nat → Nat) (cA : Nat → ClassId) (u0 u1 : Nat → Int32) (ea : Int32) (o : Nat → Int64) (B : Nat → Nat → Bool) (N : Nat → Nat → Nat) (h : Rp (u0, u1, ea) B N) (y p : Int32) : pk vJ (hH l dC dI hx hc hh ho cJ yL_read wsL_read ({ frames := 8, cells := 1, slots := 6, locals := 144 }) [.ref hx, .int y, .int p, .ref ho] (u0, u1, ea) o) (hO l dC dI hm a cA yX2_read wsX2_read ({ frames := 4, cells := 0, slots := 0, locals := 89 }) [.ref hm, .int y, .int p] B N) := by
  by_cases y0 : y = 0
  · subst y0
    have h1 := h.thrown 0
    by_cases p0 : p = 0
    · subst p0
      have r := h1.read0
      exact pk.ok (fun sz => L_read_ok l dC dI hx hc hh ho cJ sz (u0, u1, ea) _ o 0 0 _ (fun sz => c_read_0_0 l dC dI hx hc hh sz u0 u1 ea)) (fun sz => c2_read_ok0 l dC dI hm a cA sz B N 0 (by decide) h.n8 (h.1.2.2.2.2.2.1 0 (by decide)).2.2) r.2.2 (vJ_eq r.1) r.2.1
    · by_cases p1 : p = 1
      · subst p1
        exact pk.ok (fun sz => L_read_ok l dC dI hx hc hh ho cJ sz (u0, u1, ea) _ o 0 1 _ (fun sz => c_read_0_1 l dC dI hx hc hh sz u0 u1 ea)) (fun sz => c2_read_ok1 l dC dI hm a cA sz B N 0 (by decide)) rfl (vJ_eq h1.1.1.b2) h1
      · exact pk.bad h (fun sz => L_read_t1 l dC dI hx hc hh ho cJ sz (u0, u1, ea) o 0 p (t_read_p0 l htr dC dI hx hc hh u0 u1 ea p p0 p1)) (fun sz => c2_read_bad l dC dI hm a cA sz B N 0 p (Or.inr ⟨p0, p1⟩)) (n := 1) (by decide) (by decide)
  · by_cases y1 : y = 1
    · subst y1
      have h1 := h.thrown 0
      by_cases p0 : p = 0
      · subst p0
        have r := h1.read1
        exact pk.ok (fun sz => L_read_ok l dC dI hx hc hh ho cJ sz (u0, u1, ea) _ o 1 0 _ (fun sz => c_read_1_0 l dC dI hx hc hh sz u0 u1 ea)) (fun sz => c2_read_ok0 l dC dI hm a cA sz B N 1 (by decide) h.n8 (h.1.2.2.2.2.2.1 1 (by decide)).2.2) r.2.2 (vJ_eq r.1) r.2.1
      · by_cases p1 : p = 1
        · subst p1
          exact pk.ok (fun sz => L_read_ok l dC dI hx hc hh ho cJ sz (u0, u1, ea) _ o 1 1 _ (fun sz => c_read_1_1 l dC dI hx hc hh sz u0 u1 ea)) (fun sz => c2_read_ok1 l dC dI hm a cA sz B N 1 (by decide)) rfl (vJ_eq h1.1.2.1.b2) h1
        · exact pk.bad h (fun sz => L_read_t1 l dC dI hx hc hh ho cJ sz (u0, u1, ea) o 1 p (t_read_p1 l htr dC dI hx hc hh u0 u1 ea p p0 p1)) (fun sz => c2_read_bad l dC dI hm a cA sz B N 1 p (Or.inr ⟨p0, p1⟩)) (n := 1) (by decide) (by decide)
    · exact pk.bad h (fun sz => L_read_t1 l dC dI hx hc hh ho cJ sz (u0, u1, ea) o y p (t_read_c l htr dC dI hx hc hh u0 u1 ea y p y0 y1)) (fun sz => c2_read_bad l dC dI hm a cA sz B N y p (Or.inl (mIsC_no y0 y1))) (n := 1) (by decide) (by decide)
theorem pk_delivers (l : Launch) (htr : l.stackTraces = false) (dC : Nat → ClassId) (dI : Nat → Nat → Nat) (hx hc hh ho : Nat) (cJ : ClassId) (hm : Nat) (a : Nat → Nat) (cA : Nat → ClassId) (u0 u1 : Nat → Int32) (ea : Int32) (o : Nat → Int64) (B : Nat → Nat → Bool) (N : Nat → Nat → Nat) (h : Rp (u0, u1, ea) B N) (y : Int32) : pk vJ (hH l dC dI hx hc hh ho cJ yL_delivers wsL_delivers ({ frames := 8, cells := 1, slots := 6, locals := 141 }) [.ref hx, .int y, .ref ho] (u0, u1, ea) o) (hO l dC dI hm a cA yX2_delivers wsX2_delivers ({ frames := 3, cells := 0, slots := 0, locals := 69 }) [.ref hm, .int y] B N) := by
  by_cases y0 : y = 0
  · subst y0
    exact pk.ok (fun sz => L_delivers_ok l dC dI hx hc hh ho cJ sz (u0, u1, ea) o 0 _ (c_delivers_0 l dC dI hx hc hh u0 u1 ea)) (fun sz => c2_delivers_ok l dC dI hm a cA sz B N 0 (by decide) h.n8) rfl (vJ_eq (h.thrown 0).1.del0) (h.thrown 0)
  · by_cases y1 : y = 1
    · subst y1
      exact pk.ok (fun sz => L_delivers_ok l dC dI hx hc hh ho cJ sz (u0, u1, ea) o 1 _ (c_delivers_1 l dC dI hx hc hh u0 u1 ea)) (fun sz => c2_delivers_ok l dC dI hm a cA sz B N 1 (by decide) h.n8) rfl (vJ_eq (h.thrown 0).1.del1) (h.thrown 0)
    · exact pk.bad h (fun sz => L_delivers_t1 l dC dI hx hc hh ho cJ sz (u0, u1, ea) o y (t_delivers l htr dC dI hx hc hh u0 u1 ea y y0 y1)) (fun sz => c2_delivers_bad l dC dI hm a cA sz B N y (mIsC_no y0 y1)) (n := 1) (by decide) (by decide)
theorem pk_about (l : Launch) (htr : l.stackTraces = false) (dC : Nat → ClassId) (dI : Nat → Nat → Nat) (hx hc hh ho : Nat) (cJ : ClassId) (hm : Nat) (a : Nat → Nat) (cA : Nat → ClassId) (u0 u1 : Nat → Int32) (ea : Int32) (o : Nat → Int64) (B : Nat → Nat → Bool) (N : Nat → Nat → Nat) (h : Rp (u0, u1, ea) B N) (y p : Int32) : pk vJ (hH l dC dI hx hc hh ho cJ yL_about wsL_about ({ frames := 8, cells := 1, slots := 6, locals := 143 }) [.ref hx, .int y, .int p, .ref ho] (u0, u1, ea) o) (hO l dC dI hm a cA yX2_about wsX2_about ({ frames := 3, cells := 0, slots := 0, locals := 69 }) [.ref hm, .int y, .int p] B N) := by
  by_cases y0 : y = 0
  · subst y0
    by_cases hp : p < 0 ∨ nI 7 < p
    · exact pk.bad h (fun sz => L_about_t2 l dC dI hx hc hh ho cJ sz (u0, u1, ea) o 0 p (t_about_i0 l htr dC dI hx hc hh u0 u1 ea p (not_lit (j := 0) (by decide) (by decide) hp) (not_lit (j := 1) (by decide) (by decide) hp) (not_lit (j := 2) (by decide) (by decide) hp) (not_lit (j := 3) (by decide) (by decide) hp) (not_lit (j := 4) (by decide) (by decide) hp) (not_lit (j := 5) (by decide) (by decide) hp) (not_lit (j := 6) (by decide) (by decide) hp) (not_lit (j := 7) (by decide) (by decide) hp))) (fun sz => c2_about_bad2 l dC dI hm a cA sz B N 0 p rfl hp) (n := 2) (by decide) (by decide)
    · obtain ⟨j, hj, rfl⟩ := up_to (by decide) hp
      have h1 := h.thrown 0
      rcases (show j = 0 ∨ j = 1 ∨ j = 2 ∨ j = 3 ∨ j = 4 ∨ j = 5 ∨ j = 6 ∨ j = 7 by omega) with rfl | rfl | rfl | rfl | rfl | rfl | rfl | rfl
      · exact pk.ok (fun sz => L_about_ok l dC dI hx hc hh ho cJ sz (u0, u1, ea) o 0 0 _ (c_about_0_0 l dC dI hx hc hh u0 u1 ea)) (fun sz => c2_about_ok0 l dC dI hm a cA sz B N 0 (by decide)) rfl (vJ_eq h1.1.1.b0) h1
      · exact pk.ok (fun sz => L_about_ok l dC dI hx hc hh ho cJ sz (u0, u1, ea) o 0 1 _ (c_about_0_1 l dC dI hx hc hh u0 u1 ea)) (fun sz => c2_about_ok1 l dC dI hm a cA sz B N 0 (by decide)) rfl (vJ_eq h1.1.1.b1) h1
      · exact pk.ok (fun sz => L_about_ok l dC dI hx hc hh ho cJ sz (u0, u1, ea) o 0 2 _ (c_about_0_2 l dC dI hx hc hh u0 u1 ea)) (fun sz => c2_about_ok2 l dC dI hm a cA sz B N 0 (by decide)) rfl (vJ_eq h1.1.1.b2) h1
      · exact pk.ok (fun sz => L_about_ok l dC dI hx hc hh ho cJ sz (u0, u1, ea) o 0 3 _ (c_about_0_3 l dC dI hx hc hh u0 u1 ea)) (fun sz => c2_about_ok3 l dC dI hm a cA sz B N 0 (by decide)) rfl (vJ_eq h1.1.1.b3) h1
      · exact pk.ok (fun sz => L_about_ok l dC dI hx hc hh ho cJ sz (u0, u1, ea) o 0 4 _ (c_about_0_4 l dC dI hx hc hh u0 u1 ea)) (fun sz => c2_about_ok4 l dC dI hm a cA sz B N 0 (by decide)) rfl (vJ_eq h1.1.1.2.2.1.1) h1
      · exact pk.ok (fun sz => L_about_ok l dC dI hx hc hh ho cJ sz (u0, u1, ea) o 0 5 _ (c_about_0_5 l dC dI hx hc hh u0 u1 ea)) (fun sz => c2_about_ok5 l dC dI hm a cA sz B N 0 (by decide)) rfl (vJ_eq h1.1.1.2.2.1.2.1) h1
      · exact pk.ok (fun sz => L_about_ok l dC dI hx hc hh ho cJ sz (u0, u1, ea) o 0 6 _ (c_about_0_6 l dC dI hx hc hh u0 u1 ea)) (fun sz => c2_about_ok6 l dC dI hm a cA sz B N 0 (by decide)) rfl (vJ_eq h1.1.1.2.2.1.2.2.1) h1
      · exact pk.ok (fun sz => L_about_ok l dC dI hx hc hh ho cJ sz (u0, u1, ea) o 0 7 _ (c_about_0_7 l dC dI hx hc hh u0 u1 ea)) (fun sz => c2_about_ok7 l dC dI hm a cA sz B N 0 (by decide)) rfl (vJ_eq h1.1.1.2.2.1.2.2.2) h1
  · by_cases y1 : y = 1
    · subst y1
      by_cases hp : p < 0 ∨ nI 7 < p
      · exact pk.bad h (fun sz => L_about_t2 l dC dI hx hc hh ho cJ sz (u0, u1, ea) o 1 p (t_about_i1 l htr dC dI hx hc hh u0 u1 ea p (not_lit (j := 0) (by decide) (by decide) hp) (not_lit (j := 1) (by decide) (by decide) hp) (not_lit (j := 2) (by decide) (by decide) hp) (not_lit (j := 3) (by decide) (by decide) hp) (not_lit (j := 4) (by decide) (by decide) hp) (not_lit (j := 5) (by decide) (by decide) hp) (not_lit (j := 6) (by decide) (by decide) hp) (not_lit (j := 7) (by decide) (by decide) hp))) (fun sz => c2_about_bad2 l dC dI hm a cA sz B N 1 p rfl hp) (n := 2) (by decide) (by decide)
      · obtain ⟨j, hj, rfl⟩ := up_to (by decide) hp
        have h1 := h.thrown 0
        rcases (show j = 0 ∨ j = 1 ∨ j = 2 ∨ j = 3 ∨ j = 4 ∨ j = 5 ∨ j = 6 ∨ j = 7 by omega) with rfl | rfl | rfl | rfl | rfl | rfl | rfl | rfl
        · exact pk.ok (fun sz => L_about_ok l dC dI hx hc hh ho cJ sz (u0, u1, ea) o 1 0 _ (c_about_1_0 l dC dI hx hc hh u0 u1 ea)) (fun sz => c2_about_ok0 l dC dI hm a cA sz B N 1 (by decide)) rfl (vJ_eq h1.1.2.1.b0) h1
        · exact pk.ok (fun sz => L_about_ok l dC dI hx hc hh ho cJ sz (u0, u1, ea) o 1 1 _ (c_about_1_1 l dC dI hx hc hh u0 u1 ea)) (fun sz => c2_about_ok1 l dC dI hm a cA sz B N 1 (by decide)) rfl (vJ_eq h1.1.2.1.b1) h1
        · exact pk.ok (fun sz => L_about_ok l dC dI hx hc hh ho cJ sz (u0, u1, ea) o 1 2 _ (c_about_1_2 l dC dI hx hc hh u0 u1 ea)) (fun sz => c2_about_ok2 l dC dI hm a cA sz B N 1 (by decide)) rfl (vJ_eq h1.1.2.1.b2) h1
        · exact pk.ok (fun sz => L_about_ok l dC dI hx hc hh ho cJ sz (u0, u1, ea) o 1 3 _ (c_about_1_3 l dC dI hx hc hh u0 u1 ea)) (fun sz => c2_about_ok3 l dC dI hm a cA sz B N 1 (by decide)) rfl (vJ_eq h1.1.2.1.b3) h1
        · exact pk.ok (fun sz => L_about_ok l dC dI hx hc hh ho cJ sz (u0, u1, ea) o 1 4 _ (c_about_1_4 l dC dI hx hc hh u0 u1 ea)) (fun sz => c2_about_ok4 l dC dI hm a cA sz B N 1 (by decide)) rfl (vJ_eq h1.1.2.1.2.2.1.1) h1
        · exact pk.ok (fun sz => L_about_ok l dC dI hx hc hh ho cJ sz (u0, u1, ea) o 1 5 _ (c_about_1_5 l dC dI hx hc hh u0 u1 ea)) (fun sz => c2_about_ok5 l dC dI hm a cA sz B N 1 (by decide)) rfl (vJ_eq h1.1.2.1.2.2.1.2.1) h1
        · exact pk.ok (fun sz => L_about_ok l dC dI hx hc hh ho cJ sz (u0, u1, ea) o 1 6 _ (c_about_1_6 l dC dI hx hc hh u0 u1 ea)) (fun sz => c2_about_ok6 l dC dI hm a cA sz B N 1 (by decide)) rfl (vJ_eq h1.1.2.1.2.2.1.2.2.1) h1
        · exact pk.ok (fun sz => L_about_ok l dC dI hx hc hh ho cJ sz (u0, u1, ea) o 1 7 _ (c_about_1_7 l dC dI hx hc hh u0 u1 ea)) (fun sz => c2_about_ok7 l dC dI hm a cA sz B N 1 (by decide)) rfl (vJ_eq h1.1.2.1.2.2.1.2.2.2) h1
    · exact pk.bad h (fun sz => L_about_t1 l dC dI hx hc hh ho cJ sz (u0, u1, ea) o y p (t_about_c l htr dC dI hx hc hh u0 u1 ea y p y0 y1)) (fun sz => c2_about_bad1 l dC dI hm a cA sz B N y p (mIsC_no y0 y1)) (n := 1) (by decide) (by decide)
theorem pk_mode (l : Launch) (htr : l.stackTraces = false) (dC : Nat → ClassId) (dI : Nat → Nat → Nat) (hx hc hh ho : Nat) (cJ : ClassId) (hm : Nat) (a : Nat → Nat) (cA : Nat → ClassId) (u0 u1 : Nat → Int32) (ea : Int32) (o : Nat → Int64) (B : Nat → Nat → Bool) (N : Nat → Nat → Nat) (h : Rp (u0, u1, ea) B N) (y p : Int32) : pk vZ (hH l dC dI hx hc hh ho cJ yL_mode wsL_mode ({ frames := 8, cells := 1, slots := 6, locals := 143 }) [.ref hx, .int y, .int p, .ref ho] (u0, u1, ea) o) (hO l dC dI hm a cA yX2_mode wsX2_mode ({ frames := 1, cells := 0, slots := 0, locals := 22 }) [.ref hm, .int y, .int p] B N) := by
  by_cases y0 : y = 0
  · subst y0
    by_cases hp : p < 0 ∨ nI 6 < p
    · exact pk.bad h (fun sz => L_mode_t2 l dC dI hx hc hh ho cJ sz (u0, u1, ea) o 0 p (t_mode_i0 l htr dC dI hx hc hh u0 u1 ea p (not_lit (j := 0) (by decide) (by decide) hp) (not_lit (j := 1) (by decide) (by decide) hp) (not_lit (j := 2) (by decide) (by decide) hp) (not_lit (j := 3) (by decide) (by decide) hp) (not_lit (j := 4) (by decide) (by decide) hp) (not_lit (j := 5) (by decide) (by decide) hp) (not_lit (j := 6) (by decide) (by decide) hp))) (fun sz => c2_mode_bad2 l dC dI hm a cA sz B N 0 p rfl hp) (n := 2) (by decide) (by decide)
    · obtain ⟨j, hj, rfl⟩ := up_to (by decide) hp
      have h1 := h.thrown 0
      rcases (show j = 0 ∨ j = 1 ∨ j = 2 ∨ j = 3 ∨ j = 4 ∨ j = 5 ∨ j = 6 by omega) with rfl | rfl | rfl | rfl | rfl | rfl | rfl
      · exact pk.ok (fun sz => L_mode_ok l dC dI hx hc hh ho cJ sz (u0, u1, ea) o 0 0 _ (c_mode_0_0 l dC dI hx hc hh u0 u1 ea (lpOk_of h.1.1))) (fun sz => c2_mode_ok0 l dC dI hm a cA sz B N 0 (by decide)) rfl (vZ_eq h1.1.1.2.2.2.2.1) h1
      · exact pk.ok (fun sz => L_mode_ok l dC dI hx hc hh ho cJ sz (u0, u1, ea) o 0 1 _ (c_mode_0_1 l dC dI hx hc hh u0 u1 ea (lpOk_of h.1.1))) (fun sz => c2_mode_ok1 l dC dI hm a cA sz B N 0 (by decide)) rfl (vZ_eq h1.1.1.2.2.2.2.2.1) h1
      · exact pk.ok (fun sz => L_mode_ok l dC dI hx hc hh ho cJ sz (u0, u1, ea) o 0 2 _ (c_mode_0_2 l dC dI hx hc hh u0 u1 ea (lpOk_of h.1.1))) (fun sz => c2_mode_ok2 l dC dI hm a cA sz B N 0 (by decide)) rfl (vZ_eq h1.1.1.2.2.2.2.2.2.1) h1
      · exact pk.ok (fun sz => L_mode_ok l dC dI hx hc hh ho cJ sz (u0, u1, ea) o 0 3 _ (c_mode_0_3 l dC dI hx hc hh u0 u1 ea (lpOk_of h.1.1))) (fun sz => c2_mode_ok3 l dC dI hm a cA sz B N 0 (by decide)) rfl (vZ_eq h1.1.1.2.2.2.2.2.2.2.1) h1
      · exact pk.ok (fun sz => L_mode_ok l dC dI hx hc hh ho cJ sz (u0, u1, ea) o 0 4 _ (c_mode_0_4 l dC dI hx hc hh u0 u1 ea (lpOk_of h.1.1))) (fun sz => c2_mode_ok4 l dC dI hm a cA sz B N 0 (by decide)) rfl (vZ_eq h1.1.1.2.2.2.2.2.2.2.2.1) h1
      · exact pk.ok (fun sz => L_mode_ok l dC dI hx hc hh ho cJ sz (u0, u1, ea) o 0 5 _ (c_mode_0_5 l dC dI hx hc hh u0 u1 ea (lpOk_of h.1.1))) (fun sz => c2_mode_ok5 l dC dI hm a cA sz B N 0 (by decide)) rfl (vZ_eq h1.1.1.2.2.2.2.2.2.2.2.2.1) h1
      · exact pk.ok (fun sz => L_mode_ok l dC dI hx hc hh ho cJ sz (u0, u1, ea) o 0 6 _ (c_mode_0_6 l dC dI hx hc hh u0 u1 ea (lpOk_of h.1.1))) (fun sz => c2_mode_ok6 l dC dI hm a cA sz B N 0 (by decide)) rfl (vZ_eq h1.1.1.2.2.2.2.2.2.2.2.2.2) h1
  · by_cases y1 : y = 1
    · subst y1
      by_cases hp : p < 0 ∨ nI 6 < p
      · exact pk.bad h (fun sz => L_mode_t2 l dC dI hx hc hh ho cJ sz (u0, u1, ea) o 1 p (t_mode_i1 l htr dC dI hx hc hh u0 u1 ea p (not_lit (j := 0) (by decide) (by decide) hp) (not_lit (j := 1) (by decide) (by decide) hp) (not_lit (j := 2) (by decide) (by decide) hp) (not_lit (j := 3) (by decide) (by decide) hp) (not_lit (j := 4) (by decide) (by decide) hp) (not_lit (j := 5) (by decide) (by decide) hp) (not_lit (j := 6) (by decide) (by decide) hp))) (fun sz => c2_mode_bad2 l dC dI hm a cA sz B N 1 p rfl hp) (n := 2) (by decide) (by decide)
      · obtain ⟨j, hj, rfl⟩ := up_to (by decide) hp
        have h1 := h.thrown 0
        rcases (show j = 0 ∨ j = 1 ∨ j = 2 ∨ j = 3 ∨ j = 4 ∨ j = 5 ∨ j = 6 by omega) with rfl | rfl | rfl | rfl | rfl | rfl | rfl
        · exact pk.ok (fun sz => L_mode_ok l dC dI hx hc hh ho cJ sz (u0, u1, ea) o 1 0 _ (c_mode_1_0 l dC dI hx hc hh u0 u1 ea (lpOk_of h.1.2.1))) (fun sz => c2_mode_ok0 l dC dI hm a cA sz B N 1 (by decide)) rfl (vZ_eq h1.1.2.1.2.2.2.2.1) h1
        · exact pk.ok (fun sz => L_mode_ok l dC dI hx hc hh ho cJ sz (u0, u1, ea) o 1 1 _ (c_mode_1_1 l dC dI hx hc hh u0 u1 ea (lpOk_of h.1.2.1))) (fun sz => c2_mode_ok1 l dC dI hm a cA sz B N 1 (by decide)) rfl (vZ_eq h1.1.2.1.2.2.2.2.2.1) h1
        · exact pk.ok (fun sz => L_mode_ok l dC dI hx hc hh ho cJ sz (u0, u1, ea) o 1 2 _ (c_mode_1_2 l dC dI hx hc hh u0 u1 ea (lpOk_of h.1.2.1))) (fun sz => c2_mode_ok2 l dC dI hm a cA sz B N 1 (by decide)) rfl (vZ_eq h1.1.2.1.2.2.2.2.2.2.1) h1
        · exact pk.ok (fun sz => L_mode_ok l dC dI hx hc hh ho cJ sz (u0, u1, ea) o 1 3 _ (c_mode_1_3 l dC dI hx hc hh u0 u1 ea (lpOk_of h.1.2.1))) (fun sz => c2_mode_ok3 l dC dI hm a cA sz B N 1 (by decide)) rfl (vZ_eq h1.1.2.1.2.2.2.2.2.2.2.1) h1
        · exact pk.ok (fun sz => L_mode_ok l dC dI hx hc hh ho cJ sz (u0, u1, ea) o 1 4 _ (c_mode_1_4 l dC dI hx hc hh u0 u1 ea (lpOk_of h.1.2.1))) (fun sz => c2_mode_ok4 l dC dI hm a cA sz B N 1 (by decide)) rfl (vZ_eq h1.1.2.1.2.2.2.2.2.2.2.2.1) h1
        · exact pk.ok (fun sz => L_mode_ok l dC dI hx hc hh ho cJ sz (u0, u1, ea) o 1 5 _ (c_mode_1_5 l dC dI hx hc hh u0 u1 ea (lpOk_of h.1.2.1))) (fun sz => c2_mode_ok5 l dC dI hm a cA sz B N 1 (by decide)) rfl (vZ_eq h1.1.2.1.2.2.2.2.2.2.2.2.2.1) h1
        · exact pk.ok (fun sz => L_mode_ok l dC dI hx hc hh ho cJ sz (u0, u1, ea) o 1 6 _ (c_mode_1_6 l dC dI hx hc hh u0 u1 ea (lpOk_of h.1.2.1))) (fun sz => c2_mode_ok6 l dC dI hm a cA sz B N 1 (by decide)) rfl (vZ_eq h1.1.2.1.2.2.2.2.2.2.2.2.2.2) h1
    · exact pk.bad h (fun sz => L_mode_t1 l dC dI hx hc hh ho cJ sz (u0, u1, ea) o y p (t_mode_c l htr dC dI hx hc hh u0 u1 ea y p y0 y1)) (fun sz => c2_mode_bad1 l dC dI hm a cA sz B N y p (mIsC_no y0 y1)) (n := 1) (by decide) (by decide)
theorem pk_count (l : Launch) (htr : l.stackTraces = false) (dC : Nat → ClassId) (dI : Nat → Nat → Nat) (hx hc hh ho : Nat) (cJ : ClassId) (hm : Nat) (a : Nat → Nat) (cA : Nat → ClassId) (u0 u1 : Nat → Int32) (ea : Int32) (o : Nat → Int64) (B : Nat → Nat → Bool) (N : Nat → Nat → Nat) (h : Rp (u0, u1, ea) B N) (p : Int32) : pk vJ (hH l dC dI hx hc hh ho cJ yL_count wsL_count ({ frames := 7, cells := 1, slots := 6, locals := 111 }) [.ref hx, .int p, .ref ho] (u0, u1, ea) o) (hO l dC dI hm a cA yX2_count wsX2_count ({ frames := 1, cells := 0, slots := 0, locals := 22 }) [.ref hm, .int p] B N) := by
  by_cases hp : p < 0 ∨ nI 2 < p
  · exact pk.bad h (fun sz => L_count_t1 l dC dI hx hc hh ho cJ sz (u0, u1, ea) o p (t_count l htr dC dI hx hc hh u0 u1 ea p (not_lit (j := 0) (by decide) (by decide) hp) (not_lit (j := 1) (by decide) (by decide) hp) (not_lit (j := 2) (by decide) (by decide) hp))) (fun sz => c2_count_bad l dC dI hm a cA sz B N p hp) (n := 1) (by decide) (by decide)
  · obtain ⟨j, hj, rfl⟩ := up_to (by decide) hp
    have h1 := h.thrown 0
    rcases (show j = 0 ∨ j = 1 ∨ j = 2 by omega) with rfl | rfl | rfl
    · exact pk.ok (fun sz => L_count_ok l dC dI hx hc hh ho cJ sz (u0, u1, ea) o 0 _ (c_count_0 l dC dI hx hc hh u0 u1 ea)) (fun sz => c2_count_ok0 l dC dI hm a cA sz B N) rfl (vJ_eq h.1.2.2.1.symm) h1
    · exact pk.ok (fun sz => L_count_ok l dC dI hx hc hh ho cJ sz (u0, u1, ea) o 1 _ (c_count_1 l dC dI hx hc hh u0 u1 ea)) (fun sz => c2_count_ok1 l dC dI hm a cA sz B N) rfl (vJ_eq h.1.2.2.2.1.symm) h1
    · exact pk.ok (fun sz => L_count_ok l dC dI hx hc hh ho cJ sz (u0, u1, ea) o 2 _ (c_count_2 l dC dI hx hc hh u0 u1 ea)) (fun sz => c2_count_ok2 l dC dI hm a cA sz B N) rfl (vJ_eq h.1.2.2.2.2.1.symm) h1
theorem pk_take (l : Launch) (dC : Nat → ClassId) (dI : Nat → Nat → Nat) (hx hc hh : Nat) (hm : Nat) (a : Nat → Nat) (cA : Nat → ClassId) (u0 u1 : Nat → Int32) (ea : Int32) (B : Nat → Nat → Bool) (N : Nat → Nat → Nat) (h : Rp (u0, u1, ea) B N) : ∃ (r : Int32) (q' : PS) (z : (Nat → Nat → Bool) × (Nat → Nat → Nat)), (∀ sz, xc_M l yX0_take wsX0_take ({ frames := 5, cells := 0, slots := 0, locals := 108 }) [.ref hx] sz (dC, dI) vwCl [] pz (pw hx hc hh (u0, u1, ea)) (some (.int r)) (pw hx hc hh q') 0 0) ∧ hO l dC dI hm a cA yX2_take wsX2_take ({ frames := 4, cells := 0, slots := 0, locals := 89 }) [.ref hm] B N r z ∧ Rp q' z.1 z.2 := by
  have h1 := h.thrown 0
  cases e : mDel B (sN N 4 0 0) 0 with
  | none =>
    have r := h1.take_none e
    refine ⟨_, _, (_, _), fun sz => c_take l dC dI hx hc hh sz u0 u1 ea, ?_, r.2⟩
    rw [r.1]; exact fun sz => c2_take_none l dC dI hm a cA sz B N h.n8 e
  | some k =>
    by_cases hk : k = 2
    · subst hk
      obtain ⟨o, ho, hd1, e1, e2, -⟩ := h1.take_two e
      refine ⟨_, _, (_, _), fun sz => c_take l dC dI hx hc hh sz u0 u1 ea, ?_, e2⟩
      rw [e1]; exact fun sz => c2_take_two l dC dI hm a cA sz B N o ho h.n8 e hd1
    · have r := h1.take_one hk e
      refine ⟨_, _, (_, _), fun sz => c_take l dC dI hx hc hh sz u0 u1 ea, ?_, r.2⟩
      rw [r.1]; exact fun sz => c2_take_one l dC dI hm a cA sz B N k (mDel_lt e) hk h.n8 e
