section
def lw_okq (q : MethodName × Nat) : Prop := (q.1.cls ≠ "java/lang/invoke/MethodHandle" ∧ q.1.cls ≠ "java/lang/invoke/VarHandle") ∧ Cond.instantiable q.1.cls q.2 ∈ tables_1 ∧ Cond.privateMethod q.1 ∈ tables_1 ∧ Cond.instanceMethod q.1 ∈ tables_1
theorem lw_p0 : lw_okq (⟨"LinePair$Controller", "takeDelivered", "()I"⟩, 19) := ⟨⟨by decide +kernel, by decide +kernel⟩, List.mem_of_getElem? (i := 18) (by decide +kernel), List.mem_of_getElem? (i := 112) (by decide +kernel), List.mem_of_getElem? (i := 113) (by decide +kernel)⟩
theorem lw_p1 : lw_okq (⟨"LinePair$Controller", "lineToDeliver", "()I"⟩, 19) := ⟨⟨by decide +kernel, by decide +kernel⟩, List.mem_of_getElem? (i := 18) (by decide +kernel), List.mem_of_getElem? (i := 116) (by decide +kernel), List.mem_of_getElem? (i := 117) (by decide +kernel)⟩
theorem lw_p2 : lw_okq (⟨"LinePair$Controller", "requested", "()I"⟩, 19) := ⟨⟨by decide +kernel, by decide +kernel⟩, List.mem_of_getElem? (i := 18) (by decide +kernel), List.mem_of_getElem? (i := 120) (by decide +kernel), List.mem_of_getElem? (i := 121) (by decide +kernel)⟩
theorem lw_p3 : lw_okq (⟨"LinePair$Controller", "highestOf", "(I)I"⟩, 19) := ⟨⟨by decide +kernel, by decide +kernel⟩, List.mem_of_getElem? (i := 18) (by decide +kernel), List.mem_of_getElem? (i := 124) (by decide +kernel), List.mem_of_getElem? (i := 125) (by decide +kernel)⟩
theorem lw_p4 : lw_okq (⟨"LinePair$Controller", "blockersOf", "(I)I"⟩, 19) := ⟨⟨by decide +kernel, by decide +kernel⟩, List.mem_of_getElem? (i := 18) (by decide +kernel), List.mem_of_getElem? (i := 131) (by decide +kernel), List.mem_of_getElem? (i := 132) (by decide +kernel)⟩
theorem lw_p5 : lw_okq (⟨"LinePair$Controller", "inServiceThatCounts", "()I"⟩, 19) := ⟨⟨by decide +kernel, by decide +kernel⟩, List.mem_of_getElem? (i := 18) (by decide +kernel), List.mem_of_getElem? (i := 135) (by decide +kernel), List.mem_of_getElem? (i := 136) (by decide +kernel)⟩
theorem lw_p6 : lw_okq (⟨"LinePair$Controller", "rankOf", "(I)I"⟩, 19) := ⟨⟨by decide +kernel, by decide +kernel⟩, List.mem_of_getElem? (i := 18) (by decide +kernel), List.mem_of_getElem? (i := 142) (by decide +kernel), List.mem_of_getElem? (i := 143) (by decide +kernel)⟩
theorem lw_p7 : lw_okq (⟨"LinePair", "takeFromHelper", "()I"⟩, 3) := ⟨⟨by decide +kernel, by decide +kernel⟩, List.mem_of_getElem? (i := 10) (by decide +kernel), List.mem_of_getElem? (i := 146) (by decide +kernel), List.mem_of_getElem? (i := 147) (by decide +kernel)⟩
theorem lw_p8 : lw_okq (⟨"LinePair$Controller", "moveLine", "(IZ)Z"⟩, 19) := ⟨⟨by decide +kernel, by decide +kernel⟩, List.mem_of_getElem? (i := 18) (by decide +kernel), List.mem_of_getElem? (i := 150) (by decide +kernel), List.mem_of_getElem? (i := 151) (by decide +kernel)⟩
theorem lw_p9 : lw_okq (⟨"LinePair", "followHelper", "()V"⟩, 3) := ⟨⟨by decide +kernel, by decide +kernel⟩, List.mem_of_getElem? (i := 10) (by decide +kernel), List.mem_of_getElem? (i := 154) (by decide +kernel), List.mem_of_getElem? (i := 155) (by decide +kernel)⟩
theorem lw_p10 : lw_okq (⟨"LinePair$Controller", "numberOf", "(I)I"⟩, 19) := ⟨⟨by decide +kernel, by decide +kernel⟩, List.mem_of_getElem? (i := 18) (by decide +kernel), List.mem_of_getElem? (i := 159) (by decide +kernel), List.mem_of_getElem? (i := 160) (by decide +kernel)⟩
theorem lw_p11 : lw_okq (⟨"java/lang/Throwable", "fillInStackTrace", "(I)Ljava/lang/Throwable;"⟩, 6) := ⟨⟨by decide +kernel, by decide +kernel⟩, List.mem_of_getElem? (i := 208) (by decide +kernel), List.mem_of_getElem? (i := 206) (by decide +kernel), List.mem_of_getElem? (i := 207) (by decide +kernel)⟩
theorem lw_p12 : lw_okq (⟨"LinePair", "controllerNumbered", "(I)LLinePair$Controller;"⟩, 3) := ⟨⟨by decide +kernel, by decide +kernel⟩, List.mem_of_getElem? (i := 10) (by decide +kernel), List.mem_of_getElem? (i := 241) (by decide +kernel), List.mem_of_getElem? (i := 242) (by decide +kernel)⟩
theorem lw_p13 : lw_okq (⟨"LinePair", "checkPort", "(I)V"⟩, 3) := ⟨⟨by decide +kernel, by decide +kernel⟩, List.mem_of_getElem? (i := 10) (by decide +kernel), List.mem_of_getElem? (i := 245) (by decide +kernel), List.mem_of_getElem? (i := 246) (by decide +kernel)⟩
theorem lw_p14 : lw_okq (⟨"LinePair$Controller", "acceptAtPort0", "(I)V"⟩, 19) := ⟨⟨by decide +kernel, by decide +kernel⟩, List.mem_of_getElem? (i := 18) (by decide +kernel), List.mem_of_getElem? (i := 264) (by decide +kernel), List.mem_of_getElem? (i := 265) (by decide +kernel)⟩
theorem lw_p15 : lw_okq (⟨"LinePair$Controller", "begin", "(I)V"⟩, 19) := ⟨⟨by decide +kernel, by decide +kernel⟩, List.mem_of_getElem? (i := 18) (by decide +kernel), List.mem_of_getElem? (i := 268) (by decide +kernel), List.mem_of_getElem? (i := 269) (by decide +kernel)⟩
def lw_privs_1 : List (MethodName × Nat) := [(⟨"LinePair$Controller", "takeDelivered", "()I"⟩, 19), (⟨"LinePair$Controller", "lineToDeliver", "()I"⟩, 19), (⟨"LinePair$Controller", "requested", "()I"⟩, 19), (⟨"LinePair$Controller", "highestOf", "(I)I"⟩, 19), (⟨"LinePair$Controller", "blockersOf", "(I)I"⟩, 19), (⟨"LinePair$Controller", "inServiceThatCounts", "()I"⟩, 19), (⟨"LinePair$Controller", "rankOf", "(I)I"⟩, 19), (⟨"LinePair", "takeFromHelper", "()I"⟩, 3), (⟨"LinePair$Controller", "moveLine", "(IZ)Z"⟩, 19), (⟨"LinePair", "followHelper", "()V"⟩, 3), (⟨"LinePair$Controller", "numberOf", "(I)I"⟩, 19), (⟨"java/lang/Throwable", "fillInStackTrace", "(I)Ljava/lang/Throwable;"⟩, 6), (⟨"LinePair", "controllerNumbered", "(I)LLinePair$Controller;"⟩, 3), (⟨"LinePair", "checkPort", "(I)V"⟩, 3), (⟨"LinePair$Controller", "acceptAtPort0", "(I)V"⟩, 19), (⟨"LinePair$Controller", "begin", "(I)V"⟩, 19)]
theorem lw_r1 : ∀ q ∈ lw_privs_1, lw_okq q := List.forall_mem_cons.mpr ⟨lw_p0, List.forall_mem_cons.mpr ⟨lw_p1, List.forall_mem_cons.mpr ⟨lw_p2, List.forall_mem_cons.mpr ⟨lw_p3, List.forall_mem_cons.mpr ⟨lw_p4, List.forall_mem_cons.mpr ⟨lw_p5, List.forall_mem_cons.mpr ⟨lw_p6, List.forall_mem_cons.mpr ⟨lw_p7, List.forall_mem_cons.mpr ⟨lw_p8, List.forall_mem_cons.mpr ⟨lw_p9, List.forall_mem_cons.mpr ⟨lw_p10, List.forall_mem_cons.mpr ⟨lw_p11, List.forall_mem_cons.mpr ⟨lw_p12, List.forall_mem_cons.mpr ⟨lw_p13, List.forall_mem_cons.mpr ⟨lw_p14, List.forall_mem_cons.mpr ⟨lw_p15, fun _ h => absurd h List.not_mem_nil⟩⟩⟩⟩⟩⟩⟩⟩⟩⟩⟩⟩⟩⟩⟩⟩
theorem lw_p16 : lw_okq (⟨"LinePair$Controller", "choose", "(I)V"⟩, 19) := ⟨⟨by decide +kernel, by decide +kernel⟩, List.mem_of_getElem? (i := 18) (by decide +kernel), List.mem_of_getElem? (i := 272) (by decide +kernel), List.mem_of_getElem? (i := 273) (by decide +kernel)⟩
theorem lw_p17 : lw_okq (⟨"LinePair$Controller", "endOrTurn", "(II)V"⟩, 19) := ⟨⟨by decide +kernel, by decide +kernel⟩, List.mem_of_getElem? (i := 18) (by decide +kernel), List.mem_of_getElem? (i := 276) (by decide +kernel), List.mem_of_getElem? (i := 277) (by decide +kernel)⟩
theorem lw_p18 : lw_okq (⟨"LinePair$Controller", "end", "(I)V"⟩, 19) := ⟨⟨by decide +kernel, by decide +kernel⟩, List.mem_of_getElem? (i := 18) (by decide +kernel), List.mem_of_getElem? (i := 280) (by decide +kernel), List.mem_of_getElem? (i := 281) (by decide +kernel)⟩
theorem lw_p19 : lw_okq (⟨"LinePair$Controller", "endHighestAndTurn", "()V"⟩, 19) := ⟨⟨by decide +kernel, by decide +kernel⟩, List.mem_of_getElem? (i := 18) (by decide +kernel), List.mem_of_getElem? (i := 284) (by decide +kernel), List.mem_of_getElem? (i := 285) (by decide +kernel)⟩
theorem lw_p20 : lw_okq (⟨"LinePair$Controller", "acceptAtPort1", "(I)V"⟩, 19) := ⟨⟨by decide +kernel, by decide +kernel⟩, List.mem_of_getElem? (i := 18) (by decide +kernel), List.mem_of_getElem? (i := 288) (by decide +kernel), List.mem_of_getElem? (i := 289) (by decide +kernel)⟩
theorem lw_p21 : lw_okq (⟨"LinePair$Controller", "answerAtPort0", "()I"⟩, 19) := ⟨⟨by decide +kernel, by decide +kernel⟩, List.mem_of_getElem? (i := 18) (by decide +kernel), List.mem_of_getElem? (i := 299) (by decide +kernel), List.mem_of_getElem? (i := 300) (by decide +kernel)⟩
theorem lw_p22 : lw_okq (⟨"LinePairModel", "goes", "(ZZ)Z"⟩, 14) := ⟨⟨by decide +kernel, by decide +kernel⟩, List.mem_of_getElem? (i := 333) (by decide +kernel), List.mem_of_getElem? (i := 392) (by decide +kernel), List.mem_of_getElem? (i := 393) (by decide +kernel)⟩
theorem lw_p23 : lw_okq (⟨"LinePairModel", "raise", "(IZ)V"⟩, 14) := ⟨⟨by decide +kernel, by decide +kernel⟩, List.mem_of_getElem? (i := 333) (by decide +kernel), List.mem_of_getElem? (i := 396) (by decide +kernel), List.mem_of_getElem? (i := 397) (by decide +kernel)⟩
theorem lw_p24 : lw_okq (⟨"LinePairModel", "follow", "()V"⟩, 14) := ⟨⟨by decide +kernel, by decide +kernel⟩, List.mem_of_getElem? (i := 333) (by decide +kernel), List.mem_of_getElem? (i := 400) (by decide +kernel), List.mem_of_getElem? (i := 401) (by decide +kernel)⟩
theorem lw_p25 : lw_okq (⟨"LinePairModel", "delivered", "(I)I"⟩, 14) := ⟨⟨by decide +kernel, by decide +kernel⟩, List.mem_of_getElem? (i := 333) (by decide +kernel), List.mem_of_getElem? (i := 404) (by decide +kernel), List.mem_of_getElem? (i := 405) (by decide +kernel)⟩
theorem lw_p26 : lw_okq (⟨"LinePairModel", "is", "(II)Z"⟩, 14) := ⟨⟨by decide +kernel, by decide +kernel⟩, List.mem_of_getElem? (i := 333) (by decide +kernel), List.mem_of_getElem? (i := 408) (by decide +kernel), List.mem_of_getElem? (i := 409) (by decide +kernel)⟩
theorem lw_p27 : lw_okq (⟨"LinePairModel", "ranked", "(II)I"⟩, 14) := ⟨⟨by decide +kernel, by decide +kernel⟩, List.mem_of_getElem? (i := 333) (by decide +kernel), List.mem_of_getElem? (i := 412) (by decide +kernel), List.mem_of_getElem? (i := 413) (by decide +kernel)⟩
theorem lw_p28 : lw_okq (⟨"LinePairModel", "blocks", "(II)Z"⟩, 14) := ⟨⟨by decide +kernel, by decide +kernel⟩, List.mem_of_getElem? (i := 333) (by decide +kernel), List.mem_of_getElem? (i := 416) (by decide +kernel), List.mem_of_getElem? (i := 417) (by decide +kernel)⟩
theorem lw_p29 : lw_okq (⟨"LinePairModel", "requested", "(II)Z"⟩, 14) := ⟨⟨by decide +kernel, by decide +kernel⟩, List.mem_of_getElem? (i := 333) (by decide +kernel), List.mem_of_getElem? (i := 420) (by decide +kernel), List.mem_of_getElem? (i := 421) (by decide +kernel)⟩
theorem lw_p30 : lw_okq (⟨"LinePairModel", "second", "(II)V"⟩, 14) := ⟨⟨by decide +kernel, by decide +kernel⟩, List.mem_of_getElem? (i := 333) (by decide +kernel), List.mem_of_getElem? (i := 431) (by decide +kernel), List.mem_of_getElem? (i := 432) (by decide +kernel)⟩
theorem lw_p31 : lw_okq (⟨"LinePairModel", "begin", "(II)V"⟩, 14) := ⟨⟨by decide +kernel, by decide +kernel⟩, List.mem_of_getElem? (i := 333) (by decide +kernel), List.mem_of_getElem? (i := 435) (by decide +kernel), List.mem_of_getElem? (i := 436) (by decide +kernel)⟩
def lw_privs_2 : List (MethodName × Nat) := [(⟨"LinePair$Controller", "choose", "(I)V"⟩, 19), (⟨"LinePair$Controller", "endOrTurn", "(II)V"⟩, 19), (⟨"LinePair$Controller", "end", "(I)V"⟩, 19), (⟨"LinePair$Controller", "endHighestAndTurn", "()V"⟩, 19), (⟨"LinePair$Controller", "acceptAtPort1", "(I)V"⟩, 19), (⟨"LinePair$Controller", "answerAtPort0", "()I"⟩, 19), (⟨"LinePairModel", "goes", "(ZZ)Z"⟩, 14), (⟨"LinePairModel", "raise", "(IZ)V"⟩, 14), (⟨"LinePairModel", "follow", "()V"⟩, 14), (⟨"LinePairModel", "delivered", "(I)I"⟩, 14), (⟨"LinePairModel", "is", "(II)Z"⟩, 14), (⟨"LinePairModel", "ranked", "(II)I"⟩, 14), (⟨"LinePairModel", "blocks", "(II)Z"⟩, 14), (⟨"LinePairModel", "requested", "(II)Z"⟩, 14), (⟨"LinePairModel", "second", "(II)V"⟩, 14), (⟨"LinePairModel", "begin", "(II)V"⟩, 14)]
theorem lw_r2 : ∀ q ∈ lw_privs_2, lw_okq q := List.forall_mem_cons.mpr ⟨lw_p16, List.forall_mem_cons.mpr ⟨lw_p17, List.forall_mem_cons.mpr ⟨lw_p18, List.forall_mem_cons.mpr ⟨lw_p19, List.forall_mem_cons.mpr ⟨lw_p20, List.forall_mem_cons.mpr ⟨lw_p21, List.forall_mem_cons.mpr ⟨lw_p22, List.forall_mem_cons.mpr ⟨lw_p23, List.forall_mem_cons.mpr ⟨lw_p24, List.forall_mem_cons.mpr ⟨lw_p25, List.forall_mem_cons.mpr ⟨lw_p26, List.forall_mem_cons.mpr ⟨lw_p27, List.forall_mem_cons.mpr ⟨lw_p28, List.forall_mem_cons.mpr ⟨lw_p29, List.forall_mem_cons.mpr ⟨lw_p30, List.forall_mem_cons.mpr ⟨lw_p31, fun _ h => absurd h List.not_mem_nil⟩⟩⟩⟩⟩⟩⟩⟩⟩⟩⟩⟩⟩⟩⟩⟩
theorem lw_p32 : lw_okq (⟨"LinePairModel", "order", "(II)V"⟩, 14) := ⟨⟨by decide +kernel, by decide +kernel⟩, List.mem_of_getElem? (i := 333) (by decide +kernel), List.mem_of_getElem? (i := 439) (by decide +kernel), List.mem_of_getElem? (i := 440) (by decide +kernel)⟩
theorem lw_p33 : lw_okq (⟨"LinePairModel", "end", "(III)V"⟩, 14) := ⟨⟨by decide +kernel, by decide +kernel⟩, List.mem_of_getElem? (i := 333) (by decide +kernel), List.mem_of_getElem? (i := 443) (by decide +kernel), List.mem_of_getElem? (i := 444) (by decide +kernel)⟩
theorem lw_p34 : lw_okq (⟨"LinePairModel", "highest", "(I)I"⟩, 14) := ⟨⟨by decide +kernel, by decide +kernel⟩, List.mem_of_getElem? (i := 333) (by decide +kernel), List.mem_of_getElem? (i := 447) (by decide +kernel), List.mem_of_getElem? (i := 448) (by decide +kernel)⟩
theorem lw_p35 : lw_okq (⟨"LinePairModel", "set", "(II)V"⟩, 14) := ⟨⟨by decide +kernel, by decide +kernel⟩, List.mem_of_getElem? (i := 333) (by decide +kernel), List.mem_of_getElem? (i := 451) (by decide +kernel), List.mem_of_getElem? (i := 452) (by decide +kernel)⟩
theorem lw_p36 : lw_okq (⟨"LinePairModel", "bits", "(II)I"⟩, 14) := ⟨⟨by decide +kernel, by decide +kernel⟩, List.mem_of_getElem? (i := 333) (by decide +kernel), List.mem_of_getElem? (i := 459) (by decide +kernel), List.mem_of_getElem? (i := 460) (by decide +kernel)⟩
theorem lw_p37 : lw_okq (⟨"LinePairModel", "taken", "(II)V"⟩, 14) := ⟨⟨by decide +kernel, by decide +kernel⟩, List.mem_of_getElem? (i := 333) (by decide +kernel), List.mem_of_getElem? (i := 463) (by decide +kernel), List.mem_of_getElem? (i := 464) (by decide +kernel)⟩
def lw_privs_3 : List (MethodName × Nat) := [(⟨"LinePairModel", "order", "(II)V"⟩, 14), (⟨"LinePairModel", "end", "(III)V"⟩, 14), (⟨"LinePairModel", "highest", "(I)I"⟩, 14), (⟨"LinePairModel", "set", "(II)V"⟩, 14), (⟨"LinePairModel", "bits", "(II)I"⟩, 14), (⟨"LinePairModel", "taken", "(II)V"⟩, 14)]
theorem lw_r3 : ∀ q ∈ lw_privs_3, lw_okq q := List.forall_mem_cons.mpr ⟨lw_p32, List.forall_mem_cons.mpr ⟨lw_p33, List.forall_mem_cons.mpr ⟨lw_p34, List.forall_mem_cons.mpr ⟨lw_p35, List.forall_mem_cons.mpr ⟨lw_p36, List.forall_mem_cons.mpr ⟨lw_p37, fun _ h => absurd h List.not_mem_nil⟩⟩⟩⟩⟩⟩
def lw_privs : List (MethodName × Nat) := lw_privs_1 ++ (lw_privs_2 ++ (lw_privs_3))
def lw_tbl : List Cond := k2_sels lw_privs ++ tables_1
theorem lw_privs_ok : ∀ q ∈ lw_privs, lw_okq q := by
  show ∀ q ∈ lw_privs_1 ++ (lw_privs_2 ++ (lw_privs_3)), lw_okq q
  exact List.forall_mem_append.mpr ⟨lw_r1, List.forall_mem_append.mpr ⟨lw_r2, lw_r3⟩⟩
end
section
def WA : List Cond := lw_tbl.filter goodWord
theorem wa_m {w : Cond} (h : w ∈ tables_1) (hg : goodWord w = true) : w ∈ WA := List.mem_filter.mpr ⟨List.mem_append_right _ h, hg⟩
theorem wa_p {w : Cond} (h : w ∈ k2_sels lw_privs) (hg : goodWord w = true) : w ∈ WA := List.mem_filter.mpr ⟨List.mem_append_left _ h, hg⟩
theorem wa_good {w : Cond} (h : w ∈ WA) : goodWord w = true := (List.mem_filter.mp h).2
theorem wa_tbl {w : Cond} (h : w ∈ WA) : w ∈ lw_tbl := (List.mem_filter.mp h).1
theorem gd_0 {big : List Cond} {cw : Cond} (hb : ∀ w ∈ WA, w ∈ big) (h : cw ∈ WA) : GoodIn big (cw :: WA) := fun w hw => by
  have hm : w ∈ WA := by
    rcases List.mem_cons.mp hw with e | e
    · rw [e]; exact h
    · exact e
  exact ⟨hb w hm, good_of_word (wa_good hm)⟩
theorem gd_V {big : List Cond} {own C : String} {idx : Nat} {y : MethodName} {cw : Cond} (hb : ∀ w ∈ WA, w ∈ big) (h1 : Cond.methodLink own idx y ∈ WA) (h2 : Cond.instanceMethod y ∈ WA) (h3 : Cond.selects C y y ∈ WA) (h4 : Cond.initialized C ∈ WA) (h5 : cw ∈ WA) : GoodIn big (wsV own idx C y (cw :: WA)) := fun w hw => by
  have hm : w ∈ WA := by
    rcases List.mem_append.mp hw with e | e
    · simp only [List.mem_cons, List.not_mem_nil, or_false] at e
      rcases e with rfl | rfl | rfl | rfl <;> assumption
    · rcases List.mem_cons.mp e with e | e
      · rw [e]; exact h5
      · exact e
  exact ⟨hb w hm, good_of_word (wa_good hm)⟩
theorem gd_S {big : List Cond} {own : String} {idx : Nat} {y : MethodName} {cw : Cond} (hb : ∀ w ∈ WA, w ∈ big) (h1 : Cond.methodLink own idx y ∈ WA) (h2 : Cond.static y ∈ WA) (h3 : Cond.initialized own ∈ WA) (h5 : cw ∈ WA) : GoodIn big (wsS own idx y (cw :: WA)) := fun w hw => by
  have hm : w ∈ WA := by
    rcases List.mem_append.mp hw with e | e
    · simp only [List.mem_cons, List.not_mem_nil, or_false] at e
      rcases e with rfl | rfl | rfl <;> assumption
    · rcases List.mem_cons.mp e with e | e
      · rw [e]; exact h5
      · exact e
  exact ⟨hb w hm, good_of_word (wa_good hm)⟩
theorem wa_c {x : Cond} : ∀ w ∈ WA, w ∈ x :: WA := fun _ h => List.mem_cons_of_mem _ h
def RX0 : String := "LinePair"
def TX0 : u_T := fun k => match k with
  | 0 => ("LinePair", "chief", "LLinePair$Controller;", true)
  | 1 => ("LinePair", "helper", "LLinePair$Controller;", true)
  | _ => ("LinePair", "emptyAnswers", "I", false)
def tyX0 : Nat → FieldType := fun k => match k with
  | 0 => .object "LinePair$Controller"
  | 1 => .object "LinePair$Controller"
  | _ => .int
theorem nX0 : ∀ a, a < 3 → ∀ b, b < 3 → a ≠ b → (TX0 a).2.1 ≠ (TX0 b).2.1 := by decide +kernel
theorem tyX0_ok : ∀ k, k < 3 → parseFieldDescriptor (TX0 k).2.2.1 = some (tyX0 k) := by decide +kernel
theorem u_X0 : ∀ w ∈ u_ws RX0 TX0 3, w ∈ WA := by decide +kernel
def RX1 : String := "LinePair$Controller"
def TX1 : u_T := fun k => match k with
  | 0 => ("LinePair$Controller", "nestingLine", "I", true)
  | 1 => ("LinePair$Controller", "up", "I", false)
  | 2 => ("LinePair$Controller", "requestedByEdge", "I", false)
  | 3 => ("LinePair$Controller", "inService", "I", false)
  | 4 => ("LinePair$Controller", "masked", "I", false)
  | 5 => ("LinePair$Controller", "lowest", "I", false)
  | 6 => ("LinePair$Controller", "base", "I", false)
  | 7 => ("LinePair$Controller", "awaited", "I", false)
  | 8 => ("LinePair$Controller", "readChoice", "I", false)
  | 9 => ("LinePair$Controller", "fourthFollows", "Z", false)
  | 10 => ("LinePair$Controller", "ready", "Z", false)
  | 11 => ("LinePair$Controller", "byLevels", "Z", false)
  | 12 => ("LinePair$Controller", "specialMask", "Z", false)
  | 13 => ("LinePair$Controller", "specialNesting", "Z", false)
  | 14 => ("LinePair$Controller", "endsAtOnce", "Z", false)
  | 15 => ("LinePair$Controller", "turnsAtOnce", "Z", false)
  | 16 => ("LinePair$Controller", "pollWaits", "Z", false)
  | 17 => ("LinePair$Controller", "takenLines", "I", false)
  | _ => ("LinePair$Controller", "endedLines", "I", false)
def tyX1 : Nat → FieldType := fun k => match k with
  | 0 => .int
  | 1 => .int
  | 2 => .int
  | 3 => .int
  | 4 => .int
  | 5 => .int
  | 6 => .int
  | 7 => .int
  | 8 => .int
  | 9 => .boolean
  | 10 => .boolean
  | 11 => .boolean
  | 12 => .boolean
  | 13 => .boolean
  | 14 => .boolean
  | 15 => .boolean
  | 16 => .boolean
  | 17 => .int
  | _ => .int
theorem nX1 : ∀ a, a < 19 → ∀ b, b < 19 → a ≠ b → (TX1 a).2.1 ≠ (TX1 b).2.1 := by decide +kernel
theorem tyX1_ok : ∀ k, k < 19 → parseFieldDescriptor (TX1 k).2.2.1 = some (tyX1 k) := by decide +kernel
theorem u_X1 : ∀ w ∈ u_ws RX1 TX1 19, w ∈ WA := by decide +kernel
def RX2 : String := "LinePairModel"
def TX2 : u_T := fun k => match k with
  | 0 => ("LinePairModel", "thrown", "I", false)
  | 1 => ("LinePairModel", "up", "[Z", true)
  | 2 => ("LinePairModel", "latched", "[Z", true)
  | 3 => ("LinePairModel", "served", "[Z", true)
  | 4 => ("LinePairModel", "masked", "[Z", true)
  | 5 => ("LinePairModel", "lowest", "[I", true)
  | 6 => ("LinePairModel", "bases", "[I", true)
  | 7 => ("LinePairModel", "awaited", "[I", true)
  | 8 => ("LinePairModel", "readers", "[I", true)
  | 9 => ("LinePairModel", "modes", "[Z", true)
  | 10 => ("LinePairModel", "fourth", "[Z", true)
  | 11 => ("LinePairModel", "takes", "I", false)
  | 12 => ("LinePairModel", "nothings", "I", false)
  | _ => ("LinePairModel", "ends", "I", false)
def tyX2 : Nat → FieldType := fun k => match k with
  | 0 => .int
  | 1 => .array .boolean
  | 2 => .array .boolean
  | 3 => .array .boolean
  | 4 => .array .boolean
  | 5 => .array .int
  | 6 => .array .int
  | 7 => .array .int
  | 8 => .array .int
  | 9 => .array .boolean
  | 10 => .array .boolean
  | 11 => .int
  | 12 => .int
  | _ => .int
theorem nX2 : ∀ a, a < 14 → ∀ b, b < 14 → a ≠ b → (TX2 a).2.1 ≠ (TX2 b).2.1 := by decide +kernel
theorem tyX2_ok : ∀ k, k < 14 → parseFieldDescriptor (TX2 k).2.2.1 = some (tyX2 k) := by decide +kernel
theorem u_X2 : ∀ w ∈ u_ws RX2 TX2 14, w ∈ WA := by decide +kernel
def RL : String := "LinePairLaw"
abbrev vwCl : List vw_C := [(RX0, TX0, 3), (RX1, TX1, 19), (RX2, TX2, 14)]
abbrev cX0_init : ByteArray := prog_1_method_1_code
def yX0_init : MethodName := ⟨RX0, "<init>", "()V"⟩
def wsX0_init : List Cond := .code yX0_init cX0_init 1 none :: WA
theorem k_co_X0_init : Cond.code yX0_init cX0_init 1 none ∈ WA := wa_m (List.mem_of_getElem? (i := 13) rfl) rfl
abbrev cX1_init : ByteArray := prog_2_method_1_code
def yX1_init : MethodName := ⟨RX1, "<init>", "(I)V"⟩
def wsX1_init : List Cond := .code yX1_init cX1_init 2 none :: WA
theorem k_co_X1_init : Cond.code yX1_init cX1_init 2 none ∈ WA := wa_m (List.mem_of_getElem? (i := 21) rfl) rfl
abbrev cX0_take : ByteArray := prog_1_method_5_code
def yX0_take : MethodName := ⟨RX0, "take", "()I"⟩
def wsX0_take : List Cond := .code yX0_take cX0_take 2 (some .int) :: WA
theorem k_co_X0_take : Cond.code yX0_take cX0_take 2 (some .int) ∈ WA := wa_m (List.mem_of_getElem? (i := 110) rfl) rfl
abbrev cX1_takeDelivered : ByteArray := prog_2_method_7_code
def yX1_takeDelivered : MethodName := ⟨RX1, "takeDelivered", "()I"⟩
def wsX1_takeDelivered : List Cond := .code yX1_takeDelivered cX1_takeDelivered 2 (some .int) :: WA
theorem k_co_X1_takeDelivered : Cond.code yX1_takeDelivered cX1_takeDelivered 2 (some .int) ∈ WA := wa_m (List.mem_of_getElem? (i := 114) rfl) rfl
abbrev cX1_lineToDeliver : ByteArray := prog_2_method_4_code
def yX1_lineToDeliver : MethodName := ⟨RX1, "lineToDeliver", "()I"⟩
def wsX1_lineToDeliver : List Cond := .code yX1_lineToDeliver cX1_lineToDeliver 3 (some .int) :: WA
theorem k_co_X1_lineToDeliver : Cond.code yX1_lineToDeliver cX1_lineToDeliver 3 (some .int) ∈ WA := wa_m (List.mem_of_getElem? (i := 118) rfl) rfl
abbrev cX1_requested : ByteArray := prog_2_method_3_code
def yX1_requested : MethodName := ⟨RX1, "requested", "()I"⟩
def wsX1_requested : List Cond := .code yX1_requested cX1_requested 1 (some .int) :: WA
theorem k_co_X1_requested : Cond.code yX1_requested cX1_requested 1 (some .int) ∈ WA := wa_m (List.mem_of_getElem? (i := 122) rfl) rfl
abbrev cX1_highestOf : ByteArray := prog_2_method_17_code
def yX1_highestOf : MethodName := ⟨RX1, "highestOf", "(I)I"⟩
def wsX1_highestOf : List Cond := .code yX1_highestOf cX1_highestOf 4 (some .int) :: WA
theorem k_co_X1_highestOf : Cond.code yX1_highestOf cX1_highestOf 4 (some .int) ∈ WA := wa_m (List.mem_of_getElem? (i := 126) rfl) rfl
abbrev cX1_hasBit : ByteArray := prog_2_method_19_code
def yX1_hasBit : MethodName := ⟨RX1, "hasBit", "(II)Z"⟩
def wsX1_hasBit : List Cond := .code yX1_hasBit cX1_hasBit 2 (some .boolean) :: WA
theorem k_co_X1_hasBit : Cond.code yX1_hasBit cX1_hasBit 2 (some .boolean) ∈ WA := wa_m (List.mem_of_getElem? (i := 129) rfl) rfl
abbrev cX1_blockersOf : ByteArray := prog_2_method_5_code
def yX1_blockersOf : MethodName := ⟨RX1, "blockersOf", "(I)I"⟩
def wsX1_blockersOf : List Cond := .code yX1_blockersOf cX1_blockersOf 3 (some .int) :: WA
theorem k_co_X1_blockersOf : Cond.code yX1_blockersOf cX1_blockersOf 3 (some .int) ∈ WA := wa_m (List.mem_of_getElem? (i := 133) rfl) rfl
abbrev cX1_inServiceThatCounts : ByteArray := prog_2_method_6_code
def yX1_inServiceThatCounts : MethodName := ⟨RX1, "inServiceThatCounts", "()I"⟩
def wsX1_inServiceThatCounts : List Cond := .code yX1_inServiceThatCounts cX1_inServiceThatCounts 1 (some .int) :: WA
theorem k_co_X1_inServiceThatCounts : Cond.code yX1_inServiceThatCounts cX1_inServiceThatCounts 1 (some .int) ∈ WA := wa_m (List.mem_of_getElem? (i := 137) rfl) rfl
abbrev cX1_without : ByteArray := prog_2_method_20_code
def yX1_without : MethodName := ⟨RX1, "without", "(II)I"⟩
def wsX1_without : List Cond := .code yX1_without cX1_without 2 (some .int) :: WA
theorem k_co_X1_without : Cond.code yX1_without cX1_without 2 (some .int) ∈ WA := wa_m (List.mem_of_getElem? (i := 140) rfl) rfl
abbrev cX1_rankOf : ByteArray := prog_2_method_18_code
def yX1_rankOf : MethodName := ⟨RX1, "rankOf", "(I)I"⟩
def wsX1_rankOf : List Cond := .code yX1_rankOf cX1_rankOf 2 (some .int) :: WA
theorem k_co_X1_rankOf : Cond.code yX1_rankOf cX1_rankOf 2 (some .int) ∈ WA := wa_m (List.mem_of_getElem? (i := 144) rfl) rfl
abbrev cX0_takeFromHelper : ByteArray := prog_1_method_12_code
def yX0_takeFromHelper : MethodName := ⟨RX0, "takeFromHelper", "()I"⟩
def wsX0_takeFromHelper : List Cond := .code yX0_takeFromHelper cX0_takeFromHelper 2 (some .int) :: WA
theorem k_co_X0_takeFromHelper : Cond.code yX0_takeFromHelper cX0_takeFromHelper 2 (some .int) ∈ WA := wa_m (List.mem_of_getElem? (i := 148) rfl) rfl
abbrev cX1_moveLine : ByteArray := prog_2_method_2_code
def yX1_moveLine : MethodName := ⟨RX1, "moveLine", "(IZ)Z"⟩
def wsX1_moveLine : List Cond := .code yX1_moveLine cX1_moveLine 3 (some .boolean) :: WA
theorem k_co_X1_moveLine : Cond.code yX1_moveLine cX1_moveLine 3 (some .boolean) ∈ WA := wa_m (List.mem_of_getElem? (i := 152) rfl) rfl
abbrev cX0_followHelper : ByteArray := prog_1_method_13_code
def yX0_followHelper : MethodName := ⟨RX0, "followHelper", "()V"⟩
def wsX0_followHelper : List Cond := .code yX0_followHelper cX0_followHelper 1 none :: WA
theorem k_co_X0_followHelper : Cond.code yX0_followHelper cX0_followHelper 1 none ∈ WA := wa_m (List.mem_of_getElem? (i := 156) rfl) rfl
abbrev cX1_numberOf : ByteArray := prog_2_method_8_code
def yX1_numberOf : MethodName := ⟨RX1, "numberOf", "(I)I"⟩
def wsX1_numberOf : List Cond := .code yX1_numberOf cX1_numberOf 2 (some .int) :: WA
theorem k_co_X1_numberOf : Cond.code yX1_numberOf cX1_numberOf 2 (some .int) ∈ WA := wa_m (List.mem_of_getElem? (i := 161) rfl) rfl
abbrev cL_line : ByteArray := method_3_code
def yL_line : MethodName := ⟨RL, "line", "(LLinePair;IZ[J)I"⟩
def wsL_line : List Cond := .codeWith yL_line cL_line 5 (some .int) [(0, 17, 20, 13)] :: WA
theorem k_co_L_line : Cond.codeWith yL_line cL_line 5 (some .int) [(0, 17, 20, 13)] ∈ WA := wa_m (List.mem_of_getElem? (i := 164) rfl) rfl
abbrev cX0_line : ByteArray := prog_1_method_2_code
def yX0_line : MethodName := ⟨RX0, "line", "(IZ)Z"⟩
def wsX0_line : List Cond := .code yX0_line cX0_line 4 (some .boolean) :: WA
theorem k_co_X0_line : Cond.code yX0_line cX0_line 4 (some .boolean) ∈ WA := wa_m (List.mem_of_getElem? (i := 169) rfl) rfl
abbrev cL_write : ByteArray := method_4_code
def yL_write : MethodName := ⟨RL, "write", "(LLinePair;III[J)I"⟩
def wsL_write : List Cond := .codeWith yL_write cL_write 6 (some .int) [(0, 19, 22, 13), (0, 19, 26, 19)] :: WA
theorem k_co_L_write : Cond.codeWith yL_write cL_write 6 (some .int) [(0, 19, 22, 13), (0, 19, 26, 19)] ∈ WA := wa_m (List.mem_of_getElem? (i := 234) rfl) rfl
abbrev cX0_write : ByteArray := prog_1_method_3_code
def yX0_write : MethodName := ⟨RX0, "write", "(III)Z"⟩
def wsX0_write : List Cond := .code yX0_write cX0_write 5 (some .boolean) :: WA
theorem k_co_X0_write : Cond.code yX0_write cX0_write 5 (some .boolean) ∈ WA := wa_m (List.mem_of_getElem? (i := 239) rfl) rfl
abbrev cX0_controllerNumbered : ByteArray := prog_1_method_10_code
def yX0_controllerNumbered : MethodName := ⟨RX0, "controllerNumbered", "(I)LLinePair$Controller;"⟩
def wsX0_controllerNumbered : List Cond := .code yX0_controllerNumbered cX0_controllerNumbered 2 (some (.object "LinePair$Controller")) :: WA
theorem k_co_X0_controllerNumbered : Cond.code yX0_controllerNumbered cX0_controllerNumbered 2 (some (.object "LinePair$Controller")) ∈ WA := wa_m (List.mem_of_getElem? (i := 243) rfl) rfl
abbrev cX0_checkPort : ByteArray := prog_1_method_11_code
def yX0_checkPort : MethodName := ⟨RX0, "checkPort", "(I)V"⟩
def wsX0_checkPort : List Cond := .code yX0_checkPort cX0_checkPort 2 none :: WA
theorem k_co_X0_checkPort : Cond.code yX0_checkPort cX0_checkPort 2 none ∈ WA := wa_m (List.mem_of_getElem? (i := 247) rfl) rfl
abbrev cX1_acceptAtPort0 : ByteArray := prog_2_method_10_code
def yX1_acceptAtPort0 : MethodName := ⟨RX1, "acceptAtPort0", "(I)V"⟩
def wsX1_acceptAtPort0 : List Cond := .code yX1_acceptAtPort0 cX1_acceptAtPort0 2 none :: WA
theorem k_co_X1_acceptAtPort0 : Cond.code yX1_acceptAtPort0 cX1_acceptAtPort0 2 none ∈ WA := wa_m (List.mem_of_getElem? (i := 266) rfl) rfl
abbrev cX1_begin : ByteArray := prog_2_method_12_code
def yX1_begin : MethodName := ⟨RX1, "begin", "(I)V"⟩
def wsX1_begin : List Cond := .code yX1_begin cX1_begin 2 none :: WA
theorem k_co_X1_begin : Cond.code yX1_begin cX1_begin 2 none ∈ WA := wa_m (List.mem_of_getElem? (i := 270) rfl) rfl
abbrev cX1_choose : ByteArray := prog_2_method_13_code
def yX1_choose : MethodName := ⟨RX1, "choose", "(I)V"⟩
def wsX1_choose : List Cond := .code yX1_choose cX1_choose 2 none :: WA
theorem k_co_X1_choose : Cond.code yX1_choose cX1_choose 2 none ∈ WA := wa_m (List.mem_of_getElem? (i := 274) rfl) rfl
abbrev cX1_endOrTurn : ByteArray := prog_2_method_14_code
def yX1_endOrTurn : MethodName := ⟨RX1, "endOrTurn", "(II)V"⟩
def wsX1_endOrTurn : List Cond := .code yX1_endOrTurn cX1_endOrTurn 3 none :: WA
theorem k_co_X1_endOrTurn : Cond.code yX1_endOrTurn cX1_endOrTurn 3 none ∈ WA := wa_m (List.mem_of_getElem? (i := 278) rfl) rfl
abbrev cX1_end : ByteArray := prog_2_method_16_code
def yX1_end : MethodName := ⟨RX1, "end", "(I)V"⟩
def wsX1_end : List Cond := .code yX1_end cX1_end 2 none :: WA
theorem k_co_X1_end : Cond.code yX1_end cX1_end 2 none ∈ WA := wa_m (List.mem_of_getElem? (i := 282) rfl) rfl
abbrev cX1_endHighestAndTurn : ByteArray := prog_2_method_15_code
def yX1_endHighestAndTurn : MethodName := ⟨RX1, "endHighestAndTurn", "()V"⟩
def wsX1_endHighestAndTurn : List Cond := .code yX1_endHighestAndTurn cX1_endHighestAndTurn 2 none :: WA
theorem k_co_X1_endHighestAndTurn : Cond.code yX1_endHighestAndTurn cX1_endHighestAndTurn 2 none ∈ WA := wa_m (List.mem_of_getElem? (i := 286) rfl) rfl
abbrev cX1_acceptAtPort1 : ByteArray := prog_2_method_11_code
def yX1_acceptAtPort1 : MethodName := ⟨RX1, "acceptAtPort1", "(I)V"⟩
def wsX1_acceptAtPort1 : List Cond := .code yX1_acceptAtPort1 cX1_acceptAtPort1 2 none :: WA
theorem k_co_X1_acceptAtPort1 : Cond.code yX1_acceptAtPort1 cX1_acceptAtPort1 2 none ∈ WA := wa_m (List.mem_of_getElem? (i := 290) rfl) rfl
abbrev cL_read : ByteArray := method_5_code
def yL_read : MethodName := ⟨RL, "read", "(LLinePair;II[J)I"⟩
def wsL_read : List Cond := .codeWith yL_read cL_read 5 (some .int) [(0, 10, 13, 13)] :: WA
theorem k_co_L_read : Cond.codeWith yL_read cL_read 5 (some .int) [(0, 10, 13, 13)] ∈ WA := wa_m (List.mem_of_getElem? (i := 293) rfl) rfl
abbrev cX0_read : ByteArray := prog_1_method_4_code
def yX0_read : MethodName := ⟨RX0, "read", "(II)I"⟩
def wsX0_read : List Cond := .code yX0_read cX0_read 5 (some .int) :: WA
theorem k_co_X0_read : Cond.code yX0_read cX0_read 5 (some .int) ∈ WA := wa_m (List.mem_of_getElem? (i := 297) rfl) rfl
abbrev cX1_answerAtPort0 : ByteArray := prog_2_method_9_code
def yX1_answerAtPort0 : MethodName := ⟨RX1, "answerAtPort0", "()I"⟩
def wsX1_answerAtPort0 : List Cond := .code yX1_answerAtPort0 cX1_answerAtPort0 2 (some .int) :: WA
theorem k_co_X1_answerAtPort0 : Cond.code yX1_answerAtPort0 cX1_answerAtPort0 2 (some .int) ∈ WA := wa_m (List.mem_of_getElem? (i := 301) rfl) rfl
abbrev cL_delivers : ByteArray := method_6_code
def yL_delivers : MethodName := ⟨RL, "delivers", "(LLinePair;I[J)I"⟩
def wsL_delivers : List Cond := .codeWith yL_delivers cL_delivers 4 (some .int) [(0, 9, 12, 13)] :: WA
theorem k_co_L_delivers : Cond.codeWith yL_delivers cL_delivers 4 (some .int) [(0, 9, 12, 13)] ∈ WA := wa_m (List.mem_of_getElem? (i := 305) rfl) rfl
abbrev cX0_delivers : ByteArray := prog_1_method_6_code
def yX0_delivers : MethodName := ⟨RX0, "delivers", "(I)I"⟩
def wsX0_delivers : List Cond := .code yX0_delivers cX0_delivers 2 (some .int) :: WA
theorem k_co_X0_delivers : Cond.code yX0_delivers cX0_delivers 2 (some .int) ∈ WA := wa_m (List.mem_of_getElem? (i := 309) rfl) rfl
abbrev cL_about : ByteArray := method_7_code
def yL_about : MethodName := ⟨RL, "about", "(LLinePair;II[J)I"⟩
def wsL_about : List Cond := .codeWith yL_about cL_about 5 (some .int) [(0, 10, 13, 13), (0, 10, 17, 19)] :: WA
theorem k_co_L_about : Cond.codeWith yL_about cL_about 5 (some .int) [(0, 10, 13, 13), (0, 10, 17, 19)] ∈ WA := wa_m (List.mem_of_getElem? (i := 312) rfl) rfl
abbrev cX0_about : ByteArray := prog_1_method_7_code
def yX0_about : MethodName := ⟨RX0, "about", "(II)I"⟩
def wsX0_about : List Cond := .code yX0_about cX0_about 4 (some .int) :: WA
theorem k_co_X0_about : Cond.code yX0_about cX0_about 4 (some .int) ∈ WA := wa_m (List.mem_of_getElem? (i := 316) rfl) rfl
abbrev cL_mode : ByteArray := method_8_code
def yL_mode : MethodName := ⟨RL, "mode", "(LLinePair;II[J)I"⟩
def wsL_mode : List Cond := .codeWith yL_mode cL_mode 5 (some .int) [(0, 17, 20, 13), (0, 17, 24, 19)] :: WA
theorem k_co_L_mode : Cond.codeWith yL_mode cL_mode 5 (some .int) [(0, 17, 20, 13), (0, 17, 24, 19)] ∈ WA := wa_m (List.mem_of_getElem? (i := 320) rfl) rfl
abbrev cX0_mode : ByteArray := prog_1_method_8_code
def yX0_mode : MethodName := ⟨RX0, "mode", "(II)Z"⟩
def wsX0_mode : List Cond := .code yX0_mode cX0_mode 4 (some .boolean) :: WA
theorem k_co_X0_mode : Cond.code yX0_mode cX0_mode 4 (some .boolean) ∈ WA := wa_m (List.mem_of_getElem? (i := 324) rfl) rfl
abbrev cL_count : ByteArray := method_9_code
def yL_count : MethodName := ⟨RL, "count", "(LLinePair;I[J)I"⟩
def wsL_count : List Cond := .codeWith yL_count cL_count 4 (some .int) [(0, 9, 12, 19)] :: WA
theorem k_co_L_count : Cond.codeWith yL_count cL_count 4 (some .int) [(0, 9, 12, 19)] ∈ WA := wa_m (List.mem_of_getElem? (i := 327) rfl) rfl
abbrev cX0_count : ByteArray := prog_1_method_9_code
def yX0_count : MethodName := ⟨RX0, "count", "(I)I"⟩
def wsX0_count : List Cond := .code yX0_count cX0_count 2 (some .int) :: WA
theorem k_co_X0_count : Cond.code yX0_count cX0_count 2 (some .int) ∈ WA := wa_m (List.mem_of_getElem? (i := 331) rfl) rfl
abbrev cX2_init : ByteArray := prog_4_method_1_code
def yX2_init : MethodName := ⟨RX2, "<init>", "()V"⟩
def wsX2_init : List Cond := .code yX2_init cX2_init 1 none :: WA
theorem k_co_X2_init : Cond.code yX2_init cX2_init 1 none ∈ WA := wa_m (List.mem_of_getElem? (i := 336) rfl) rfl
abbrev cX2_thrown : ByteArray := prog_4_method_2_code
def yX2_thrown : MethodName := ⟨RX2, "thrown", "()I"⟩
def wsX2_thrown : List Cond := .code yX2_thrown cX2_thrown 1 (some .int) :: WA
theorem k_co_X2_thrown : Cond.code yX2_thrown cX2_thrown 1 (some .int) ∈ WA := wa_m (List.mem_of_getElem? (i := 386) rfl) rfl
abbrev cX2_line : ByteArray := prog_4_method_13_code
def yX2_line : MethodName := ⟨RX2, "line", "(IZ)Z"⟩
def wsX2_line : List Cond := .code yX2_line cX2_line 4 (some .boolean) :: WA
theorem k_co_X2_line : Cond.code yX2_line cX2_line 4 (some .boolean) ∈ WA := wa_m (List.mem_of_getElem? (i := 390) rfl) rfl
abbrev cX2_goes : ByteArray := prog_4_method_3_code
def yX2_goes : MethodName := ⟨RX2, "goes", "(ZZ)Z"⟩
def wsX2_goes : List Cond := .code yX2_goes cX2_goes 3 (some .boolean) :: WA
theorem k_co_X2_goes : Cond.code yX2_goes cX2_goes 3 (some .boolean) ∈ WA := wa_m (List.mem_of_getElem? (i := 394) rfl) rfl
abbrev cX2_raise : ByteArray := prog_4_method_10_code
def yX2_raise : MethodName := ⟨RX2, "raise", "(IZ)V"⟩
def wsX2_raise : List Cond := .code yX2_raise cX2_raise 3 none :: WA
theorem k_co_X2_raise : Cond.code yX2_raise cX2_raise 3 none ∈ WA := wa_m (List.mem_of_getElem? (i := 398) rfl) rfl
abbrev cX2_follow : ByteArray := prog_4_method_11_code
def yX2_follow : MethodName := ⟨RX2, "follow", "()V"⟩
def wsX2_follow : List Cond := .code yX2_follow cX2_follow 1 none :: WA
theorem k_co_X2_follow : Cond.code yX2_follow cX2_follow 1 none ∈ WA := wa_m (List.mem_of_getElem? (i := 402) rfl) rfl
abbrev cX2_delivered : ByteArray := prog_4_method_9_code
def yX2_delivered : MethodName := ⟨RX2, "delivered", "(I)I"⟩
def wsX2_delivered : List Cond := .code yX2_delivered cX2_delivered 6 (some .int) :: WA
theorem k_co_X2_delivered : Cond.code yX2_delivered cX2_delivered 6 (some .int) ∈ WA := wa_m (List.mem_of_getElem? (i := 406) rfl) rfl
abbrev cX2_is : ByteArray := prog_4_method_5_code
def yX2_is : MethodName := ⟨RX2, "is", "(II)Z"⟩
def wsX2_is : List Cond := .code yX2_is cX2_is 3 (some .boolean) :: WA
theorem k_co_X2_is : Cond.code yX2_is cX2_is 3 (some .boolean) ∈ WA := wa_m (List.mem_of_getElem? (i := 410) rfl) rfl
abbrev cX2_ranked : ByteArray := prog_4_method_7_code
def yX2_ranked : MethodName := ⟨RX2, "ranked", "(II)I"⟩
def wsX2_ranked : List Cond := .code yX2_ranked cX2_ranked 3 (some .int) :: WA
theorem k_co_X2_ranked : Cond.code yX2_ranked cX2_ranked 3 (some .int) ∈ WA := wa_m (List.mem_of_getElem? (i := 414) rfl) rfl
abbrev cX2_blocks : ByteArray := prog_4_method_8_code
def yX2_blocks : MethodName := ⟨RX2, "blocks", "(II)Z"⟩
def wsX2_blocks : List Cond := .code yX2_blocks cX2_blocks 3 (some .boolean) :: WA
theorem k_co_X2_blocks : Cond.code yX2_blocks cX2_blocks 3 (some .boolean) ∈ WA := wa_m (List.mem_of_getElem? (i := 418) rfl) rfl
abbrev cX2_requested : ByteArray := prog_4_method_6_code
def yX2_requested : MethodName := ⟨RX2, "requested", "(II)Z"⟩
def wsX2_requested : List Cond := .code yX2_requested cX2_requested 3 (some .boolean) :: WA
theorem k_co_X2_requested : Cond.code yX2_requested cX2_requested 3 (some .boolean) ∈ WA := wa_m (List.mem_of_getElem? (i := 422) rfl) rfl
abbrev cX2_write : ByteArray := prog_4_method_20_code
def yX2_write : MethodName := ⟨RX2, "write", "(III)Z"⟩
def wsX2_write : List Cond := .code yX2_write cX2_write 4 (some .boolean) :: WA
theorem k_co_X2_write : Cond.code yX2_write cX2_write 4 (some .boolean) ∈ WA := wa_m (List.mem_of_getElem? (i := 426) rfl) rfl
abbrev cX2_isController : ByteArray := prog_4_method_4_code
def yX2_isController : MethodName := ⟨RX2, "isController", "(I)Z"⟩
def wsX2_isController : List Cond := .code yX2_isController cX2_isController 1 (some .boolean) :: WA
theorem k_co_X2_isController : Cond.code yX2_isController cX2_isController 1 (some .boolean) ∈ WA := wa_m (List.mem_of_getElem? (i := 429) rfl) rfl
abbrev cX2_second : ByteArray := prog_4_method_15_code
def yX2_second : MethodName := ⟨RX2, "second", "(II)V"⟩
def wsX2_second : List Cond := .code yX2_second cX2_second 4 none :: WA
theorem k_co_X2_second : Cond.code yX2_second cX2_second 4 none ∈ WA := wa_m (List.mem_of_getElem? (i := 433) rfl) rfl
abbrev cX2_begin : ByteArray := prog_4_method_14_code
def yX2_begin : MethodName := ⟨RX2, "begin", "(II)V"⟩
def wsX2_begin : List Cond := .code yX2_begin cX2_begin 4 none :: WA
theorem k_co_X2_begin : Cond.code yX2_begin cX2_begin 4 none ∈ WA := wa_m (List.mem_of_getElem? (i := 437) rfl) rfl
abbrev cX2_order : ByteArray := prog_4_method_18_code
def yX2_order : MethodName := ⟨RX2, "order", "(II)V"⟩
def wsX2_order : List Cond := .code yX2_order cX2_order 4 none :: WA
theorem k_co_X2_order : Cond.code yX2_order cX2_order 4 none ∈ WA := wa_m (List.mem_of_getElem? (i := 441) rfl) rfl
abbrev cX2_end : ByteArray := prog_4_method_17_code
def yX2_end : MethodName := ⟨RX2, "end", "(III)V"⟩
def wsX2_end : List Cond := .code yX2_end cX2_end 5 none :: WA
theorem k_co_X2_end : Cond.code yX2_end cX2_end 5 none ∈ WA := wa_m (List.mem_of_getElem? (i := 445) rfl) rfl
abbrev cX2_highest : ByteArray := prog_4_method_16_code
def yX2_highest : MethodName := ⟨RX2, "highest", "(I)I"⟩
def wsX2_highest : List Cond := .code yX2_highest cX2_highest 3 (some .int) :: WA
theorem k_co_X2_highest : Cond.code yX2_highest cX2_highest 3 (some .int) ∈ WA := wa_m (List.mem_of_getElem? (i := 449) rfl) rfl
abbrev cX2_set : ByteArray := prog_4_method_19_code
def yX2_set : MethodName := ⟨RX2, "set", "(II)V"⟩
def wsX2_set : List Cond := .code yX2_set cX2_set 4 none :: WA
theorem k_co_X2_set : Cond.code yX2_set cX2_set 4 none ∈ WA := wa_m (List.mem_of_getElem? (i := 453) rfl) rfl
abbrev cX2_read : ByteArray := prog_4_method_22_code
def yX2_read : MethodName := ⟨RX2, "read", "(II)I"⟩
def wsX2_read : List Cond := .code yX2_read cX2_read 4 (some .int) :: WA
theorem k_co_X2_read : Cond.code yX2_read cX2_read 4 (some .int) ∈ WA := wa_m (List.mem_of_getElem? (i := 457) rfl) rfl
abbrev cX2_bits : ByteArray := prog_4_method_21_code
def yX2_bits : MethodName := ⟨RX2, "bits", "(II)I"⟩
def wsX2_bits : List Cond := .code yX2_bits cX2_bits 6 (some .int) :: WA
theorem k_co_X2_bits : Cond.code yX2_bits cX2_bits 6 (some .int) ∈ WA := wa_m (List.mem_of_getElem? (i := 461) rfl) rfl
abbrev cX2_taken : ByteArray := prog_4_method_12_code
def yX2_taken : MethodName := ⟨RX2, "taken", "(II)V"⟩
def wsX2_taken : List Cond := .code yX2_taken cX2_taken 3 none :: WA
theorem k_co_X2_taken : Cond.code yX2_taken cX2_taken 3 none ∈ WA := wa_m (List.mem_of_getElem? (i := 465) rfl) rfl
abbrev cX2_take : ByteArray := prog_4_method_23_code
def yX2_take : MethodName := ⟨RX2, "take", "()I"⟩
def wsX2_take : List Cond := .code yX2_take cX2_take 3 (some .int) :: WA
theorem k_co_X2_take : Cond.code yX2_take cX2_take 3 (some .int) ∈ WA := wa_m (List.mem_of_getElem? (i := 469) rfl) rfl
abbrev cX2_delivers : ByteArray := prog_4_method_24_code
def yX2_delivers : MethodName := ⟨RX2, "delivers", "(I)I"⟩
def wsX2_delivers : List Cond := .code yX2_delivers cX2_delivers 2 (some .int) :: WA
theorem k_co_X2_delivers : Cond.code yX2_delivers cX2_delivers 2 (some .int) ∈ WA := wa_m (List.mem_of_getElem? (i := 473) rfl) rfl
abbrev cX2_about : ByteArray := prog_4_method_25_code
def yX2_about : MethodName := ⟨RX2, "about", "(II)I"⟩
def wsX2_about : List Cond := .code yX2_about cX2_about 3 (some .int) :: WA
theorem k_co_X2_about : Cond.code yX2_about cX2_about 3 (some .int) ∈ WA := wa_m (List.mem_of_getElem? (i := 477) rfl) rfl
abbrev cX2_mode : ByteArray := prog_4_method_26_code
def yX2_mode : MethodName := ⟨RX2, "mode", "(II)Z"⟩
def wsX2_mode : List Cond := .code yX2_mode cX2_mode 3 (some .boolean) :: WA
theorem k_co_X2_mode : Cond.code yX2_mode cX2_mode 3 (some .boolean) ∈ WA := wa_m (List.mem_of_getElem? (i := 481) rfl) rfl
abbrev cX2_count : ByteArray := prog_4_method_27_code
def yX2_count : MethodName := ⟨RX2, "count", "(I)I"⟩
def wsX2_count : List Cond := .code yX2_count cX2_count 2 (some .int) :: WA
theorem k_co_X2_count : Cond.code yX2_count cX2_count 2 (some .int) ∈ WA := wa_m (List.mem_of_getElem? (i := 485) rfl) rfl
abbrev cL_law : ByteArray := code
def yL_law : MethodName := ⟨RL, "law", "([I)Z"⟩
theorem k_in_L : Cond.initialized RL ∈ WA := wa_m (List.mem_of_getElem? (i := 0) (by decide +kernel)) rfl
theorem k_in_X0 : Cond.initialized RX0 ∈ WA := wa_m (List.mem_of_getElem? (i := 1) (by decide +kernel)) rfl
theorem k_in_X1 : Cond.initialized RX1 ∈ WA := wa_m (List.mem_of_getElem? (i := 2) (by decide +kernel)) rfl
theorem k_in_X2 : Cond.initialized RX2 ∈ WA := wa_m (List.mem_of_getElem? (i := 3) (by decide +kernel)) rfl
theorem k_in_Throwable : Cond.initialized "java/lang/Throwable" ∈ WA := wa_m (List.mem_of_getElem? (i := 4) (by decide +kernel)) rfl
theorem k_in_Exception : Cond.initialized "java/lang/Exception" ∈ WA := wa_m (List.mem_of_getElem? (i := 5) (by decide +kernel)) rfl
theorem k_in_RuntimeException : Cond.initialized "java/lang/RuntimeException" ∈ WA := wa_m (List.mem_of_getElem? (i := 6) (by decide +kernel)) rfl
theorem k_in_NoSuchElementException : Cond.initialized "java/util/NoSuchElementException" ∈ WA := wa_m (List.mem_of_getElem? (i := 7) (by decide +kernel)) rfl
theorem k_in_IllegalArgumentException : Cond.initialized "java/lang/IllegalArgumentException" ∈ WA := wa_m (List.mem_of_getElem? (i := 8) (by decide +kernel)) rfl
theorem k_cl_L_8 : Cond.classLink RL 8 RX0 ∈ WA := wa_m (List.mem_of_getElem? (i := 9) (by decide +kernel)) rfl
theorem k_is_X0 : Cond.instantiable RX0 3 ∈ WA := wa_m (List.mem_of_getElem? (i := 10) (by decide +kernel)) rfl
theorem k_ml_L_39 : Cond.methodLink RL 39 yX0_init ∈ WA := wa_m (List.mem_of_getElem? (i := 11) (by decide +kernel)) rfl
theorem k_im_X0_init : Cond.instanceMethod yX0_init ∈ WA := wa_m (List.mem_of_getElem? (i := 12) (by decide +kernel)) rfl
theorem k_ml_X0_1 : Cond.methodLink RX0 1 objectInit ∈ WA := wa_m (List.mem_of_getElem? (i := 14) (by decide +kernel)) rfl
theorem k_im_objectInit : Cond.instanceMethod objectInit ∈ WA := wa_m (List.mem_of_getElem? (i := 15) (by decide +kernel)) rfl
theorem k_co_objectInit : Cond.code objectInit ⟨#[0xb1]⟩ 1 none ∈ WA := wa_m (List.mem_of_getElem? (i := 16) (by rfl)) rfl
theorem k_cl_X0_7 : Cond.classLink RX0 7 RX1 ∈ WA := wa_m (List.mem_of_getElem? (i := 17) (by decide +kernel)) rfl
theorem k_is_X1 : Cond.instantiable RX1 19 ∈ WA := wa_m (List.mem_of_getElem? (i := 18) (by decide +kernel)) rfl
theorem k_im_X1_init : Cond.instanceMethod yX1_init ∈ WA := wa_m (List.mem_of_getElem? (i := 20) (by decide +kernel)) rfl
theorem k_ml_X1_3 : Cond.methodLink RX1 3 objectInit ∈ WA := wa_m (List.mem_of_getElem? (i := 22) (by decide +kernel)) rfl
theorem k_fl_X1_9 : Cond.fieldLink RX1 9 "LinePair$Controller" "nestingLine" "I" ∈ WA := wa_m (List.mem_of_getElem? (i := 23) (by decide +kernel)) rfl
theorem k_fl_X1_18 : Cond.fieldLink RX1 18 "LinePair$Controller" "up" "I" ∈ WA := wa_m (List.mem_of_getElem? (i := 24) (by decide +kernel)) rfl
theorem k_fl_X1_25 : Cond.fieldLink RX1 25 "LinePair$Controller" "requestedByEdge" "I" ∈ WA := wa_m (List.mem_of_getElem? (i := 26) (by decide +kernel)) rfl
theorem k_fl_X1_65 : Cond.fieldLink RX1 65 "LinePair$Controller" "inService" "I" ∈ WA := wa_m (List.mem_of_getElem? (i := 27) (by decide +kernel)) rfl
theorem k_fl_X1_43 : Cond.fieldLink RX1 43 "LinePair$Controller" "masked" "I" ∈ WA := wa_m (List.mem_of_getElem? (i := 29) (by decide +kernel)) rfl
theorem k_fl_X1_15 : Cond.fieldLink RX1 15 "LinePair$Controller" "lowest" "I" ∈ WA := wa_m (List.mem_of_getElem? (i := 31) (by decide +kernel)) rfl
theorem k_fl_X1_80 : Cond.fieldLink RX1 80 "LinePair$Controller" "base" "I" ∈ WA := wa_m (List.mem_of_getElem? (i := 34) (by decide +kernel)) rfl
theorem k_fl_X1_103 : Cond.fieldLink RX1 103 "LinePair$Controller" "awaited" "I" ∈ WA := wa_m (List.mem_of_getElem? (i := 36) (by decide +kernel)) rfl
theorem k_fl_X1_89 : Cond.fieldLink RX1 89 "LinePair$Controller" "readChoice" "I" ∈ WA := wa_m (List.mem_of_getElem? (i := 38) (by decide +kernel)) rfl
theorem k_fl_X1_106 : Cond.fieldLink RX1 106 "LinePair$Controller" "fourthFollows" "Z" ∈ WA := wa_m (List.mem_of_getElem? (i := 39) (by decide +kernel)) rfl
theorem k_fl_X1_36 : Cond.fieldLink RX1 36 "LinePair$Controller" "ready" "Z" ∈ WA := wa_m (List.mem_of_getElem? (i := 40) (by decide +kernel)) rfl
theorem k_fl_X1_32 : Cond.fieldLink RX1 32 "LinePair$Controller" "byLevels" "Z" ∈ WA := wa_m (List.mem_of_getElem? (i := 42) (by decide +kernel)) rfl
theorem k_fl_X1_62 : Cond.fieldLink RX1 62 "LinePair$Controller" "specialMask" "Z" ∈ WA := wa_m (List.mem_of_getElem? (i := 44) (by decide +kernel)) rfl
theorem k_fl_X1_59 : Cond.fieldLink RX1 59 "LinePair$Controller" "specialNesting" "Z" ∈ WA := wa_m (List.mem_of_getElem? (i := 46) (by decide +kernel)) rfl
theorem k_fl_X1_71 : Cond.fieldLink RX1 71 "LinePair$Controller" "endsAtOnce" "Z" ∈ WA := wa_m (List.mem_of_getElem? (i := 48) (by decide +kernel)) rfl
theorem k_fl_X1_74 : Cond.fieldLink RX1 74 "LinePair$Controller" "turnsAtOnce" "Z" ∈ WA := wa_m (List.mem_of_getElem? (i := 50) (by decide +kernel)) rfl
theorem k_fl_X1_83 : Cond.fieldLink RX1 83 "LinePair$Controller" "pollWaits" "Z" ∈ WA := wa_m (List.mem_of_getElem? (i := 53) (by decide +kernel)) rfl
theorem k_fl_X1_77 : Cond.fieldLink RX1 77 "LinePair$Controller" "takenLines" "I" ∈ WA := wa_m (List.mem_of_getElem? (i := 54) (by decide +kernel)) rfl
theorem k_fl_X1_115 : Cond.fieldLink RX1 115 "LinePair$Controller" "endedLines" "I" ∈ WA := wa_m (List.mem_of_getElem? (i := 57) (by decide +kernel)) rfl
theorem k_fl_X0_14 : Cond.fieldLink RX0 14 "LinePair" "chief" "LLinePair$Controller;" ∈ WA := wa_m (List.mem_of_getElem? (i := 97) (by decide +kernel)) rfl
theorem k_fl_X0_18 : Cond.fieldLink RX0 18 "LinePair" "helper" "LLinePair$Controller;" ∈ WA := wa_m (List.mem_of_getElem? (i := 98) (by decide +kernel)) rfl
theorem k_fl_X0_21 : Cond.fieldLink RX0 21 "LinePair" "emptyAnswers" "I" ∈ WA := wa_m (List.mem_of_getElem? (i := 99) (by decide +kernel)) rfl
theorem k_ml_L_61 : Cond.methodLink RL 61 yX0_take ∈ WA := wa_m (List.mem_of_getElem? (i := 107) (by decide +kernel)) rfl
theorem k_im_X0_take : Cond.instanceMethod yX0_take ∈ WA := wa_m (List.mem_of_getElem? (i := 108) (by decide +kernel)) rfl
theorem k_se_X0_take : Cond.selects RX0 yX0_take yX0_take ∈ WA := wa_m (List.mem_of_getElem? (i := 109) (by decide +kernel)) rfl
theorem k_im_X1_takeDelivered : Cond.instanceMethod yX1_takeDelivered ∈ WA := wa_m (List.mem_of_getElem? (i := 113) (by decide +kernel)) rfl
theorem k_ml_X1_68 : Cond.methodLink RX1 68 yX1_lineToDeliver ∈ WA := wa_m (List.mem_of_getElem? (i := 115) (by decide +kernel)) rfl
theorem k_im_X1_lineToDeliver : Cond.instanceMethod yX1_lineToDeliver ∈ WA := wa_m (List.mem_of_getElem? (i := 117) (by decide +kernel)) rfl
theorem k_ml_X1_39 : Cond.methodLink RX1 39 yX1_requested ∈ WA := wa_m (List.mem_of_getElem? (i := 119) (by decide +kernel)) rfl
theorem k_im_X1_requested : Cond.instanceMethod yX1_requested ∈ WA := wa_m (List.mem_of_getElem? (i := 121) (by decide +kernel)) rfl
theorem k_ml_X1_46 : Cond.methodLink RX1 46 yX1_highestOf ∈ WA := wa_m (List.mem_of_getElem? (i := 123) (by decide +kernel)) rfl
theorem k_im_X1_highestOf : Cond.instanceMethod yX1_highestOf ∈ WA := wa_m (List.mem_of_getElem? (i := 125) (by decide +kernel)) rfl
theorem k_ml_X1_21 : Cond.methodLink RX1 21 yX1_hasBit ∈ WA := wa_m (List.mem_of_getElem? (i := 127) (by decide +kernel)) rfl
theorem k_st_X1_hasBit : Cond.static yX1_hasBit ∈ WA := wa_m (List.mem_of_getElem? (i := 128) (by decide +kernel)) rfl
theorem k_ml_X1_50 : Cond.methodLink RX1 50 yX1_blockersOf ∈ WA := wa_m (List.mem_of_getElem? (i := 130) (by decide +kernel)) rfl
theorem k_im_X1_blockersOf : Cond.instanceMethod yX1_blockersOf ∈ WA := wa_m (List.mem_of_getElem? (i := 132) (by decide +kernel)) rfl
theorem k_ml_X1_56 : Cond.methodLink RX1 56 yX1_inServiceThatCounts ∈ WA := wa_m (List.mem_of_getElem? (i := 134) (by decide +kernel)) rfl
theorem k_im_X1_inServiceThatCounts : Cond.instanceMethod yX1_inServiceThatCounts ∈ WA := wa_m (List.mem_of_getElem? (i := 136) (by decide +kernel)) rfl
theorem k_ml_X1_28 : Cond.methodLink RX1 28 yX1_without ∈ WA := wa_m (List.mem_of_getElem? (i := 138) (by decide +kernel)) rfl
theorem k_st_X1_without : Cond.static yX1_without ∈ WA := wa_m (List.mem_of_getElem? (i := 139) (by decide +kernel)) rfl
theorem k_ml_X1_53 : Cond.methodLink RX1 53 yX1_rankOf ∈ WA := wa_m (List.mem_of_getElem? (i := 141) (by decide +kernel)) rfl
theorem k_im_X1_rankOf : Cond.instanceMethod yX1_rankOf ∈ WA := wa_m (List.mem_of_getElem? (i := 143) (by decide +kernel)) rfl
theorem k_ml_X0_64 : Cond.methodLink RX0 64 yX0_takeFromHelper ∈ WA := wa_m (List.mem_of_getElem? (i := 145) (by decide +kernel)) rfl
theorem k_im_X0_takeFromHelper : Cond.instanceMethod yX0_takeFromHelper ∈ WA := wa_m (List.mem_of_getElem? (i := 147) (by decide +kernel)) rfl
theorem k_im_X1_moveLine : Cond.instanceMethod yX1_moveLine ∈ WA := wa_m (List.mem_of_getElem? (i := 151) (by decide +kernel)) rfl
theorem k_ml_X0_32 : Cond.methodLink RX0 32 yX0_followHelper ∈ WA := wa_m (List.mem_of_getElem? (i := 153) (by decide +kernel)) rfl
theorem k_im_X0_followHelper : Cond.instanceMethod yX0_followHelper ∈ WA := wa_m (List.mem_of_getElem? (i := 155) (by decide +kernel)) rfl
theorem k_im_X1_numberOf : Cond.instanceMethod yX1_numberOf ∈ WA := wa_m (List.mem_of_getElem? (i := 160) (by decide +kernel)) rfl
theorem k_ml_L_43 : Cond.methodLink RL 43 yL_line ∈ WA := wa_m (List.mem_of_getElem? (i := 162) (by decide +kernel)) rfl
theorem k_st_L_line : Cond.static yL_line ∈ WA := wa_m (List.mem_of_getElem? (i := 163) (by decide +kernel)) rfl
theorem k_cl_L_13 : Cond.classLink RL 13 "java/util/NoSuchElementException" ∈ WA := wa_m (List.mem_of_getElem? (i := 165) (by decide +kernel)) rfl
theorem k_ml_L_7 : Cond.methodLink RL 7 yX0_line ∈ WA := wa_m (List.mem_of_getElem? (i := 166) (by decide +kernel)) rfl
theorem k_im_X0_line : Cond.instanceMethod yX0_line ∈ WA := wa_m (List.mem_of_getElem? (i := 167) (by decide +kernel)) rfl
theorem k_se_X0_line : Cond.selects RX0 yX0_line yX0_line ∈ WA := wa_m (List.mem_of_getElem? (i := 168) (by decide +kernel)) rfl
theorem k_cl_X0_25 : Cond.classLink RX0 25 "java/util/NoSuchElementException" ∈ WA := wa_m (List.mem_of_getElem? (i := 170) (by decide +kernel)) rfl
theorem k_is_NoSuchElementException : Cond.instantiable "java/util/NoSuchElementException" 6 ∈ WA := wa_m (List.mem_of_getElem? (i := 171) (by decide +kernel)) rfl
theorem k_is_Throwable : Cond.instantiable "java/lang/Throwable" 6 ∈ WA := wa_m (List.mem_of_getElem? (i := 208) (by decide +kernel)) rfl
theorem k_ml_L_53 : Cond.methodLink RL 53 yL_write ∈ WA := wa_m (List.mem_of_getElem? (i := 232) (by decide +kernel)) rfl
theorem k_st_L_write : Cond.static yL_write ∈ WA := wa_m (List.mem_of_getElem? (i := 233) (by decide +kernel)) rfl
theorem k_cl_L_19 : Cond.classLink RL 19 "java/lang/IllegalArgumentException" ∈ WA := wa_m (List.mem_of_getElem? (i := 235) (by decide +kernel)) rfl
theorem k_ml_L_15 : Cond.methodLink RL 15 yX0_write ∈ WA := wa_m (List.mem_of_getElem? (i := 236) (by decide +kernel)) rfl
theorem k_im_X0_write : Cond.instanceMethod yX0_write ∈ WA := wa_m (List.mem_of_getElem? (i := 237) (by decide +kernel)) rfl
theorem k_se_X0_write : Cond.selects RX0 yX0_write yX0_write ∈ WA := wa_m (List.mem_of_getElem? (i := 238) (by decide +kernel)) rfl
theorem k_ml_X0_35 : Cond.methodLink RX0 35 yX0_controllerNumbered ∈ WA := wa_m (List.mem_of_getElem? (i := 240) (by decide +kernel)) rfl
theorem k_im_X0_controllerNumbered : Cond.instanceMethod yX0_controllerNumbered ∈ WA := wa_m (List.mem_of_getElem? (i := 242) (by decide +kernel)) rfl
theorem k_ml_X0_39 : Cond.methodLink RX0 39 yX0_checkPort ∈ WA := wa_m (List.mem_of_getElem? (i := 244) (by decide +kernel)) rfl
theorem k_im_X0_checkPort : Cond.instanceMethod yX0_checkPort ∈ WA := wa_m (List.mem_of_getElem? (i := 246) (by decide +kernel)) rfl
theorem k_cl_X0_42 : Cond.classLink RX0 42 "java/lang/IllegalArgumentException" ∈ WA := wa_m (List.mem_of_getElem? (i := 248) (by decide +kernel)) rfl
theorem k_is_IllegalArgumentException : Cond.instantiable "java/lang/IllegalArgumentException" 6 ∈ WA := wa_m (List.mem_of_getElem? (i := 249) (by decide +kernel)) rfl
theorem k_im_X1_acceptAtPort0 : Cond.instanceMethod yX1_acceptAtPort0 ∈ WA := wa_m (List.mem_of_getElem? (i := 265) (by decide +kernel)) rfl
theorem k_ml_X1_92 : Cond.methodLink RX1 92 yX1_begin ∈ WA := wa_m (List.mem_of_getElem? (i := 267) (by decide +kernel)) rfl
theorem k_im_X1_begin : Cond.instanceMethod yX1_begin ∈ WA := wa_m (List.mem_of_getElem? (i := 269) (by decide +kernel)) rfl
theorem k_ml_X1_96 : Cond.methodLink RX1 96 yX1_choose ∈ WA := wa_m (List.mem_of_getElem? (i := 271) (by decide +kernel)) rfl
theorem k_im_X1_choose : Cond.instanceMethod yX1_choose ∈ WA := wa_m (List.mem_of_getElem? (i := 273) (by decide +kernel)) rfl
theorem k_ml_X1_99 : Cond.methodLink RX1 99 yX1_endOrTurn ∈ WA := wa_m (List.mem_of_getElem? (i := 275) (by decide +kernel)) rfl
theorem k_im_X1_endOrTurn : Cond.instanceMethod yX1_endOrTurn ∈ WA := wa_m (List.mem_of_getElem? (i := 277) (by decide +kernel)) rfl
theorem k_ml_X1_109 : Cond.methodLink RX1 109 yX1_end ∈ WA := wa_m (List.mem_of_getElem? (i := 279) (by decide +kernel)) rfl
theorem k_im_X1_end : Cond.instanceMethod yX1_end ∈ WA := wa_m (List.mem_of_getElem? (i := 281) (by decide +kernel)) rfl
theorem k_ml_X1_112 : Cond.methodLink RX1 112 yX1_endHighestAndTurn ∈ WA := wa_m (List.mem_of_getElem? (i := 283) (by decide +kernel)) rfl
theorem k_im_X1_endHighestAndTurn : Cond.instanceMethod yX1_endHighestAndTurn ∈ WA := wa_m (List.mem_of_getElem? (i := 285) (by decide +kernel)) rfl
theorem k_im_X1_acceptAtPort1 : Cond.instanceMethod yX1_acceptAtPort1 ∈ WA := wa_m (List.mem_of_getElem? (i := 289) (by decide +kernel)) rfl
theorem k_ml_L_57 : Cond.methodLink RL 57 yL_read ∈ WA := wa_m (List.mem_of_getElem? (i := 291) (by decide +kernel)) rfl
theorem k_st_L_read : Cond.static yL_read ∈ WA := wa_m (List.mem_of_getElem? (i := 292) (by decide +kernel)) rfl
theorem k_ml_L_21 : Cond.methodLink RL 21 yX0_read ∈ WA := wa_m (List.mem_of_getElem? (i := 294) (by decide +kernel)) rfl
theorem k_im_X0_read : Cond.instanceMethod yX0_read ∈ WA := wa_m (List.mem_of_getElem? (i := 295) (by decide +kernel)) rfl
theorem k_se_X0_read : Cond.selects RX0 yX0_read yX0_read ∈ WA := wa_m (List.mem_of_getElem? (i := 296) (by decide +kernel)) rfl
theorem k_im_X1_answerAtPort0 : Cond.instanceMethod yX1_answerAtPort0 ∈ WA := wa_m (List.mem_of_getElem? (i := 300) (by decide +kernel)) rfl
theorem k_ml_X1_86 : Cond.methodLink RX1 86 yX1_takeDelivered ∈ WA := wa_m (List.mem_of_getElem? (i := 302) (by decide +kernel)) rfl
theorem k_ml_L_65 : Cond.methodLink RL 65 yL_delivers ∈ WA := wa_m (List.mem_of_getElem? (i := 303) (by decide +kernel)) rfl
theorem k_st_L_delivers : Cond.static yL_delivers ∈ WA := wa_m (List.mem_of_getElem? (i := 304) (by decide +kernel)) rfl
theorem k_ml_L_25 : Cond.methodLink RL 25 yX0_delivers ∈ WA := wa_m (List.mem_of_getElem? (i := 306) (by decide +kernel)) rfl
theorem k_im_X0_delivers : Cond.instanceMethod yX0_delivers ∈ WA := wa_m (List.mem_of_getElem? (i := 307) (by decide +kernel)) rfl
theorem k_se_X0_delivers : Cond.selects RX0 yX0_delivers yX0_delivers ∈ WA := wa_m (List.mem_of_getElem? (i := 308) (by decide +kernel)) rfl
theorem k_ml_L_69 : Cond.methodLink RL 69 yL_about ∈ WA := wa_m (List.mem_of_getElem? (i := 310) (by decide +kernel)) rfl
theorem k_st_L_about : Cond.static yL_about ∈ WA := wa_m (List.mem_of_getElem? (i := 311) (by decide +kernel)) rfl
theorem k_ml_L_29 : Cond.methodLink RL 29 yX0_about ∈ WA := wa_m (List.mem_of_getElem? (i := 313) (by decide +kernel)) rfl
theorem k_im_X0_about : Cond.instanceMethod yX0_about ∈ WA := wa_m (List.mem_of_getElem? (i := 314) (by decide +kernel)) rfl
theorem k_se_X0_about : Cond.selects RX0 yX0_about yX0_about ∈ WA := wa_m (List.mem_of_getElem? (i := 315) (by decide +kernel)) rfl
theorem k_ml_L_72 : Cond.methodLink RL 72 yL_mode ∈ WA := wa_m (List.mem_of_getElem? (i := 318) (by decide +kernel)) rfl
theorem k_st_L_mode : Cond.static yL_mode ∈ WA := wa_m (List.mem_of_getElem? (i := 319) (by decide +kernel)) rfl
theorem k_ml_L_32 : Cond.methodLink RL 32 yX0_mode ∈ WA := wa_m (List.mem_of_getElem? (i := 321) (by decide +kernel)) rfl
theorem k_im_X0_mode : Cond.instanceMethod yX0_mode ∈ WA := wa_m (List.mem_of_getElem? (i := 322) (by decide +kernel)) rfl
theorem k_se_X0_mode : Cond.selects RX0 yX0_mode yX0_mode ∈ WA := wa_m (List.mem_of_getElem? (i := 323) (by decide +kernel)) rfl
theorem k_ml_L_75 : Cond.methodLink RL 75 yL_count ∈ WA := wa_m (List.mem_of_getElem? (i := 325) (by decide +kernel)) rfl
theorem k_st_L_count : Cond.static yL_count ∈ WA := wa_m (List.mem_of_getElem? (i := 326) (by decide +kernel)) rfl
theorem k_ml_L_36 : Cond.methodLink RL 36 yX0_count ∈ WA := wa_m (List.mem_of_getElem? (i := 328) (by decide +kernel)) rfl
theorem k_im_X0_count : Cond.instanceMethod yX0_count ∈ WA := wa_m (List.mem_of_getElem? (i := 329) (by decide +kernel)) rfl
theorem k_se_X0_count : Cond.selects RX0 yX0_count yX0_count ∈ WA := wa_m (List.mem_of_getElem? (i := 330) (by decide +kernel)) rfl
theorem k_cl_L_40 : Cond.classLink RL 40 RX2 ∈ WA := wa_m (List.mem_of_getElem? (i := 332) (by decide +kernel)) rfl
theorem k_is_X2 : Cond.instantiable RX2 14 ∈ WA := wa_m (List.mem_of_getElem? (i := 333) (by decide +kernel)) rfl
theorem k_ml_L_42 : Cond.methodLink RL 42 yX2_init ∈ WA := wa_m (List.mem_of_getElem? (i := 334) (by decide +kernel)) rfl
theorem k_im_X2_init : Cond.instanceMethod yX2_init ∈ WA := wa_m (List.mem_of_getElem? (i := 335) (by decide +kernel)) rfl
theorem k_ml_X2_1 : Cond.methodLink RX2 1 objectInit ∈ WA := wa_m (List.mem_of_getElem? (i := 337) (by decide +kernel)) rfl
theorem k_fl_X2_41 : Cond.fieldLink RX2 41 "LinePairModel" "thrown" "I" ∈ WA := wa_m (List.mem_of_getElem? (i := 338) (by decide +kernel)) rfl
theorem k_fl_X2_7 : Cond.fieldLink RX2 7 "LinePairModel" "up" "[Z" ∈ WA := wa_m (List.mem_of_getElem? (i := 339) (by decide +kernel)) rfl
theorem k_fl_X2_13 : Cond.fieldLink RX2 13 "LinePairModel" "latched" "[Z" ∈ WA := wa_m (List.mem_of_getElem? (i := 340) (by decide +kernel)) rfl
theorem k_fl_X2_16 : Cond.fieldLink RX2 16 "LinePairModel" "served" "[Z" ∈ WA := wa_m (List.mem_of_getElem? (i := 341) (by decide +kernel)) rfl
theorem k_fl_X2_19 : Cond.fieldLink RX2 19 "LinePairModel" "masked" "[Z" ∈ WA := wa_m (List.mem_of_getElem? (i := 342) (by decide +kernel)) rfl
theorem k_fl_X2_22 : Cond.fieldLink RX2 22 "LinePairModel" "lowest" "[I" ∈ WA := wa_m (List.mem_of_getElem? (i := 343) (by decide +kernel)) rfl
theorem k_fl_X2_26 : Cond.fieldLink RX2 26 "LinePairModel" "bases" "[I" ∈ WA := wa_m (List.mem_of_getElem? (i := 344) (by decide +kernel)) rfl
theorem k_fl_X2_29 : Cond.fieldLink RX2 29 "LinePairModel" "awaited" "[I" ∈ WA := wa_m (List.mem_of_getElem? (i := 345) (by decide +kernel)) rfl
theorem k_fl_X2_32 : Cond.fieldLink RX2 32 "LinePairModel" "readers" "[I" ∈ WA := wa_m (List.mem_of_getElem? (i := 346) (by decide +kernel)) rfl
theorem k_fl_X2_35 : Cond.fieldLink RX2 35 "LinePairModel" "modes" "[Z" ∈ WA := wa_m (List.mem_of_getElem? (i := 347) (by decide +kernel)) rfl
theorem k_fl_X2_38 : Cond.fieldLink RX2 38 "LinePairModel" "fourth" "[Z" ∈ WA := wa_m (List.mem_of_getElem? (i := 348) (by decide +kernel)) rfl
theorem k_fl_X2_67 : Cond.fieldLink RX2 67 "LinePairModel" "takes" "I" ∈ WA := wa_m (List.mem_of_getElem? (i := 349) (by decide +kernel)) rfl
theorem k_fl_X2_110 : Cond.fieldLink RX2 110 "LinePairModel" "nothings" "I" ∈ WA := wa_m (List.mem_of_getElem? (i := 350) (by decide +kernel)) rfl
theorem k_fl_X2_80 : Cond.fieldLink RX2 80 "LinePairModel" "ends" "I" ∈ WA := wa_m (List.mem_of_getElem? (i := 351) (by decide +kernel)) rfl
theorem k_ac_boolean : Cond.arrayClass .boolean ∈ WA := wa_m (List.mem_of_getElem? (i := 381) (by decide +kernel)) rfl
theorem k_ac_int : Cond.arrayClass .int ∈ WA := wa_m (List.mem_of_getElem? (i := 382) (by decide +kernel)) rfl
theorem k_ml_L_49 : Cond.methodLink RL 49 yX2_thrown ∈ WA := wa_m (List.mem_of_getElem? (i := 383) (by decide +kernel)) rfl
theorem k_im_X2_thrown : Cond.instanceMethod yX2_thrown ∈ WA := wa_m (List.mem_of_getElem? (i := 384) (by decide +kernel)) rfl
theorem k_se_X2_thrown : Cond.selects RX2 yX2_thrown yX2_thrown ∈ WA := wa_m (List.mem_of_getElem? (i := 385) (by decide +kernel)) rfl
theorem k_ml_L_48 : Cond.methodLink RL 48 yX2_line ∈ WA := wa_m (List.mem_of_getElem? (i := 387) (by decide +kernel)) rfl
theorem k_im_X2_line : Cond.instanceMethod yX2_line ∈ WA := wa_m (List.mem_of_getElem? (i := 388) (by decide +kernel)) rfl
theorem k_se_X2_line : Cond.selects RX2 yX2_line yX2_line ∈ WA := wa_m (List.mem_of_getElem? (i := 389) (by decide +kernel)) rfl
theorem k_ml_X2_70 : Cond.methodLink RX2 70 yX2_goes ∈ WA := wa_m (List.mem_of_getElem? (i := 391) (by decide +kernel)) rfl
theorem k_im_X2_goes : Cond.instanceMethod yX2_goes ∈ WA := wa_m (List.mem_of_getElem? (i := 393) (by decide +kernel)) rfl
theorem k_ml_X2_63 : Cond.methodLink RX2 63 yX2_raise ∈ WA := wa_m (List.mem_of_getElem? (i := 395) (by decide +kernel)) rfl
theorem k_im_X2_raise : Cond.instanceMethod yX2_raise ∈ WA := wa_m (List.mem_of_getElem? (i := 397) (by decide +kernel)) rfl
theorem k_ml_X2_74 : Cond.methodLink RX2 74 yX2_follow ∈ WA := wa_m (List.mem_of_getElem? (i := 399) (by decide +kernel)) rfl
theorem k_im_X2_follow : Cond.instanceMethod yX2_follow ∈ WA := wa_m (List.mem_of_getElem? (i := 401) (by decide +kernel)) rfl
theorem k_ml_X2_59 : Cond.methodLink RX2 59 yX2_delivered ∈ WA := wa_m (List.mem_of_getElem? (i := 403) (by decide +kernel)) rfl
theorem k_im_X2_delivered : Cond.instanceMethod yX2_delivered ∈ WA := wa_m (List.mem_of_getElem? (i := 405) (by decide +kernel)) rfl
theorem k_ml_X2_45 : Cond.methodLink RX2 45 yX2_is ∈ WA := wa_m (List.mem_of_getElem? (i := 407) (by decide +kernel)) rfl
theorem k_im_X2_is : Cond.instanceMethod yX2_is ∈ WA := wa_m (List.mem_of_getElem? (i := 409) (by decide +kernel)) rfl
theorem k_ml_X2_49 : Cond.methodLink RX2 49 yX2_ranked ∈ WA := wa_m (List.mem_of_getElem? (i := 411) (by decide +kernel)) rfl
theorem k_im_X2_ranked : Cond.instanceMethod yX2_ranked ∈ WA := wa_m (List.mem_of_getElem? (i := 413) (by decide +kernel)) rfl
theorem k_ml_X2_53 : Cond.methodLink RX2 53 yX2_blocks ∈ WA := wa_m (List.mem_of_getElem? (i := 415) (by decide +kernel)) rfl
theorem k_im_X2_blocks : Cond.instanceMethod yX2_blocks ∈ WA := wa_m (List.mem_of_getElem? (i := 417) (by decide +kernel)) rfl
theorem k_ml_X2_56 : Cond.methodLink RX2 56 yX2_requested ∈ WA := wa_m (List.mem_of_getElem? (i := 419) (by decide +kernel)) rfl
theorem k_im_X2_requested : Cond.instanceMethod yX2_requested ∈ WA := wa_m (List.mem_of_getElem? (i := 421) (by decide +kernel)) rfl
theorem k_ml_L_56 : Cond.methodLink RL 56 yX2_write ∈ WA := wa_m (List.mem_of_getElem? (i := 423) (by decide +kernel)) rfl
theorem k_im_X2_write : Cond.instanceMethod yX2_write ∈ WA := wa_m (List.mem_of_getElem? (i := 424) (by decide +kernel)) rfl
theorem k_se_X2_write : Cond.selects RX2 yX2_write yX2_write ∈ WA := wa_m (List.mem_of_getElem? (i := 425) (by decide +kernel)) rfl
theorem k_ml_X2_87 : Cond.methodLink RX2 87 yX2_isController ∈ WA := wa_m (List.mem_of_getElem? (i := 427) (by decide +kernel)) rfl
theorem k_st_X2_isController : Cond.static yX2_isController ∈ WA := wa_m (List.mem_of_getElem? (i := 428) (by decide +kernel)) rfl
theorem k_ml_X2_91 : Cond.methodLink RX2 91 yX2_second ∈ WA := wa_m (List.mem_of_getElem? (i := 430) (by decide +kernel)) rfl
theorem k_im_X2_second : Cond.instanceMethod yX2_second ∈ WA := wa_m (List.mem_of_getElem? (i := 432) (by decide +kernel)) rfl
theorem k_ml_X2_95 : Cond.methodLink RX2 95 yX2_begin ∈ WA := wa_m (List.mem_of_getElem? (i := 434) (by decide +kernel)) rfl
theorem k_im_X2_begin : Cond.instanceMethod yX2_begin ∈ WA := wa_m (List.mem_of_getElem? (i := 436) (by decide +kernel)) rfl
theorem k_ml_X2_98 : Cond.methodLink RX2 98 yX2_order ∈ WA := wa_m (List.mem_of_getElem? (i := 438) (by decide +kernel)) rfl
theorem k_im_X2_order : Cond.instanceMethod yX2_order ∈ WA := wa_m (List.mem_of_getElem? (i := 440) (by decide +kernel)) rfl
theorem k_ml_X2_83 : Cond.methodLink RX2 83 yX2_end ∈ WA := wa_m (List.mem_of_getElem? (i := 442) (by decide +kernel)) rfl
theorem k_im_X2_end : Cond.instanceMethod yX2_end ∈ WA := wa_m (List.mem_of_getElem? (i := 444) (by decide +kernel)) rfl
theorem k_ml_X2_77 : Cond.methodLink RX2 77 yX2_highest ∈ WA := wa_m (List.mem_of_getElem? (i := 446) (by decide +kernel)) rfl
theorem k_im_X2_highest : Cond.instanceMethod yX2_highest ∈ WA := wa_m (List.mem_of_getElem? (i := 448) (by decide +kernel)) rfl
theorem k_ml_X2_101 : Cond.methodLink RX2 101 yX2_set ∈ WA := wa_m (List.mem_of_getElem? (i := 450) (by decide +kernel)) rfl
theorem k_im_X2_set : Cond.instanceMethod yX2_set ∈ WA := wa_m (List.mem_of_getElem? (i := 452) (by decide +kernel)) rfl
theorem k_ml_L_60 : Cond.methodLink RL 60 yX2_read ∈ WA := wa_m (List.mem_of_getElem? (i := 454) (by decide +kernel)) rfl
theorem k_im_X2_read : Cond.instanceMethod yX2_read ∈ WA := wa_m (List.mem_of_getElem? (i := 455) (by decide +kernel)) rfl
theorem k_se_X2_read : Cond.selects RX2 yX2_read yX2_read ∈ WA := wa_m (List.mem_of_getElem? (i := 456) (by decide +kernel)) rfl
theorem k_ml_X2_104 : Cond.methodLink RX2 104 yX2_bits ∈ WA := wa_m (List.mem_of_getElem? (i := 458) (by decide +kernel)) rfl
theorem k_im_X2_bits : Cond.instanceMethod yX2_bits ∈ WA := wa_m (List.mem_of_getElem? (i := 460) (by decide +kernel)) rfl
theorem k_ml_X2_107 : Cond.methodLink RX2 107 yX2_taken ∈ WA := wa_m (List.mem_of_getElem? (i := 462) (by decide +kernel)) rfl
theorem k_im_X2_taken : Cond.instanceMethod yX2_taken ∈ WA := wa_m (List.mem_of_getElem? (i := 464) (by decide +kernel)) rfl
theorem k_ml_L_64 : Cond.methodLink RL 64 yX2_take ∈ WA := wa_m (List.mem_of_getElem? (i := 466) (by decide +kernel)) rfl
theorem k_im_X2_take : Cond.instanceMethod yX2_take ∈ WA := wa_m (List.mem_of_getElem? (i := 467) (by decide +kernel)) rfl
theorem k_se_X2_take : Cond.selects RX2 yX2_take yX2_take ∈ WA := wa_m (List.mem_of_getElem? (i := 468) (by decide +kernel)) rfl
theorem k_ml_L_68 : Cond.methodLink RL 68 yX2_delivers ∈ WA := wa_m (List.mem_of_getElem? (i := 470) (by decide +kernel)) rfl
theorem k_im_X2_delivers : Cond.instanceMethod yX2_delivers ∈ WA := wa_m (List.mem_of_getElem? (i := 471) (by decide +kernel)) rfl
theorem k_se_X2_delivers : Cond.selects RX2 yX2_delivers yX2_delivers ∈ WA := wa_m (List.mem_of_getElem? (i := 472) (by decide +kernel)) rfl
theorem k_ml_L_71 : Cond.methodLink RL 71 yX2_about ∈ WA := wa_m (List.mem_of_getElem? (i := 474) (by decide +kernel)) rfl
theorem k_im_X2_about : Cond.instanceMethod yX2_about ∈ WA := wa_m (List.mem_of_getElem? (i := 475) (by decide +kernel)) rfl
theorem k_se_X2_about : Cond.selects RX2 yX2_about yX2_about ∈ WA := wa_m (List.mem_of_getElem? (i := 476) (by decide +kernel)) rfl
theorem k_ml_L_74 : Cond.methodLink RL 74 yX2_mode ∈ WA := wa_m (List.mem_of_getElem? (i := 478) (by decide +kernel)) rfl
theorem k_im_X2_mode : Cond.instanceMethod yX2_mode ∈ WA := wa_m (List.mem_of_getElem? (i := 479) (by decide +kernel)) rfl
theorem k_se_X2_mode : Cond.selects RX2 yX2_mode yX2_mode ∈ WA := wa_m (List.mem_of_getElem? (i := 480) (by decide +kernel)) rfl
theorem k_ml_L_77 : Cond.methodLink RL 77 yX2_count ∈ WA := wa_m (List.mem_of_getElem? (i := 482) (by decide +kernel)) rfl
theorem k_im_X2_count : Cond.instanceMethod yX2_count ∈ WA := wa_m (List.mem_of_getElem? (i := 483) (by decide +kernel)) rfl
theorem k_se_X2_count : Cond.selects RX2 yX2_count yX2_count ∈ WA := wa_m (List.mem_of_getElem? (i := 484) (by decide +kernel)) rfl
theorem k_ac_long : Cond.arrayClass .long ∈ WA := wa_m (List.mem_of_getElem? (i := 486) (by decide +kernel)) rfl
theorem k_se_X1_takeDelivered : Cond.selects RX1 yX1_takeDelivered yX1_takeDelivered ∈ WA := wa_p (List.mem_of_getElem? (i := 0) (by decide +kernel)) rfl
theorem k_se_X1_lineToDeliver : Cond.selects RX1 yX1_lineToDeliver yX1_lineToDeliver ∈ WA := wa_p (List.mem_of_getElem? (i := 1) (by decide +kernel)) rfl
theorem k_se_X1_requested : Cond.selects RX1 yX1_requested yX1_requested ∈ WA := wa_p (List.mem_of_getElem? (i := 2) (by decide +kernel)) rfl
theorem k_se_X1_highestOf : Cond.selects RX1 yX1_highestOf yX1_highestOf ∈ WA := wa_p (List.mem_of_getElem? (i := 3) (by decide +kernel)) rfl
theorem k_se_X1_blockersOf : Cond.selects RX1 yX1_blockersOf yX1_blockersOf ∈ WA := wa_p (List.mem_of_getElem? (i := 4) (by decide +kernel)) rfl
theorem k_se_X1_inServiceThatCounts : Cond.selects RX1 yX1_inServiceThatCounts yX1_inServiceThatCounts ∈ WA := wa_p (List.mem_of_getElem? (i := 5) (by decide +kernel)) rfl
theorem k_se_X1_rankOf : Cond.selects RX1 yX1_rankOf yX1_rankOf ∈ WA := wa_p (List.mem_of_getElem? (i := 6) (by decide +kernel)) rfl
theorem k_se_X0_takeFromHelper : Cond.selects RX0 yX0_takeFromHelper yX0_takeFromHelper ∈ WA := wa_p (List.mem_of_getElem? (i := 7) (by decide +kernel)) rfl
theorem k_se_X1_moveLine : Cond.selects RX1 yX1_moveLine yX1_moveLine ∈ WA := wa_p (List.mem_of_getElem? (i := 8) (by decide +kernel)) rfl
theorem k_se_X0_followHelper : Cond.selects RX0 yX0_followHelper yX0_followHelper ∈ WA := wa_p (List.mem_of_getElem? (i := 9) (by decide +kernel)) rfl
theorem k_se_X1_numberOf : Cond.selects RX1 yX1_numberOf yX1_numberOf ∈ WA := wa_p (List.mem_of_getElem? (i := 10) (by decide +kernel)) rfl
theorem k_se_X0_controllerNumbered : Cond.selects RX0 yX0_controllerNumbered yX0_controllerNumbered ∈ WA := wa_p (List.mem_of_getElem? (i := 12) (by decide +kernel)) rfl
theorem k_se_X0_checkPort : Cond.selects RX0 yX0_checkPort yX0_checkPort ∈ WA := wa_p (List.mem_of_getElem? (i := 13) (by decide +kernel)) rfl
theorem k_se_X1_acceptAtPort0 : Cond.selects RX1 yX1_acceptAtPort0 yX1_acceptAtPort0 ∈ WA := wa_p (List.mem_of_getElem? (i := 14) (by decide +kernel)) rfl
theorem k_se_X1_begin : Cond.selects RX1 yX1_begin yX1_begin ∈ WA := wa_p (List.mem_of_getElem? (i := 15) (by decide +kernel)) rfl
theorem k_se_X1_choose : Cond.selects RX1 yX1_choose yX1_choose ∈ WA := wa_p (List.mem_of_getElem? (i := 16) (by decide +kernel)) rfl
theorem k_se_X1_endOrTurn : Cond.selects RX1 yX1_endOrTurn yX1_endOrTurn ∈ WA := wa_p (List.mem_of_getElem? (i := 17) (by decide +kernel)) rfl
theorem k_se_X1_end : Cond.selects RX1 yX1_end yX1_end ∈ WA := wa_p (List.mem_of_getElem? (i := 18) (by decide +kernel)) rfl
theorem k_se_X1_endHighestAndTurn : Cond.selects RX1 yX1_endHighestAndTurn yX1_endHighestAndTurn ∈ WA := wa_p (List.mem_of_getElem? (i := 19) (by decide +kernel)) rfl
theorem k_se_X1_acceptAtPort1 : Cond.selects RX1 yX1_acceptAtPort1 yX1_acceptAtPort1 ∈ WA := wa_p (List.mem_of_getElem? (i := 20) (by decide +kernel)) rfl
theorem k_se_X1_answerAtPort0 : Cond.selects RX1 yX1_answerAtPort0 yX1_answerAtPort0 ∈ WA := wa_p (List.mem_of_getElem? (i := 21) (by decide +kernel)) rfl
theorem k_se_X2_goes : Cond.selects RX2 yX2_goes yX2_goes ∈ WA := wa_p (List.mem_of_getElem? (i := 22) (by decide +kernel)) rfl
theorem k_se_X2_raise : Cond.selects RX2 yX2_raise yX2_raise ∈ WA := wa_p (List.mem_of_getElem? (i := 23) (by decide +kernel)) rfl
theorem k_se_X2_follow : Cond.selects RX2 yX2_follow yX2_follow ∈ WA := wa_p (List.mem_of_getElem? (i := 24) (by decide +kernel)) rfl
theorem k_se_X2_delivered : Cond.selects RX2 yX2_delivered yX2_delivered ∈ WA := wa_p (List.mem_of_getElem? (i := 25) (by decide +kernel)) rfl
theorem k_se_X2_is : Cond.selects RX2 yX2_is yX2_is ∈ WA := wa_p (List.mem_of_getElem? (i := 26) (by decide +kernel)) rfl
theorem k_se_X2_ranked : Cond.selects RX2 yX2_ranked yX2_ranked ∈ WA := wa_p (List.mem_of_getElem? (i := 27) (by decide +kernel)) rfl
theorem k_se_X2_blocks : Cond.selects RX2 yX2_blocks yX2_blocks ∈ WA := wa_p (List.mem_of_getElem? (i := 28) (by decide +kernel)) rfl
theorem k_se_X2_requested : Cond.selects RX2 yX2_requested yX2_requested ∈ WA := wa_p (List.mem_of_getElem? (i := 29) (by decide +kernel)) rfl
theorem k_se_X2_second : Cond.selects RX2 yX2_second yX2_second ∈ WA := wa_p (List.mem_of_getElem? (i := 30) (by decide +kernel)) rfl
theorem k_se_X2_begin : Cond.selects RX2 yX2_begin yX2_begin ∈ WA := wa_p (List.mem_of_getElem? (i := 31) (by decide +kernel)) rfl
theorem k_se_X2_order : Cond.selects RX2 yX2_order yX2_order ∈ WA := wa_p (List.mem_of_getElem? (i := 32) (by decide +kernel)) rfl
theorem k_se_X2_end : Cond.selects RX2 yX2_end yX2_end ∈ WA := wa_p (List.mem_of_getElem? (i := 33) (by decide +kernel)) rfl
theorem k_se_X2_highest : Cond.selects RX2 yX2_highest yX2_highest ∈ WA := wa_p (List.mem_of_getElem? (i := 34) (by decide +kernel)) rfl
theorem k_se_X2_set : Cond.selects RX2 yX2_set yX2_set ∈ WA := wa_p (List.mem_of_getElem? (i := 35) (by decide +kernel)) rfl
theorem k_se_X2_bits : Cond.selects RX2 yX2_bits yX2_bits ∈ WA := wa_p (List.mem_of_getElem? (i := 36) (by decide +kernel)) rfl
theorem k_se_X2_taken : Cond.selects RX2 yX2_taken yX2_taken ∈ WA := wa_p (List.mem_of_getElem? (i := 37) (by decide +kernel)) rfl
end
section
theorem dX0_init_0 : decode cX0_init 0 = .ok (.aload_n 0, 1) := by decide +kernel
theorem dX0_init_1 : decode cX0_init 1 = .ok (.invokespecial 1, 3) := by decide +kernel
theorem dX0_init_4 : decode cX0_init 4 = .ok (.aload_n 0, 1) := by decide +kernel
theorem dX0_init_5 : decode cX0_init 5 = .ok (.new 7, 3) := by decide +kernel
theorem dX0_init_8 : decode cX0_init 8 = .ok (.dup, 1) := by decide +kernel
theorem dX0_init_9 : decode cX0_init 9 = .ok (.iconst 2, 1) := by decide +kernel
theorem dX0_init_10 : decode cX0_init 10 = .ok (.invokespecial 11, 3) := by decide +kernel
theorem dX0_init_13 : decode cX0_init 13 = .ok (.putfield 14, 3) := by decide +kernel
theorem dX0_init_16 : decode cX0_init 16 = .ok (.aload_n 0, 1) := by decide +kernel
theorem dX0_init_17 : decode cX0_init 17 = .ok (.new 7, 3) := by decide +kernel
theorem dX0_init_20 : decode cX0_init 20 = .ok (.dup, 1) := by decide +kernel
theorem dX0_init_21 : decode cX0_init 21 = .ok (.iconst (-1), 1) := by decide +kernel
theorem dX0_init_22 : decode cX0_init 22 = .ok (.invokespecial 11, 3) := by decide +kernel
theorem dX0_init_25 : decode cX0_init 25 = .ok (.putfield 18, 3) := by decide +kernel
theorem dX0_init_28 : decode cX0_init 28 = .ok (.aload_n 0, 1) := by decide +kernel
theorem dX0_init_29 : decode cX0_init 29 = .ok (.iconst 0, 1) := by decide +kernel
theorem dX0_init_30 : decode cX0_init 30 = .ok (.putfield 21, 3) := by decide +kernel
theorem dX0_init_33 : decode cX0_init 33 = .ok (.return_, 1) := by decide +kernel
theorem dX0_line_0 : decode cX0_line 0 = .ok (.iload_n 1, 1) := by decide +kernel
theorem dX0_line_1 : decode cX0_line 1 = .ok (.ifCond .lt 14, 3) := by decide +kernel
theorem dX0_line_4 : decode cX0_line 4 = .ok (.iload_n 1, 1) := by decide +kernel
theorem dX0_line_5 : decode cX0_line 5 = .ok (.bipush 16, 2) := by decide +kernel
theorem dX0_line_7 : decode cX0_line 7 = .ok (.if_icmp .ge 8, 3) := by decide +kernel
theorem dX0_line_10 : decode cX0_line 10 = .ok (.iload_n 1, 1) := by decide +kernel
theorem dX0_line_11 : decode cX0_line 11 = .ok (.iconst 2, 1) := by decide +kernel
theorem dX0_line_12 : decode cX0_line 12 = .ok (.if_icmp .ne 11, 3) := by decide +kernel
theorem dX0_line_15 : decode cX0_line 15 = .ok (.new 25, 3) := by decide +kernel
theorem dX0_line_18 : decode cX0_line 18 = .ok (.dup, 1) := by decide +kernel
theorem dX0_line_19 : decode cX0_line 19 = .ok (.invokespecial 27, 3) := by decide +kernel
theorem dX0_line_22 : decode cX0_line 22 = .ok (.athrow, 1) := by decide +kernel
theorem dX0_line_23 : decode cX0_line 23 = .ok (.iload_n 1, 1) := by decide +kernel
theorem dX0_line_24 : decode cX0_line 24 = .ok (.bipush 8, 2) := by decide +kernel
theorem dX0_line_26 : decode cX0_line 26 = .ok (.if_icmp .ge 15, 3) := by decide +kernel
theorem dX0_line_29 : decode cX0_line 29 = .ok (.aload_n 0, 1) := by decide +kernel
theorem dX0_line_30 : decode cX0_line 30 = .ok (.getfield 14, 3) := by decide +kernel
theorem dX0_line_33 : decode cX0_line 33 = .ok (.iload_n 1, 1) := by decide +kernel
theorem dX0_line_34 : decode cX0_line 34 = .ok (.iload_n 2, 1) := by decide +kernel
theorem dX0_line_35 : decode cX0_line 35 = .ok (.invokevirtual 28, 3) := by decide +kernel
theorem dX0_line_38 : decode cX0_line 38 = .ok (.goto 15, 3) := by decide +kernel
theorem dX0_line_41 : decode cX0_line 41 = .ok (.aload_n 0, 1) := by decide +kernel
theorem dX0_line_42 : decode cX0_line 42 = .ok (.getfield 18, 3) := by decide +kernel
theorem dX0_line_45 : decode cX0_line 45 = .ok (.iload_n 1, 1) := by decide +kernel
theorem dX0_line_46 : decode cX0_line 46 = .ok (.bipush 8, 2) := by decide +kernel
theorem dX0_line_48 : decode cX0_line 48 = .ok (.isub, 1) := by decide +kernel
theorem dX0_line_49 : decode cX0_line 49 = .ok (.iload_n 2, 1) := by decide +kernel
theorem dX0_line_50 : decode cX0_line 50 = .ok (.invokevirtual 28, 3) := by decide +kernel
theorem dX0_line_53 : decode cX0_line 53 = .ok (.istore_n 3, 1) := by decide +kernel
theorem dX0_line_54 : decode cX0_line 54 = .ok (.aload_n 0, 1) := by decide +kernel
theorem dX0_line_55 : decode cX0_line 55 = .ok (.invokevirtual 32, 3) := by decide +kernel
theorem dX0_line_58 : decode cX0_line 58 = .ok (.iload_n 3, 1) := by decide +kernel
theorem dX0_line_59 : decode cX0_line 59 = .ok (.ireturn, 1) := by decide +kernel
theorem dX0_write_0 : decode cX0_write 0 = .ok (.aload_n 0, 1) := by decide +kernel
theorem dX0_write_1 : decode cX0_write 1 = .ok (.iload_n 1, 1) := by decide +kernel
theorem dX0_write_2 : decode cX0_write 2 = .ok (.invokevirtual 35, 3) := by decide +kernel
theorem dX0_write_5 : decode cX0_write 5 = .ok (.astore 4, 2) := by decide +kernel
theorem dX0_write_7 : decode cX0_write 7 = .ok (.aload_n 0, 1) := by decide +kernel
theorem dX0_write_8 : decode cX0_write 8 = .ok (.iload_n 2, 1) := by decide +kernel
theorem dX0_write_9 : decode cX0_write 9 = .ok (.invokevirtual 39, 3) := by decide +kernel
theorem dX0_write_12 : decode cX0_write 12 = .ok (.iload_n 3, 1) := by decide +kernel
theorem dX0_write_13 : decode cX0_write 13 = .ok (.ifCond .lt 10, 3) := by decide +kernel
theorem dX0_write_16 : decode cX0_write 16 = .ok (.iload_n 3, 1) := by decide +kernel
theorem dX0_write_17 : decode cX0_write 17 = .ok (.sipush 255, 3) := by decide +kernel
theorem dX0_write_20 : decode cX0_write 20 = .ok (.if_icmp .le 11, 3) := by decide +kernel
theorem dX0_write_23 : decode cX0_write 23 = .ok (.new 42, 3) := by decide +kernel
theorem dX0_write_26 : decode cX0_write 26 = .ok (.dup, 1) := by decide +kernel
theorem dX0_write_27 : decode cX0_write 27 = .ok (.invokespecial 44, 3) := by decide +kernel
theorem dX0_write_30 : decode cX0_write 30 = .ok (.athrow, 1) := by decide +kernel
theorem dX0_write_31 : decode cX0_write 31 = .ok (.iload_n 2, 1) := by decide +kernel
theorem dX0_write_32 : decode cX0_write 32 = .ok (.ifCond .ne 12, 3) := by decide +kernel
theorem dX0_write_35 : decode cX0_write 35 = .ok (.aload 4, 2) := by decide +kernel
theorem dX0_write_37 : decode cX0_write 37 = .ok (.iload_n 3, 1) := by decide +kernel
theorem dX0_write_38 : decode cX0_write 38 = .ok (.invokevirtual 45, 3) := by decide +kernel
theorem dX0_write_41 : decode cX0_write 41 = .ok (.goto 9, 3) := by decide +kernel
theorem dX0_write_44 : decode cX0_write 44 = .ok (.aload 4, 2) := by decide +kernel
theorem dX0_write_46 : decode cX0_write 46 = .ok (.iload_n 3, 1) := by decide +kernel
theorem dX0_write_47 : decode cX0_write 47 = .ok (.invokevirtual 48, 3) := by decide +kernel
theorem dX0_write_50 : decode cX0_write 50 = .ok (.aload_n 0, 1) := by decide +kernel
theorem dX0_write_51 : decode cX0_write 51 = .ok (.invokevirtual 32, 3) := by decide +kernel
theorem dX0_write_54 : decode cX0_write 54 = .ok (.aload_n 0, 1) := by decide +kernel
theorem dX0_write_55 : decode cX0_write 55 = .ok (.getfield 14, 3) := by decide +kernel
theorem dX0_write_58 : decode cX0_write 58 = .ok (.invokevirtual 51, 3) := by decide +kernel
theorem dX0_write_61 : decode cX0_write 61 = .ok (.iconst (-1), 1) := by decide +kernel
theorem dX0_write_62 : decode cX0_write 62 = .ok (.if_icmp .eq 7, 3) := by decide +kernel
theorem dX0_write_65 : decode cX0_write 65 = .ok (.iconst 1, 1) := by decide +kernel
theorem dX0_write_66 : decode cX0_write 66 = .ok (.goto 4, 3) := by decide +kernel
theorem dX0_write_69 : decode cX0_write 69 = .ok (.iconst 0, 1) := by decide +kernel
theorem dX0_write_70 : decode cX0_write 70 = .ok (.ireturn, 1) := by decide +kernel
theorem dX0_read_0 : decode cX0_read 0 = .ok (.aload_n 0, 1) := by decide +kernel
theorem dX0_read_1 : decode cX0_read 1 = .ok (.iload_n 1, 1) := by decide +kernel
theorem dX0_read_2 : decode cX0_read 2 = .ok (.invokevirtual 35, 3) := by decide +kernel
theorem dX0_read_5 : decode cX0_read 5 = .ok (.astore_n 3, 1) := by decide +kernel
theorem dX0_read_6 : decode cX0_read 6 = .ok (.aload_n 0, 1) := by decide +kernel
theorem dX0_read_7 : decode cX0_read 7 = .ok (.iload_n 2, 1) := by decide +kernel
theorem dX0_read_8 : decode cX0_read 8 = .ok (.invokevirtual 39, 3) := by decide +kernel
theorem dX0_read_11 : decode cX0_read 11 = .ok (.iload_n 2, 1) := by decide +kernel
theorem dX0_read_12 : decode cX0_read 12 = .ok (.iconst 1, 1) := by decide +kernel
theorem dX0_read_13 : decode cX0_read 13 = .ok (.if_icmp .ne 8, 3) := by decide +kernel
theorem dX0_read_16 : decode cX0_read 16 = .ok (.aload_n 3, 1) := by decide +kernel
theorem dX0_read_17 : decode cX0_read 17 = .ok (.getfield 55, 3) := by decide +kernel
theorem dX0_read_20 : decode cX0_read 20 = .ok (.ireturn, 1) := by decide +kernel
theorem dX0_read_21 : decode cX0_read 21 = .ok (.aload_n 3, 1) := by decide +kernel
theorem dX0_read_22 : decode cX0_read 22 = .ok (.invokevirtual 58, 3) := by decide +kernel
theorem dX0_read_25 : decode cX0_read 25 = .ok (.istore 4, 2) := by decide +kernel
theorem dX0_read_27 : decode cX0_read 27 = .ok (.aload_n 0, 1) := by decide +kernel
theorem dX0_read_28 : decode cX0_read 28 = .ok (.invokevirtual 32, 3) := by decide +kernel
theorem dX0_read_31 : decode cX0_read 31 = .ok (.iload 4, 2) := by decide +kernel
theorem dX0_read_33 : decode cX0_read 33 = .ok (.ireturn, 1) := by decide +kernel
theorem dX0_take_0 : decode cX0_take 0 = .ok (.aload_n 0, 1) := by decide +kernel
theorem dX0_take_1 : decode cX0_take 1 = .ok (.getfield 14, 3) := by decide +kernel
theorem dX0_take_4 : decode cX0_take 4 = .ok (.invokevirtual 61, 3) := by decide +kernel
theorem dX0_take_7 : decode cX0_take 7 = .ok (.istore_n 1, 1) := by decide +kernel
theorem dX0_take_8 : decode cX0_take 8 = .ok (.iload_n 1, 1) := by decide +kernel
theorem dX0_take_9 : decode cX0_take 9 = .ok (.iconst (-1), 1) := by decide +kernel
theorem dX0_take_10 : decode cX0_take 10 = .ok (.if_icmp .ne 13, 3) := by decide +kernel
theorem dX0_take_13 : decode cX0_take 13 = .ok (.aload_n 0, 1) := by decide +kernel
theorem dX0_take_14 : decode cX0_take 14 = .ok (.dup, 1) := by decide +kernel
theorem dX0_take_15 : decode cX0_take 15 = .ok (.getfield 21, 3) := by decide +kernel
theorem dX0_take_18 : decode cX0_take 18 = .ok (.iconst 1, 1) := by decide +kernel
theorem dX0_take_19 : decode cX0_take 19 = .ok (.iadd, 1) := by decide +kernel
theorem dX0_take_20 : decode cX0_take 20 = .ok (.putfield 21, 3) := by decide +kernel
theorem dX0_take_23 : decode cX0_take 23 = .ok (.iload_n 1, 1) := by decide +kernel
theorem dX0_take_24 : decode cX0_take 24 = .ok (.iconst 2, 1) := by decide +kernel
theorem dX0_take_25 : decode cX0_take 25 = .ok (.if_icmp .ne 10, 3) := by decide +kernel
theorem dX0_take_28 : decode cX0_take 28 = .ok (.aload_n 0, 1) := by decide +kernel
theorem dX0_take_29 : decode cX0_take 29 = .ok (.invokevirtual 64, 3) := by decide +kernel
theorem dX0_take_32 : decode cX0_take 32 = .ok (.goto 11, 3) := by decide +kernel
theorem dX0_take_35 : decode cX0_take 35 = .ok (.aload_n 0, 1) := by decide +kernel
theorem dX0_take_36 : decode cX0_take 36 = .ok (.getfield 14, 3) := by decide +kernel
theorem dX0_take_39 : decode cX0_take 39 = .ok (.iload_n 1, 1) := by decide +kernel
theorem dX0_take_40 : decode cX0_take 40 = .ok (.invokevirtual 67, 3) := by decide +kernel
theorem dX0_take_43 : decode cX0_take 43 = .ok (.ireturn, 1) := by decide +kernel
theorem dX0_delivers_0 : decode cX0_delivers 0 = .ok (.aload_n 0, 1) := by decide +kernel
theorem dX0_delivers_1 : decode cX0_delivers 1 = .ok (.iload_n 1, 1) := by decide +kernel
theorem dX0_delivers_2 : decode cX0_delivers 2 = .ok (.invokevirtual 35, 3) := by decide +kernel
theorem dX0_delivers_5 : decode cX0_delivers 5 = .ok (.invokevirtual 51, 3) := by decide +kernel
theorem dX0_delivers_8 : decode cX0_delivers 8 = .ok (.ireturn, 1) := by decide +kernel
theorem dX0_about_0 : decode cX0_about 0 = .ok (.aload_n 0, 1) := by decide +kernel
theorem dX0_about_1 : decode cX0_about 1 = .ok (.iload_n 1, 1) := by decide +kernel
theorem dX0_about_2 : decode cX0_about 2 = .ok (.invokevirtual 35, 3) := by decide +kernel
theorem dX0_about_5 : decode cX0_about 5 = .ok (.astore_n 3, 1) := by decide +kernel
theorem dX0_about_6 : decode cX0_about 6 = .ok (.iload_n 2, 1) := by decide +kernel
theorem dX0_about_7 : decode cX0_about 7 = .ok (.tableswitch 85 0 7 #[45, 50, 55, 60, 65, 70, 75, 80], 45) := by decide +kernel
theorem dX0_about_52 : decode cX0_about 52 = .ok (.aload_n 3, 1) := by decide +kernel
theorem dX0_about_53 : decode cX0_about 53 = .ok (.invokevirtual 71, 3) := by decide +kernel
theorem dX0_about_56 : decode cX0_about 56 = .ok (.ireturn, 1) := by decide +kernel
theorem dX0_about_57 : decode cX0_about 57 = .ok (.aload_n 3, 1) := by decide +kernel
theorem dX0_about_58 : decode cX0_about 58 = .ok (.getfield 74, 3) := by decide +kernel
theorem dX0_about_61 : decode cX0_about 61 = .ok (.ireturn, 1) := by decide +kernel
theorem dX0_about_62 : decode cX0_about 62 = .ok (.aload_n 3, 1) := by decide +kernel
theorem dX0_about_63 : decode cX0_about 63 = .ok (.getfield 55, 3) := by decide +kernel
theorem dX0_about_66 : decode cX0_about 66 = .ok (.ireturn, 1) := by decide +kernel
theorem dX0_about_67 : decode cX0_about 67 = .ok (.aload_n 3, 1) := by decide +kernel
theorem dX0_about_68 : decode cX0_about 68 = .ok (.getfield 77, 3) := by decide +kernel
theorem dX0_about_71 : decode cX0_about 71 = .ok (.ireturn, 1) := by decide +kernel
theorem dX0_about_72 : decode cX0_about 72 = .ok (.aload_n 3, 1) := by decide +kernel
theorem dX0_about_73 : decode cX0_about 73 = .ok (.getfield 80, 3) := by decide +kernel
theorem dX0_about_76 : decode cX0_about 76 = .ok (.ireturn, 1) := by decide +kernel
theorem dX0_about_77 : decode cX0_about 77 = .ok (.aload_n 3, 1) := by decide +kernel
theorem dX0_about_78 : decode cX0_about 78 = .ok (.getfield 83, 3) := by decide +kernel
theorem dX0_about_81 : decode cX0_about 81 = .ok (.ireturn, 1) := by decide +kernel
theorem dX0_about_82 : decode cX0_about 82 = .ok (.aload_n 3, 1) := by decide +kernel
theorem dX0_about_83 : decode cX0_about 83 = .ok (.getfield 86, 3) := by decide +kernel
theorem dX0_about_86 : decode cX0_about 86 = .ok (.ireturn, 1) := by decide +kernel
theorem dX0_about_87 : decode cX0_about 87 = .ok (.aload_n 3, 1) := by decide +kernel
theorem dX0_about_88 : decode cX0_about 88 = .ok (.getfield 89, 3) := by decide +kernel
theorem dX0_about_91 : decode cX0_about 91 = .ok (.ireturn, 1) := by decide +kernel
theorem dX0_about_92 : decode cX0_about 92 = .ok (.new 42, 3) := by decide +kernel
theorem dX0_about_95 : decode cX0_about 95 = .ok (.dup, 1) := by decide +kernel
theorem dX0_about_96 : decode cX0_about 96 = .ok (.invokespecial 44, 3) := by decide +kernel
theorem dX0_about_99 : decode cX0_about 99 = .ok (.athrow, 1) := by decide +kernel
theorem dX0_mode_0 : decode cX0_mode 0 = .ok (.aload_n 0, 1) := by decide +kernel
theorem dX0_mode_1 : decode cX0_mode 1 = .ok (.iload_n 1, 1) := by decide +kernel
theorem dX0_mode_2 : decode cX0_mode 2 = .ok (.invokevirtual 35, 3) := by decide +kernel
theorem dX0_mode_5 : decode cX0_mode 5 = .ok (.astore_n 3, 1) := by decide +kernel
theorem dX0_mode_6 : decode cX0_mode 6 = .ok (.iload_n 2, 1) := by decide +kernel
theorem dX0_mode_7 : decode cX0_mode 7 = .ok (.tableswitch 76 0 6 #[41, 46, 51, 56, 61, 66, 71], 41) := by decide +kernel
theorem dX0_mode_48 : decode cX0_mode 48 = .ok (.aload_n 3, 1) := by decide +kernel
theorem dX0_mode_49 : decode cX0_mode 49 = .ok (.getfield 92, 3) := by decide +kernel
theorem dX0_mode_52 : decode cX0_mode 52 = .ok (.ireturn, 1) := by decide +kernel
theorem dX0_mode_53 : decode cX0_mode 53 = .ok (.aload_n 3, 1) := by decide +kernel
theorem dX0_mode_54 : decode cX0_mode 54 = .ok (.getfield 96, 3) := by decide +kernel
theorem dX0_mode_57 : decode cX0_mode 57 = .ok (.ireturn, 1) := by decide +kernel
theorem dX0_mode_58 : decode cX0_mode 58 = .ok (.aload_n 3, 1) := by decide +kernel
theorem dX0_mode_59 : decode cX0_mode 59 = .ok (.getfield 99, 3) := by decide +kernel
theorem dX0_mode_62 : decode cX0_mode 62 = .ok (.ireturn, 1) := by decide +kernel
theorem dX0_mode_63 : decode cX0_mode 63 = .ok (.aload_n 3, 1) := by decide +kernel
theorem dX0_mode_64 : decode cX0_mode 64 = .ok (.getfield 102, 3) := by decide +kernel
theorem dX0_mode_67 : decode cX0_mode 67 = .ok (.ireturn, 1) := by decide +kernel
theorem dX0_mode_68 : decode cX0_mode 68 = .ok (.aload_n 3, 1) := by decide +kernel
theorem dX0_mode_69 : decode cX0_mode 69 = .ok (.getfield 105, 3) := by decide +kernel
theorem dX0_mode_72 : decode cX0_mode 72 = .ok (.ireturn, 1) := by decide +kernel
theorem dX0_mode_73 : decode cX0_mode 73 = .ok (.aload_n 3, 1) := by decide +kernel
theorem dX0_mode_74 : decode cX0_mode 74 = .ok (.getfield 108, 3) := by decide +kernel
theorem dX0_mode_77 : decode cX0_mode 77 = .ok (.ireturn, 1) := by decide +kernel
theorem dX0_mode_78 : decode cX0_mode 78 = .ok (.aload_n 3, 1) := by decide +kernel
theorem dX0_mode_79 : decode cX0_mode 79 = .ok (.getfield 111, 3) := by decide +kernel
theorem dX0_mode_82 : decode cX0_mode 82 = .ok (.ireturn, 1) := by decide +kernel
theorem dX0_mode_83 : decode cX0_mode 83 = .ok (.new 42, 3) := by decide +kernel
theorem dX0_mode_86 : decode cX0_mode 86 = .ok (.dup, 1) := by decide +kernel
theorem dX0_mode_87 : decode cX0_mode 87 = .ok (.invokespecial 44, 3) := by decide +kernel
theorem dX0_mode_90 : decode cX0_mode 90 = .ok (.athrow, 1) := by decide +kernel
theorem dX0_count_0 : decode cX0_count 0 = .ok (.iload_n 1, 1) := by decide +kernel
theorem dX0_count_1 : decode cX0_count 1 = .ok (.tableswitch 64 0 2 #[27, 43, 48], 27) := by decide +kernel
theorem dX0_count_28 : decode cX0_count 28 = .ok (.aload_n 0, 1) := by decide +kernel
theorem dX0_count_29 : decode cX0_count 29 = .ok (.getfield 14, 3) := by decide +kernel
theorem dX0_count_32 : decode cX0_count 32 = .ok (.getfield 114, 3) := by decide +kernel
theorem dX0_count_35 : decode cX0_count 35 = .ok (.aload_n 0, 1) := by decide +kernel
theorem dX0_count_36 : decode cX0_count 36 = .ok (.getfield 18, 3) := by decide +kernel
theorem dX0_count_39 : decode cX0_count 39 = .ok (.getfield 114, 3) := by decide +kernel
theorem dX0_count_42 : decode cX0_count 42 = .ok (.iadd, 1) := by decide +kernel
theorem dX0_count_43 : decode cX0_count 43 = .ok (.ireturn, 1) := by decide +kernel
theorem dX0_count_44 : decode cX0_count 44 = .ok (.aload_n 0, 1) := by decide +kernel
theorem dX0_count_45 : decode cX0_count 45 = .ok (.getfield 21, 3) := by decide +kernel
theorem dX0_count_48 : decode cX0_count 48 = .ok (.ireturn, 1) := by decide +kernel
theorem dX0_count_49 : decode cX0_count 49 = .ok (.aload_n 0, 1) := by decide +kernel
theorem dX0_count_50 : decode cX0_count 50 = .ok (.getfield 14, 3) := by decide +kernel
theorem dX0_count_53 : decode cX0_count 53 = .ok (.getfield 117, 3) := by decide +kernel
theorem dX0_count_56 : decode cX0_count 56 = .ok (.aload_n 0, 1) := by decide +kernel
theorem dX0_count_57 : decode cX0_count 57 = .ok (.getfield 18, 3) := by decide +kernel
theorem dX0_count_60 : decode cX0_count 60 = .ok (.getfield 117, 3) := by decide +kernel
theorem dX0_count_63 : decode cX0_count 63 = .ok (.iadd, 1) := by decide +kernel
theorem dX0_count_64 : decode cX0_count 64 = .ok (.ireturn, 1) := by decide +kernel
theorem dX0_count_65 : decode cX0_count 65 = .ok (.new 42, 3) := by decide +kernel
theorem dX0_count_68 : decode cX0_count 68 = .ok (.dup, 1) := by decide +kernel
theorem dX0_count_69 : decode cX0_count 69 = .ok (.invokespecial 44, 3) := by decide +kernel
theorem dX0_count_72 : decode cX0_count 72 = .ok (.athrow, 1) := by decide +kernel
theorem dX0_controllerNumbered_0 : decode cX0_controllerNumbered 0 = .ok (.iload_n 1, 1) := by decide +kernel
theorem dX0_controllerNumbered_1 : decode cX0_controllerNumbered 1 = .ok (.ifCond .eq 16, 3) := by decide +kernel
theorem dX0_controllerNumbered_4 : decode cX0_controllerNumbered 4 = .ok (.iload_n 1, 1) := by decide +kernel
theorem dX0_controllerNumbered_5 : decode cX0_controllerNumbered 5 = .ok (.iconst 1, 1) := by decide +kernel
theorem dX0_controllerNumbered_6 : decode cX0_controllerNumbered 6 = .ok (.if_icmp .eq 11, 3) := by decide +kernel
theorem dX0_controllerNumbered_9 : decode cX0_controllerNumbered 9 = .ok (.new 25, 3) := by decide +kernel
theorem dX0_controllerNumbered_12 : decode cX0_controllerNumbered 12 = .ok (.dup, 1) := by decide +kernel
theorem dX0_controllerNumbered_13 : decode cX0_controllerNumbered 13 = .ok (.invokespecial 27, 3) := by decide +kernel
theorem dX0_controllerNumbered_16 : decode cX0_controllerNumbered 16 = .ok (.athrow, 1) := by decide +kernel
theorem dX0_controllerNumbered_17 : decode cX0_controllerNumbered 17 = .ok (.iload_n 1, 1) := by decide +kernel
theorem dX0_controllerNumbered_18 : decode cX0_controllerNumbered 18 = .ok (.ifCond .ne 10, 3) := by decide +kernel
theorem dX0_controllerNumbered_21 : decode cX0_controllerNumbered 21 = .ok (.aload_n 0, 1) := by decide +kernel
theorem dX0_controllerNumbered_22 : decode cX0_controllerNumbered 22 = .ok (.getfield 14, 3) := by decide +kernel
theorem dX0_controllerNumbered_25 : decode cX0_controllerNumbered 25 = .ok (.goto 7, 3) := by decide +kernel
theorem dX0_controllerNumbered_28 : decode cX0_controllerNumbered 28 = .ok (.aload_n 0, 1) := by decide +kernel
theorem dX0_controllerNumbered_29 : decode cX0_controllerNumbered 29 = .ok (.getfield 18, 3) := by decide +kernel
theorem dX0_controllerNumbered_32 : decode cX0_controllerNumbered 32 = .ok (.areturn, 1) := by decide +kernel
theorem dX0_checkPort_0 : decode cX0_checkPort 0 = .ok (.iload_n 1, 1) := by decide +kernel
theorem dX0_checkPort_1 : decode cX0_checkPort 1 = .ok (.ifCond .eq 16, 3) := by decide +kernel
theorem dX0_checkPort_4 : decode cX0_checkPort 4 = .ok (.iload_n 1, 1) := by decide +kernel
theorem dX0_checkPort_5 : decode cX0_checkPort 5 = .ok (.iconst 1, 1) := by decide +kernel
theorem dX0_checkPort_6 : decode cX0_checkPort 6 = .ok (.if_icmp .eq 11, 3) := by decide +kernel
theorem dX0_checkPort_9 : decode cX0_checkPort 9 = .ok (.new 25, 3) := by decide +kernel
theorem dX0_checkPort_12 : decode cX0_checkPort 12 = .ok (.dup, 1) := by decide +kernel
theorem dX0_checkPort_13 : decode cX0_checkPort 13 = .ok (.invokespecial 27, 3) := by decide +kernel
theorem dX0_checkPort_16 : decode cX0_checkPort 16 = .ok (.athrow, 1) := by decide +kernel
theorem dX0_checkPort_17 : decode cX0_checkPort 17 = .ok (.return_, 1) := by decide +kernel
theorem dX0_takeFromHelper_0 : decode cX0_takeFromHelper 0 = .ok (.aload_n 0, 1) := by decide +kernel
theorem dX0_takeFromHelper_1 : decode cX0_takeFromHelper 1 = .ok (.getfield 18, 3) := by decide +kernel
theorem dX0_takeFromHelper_4 : decode cX0_takeFromHelper 4 = .ok (.invokevirtual 61, 3) := by decide +kernel
theorem dX0_takeFromHelper_7 : decode cX0_takeFromHelper 7 = .ok (.istore_n 1, 1) := by decide +kernel
theorem dX0_takeFromHelper_8 : decode cX0_takeFromHelper 8 = .ok (.aload_n 0, 1) := by decide +kernel
theorem dX0_takeFromHelper_9 : decode cX0_takeFromHelper 9 = .ok (.getfield 14, 3) := by decide +kernel
theorem dX0_takeFromHelper_12 : decode cX0_takeFromHelper 12 = .ok (.iconst 2, 1) := by decide +kernel
theorem dX0_takeFromHelper_13 : decode cX0_takeFromHelper 13 = .ok (.iconst 0, 1) := by decide +kernel
theorem dX0_takeFromHelper_14 : decode cX0_takeFromHelper 14 = .ok (.invokevirtual 28, 3) := by decide +kernel
theorem dX0_takeFromHelper_17 : decode cX0_takeFromHelper 17 = .ok (.pop, 1) := by decide +kernel
theorem dX0_takeFromHelper_18 : decode cX0_takeFromHelper 18 = .ok (.aload_n 0, 1) := by decide +kernel
theorem dX0_takeFromHelper_19 : decode cX0_takeFromHelper 19 = .ok (.invokevirtual 32, 3) := by decide +kernel
theorem dX0_takeFromHelper_22 : decode cX0_takeFromHelper 22 = .ok (.aload_n 0, 1) := by decide +kernel
theorem dX0_takeFromHelper_23 : decode cX0_takeFromHelper 23 = .ok (.getfield 18, 3) := by decide +kernel
theorem dX0_takeFromHelper_26 : decode cX0_takeFromHelper 26 = .ok (.iload_n 1, 1) := by decide +kernel
theorem dX0_takeFromHelper_27 : decode cX0_takeFromHelper 27 = .ok (.invokevirtual 67, 3) := by decide +kernel
theorem dX0_takeFromHelper_30 : decode cX0_takeFromHelper 30 = .ok (.ireturn, 1) := by decide +kernel
theorem dX0_followHelper_0 : decode cX0_followHelper 0 = .ok (.aload_n 0, 1) := by decide +kernel
theorem dX0_followHelper_1 : decode cX0_followHelper 1 = .ok (.getfield 14, 3) := by decide +kernel
theorem dX0_followHelper_4 : decode cX0_followHelper 4 = .ok (.iconst 2, 1) := by decide +kernel
theorem dX0_followHelper_5 : decode cX0_followHelper 5 = .ok (.aload_n 0, 1) := by decide +kernel
theorem dX0_followHelper_6 : decode cX0_followHelper 6 = .ok (.getfield 18, 3) := by decide +kernel
theorem dX0_followHelper_9 : decode cX0_followHelper 9 = .ok (.invokevirtual 51, 3) := by decide +kernel
theorem dX0_followHelper_12 : decode cX0_followHelper 12 = .ok (.iconst (-1), 1) := by decide +kernel
theorem dX0_followHelper_13 : decode cX0_followHelper 13 = .ok (.if_icmp .eq 7, 3) := by decide +kernel
theorem dX0_followHelper_16 : decode cX0_followHelper 16 = .ok (.iconst 1, 1) := by decide +kernel
theorem dX0_followHelper_17 : decode cX0_followHelper 17 = .ok (.goto 4, 3) := by decide +kernel
theorem dX0_followHelper_20 : decode cX0_followHelper 20 = .ok (.iconst 0, 1) := by decide +kernel
theorem dX0_followHelper_21 : decode cX0_followHelper 21 = .ok (.invokevirtual 28, 3) := by decide +kernel
theorem dX0_followHelper_24 : decode cX0_followHelper 24 = .ok (.pop, 1) := by decide +kernel
theorem dX0_followHelper_25 : decode cX0_followHelper 25 = .ok (.return_, 1) := by decide +kernel
theorem dX1_init_0 : decode cX1_init 0 = .ok (.aload_n 0, 1) := by decide +kernel
theorem dX1_init_1 : decode cX1_init 1 = .ok (.invokespecial 3, 3) := by decide +kernel
theorem dX1_init_4 : decode cX1_init 4 = .ok (.aload_n 0, 1) := by decide +kernel
theorem dX1_init_5 : decode cX1_init 5 = .ok (.iload_n 1, 1) := by decide +kernel
theorem dX1_init_6 : decode cX1_init 6 = .ok (.putfield 9, 3) := by decide +kernel
theorem dX1_init_9 : decode cX1_init 9 = .ok (.aload_n 0, 1) := by decide +kernel
theorem dX1_init_10 : decode cX1_init 10 = .ok (.bipush 7, 2) := by decide +kernel
theorem dX1_init_12 : decode cX1_init 12 = .ok (.putfield 15, 3) := by decide +kernel
theorem dX1_init_15 : decode cX1_init 15 = .ok (.return_, 1) := by decide +kernel
theorem dX1_moveLine_0 : decode cX1_moveLine 0 = .ok (.aload_n 0, 1) := by decide +kernel
theorem dX1_moveLine_1 : decode cX1_moveLine 1 = .ok (.getfield 18, 3) := by decide +kernel
theorem dX1_moveLine_4 : decode cX1_moveLine 4 = .ok (.iload_n 1, 1) := by decide +kernel
theorem dX1_moveLine_5 : decode cX1_moveLine 5 = .ok (.invokestatic 21, 3) := by decide +kernel
theorem dX1_moveLine_8 : decode cX1_moveLine 8 = .ok (.iload_n 2, 1) := by decide +kernel
theorem dX1_moveLine_9 : decode cX1_moveLine 9 = .ok (.if_icmp .ne 5, 3) := by decide +kernel
theorem dX1_moveLine_12 : decode cX1_moveLine 12 = .ok (.iconst 0, 1) := by decide +kernel
theorem dX1_moveLine_13 : decode cX1_moveLine 13 = .ok (.ireturn, 1) := by decide +kernel
theorem dX1_moveLine_14 : decode cX1_moveLine 14 = .ok (.aload_n 0, 1) := by decide +kernel
theorem dX1_moveLine_15 : decode cX1_moveLine 15 = .ok (.dup, 1) := by decide +kernel
theorem dX1_moveLine_16 : decode cX1_moveLine 16 = .ok (.getfield 18, 3) := by decide +kernel
theorem dX1_moveLine_19 : decode cX1_moveLine 19 = .ok (.iconst 1, 1) := by decide +kernel
theorem dX1_moveLine_20 : decode cX1_moveLine 20 = .ok (.iload_n 1, 1) := by decide +kernel
theorem dX1_moveLine_21 : decode cX1_moveLine 21 = .ok (.ishl, 1) := by decide +kernel
theorem dX1_moveLine_22 : decode cX1_moveLine 22 = .ok (.ixor, 1) := by decide +kernel
theorem dX1_moveLine_23 : decode cX1_moveLine 23 = .ok (.putfield 18, 3) := by decide +kernel
theorem dX1_moveLine_26 : decode cX1_moveLine 26 = .ok (.aload_n 0, 1) := by decide +kernel
theorem dX1_moveLine_27 : decode cX1_moveLine 27 = .ok (.iload_n 2, 1) := by decide +kernel
theorem dX1_moveLine_28 : decode cX1_moveLine 28 = .ok (.ifCond .eq 14, 3) := by decide +kernel
theorem dX1_moveLine_31 : decode cX1_moveLine 31 = .ok (.aload_n 0, 1) := by decide +kernel
theorem dX1_moveLine_32 : decode cX1_moveLine 32 = .ok (.getfield 25, 3) := by decide +kernel
theorem dX1_moveLine_35 : decode cX1_moveLine 35 = .ok (.iconst 1, 1) := by decide +kernel
theorem dX1_moveLine_36 : decode cX1_moveLine 36 = .ok (.iload_n 1, 1) := by decide +kernel
theorem dX1_moveLine_37 : decode cX1_moveLine 37 = .ok (.ishl, 1) := by decide +kernel
theorem dX1_moveLine_38 : decode cX1_moveLine 38 = .ok (.ior, 1) := by decide +kernel
theorem dX1_moveLine_39 : decode cX1_moveLine 39 = .ok (.goto 11, 3) := by decide +kernel
theorem dX1_moveLine_42 : decode cX1_moveLine 42 = .ok (.aload_n 0, 1) := by decide +kernel
theorem dX1_moveLine_43 : decode cX1_moveLine 43 = .ok (.getfield 25, 3) := by decide +kernel
theorem dX1_moveLine_46 : decode cX1_moveLine 46 = .ok (.iload_n 1, 1) := by decide +kernel
theorem dX1_moveLine_47 : decode cX1_moveLine 47 = .ok (.invokestatic 28, 3) := by decide +kernel
theorem dX1_moveLine_50 : decode cX1_moveLine 50 = .ok (.putfield 25, 3) := by decide +kernel
theorem dX1_moveLine_53 : decode cX1_moveLine 53 = .ok (.iconst 1, 1) := by decide +kernel
theorem dX1_moveLine_54 : decode cX1_moveLine 54 = .ok (.ireturn, 1) := by decide +kernel
theorem dX1_requested_0 : decode cX1_requested 0 = .ok (.aload_n 0, 1) := by decide +kernel
theorem dX1_requested_1 : decode cX1_requested 1 = .ok (.getfield 32, 3) := by decide +kernel
theorem dX1_requested_4 : decode cX1_requested 4 = .ok (.ifCond .eq 10, 3) := by decide +kernel
theorem dX1_requested_7 : decode cX1_requested 7 = .ok (.aload_n 0, 1) := by decide +kernel
theorem dX1_requested_8 : decode cX1_requested 8 = .ok (.getfield 18, 3) := by decide +kernel
theorem dX1_requested_11 : decode cX1_requested 11 = .ok (.goto 7, 3) := by decide +kernel
theorem dX1_requested_14 : decode cX1_requested 14 = .ok (.aload_n 0, 1) := by decide +kernel
theorem dX1_requested_15 : decode cX1_requested 15 = .ok (.getfield 25, 3) := by decide +kernel
theorem dX1_requested_18 : decode cX1_requested 18 = .ok (.ireturn, 1) := by decide +kernel
theorem dX1_lineToDeliver_0 : decode cX1_lineToDeliver 0 = .ok (.aload_n 0, 1) := by decide +kernel
theorem dX1_lineToDeliver_1 : decode cX1_lineToDeliver 1 = .ok (.getfield 36, 3) := by decide +kernel
theorem dX1_lineToDeliver_4 : decode cX1_lineToDeliver 4 = .ok (.ifCond .ne 5, 3) := by decide +kernel
theorem dX1_lineToDeliver_7 : decode cX1_lineToDeliver 7 = .ok (.iconst (-1), 1) := by decide +kernel
theorem dX1_lineToDeliver_8 : decode cX1_lineToDeliver 8 = .ok (.ireturn, 1) := by decide +kernel
theorem dX1_lineToDeliver_9 : decode cX1_lineToDeliver 9 = .ok (.aload_n 0, 1) := by decide +kernel
theorem dX1_lineToDeliver_10 : decode cX1_lineToDeliver 10 = .ok (.aload_n 0, 1) := by decide +kernel
theorem dX1_lineToDeliver_11 : decode cX1_lineToDeliver 11 = .ok (.invokevirtual 39, 3) := by decide +kernel
theorem dX1_lineToDeliver_14 : decode cX1_lineToDeliver 14 = .ok (.aload_n 0, 1) := by decide +kernel
theorem dX1_lineToDeliver_15 : decode cX1_lineToDeliver 15 = .ok (.getfield 43, 3) := by decide +kernel
theorem dX1_lineToDeliver_18 : decode cX1_lineToDeliver 18 = .ok (.iconst (-1), 1) := by decide +kernel
theorem dX1_lineToDeliver_19 : decode cX1_lineToDeliver 19 = .ok (.ixor, 1) := by decide +kernel
theorem dX1_lineToDeliver_20 : decode cX1_lineToDeliver 20 = .ok (.iand, 1) := by decide +kernel
theorem dX1_lineToDeliver_21 : decode cX1_lineToDeliver 21 = .ok (.invokevirtual 46, 3) := by decide +kernel
theorem dX1_lineToDeliver_24 : decode cX1_lineToDeliver 24 = .ok (.istore_n 1, 1) := by decide +kernel
theorem dX1_lineToDeliver_25 : decode cX1_lineToDeliver 25 = .ok (.iload_n 1, 1) := by decide +kernel
theorem dX1_lineToDeliver_26 : decode cX1_lineToDeliver 26 = .ok (.iconst (-1), 1) := by decide +kernel
theorem dX1_lineToDeliver_27 : decode cX1_lineToDeliver 27 = .ok (.if_icmp .ne 5, 3) := by decide +kernel
theorem dX1_lineToDeliver_30 : decode cX1_lineToDeliver 30 = .ok (.iconst (-1), 1) := by decide +kernel
theorem dX1_lineToDeliver_31 : decode cX1_lineToDeliver 31 = .ok (.ireturn, 1) := by decide +kernel
theorem dX1_lineToDeliver_32 : decode cX1_lineToDeliver 32 = .ok (.aload_n 0, 1) := by decide +kernel
theorem dX1_lineToDeliver_33 : decode cX1_lineToDeliver 33 = .ok (.aload_n 0, 1) := by decide +kernel
theorem dX1_lineToDeliver_34 : decode cX1_lineToDeliver 34 = .ok (.iload_n 1, 1) := by decide +kernel
theorem dX1_lineToDeliver_35 : decode cX1_lineToDeliver 35 = .ok (.invokevirtual 50, 3) := by decide +kernel
theorem dX1_lineToDeliver_38 : decode cX1_lineToDeliver 38 = .ok (.invokevirtual 46, 3) := by decide +kernel
theorem dX1_lineToDeliver_41 : decode cX1_lineToDeliver 41 = .ok (.istore_n 2, 1) := by decide +kernel
theorem dX1_lineToDeliver_42 : decode cX1_lineToDeliver 42 = .ok (.iload_n 2, 1) := by decide +kernel
theorem dX1_lineToDeliver_43 : decode cX1_lineToDeliver 43 = .ok (.iconst (-1), 1) := by decide +kernel
theorem dX1_lineToDeliver_44 : decode cX1_lineToDeliver 44 = .ok (.if_icmp .eq 16, 3) := by decide +kernel
theorem dX1_lineToDeliver_47 : decode cX1_lineToDeliver 47 = .ok (.aload_n 0, 1) := by decide +kernel
theorem dX1_lineToDeliver_48 : decode cX1_lineToDeliver 48 = .ok (.iload_n 1, 1) := by decide +kernel
theorem dX1_lineToDeliver_49 : decode cX1_lineToDeliver 49 = .ok (.invokevirtual 53, 3) := by decide +kernel
theorem dX1_lineToDeliver_52 : decode cX1_lineToDeliver 52 = .ok (.aload_n 0, 1) := by decide +kernel
theorem dX1_lineToDeliver_53 : decode cX1_lineToDeliver 53 = .ok (.iload_n 2, 1) := by decide +kernel
theorem dX1_lineToDeliver_54 : decode cX1_lineToDeliver 54 = .ok (.invokevirtual 53, 3) := by decide +kernel
theorem dX1_lineToDeliver_57 : decode cX1_lineToDeliver 57 = .ok (.if_icmp .ge 7, 3) := by decide +kernel
theorem dX1_lineToDeliver_60 : decode cX1_lineToDeliver 60 = .ok (.iload_n 1, 1) := by decide +kernel
theorem dX1_lineToDeliver_61 : decode cX1_lineToDeliver 61 = .ok (.goto 4, 3) := by decide +kernel
theorem dX1_lineToDeliver_64 : decode cX1_lineToDeliver 64 = .ok (.iconst (-1), 1) := by decide +kernel
theorem dX1_lineToDeliver_65 : decode cX1_lineToDeliver 65 = .ok (.ireturn, 1) := by decide +kernel
theorem dX1_blockersOf_0 : decode cX1_blockersOf 0 = .ok (.aload_n 0, 1) := by decide +kernel
theorem dX1_blockersOf_1 : decode cX1_blockersOf 1 = .ok (.invokevirtual 56, 3) := by decide +kernel
theorem dX1_blockersOf_4 : decode cX1_blockersOf 4 = .ok (.istore_n 2, 1) := by decide +kernel
theorem dX1_blockersOf_5 : decode cX1_blockersOf 5 = .ok (.aload_n 0, 1) := by decide +kernel
theorem dX1_blockersOf_6 : decode cX1_blockersOf 6 = .ok (.getfield 59, 3) := by decide +kernel
theorem dX1_blockersOf_9 : decode cX1_blockersOf 9 = .ok (.ifCond .eq 19, 3) := by decide +kernel
theorem dX1_blockersOf_12 : decode cX1_blockersOf 12 = .ok (.iload_n 1, 1) := by decide +kernel
theorem dX1_blockersOf_13 : decode cX1_blockersOf 13 = .ok (.aload_n 0, 1) := by decide +kernel
theorem dX1_blockersOf_14 : decode cX1_blockersOf 14 = .ok (.getfield 9, 3) := by decide +kernel
theorem dX1_blockersOf_17 : decode cX1_blockersOf 17 = .ok (.if_icmp .ne 11, 3) := by decide +kernel
theorem dX1_blockersOf_20 : decode cX1_blockersOf 20 = .ok (.iload_n 2, 1) := by decide +kernel
theorem dX1_blockersOf_21 : decode cX1_blockersOf 21 = .ok (.iload_n 1, 1) := by decide +kernel
theorem dX1_blockersOf_22 : decode cX1_blockersOf 22 = .ok (.invokestatic 28, 3) := by decide +kernel
theorem dX1_blockersOf_25 : decode cX1_blockersOf 25 = .ok (.goto 4, 3) := by decide +kernel
theorem dX1_blockersOf_28 : decode cX1_blockersOf 28 = .ok (.iload_n 2, 1) := by decide +kernel
theorem dX1_blockersOf_29 : decode cX1_blockersOf 29 = .ok (.ireturn, 1) := by decide +kernel
theorem dX1_inServiceThatCounts_0 : decode cX1_inServiceThatCounts 0 = .ok (.aload_n 0, 1) := by decide +kernel
theorem dX1_inServiceThatCounts_1 : decode cX1_inServiceThatCounts 1 = .ok (.getfield 62, 3) := by decide +kernel
theorem dX1_inServiceThatCounts_4 : decode cX1_inServiceThatCounts 4 = .ok (.ifCond .eq 17, 3) := by decide +kernel
theorem dX1_inServiceThatCounts_7 : decode cX1_inServiceThatCounts 7 = .ok (.aload_n 0, 1) := by decide +kernel
theorem dX1_inServiceThatCounts_8 : decode cX1_inServiceThatCounts 8 = .ok (.getfield 65, 3) := by decide +kernel
theorem dX1_inServiceThatCounts_11 : decode cX1_inServiceThatCounts 11 = .ok (.aload_n 0, 1) := by decide +kernel
theorem dX1_inServiceThatCounts_12 : decode cX1_inServiceThatCounts 12 = .ok (.getfield 43, 3) := by decide +kernel
theorem dX1_inServiceThatCounts_15 : decode cX1_inServiceThatCounts 15 = .ok (.iconst (-1), 1) := by decide +kernel
theorem dX1_inServiceThatCounts_16 : decode cX1_inServiceThatCounts 16 = .ok (.ixor, 1) := by decide +kernel
theorem dX1_inServiceThatCounts_17 : decode cX1_inServiceThatCounts 17 = .ok (.iand, 1) := by decide +kernel
theorem dX1_inServiceThatCounts_18 : decode cX1_inServiceThatCounts 18 = .ok (.goto 7, 3) := by decide +kernel
theorem dX1_inServiceThatCounts_21 : decode cX1_inServiceThatCounts 21 = .ok (.aload_n 0, 1) := by decide +kernel
theorem dX1_inServiceThatCounts_22 : decode cX1_inServiceThatCounts 22 = .ok (.getfield 65, 3) := by decide +kernel
theorem dX1_inServiceThatCounts_25 : decode cX1_inServiceThatCounts 25 = .ok (.ireturn, 1) := by decide +kernel
theorem dX1_takeDelivered_0 : decode cX1_takeDelivered 0 = .ok (.aload_n 0, 1) := by decide +kernel
theorem dX1_takeDelivered_1 : decode cX1_takeDelivered 1 = .ok (.invokevirtual 68, 3) := by decide +kernel
theorem dX1_takeDelivered_4 : decode cX1_takeDelivered 4 = .ok (.istore_n 1, 1) := by decide +kernel
theorem dX1_takeDelivered_5 : decode cX1_takeDelivered 5 = .ok (.iload_n 1, 1) := by decide +kernel
theorem dX1_takeDelivered_6 : decode cX1_takeDelivered 6 = .ok (.iconst (-1), 1) := by decide +kernel
theorem dX1_takeDelivered_7 : decode cX1_takeDelivered 7 = .ok (.if_icmp .ne 5, 3) := by decide +kernel
theorem dX1_takeDelivered_10 : decode cX1_takeDelivered 10 = .ok (.iconst (-1), 1) := by decide +kernel
theorem dX1_takeDelivered_11 : decode cX1_takeDelivered 11 = .ok (.ireturn, 1) := by decide +kernel
theorem dX1_takeDelivered_12 : decode cX1_takeDelivered 12 = .ok (.aload_n 0, 1) := by decide +kernel
theorem dX1_takeDelivered_13 : decode cX1_takeDelivered 13 = .ok (.aload_n 0, 1) := by decide +kernel
theorem dX1_takeDelivered_14 : decode cX1_takeDelivered 14 = .ok (.getfield 25, 3) := by decide +kernel
theorem dX1_takeDelivered_17 : decode cX1_takeDelivered 17 = .ok (.iload_n 1, 1) := by decide +kernel
theorem dX1_takeDelivered_18 : decode cX1_takeDelivered 18 = .ok (.invokestatic 28, 3) := by decide +kernel
theorem dX1_takeDelivered_21 : decode cX1_takeDelivered 21 = .ok (.putfield 25, 3) := by decide +kernel
theorem dX1_takeDelivered_24 : decode cX1_takeDelivered 24 = .ok (.aload_n 0, 1) := by decide +kernel
theorem dX1_takeDelivered_25 : decode cX1_takeDelivered 25 = .ok (.getfield 71, 3) := by decide +kernel
theorem dX1_takeDelivered_28 : decode cX1_takeDelivered 28 = .ok (.ifCond .ne 18, 3) := by decide +kernel
theorem dX1_takeDelivered_31 : decode cX1_takeDelivered 31 = .ok (.aload_n 0, 1) := by decide +kernel
theorem dX1_takeDelivered_32 : decode cX1_takeDelivered 32 = .ok (.dup, 1) := by decide +kernel
theorem dX1_takeDelivered_33 : decode cX1_takeDelivered 33 = .ok (.getfield 65, 3) := by decide +kernel
theorem dX1_takeDelivered_36 : decode cX1_takeDelivered 36 = .ok (.iconst 1, 1) := by decide +kernel
theorem dX1_takeDelivered_37 : decode cX1_takeDelivered 37 = .ok (.iload_n 1, 1) := by decide +kernel
theorem dX1_takeDelivered_38 : decode cX1_takeDelivered 38 = .ok (.ishl, 1) := by decide +kernel
theorem dX1_takeDelivered_39 : decode cX1_takeDelivered 39 = .ok (.ior, 1) := by decide +kernel
theorem dX1_takeDelivered_40 : decode cX1_takeDelivered 40 = .ok (.putfield 65, 3) := by decide +kernel
theorem dX1_takeDelivered_43 : decode cX1_takeDelivered 43 = .ok (.goto 15, 3) := by decide +kernel
theorem dX1_takeDelivered_46 : decode cX1_takeDelivered 46 = .ok (.aload_n 0, 1) := by decide +kernel
theorem dX1_takeDelivered_47 : decode cX1_takeDelivered 47 = .ok (.getfield 74, 3) := by decide +kernel
theorem dX1_takeDelivered_50 : decode cX1_takeDelivered 50 = .ok (.ifCond .eq 8, 3) := by decide +kernel
theorem dX1_takeDelivered_53 : decode cX1_takeDelivered 53 = .ok (.aload_n 0, 1) := by decide +kernel
theorem dX1_takeDelivered_54 : decode cX1_takeDelivered 54 = .ok (.iload_n 1, 1) := by decide +kernel
theorem dX1_takeDelivered_55 : decode cX1_takeDelivered 55 = .ok (.putfield 15, 3) := by decide +kernel
theorem dX1_takeDelivered_58 : decode cX1_takeDelivered 58 = .ok (.aload_n 0, 1) := by decide +kernel
theorem dX1_takeDelivered_59 : decode cX1_takeDelivered 59 = .ok (.dup, 1) := by decide +kernel
theorem dX1_takeDelivered_60 : decode cX1_takeDelivered 60 = .ok (.getfield 77, 3) := by decide +kernel
theorem dX1_takeDelivered_63 : decode cX1_takeDelivered 63 = .ok (.iconst 1, 1) := by decide +kernel
theorem dX1_takeDelivered_64 : decode cX1_takeDelivered 64 = .ok (.iadd, 1) := by decide +kernel
theorem dX1_takeDelivered_65 : decode cX1_takeDelivered 65 = .ok (.putfield 77, 3) := by decide +kernel
theorem dX1_takeDelivered_68 : decode cX1_takeDelivered 68 = .ok (.iload_n 1, 1) := by decide +kernel
theorem dX1_takeDelivered_69 : decode cX1_takeDelivered 69 = .ok (.ireturn, 1) := by decide +kernel
theorem dX1_numberOf_0 : decode cX1_numberOf 0 = .ok (.aload_n 0, 1) := by decide +kernel
theorem dX1_numberOf_1 : decode cX1_numberOf 1 = .ok (.getfield 80, 3) := by decide +kernel
theorem dX1_numberOf_4 : decode cX1_numberOf 4 = .ok (.iload_n 1, 1) := by decide +kernel
theorem dX1_numberOf_5 : decode cX1_numberOf 5 = .ok (.iconst (-1), 1) := by decide +kernel
theorem dX1_numberOf_6 : decode cX1_numberOf 6 = .ok (.if_icmp .ne 8, 3) := by decide +kernel
theorem dX1_numberOf_9 : decode cX1_numberOf 9 = .ok (.bipush 7, 2) := by decide +kernel
theorem dX1_numberOf_11 : decode cX1_numberOf 11 = .ok (.goto 4, 3) := by decide +kernel
theorem dX1_numberOf_14 : decode cX1_numberOf 14 = .ok (.iload_n 1, 1) := by decide +kernel
theorem dX1_numberOf_15 : decode cX1_numberOf 15 = .ok (.iadd, 1) := by decide +kernel
theorem dX1_numberOf_16 : decode cX1_numberOf 16 = .ok (.ireturn, 1) := by decide +kernel
theorem dX1_answerAtPort0_0 : decode cX1_answerAtPort0 0 = .ok (.aload_n 0, 1) := by decide +kernel
theorem dX1_answerAtPort0_1 : decode cX1_answerAtPort0 1 = .ok (.getfield 83, 3) := by decide +kernel
theorem dX1_answerAtPort0_4 : decode cX1_answerAtPort0 4 = .ok (.ifCond .eq 28, 3) := by decide +kernel
theorem dX1_answerAtPort0_7 : decode cX1_answerAtPort0 7 = .ok (.aload_n 0, 1) := by decide +kernel
theorem dX1_answerAtPort0_8 : decode cX1_answerAtPort0 8 = .ok (.iconst 0, 1) := by decide +kernel
theorem dX1_answerAtPort0_9 : decode cX1_answerAtPort0 9 = .ok (.putfield 83, 3) := by decide +kernel
theorem dX1_answerAtPort0_12 : decode cX1_answerAtPort0 12 = .ok (.aload_n 0, 1) := by decide +kernel
theorem dX1_answerAtPort0_13 : decode cX1_answerAtPort0 13 = .ok (.invokevirtual 86, 3) := by decide +kernel
theorem dX1_answerAtPort0_16 : decode cX1_answerAtPort0 16 = .ok (.istore_n 1, 1) := by decide +kernel
theorem dX1_answerAtPort0_17 : decode cX1_answerAtPort0 17 = .ok (.iload_n 1, 1) := by decide +kernel
theorem dX1_answerAtPort0_18 : decode cX1_answerAtPort0 18 = .ok (.iconst (-1), 1) := by decide +kernel
theorem dX1_answerAtPort0_19 : decode cX1_answerAtPort0 19 = .ok (.if_icmp .ne 7, 3) := by decide +kernel
theorem dX1_answerAtPort0_22 : decode cX1_answerAtPort0 22 = .ok (.iconst 0, 1) := by decide +kernel
theorem dX1_answerAtPort0_23 : decode cX1_answerAtPort0 23 = .ok (.goto 8, 3) := by decide +kernel
theorem dX1_answerAtPort0_26 : decode cX1_answerAtPort0 26 = .ok (.sipush 128, 3) := by decide +kernel
theorem dX1_answerAtPort0_29 : decode cX1_answerAtPort0 29 = .ok (.iload_n 1, 1) := by decide +kernel
theorem dX1_answerAtPort0_30 : decode cX1_answerAtPort0 30 = .ok (.iadd, 1) := by decide +kernel
theorem dX1_answerAtPort0_31 : decode cX1_answerAtPort0 31 = .ok (.ireturn, 1) := by decide +kernel
theorem dX1_answerAtPort0_32 : decode cX1_answerAtPort0 32 = .ok (.aload_n 0, 1) := by decide +kernel
theorem dX1_answerAtPort0_33 : decode cX1_answerAtPort0 33 = .ok (.getfield 89, 3) := by decide +kernel
theorem dX1_answerAtPort0_36 : decode cX1_answerAtPort0 36 = .ok (.ifCond .ne 10, 3) := by decide +kernel
theorem dX1_answerAtPort0_39 : decode cX1_answerAtPort0 39 = .ok (.aload_n 0, 1) := by decide +kernel
theorem dX1_answerAtPort0_40 : decode cX1_answerAtPort0 40 = .ok (.invokevirtual 39, 3) := by decide +kernel
theorem dX1_answerAtPort0_43 : decode cX1_answerAtPort0 43 = .ok (.goto 7, 3) := by decide +kernel
theorem dX1_answerAtPort0_46 : decode cX1_answerAtPort0 46 = .ok (.aload_n 0, 1) := by decide +kernel
theorem dX1_answerAtPort0_47 : decode cX1_answerAtPort0 47 = .ok (.getfield 65, 3) := by decide +kernel
theorem dX1_answerAtPort0_50 : decode cX1_answerAtPort0 50 = .ok (.ireturn, 1) := by decide +kernel
theorem dX1_acceptAtPort0_0 : decode cX1_acceptAtPort0 0 = .ok (.iload_n 1, 1) := by decide +kernel
theorem dX1_acceptAtPort0_1 : decode cX1_acceptAtPort0 1 = .ok (.iconst 4, 1) := by decide +kernel
theorem dX1_acceptAtPort0_2 : decode cX1_acceptAtPort0 2 = .ok (.invokestatic 21, 3) := by decide +kernel
theorem dX1_acceptAtPort0_5 : decode cX1_acceptAtPort0 5 = .ok (.ifCond .eq 11, 3) := by decide +kernel
theorem dX1_acceptAtPort0_8 : decode cX1_acceptAtPort0 8 = .ok (.aload_n 0, 1) := by decide +kernel
theorem dX1_acceptAtPort0_9 : decode cX1_acceptAtPort0 9 = .ok (.iload_n 1, 1) := by decide +kernel
theorem dX1_acceptAtPort0_10 : decode cX1_acceptAtPort0 10 = .ok (.invokevirtual 92, 3) := by decide +kernel
theorem dX1_acceptAtPort0_13 : decode cX1_acceptAtPort0 13 = .ok (.goto 30, 3) := by decide +kernel
theorem dX1_acceptAtPort0_16 : decode cX1_acceptAtPort0 16 = .ok (.iload_n 1, 1) := by decide +kernel
theorem dX1_acceptAtPort0_17 : decode cX1_acceptAtPort0 17 = .ok (.iconst 3, 1) := by decide +kernel
theorem dX1_acceptAtPort0_18 : decode cX1_acceptAtPort0 18 = .ok (.invokestatic 21, 3) := by decide +kernel
theorem dX1_acceptAtPort0_21 : decode cX1_acceptAtPort0 21 = .ok (.ifCond .eq 11, 3) := by decide +kernel
theorem dX1_acceptAtPort0_24 : decode cX1_acceptAtPort0 24 = .ok (.aload_n 0, 1) := by decide +kernel
theorem dX1_acceptAtPort0_25 : decode cX1_acceptAtPort0 25 = .ok (.iload_n 1, 1) := by decide +kernel
theorem dX1_acceptAtPort0_26 : decode cX1_acceptAtPort0 26 = .ok (.invokevirtual 96, 3) := by decide +kernel
theorem dX1_acceptAtPort0_29 : decode cX1_acceptAtPort0 29 = .ok (.goto 14, 3) := by decide +kernel
theorem dX1_acceptAtPort0_32 : decode cX1_acceptAtPort0 32 = .ok (.aload_n 0, 1) := by decide +kernel
theorem dX1_acceptAtPort0_33 : decode cX1_acceptAtPort0 33 = .ok (.iload_n 1, 1) := by decide +kernel
theorem dX1_acceptAtPort0_34 : decode cX1_acceptAtPort0 34 = .ok (.iconst 5, 1) := by decide +kernel
theorem dX1_acceptAtPort0_35 : decode cX1_acceptAtPort0 35 = .ok (.ishr, 1) := by decide +kernel
theorem dX1_acceptAtPort0_36 : decode cX1_acceptAtPort0 36 = .ok (.iload_n 1, 1) := by decide +kernel
theorem dX1_acceptAtPort0_37 : decode cX1_acceptAtPort0 37 = .ok (.bipush 7, 2) := by decide +kernel
theorem dX1_acceptAtPort0_39 : decode cX1_acceptAtPort0 39 = .ok (.iand, 1) := by decide +kernel
theorem dX1_acceptAtPort0_40 : decode cX1_acceptAtPort0 40 = .ok (.invokevirtual 99, 3) := by decide +kernel
theorem dX1_acceptAtPort0_43 : decode cX1_acceptAtPort0 43 = .ok (.return_, 1) := by decide +kernel
theorem dX1_acceptAtPort1_0 : decode cX1_acceptAtPort1 0 = .ok (.aload_n 0, 1) := by decide +kernel
theorem dX1_acceptAtPort1_1 : decode cX1_acceptAtPort1 1 = .ok (.getfield 103, 3) := by decide +kernel
theorem dX1_acceptAtPort1_4 : decode cX1_acceptAtPort1 4 = .ok (.tableswitch 111 2 4 #[28, 45, 80], 28) := by decide +kernel
theorem dX1_acceptAtPort1_32 : decode cX1_acceptAtPort1 32 = .ok (.aload_n 0, 1) := by decide +kernel
theorem dX1_acceptAtPort1_33 : decode cX1_acceptAtPort1 33 = .ok (.iload_n 1, 1) := by decide +kernel
theorem dX1_acceptAtPort1_34 : decode cX1_acceptAtPort1 34 = .ok (.sipush 248, 3) := by decide +kernel
theorem dX1_acceptAtPort1_37 : decode cX1_acceptAtPort1 37 = .ok (.iand, 1) := by decide +kernel
theorem dX1_acceptAtPort1_38 : decode cX1_acceptAtPort1 38 = .ok (.putfield 80, 3) := by decide +kernel
theorem dX1_acceptAtPort1_41 : decode cX1_acceptAtPort1 41 = .ok (.aload_n 0, 1) := by decide +kernel
theorem dX1_acceptAtPort1_42 : decode cX1_acceptAtPort1 42 = .ok (.iconst 3, 1) := by decide +kernel
theorem dX1_acceptAtPort1_43 : decode cX1_acceptAtPort1 43 = .ok (.putfield 103, 3) := by decide +kernel
theorem dX1_acceptAtPort1_46 : decode cX1_acceptAtPort1 46 = .ok (.goto 74, 3) := by decide +kernel
theorem dX1_acceptAtPort1_49 : decode cX1_acceptAtPort1 49 = .ok (.aload_n 0, 1) := by decide +kernel
theorem dX1_acceptAtPort1_50 : decode cX1_acceptAtPort1 50 = .ok (.aload_n 0, 1) := by decide +kernel
theorem dX1_acceptAtPort1_51 : decode cX1_acceptAtPort1 51 = .ok (.getfield 106, 3) := by decide +kernel
theorem dX1_acceptAtPort1_54 : decode cX1_acceptAtPort1 54 = .ok (.ifCond .eq 7, 3) := by decide +kernel
theorem dX1_acceptAtPort1_57 : decode cX1_acceptAtPort1 57 = .ok (.iconst 4, 1) := by decide +kernel
theorem dX1_acceptAtPort1_58 : decode cX1_acceptAtPort1 58 = .ok (.goto 4, 3) := by decide +kernel
theorem dX1_acceptAtPort1_61 : decode cX1_acceptAtPort1 61 = .ok (.iconst 0, 1) := by decide +kernel
theorem dX1_acceptAtPort1_62 : decode cX1_acceptAtPort1 62 = .ok (.putfield 103, 3) := by decide +kernel
theorem dX1_acceptAtPort1_65 : decode cX1_acceptAtPort1 65 = .ok (.aload_n 0, 1) := by decide +kernel
theorem dX1_acceptAtPort1_66 : decode cX1_acceptAtPort1 66 = .ok (.aload_n 0, 1) := by decide +kernel
theorem dX1_acceptAtPort1_67 : decode cX1_acceptAtPort1 67 = .ok (.getfield 106, 3) := by decide +kernel
theorem dX1_acceptAtPort1_70 : decode cX1_acceptAtPort1 70 = .ok (.ifCond .ne 7, 3) := by decide +kernel
theorem dX1_acceptAtPort1_73 : decode cX1_acceptAtPort1 73 = .ok (.iconst 1, 1) := by decide +kernel
theorem dX1_acceptAtPort1_74 : decode cX1_acceptAtPort1 74 = .ok (.goto 4, 3) := by decide +kernel
theorem dX1_acceptAtPort1_77 : decode cX1_acceptAtPort1 77 = .ok (.iconst 0, 1) := by decide +kernel
theorem dX1_acceptAtPort1_78 : decode cX1_acceptAtPort1 78 = .ok (.putfield 36, 3) := by decide +kernel
theorem dX1_acceptAtPort1_81 : decode cX1_acceptAtPort1 81 = .ok (.goto 39, 3) := by decide +kernel
theorem dX1_acceptAtPort1_84 : decode cX1_acceptAtPort1 84 = .ok (.aload_n 0, 1) := by decide +kernel
theorem dX1_acceptAtPort1_85 : decode cX1_acceptAtPort1 85 = .ok (.iload_n 1, 1) := by decide +kernel
theorem dX1_acceptAtPort1_86 : decode cX1_acceptAtPort1 86 = .ok (.iconst 1, 1) := by decide +kernel
theorem dX1_acceptAtPort1_87 : decode cX1_acceptAtPort1 87 = .ok (.invokestatic 21, 3) := by decide +kernel
theorem dX1_acceptAtPort1_90 : decode cX1_acceptAtPort1 90 = .ok (.putfield 71, 3) := by decide +kernel
theorem dX1_acceptAtPort1_93 : decode cX1_acceptAtPort1 93 = .ok (.aload_n 0, 1) := by decide +kernel
theorem dX1_acceptAtPort1_94 : decode cX1_acceptAtPort1 94 = .ok (.iload_n 1, 1) := by decide +kernel
theorem dX1_acceptAtPort1_95 : decode cX1_acceptAtPort1 95 = .ok (.iconst 4, 1) := by decide +kernel
theorem dX1_acceptAtPort1_96 : decode cX1_acceptAtPort1 96 = .ok (.invokestatic 21, 3) := by decide +kernel
theorem dX1_acceptAtPort1_99 : decode cX1_acceptAtPort1 99 = .ok (.putfield 59, 3) := by decide +kernel
theorem dX1_acceptAtPort1_102 : decode cX1_acceptAtPort1 102 = .ok (.aload_n 0, 1) := by decide +kernel
theorem dX1_acceptAtPort1_103 : decode cX1_acceptAtPort1 103 = .ok (.iconst 0, 1) := by decide +kernel
theorem dX1_acceptAtPort1_104 : decode cX1_acceptAtPort1 104 = .ok (.putfield 103, 3) := by decide +kernel
theorem dX1_acceptAtPort1_107 : decode cX1_acceptAtPort1 107 = .ok (.aload_n 0, 1) := by decide +kernel
theorem dX1_acceptAtPort1_108 : decode cX1_acceptAtPort1 108 = .ok (.iconst 1, 1) := by decide +kernel
theorem dX1_acceptAtPort1_109 : decode cX1_acceptAtPort1 109 = .ok (.putfield 36, 3) := by decide +kernel
theorem dX1_acceptAtPort1_112 : decode cX1_acceptAtPort1 112 = .ok (.goto 8, 3) := by decide +kernel
theorem dX1_acceptAtPort1_115 : decode cX1_acceptAtPort1 115 = .ok (.aload_n 0, 1) := by decide +kernel
theorem dX1_acceptAtPort1_116 : decode cX1_acceptAtPort1 116 = .ok (.iload_n 1, 1) := by decide +kernel
theorem dX1_acceptAtPort1_117 : decode cX1_acceptAtPort1 117 = .ok (.putfield 43, 3) := by decide +kernel
theorem dX1_acceptAtPort1_120 : decode cX1_acceptAtPort1 120 = .ok (.return_, 1) := by decide +kernel
theorem dX1_begin_0 : decode cX1_begin 0 = .ok (.aload_n 0, 1) := by decide +kernel
theorem dX1_begin_1 : decode cX1_begin 1 = .ok (.iconst 0, 1) := by decide +kernel
theorem dX1_begin_2 : decode cX1_begin 2 = .ok (.putfield 43, 3) := by decide +kernel
theorem dX1_begin_5 : decode cX1_begin 5 = .ok (.aload_n 0, 1) := by decide +kernel
theorem dX1_begin_6 : decode cX1_begin 6 = .ok (.iconst 0, 1) := by decide +kernel
theorem dX1_begin_7 : decode cX1_begin 7 = .ok (.putfield 65, 3) := by decide +kernel
theorem dX1_begin_10 : decode cX1_begin 10 = .ok (.aload_n 0, 1) := by decide +kernel
theorem dX1_begin_11 : decode cX1_begin 11 = .ok (.iconst 0, 1) := by decide +kernel
theorem dX1_begin_12 : decode cX1_begin 12 = .ok (.putfield 25, 3) := by decide +kernel
theorem dX1_begin_15 : decode cX1_begin 15 = .ok (.aload_n 0, 1) := by decide +kernel
theorem dX1_begin_16 : decode cX1_begin 16 = .ok (.bipush 7, 2) := by decide +kernel
theorem dX1_begin_18 : decode cX1_begin 18 = .ok (.putfield 15, 3) := by decide +kernel
theorem dX1_begin_21 : decode cX1_begin 21 = .ok (.aload_n 0, 1) := by decide +kernel
theorem dX1_begin_22 : decode cX1_begin 22 = .ok (.iload_n 1, 1) := by decide +kernel
theorem dX1_begin_23 : decode cX1_begin 23 = .ok (.iconst 3, 1) := by decide +kernel
theorem dX1_begin_24 : decode cX1_begin 24 = .ok (.invokestatic 21, 3) := by decide +kernel
theorem dX1_begin_27 : decode cX1_begin 27 = .ok (.putfield 32, 3) := by decide +kernel
theorem dX1_begin_30 : decode cX1_begin 30 = .ok (.aload_n 0, 1) := by decide +kernel
theorem dX1_begin_31 : decode cX1_begin 31 = .ok (.iconst 0, 1) := by decide +kernel
theorem dX1_begin_32 : decode cX1_begin 32 = .ok (.putfield 62, 3) := by decide +kernel
theorem dX1_begin_35 : decode cX1_begin 35 = .ok (.aload_n 0, 1) := by decide +kernel
theorem dX1_begin_36 : decode cX1_begin 36 = .ok (.iconst 0, 1) := by decide +kernel
theorem dX1_begin_37 : decode cX1_begin 37 = .ok (.putfield 59, 3) := by decide +kernel
theorem dX1_begin_40 : decode cX1_begin 40 = .ok (.aload_n 0, 1) := by decide +kernel
theorem dX1_begin_41 : decode cX1_begin 41 = .ok (.iconst 0, 1) := by decide +kernel
theorem dX1_begin_42 : decode cX1_begin 42 = .ok (.putfield 71, 3) := by decide +kernel
theorem dX1_begin_45 : decode cX1_begin 45 = .ok (.aload_n 0, 1) := by decide +kernel
theorem dX1_begin_46 : decode cX1_begin 46 = .ok (.iconst 0, 1) := by decide +kernel
theorem dX1_begin_47 : decode cX1_begin 47 = .ok (.putfield 74, 3) := by decide +kernel
theorem dX1_begin_50 : decode cX1_begin 50 = .ok (.aload_n 0, 1) := by decide +kernel
theorem dX1_begin_51 : decode cX1_begin 51 = .ok (.iconst 0, 1) := by decide +kernel
theorem dX1_begin_52 : decode cX1_begin 52 = .ok (.putfield 83, 3) := by decide +kernel
theorem dX1_begin_55 : decode cX1_begin 55 = .ok (.aload_n 0, 1) := by decide +kernel
theorem dX1_begin_56 : decode cX1_begin 56 = .ok (.iconst 0, 1) := by decide +kernel
theorem dX1_begin_57 : decode cX1_begin 57 = .ok (.putfield 89, 3) := by decide +kernel
theorem dX1_begin_60 : decode cX1_begin 60 = .ok (.aload_n 0, 1) := by decide +kernel
theorem dX1_begin_61 : decode cX1_begin 61 = .ok (.iconst 0, 1) := by decide +kernel
theorem dX1_begin_62 : decode cX1_begin 62 = .ok (.putfield 36, 3) := by decide +kernel
theorem dX1_begin_65 : decode cX1_begin 65 = .ok (.aload_n 0, 1) := by decide +kernel
theorem dX1_begin_66 : decode cX1_begin 66 = .ok (.iconst 2, 1) := by decide +kernel
theorem dX1_begin_67 : decode cX1_begin 67 = .ok (.putfield 103, 3) := by decide +kernel
theorem dX1_begin_70 : decode cX1_begin 70 = .ok (.aload_n 0, 1) := by decide +kernel
theorem dX1_begin_71 : decode cX1_begin 71 = .ok (.iload_n 1, 1) := by decide +kernel
theorem dX1_begin_72 : decode cX1_begin 72 = .ok (.iconst 0, 1) := by decide +kernel
theorem dX1_begin_73 : decode cX1_begin 73 = .ok (.invokestatic 21, 3) := by decide +kernel
theorem dX1_begin_76 : decode cX1_begin 76 = .ok (.putfield 106, 3) := by decide +kernel
theorem dX1_begin_79 : decode cX1_begin 79 = .ok (.return_, 1) := by decide +kernel
theorem dX1_choose_0 : decode cX1_choose 0 = .ok (.iload_n 1, 1) := by decide +kernel
theorem dX1_choose_1 : decode cX1_choose 1 = .ok (.bipush 6, 2) := by decide +kernel
theorem dX1_choose_3 : decode cX1_choose 3 = .ok (.invokestatic 21, 3) := by decide +kernel
theorem dX1_choose_6 : decode cX1_choose 6 = .ok (.ifCond .eq 12, 3) := by decide +kernel
theorem dX1_choose_9 : decode cX1_choose 9 = .ok (.aload_n 0, 1) := by decide +kernel
theorem dX1_choose_10 : decode cX1_choose 10 = .ok (.iload_n 1, 1) := by decide +kernel
theorem dX1_choose_11 : decode cX1_choose 11 = .ok (.iconst 5, 1) := by decide +kernel
theorem dX1_choose_12 : decode cX1_choose 12 = .ok (.invokestatic 21, 3) := by decide +kernel
theorem dX1_choose_15 : decode cX1_choose 15 = .ok (.putfield 62, 3) := by decide +kernel
theorem dX1_choose_18 : decode cX1_choose 18 = .ok (.iload_n 1, 1) := by decide +kernel
theorem dX1_choose_19 : decode cX1_choose 19 = .ok (.iconst 2, 1) := by decide +kernel
theorem dX1_choose_20 : decode cX1_choose 20 = .ok (.invokestatic 21, 3) := by decide +kernel
theorem dX1_choose_23 : decode cX1_choose 23 = .ok (.ifCond .eq 8, 3) := by decide +kernel
theorem dX1_choose_26 : decode cX1_choose 26 = .ok (.aload_n 0, 1) := by decide +kernel
theorem dX1_choose_27 : decode cX1_choose 27 = .ok (.iconst 1, 1) := by decide +kernel
theorem dX1_choose_28 : decode cX1_choose 28 = .ok (.putfield 83, 3) := by decide +kernel
theorem dX1_choose_31 : decode cX1_choose 31 = .ok (.iload_n 1, 1) := by decide +kernel
theorem dX1_choose_32 : decode cX1_choose 32 = .ok (.iconst 1, 1) := by decide +kernel
theorem dX1_choose_33 : decode cX1_choose 33 = .ok (.invokestatic 21, 3) := by decide +kernel
theorem dX1_choose_36 : decode cX1_choose 36 = .ok (.ifCond .eq 10, 3) := by decide +kernel
theorem dX1_choose_39 : decode cX1_choose 39 = .ok (.aload_n 0, 1) := by decide +kernel
theorem dX1_choose_40 : decode cX1_choose 40 = .ok (.iload_n 1, 1) := by decide +kernel
theorem dX1_choose_41 : decode cX1_choose 41 = .ok (.iconst 1, 1) := by decide +kernel
theorem dX1_choose_42 : decode cX1_choose 42 = .ok (.iand, 1) := by decide +kernel
theorem dX1_choose_43 : decode cX1_choose 43 = .ok (.putfield 89, 3) := by decide +kernel
theorem dX1_choose_46 : decode cX1_choose 46 = .ok (.return_, 1) := by decide +kernel
theorem dX1_endOrTurn_0 : decode cX1_endOrTurn 0 = .ok (.iload_n 1, 1) := by decide +kernel
theorem dX1_endOrTurn_1 : decode cX1_endOrTurn 1 = .ok (.tableswitch 114 0 7 #[47, 55, 114, 70, 78, 86, 93, 101], 47) := by decide +kernel
theorem dX1_endOrTurn_48 : decode cX1_endOrTurn 48 = .ok (.aload_n 0, 1) := by decide +kernel
theorem dX1_endOrTurn_49 : decode cX1_endOrTurn 49 = .ok (.iconst 0, 1) := by decide +kernel
theorem dX1_endOrTurn_50 : decode cX1_endOrTurn 50 = .ok (.putfield 74, 3) := by decide +kernel
theorem dX1_endOrTurn_53 : decode cX1_endOrTurn 53 = .ok (.goto 62, 3) := by decide +kernel
theorem dX1_endOrTurn_56 : decode cX1_endOrTurn 56 = .ok (.aload_n 0, 1) := by decide +kernel
theorem dX1_endOrTurn_57 : decode cX1_endOrTurn 57 = .ok (.aload_n 0, 1) := by decide +kernel
theorem dX1_endOrTurn_58 : decode cX1_endOrTurn 58 = .ok (.aload_n 0, 1) := by decide +kernel
theorem dX1_endOrTurn_59 : decode cX1_endOrTurn 59 = .ok (.invokevirtual 56, 3) := by decide +kernel
theorem dX1_endOrTurn_62 : decode cX1_endOrTurn 62 = .ok (.invokevirtual 46, 3) := by decide +kernel
theorem dX1_endOrTurn_65 : decode cX1_endOrTurn 65 = .ok (.invokevirtual 109, 3) := by decide +kernel
theorem dX1_endOrTurn_68 : decode cX1_endOrTurn 68 = .ok (.goto 47, 3) := by decide +kernel
theorem dX1_endOrTurn_71 : decode cX1_endOrTurn 71 = .ok (.aload_n 0, 1) := by decide +kernel
theorem dX1_endOrTurn_72 : decode cX1_endOrTurn 72 = .ok (.iload_n 2, 1) := by decide +kernel
theorem dX1_endOrTurn_73 : decode cX1_endOrTurn 73 = .ok (.invokevirtual 109, 3) := by decide +kernel
theorem dX1_endOrTurn_76 : decode cX1_endOrTurn 76 = .ok (.goto 39, 3) := by decide +kernel
theorem dX1_endOrTurn_79 : decode cX1_endOrTurn 79 = .ok (.aload_n 0, 1) := by decide +kernel
theorem dX1_endOrTurn_80 : decode cX1_endOrTurn 80 = .ok (.iconst 1, 1) := by decide +kernel
theorem dX1_endOrTurn_81 : decode cX1_endOrTurn 81 = .ok (.putfield 74, 3) := by decide +kernel
theorem dX1_endOrTurn_84 : decode cX1_endOrTurn 84 = .ok (.goto 31, 3) := by decide +kernel
theorem dX1_endOrTurn_87 : decode cX1_endOrTurn 87 = .ok (.aload_n 0, 1) := by decide +kernel
theorem dX1_endOrTurn_88 : decode cX1_endOrTurn 88 = .ok (.invokevirtual 112, 3) := by decide +kernel
theorem dX1_endOrTurn_91 : decode cX1_endOrTurn 91 = .ok (.goto 24, 3) := by decide +kernel
theorem dX1_endOrTurn_94 : decode cX1_endOrTurn 94 = .ok (.aload_n 0, 1) := by decide +kernel
theorem dX1_endOrTurn_95 : decode cX1_endOrTurn 95 = .ok (.iload_n 2, 1) := by decide +kernel
theorem dX1_endOrTurn_96 : decode cX1_endOrTurn 96 = .ok (.putfield 15, 3) := by decide +kernel
theorem dX1_endOrTurn_99 : decode cX1_endOrTurn 99 = .ok (.goto 16, 3) := by decide +kernel
theorem dX1_endOrTurn_102 : decode cX1_endOrTurn 102 = .ok (.aload_n 0, 1) := by decide +kernel
theorem dX1_endOrTurn_103 : decode cX1_endOrTurn 103 = .ok (.iload_n 2, 1) := by decide +kernel
theorem dX1_endOrTurn_104 : decode cX1_endOrTurn 104 = .ok (.invokevirtual 109, 3) := by decide +kernel
theorem dX1_endOrTurn_107 : decode cX1_endOrTurn 107 = .ok (.aload_n 0, 1) := by decide +kernel
theorem dX1_endOrTurn_108 : decode cX1_endOrTurn 108 = .ok (.iload_n 2, 1) := by decide +kernel
theorem dX1_endOrTurn_109 : decode cX1_endOrTurn 109 = .ok (.putfield 15, 3) := by decide +kernel
theorem dX1_endOrTurn_112 : decode cX1_endOrTurn 112 = .ok (.goto 3, 3) := by decide +kernel
theorem dX1_endOrTurn_115 : decode cX1_endOrTurn 115 = .ok (.return_, 1) := by decide +kernel
theorem dX1_endHighestAndTurn_0 : decode cX1_endHighestAndTurn 0 = .ok (.aload_n 0, 1) := by decide +kernel
theorem dX1_endHighestAndTurn_1 : decode cX1_endHighestAndTurn 1 = .ok (.aload_n 0, 1) := by decide +kernel
theorem dX1_endHighestAndTurn_2 : decode cX1_endHighestAndTurn 2 = .ok (.invokevirtual 56, 3) := by decide +kernel
theorem dX1_endHighestAndTurn_5 : decode cX1_endHighestAndTurn 5 = .ok (.invokevirtual 46, 3) := by decide +kernel
theorem dX1_endHighestAndTurn_8 : decode cX1_endHighestAndTurn 8 = .ok (.istore_n 1, 1) := by decide +kernel
theorem dX1_endHighestAndTurn_9 : decode cX1_endHighestAndTurn 9 = .ok (.iload_n 1, 1) := by decide +kernel
theorem dX1_endHighestAndTurn_10 : decode cX1_endHighestAndTurn 10 = .ok (.iconst (-1), 1) := by decide +kernel
theorem dX1_endHighestAndTurn_11 : decode cX1_endHighestAndTurn 11 = .ok (.if_icmp .eq 13, 3) := by decide +kernel
theorem dX1_endHighestAndTurn_14 : decode cX1_endHighestAndTurn 14 = .ok (.aload_n 0, 1) := by decide +kernel
theorem dX1_endHighestAndTurn_15 : decode cX1_endHighestAndTurn 15 = .ok (.iload_n 1, 1) := by decide +kernel
theorem dX1_endHighestAndTurn_16 : decode cX1_endHighestAndTurn 16 = .ok (.invokevirtual 109, 3) := by decide +kernel
theorem dX1_endHighestAndTurn_19 : decode cX1_endHighestAndTurn 19 = .ok (.aload_n 0, 1) := by decide +kernel
theorem dX1_endHighestAndTurn_20 : decode cX1_endHighestAndTurn 20 = .ok (.iload_n 1, 1) := by decide +kernel
theorem dX1_endHighestAndTurn_21 : decode cX1_endHighestAndTurn 21 = .ok (.putfield 15, 3) := by decide +kernel
theorem dX1_endHighestAndTurn_24 : decode cX1_endHighestAndTurn 24 = .ok (.return_, 1) := by decide +kernel
theorem dX1_end_0 : decode cX1_end 0 = .ok (.iload_n 1, 1) := by decide +kernel
theorem dX1_end_1 : decode cX1_end 1 = .ok (.iconst (-1), 1) := by decide +kernel
theorem dX1_end_2 : decode cX1_end 2 = .ok (.if_icmp .eq 36, 3) := by decide +kernel
theorem dX1_end_5 : decode cX1_end 5 = .ok (.aload_n 0, 1) := by decide +kernel
theorem dX1_end_6 : decode cX1_end 6 = .ok (.getfield 65, 3) := by decide +kernel
theorem dX1_end_9 : decode cX1_end 9 = .ok (.iload_n 1, 1) := by decide +kernel
theorem dX1_end_10 : decode cX1_end 10 = .ok (.invokestatic 21, 3) := by decide +kernel
theorem dX1_end_13 : decode cX1_end 13 = .ok (.ifCond .eq 25, 3) := by decide +kernel
theorem dX1_end_16 : decode cX1_end 16 = .ok (.aload_n 0, 1) := by decide +kernel
theorem dX1_end_17 : decode cX1_end 17 = .ok (.aload_n 0, 1) := by decide +kernel
theorem dX1_end_18 : decode cX1_end 18 = .ok (.getfield 65, 3) := by decide +kernel
theorem dX1_end_21 : decode cX1_end 21 = .ok (.iload_n 1, 1) := by decide +kernel
theorem dX1_end_22 : decode cX1_end 22 = .ok (.invokestatic 28, 3) := by decide +kernel
theorem dX1_end_25 : decode cX1_end 25 = .ok (.putfield 65, 3) := by decide +kernel
theorem dX1_end_28 : decode cX1_end 28 = .ok (.aload_n 0, 1) := by decide +kernel
theorem dX1_end_29 : decode cX1_end 29 = .ok (.dup, 1) := by decide +kernel
theorem dX1_end_30 : decode cX1_end 30 = .ok (.getfield 115, 3) := by decide +kernel
theorem dX1_end_33 : decode cX1_end 33 = .ok (.iconst 1, 1) := by decide +kernel
theorem dX1_end_34 : decode cX1_end 34 = .ok (.iadd, 1) := by decide +kernel
theorem dX1_end_35 : decode cX1_end 35 = .ok (.putfield 115, 3) := by decide +kernel
theorem dX1_end_38 : decode cX1_end 38 = .ok (.return_, 1) := by decide +kernel
theorem dX1_highestOf_0 : decode cX1_highestOf 0 = .ok (.iconst 0, 1) := by decide +kernel
theorem dX1_highestOf_1 : decode cX1_highestOf 1 = .ok (.istore_n 2, 1) := by decide +kernel
theorem dX1_highestOf_2 : decode cX1_highestOf 2 = .ok (.iload_n 2, 1) := by decide +kernel
theorem dX1_highestOf_3 : decode cX1_highestOf 3 = .ok (.bipush 8, 2) := by decide +kernel
theorem dX1_highestOf_5 : decode cX1_highestOf 5 = .ok (.if_icmp .ge 31, 3) := by decide +kernel
theorem dX1_highestOf_8 : decode cX1_highestOf 8 = .ok (.aload_n 0, 1) := by decide +kernel
theorem dX1_highestOf_9 : decode cX1_highestOf 9 = .ok (.getfield 15, 3) := by decide +kernel
theorem dX1_highestOf_12 : decode cX1_highestOf 12 = .ok (.iconst 1, 1) := by decide +kernel
theorem dX1_highestOf_13 : decode cX1_highestOf 13 = .ok (.iadd, 1) := by decide +kernel
theorem dX1_highestOf_14 : decode cX1_highestOf 14 = .ok (.iload_n 2, 1) := by decide +kernel
theorem dX1_highestOf_15 : decode cX1_highestOf 15 = .ok (.iadd, 1) := by decide +kernel
theorem dX1_highestOf_16 : decode cX1_highestOf 16 = .ok (.bipush 7, 2) := by decide +kernel
theorem dX1_highestOf_18 : decode cX1_highestOf 18 = .ok (.iand, 1) := by decide +kernel
theorem dX1_highestOf_19 : decode cX1_highestOf 19 = .ok (.istore_n 3, 1) := by decide +kernel
theorem dX1_highestOf_20 : decode cX1_highestOf 20 = .ok (.iload_n 1, 1) := by decide +kernel
theorem dX1_highestOf_21 : decode cX1_highestOf 21 = .ok (.iload_n 3, 1) := by decide +kernel
theorem dX1_highestOf_22 : decode cX1_highestOf 22 = .ok (.invokestatic 21, 3) := by decide +kernel
theorem dX1_highestOf_25 : decode cX1_highestOf 25 = .ok (.ifCond .eq 5, 3) := by decide +kernel
theorem dX1_highestOf_28 : decode cX1_highestOf 28 = .ok (.iload_n 3, 1) := by decide +kernel
theorem dX1_highestOf_29 : decode cX1_highestOf 29 = .ok (.ireturn, 1) := by decide +kernel
theorem dX1_highestOf_30 : decode cX1_highestOf 30 = .ok (.iinc 2 1, 3) := by decide +kernel
theorem dX1_highestOf_33 : decode cX1_highestOf 33 = .ok (.goto (-31), 3) := by decide +kernel
theorem dX1_highestOf_36 : decode cX1_highestOf 36 = .ok (.iconst (-1), 1) := by decide +kernel
theorem dX1_highestOf_37 : decode cX1_highestOf 37 = .ok (.ireturn, 1) := by decide +kernel
theorem dX1_rankOf_0 : decode cX1_rankOf 0 = .ok (.iload_n 1, 1) := by decide +kernel
theorem dX1_rankOf_1 : decode cX1_rankOf 1 = .ok (.aload_n 0, 1) := by decide +kernel
theorem dX1_rankOf_2 : decode cX1_rankOf 2 = .ok (.getfield 15, 3) := by decide +kernel
theorem dX1_rankOf_5 : decode cX1_rankOf 5 = .ok (.isub, 1) := by decide +kernel
theorem dX1_rankOf_6 : decode cX1_rankOf 6 = .ok (.iconst 1, 1) := by decide +kernel
theorem dX1_rankOf_7 : decode cX1_rankOf 7 = .ok (.isub, 1) := by decide +kernel
theorem dX1_rankOf_8 : decode cX1_rankOf 8 = .ok (.bipush 7, 2) := by decide +kernel
theorem dX1_rankOf_10 : decode cX1_rankOf 10 = .ok (.iand, 1) := by decide +kernel
theorem dX1_rankOf_11 : decode cX1_rankOf 11 = .ok (.ireturn, 1) := by decide +kernel
theorem dX1_hasBit_0 : decode cX1_hasBit 0 = .ok (.iload_n 0, 1) := by decide +kernel
theorem dX1_hasBit_1 : decode cX1_hasBit 1 = .ok (.iload_n 1, 1) := by decide +kernel
theorem dX1_hasBit_2 : decode cX1_hasBit 2 = .ok (.ishr, 1) := by decide +kernel
theorem dX1_hasBit_3 : decode cX1_hasBit 3 = .ok (.iconst 1, 1) := by decide +kernel
theorem dX1_hasBit_4 : decode cX1_hasBit 4 = .ok (.iand, 1) := by decide +kernel
theorem dX1_hasBit_5 : decode cX1_hasBit 5 = .ok (.ifCond .eq 7, 3) := by decide +kernel
theorem dX1_hasBit_8 : decode cX1_hasBit 8 = .ok (.iconst 1, 1) := by decide +kernel
theorem dX1_hasBit_9 : decode cX1_hasBit 9 = .ok (.goto 4, 3) := by decide +kernel
theorem dX1_hasBit_12 : decode cX1_hasBit 12 = .ok (.iconst 0, 1) := by decide +kernel
theorem dX1_hasBit_13 : decode cX1_hasBit 13 = .ok (.ireturn, 1) := by decide +kernel
theorem dX1_without_0 : decode cX1_without 0 = .ok (.iload_n 0, 1) := by decide +kernel
theorem dX1_without_1 : decode cX1_without 1 = .ok (.iconst 1, 1) := by decide +kernel
theorem dX1_without_2 : decode cX1_without 2 = .ok (.iload_n 1, 1) := by decide +kernel
theorem dX1_without_3 : decode cX1_without 3 = .ok (.ishl, 1) := by decide +kernel
theorem dX1_without_4 : decode cX1_without 4 = .ok (.iconst (-1), 1) := by decide +kernel
theorem dX1_without_5 : decode cX1_without 5 = .ok (.ixor, 1) := by decide +kernel
theorem dX1_without_6 : decode cX1_without 6 = .ok (.iand, 1) := by decide +kernel
theorem dX1_without_7 : decode cX1_without 7 = .ok (.ireturn, 1) := by decide +kernel
end
section
def xz_ok : Cond → Bool
  | .fieldLinkNest .. => true
  | .methodLinkNest .. => true
  | .castable .. => true
  | .declares .. => true
  | w => w.onTables && w.keeps
theorem xz_tab {w : Cond} (h : xz_ok w = true) : w.onTables = true := by
  cases w <;> first | rfl | (simp only [xz_ok, Bool.and_eq_true] at h; exact h.1)
theorem xz_warm {w : Cond} (h : xz_ok w = true) {s U : State} (hW : s.WarmedH U.vm) (hZ : va_Nw w s) : va_Nw w U := by
  cases w <;> first | exact va_Nw.warmF hW hZ | exact va_Nw.warmM hW hZ | exact va_Nw.warmC hW hZ | exact va_Nw.warmD hW hZ | exact word_at hW (Or.inl h) hZ
theorem xz_same {w : Cond} (h : xz_ok w = true) {u U : State} (e : u.vm = U.vm) (hZ : va_Nw w u) : va_Nw w U := va_Nw.same (xz_tab h) e hZ
def xz_Z (zl : List Cond) (U : State) : Prop := zl.all xz_ok = true ∧ ∀ w ∈ zl, va_Nw w U
theorem xz_Z.warm {zl : List Cond} {s U : State} (hW : s.WarmedH U.vm) (h : xz_Z zl s) : xz_Z zl U := ⟨h.1, fun w hw => xz_warm (List.all_eq_true.mp h.1 w hw) hW (h.2 w hw)⟩
theorem xz_Z.same {zl : List Cond} {u U : State} (e : u.vm = U.vm) (h : xz_Z zl u) : xz_Z zl U := ⟨h.1, fun w hw => xz_same (List.all_eq_true.mp h.1 w hw) e (h.2 w hw)⟩
theorem xz_Z.sub {zl zl' : List Cond} {U : State} (h : xz_Z zl U) (hs : ∀ w ∈ zl', w ∈ zl) : xz_Z zl' U := ⟨List.all_eq_true.mpr fun w hw => List.all_eq_true.mp h.1 w (hs w hw), fun w hw => h.2 w (hs w hw)⟩
theorem xz_Z.nil {U : State} : xz_Z [] U := ⟨rfl, fun _ h => by cases h⟩
theorem xz_Z.use {zl : List Cond} {U : State} {w : Cond} (h : xz_Z zl U) (hw : w ∈ zl) {a : Array Value} : w.before a U = true := va_Nw.use (xz_tab (List.all_eq_true.mp h.1 w hw)) (h.2 w hw)

def xr_Q (F : Option Value) : Array Value → State → Outcome → State → Prop := fun _ st o t => o = .returned F ∧ t.heap = st.heap
def xr_P (av : List Value) (D : va_G) (cl : List vw_C) (tys : List (ClassId × FieldType)) (zl : List Cond) (wc : va_W) : Array Value → State → Prop := va_Pc av (fun U => va_P D cl wc U.heap ∧ va_K D cl tys U ∧ xz_Z zl U)
abbrev xr_M (l : Launch) (y : MethodName) (ws : List Cond) (rm : Room) (av : List Value) (D : va_G) (cl : List vw_C) (tys : List (ClassId × FieldType)) (zl : List Cond) (wc : va_W) (F : Option Value) : Prop := Met l y ws rm (xr_P av D cl tys zl wc) (xr_Q F) 0 0 (fun _ => False)
def xc_P (av : List Value) (sz : Nat) (D : va_G) (cl : List vw_C) (tys : List (ClassId × FieldType)) (zl : List Cond) (wc : va_W) : Array Value → State → Prop := va_Pc av (fun U => U.heap.size = sz ∧ va_P D cl wc U.heap ∧ va_K D cl tys U ∧ va_D (fun _ => True) wc ∧ xz_Z zl U)
def xc_Q (F : Option Value) (D : va_G) (cl : List vw_C) (tys : List (ClassId × FieldType)) (wG : va_W) (A : Nat → Prop) : Array Value → State → Outcome → State → Prop := fun _ st o t => (o = .returned F ∧ va_P D cl wG t.heap ∧ va_K D cl tys t ∧ va_D A wG) ∧ va_F A st t
abbrev xc_M (l : Launch) (y : MethodName) (ws : List Cond) (rm : Room) (av : List Value) (sz : Nat) (D : va_G) (cl : List vw_C) (tys : List (ClassId × FieldType)) (zl : List Cond) (wc : va_W) (F : Option Value) (wG : va_W) (mc ms : Nat) : Prop := Met l y ws rm (xc_P av sz D cl tys zl wc) (xc_Q F D cl tys wG (va_A wc sz)) mc ms (va_A wc sz)

theorem xr_blind {av : List Value} {D : va_G} {cl : List vw_C} {tys : List (ClassId × FieldType)} {zl : List Cond} {wc : va_W} : FrameBlind (xr_P av D cl tys zl wc) := by
  intro a U g mk q
  obtain ⟨q0, q1, q2, q3⟩ := q
  exact ⟨q0, q1, va_K.moved (u := U) (U := U.calling g mk a) (Vm.Alike.refl U.vm) q2, xz_Z.same (u := U) (U := U.calling g mk a) rfl q3⟩
theorem xc_blind {av : List Value} {sz : Nat} {D : va_G} {cl : List vw_C} {tys : List (ClassId × FieldType)} {zl : List Cond} {wc : va_W} : FrameBlind (xc_P av sz D cl tys zl wc) := by
  intro a U g mk q
  obtain ⟨q0, q1, q2, q3, q4, q5⟩ := q
  exact ⟨q0, q1, q2, va_K.moved (u := U) (U := U.calling g mk a) (Vm.Alike.refl U.vm) q3, q4, xz_Z.same (u := U) (U := U.calling g mk a) rfl q5⟩

section XL
variable {p : Program} {l : Launch} {e : Env} {R : Room} {s : State} {m : MethodId} {args : Array Value} {below : List Frame} {meth : Method} {c : Code} {H : Heap} {locs : List Loc} {cells slots : Nat} {Q : State → Prop}
variable {cc : ByteArray} {pc : Nat} {ls : Array Slot} {rest st0 st1 : List Value} {D : va_G} {cl : List vw_C} {A A0 : Nat → Prop} {tys : List (ClassId × FieldType)} {ws wc wr wG : va_W} {H0 : Heap} {zl : List Cond} {F : Option Value} {b : Nat} {As : List Value}
theorem xi_eq {x y : Int32} (h : x = y) (k : W p l e R s m args below meth c H locs cells slots Q (F0 m pc ls (.int y :: rest))) : W p l e R s m args below meth c H locs cells slots Q (F0 m pc ls (.int x :: rest)) := by
  rw [h]; exact k
theorem xj_meet {pcJ : Nat} {stJ : Int32 → List Value} (x : Int32) (k : W p l e R s m args below meth c H locs cells slots Q (F0 m pcJ ls (stJ x))) (h : (∀ y : Int32, y = x → W p l e R s m args below meth c H locs cells slots Q (F0 m pcJ ls (stJ y))) → W p l e R s m args below meth c H locs cells slots Q (F0 m pc ls st0)) : W p l e R s m args below meth c H locs cells slots Q (F0 m pc ls st0) := h (fun y e => by rw [e]; exact k)
theorem xr_preV {ci q0 : Nat} {fs : List Value} {C : String} {T : u_T} {N : Nat} (hK : va_K D cl tys s) (hP : va_P D cl wc H) (hZ : xz_Z zl s) (he : wc[q0]? = some (b, .inr (ci, fs))) (hc : cl[ci]? = some (C, T, N)) : PreV s H C b (xr_P (.ref b :: As) D cl tys zl wc) As :=
  ⟨xr_blind, va_recv hK hP hc he, fun U hU hW => ⟨rfl, by rw [hU]; exact hP, va_K.moved hW.alike hK, hZ.warm hW⟩⟩
theorem xr_preS (hK : va_K D cl tys s) (hP : va_P D cl wc H) (hZ : xz_Z zl s) : PreS s H (xr_P As D cl tys zl wc) As :=
  ⟨xr_blind, fun U hU hW => ⟨rfl, by rw [hU]; exact hP, va_K.moved hW.alike hK, hZ.warm hW⟩⟩
theorem xc_preV {ci q0 : Nat} {fs : List Value} {C : String} {T : u_T} {N : Nat} (hK : va_K D cl tys s) (hP : va_P D cl wc H) (hD : va_D A wc) (hZ : xz_Z zl s) (he : wc[q0]? = some (b, .inr (ci, fs))) (hc : cl[ci]? = some (C, T, N)) : PreV s H C b (xc_P (.ref b :: As) H.size D cl tys zl wc) As :=
  ⟨xc_blind, va_recv hK hP hc he, fun U hU hW => ⟨rfl, by rw [hU], by rw [hU]; exact hP, va_K.moved hW.alike hK, hD.weaken (fun _ _ _ _ => trivial), hZ.warm hW⟩⟩
theorem xc_preS (hK : va_K D cl tys s) (hP : va_P D cl wc H) (hD : va_D A wc) (hZ : xz_Z zl s) : PreS s H (xc_P As H.size D cl tys zl wc) As :=
  ⟨xc_blind, fun U hU hW => ⟨rfl, by rw [hU], by rw [hU]; exact hP, va_K.moved hW.alike hK, hD.weaken (fun _ _ _ _ => trivial), hZ.warm hW⟩⟩
theorem xr_call {a : Array Value} (hr : CallRun p l e R s m args below meth c H locs cells slots 0 0 (F0 m pc ls st0) rest (xr_Q F a) (fun _ => False)) (hs1 : F.toList ++ rest = st1)
    (kk : W p l e R s m args below meth c H locs cells slots Q (F0 m (pc + 3) ls st1)) : W p l e R s m args below meth c H locs cells slots Q (F0 m pc ls st0) := by
  subst hs1
  intro T hT X
  obtain ⟨v, st₀, t, T', L, h0, X', hL, e1, ⟨hv, hh⟩, st⟩ := hr T hT X
  cases hv
  obtain ⟨t2, a1, b1⟩ := kk T' (by rw [e1, hh, h0]) (Stand.forget X' (fun q h => (hL q h).elim))
  exact ⟨t2, st t2 a1, b1⟩
theorem xc_call {a : Array Value} {mc ms : Nat} (hr : va_Run p l e R s m args below meth c H locs cells slots mc ms (F0 m pc ls st0) rest (xc_Q F D cl tys wG (va_A wc H.size) a) (va_A wc H.size))
    (hP : va_P D cl ws H) (hD : va_D A0 ws) (hS : va_S A0 H0 H locs) (hA : ∀ q, H0.size ≤ q → A0 q) (isC isR : List Nat) (hC : isC.map (fun i => ws[i]?) = wc.map some) (hR : isR.map (fun i => ws[i]?) = wr.map some) (hn : va_nd isR = true) (hdis : ∀ i ∈ isR, i ∉ isC) (hs1 : F.toList ++ rest = st1)
    (kk : ∀ (H1 : Heap) (locs1 : List Loc), va_P D cl (wr ++ wG) H1 → va_D A0 (wr ++ wG) → va_S A0 H0 H1 locs1 → H.size ≤ H1.size → W p l e R s m args below meth c H1 locs1 (cells + mc) (slots + ms) Q (F0 m (pc + 3) ls st1)) : W p l e R s m args below meth c H locs cells slots Q (F0 m pc ls st0) := by
  subst hs1
  intro T hT X
  obtain ⟨v, st₀, t, T', L, h0, X', hL, e1, e2, ⟨⟨hv, hPg, -, hDg⟩, hz, hk⟩, st⟩ := hr T hT X
  cases hv
  rw [h0] at hz hk
  rw [← e1] at hPg hz hk
  have hFc := va_free hD hS hA isC hC
  obtain ⟨hP', hD'⟩ := va_join hP hD isC isR hC hR hn hdis hk hFc hPg hDg
  obtain ⟨t2, a1, b1⟩ := kk T'.heap (locs ++ L) hP' hD'
    ⟨Nat.le_trans hS.1 hz, fun q h1 h2 => by rw [hk q (Nat.lt_of_lt_of_le h1 hS.1) (fun z => h2 (hFc q z))]; exact hS.2.1 q h1 h2, fun q hq => by
      rcases List.mem_append.mp hq with h | h
      · exact hS.2.2 q h
      · exact hFc _ (hL q h)⟩ hz T' rfl X'
  exact ⟨t2, st t2 a1, b1⟩
theorem xr_iret {r v : Int32} (hx : p.tables.exec = Jvm.exec) (hb : c.code = cc) (hr : meth.sig.returnType = some .int) (hlocks : meth.locks = false) (hdg : decode cc pc = .ok (.ireturn, 1)) (hv : v = r) :
    W p l e R s m args below meth c s.heap [] 0 0 (MQ below (xr_Q (some (.int r))) args s 0 0 (fun _ => False)) (F0 m pc ls [.int v]) := by
  subst hv
  exact W.iret hx hb hr (fun t ht _ => ⟨rfl, ht⟩) (fun q h => by cases h) hdg hlocks
theorem xr_zret {r v : Int32} (hx : p.tables.exec = Jvm.exec) (hb : c.code = cc) (hr : meth.sig.returnType = some .boolean) (hlocks : meth.locks = false) (hdg : decode cc pc = .ok (.ireturn, 1)) (hn : narrow .boolean (.int v) = .int v) (hv : v = r) :
    W p l e R s m args below meth c s.heap [] 0 0 (MQ below (xr_Q (some (.int r))) args s 0 0 (fun _ => False)) (F0 m pc ls [.int v]) := by
  subst hv
  exact W.zret hx hb hr hn (fun t ht _ => ⟨rfl, ht⟩) (fun q h => by cases h) hdg hlocks
theorem xr_vret (hx : p.tables.exec = Jvm.exec) (hb : c.code = cc) (hr : meth.sig.returnType = none) (hlocks : meth.locks = false) (hdg : decode cc pc = .ok (.return_, 1)) :
    W p l e R s m args below meth c s.heap [] 0 0 (MQ below (xr_Q none) args s 0 0 (fun _ => False)) (F0 m pc ls []) :=
  W.vret hx hb hr (fun t ht _ => ⟨rfl, ht⟩) (fun q h => by cases h) hdg hlocks
theorem xr_aret {n : String} {r v : Nat} (hx : p.tables.exec = Jvm.exec) (hb : c.code = cc) (hr : meth.sig.returnType = some (.object n)) (hlocks : meth.locks = false) (hdg : decode cc pc = .ok (.areturn, 1)) (hv : v = r) :
    W p l e R s m args below meth c s.heap [] 0 0 (MQ below (xr_Q (some (.ref r))) args s 0 0 (fun _ => False)) (F0 m pc ls [.ref v]) := by
  subst hv
  exact W.aret hx hb hr (Or.inl ⟨n, rfl⟩) (Or.inr ⟨_, rfl⟩) (fun t ht _ => ⟨rfl, ht⟩) (fun q h => by cases h) hdg hlocks
theorem xc_iret {σ : Type} {wf : σ → va_W} {x y : σ} {r v : Int32} (hx : p.tables.exec = Jvm.exec) (hb : c.code = cc) (hr : meth.sig.returnType = some .int) (hlocks : meth.locks = false) (hdg : decode cc pc = .ok (.ireturn, 1)) (hK : va_K D cl tys s) (hP : va_P D cl (wf x) H) (hD : va_D A (wf x)) (hS : va_S A s.heap H locs) (hv : v = r) (hxy : x = y) :
    W p l e R s m args below meth c H locs cells slots (MQ below (xc_Q (some (.int r)) D cl tys (wf y) A) args s cells slots A) (F0 m pc ls [.int v]) := by
  subst hv; subst hxy
  exact W.iret hx hb hr (fun t ht hW => ⟨⟨rfl, by rw [ht]; exact hP, va_K.moved hW.alike hK, hD⟩, hS.F ht⟩) hS.2.2 hdg hlocks
theorem xc_zret {σ : Type} {wf : σ → va_W} {x y : σ} {r v : Int32} (hx : p.tables.exec = Jvm.exec) (hb : c.code = cc) (hr : meth.sig.returnType = some .boolean) (hlocks : meth.locks = false) (hdg : decode cc pc = .ok (.ireturn, 1)) (hK : va_K D cl tys s) (hP : va_P D cl (wf x) H) (hD : va_D A (wf x)) (hS : va_S A s.heap H locs) (hn : narrow .boolean (.int v) = .int v) (hv : v = r) (hxy : x = y) :
    W p l e R s m args below meth c H locs cells slots (MQ below (xc_Q (some (.int r)) D cl tys (wf y) A) args s cells slots A) (F0 m pc ls [.int v]) := by
  subst hv; subst hxy
  exact W.zret hx hb hr hn (fun t ht hW => ⟨⟨rfl, by rw [ht]; exact hP, va_K.moved hW.alike hK, hD⟩, hS.F ht⟩) hS.2.2 hdg hlocks
theorem xc_vret {σ : Type} {wf : σ → va_W} {x y : σ} (hx : p.tables.exec = Jvm.exec) (hb : c.code = cc) (hr : meth.sig.returnType = none) (hlocks : meth.locks = false) (hdg : decode cc pc = .ok (.return_, 1)) (hK : va_K D cl tys s) (hP : va_P D cl (wf x) H) (hD : va_D A (wf x)) (hS : va_S A s.heap H locs) (hxy : x = y) :
    W p l e R s m args below meth c H locs cells slots (MQ below (xc_Q none D cl tys (wf y) A) args s cells slots A) (F0 m pc ls []) := by
  subst hxy
  exact W.vret hx hb hr (fun t ht hW => ⟨⟨rfl, by rw [ht]; exact hP, va_K.moved hW.alike hK, hD⟩, hS.F ht⟩) hS.2.2 hdg hlocks
end XL
end
section
abbrev lpF (u : Nat → Int32) : List Value := [.int (u 0), .int (u 1), .int (u 2), .int (u 3), .int (u 4), .int (u 5), .int (u 6), .int (u 7), .int (u 8), .int (u 9), .int (u 10), .int (u 11), .int (u 12), .int (u 13), .int (u 14), .int (u 15), .int (u 16), .int (u 17), .int (u 18)]
def lpHas (x k : Int32) : Int32 := if ((x >>> (k &&& 31)) &&& 1) = 0 then 0 else 1
def lpWo (x k : Int32) : Int32 := x &&& (((1 : Int32) <<< (k &&& 31)) ^^^ (-1))
def lpMoveR (u : Nat → Int32) (k t : Int32) : Int32 := if ¬ lpHas (u 1) k = t then 1 else 0
def lpMove (u : Nat → Int32) (k t : Int32) : Nat → Int32 := if ¬ lpHas (u 1) k = t then (if t = 0 then upd (upd u 1 ((u 1) ^^^ ((1 : Int32) <<< (k &&& 31)))) 2 (lpWo (u 2) k) else upd (upd u 1 ((u 1) ^^^ ((1 : Int32) <<< (k &&& 31)))) 2 ((u 2) ||| ((1 : Int32) <<< (k &&& 31)))) else u
def lpReq (u : Nat → Int32) : Int32 := if u 11 = 0 then u 2 else u 1
def lpHiF (lo x : Int32) : Nat → Int32 → Int32
  | 0, _ => -1
  | n + 1, r => if lpHas x (((lo + 1) + r) &&& 7) = 0 then lpHiF lo x n (r + 1) else (((lo + 1) + r) &&& 7)
def lpHi (u : Nat → Int32) (x : Int32) : Int32 := lpHiF (u 5) x 8 0
def lpRank (u : Nat → Int32) (k : Int32) : Int32 := ((k - u 5) - 1) &&& 7
def lpIsc (u : Nat → Int32) : Int32 := if u 12 = 0 then u 3 else (u 3) &&& ((u 4) ^^^ (-1))
def lpBlk (u : Nat → Int32) (k : Int32) : Int32 := if u 13 = 0 then lpIsc u else if ¬ k = u 0 then lpIsc u else lpWo (lpIsc u) k
def lpCand (u : Nat → Int32) : Int32 := lpHi u ((lpReq u) &&& ((u 4) ^^^ (-1)))
def lpDel (u : Nat → Int32) : Int32 := if ¬ u 10 = 0 then (if ¬ lpCand u = -1 then (if lpHi u (lpBlk u (lpCand u)) = -1 then lpCand u else if lpRank u (lpHi u (lpBlk u (lpCand u))) ≤ lpRank u (lpCand u) then -1 else lpCand u) else -1) else -1
def lpTake (u : Nat → Int32) : Nat → Int32 := if ¬ lpDel u = -1 then
    (if ¬ u 14 = 0 then (if u 15 = 0 then upd (upd u 2 (lpWo (u 2) (lpDel u))) 17 (u 17 + 1) else upd (upd (upd u 2 (lpWo (u 2) (lpDel u))) 5 (lpDel u)) 17 (u 17 + 1))
     else upd (upd (upd u 2 (lpWo (u 2) (lpDel u))) 3 ((u 3) ||| ((1 : Int32) <<< ((lpDel u) &&& 31)))) 17 (u 17 + 1)) else u
def lpNum (u : Nat → Int32) (k : Int32) : Int32 := if ¬ k = -1 then u 6 + k else u 6 + 7
def lpAnsR (u : Nat → Int32) : Int32 := if u 16 = 0 then (if ¬ u 8 = 0 then u 3 else lpReq u) else (if ¬ lpDel (upd u 16 0) = -1 then 128 + lpDel (upd u 16 0) else 0)
def lpAns (u : Nat → Int32) : Nat → Int32 := if u 16 = 0 then u else lpTake (upd u 16 0)
def lpBegin (u : Nat → Int32) (w : Int32) : Nat → Int32 := upd (upd (upd (upd (upd (upd (upd (upd (upd (upd (upd (upd (upd (upd u 4 0) 3 0) 2 0) 5 7) 11 (lpHas w 3)) 12 0) 13 0) 14 0) 15 0) 16 0) 8 0) 10 0) 7 2) 9 (lpHas w 0)
def lpCh1 (u : Nat → Int32) (w : Int32) : Nat → Int32 := if lpHas w 6 = 0 then u else upd u 12 (lpHas w 5)
def lpCh2 (u : Nat → Int32) (w : Int32) : Nat → Int32 := if lpHas w 2 = 0 then u else upd u 16 1
def lpCh3 (u : Nat → Int32) (w : Int32) : Nat → Int32 := if lpHas w 1 = 0 then u else upd u 8 (w &&& 1)
def lpChoose (u : Nat → Int32) (w : Int32) : Nat → Int32 := lpCh3 (lpCh2 (lpCh1 u w) w) w
def lpEnd (u : Nat → Int32) (k : Int32) : Nat → Int32 := if k = -1 then u else if lpHas (u 3) k = 0 then u else upd (upd u 3 (lpWo (u 3) k)) 18 (u 18 + 1)
def lpTop (u : Nat → Int32) : Int32 := lpHi u (lpIsc u)
def lpEht (u : Nat → Int32) : Nat → Int32 := if lpTop u = -1 then u else upd (lpEnd u (lpTop u)) 5 (lpTop u)
def lpOrd (u : Nat → Int32) (o k : Int32) : Nat → Int32 := if o = 0 then upd u 15 0 else if o = 1 then lpEnd u (lpTop u) else if o = 2 then u else if o = 3 then lpEnd u k else if o = 4 then upd u 15 1 else if o = 5 then lpEht u else if o = 6 then upd u 5 k else if o = 7 then upd (lpEnd u k) 5 k else u
def lpP0 (u : Nat → Int32) (w : Int32) : Nat → Int32 := if lpHas w 4 = 0 then (if lpHas w 3 = 0 then lpOrd u (w >>> ((5 : Int32) &&& 31)) (w &&& 7) else lpChoose u w) else lpBegin u w
def lpP1 (u : Nat → Int32) (w : Int32) : Nat → Int32 := if u 7 = 2 then upd (upd u 6 (w &&& 248)) 7 3 else if u 7 = 3 then (if u 9 = 0 then upd (upd u 7 0) 10 1 else upd (upd u 7 4) 10 0) else if u 7 = 4 then upd (upd (upd (upd u 14 (lpHas w 1)) 13 (lpHas w 4)) 7 0) 10 1 else upd u 4 w
theorem lpHas_nar (x k : Int32) : narrow .boolean (.int (lpHas x k)) = .int (lpHas x k) := by unfold lpHas; split <;> rfl
theorem lpHas_fit (x k : Int32) : fits .boolean (.int (lpHas x k)) = true := by unfold lpHas; split <;> rfl
theorem lpMoveR_nar (u : Nat → Int32) (k t : Int32) : narrow .boolean (.int (lpMoveR u k t)) = .int (lpMoveR u k t) := by unfold lpMoveR; split <;> rfl
def lpFol (u0 u1 : Nat → Int32) : Nat → Int32 := if lpDel u1 = -1 then lpMove u0 2 0 else lpMove u0 2 1
abbrev PS : Type := (Nat → Int32) × (Nat → Int32) × Int32
def lpTFH (u0 u1 : Nat → Int32) (ea : Int32) : PS := (lpFol (lpMove u0 2 0) (lpTake u1), lpTake u1, ea)
def lpTFHr (u1 : Nat → Int32) : Int32 := lpNum (lpTake u1) (lpDel u1)
def lpTk (u0 u1 : Nat → Int32) (ea : Int32) : PS := if ¬ lpDel u0 = -1 then (if ¬ lpDel u0 = 2 then (lpTake u0, u1, ea) else lpTFH (lpTake u0) u1 ea) else (if ¬ lpDel u0 = 2 then (lpTake u0, u1, ea + 1) else lpTFH (lpTake u0) u1 (ea + 1))
def lpTkr (u0 u1 : Nat → Int32) : Int32 := if ¬ lpDel u0 = 2 then lpNum (lpTake u0) (lpDel u0) else lpTFHr u1
def lpLn (u0 u1 : Nat → Int32) (ea k t : Int32) : PS := if 8 ≤ k then (lpFol u0 (lpMove u1 (k - 8) t), lpMove u1 (k - 8) t, ea) else (lpFol (lpMove u0 k t) u1, u1, ea)
def lpLnr (u0 u1 : Nat → Int32) (k t : Int32) : Int32 := if 8 ≤ k then lpMoveR u1 (k - 8) t else lpMoveR u0 k t
def lpBo (u : Nat → Int32) : Int32 := if lpDel u = -1 then 0 else 1
theorem lpLnr_nar (u0 u1 : Nat → Int32) (k t : Int32) : narrow .boolean (.int (lpLnr u0 u1 k t)) = .int (lpLnr u0 u1 k t) := by unfold lpLnr; split <;> exact lpMoveR_nar _ _ _
def lpOk (u : Nat → Int32) : Prop := ∀ k, 9 ≤ k → k < 17 → u k = 0 ∨ u k = 1
theorem lpOk_nar {u : Nat → Int32} (h : lpOk u) (k : Nat) (hk : 9 ≤ k ∧ k < 17) : narrow .boolean (.int (u k)) = .int (u k) := by
  rcases h k hk.1 hk.2 with e | e <;> rw [e] <;> rfl
end
section
abbrev cw1 (h : Nat) (u : Nat → Int32) : va_W := [(h, .inr (1, lpF u))]

set_option maxHeartbeats 4000000 in
set_option maxRecDepth 100000 in
theorem c_hasBit (l : Launch) (dC : Nat → ClassId) (dI : Nat → Nat → Nat) (x k : Int32) : xr_M l yX1_hasBit wsX1_hasBit ({ frames := 0, cells := 0, slots := 0, locals := 0 }) [.int x, .int k] (dC, dI) vwCl [] [] ([]) (some (.int (lpHas x k))) := by
  refine Met.ofW (cc := cX1_hasBit) (maxL := 2) (ret := (some .boolean)) (by decide) rfl ?_
  intro p e s m args below meth c s₁ B hml hv
  obtain ⟨rfl, hP, hK, hZ⟩ := hv
  have hx := B.exec
  have hb := B.bytes
  have hr := B.returns
  have hts := atoms_spec (ws := wsX1_hasBit) B.pre
  have hown : s.vm.findClass RX1 = some m.cls := findClass_of_methodNamed B.named
  have hlocks := B.notSynchronized
  have hl := lv_entry ([.int x, .int k]) (n := 2) (Nat.le_of_ble_eq_true rfl)
  rw [lg_entry_eq]
  generalize (lg_sl ([.int x, .int k]) ++ List.replicate (2 - (lg_sl ([.int x, .int k])).length) Slot.unset).toArray = ls at hl ⊢
  have hl : lv_has ls 2 [(0, .int x), (1, .int k)] := hl
  refine lv_iload_n hx hb dX1_hasBit_0 rfl (lv_at hl 0 rfl) ?_
  refine lv_iload_n hx hb dX1_hasBit_1 rfl (lv_at hl 1 rfl) ?_
  refine lv_ishr hx hb dX1_hasBit_2 ?_
  refine lv_iconst (v := 1) hx hb dX1_hasBit_3 (by decide) ?_
  refine lv_iand hx hb dX1_hasBit_4 ?_
  refine lv_if_eq (tgt := 12) hx hb dX1_hasBit_5 (by decide) (fun h1 => ?_) (fun h1 => ?_)
  · refine lv_iconst (v := 0) hx hb dX1_hasBit_12 (by decide) ?_
    exact xr_zret hx hb hr hlocks dX1_hasBit_13 rfl (by first | (simp only [lpHas, if_pos h1, if_neg (not_not_intro h1)]; done) | rfl | (simp only [lpHas]; simp only [if_pos h1, if_neg (not_not_intro h1)]; done) | (simp_all [lpHas]; done))
  · refine lv_iconst (v := 1) hx hb dX1_hasBit_8 (by decide) ?_
    refine lv_goto (tgt := 13) hx hb dX1_hasBit_9 (by decide) ?_
    exact xr_zret hx hb hr hlocks dX1_hasBit_13 rfl (by first | (simp only [lpHas, if_neg h1, if_pos h1]; done) | rfl | (simp only [lpHas]; simp only [if_neg h1, if_pos h1]; done) | (simp_all [lpHas]; done))

set_option maxHeartbeats 4000000 in
set_option maxRecDepth 100000 in
theorem c_without (l : Launch) (dC : Nat → ClassId) (dI : Nat → Nat → Nat) (x k : Int32) : xr_M l yX1_without wsX1_without ({ frames := 0, cells := 0, slots := 0, locals := 0 }) [.int x, .int k] (dC, dI) vwCl [] [] ([]) (some (.int (lpWo x k))) := by
  refine Met.ofW (cc := cX1_without) (maxL := 2) (ret := (some .int)) (by decide) rfl ?_
  intro p e s m args below meth c s₁ B hml hv
  obtain ⟨rfl, hP, hK, hZ⟩ := hv
  have hx := B.exec
  have hb := B.bytes
  have hr := B.returns
  have hts := atoms_spec (ws := wsX1_without) B.pre
  have hown : s.vm.findClass RX1 = some m.cls := findClass_of_methodNamed B.named
  have hlocks := B.notSynchronized
  have hl := lv_entry ([.int x, .int k]) (n := 2) (Nat.le_of_ble_eq_true rfl)
  rw [lg_entry_eq]
  generalize (lg_sl ([.int x, .int k]) ++ List.replicate (2 - (lg_sl ([.int x, .int k])).length) Slot.unset).toArray = ls at hl ⊢
  have hl : lv_has ls 2 [(0, .int x), (1, .int k)] := hl
  refine lv_iload_n hx hb dX1_without_0 rfl (lv_at hl 0 rfl) ?_
  refine lv_iconst (v := 1) hx hb dX1_without_1 (by decide) ?_
  refine lv_iload_n hx hb dX1_without_2 rfl (lv_at hl 1 rfl) ?_
  refine lv_ishl hx hb dX1_without_3 ?_
  refine lv_iconst (v := -1) hx hb dX1_without_4 (by decide) ?_
  refine lv_ixor hx hb dX1_without_5 ?_
  refine lv_iand hx hb dX1_without_6 ?_
  exact xr_iret hx hb hr hlocks dX1_without_7 (by first | (simp only [lpWo]; done) | rfl | (simp_all [lpWo]; done))

set_option maxHeartbeats 4000000 in
set_option maxRecDepth 100000 in
theorem c_requested (l : Launch) (dC : Nat → ClassId) (dI : Nat → Nat → Nat) (h : Nat) (u : Nat → Int32) : xr_M l yX1_requested wsX1_requested ({ frames := 0, cells := 0, slots := 0, locals := 0 }) [.ref h] (dC, dI) vwCl [] [] (cw1 h u) (some (.int (lpReq u))) := by
  refine Met.ofW (cc := cX1_requested) (maxL := 1) (ret := (some .int)) (by decide) rfl ?_
  intro p e s m args below meth c s₁ B hml hv
  obtain ⟨rfl, hP, hK, hZ⟩ := hv
  have hx := B.exec
  have hb := B.bytes
  have hr := B.returns
  have hts := atoms_spec (ws := wsX1_requested) B.pre
  have hown : s.vm.findClass RX1 = some m.cls := findClass_of_methodNamed B.named
  have hlocks := B.notSynchronized
  have hin_RX1 : ∀ w ∈ u_ws RX1 TX1 19, w ∈ wsX1_requested := fun w h => List.mem_cons_of_mem _ (u_X1 w h)
  have hlk_18 := hts _ (List.mem_cons_of_mem _ k_fl_X1_18)
  have hlk_25 := hts _ (List.mem_cons_of_mem _ k_fl_X1_25)
  have hlk_32 := hts _ (List.mem_cons_of_mem _ k_fl_X1_32)
  have hl := lv_entry ([.ref h]) (n := 1) (Nat.le_of_ble_eq_true rfl)
  rw [lg_entry_eq]
  generalize (lg_sl ([.ref h]) ++ List.replicate (1 - (lg_sl ([.ref h])).length) Slot.unset).toArray = ls at hl ⊢
  have hl : lv_has ls 1 [(0, .ref h)] := hl
  refine lv_aload_n hx hb dX1_requested_0 rfl (lv_at hl 0 rfl) ?_
  refine va_get (D := (dC, dI)) (ci := 1) (v := .int (u 11)) (C := RX1) (T := TX1) (N := 19) hx hb hts hin_RX1 hown hK hP 0 rfl rfl 11 (by decide) hlk_32 (fun _ h9 => h9) rfl dX1_requested_1 ?_
  refine lv_if_eq (tgt := 14) hx hb dX1_requested_4 (by decide) (fun h1 => ?_) (fun h1 => ?_)
  · refine lv_aload_n hx hb dX1_requested_14 rfl (lv_at hl 0 rfl) ?_
    refine va_get (D := (dC, dI)) (ci := 1) (v := .int (u 2)) (C := RX1) (T := TX1) (N := 19) hx hb hts hin_RX1 hown hK hP 0 rfl rfl 2 (by decide) hlk_25 (fun _ h9 => h9) rfl dX1_requested_15 ?_
    exact xr_iret hx hb hr hlocks dX1_requested_18 (by first | (simp only [lpReq, if_pos h1, if_neg (not_not_intro h1)]; done) | rfl | (simp only [lpReq]; simp only [if_pos h1, if_neg (not_not_intro h1)]; done) | (simp_all [lpReq]; done))
  · refine lv_aload_n hx hb dX1_requested_7 rfl (lv_at hl 0 rfl) ?_
    refine va_get (D := (dC, dI)) (ci := 1) (v := .int (u 1)) (C := RX1) (T := TX1) (N := 19) hx hb hts hin_RX1 hown hK hP 0 rfl rfl 1 (by decide) hlk_18 (fun _ h9 => h9) rfl dX1_requested_8 ?_
    refine lv_goto (tgt := 18) hx hb dX1_requested_11 (by decide) ?_
    exact xr_iret hx hb hr hlocks dX1_requested_18 (by first | (simp only [lpReq, if_neg h1, if_pos h1]; done) | rfl | (simp only [lpReq]; simp only [if_neg h1, if_pos h1]; done) | (simp_all [lpReq]; done))

set_option maxHeartbeats 4000000 in
set_option maxRecDepth 100000 in
theorem c_inServiceThatCounts (l : Launch) (dC : Nat → ClassId) (dI : Nat → Nat → Nat) (h : Nat) (u : Nat → Int32) : xr_M l yX1_inServiceThatCounts wsX1_inServiceThatCounts ({ frames := 0, cells := 0, slots := 0, locals := 0 }) [.ref h] (dC, dI) vwCl [] [] (cw1 h u) (some (.int (lpIsc u))) := by
  refine Met.ofW (cc := cX1_inServiceThatCounts) (maxL := 1) (ret := (some .int)) (by decide) rfl ?_
  intro p e s m args below meth c s₁ B hml hv
  obtain ⟨rfl, hP, hK, hZ⟩ := hv
  have hx := B.exec
  have hb := B.bytes
  have hr := B.returns
  have hts := atoms_spec (ws := wsX1_inServiceThatCounts) B.pre
  have hown : s.vm.findClass RX1 = some m.cls := findClass_of_methodNamed B.named
  have hlocks := B.notSynchronized
  have hin_RX1 : ∀ w ∈ u_ws RX1 TX1 19, w ∈ wsX1_inServiceThatCounts := fun w h => List.mem_cons_of_mem _ (u_X1 w h)
  have hlk_43 := hts _ (List.mem_cons_of_mem _ k_fl_X1_43)
  have hlk_62 := hts _ (List.mem_cons_of_mem _ k_fl_X1_62)
  have hlk_65 := hts _ (List.mem_cons_of_mem _ k_fl_X1_65)
  have hl := lv_entry ([.ref h]) (n := 1) (Nat.le_of_ble_eq_true rfl)
  rw [lg_entry_eq]
  generalize (lg_sl ([.ref h]) ++ List.replicate (1 - (lg_sl ([.ref h])).length) Slot.unset).toArray = ls at hl ⊢
  have hl : lv_has ls 1 [(0, .ref h)] := hl
  refine lv_aload_n hx hb dX1_inServiceThatCounts_0 rfl (lv_at hl 0 rfl) ?_
  refine va_get (D := (dC, dI)) (ci := 1) (v := .int (u 12)) (C := RX1) (T := TX1) (N := 19) hx hb hts hin_RX1 hown hK hP 0 rfl rfl 12 (by decide) hlk_62 (fun _ h9 => h9) rfl dX1_inServiceThatCounts_1 ?_
  refine lv_if_eq (tgt := 21) hx hb dX1_inServiceThatCounts_4 (by decide) (fun h1 => ?_) (fun h1 => ?_)
  · refine lv_aload_n hx hb dX1_inServiceThatCounts_21 rfl (lv_at hl 0 rfl) ?_
    refine va_get (D := (dC, dI)) (ci := 1) (v := .int (u 3)) (C := RX1) (T := TX1) (N := 19) hx hb hts hin_RX1 hown hK hP 0 rfl rfl 3 (by decide) hlk_65 (fun _ h9 => h9) rfl dX1_inServiceThatCounts_22 ?_
    exact xr_iret hx hb hr hlocks dX1_inServiceThatCounts_25 (by first | (simp only [lpIsc, if_pos h1, if_neg (not_not_intro h1)]; done) | rfl | (simp only [lpIsc]; simp only [if_pos h1, if_neg (not_not_intro h1)]; done) | (simp_all [lpIsc]; done))
  · refine lv_aload_n hx hb dX1_inServiceThatCounts_7 rfl (lv_at hl 0 rfl) ?_
    refine va_get (D := (dC, dI)) (ci := 1) (v := .int (u 3)) (C := RX1) (T := TX1) (N := 19) hx hb hts hin_RX1 hown hK hP 0 rfl rfl 3 (by decide) hlk_65 (fun _ h9 => h9) rfl dX1_inServiceThatCounts_8 ?_
    refine lv_aload_n hx hb dX1_inServiceThatCounts_11 rfl (lv_at hl 0 rfl) ?_
    refine va_get (D := (dC, dI)) (ci := 1) (v := .int (u 4)) (C := RX1) (T := TX1) (N := 19) hx hb hts hin_RX1 hown hK hP 0 rfl rfl 4 (by decide) hlk_43 (fun _ h9 => h9) rfl dX1_inServiceThatCounts_12 ?_
    refine lv_iconst (v := -1) hx hb dX1_inServiceThatCounts_15 (by decide) ?_
    refine lv_ixor hx hb dX1_inServiceThatCounts_16 ?_
    refine lv_iand hx hb dX1_inServiceThatCounts_17 ?_
    refine lv_goto (tgt := 25) hx hb dX1_inServiceThatCounts_18 (by decide) ?_
    exact xr_iret hx hb hr hlocks dX1_inServiceThatCounts_25 (by first | (simp only [lpIsc, if_neg h1, if_pos h1]; done) | rfl | (simp only [lpIsc]; simp only [if_neg h1, if_pos h1]; done) | (simp_all [lpIsc]; done))

set_option maxHeartbeats 4000000 in
set_option maxRecDepth 100000 in
theorem c_rankOf (l : Launch) (dC : Nat → ClassId) (dI : Nat → Nat → Nat) (h : Nat) (u : Nat → Int32) (k : Int32) : xr_M l yX1_rankOf wsX1_rankOf ({ frames := 0, cells := 0, slots := 0, locals := 0 }) [.ref h, .int k] (dC, dI) vwCl [] [] (cw1 h u) (some (.int (lpRank u k))) := by
  refine Met.ofW (cc := cX1_rankOf) (maxL := 2) (ret := (some .int)) (by decide) rfl ?_
  intro p e s m args below meth c s₁ B hml hv
  obtain ⟨rfl, hP, hK, hZ⟩ := hv
  have hx := B.exec
  have hb := B.bytes
  have hr := B.returns
  have hts := atoms_spec (ws := wsX1_rankOf) B.pre
  have hown : s.vm.findClass RX1 = some m.cls := findClass_of_methodNamed B.named
  have hlocks := B.notSynchronized
  have hin_RX1 : ∀ w ∈ u_ws RX1 TX1 19, w ∈ wsX1_rankOf := fun w h => List.mem_cons_of_mem _ (u_X1 w h)
  have hlk_15 := hts _ (List.mem_cons_of_mem _ k_fl_X1_15)
  have hl := lv_entry ([.ref h, .int k]) (n := 2) (Nat.le_of_ble_eq_true rfl)
  rw [lg_entry_eq]
  generalize (lg_sl ([.ref h, .int k]) ++ List.replicate (2 - (lg_sl ([.ref h, .int k])).length) Slot.unset).toArray = ls at hl ⊢
  have hl : lv_has ls 2 [(0, .ref h), (1, .int k)] := hl
  refine lv_iload_n hx hb dX1_rankOf_0 rfl (lv_at hl 1 rfl) ?_
  refine lv_aload_n hx hb dX1_rankOf_1 rfl (lv_at hl 0 rfl) ?_
  refine va_get (D := (dC, dI)) (ci := 1) (v := .int (u 5)) (C := RX1) (T := TX1) (N := 19) hx hb hts hin_RX1 hown hK hP 0 rfl rfl 5 (by decide) hlk_15 (fun _ h9 => h9) rfl dX1_rankOf_2 ?_
  refine lv_isub hx hb dX1_rankOf_5 ?_
  refine lv_iconst (v := 1) hx hb dX1_rankOf_6 (by decide) ?_
  refine lv_isub hx hb dX1_rankOf_7 ?_
  refine lv_bipush (v := 7) hx hb dX1_rankOf_8 (by decide) ?_
  refine lv_iand hx hb dX1_rankOf_10 ?_
  exact xr_iret hx hb hr hlocks dX1_rankOf_11 (by first | (simp only [lpRank]; done) | rfl | (simp_all [lpRank]; done))

set_option maxHeartbeats 4000000 in
set_option maxRecDepth 100000 in
theorem c_highestOf (l : Launch) (dC : Nat → ClassId) (dI : Nat → Nat → Nat) (h : Nat) (u : Nat → Int32) (x : Int32) : xr_M l yX1_highestOf wsX1_highestOf ({ frames := 1, cells := 0, slots := 0, locals := 21 }) [.ref h, .int x] (dC, dI) vwCl [] [] (cw1 h u) (some (.int (lpHi u x))) := by
  refine Met.ofW (cc := cX1_highestOf) (maxL := 4) (ret := (some .int)) (by decide) rfl ?_
  intro p e s m args below meth c s₁ B hml hv
  obtain ⟨rfl, hP, hK, hZ⟩ := hv
  have hx := B.exec
  have hb := B.bytes
  have hr := B.returns
  have hts := atoms_spec (ws := wsX1_highestOf) B.pre
  have hown : s.vm.findClass RX1 = some m.cls := findClass_of_methodNamed B.named
  have hlocks := B.notSynchronized
  have hin_RX1 : ∀ w ∈ u_ws RX1 TX1 19, w ∈ wsX1_highestOf := fun w h => List.mem_cons_of_mem _ (u_X1 w h)
  have hlk_15 := hts _ (List.mem_cons_of_mem _ k_fl_X1_15)
  have hl := lv_entry ([.ref h, .int x]) (n := 4) (Nat.le_of_ble_eq_true rfl)
  rw [lg_entry_eq]
  generalize (lg_sl ([.ref h, .int x]) ++ List.replicate (4 - (lg_sl ([.ref h, .int x])).length) Slot.unset).toArray = ls at hl ⊢
  have hl : lv_has ls 4 [(0, .ref h), (1, .int x)] := hl
  refine lv_iconst (v := 0) hx hb dX1_highestOf_0 (by decide) ?_
  refine lv_istore_n (lv' := [(2, .int 0), (0, .ref h), (1, .int x)]) hx hb dX1_highestOf_1 rfl hl (by decide) rfl (fun ls hl => ?_)
  have loop : ∀ (n j : Nat), j + n = 8 → lpHiF (u 5) x n (nI j) = lpHi u x → ∀ ls : Array Slot, lv_has ls 4 [(2, .int (nI j)), (0, .ref h), (1, .int x)] → W p l e (headSpec wsX1_highestOf { frames := 1, cells := 0, slots := 0, locals := 21 }).room s m ([.ref h, .int x]).toArray below meth c s.heap [] 0 0 (MQ below (xr_Q (some (.int (lpHi u x)))) ([.ref h, .int x]).toArray s 0 0 (fun _ => False)) (F0 m 2 ls []) := by
    intro n
    induction n with
    | zero =>
      intro j hj hF ls hl
      obtain rfl : j = 8 := by omega
      refine lv_iload_n hx hb dX1_highestOf_2 rfl (lv_at hl 0 rfl) ?_
      refine lv_bipush (v := 8) hx hb dX1_highestOf_3 (by decide) ?_
      refine lv_icmp_ge (tgt := 36) hx hb dX1_highestOf_5 (by decide) (fun _ => ?_) (fun h => absurd (by decide) h)
      refine lv_iconst (v := -1) hx hb dX1_highestOf_36 (by decide) ?_
      exact xr_iret hx hb hr hlocks dX1_highestOf_37 hF
    | succ n ih =>
      intro j hj hF ls hl
      refine lv_iload_n hx hb dX1_highestOf_2 rfl (lv_at hl 0 rfl) ?_
      refine lv_bipush (v := 8) hx hb dX1_highestOf_3 (by decide) ?_
      refine lv_icmp_ge (tgt := 36) hx hb dX1_highestOf_5 (by decide) (fun h => absurd h (nI_ge (a := j) (b := 8) (by omega) (by decide))) (fun _ => ?_)
      refine lv_aload_n hx hb dX1_highestOf_8 rfl (lv_at hl 1 rfl) ?_
      refine va_get (D := (dC, dI)) (ci := 1) (v := .int (u 5)) (C := RX1) (T := TX1) (N := 19) hx hb hts hin_RX1 hown hK hP 0 rfl rfl 5 (by decide) hlk_15 (fun _ h9 => h9) rfl dX1_highestOf_9 ?_
      refine lv_iconst (v := 1) hx hb dX1_highestOf_12 (by decide) ?_
      refine lv_iadd hx hb dX1_highestOf_13 ?_
      refine lv_iload_n hx hb dX1_highestOf_14 rfl (lv_at hl 0 rfl) ?_
      refine lv_iadd hx hb dX1_highestOf_15 ?_
      refine lv_bipush (v := 7) hx hb dX1_highestOf_16 (by decide) ?_
      refine lv_iand hx hb dX1_highestOf_18 ?_
      refine lv_istore_n (lv' := [(3, .int ((((u 5) + 1) + (nI j)) &&& 7)), (2, .int (nI j)), (0, .ref h), (1, .int x)]) hx hb dX1_highestOf_19 rfl hl (by decide) rfl (fun ls hl => ?_)
      refine lv_iload_n hx hb dX1_highestOf_20 rfl (lv_at hl 3 rfl) ?_
      refine lv_iload_n hx hb dX1_highestOf_21 rfl (lv_at hl 0 rfl) ?_
      refine xr_call (st1 := [.int (lpHas x ((((u 5) + 1) + (nI j)) &&& 7))]) (W.runS (As := [.int x, .int ((((u 5) + 1) + (nI j)) &&& 7)]) (rest := []) ⟨hx, hb, hml, hown, hts⟩ (c_hasBit l dC dI x ((((u 5) + 1) + (nI j)) &&& 7)) (cwS 2 hts (gd_S wa_c k_ml_X1_21 k_st_X1_hasBit k_in_X1 k_co_X1_hasBit) rfl rfl rfl (by decide +kernel) ⟨Nat.le_of_ble_eq_true rfl, Nat.le_of_ble_eq_true rfl⟩) (xr_preS hK (hP.sub (ws' := []) [] rfl) xz_Z.nil) rfl rfl hl.1 rfl (lv_room (Nat.le_of_ble_eq_true rfl)) dX1_highestOf_22 ⟨Nat.zero_le _, Nat.zero_le _⟩) rfl ?_
      refine lv_if_eq (tgt := 30) hx hb dX1_highestOf_25 (by decide) (fun h1 => ?_) (fun h1 => ?_)
      · refine lv_iinc (k := 1) (v := nI (j + 1)) (lv' := [(2, .int (nI (j + 1))), (3, .int ((((u 5) + 1) + (nI j)) &&& 7)), (0, .ref h), (1, .int x)]) hx hb dX1_highestOf_30 hl rfl (nI_1 _) (by decide) rfl (fun ls hl => ?_)
        refine lv_goto (tgt := 2) hx hb dX1_highestOf_33 (by decide) ?_
        refine ih (j + 1) (by omega) ?_ ls (lv_sub hl [0, 2, 3] rfl)
        rw [← hF, lpHiF, if_pos h1, nI_1]
      · refine lv_iload_n hx hb dX1_highestOf_28 rfl (lv_at hl 0 rfl) ?_
        exact xr_iret hx hb hr hlocks dX1_highestOf_29 (by rw [← hF, lpHiF, if_neg h1])
  exact loop 8 0 rfl rfl ls hl

set_option maxHeartbeats 4000000 in
set_option maxRecDepth 100000 in
theorem c_blockersOf (l : Launch) (dC : Nat → ClassId) (dI : Nat → Nat → Nat) (h : Nat) (u : Nat → Int32) (k : Int32) : xr_M l yX1_blockersOf wsX1_blockersOf ({ frames := 1, cells := 0, slots := 0, locals := 21 }) [.ref h, .int k] (dC, dI) vwCl [] [] (cw1 h u) (some (.int (lpBlk u k))) := by
  refine Met.ofW (cc := cX1_blockersOf) (maxL := 3) (ret := (some .int)) (by decide) rfl ?_
  intro p e s m args below meth c s₁ B hml hv
  obtain ⟨rfl, hP, hK, hZ⟩ := hv
  have hx := B.exec
  have hb := B.bytes
  have hr := B.returns
  have hts := atoms_spec (ws := wsX1_blockersOf) B.pre
  have hown : s.vm.findClass RX1 = some m.cls := findClass_of_methodNamed B.named
  have hlocks := B.notSynchronized
  have hin_RX1 : ∀ w ∈ u_ws RX1 TX1 19, w ∈ wsX1_blockersOf := fun w h => List.mem_cons_of_mem _ (u_X1 w h)
  have hlk_9 := hts _ (List.mem_cons_of_mem _ k_fl_X1_9)
  have hlk_59 := hts _ (List.mem_cons_of_mem _ k_fl_X1_59)
  have hl := lv_entry ([.ref h, .int k]) (n := 3) (Nat.le_of_ble_eq_true rfl)
  rw [lg_entry_eq]
  generalize (lg_sl ([.ref h, .int k]) ++ List.replicate (3 - (lg_sl ([.ref h, .int k])).length) Slot.unset).toArray = ls at hl ⊢
  have hl : lv_has ls 3 [(0, .ref h), (1, .int k)] := hl
  refine lv_aload_n hx hb dX1_blockersOf_0 rfl (lv_at hl 0 rfl) ?_
  refine xr_call (st1 := [.int (lpIsc u)]) (W.runV (As := []) (rest := []) ⟨hx, hb, hml, hown, hts⟩ (c_inServiceThatCounts l dC dI h u) (cwV 0 hts (gd_V wa_c k_ml_X1_56 k_im_X1_inServiceThatCounts k_se_X1_inServiceThatCounts k_in_X1 k_co_X1_inServiceThatCounts) rfl rfl rfl (by decide +kernel) ⟨Nat.le_of_ble_eq_true rfl, Nat.le_of_ble_eq_true rfl⟩) (xr_preV (q0 := 0) (C := RX1) hK hP xz_Z.nil rfl rfl) rfl rfl hl.1 rfl (lv_room (Nat.le_of_ble_eq_true rfl)) dX1_blockersOf_1 ⟨Nat.zero_le _, Nat.zero_le _⟩) rfl ?_
  refine lv_istore_n (lv' := [(2, .int (lpIsc u)), (0, .ref h), (1, .int k)]) hx hb dX1_blockersOf_4 rfl hl (by decide) rfl (fun ls hl => ?_)
  refine lv_aload_n hx hb dX1_blockersOf_5 rfl (lv_at hl 1 rfl) ?_
  refine va_get (D := (dC, dI)) (ci := 1) (v := .int (u 13)) (C := RX1) (T := TX1) (N := 19) hx hb hts hin_RX1 hown hK hP 0 rfl rfl 13 (by decide) hlk_59 (fun _ h9 => h9) rfl dX1_blockersOf_6 ?_
  refine lv_if_eq (tgt := 28) hx hb dX1_blockersOf_9 (by decide) (fun h1 => ?_) (fun h1 => ?_)
  · refine lv_iload_n hx hb dX1_blockersOf_28 rfl (lv_at hl 0 rfl) ?_
    exact xr_iret hx hb hr hlocks dX1_blockersOf_29 (by first | (simp only [lpBlk, if_pos h1, if_neg (not_not_intro h1)]; done) | rfl | (simp only [lpBlk]; simp only [if_pos h1, if_neg (not_not_intro h1)]; done) | (simp_all [lpBlk]; done))
  · refine lv_iload_n hx hb dX1_blockersOf_12 rfl (lv_at hl 2 rfl) ?_
    refine lv_aload_n hx hb dX1_blockersOf_13 rfl (lv_at hl 1 rfl) ?_
    refine va_get (D := (dC, dI)) (ci := 1) (v := .int (u 0)) (C := RX1) (T := TX1) (N := 19) hx hb hts hin_RX1 hown hK hP 0 rfl rfl 0 (by decide) hlk_9 (fun _ h9 => h9) rfl dX1_blockersOf_14 ?_
    refine lv_icmp_ne (tgt := 28) hx hb dX1_blockersOf_17 (by decide) (fun h2 => ?_) (fun h2 => ?_)
    · refine lv_iload_n hx hb dX1_blockersOf_28 rfl (lv_at hl 0 rfl) ?_
      exact xr_iret hx hb hr hlocks dX1_blockersOf_29 (by first | (simp only [lpBlk, if_neg h1, if_pos h1, if_neg h2, if_pos h2]; done) | rfl | (simp only [lpBlk]; simp only [if_neg h1, if_pos h1, if_neg h2, if_pos h2]; done) | (simp_all [lpBlk]; done))
    · refine lv_iload_n hx hb dX1_blockersOf_20 rfl (lv_at hl 0 rfl) ?_
      refine lv_iload_n hx hb dX1_blockersOf_21 rfl (lv_at hl 2 rfl) ?_
      refine xr_call (st1 := [.int (lpWo (lpIsc u) k)]) (W.runS (As := [.int (lpIsc u), .int k]) (rest := []) ⟨hx, hb, hml, hown, hts⟩ (c_without l dC dI (lpIsc u) k) (cwS 2 hts (gd_S wa_c k_ml_X1_28 k_st_X1_without k_in_X1 k_co_X1_without) rfl rfl rfl (by decide +kernel) ⟨Nat.le_of_ble_eq_true rfl, Nat.le_of_ble_eq_true rfl⟩) (xr_preS hK (hP.sub (ws' := []) [] rfl) xz_Z.nil) rfl rfl hl.1 rfl (lv_room (Nat.le_of_ble_eq_true rfl)) dX1_blockersOf_22 ⟨Nat.zero_le _, Nat.zero_le _⟩) rfl ?_
      refine lv_goto (tgt := 29) hx hb dX1_blockersOf_25 (by decide) ?_
      exact xr_iret hx hb hr hlocks dX1_blockersOf_29 (by first | (simp only [lpBlk, if_neg h1, if_pos h1, if_pos h2, if_neg (not_not_intro h2)]; done) | rfl | (simp only [lpBlk]; simp only [if_neg h1, if_pos h1, if_pos h2, if_neg (not_not_intro h2)]; done) | (simp_all [lpBlk]; done))

set_option maxHeartbeats 4000000 in
set_option maxRecDepth 100000 in
theorem c_lineToDeliver (l : Launch) (dC : Nat → ClassId) (dI : Nat → Nat → Nat) (h : Nat) (u : Nat → Int32) : xr_M l yX1_lineToDeliver wsX1_lineToDeliver ({ frames := 2, cells := 0, slots := 0, locals := 44 }) [.ref h] (dC, dI) vwCl [] [] (cw1 h u) (some (.int (lpDel u))) := by
  refine Met.ofW (cc := cX1_lineToDeliver) (maxL := 3) (ret := (some .int)) (by decide) rfl ?_
  intro p e s m args below meth c s₁ B hml hv
  obtain ⟨rfl, hP, hK, hZ⟩ := hv
  have hx := B.exec
  have hb := B.bytes
  have hr := B.returns
  have hts := atoms_spec (ws := wsX1_lineToDeliver) B.pre
  have hown : s.vm.findClass RX1 = some m.cls := findClass_of_methodNamed B.named
  have hlocks := B.notSynchronized
  have hin_RX1 : ∀ w ∈ u_ws RX1 TX1 19, w ∈ wsX1_lineToDeliver := fun w h => List.mem_cons_of_mem _ (u_X1 w h)
  have hlk_36 := hts _ (List.mem_cons_of_mem _ k_fl_X1_36)
  have hlk_43 := hts _ (List.mem_cons_of_mem _ k_fl_X1_43)
  have hl := lv_entry ([.ref h]) (n := 3) (Nat.le_of_ble_eq_true rfl)
  rw [lg_entry_eq]
  generalize (lg_sl ([.ref h]) ++ List.replicate (3 - (lg_sl ([.ref h])).length) Slot.unset).toArray = ls at hl ⊢
  have hl : lv_has ls 3 [(0, .ref h)] := hl
  refine lv_aload_n hx hb dX1_lineToDeliver_0 rfl (lv_at hl 0 rfl) ?_
  refine va_get (D := (dC, dI)) (ci := 1) (v := .int (u 10)) (C := RX1) (T := TX1) (N := 19) hx hb hts hin_RX1 hown hK hP 0 rfl rfl 10 (by decide) hlk_36 (fun _ h9 => h9) rfl dX1_lineToDeliver_1 ?_
  refine lv_if_ne (tgt := 9) hx hb dX1_lineToDeliver_4 (by decide) (fun h1 => ?_) (fun h1 => ?_)
  · refine lv_aload_n hx hb dX1_lineToDeliver_9 rfl (lv_at hl 0 rfl) ?_
    refine lv_aload_n hx hb dX1_lineToDeliver_10 rfl (lv_at hl 0 rfl) ?_
    refine xr_call (st1 := [.int (lpReq u), .ref h]) (W.runV (As := []) (rest := [.ref h]) ⟨hx, hb, hml, hown, hts⟩ (c_requested l dC dI h u) (cwV 0 hts (gd_V wa_c k_ml_X1_39 k_im_X1_requested k_se_X1_requested k_in_X1 k_co_X1_requested) rfl rfl rfl (by decide +kernel) ⟨Nat.le_of_ble_eq_true rfl, Nat.le_of_ble_eq_true rfl⟩) (xr_preV (q0 := 0) (C := RX1) hK hP xz_Z.nil rfl rfl) rfl rfl hl.1 rfl (lv_room (Nat.le_of_ble_eq_true rfl)) dX1_lineToDeliver_11 ⟨Nat.zero_le _, Nat.zero_le _⟩) rfl ?_
    refine lv_aload_n hx hb dX1_lineToDeliver_14 rfl (lv_at hl 0 rfl) ?_
    refine va_get (D := (dC, dI)) (ci := 1) (v := .int (u 4)) (C := RX1) (T := TX1) (N := 19) hx hb hts hin_RX1 hown hK hP 0 rfl rfl 4 (by decide) hlk_43 (fun _ h9 => h9) rfl dX1_lineToDeliver_15 ?_
    refine lv_iconst (v := -1) hx hb dX1_lineToDeliver_18 (by decide) ?_
    refine lv_ixor hx hb dX1_lineToDeliver_19 ?_
    refine lv_iand hx hb dX1_lineToDeliver_20 ?_
    refine xr_call (st1 := [.int (lpHi u ((lpReq u) &&& ((u 4) ^^^ (-1))))]) (W.runV (As := [.int ((lpReq u) &&& ((u 4) ^^^ (-1)))]) (rest := []) ⟨hx, hb, hml, hown, hts⟩ (c_highestOf l dC dI h u ((lpReq u) &&& ((u 4) ^^^ (-1)))) (cwV 1 hts (gd_V wa_c k_ml_X1_46 k_im_X1_highestOf k_se_X1_highestOf k_in_X1 k_co_X1_highestOf) rfl rfl rfl (by decide +kernel) ⟨Nat.le_of_ble_eq_true rfl, Nat.le_of_ble_eq_true rfl⟩) (xr_preV (q0 := 0) (C := RX1) hK hP xz_Z.nil rfl rfl) rfl rfl hl.1 rfl (lv_room (Nat.le_of_ble_eq_true rfl)) dX1_lineToDeliver_21 ⟨Nat.zero_le _, Nat.zero_le _⟩) rfl ?_
    refine lv_istore_n (lv' := [(1, .int (lpHi u ((lpReq u) &&& ((u 4) ^^^ (-1))))), (0, .ref h)]) hx hb dX1_lineToDeliver_24 rfl hl (by decide) rfl (fun ls hl => ?_)
    refine lv_iload_n hx hb dX1_lineToDeliver_25 rfl (lv_at hl 0 rfl) ?_
    refine lv_iconst (v := -1) hx hb dX1_lineToDeliver_26 (by decide) ?_
    refine lv_icmp_ne (tgt := 32) hx hb dX1_lineToDeliver_27 (by decide) (fun h2 => ?_) (fun h2 => ?_)
    · refine lv_aload_n hx hb dX1_lineToDeliver_32 rfl (lv_at hl 1 rfl) ?_
      refine lv_aload_n hx hb dX1_lineToDeliver_33 rfl (lv_at hl 1 rfl) ?_
      refine lv_iload_n hx hb dX1_lineToDeliver_34 rfl (lv_at hl 0 rfl) ?_
      refine xr_call (st1 := [.int (lpBlk u (lpHi u ((lpReq u) &&& ((u 4) ^^^ (-1))))), .ref h]) (W.runV (As := [.int (lpHi u ((lpReq u) &&& ((u 4) ^^^ (-1))))]) (rest := [.ref h]) ⟨hx, hb, hml, hown, hts⟩ (c_blockersOf l dC dI h u (lpHi u ((lpReq u) &&& ((u 4) ^^^ (-1))))) (cwV 1 hts (gd_V wa_c k_ml_X1_50 k_im_X1_blockersOf k_se_X1_blockersOf k_in_X1 k_co_X1_blockersOf) rfl rfl rfl (by decide +kernel) ⟨Nat.le_of_ble_eq_true rfl, Nat.le_of_ble_eq_true rfl⟩) (xr_preV (q0 := 0) (C := RX1) hK hP xz_Z.nil rfl rfl) rfl rfl hl.1 rfl (lv_room (Nat.le_of_ble_eq_true rfl)) dX1_lineToDeliver_35 ⟨Nat.zero_le _, Nat.zero_le _⟩) rfl ?_
      refine xr_call (st1 := [.int (lpHi u (lpBlk u (lpHi u ((lpReq u) &&& ((u 4) ^^^ (-1))))))]) (W.runV (As := [.int (lpBlk u (lpHi u ((lpReq u) &&& ((u 4) ^^^ (-1)))))]) (rest := []) ⟨hx, hb, hml, hown, hts⟩ (c_highestOf l dC dI h u (lpBlk u (lpHi u ((lpReq u) &&& ((u 4) ^^^ (-1)))))) (cwV 1 hts (gd_V wa_c k_ml_X1_46 k_im_X1_highestOf k_se_X1_highestOf k_in_X1 k_co_X1_highestOf) rfl rfl rfl (by decide +kernel) ⟨Nat.le_of_ble_eq_true rfl, Nat.le_of_ble_eq_true rfl⟩) (xr_preV (q0 := 0) (C := RX1) hK hP xz_Z.nil rfl rfl) rfl rfl hl.1 rfl (lv_room (Nat.le_of_ble_eq_true rfl)) dX1_lineToDeliver_38 ⟨Nat.zero_le _, Nat.zero_le _⟩) rfl ?_
      refine lv_istore_n (lv' := [(2, .int (lpHi u (lpBlk u (lpHi u ((lpReq u) &&& ((u 4) ^^^ (-1))))))), (1, .int (lpHi u ((lpReq u) &&& ((u 4) ^^^ (-1))))), (0, .ref h)]) hx hb dX1_lineToDeliver_41 rfl hl (by decide) rfl (fun ls hl => ?_)
      refine lv_iload_n hx hb dX1_lineToDeliver_42 rfl (lv_at hl 0 rfl) ?_
      refine lv_iconst (v := -1) hx hb dX1_lineToDeliver_43 (by decide) ?_
      refine lv_icmp_eq (tgt := 60) hx hb dX1_lineToDeliver_44 (by decide) (fun h3 => ?_) (fun h3 => ?_)
      · refine lv_iload_n hx hb dX1_lineToDeliver_60 rfl (lv_at hl 1 rfl) ?_
        refine lv_goto (tgt := 65) hx hb dX1_lineToDeliver_61 (by decide) ?_
        exact xr_iret hx hb hr hlocks dX1_lineToDeliver_65 (by first | (simp only [lpDel, lpCand, if_neg h1, if_pos h1, if_neg h2, if_pos h2, if_pos h3, if_neg (not_not_intro h3)]; done) | rfl | (simp only [lpDel, lpCand]; simp only [if_neg h1, if_pos h1, if_neg h2, if_pos h2, if_pos h3, if_neg (not_not_intro h3)]; done) | (simp_all [lpDel, lpCand]; done))
      · refine lv_aload_n hx hb dX1_lineToDeliver_47 rfl (lv_at hl 2 rfl) ?_
        refine lv_iload_n hx hb dX1_lineToDeliver_48 rfl (lv_at hl 1 rfl) ?_
        refine xr_call (st1 := [.int (lpRank u (lpHi u ((lpReq u) &&& ((u 4) ^^^ (-1)))))]) (W.runV (As := [.int (lpHi u ((lpReq u) &&& ((u 4) ^^^ (-1))))]) (rest := []) ⟨hx, hb, hml, hown, hts⟩ (c_rankOf l dC dI h u (lpHi u ((lpReq u) &&& ((u 4) ^^^ (-1))))) (cwV 1 hts (gd_V wa_c k_ml_X1_53 k_im_X1_rankOf k_se_X1_rankOf k_in_X1 k_co_X1_rankOf) rfl rfl rfl (by decide +kernel) ⟨Nat.le_of_ble_eq_true rfl, Nat.le_of_ble_eq_true rfl⟩) (xr_preV (q0 := 0) (C := RX1) hK hP xz_Z.nil rfl rfl) rfl rfl hl.1 rfl (lv_room (Nat.le_of_ble_eq_true rfl)) dX1_lineToDeliver_49 ⟨Nat.zero_le _, Nat.zero_le _⟩) rfl ?_
        refine lv_aload_n hx hb dX1_lineToDeliver_52 rfl (lv_at hl 2 rfl) ?_
        refine lv_iload_n hx hb dX1_lineToDeliver_53 rfl (lv_at hl 0 rfl) ?_
        refine xr_call (st1 := [.int (lpRank u (lpHi u (lpBlk u (lpHi u ((lpReq u) &&& ((u 4) ^^^ (-1))))))), .int (lpRank u (lpHi u ((lpReq u) &&& ((u 4) ^^^ (-1)))))]) (W.runV (As := [.int (lpHi u (lpBlk u (lpHi u ((lpReq u) &&& ((u 4) ^^^ (-1))))))]) (rest := [.int (lpRank u (lpHi u ((lpReq u) &&& ((u 4) ^^^ (-1)))))]) ⟨hx, hb, hml, hown, hts⟩ (c_rankOf l dC dI h u (lpHi u (lpBlk u (lpHi u ((lpReq u) &&& ((u 4) ^^^ (-1))))))) (cwV 1 hts (gd_V wa_c k_ml_X1_53 k_im_X1_rankOf k_se_X1_rankOf k_in_X1 k_co_X1_rankOf) rfl rfl rfl (by decide +kernel) ⟨Nat.le_of_ble_eq_true rfl, Nat.le_of_ble_eq_true rfl⟩) (xr_preV (q0 := 0) (C := RX1) hK hP xz_Z.nil rfl rfl) rfl rfl hl.1 rfl (lv_room (Nat.le_of_ble_eq_true rfl)) dX1_lineToDeliver_54 ⟨Nat.zero_le _, Nat.zero_le _⟩) rfl ?_
        refine lv_icmp_ge (tgt := 64) hx hb dX1_lineToDeliver_57 (by decide) (fun h4 => ?_) (fun h4 => ?_)
        · refine lv_iconst (v := -1) hx hb dX1_lineToDeliver_64 (by decide) ?_
          exact xr_iret hx hb hr hlocks dX1_lineToDeliver_65 (by first | (simp only [lpDel, lpCand, if_neg h1, if_pos h1, if_neg h2, if_pos h2, if_neg h3, if_pos h3, if_pos h4, if_neg (not_not_intro h4)]; done) | rfl | (simp only [lpDel, lpCand]; simp only [if_neg h1, if_pos h1, if_neg h2, if_pos h2, if_neg h3, if_pos h3, if_pos h4, if_neg (not_not_intro h4)]; done) | (simp_all [lpDel, lpCand]; done))
        · refine lv_iload_n hx hb dX1_lineToDeliver_60 rfl (lv_at hl 1 rfl) ?_
          refine lv_goto (tgt := 65) hx hb dX1_lineToDeliver_61 (by decide) ?_
          exact xr_iret hx hb hr hlocks dX1_lineToDeliver_65 (by first | (simp only [lpDel, lpCand, if_neg h1, if_pos h1, if_neg h2, if_pos h2, if_neg h3, if_pos h3, if_neg h4, if_pos h4]; done) | rfl | (simp only [lpDel, lpCand]; simp only [if_neg h1, if_pos h1, if_neg h2, if_pos h2, if_neg h3, if_pos h3, if_neg h4, if_pos h4]; done) | (simp_all [lpDel, lpCand]; done))
    · refine lv_iconst (v := -1) hx hb dX1_lineToDeliver_30 (by decide) ?_
      exact xr_iret hx hb hr hlocks dX1_lineToDeliver_31 (by first | (simp only [lpDel, lpCand, if_neg h1, if_pos h1, if_pos h2, if_neg (not_not_intro h2)]; done) | rfl | (simp only [lpDel, lpCand]; simp only [if_neg h1, if_pos h1, if_pos h2, if_neg (not_not_intro h2)]; done) | (simp_all [lpDel, lpCand]; done))
  · refine lv_iconst (v := -1) hx hb dX1_lineToDeliver_7 (by decide) ?_
    exact xr_iret hx hb hr hlocks dX1_lineToDeliver_8 (by first | (simp only [lpDel, lpCand, if_pos h1, if_neg (not_not_intro h1)]; done) | rfl | (simp only [lpDel, lpCand]; simp only [if_pos h1, if_neg (not_not_intro h1)]; done) | (simp_all [lpDel, lpCand]; done))

set_option maxHeartbeats 4000000 in
set_option maxRecDepth 100000 in
theorem c_numberOf (l : Launch) (dC : Nat → ClassId) (dI : Nat → Nat → Nat) (h : Nat) (u : Nat → Int32) (k : Int32) : xr_M l yX1_numberOf wsX1_numberOf ({ frames := 0, cells := 0, slots := 0, locals := 0 }) [.ref h, .int k] (dC, dI) vwCl [] [] (cw1 h u) (some (.int (lpNum u k))) := by
  refine Met.ofW (cc := cX1_numberOf) (maxL := 2) (ret := (some .int)) (by decide) rfl ?_
  intro p e s m args below meth c s₁ B hml hv
  obtain ⟨rfl, hP, hK, hZ⟩ := hv
  have hx := B.exec
  have hb := B.bytes
  have hr := B.returns
  have hts := atoms_spec (ws := wsX1_numberOf) B.pre
  have hown : s.vm.findClass RX1 = some m.cls := findClass_of_methodNamed B.named
  have hlocks := B.notSynchronized
  have hin_RX1 : ∀ w ∈ u_ws RX1 TX1 19, w ∈ wsX1_numberOf := fun w h => List.mem_cons_of_mem _ (u_X1 w h)
  have hlk_80 := hts _ (List.mem_cons_of_mem _ k_fl_X1_80)
  have hl := lv_entry ([.ref h, .int k]) (n := 2) (Nat.le_of_ble_eq_true rfl)
  rw [lg_entry_eq]
  generalize (lg_sl ([.ref h, .int k]) ++ List.replicate (2 - (lg_sl ([.ref h, .int k])).length) Slot.unset).toArray = ls at hl ⊢
  have hl : lv_has ls 2 [(0, .ref h), (1, .int k)] := hl
  refine lv_aload_n hx hb dX1_numberOf_0 rfl (lv_at hl 0 rfl) ?_
  refine va_get (D := (dC, dI)) (ci := 1) (v := .int (u 6)) (C := RX1) (T := TX1) (N := 19) hx hb hts hin_RX1 hown hK hP 0 rfl rfl 6 (by decide) hlk_80 (fun _ h9 => h9) rfl dX1_numberOf_1 ?_
  refine lv_iload_n hx hb dX1_numberOf_4 rfl (lv_at hl 1 rfl) ?_
  refine lv_iconst (v := -1) hx hb dX1_numberOf_5 (by decide) ?_
  refine lv_icmp_ne (tgt := 14) hx hb dX1_numberOf_6 (by decide) (fun h1 => ?_) (fun h1 => ?_)
  · refine lv_iload_n hx hb dX1_numberOf_14 rfl (lv_at hl 1 rfl) ?_
    refine lv_iadd hx hb dX1_numberOf_15 ?_
    exact xr_iret hx hb hr hlocks dX1_numberOf_16 (by first | (simp only [lpNum, if_neg h1, if_pos h1]; done) | rfl | (simp only [lpNum]; simp only [if_neg h1, if_pos h1]; done) | (simp_all [lpNum]; done))
  · refine lv_bipush (v := 7) hx hb dX1_numberOf_9 (by decide) ?_
    refine lv_goto (tgt := 15) hx hb dX1_numberOf_11 (by decide) ?_
    refine lv_iadd hx hb dX1_numberOf_15 ?_
    exact xr_iret hx hb hr hlocks dX1_numberOf_16 (by first | (simp only [lpNum, if_pos h1, if_neg (not_not_intro h1)]; done) | rfl | (simp only [lpNum]; simp only [if_pos h1, if_neg (not_not_intro h1)]; done) | (simp_all [lpNum]; done))

set_option maxHeartbeats 4000000 in
set_option maxRecDepth 100000 in
theorem c_moveLine (l : Launch) (dC : Nat → ClassId) (dI : Nat → Nat → Nat) (h : Nat) (sz : Nat) (u : Nat → Int32) (k t : Int32) : xc_M l yX1_moveLine wsX1_moveLine ({ frames := 1, cells := 0, slots := 0, locals := 21 }) [.ref h, .int k, .int t] sz (dC, dI) vwCl [] [] (cw1 h u) (some (.int (lpMoveR u k t))) (cw1 h (lpMove u k t)) 0 0 := by
  refine Met.ofW (cc := cX1_moveLine) (maxL := 3) (ret := (some .boolean)) (by decide) rfl ?_
  intro p e s m args below meth c s₁ B hml hv
  obtain ⟨rfl, hsz, hP, hK, hD0, hZ⟩ := hv
  have hx := B.exec
  have hb := B.bytes
  have hr := B.returns
  have hts := atoms_spec (ws := wsX1_moveLine) B.pre
  have hown : s.vm.findClass RX1 = some m.cls := findClass_of_methodNamed B.named
  have hlocks := B.notSynchronized
  subst hsz
  have hD := hD0.self (sz := s.heap.size)
  generalize hAe : va_A (cw1 h u) s.heap.size = A at hD ⊢
  have hA : ∀ q : Nat, s.heap.size ≤ q → A q := fun q h => by rw [← hAe]; exact Or.inr h
  have hS : va_S A s.heap s.heap [] := va_S.rf
  have hin_RX1 : ∀ w ∈ u_ws RX1 TX1 19, w ∈ wsX1_moveLine := fun w h => List.mem_cons_of_mem _ (u_X1 w h)
  have hlk_18 := hts _ (List.mem_cons_of_mem _ k_fl_X1_18)
  have hlk_25 := hts _ (List.mem_cons_of_mem _ k_fl_X1_25)
  have hl := lv_entry ([.ref h, .int k, .int t]) (n := 3) (Nat.le_of_ble_eq_true rfl)
  rw [lg_entry_eq]
  generalize (lg_sl ([.ref h, .int k, .int t]) ++ List.replicate (3 - (lg_sl ([.ref h, .int k, .int t])).length) Slot.unset).toArray = ls at hl ⊢
  have hl : lv_has ls 3 [(0, .ref h), (1, .int k), (2, .int t)] := hl
  refine lv_aload_n hx hb dX1_moveLine_0 rfl (lv_at hl 0 rfl) ?_
  refine va_get (D := (dC, dI)) (ci := 1) (v := .int (u 1)) (C := RX1) (T := TX1) (N := 19) hx hb hts hin_RX1 hown hK hP 0 rfl rfl 1 (by decide) hlk_18 (fun _ h9 => h9) rfl dX1_moveLine_1 ?_
  refine lv_iload_n hx hb dX1_moveLine_4 rfl (lv_at hl 1 rfl) ?_
  refine xr_call (st1 := [.int (lpHas (u 1) k)]) (W.runS (As := [.int (u 1), .int k]) (rest := []) ⟨hx, hb, hml, hown, hts⟩ (c_hasBit l dC dI (u 1) k) (cwS 2 hts (gd_S wa_c k_ml_X1_21 k_st_X1_hasBit k_in_X1 k_co_X1_hasBit) rfl rfl rfl (by decide +kernel) ⟨Nat.le_of_ble_eq_true rfl, Nat.le_of_ble_eq_true rfl⟩) (xr_preS hK (hP.sub (ws' := []) [] rfl) xz_Z.nil) rfl rfl hl.1 rfl (lv_room (Nat.le_of_ble_eq_true rfl)) dX1_moveLine_5 ⟨Nat.zero_le _, Nat.zero_le _⟩) rfl ?_
  refine lv_iload_n hx hb dX1_moveLine_8 rfl (lv_at hl 2 rfl) ?_
  refine lv_icmp_ne (tgt := 14) hx hb dX1_moveLine_9 (by decide) (fun h1 => ?_) (fun h1 => ?_)
  · refine lv_aload_n hx hb dX1_moveLine_14 rfl (lv_at hl 0 rfl) ?_
    refine lv_dup hx hb dX1_moveLine_15 rfl ?_
    refine va_get (D := (dC, dI)) (ci := 1) (v := .int (u 1)) (C := RX1) (T := TX1) (N := 19) hx hb hts hin_RX1 hown hK hP 0 rfl rfl 1 (by decide) hlk_18 (fun _ h9 => h9) rfl dX1_moveLine_16 ?_
    refine lv_iconst (v := 1) hx hb dX1_moveLine_19 (by decide) ?_
    refine lv_iload_n hx hb dX1_moveLine_20 rfl (lv_at hl 1 rfl) ?_
    refine lv_ishl hx hb dX1_moveLine_21 ?_
    refine lv_ixor hx hb dX1_moveLine_22 ?_
    refine va_put (D := (dC, dI)) (ci := 1) (v := .int ((u 1) ^^^ ((1 : Int32) <<< (k &&& 31)))) (ty := .int) (C := RX1) (T := TX1) (N := 19) hx hb hts hin_RX1 tyX1 tyX1_ok nX1 hown hK hP hD hS 0 rfl rfl 1 (by decide) hlk_18 (fun _ h9 => h9) rfl (by decide +kernel) rfl rfl (Nat.le_of_ble_eq_true rfl) dX1_moveLine_23 (fun H locs hP hD hS => ?_)
    have hP : va_P (dC, dI) vwCl (cw1 h (upd u 1 ((u 1) ^^^ ((1 : Int32) <<< (k &&& 31))))) H := hP
    have hD : va_D A (cw1 h (upd u 1 ((u 1) ^^^ ((1 : Int32) <<< (k &&& 31))))) := hD
    refine lv_aload_n hx hb dX1_moveLine_26 rfl (lv_at hl 0 rfl) ?_
    refine lv_iload_n hx hb dX1_moveLine_27 rfl (lv_at hl 2 rfl) ?_
    refine lv_if_eq (tgt := 42) hx hb dX1_moveLine_28 (by decide) (fun h2 => ?_) (fun h2 => ?_)
    · refine lv_aload_n hx hb dX1_moveLine_42 rfl (lv_at hl 0 rfl) ?_
      refine va_get (D := (dC, dI)) (ci := 1) (v := .int (u 2)) (C := RX1) (T := TX1) (N := 19) hx hb hts hin_RX1 hown hK hP 0 rfl rfl 2 (by decide) hlk_25 (fun _ h9 => h9) rfl dX1_moveLine_43 ?_
      refine lv_iload_n hx hb dX1_moveLine_46 rfl (lv_at hl 1 rfl) ?_
      refine xr_call (st1 := [.int (lpWo (u 2) k), .ref h]) (W.runS (As := [.int (u 2), .int k]) (rest := [.ref h]) ⟨hx, hb, hml, hown, hts⟩ (c_without l dC dI (u 2) k) (cwS 2 hts (gd_S wa_c k_ml_X1_28 k_st_X1_without k_in_X1 k_co_X1_without) rfl rfl rfl (by decide +kernel) ⟨Nat.le_of_ble_eq_true rfl, Nat.le_of_ble_eq_true rfl⟩) (xr_preS hK (hP.sub (ws' := []) [] rfl) xz_Z.nil) rfl rfl hl.1 rfl (lv_room (Nat.le_of_ble_eq_true rfl)) dX1_moveLine_47 ⟨Nat.zero_le _, Nat.zero_le _⟩) rfl ?_
      refine va_put (D := (dC, dI)) (ci := 1) (v := .int (lpWo (u 2) k)) (ty := .int) (C := RX1) (T := TX1) (N := 19) hx hb hts hin_RX1 tyX1 tyX1_ok nX1 hown hK hP hD hS 0 rfl rfl 2 (by decide) hlk_25 (fun _ h9 => h9) rfl (by decide +kernel) rfl rfl (Nat.le_of_ble_eq_true rfl) dX1_moveLine_50 (fun H locs hP hD hS => ?_)
      have hP : va_P (dC, dI) vwCl (cw1 h (upd (upd u 1 ((u 1) ^^^ ((1 : Int32) <<< (k &&& 31)))) 2 (lpWo (u 2) k))) H := hP
      have hD : va_D A (cw1 h (upd (upd u 1 ((u 1) ^^^ ((1 : Int32) <<< (k &&& 31)))) 2 (lpWo (u 2) k))) := hD
      refine lv_iconst (v := 1) hx hb dX1_moveLine_53 (by decide) ?_
      exact xc_zret (wf := cw1 h) hx hb hr hlocks dX1_moveLine_54 hK hP hD hS rfl (by first | (simp only [lpMoveR, lpMove, if_neg h1, if_pos h1, if_pos h2, if_neg (not_not_intro h2)]; done) | rfl | (simp only [lpMoveR, lpMove]; simp only [if_neg h1, if_pos h1, if_pos h2, if_neg (not_not_intro h2)]; done) | (simp_all [lpMoveR, lpMove]; done)) (by first | (simp only [lpMoveR, lpMove, if_neg h1, if_pos h1, if_pos h2, if_neg (not_not_intro h2)]; done) | rfl | (simp only [lpMoveR, lpMove]; simp only [if_neg h1, if_pos h1, if_pos h2, if_neg (not_not_intro h2)]; done) | (simp_all [lpMoveR, lpMove]; done))
    · refine lv_aload_n hx hb dX1_moveLine_31 rfl (lv_at hl 0 rfl) ?_
      refine va_get (D := (dC, dI)) (ci := 1) (v := .int (u 2)) (C := RX1) (T := TX1) (N := 19) hx hb hts hin_RX1 hown hK hP 0 rfl rfl 2 (by decide) hlk_25 (fun _ h9 => h9) rfl dX1_moveLine_32 ?_
      refine lv_iconst (v := 1) hx hb dX1_moveLine_35 (by decide) ?_
      refine lv_iload_n hx hb dX1_moveLine_36 rfl (lv_at hl 1 rfl) ?_
      refine lv_ishl hx hb dX1_moveLine_37 ?_
      refine lv_ior hx hb dX1_moveLine_38 ?_
      refine lv_goto (tgt := 50) hx hb dX1_moveLine_39 (by decide) ?_
      refine va_put (D := (dC, dI)) (ci := 1) (v := .int ((u 2) ||| ((1 : Int32) <<< (k &&& 31)))) (ty := .int) (C := RX1) (T := TX1) (N := 19) hx hb hts hin_RX1 tyX1 tyX1_ok nX1 hown hK hP hD hS 0 rfl rfl 2 (by decide) hlk_25 (fun _ h9 => h9) rfl (by decide +kernel) rfl rfl (Nat.le_of_ble_eq_true rfl) dX1_moveLine_50 (fun H locs hP hD hS => ?_)
      have hP : va_P (dC, dI) vwCl (cw1 h (upd (upd u 1 ((u 1) ^^^ ((1 : Int32) <<< (k &&& 31)))) 2 ((u 2) ||| ((1 : Int32) <<< (k &&& 31))))) H := hP
      have hD : va_D A (cw1 h (upd (upd u 1 ((u 1) ^^^ ((1 : Int32) <<< (k &&& 31)))) 2 ((u 2) ||| ((1 : Int32) <<< (k &&& 31))))) := hD
      refine lv_iconst (v := 1) hx hb dX1_moveLine_53 (by decide) ?_
      exact xc_zret (wf := cw1 h) hx hb hr hlocks dX1_moveLine_54 hK hP hD hS rfl (by first | (simp only [lpMoveR, lpMove, if_neg h1, if_pos h1, if_neg h2, if_pos h2]; done) | rfl | (simp only [lpMoveR, lpMove]; simp only [if_neg h1, if_pos h1, if_neg h2, if_pos h2]; done) | (simp_all [lpMoveR, lpMove]; done)) (by first | (simp only [lpMoveR, lpMove, if_neg h1, if_pos h1, if_neg h2, if_pos h2]; done) | rfl | (simp only [lpMoveR, lpMove]; simp only [if_neg h1, if_pos h1, if_neg h2, if_pos h2]; done) | (simp_all [lpMoveR, lpMove]; done))
  · refine lv_iconst (v := 0) hx hb dX1_moveLine_12 (by decide) ?_
    exact xc_zret (wf := cw1 h) hx hb hr hlocks dX1_moveLine_13 hK hP hD hS rfl (by first | (simp only [lpMoveR, lpMove, if_pos h1, if_neg (not_not_intro h1)]; done) | rfl | (simp only [lpMoveR, lpMove]; simp only [if_pos h1, if_neg (not_not_intro h1)]; done) | (simp_all [lpMoveR, lpMove]; done)) (by first | (simp only [lpMoveR, lpMove, if_pos h1, if_neg (not_not_intro h1)]; done) | rfl | (simp only [lpMoveR, lpMove]; simp only [if_pos h1, if_neg (not_not_intro h1)]; done) | (simp_all [lpMoveR, lpMove]; done))

set_option maxHeartbeats 4000000 in
set_option maxRecDepth 100000 in
theorem c_takeDelivered (l : Launch) (dC : Nat → ClassId) (dI : Nat → Nat → Nat) (h : Nat) (sz : Nat) (u : Nat → Int32) : xc_M l yX1_takeDelivered wsX1_takeDelivered ({ frames := 3, cells := 0, slots := 0, locals := 66 }) [.ref h] sz (dC, dI) vwCl [] [] (cw1 h u) (some (.int (lpDel u))) (cw1 h (lpTake u)) 0 0 := by
  refine Met.ofW (cc := cX1_takeDelivered) (maxL := 2) (ret := (some .int)) (by decide) rfl ?_
  intro p e s m args below meth c s₁ B hml hv
  obtain ⟨rfl, hsz, hP, hK, hD0, hZ⟩ := hv
  have hx := B.exec
  have hb := B.bytes
  have hr := B.returns
  have hts := atoms_spec (ws := wsX1_takeDelivered) B.pre
  have hown : s.vm.findClass RX1 = some m.cls := findClass_of_methodNamed B.named
  have hlocks := B.notSynchronized
  subst hsz
  have hD := hD0.self (sz := s.heap.size)
  generalize hAe : va_A (cw1 h u) s.heap.size = A at hD ⊢
  have hA : ∀ q : Nat, s.heap.size ≤ q → A q := fun q h => by rw [← hAe]; exact Or.inr h
  have hS : va_S A s.heap s.heap [] := va_S.rf
  have hin_RX1 : ∀ w ∈ u_ws RX1 TX1 19, w ∈ wsX1_takeDelivered := fun w h => List.mem_cons_of_mem _ (u_X1 w h)
  have hlk_15 := hts _ (List.mem_cons_of_mem _ k_fl_X1_15)
  have hlk_25 := hts _ (List.mem_cons_of_mem _ k_fl_X1_25)
  have hlk_65 := hts _ (List.mem_cons_of_mem _ k_fl_X1_65)
  have hlk_71 := hts _ (List.mem_cons_of_mem _ k_fl_X1_71)
  have hlk_74 := hts _ (List.mem_cons_of_mem _ k_fl_X1_74)
  have hlk_77 := hts _ (List.mem_cons_of_mem _ k_fl_X1_77)
  have hl := lv_entry ([.ref h]) (n := 2) (Nat.le_of_ble_eq_true rfl)
  rw [lg_entry_eq]
  generalize (lg_sl ([.ref h]) ++ List.replicate (2 - (lg_sl ([.ref h])).length) Slot.unset).toArray = ls at hl ⊢
  have hl : lv_has ls 2 [(0, .ref h)] := hl
  refine lv_aload_n hx hb dX1_takeDelivered_0 rfl (lv_at hl 0 rfl) ?_
  refine xr_call (st1 := [.int (lpDel u)]) (W.runV (As := []) (rest := []) ⟨hx, hb, hml, hown, hts⟩ (c_lineToDeliver l dC dI h u) (cwV 0 hts (gd_V wa_c k_ml_X1_68 k_im_X1_lineToDeliver k_se_X1_lineToDeliver k_in_X1 k_co_X1_lineToDeliver) rfl rfl rfl (by decide +kernel) ⟨Nat.le_of_ble_eq_true rfl, Nat.le_of_ble_eq_true rfl⟩) (xr_preV (q0 := 0) (C := RX1) hK hP xz_Z.nil rfl rfl) rfl rfl hl.1 rfl (lv_room (Nat.le_of_ble_eq_true rfl)) dX1_takeDelivered_1 ⟨Nat.zero_le _, Nat.zero_le _⟩) rfl ?_
  refine lv_istore_n (lv' := [(1, .int (lpDel u)), (0, .ref h)]) hx hb dX1_takeDelivered_4 rfl hl (by decide) rfl (fun ls hl => ?_)
  refine lv_iload_n hx hb dX1_takeDelivered_5 rfl (lv_at hl 0 rfl) ?_
  refine lv_iconst (v := -1) hx hb dX1_takeDelivered_6 (by decide) ?_
  refine lv_icmp_ne (tgt := 12) hx hb dX1_takeDelivered_7 (by decide) (fun h1 => ?_) (fun h1 => ?_)
  · refine lv_aload_n hx hb dX1_takeDelivered_12 rfl (lv_at hl 1 rfl) ?_
    refine lv_aload_n hx hb dX1_takeDelivered_13 rfl (lv_at hl 1 rfl) ?_
    refine va_get (D := (dC, dI)) (ci := 1) (v := .int (u 2)) (C := RX1) (T := TX1) (N := 19) hx hb hts hin_RX1 hown hK hP 0 rfl rfl 2 (by decide) hlk_25 (fun _ h9 => h9) rfl dX1_takeDelivered_14 ?_
    refine lv_iload_n hx hb dX1_takeDelivered_17 rfl (lv_at hl 0 rfl) ?_
    refine xr_call (st1 := [.int (lpWo (u 2) (lpDel u)), .ref h]) (W.runS (As := [.int (u 2), .int (lpDel u)]) (rest := [.ref h]) ⟨hx, hb, hml, hown, hts⟩ (c_without l dC dI (u 2) (lpDel u)) (cwS 2 hts (gd_S wa_c k_ml_X1_28 k_st_X1_without k_in_X1 k_co_X1_without) rfl rfl rfl (by decide +kernel) ⟨Nat.le_of_ble_eq_true rfl, Nat.le_of_ble_eq_true rfl⟩) (xr_preS hK (hP.sub (ws' := []) [] rfl) xz_Z.nil) rfl rfl hl.1 rfl (lv_room (Nat.le_of_ble_eq_true rfl)) dX1_takeDelivered_18 ⟨Nat.zero_le _, Nat.zero_le _⟩) rfl ?_
    refine va_put (D := (dC, dI)) (ci := 1) (v := .int (lpWo (u 2) (lpDel u))) (ty := .int) (C := RX1) (T := TX1) (N := 19) hx hb hts hin_RX1 tyX1 tyX1_ok nX1 hown hK hP hD hS 0 rfl rfl 2 (by decide) hlk_25 (fun _ h9 => h9) rfl (by decide +kernel) rfl rfl (Nat.le_of_ble_eq_true rfl) dX1_takeDelivered_21 (fun H locs hP hD hS => ?_)
    have hP : va_P (dC, dI) vwCl (cw1 h (upd u 2 (lpWo (u 2) (lpDel u)))) H := hP
    have hD : va_D A (cw1 h (upd u 2 (lpWo (u 2) (lpDel u)))) := hD
    refine lv_aload_n hx hb dX1_takeDelivered_24 rfl (lv_at hl 1 rfl) ?_
    refine va_get (D := (dC, dI)) (ci := 1) (v := .int (u 14)) (C := RX1) (T := TX1) (N := 19) hx hb hts hin_RX1 hown hK hP 0 rfl rfl 14 (by decide) hlk_71 (fun _ h9 => h9) rfl dX1_takeDelivered_25 ?_
    refine lv_if_ne (tgt := 46) hx hb dX1_takeDelivered_28 (by decide) (fun h2 => ?_) (fun h2 => ?_)
    · refine lv_aload_n hx hb dX1_takeDelivered_46 rfl (lv_at hl 1 rfl) ?_
      refine va_get (D := (dC, dI)) (ci := 1) (v := .int (u 15)) (C := RX1) (T := TX1) (N := 19) hx hb hts hin_RX1 hown hK hP 0 rfl rfl 15 (by decide) hlk_74 (fun _ h9 => h9) rfl dX1_takeDelivered_47 ?_
      refine lv_if_eq (tgt := 58) hx hb dX1_takeDelivered_50 (by decide) (fun h3 => ?_) (fun h3 => ?_)
      · refine lv_aload_n hx hb dX1_takeDelivered_58 rfl (lv_at hl 1 rfl) ?_
        refine lv_dup hx hb dX1_takeDelivered_59 rfl ?_
        refine va_get (D := (dC, dI)) (ci := 1) (v := .int (u 17)) (C := RX1) (T := TX1) (N := 19) hx hb hts hin_RX1 hown hK hP 0 rfl rfl 17 (by decide) hlk_77 (fun _ h9 => h9) rfl dX1_takeDelivered_60 ?_
        refine lv_iconst (v := 1) hx hb dX1_takeDelivered_63 (by decide) ?_
        refine lv_iadd hx hb dX1_takeDelivered_64 ?_
        refine va_put (D := (dC, dI)) (ci := 1) (v := .int ((u 17) + 1)) (ty := .int) (C := RX1) (T := TX1) (N := 19) hx hb hts hin_RX1 tyX1 tyX1_ok nX1 hown hK hP hD hS 0 rfl rfl 17 (by decide) hlk_77 (fun _ h9 => h9) rfl (by decide +kernel) rfl rfl (Nat.le_of_ble_eq_true rfl) dX1_takeDelivered_65 (fun H locs hP hD hS => ?_)
        have hP : va_P (dC, dI) vwCl (cw1 h (upd (upd u 2 (lpWo (u 2) (lpDel u))) 17 ((u 17) + 1))) H := hP
        have hD : va_D A (cw1 h (upd (upd u 2 (lpWo (u 2) (lpDel u))) 17 ((u 17) + 1))) := hD
        refine lv_iload_n hx hb dX1_takeDelivered_68 rfl (lv_at hl 0 rfl) ?_
        exact xc_iret (wf := cw1 h) hx hb hr hlocks dX1_takeDelivered_69 hK hP hD hS (by first | (simp only [lpTake, if_neg h1, if_pos h1, if_neg h2, if_pos h2, if_pos h3, if_neg (not_not_intro h3)]; done) | rfl | (simp only [lpTake]; simp only [if_neg h1, if_pos h1, if_neg h2, if_pos h2, if_pos h3, if_neg (not_not_intro h3)]; done) | (simp_all [lpTake]; done)) (by first | (simp only [lpTake, if_neg h1, if_pos h1, if_neg h2, if_pos h2, if_pos h3, if_neg (not_not_intro h3)]; done) | rfl | (simp only [lpTake]; simp only [if_neg h1, if_pos h1, if_neg h2, if_pos h2, if_pos h3, if_neg (not_not_intro h3)]; done) | (simp_all [lpTake]; done))
      · refine lv_aload_n hx hb dX1_takeDelivered_53 rfl (lv_at hl 1 rfl) ?_
        refine lv_iload_n hx hb dX1_takeDelivered_54 rfl (lv_at hl 0 rfl) ?_
        refine va_put (D := (dC, dI)) (ci := 1) (v := .int (lpDel u)) (ty := .int) (C := RX1) (T := TX1) (N := 19) hx hb hts hin_RX1 tyX1 tyX1_ok nX1 hown hK hP hD hS 0 rfl rfl 5 (by decide) hlk_15 (fun _ h9 => h9) rfl (by decide +kernel) rfl rfl (Nat.le_of_ble_eq_true rfl) dX1_takeDelivered_55 (fun H locs hP hD hS => ?_)
        have hP : va_P (dC, dI) vwCl (cw1 h (upd (upd u 2 (lpWo (u 2) (lpDel u))) 5 (lpDel u))) H := hP
        have hD : va_D A (cw1 h (upd (upd u 2 (lpWo (u 2) (lpDel u))) 5 (lpDel u))) := hD
        refine lv_aload_n hx hb dX1_takeDelivered_58 rfl (lv_at hl 1 rfl) ?_
        refine lv_dup hx hb dX1_takeDelivered_59 rfl ?_
        refine va_get (D := (dC, dI)) (ci := 1) (v := .int (u 17)) (C := RX1) (T := TX1) (N := 19) hx hb hts hin_RX1 hown hK hP 0 rfl rfl 17 (by decide) hlk_77 (fun _ h9 => h9) rfl dX1_takeDelivered_60 ?_
        refine lv_iconst (v := 1) hx hb dX1_takeDelivered_63 (by decide) ?_
        refine lv_iadd hx hb dX1_takeDelivered_64 ?_
        refine va_put (D := (dC, dI)) (ci := 1) (v := .int ((u 17) + 1)) (ty := .int) (C := RX1) (T := TX1) (N := 19) hx hb hts hin_RX1 tyX1 tyX1_ok nX1 hown hK hP hD hS 0 rfl rfl 17 (by decide) hlk_77 (fun _ h9 => h9) rfl (by decide +kernel) rfl rfl (Nat.le_of_ble_eq_true rfl) dX1_takeDelivered_65 (fun H locs hP hD hS => ?_)
        have hP : va_P (dC, dI) vwCl (cw1 h (upd (upd (upd u 2 (lpWo (u 2) (lpDel u))) 5 (lpDel u)) 17 ((u 17) + 1))) H := hP
        have hD : va_D A (cw1 h (upd (upd (upd u 2 (lpWo (u 2) (lpDel u))) 5 (lpDel u)) 17 ((u 17) + 1))) := hD
        refine lv_iload_n hx hb dX1_takeDelivered_68 rfl (lv_at hl 0 rfl) ?_
        exact xc_iret (wf := cw1 h) hx hb hr hlocks dX1_takeDelivered_69 hK hP hD hS (by first | (simp only [lpTake, if_neg h1, if_pos h1, if_neg h2, if_pos h2, if_neg h3, if_pos h3]; done) | rfl | (simp only [lpTake]; simp only [if_neg h1, if_pos h1, if_neg h2, if_pos h2, if_neg h3, if_pos h3]; done) | (simp_all [lpTake]; done)) (by first | (simp only [lpTake, if_neg h1, if_pos h1, if_neg h2, if_pos h2, if_neg h3, if_pos h3]; done) | rfl | (simp only [lpTake]; simp only [if_neg h1, if_pos h1, if_neg h2, if_pos h2, if_neg h3, if_pos h3]; done) | (simp_all [lpTake]; done))
    · refine lv_aload_n hx hb dX1_takeDelivered_31 rfl (lv_at hl 1 rfl) ?_
      refine lv_dup hx hb dX1_takeDelivered_32 rfl ?_
      refine va_get (D := (dC, dI)) (ci := 1) (v := .int (u 3)) (C := RX1) (T := TX1) (N := 19) hx hb hts hin_RX1 hown hK hP 0 rfl rfl 3 (by decide) hlk_65 (fun _ h9 => h9) rfl dX1_takeDelivered_33 ?_
      refine lv_iconst (v := 1) hx hb dX1_takeDelivered_36 (by decide) ?_
      refine lv_iload_n hx hb dX1_takeDelivered_37 rfl (lv_at hl 0 rfl) ?_
      refine lv_ishl hx hb dX1_takeDelivered_38 ?_
      refine lv_ior hx hb dX1_takeDelivered_39 ?_
      refine va_put (D := (dC, dI)) (ci := 1) (v := .int ((u 3) ||| ((1 : Int32) <<< ((lpDel u) &&& 31)))) (ty := .int) (C := RX1) (T := TX1) (N := 19) hx hb hts hin_RX1 tyX1 tyX1_ok nX1 hown hK hP hD hS 0 rfl rfl 3 (by decide) hlk_65 (fun _ h9 => h9) rfl (by decide +kernel) rfl rfl (Nat.le_of_ble_eq_true rfl) dX1_takeDelivered_40 (fun H locs hP hD hS => ?_)
      have hP : va_P (dC, dI) vwCl (cw1 h (upd (upd u 2 (lpWo (u 2) (lpDel u))) 3 ((u 3) ||| ((1 : Int32) <<< ((lpDel u) &&& 31))))) H := hP
      have hD : va_D A (cw1 h (upd (upd u 2 (lpWo (u 2) (lpDel u))) 3 ((u 3) ||| ((1 : Int32) <<< ((lpDel u) &&& 31))))) := hD
      refine lv_goto (tgt := 58) hx hb dX1_takeDelivered_43 (by decide) ?_
      refine lv_aload_n hx hb dX1_takeDelivered_58 rfl (lv_at hl 1 rfl) ?_
      refine lv_dup hx hb dX1_takeDelivered_59 rfl ?_
      refine va_get (D := (dC, dI)) (ci := 1) (v := .int (u 17)) (C := RX1) (T := TX1) (N := 19) hx hb hts hin_RX1 hown hK hP 0 rfl rfl 17 (by decide) hlk_77 (fun _ h9 => h9) rfl dX1_takeDelivered_60 ?_
      refine lv_iconst (v := 1) hx hb dX1_takeDelivered_63 (by decide) ?_
      refine lv_iadd hx hb dX1_takeDelivered_64 ?_
      refine va_put (D := (dC, dI)) (ci := 1) (v := .int ((u 17) + 1)) (ty := .int) (C := RX1) (T := TX1) (N := 19) hx hb hts hin_RX1 tyX1 tyX1_ok nX1 hown hK hP hD hS 0 rfl rfl 17 (by decide) hlk_77 (fun _ h9 => h9) rfl (by decide +kernel) rfl rfl (Nat.le_of_ble_eq_true rfl) dX1_takeDelivered_65 (fun H locs hP hD hS => ?_)
      have hP : va_P (dC, dI) vwCl (cw1 h (upd (upd (upd u 2 (lpWo (u 2) (lpDel u))) 3 ((u 3) ||| ((1 : Int32) <<< ((lpDel u) &&& 31)))) 17 ((u 17) + 1))) H := hP
      have hD : va_D A (cw1 h (upd (upd (upd u 2 (lpWo (u 2) (lpDel u))) 3 ((u 3) ||| ((1 : Int32) <<< ((lpDel u) &&& 31)))) 17 ((u 17) + 1))) := hD
      refine lv_iload_n hx hb dX1_takeDelivered_68 rfl (lv_at hl 0 rfl) ?_
      exact xc_iret (wf := cw1 h) hx hb hr hlocks dX1_takeDelivered_69 hK hP hD hS (by first | (simp only [lpTake, if_neg h1, if_pos h1, if_pos h2, if_neg (not_not_intro h2)]; done) | rfl | (simp only [lpTake]; simp only [if_neg h1, if_pos h1, if_pos h2, if_neg (not_not_intro h2)]; done) | (simp_all [lpTake]; done)) (by first | (simp only [lpTake, if_neg h1, if_pos h1, if_pos h2, if_neg (not_not_intro h2)]; done) | rfl | (simp only [lpTake]; simp only [if_neg h1, if_pos h1, if_pos h2, if_neg (not_not_intro h2)]; done) | (simp_all [lpTake]; done))
  · refine lv_iconst (v := -1) hx hb dX1_takeDelivered_10 (by decide) ?_
    exact xc_iret (wf := cw1 h) hx hb hr hlocks dX1_takeDelivered_11 hK hP hD hS (by first | (simp only [lpTake, if_pos h1, if_neg (not_not_intro h1)]; done) | rfl | (simp only [lpTake]; simp only [if_pos h1, if_neg (not_not_intro h1)]; done) | (simp_all [lpTake]; done)) (by first | (simp only [lpTake, if_pos h1, if_neg (not_not_intro h1)]; done) | rfl | (simp only [lpTake]; simp only [if_pos h1, if_neg (not_not_intro h1)]; done) | (simp_all [lpTake]; done))

set_option maxHeartbeats 4000000 in
set_option maxRecDepth 100000 in
theorem c_answerAtPort0 (l : Launch) (dC : Nat → ClassId) (dI : Nat → Nat → Nat) (h : Nat) (sz : Nat) (u : Nat → Int32) : xc_M l yX1_answerAtPort0 wsX1_answerAtPort0 ({ frames := 4, cells := 0, slots := 0, locals := 87 }) [.ref h] sz (dC, dI) vwCl [] [] (cw1 h u) (some (.int (lpAnsR u))) (cw1 h (lpAns u)) 0 0 := by
  refine Met.ofW (cc := cX1_answerAtPort0) (maxL := 2) (ret := (some .int)) (by decide) rfl ?_
  intro p e s m args below meth c s₁ B hml hv
  obtain ⟨rfl, hsz, hP, hK, hD0, hZ⟩ := hv
  have hx := B.exec
  have hb := B.bytes
  have hr := B.returns
  have hts := atoms_spec (ws := wsX1_answerAtPort0) B.pre
  have hown : s.vm.findClass RX1 = some m.cls := findClass_of_methodNamed B.named
  have hlocks := B.notSynchronized
  subst hsz
  have hD := hD0.self (sz := s.heap.size)
  generalize hAe : va_A (cw1 h u) s.heap.size = A at hD ⊢
  have hA : ∀ q : Nat, s.heap.size ≤ q → A q := fun q h => by rw [← hAe]; exact Or.inr h
  have hS : va_S A s.heap s.heap [] := va_S.rf
  have hin_RX1 : ∀ w ∈ u_ws RX1 TX1 19, w ∈ wsX1_answerAtPort0 := fun w h => List.mem_cons_of_mem _ (u_X1 w h)
  have hlk_65 := hts _ (List.mem_cons_of_mem _ k_fl_X1_65)
  have hlk_83 := hts _ (List.mem_cons_of_mem _ k_fl_X1_83)
  have hlk_89 := hts _ (List.mem_cons_of_mem _ k_fl_X1_89)
  have hl := lv_entry ([.ref h]) (n := 2) (Nat.le_of_ble_eq_true rfl)
  rw [lg_entry_eq]
  generalize (lg_sl ([.ref h]) ++ List.replicate (2 - (lg_sl ([.ref h])).length) Slot.unset).toArray = ls at hl ⊢
  have hl : lv_has ls 2 [(0, .ref h)] := hl
  refine lv_aload_n hx hb dX1_answerAtPort0_0 rfl (lv_at hl 0 rfl) ?_
  refine va_get (D := (dC, dI)) (ci := 1) (v := .int (u 16)) (C := RX1) (T := TX1) (N := 19) hx hb hts hin_RX1 hown hK hP 0 rfl rfl 16 (by decide) hlk_83 (fun _ h9 => h9) rfl dX1_answerAtPort0_1 ?_
  refine lv_if_eq (tgt := 32) hx hb dX1_answerAtPort0_4 (by decide) (fun h1 => ?_) (fun h1 => ?_)
  · refine lv_aload_n hx hb dX1_answerAtPort0_32 rfl (lv_at hl 0 rfl) ?_
    refine va_get (D := (dC, dI)) (ci := 1) (v := .int (u 8)) (C := RX1) (T := TX1) (N := 19) hx hb hts hin_RX1 hown hK hP 0 rfl rfl 8 (by decide) hlk_89 (fun _ h9 => h9) rfl dX1_answerAtPort0_33 ?_
    refine lv_if_ne (tgt := 46) hx hb dX1_answerAtPort0_36 (by decide) (fun h2 => ?_) (fun h2 => ?_)
    · refine lv_aload_n hx hb dX1_answerAtPort0_46 rfl (lv_at hl 0 rfl) ?_
      refine va_get (D := (dC, dI)) (ci := 1) (v := .int (u 3)) (C := RX1) (T := TX1) (N := 19) hx hb hts hin_RX1 hown hK hP 0 rfl rfl 3 (by decide) hlk_65 (fun _ h9 => h9) rfl dX1_answerAtPort0_47 ?_
      exact xc_iret (wf := cw1 h) hx hb hr hlocks dX1_answerAtPort0_50 hK hP hD hS (by first | (simp only [lpAnsR, lpAns, if_pos h1, if_neg (not_not_intro h1), if_neg h2, if_pos h2]; done) | rfl | (simp only [lpAnsR, lpAns]; simp only [if_pos h1, if_neg (not_not_intro h1), if_neg h2, if_pos h2]; done) | (simp_all [lpAnsR, lpAns]; done)) (by first | (simp only [lpAnsR, lpAns, if_pos h1, if_neg (not_not_intro h1), if_neg h2, if_pos h2]; done) | rfl | (simp only [lpAnsR, lpAns]; simp only [if_pos h1, if_neg (not_not_intro h1), if_neg h2, if_pos h2]; done) | (simp_all [lpAnsR, lpAns]; done))
    · refine lv_aload_n hx hb dX1_answerAtPort0_39 rfl (lv_at hl 0 rfl) ?_
      refine xr_call (st1 := [.int (lpReq u)]) (W.runV (As := []) (rest := []) ⟨hx, hb, hml, hown, hts⟩ (c_requested l dC dI h u) (cwV 0 hts (gd_V wa_c k_ml_X1_39 k_im_X1_requested k_se_X1_requested k_in_X1 k_co_X1_requested) rfl rfl rfl (by decide +kernel) ⟨Nat.le_of_ble_eq_true rfl, Nat.le_of_ble_eq_true rfl⟩) (xr_preV (q0 := 0) (C := RX1) hK hP xz_Z.nil rfl rfl) rfl rfl hl.1 rfl (lv_room (Nat.le_of_ble_eq_true rfl)) dX1_answerAtPort0_40 ⟨Nat.zero_le _, Nat.zero_le _⟩) rfl ?_
      refine lv_goto (tgt := 50) hx hb dX1_answerAtPort0_43 (by decide) ?_
      exact xc_iret (wf := cw1 h) hx hb hr hlocks dX1_answerAtPort0_50 hK hP hD hS (by first | (simp only [lpAnsR, lpAns, if_pos h1, if_neg (not_not_intro h1), if_pos h2, if_neg (not_not_intro h2)]; done) | rfl | (simp only [lpAnsR, lpAns]; simp only [if_pos h1, if_neg (not_not_intro h1), if_pos h2, if_neg (not_not_intro h2)]; done) | (simp_all [lpAnsR, lpAns]; done)) (by first | (simp only [lpAnsR, lpAns, if_pos h1, if_neg (not_not_intro h1), if_pos h2, if_neg (not_not_intro h2)]; done) | rfl | (simp only [lpAnsR, lpAns]; simp only [if_pos h1, if_neg (not_not_intro h1), if_pos h2, if_neg (not_not_intro h2)]; done) | (simp_all [lpAnsR, lpAns]; done))
  · refine lv_aload_n hx hb dX1_answerAtPort0_7 rfl (lv_at hl 0 rfl) ?_
    refine lv_iconst (v := 0) hx hb dX1_answerAtPort0_8 (by decide) ?_
    refine va_put (D := (dC, dI)) (ci := 1) (v := .int 0) (ty := .boolean) (C := RX1) (T := TX1) (N := 19) hx hb hts hin_RX1 tyX1 tyX1_ok nX1 hown hK hP hD hS 0 rfl rfl 16 (by decide) hlk_83 (fun _ h9 => h9) rfl (by decide +kernel) rfl rfl (Nat.le_of_ble_eq_true rfl) dX1_answerAtPort0_9 (fun H locs hP hD hS => ?_)
    have hP : va_P (dC, dI) vwCl (cw1 h (upd u 16 0)) H := hP
    have hD : va_D A (cw1 h (upd u 16 0)) := hD
    refine lv_aload_n hx hb dX1_answerAtPort0_12 rfl (lv_at hl 0 rfl) ?_
    refine xc_call (wc := cw1 h (upd u 16 0)) (wr := []) (st1 := [.int (lpDel (upd u 16 0))]) (va_runV (As := []) (rest := []) ⟨hx, hb, hml, hown, hts⟩ (c_takeDelivered l dC dI h H.size (upd u 16 0)) (cwV 0 hts (gd_V wa_c k_ml_X1_86 k_im_X1_takeDelivered k_se_X1_takeDelivered k_in_X1 k_co_X1_takeDelivered) rfl rfl rfl (by decide +kernel) ⟨Nat.le_of_ble_eq_true rfl, Nat.le_of_ble_eq_true rfl⟩) (xc_preV (q0 := 0) (C := RX1) hK hP hD xz_Z.nil rfl rfl) rfl rfl hl.1 rfl (lv_room (Nat.le_of_ble_eq_true rfl)) dX1_answerAtPort0_13 ⟨Nat.zero_le _, Nat.zero_le _⟩) hP hD hS hA [0] [] rfl rfl (by decide) (by decide) rfl (fun H locs hP hD hS _ => ?_)
    have hP : va_P (dC, dI) vwCl (cw1 h (lpTake (upd u 16 0))) H := hP
    have hD : va_D A (cw1 h (lpTake (upd u 16 0))) := hD
    refine lv_istore_n (lv' := [(1, .int (lpDel (upd u 16 0))), (0, .ref h)]) hx hb dX1_answerAtPort0_16 rfl hl (by decide) rfl (fun ls hl => ?_)
    refine lv_iload_n hx hb dX1_answerAtPort0_17 rfl (lv_at hl 0 rfl) ?_
    refine lv_iconst (v := -1) hx hb dX1_answerAtPort0_18 (by decide) ?_
    refine lv_icmp_ne (tgt := 26) hx hb dX1_answerAtPort0_19 (by decide) (fun h3 => ?_) (fun h3 => ?_)
    · refine lv_sipush (v := 128) hx hb dX1_answerAtPort0_26 (by decide) ?_
      refine lv_iload_n hx hb dX1_answerAtPort0_29 rfl (lv_at hl 0 rfl) ?_
      refine lv_iadd hx hb dX1_answerAtPort0_30 ?_
      exact xc_iret (wf := cw1 h) hx hb hr hlocks dX1_answerAtPort0_31 hK hP hD hS (by first | (simp only [lpAnsR, lpAns, if_neg h1, if_pos h1, if_neg h3, if_pos h3]; done) | rfl | (simp only [lpAnsR, lpAns]; simp only [if_neg h1, if_pos h1, if_neg h3, if_pos h3]; done) | (simp_all [lpAnsR, lpAns]; done)) (by first | (simp only [lpAnsR, lpAns, if_neg h1, if_pos h1, if_neg h3, if_pos h3]; done) | rfl | (simp only [lpAnsR, lpAns]; simp only [if_neg h1, if_pos h1, if_neg h3, if_pos h3]; done) | (simp_all [lpAnsR, lpAns]; done))
    · refine lv_iconst (v := 0) hx hb dX1_answerAtPort0_22 (by decide) ?_
      refine lv_goto (tgt := 31) hx hb dX1_answerAtPort0_23 (by decide) ?_
      exact xc_iret (wf := cw1 h) hx hb hr hlocks dX1_answerAtPort0_31 hK hP hD hS (by first | (simp only [lpAnsR, lpAns, if_neg h1, if_pos h1, if_pos h3, if_neg (not_not_intro h3)]; done) | rfl | (simp only [lpAnsR, lpAns]; simp only [if_neg h1, if_pos h1, if_pos h3, if_neg (not_not_intro h3)]; done) | (simp_all [lpAnsR, lpAns]; done)) (by first | (simp only [lpAnsR, lpAns, if_neg h1, if_pos h1, if_pos h3, if_neg (not_not_intro h3)]; done) | rfl | (simp only [lpAnsR, lpAns]; simp only [if_neg h1, if_pos h1, if_pos h3, if_neg (not_not_intro h3)]; done) | (simp_all [lpAnsR, lpAns]; done))

set_option maxHeartbeats 4000000 in
set_option maxRecDepth 100000 in
theorem c_begin (l : Launch) (dC : Nat → ClassId) (dI : Nat → Nat → Nat) (h : Nat) (sz : Nat) (u : Nat → Int32) (w : Int32) : xc_M l yX1_begin wsX1_begin ({ frames := 1, cells := 0, slots := 0, locals := 21 }) [.ref h, .int w] sz (dC, dI) vwCl [] [] (cw1 h u) none (cw1 h (lpBegin u w)) 0 0 := by
  refine Met.ofW (cc := cX1_begin) (maxL := 2) (ret := none) (by decide) rfl ?_
  intro p e s m args below meth c s₁ B hml hv
  obtain ⟨rfl, hsz, hP, hK, hD0, hZ⟩ := hv
  have hx := B.exec
  have hb := B.bytes
  have hr := B.returns
  have hts := atoms_spec (ws := wsX1_begin) B.pre
  have hown : s.vm.findClass RX1 = some m.cls := findClass_of_methodNamed B.named
  have hlocks := B.notSynchronized
  subst hsz
  have hD := hD0.self (sz := s.heap.size)
  generalize hAe : va_A (cw1 h u) s.heap.size = A at hD ⊢
  have hA : ∀ q : Nat, s.heap.size ≤ q → A q := fun q h => by rw [← hAe]; exact Or.inr h
  have hS : va_S A s.heap s.heap [] := va_S.rf
  have hin_RX1 : ∀ w ∈ u_ws RX1 TX1 19, w ∈ wsX1_begin := fun w h => List.mem_cons_of_mem _ (u_X1 w h)
  have hlk_15 := hts _ (List.mem_cons_of_mem _ k_fl_X1_15)
  have hlk_25 := hts _ (List.mem_cons_of_mem _ k_fl_X1_25)
  have hlk_32 := hts _ (List.mem_cons_of_mem _ k_fl_X1_32)
  have hlk_36 := hts _ (List.mem_cons_of_mem _ k_fl_X1_36)
  have hlk_43 := hts _ (List.mem_cons_of_mem _ k_fl_X1_43)
  have hlk_59 := hts _ (List.mem_cons_of_mem _ k_fl_X1_59)
  have hlk_62 := hts _ (List.mem_cons_of_mem _ k_fl_X1_62)
  have hlk_65 := hts _ (List.mem_cons_of_mem _ k_fl_X1_65)
  have hlk_71 := hts _ (List.mem_cons_of_mem _ k_fl_X1_71)
  have hlk_74 := hts _ (List.mem_cons_of_mem _ k_fl_X1_74)
  have hlk_83 := hts _ (List.mem_cons_of_mem _ k_fl_X1_83)
  have hlk_89 := hts _ (List.mem_cons_of_mem _ k_fl_X1_89)
  have hlk_103 := hts _ (List.mem_cons_of_mem _ k_fl_X1_103)
  have hlk_106 := hts _ (List.mem_cons_of_mem _ k_fl_X1_106)
  have hl := lv_entry ([.ref h, .int w]) (n := 2) (Nat.le_of_ble_eq_true rfl)
  rw [lg_entry_eq]
  generalize (lg_sl ([.ref h, .int w]) ++ List.replicate (2 - (lg_sl ([.ref h, .int w])).length) Slot.unset).toArray = ls at hl ⊢
  have hl : lv_has ls 2 [(0, .ref h), (1, .int w)] := hl
  refine lv_aload_n hx hb dX1_begin_0 rfl (lv_at hl 0 rfl) ?_
  refine lv_iconst (v := 0) hx hb dX1_begin_1 (by decide) ?_
  refine va_put (D := (dC, dI)) (ci := 1) (v := .int 0) (ty := .int) (C := RX1) (T := TX1) (N := 19) hx hb hts hin_RX1 tyX1 tyX1_ok nX1 hown hK hP hD hS 0 rfl rfl 4 (by decide) hlk_43 (fun _ h9 => h9) rfl (by decide +kernel) rfl rfl (Nat.le_of_ble_eq_true rfl) dX1_begin_2 (fun H locs hP hD hS => ?_)
  have hP : va_P (dC, dI) vwCl (cw1 h (upd u 4 0)) H := hP
  have hD : va_D A (cw1 h (upd u 4 0)) := hD
  refine lv_aload_n hx hb dX1_begin_5 rfl (lv_at hl 0 rfl) ?_
  refine lv_iconst (v := 0) hx hb dX1_begin_6 (by decide) ?_
  refine va_put (D := (dC, dI)) (ci := 1) (v := .int 0) (ty := .int) (C := RX1) (T := TX1) (N := 19) hx hb hts hin_RX1 tyX1 tyX1_ok nX1 hown hK hP hD hS 0 rfl rfl 3 (by decide) hlk_65 (fun _ h9 => h9) rfl (by decide +kernel) rfl rfl (Nat.le_of_ble_eq_true rfl) dX1_begin_7 (fun H locs hP hD hS => ?_)
  have hP : va_P (dC, dI) vwCl (cw1 h (upd (upd u 4 0) 3 0)) H := hP
  have hD : va_D A (cw1 h (upd (upd u 4 0) 3 0)) := hD
  refine lv_aload_n hx hb dX1_begin_10 rfl (lv_at hl 0 rfl) ?_
  refine lv_iconst (v := 0) hx hb dX1_begin_11 (by decide) ?_
  refine va_put (D := (dC, dI)) (ci := 1) (v := .int 0) (ty := .int) (C := RX1) (T := TX1) (N := 19) hx hb hts hin_RX1 tyX1 tyX1_ok nX1 hown hK hP hD hS 0 rfl rfl 2 (by decide) hlk_25 (fun _ h9 => h9) rfl (by decide +kernel) rfl rfl (Nat.le_of_ble_eq_true rfl) dX1_begin_12 (fun H locs hP hD hS => ?_)
  have hP : va_P (dC, dI) vwCl (cw1 h (upd (upd (upd u 4 0) 3 0) 2 0)) H := hP
  have hD : va_D A (cw1 h (upd (upd (upd u 4 0) 3 0) 2 0)) := hD
  refine lv_aload_n hx hb dX1_begin_15 rfl (lv_at hl 0 rfl) ?_
  refine lv_bipush (v := 7) hx hb dX1_begin_16 (by decide) ?_
  refine va_put (D := (dC, dI)) (ci := 1) (v := .int 7) (ty := .int) (C := RX1) (T := TX1) (N := 19) hx hb hts hin_RX1 tyX1 tyX1_ok nX1 hown hK hP hD hS 0 rfl rfl 5 (by decide) hlk_15 (fun _ h9 => h9) rfl (by decide +kernel) rfl rfl (Nat.le_of_ble_eq_true rfl) dX1_begin_18 (fun H locs hP hD hS => ?_)
  have hP : va_P (dC, dI) vwCl (cw1 h (upd (upd (upd (upd u 4 0) 3 0) 2 0) 5 7)) H := hP
  have hD : va_D A (cw1 h (upd (upd (upd (upd u 4 0) 3 0) 2 0) 5 7)) := hD
  refine lv_aload_n hx hb dX1_begin_21 rfl (lv_at hl 0 rfl) ?_
  refine lv_iload_n hx hb dX1_begin_22 rfl (lv_at hl 1 rfl) ?_
  refine lv_iconst (v := 3) hx hb dX1_begin_23 (by decide) ?_
  refine xr_call (st1 := [.int (lpHas w 3), .ref h]) (W.runS (As := [.int w, .int 3]) (rest := [.ref h]) ⟨hx, hb, hml, hown, hts⟩ (c_hasBit l dC dI w 3) (cwS 2 hts (gd_S wa_c k_ml_X1_21 k_st_X1_hasBit k_in_X1 k_co_X1_hasBit) rfl rfl rfl (by decide +kernel) ⟨Nat.le_of_ble_eq_true rfl, Nat.le_of_ble_eq_true rfl⟩) (xr_preS hK (hP.sub (ws' := []) [] rfl) xz_Z.nil) rfl rfl hl.1 rfl (lv_room (Nat.le_of_ble_eq_true rfl)) dX1_begin_24 ⟨Nat.zero_le _, Nat.zero_le _⟩) rfl ?_
  refine va_put (D := (dC, dI)) (ci := 1) (v := .int (lpHas w 3)) (ty := .boolean) (C := RX1) (T := TX1) (N := 19) hx hb hts hin_RX1 tyX1 tyX1_ok nX1 hown hK hP hD hS 0 rfl rfl 11 (by decide) hlk_32 (fun _ h9 => h9) rfl (by decide +kernel) (lpHas_nar _ _) (lpHas_fit _ _) (Nat.le_of_ble_eq_true rfl) dX1_begin_27 (fun H locs hP hD hS => ?_)
  have hP : va_P (dC, dI) vwCl (cw1 h (upd (upd (upd (upd (upd u 4 0) 3 0) 2 0) 5 7) 11 (lpHas w 3))) H := hP
  have hD : va_D A (cw1 h (upd (upd (upd (upd (upd u 4 0) 3 0) 2 0) 5 7) 11 (lpHas w 3))) := hD
  refine lv_aload_n hx hb dX1_begin_30 rfl (lv_at hl 0 rfl) ?_
  refine lv_iconst (v := 0) hx hb dX1_begin_31 (by decide) ?_
  refine va_put (D := (dC, dI)) (ci := 1) (v := .int 0) (ty := .boolean) (C := RX1) (T := TX1) (N := 19) hx hb hts hin_RX1 tyX1 tyX1_ok nX1 hown hK hP hD hS 0 rfl rfl 12 (by decide) hlk_62 (fun _ h9 => h9) rfl (by decide +kernel) rfl rfl (Nat.le_of_ble_eq_true rfl) dX1_begin_32 (fun H locs hP hD hS => ?_)
  have hP : va_P (dC, dI) vwCl (cw1 h (upd (upd (upd (upd (upd (upd u 4 0) 3 0) 2 0) 5 7) 11 (lpHas w 3)) 12 0)) H := hP
  have hD : va_D A (cw1 h (upd (upd (upd (upd (upd (upd u 4 0) 3 0) 2 0) 5 7) 11 (lpHas w 3)) 12 0)) := hD
  refine lv_aload_n hx hb dX1_begin_35 rfl (lv_at hl 0 rfl) ?_
  refine lv_iconst (v := 0) hx hb dX1_begin_36 (by decide) ?_
  refine va_put (D := (dC, dI)) (ci := 1) (v := .int 0) (ty := .boolean) (C := RX1) (T := TX1) (N := 19) hx hb hts hin_RX1 tyX1 tyX1_ok nX1 hown hK hP hD hS 0 rfl rfl 13 (by decide) hlk_59 (fun _ h9 => h9) rfl (by decide +kernel) rfl rfl (Nat.le_of_ble_eq_true rfl) dX1_begin_37 (fun H locs hP hD hS => ?_)
  have hP : va_P (dC, dI) vwCl (cw1 h (upd (upd (upd (upd (upd (upd (upd u 4 0) 3 0) 2 0) 5 7) 11 (lpHas w 3)) 12 0) 13 0)) H := hP
  have hD : va_D A (cw1 h (upd (upd (upd (upd (upd (upd (upd u 4 0) 3 0) 2 0) 5 7) 11 (lpHas w 3)) 12 0) 13 0)) := hD
  refine lv_aload_n hx hb dX1_begin_40 rfl (lv_at hl 0 rfl) ?_
  refine lv_iconst (v := 0) hx hb dX1_begin_41 (by decide) ?_
  refine va_put (D := (dC, dI)) (ci := 1) (v := .int 0) (ty := .boolean) (C := RX1) (T := TX1) (N := 19) hx hb hts hin_RX1 tyX1 tyX1_ok nX1 hown hK hP hD hS 0 rfl rfl 14 (by decide) hlk_71 (fun _ h9 => h9) rfl (by decide +kernel) rfl rfl (Nat.le_of_ble_eq_true rfl) dX1_begin_42 (fun H locs hP hD hS => ?_)
  have hP : va_P (dC, dI) vwCl (cw1 h (upd (upd (upd (upd (upd (upd (upd (upd u 4 0) 3 0) 2 0) 5 7) 11 (lpHas w 3)) 12 0) 13 0) 14 0)) H := hP
  have hD : va_D A (cw1 h (upd (upd (upd (upd (upd (upd (upd (upd u 4 0) 3 0) 2 0) 5 7) 11 (lpHas w 3)) 12 0) 13 0) 14 0)) := hD
  refine lv_aload_n hx hb dX1_begin_45 rfl (lv_at hl 0 rfl) ?_
  refine lv_iconst (v := 0) hx hb dX1_begin_46 (by decide) ?_
  refine va_put (D := (dC, dI)) (ci := 1) (v := .int 0) (ty := .boolean) (C := RX1) (T := TX1) (N := 19) hx hb hts hin_RX1 tyX1 tyX1_ok nX1 hown hK hP hD hS 0 rfl rfl 15 (by decide) hlk_74 (fun _ h9 => h9) rfl (by decide +kernel) rfl rfl (Nat.le_of_ble_eq_true rfl) dX1_begin_47 (fun H locs hP hD hS => ?_)
  have hP : va_P (dC, dI) vwCl (cw1 h (upd (upd (upd (upd (upd (upd (upd (upd (upd u 4 0) 3 0) 2 0) 5 7) 11 (lpHas w 3)) 12 0) 13 0) 14 0) 15 0)) H := hP
  have hD : va_D A (cw1 h (upd (upd (upd (upd (upd (upd (upd (upd (upd u 4 0) 3 0) 2 0) 5 7) 11 (lpHas w 3)) 12 0) 13 0) 14 0) 15 0)) := hD
  refine lv_aload_n hx hb dX1_begin_50 rfl (lv_at hl 0 rfl) ?_
  refine lv_iconst (v := 0) hx hb dX1_begin_51 (by decide) ?_
  refine va_put (D := (dC, dI)) (ci := 1) (v := .int 0) (ty := .boolean) (C := RX1) (T := TX1) (N := 19) hx hb hts hin_RX1 tyX1 tyX1_ok nX1 hown hK hP hD hS 0 rfl rfl 16 (by decide) hlk_83 (fun _ h9 => h9) rfl (by decide +kernel) rfl rfl (Nat.le_of_ble_eq_true rfl) dX1_begin_52 (fun H locs hP hD hS => ?_)
  have hP : va_P (dC, dI) vwCl (cw1 h (upd (upd (upd (upd (upd (upd (upd (upd (upd (upd u 4 0) 3 0) 2 0) 5 7) 11 (lpHas w 3)) 12 0) 13 0) 14 0) 15 0) 16 0)) H := hP
  have hD : va_D A (cw1 h (upd (upd (upd (upd (upd (upd (upd (upd (upd (upd u 4 0) 3 0) 2 0) 5 7) 11 (lpHas w 3)) 12 0) 13 0) 14 0) 15 0) 16 0)) := hD
  refine lv_aload_n hx hb dX1_begin_55 rfl (lv_at hl 0 rfl) ?_
  refine lv_iconst (v := 0) hx hb dX1_begin_56 (by decide) ?_
  refine va_put (D := (dC, dI)) (ci := 1) (v := .int 0) (ty := .int) (C := RX1) (T := TX1) (N := 19) hx hb hts hin_RX1 tyX1 tyX1_ok nX1 hown hK hP hD hS 0 rfl rfl 8 (by decide) hlk_89 (fun _ h9 => h9) rfl (by decide +kernel) rfl rfl (Nat.le_of_ble_eq_true rfl) dX1_begin_57 (fun H locs hP hD hS => ?_)
  have hP : va_P (dC, dI) vwCl (cw1 h (upd (upd (upd (upd (upd (upd (upd (upd (upd (upd (upd u 4 0) 3 0) 2 0) 5 7) 11 (lpHas w 3)) 12 0) 13 0) 14 0) 15 0) 16 0) 8 0)) H := hP
  have hD : va_D A (cw1 h (upd (upd (upd (upd (upd (upd (upd (upd (upd (upd (upd u 4 0) 3 0) 2 0) 5 7) 11 (lpHas w 3)) 12 0) 13 0) 14 0) 15 0) 16 0) 8 0)) := hD
  refine lv_aload_n hx hb dX1_begin_60 rfl (lv_at hl 0 rfl) ?_
  refine lv_iconst (v := 0) hx hb dX1_begin_61 (by decide) ?_
  refine va_put (D := (dC, dI)) (ci := 1) (v := .int 0) (ty := .boolean) (C := RX1) (T := TX1) (N := 19) hx hb hts hin_RX1 tyX1 tyX1_ok nX1 hown hK hP hD hS 0 rfl rfl 10 (by decide) hlk_36 (fun _ h9 => h9) rfl (by decide +kernel) rfl rfl (Nat.le_of_ble_eq_true rfl) dX1_begin_62 (fun H locs hP hD hS => ?_)
  have hP : va_P (dC, dI) vwCl (cw1 h (upd (upd (upd (upd (upd (upd (upd (upd (upd (upd (upd (upd u 4 0) 3 0) 2 0) 5 7) 11 (lpHas w 3)) 12 0) 13 0) 14 0) 15 0) 16 0) 8 0) 10 0)) H := hP
  have hD : va_D A (cw1 h (upd (upd (upd (upd (upd (upd (upd (upd (upd (upd (upd (upd u 4 0) 3 0) 2 0) 5 7) 11 (lpHas w 3)) 12 0) 13 0) 14 0) 15 0) 16 0) 8 0) 10 0)) := hD
  refine lv_aload_n hx hb dX1_begin_65 rfl (lv_at hl 0 rfl) ?_
  refine lv_iconst (v := 2) hx hb dX1_begin_66 (by decide) ?_
  refine va_put (D := (dC, dI)) (ci := 1) (v := .int 2) (ty := .int) (C := RX1) (T := TX1) (N := 19) hx hb hts hin_RX1 tyX1 tyX1_ok nX1 hown hK hP hD hS 0 rfl rfl 7 (by decide) hlk_103 (fun _ h9 => h9) rfl (by decide +kernel) rfl rfl (Nat.le_of_ble_eq_true rfl) dX1_begin_67 (fun H locs hP hD hS => ?_)
  have hP : va_P (dC, dI) vwCl (cw1 h (upd (upd (upd (upd (upd (upd (upd (upd (upd (upd (upd (upd (upd u 4 0) 3 0) 2 0) 5 7) 11 (lpHas w 3)) 12 0) 13 0) 14 0) 15 0) 16 0) 8 0) 10 0) 7 2)) H := hP
  have hD : va_D A (cw1 h (upd (upd (upd (upd (upd (upd (upd (upd (upd (upd (upd (upd (upd u 4 0) 3 0) 2 0) 5 7) 11 (lpHas w 3)) 12 0) 13 0) 14 0) 15 0) 16 0) 8 0) 10 0) 7 2)) := hD
  refine lv_aload_n hx hb dX1_begin_70 rfl (lv_at hl 0 rfl) ?_
  refine lv_iload_n hx hb dX1_begin_71 rfl (lv_at hl 1 rfl) ?_
  refine lv_iconst (v := 0) hx hb dX1_begin_72 (by decide) ?_
  refine xr_call (st1 := [.int (lpHas w 0), .ref h]) (W.runS (As := [.int w, .int 0]) (rest := [.ref h]) ⟨hx, hb, hml, hown, hts⟩ (c_hasBit l dC dI w 0) (cwS 2 hts (gd_S wa_c k_ml_X1_21 k_st_X1_hasBit k_in_X1 k_co_X1_hasBit) rfl rfl rfl (by decide +kernel) ⟨Nat.le_of_ble_eq_true rfl, Nat.le_of_ble_eq_true rfl⟩) (xr_preS hK (hP.sub (ws' := []) [] rfl) xz_Z.nil) rfl rfl hl.1 rfl (lv_room (Nat.le_of_ble_eq_true rfl)) dX1_begin_73 ⟨Nat.zero_le _, Nat.zero_le _⟩) rfl ?_
  refine va_put (D := (dC, dI)) (ci := 1) (v := .int (lpHas w 0)) (ty := .boolean) (C := RX1) (T := TX1) (N := 19) hx hb hts hin_RX1 tyX1 tyX1_ok nX1 hown hK hP hD hS 0 rfl rfl 9 (by decide) hlk_106 (fun _ h9 => h9) rfl (by decide +kernel) (lpHas_nar _ _) (lpHas_fit _ _) (Nat.le_of_ble_eq_true rfl) dX1_begin_76 (fun H locs hP hD hS => ?_)
  have hP : va_P (dC, dI) vwCl (cw1 h (upd (upd (upd (upd (upd (upd (upd (upd (upd (upd (upd (upd (upd (upd u 4 0) 3 0) 2 0) 5 7) 11 (lpHas w 3)) 12 0) 13 0) 14 0) 15 0) 16 0) 8 0) 10 0) 7 2) 9 (lpHas w 0))) H := hP
  have hD : va_D A (cw1 h (upd (upd (upd (upd (upd (upd (upd (upd (upd (upd (upd (upd (upd (upd u 4 0) 3 0) 2 0) 5 7) 11 (lpHas w 3)) 12 0) 13 0) 14 0) 15 0) 16 0) 8 0) 10 0) 7 2) 9 (lpHas w 0))) := hD
  exact xc_vret (wf := cw1 h) hx hb hr hlocks dX1_begin_79 hK hP hD hS (by first | (simp only [lpBegin]; done) | rfl | (simp_all [lpBegin]; done))

set_option maxHeartbeats 4000000 in
set_option maxRecDepth 100000 in
theorem c_choose (l : Launch) (dC : Nat → ClassId) (dI : Nat → Nat → Nat) (h : Nat) (sz : Nat) (u : Nat → Int32) (w : Int32) : xc_M l yX1_choose wsX1_choose ({ frames := 1, cells := 0, slots := 0, locals := 21 }) [.ref h, .int w] sz (dC, dI) vwCl [] [] (cw1 h u) none (cw1 h (lpChoose u w)) 0 0 := by
  refine Met.ofW (cc := cX1_choose) (maxL := 2) (ret := none) (by decide) rfl ?_
  intro p e s m args below meth c s₁ B hml hv
  obtain ⟨rfl, hsz, hP, hK, hD0, hZ⟩ := hv
  have hx := B.exec
  have hb := B.bytes
  have hr := B.returns
  have hts := atoms_spec (ws := wsX1_choose) B.pre
  have hown : s.vm.findClass RX1 = some m.cls := findClass_of_methodNamed B.named
  have hlocks := B.notSynchronized
  subst hsz
  have hD := hD0.self (sz := s.heap.size)
  generalize hAe : va_A (cw1 h u) s.heap.size = A at hD ⊢
  have hA : ∀ q : Nat, s.heap.size ≤ q → A q := fun q h => by rw [← hAe]; exact Or.inr h
  have hS : va_S A s.heap s.heap [] := va_S.rf
  have hin_RX1 : ∀ w ∈ u_ws RX1 TX1 19, w ∈ wsX1_choose := fun w h => List.mem_cons_of_mem _ (u_X1 w h)
  have hlk_62 := hts _ (List.mem_cons_of_mem _ k_fl_X1_62)
  have hlk_83 := hts _ (List.mem_cons_of_mem _ k_fl_X1_83)
  have hlk_89 := hts _ (List.mem_cons_of_mem _ k_fl_X1_89)
  have hl := lv_entry ([.ref h, .int w]) (n := 2) (Nat.le_of_ble_eq_true rfl)
  rw [lg_entry_eq]
  generalize (lg_sl ([.ref h, .int w]) ++ List.replicate (2 - (lg_sl ([.ref h, .int w])).length) Slot.unset).toArray = ls at hl ⊢
  have hl : lv_has ls 2 [(0, .ref h), (1, .int w)] := hl
  refine lv_iload_n hx hb dX1_choose_0 rfl (lv_at hl 1 rfl) ?_
  refine lv_bipush (v := 6) hx hb dX1_choose_1 (by decide) ?_
  refine xr_call (st1 := [.int (lpHas w 6)]) (W.runS (As := [.int w, .int 6]) (rest := []) ⟨hx, hb, hml, hown, hts⟩ (c_hasBit l dC dI w 6) (cwS 2 hts (gd_S wa_c k_ml_X1_21 k_st_X1_hasBit k_in_X1 k_co_X1_hasBit) rfl rfl rfl (by decide +kernel) ⟨Nat.le_of_ble_eq_true rfl, Nat.le_of_ble_eq_true rfl⟩) (xr_preS hK (hP.sub (ws' := []) [] rfl) xz_Z.nil) rfl rfl hl.1 rfl (lv_room (Nat.le_of_ble_eq_true rfl)) dX1_choose_3 ⟨Nat.zero_le _, Nat.zero_le _⟩) rfl ?_
  refine lv_if_eq (tgt := 18) hx hb dX1_choose_6 (by decide) (fun h1 => ?_) (fun h1 => ?_)
  · refine lv_iload_n hx hb dX1_choose_18 rfl (lv_at hl 1 rfl) ?_
    refine lv_iconst (v := 2) hx hb dX1_choose_19 (by decide) ?_
    refine xr_call (st1 := [.int (lpHas w 2)]) (W.runS (As := [.int w, .int 2]) (rest := []) ⟨hx, hb, hml, hown, hts⟩ (c_hasBit l dC dI w 2) (cwS 2 hts (gd_S wa_c k_ml_X1_21 k_st_X1_hasBit k_in_X1 k_co_X1_hasBit) rfl rfl rfl (by decide +kernel) ⟨Nat.le_of_ble_eq_true rfl, Nat.le_of_ble_eq_true rfl⟩) (xr_preS hK (hP.sub (ws' := []) [] rfl) xz_Z.nil) rfl rfl hl.1 rfl (lv_room (Nat.le_of_ble_eq_true rfl)) dX1_choose_20 ⟨Nat.zero_le _, Nat.zero_le _⟩) rfl ?_
    refine lv_if_eq (tgt := 31) hx hb dX1_choose_23 (by decide) (fun h2 => ?_) (fun h2 => ?_)
    · refine lv_iload_n hx hb dX1_choose_31 rfl (lv_at hl 1 rfl) ?_
      refine lv_iconst (v := 1) hx hb dX1_choose_32 (by decide) ?_
      refine xr_call (st1 := [.int (lpHas w 1)]) (W.runS (As := [.int w, .int 1]) (rest := []) ⟨hx, hb, hml, hown, hts⟩ (c_hasBit l dC dI w 1) (cwS 2 hts (gd_S wa_c k_ml_X1_21 k_st_X1_hasBit k_in_X1 k_co_X1_hasBit) rfl rfl rfl (by decide +kernel) ⟨Nat.le_of_ble_eq_true rfl, Nat.le_of_ble_eq_true rfl⟩) (xr_preS hK (hP.sub (ws' := []) [] rfl) xz_Z.nil) rfl rfl hl.1 rfl (lv_room (Nat.le_of_ble_eq_true rfl)) dX1_choose_33 ⟨Nat.zero_le _, Nat.zero_le _⟩) rfl ?_
      refine lv_if_eq (tgt := 46) hx hb dX1_choose_36 (by decide) (fun h3 => ?_) (fun h3 => ?_)
      · exact xc_vret (wf := cw1 h) hx hb hr hlocks dX1_choose_46 hK hP hD hS (by first | (simp only [lpChoose, lpCh1, lpCh2, lpCh3, if_pos h1, if_neg (not_not_intro h1), if_pos h2, if_neg (not_not_intro h2), if_pos h3, if_neg (not_not_intro h3)]; done) | rfl | (simp only [lpChoose, lpCh1, lpCh2, lpCh3]; simp only [if_pos h1, if_neg (not_not_intro h1), if_pos h2, if_neg (not_not_intro h2), if_pos h3, if_neg (not_not_intro h3)]; done) | (simp_all [lpChoose, lpCh1, lpCh2, lpCh3]; done))
      · refine lv_aload_n hx hb dX1_choose_39 rfl (lv_at hl 0 rfl) ?_
        refine lv_iload_n hx hb dX1_choose_40 rfl (lv_at hl 1 rfl) ?_
        refine lv_iconst (v := 1) hx hb dX1_choose_41 (by decide) ?_
        refine lv_iand hx hb dX1_choose_42 ?_
        refine va_put (D := (dC, dI)) (ci := 1) (v := .int (w &&& 1)) (ty := .int) (C := RX1) (T := TX1) (N := 19) hx hb hts hin_RX1 tyX1 tyX1_ok nX1 hown hK hP hD hS 0 rfl rfl 8 (by decide) hlk_89 (fun _ h9 => h9) rfl (by decide +kernel) rfl rfl (Nat.le_of_ble_eq_true rfl) dX1_choose_43 (fun H locs hP hD hS => ?_)
        have hP : va_P (dC, dI) vwCl (cw1 h (upd u 8 (w &&& 1))) H := hP
        have hD : va_D A (cw1 h (upd u 8 (w &&& 1))) := hD
        exact xc_vret (wf := cw1 h) hx hb hr hlocks dX1_choose_46 hK hP hD hS (by first | (simp only [lpChoose, lpCh1, lpCh2, lpCh3, if_pos h1, if_neg (not_not_intro h1), if_pos h2, if_neg (not_not_intro h2), if_neg h3, if_pos h3]; done) | rfl | (simp only [lpChoose, lpCh1, lpCh2, lpCh3]; simp only [if_pos h1, if_neg (not_not_intro h1), if_pos h2, if_neg (not_not_intro h2), if_neg h3, if_pos h3]; done) | (simp_all [lpChoose, lpCh1, lpCh2, lpCh3]; done))
    · refine lv_aload_n hx hb dX1_choose_26 rfl (lv_at hl 0 rfl) ?_
      refine lv_iconst (v := 1) hx hb dX1_choose_27 (by decide) ?_
      refine va_put (D := (dC, dI)) (ci := 1) (v := .int 1) (ty := .boolean) (C := RX1) (T := TX1) (N := 19) hx hb hts hin_RX1 tyX1 tyX1_ok nX1 hown hK hP hD hS 0 rfl rfl 16 (by decide) hlk_83 (fun _ h9 => h9) rfl (by decide +kernel) rfl rfl (Nat.le_of_ble_eq_true rfl) dX1_choose_28 (fun H locs hP hD hS => ?_)
      have hP : va_P (dC, dI) vwCl (cw1 h (upd u 16 1)) H := hP
      have hD : va_D A (cw1 h (upd u 16 1)) := hD
      refine lv_iload_n hx hb dX1_choose_31 rfl (lv_at hl 1 rfl) ?_
      refine lv_iconst (v := 1) hx hb dX1_choose_32 (by decide) ?_
      refine xr_call (st1 := [.int (lpHas w 1)]) (W.runS (As := [.int w, .int 1]) (rest := []) ⟨hx, hb, hml, hown, hts⟩ (c_hasBit l dC dI w 1) (cwS 2 hts (gd_S wa_c k_ml_X1_21 k_st_X1_hasBit k_in_X1 k_co_X1_hasBit) rfl rfl rfl (by decide +kernel) ⟨Nat.le_of_ble_eq_true rfl, Nat.le_of_ble_eq_true rfl⟩) (xr_preS hK (hP.sub (ws' := []) [] rfl) xz_Z.nil) rfl rfl hl.1 rfl (lv_room (Nat.le_of_ble_eq_true rfl)) dX1_choose_33 ⟨Nat.zero_le _, Nat.zero_le _⟩) rfl ?_
      refine lv_if_eq (tgt := 46) hx hb dX1_choose_36 (by decide) (fun h4 => ?_) (fun h4 => ?_)
      · exact xc_vret (wf := cw1 h) hx hb hr hlocks dX1_choose_46 hK hP hD hS (by first | (simp only [lpChoose, lpCh1, lpCh2, lpCh3, if_pos h1, if_neg (not_not_intro h1), if_neg h2, if_pos h2, if_pos h4, if_neg (not_not_intro h4)]; done) | rfl | (simp only [lpChoose, lpCh1, lpCh2, lpCh3]; simp only [if_pos h1, if_neg (not_not_intro h1), if_neg h2, if_pos h2, if_pos h4, if_neg (not_not_intro h4)]; done) | (simp_all [lpChoose, lpCh1, lpCh2, lpCh3]; done))
      · refine lv_aload_n hx hb dX1_choose_39 rfl (lv_at hl 0 rfl) ?_
        refine lv_iload_n hx hb dX1_choose_40 rfl (lv_at hl 1 rfl) ?_
        refine lv_iconst (v := 1) hx hb dX1_choose_41 (by decide) ?_
        refine lv_iand hx hb dX1_choose_42 ?_
        refine va_put (D := (dC, dI)) (ci := 1) (v := .int (w &&& 1)) (ty := .int) (C := RX1) (T := TX1) (N := 19) hx hb hts hin_RX1 tyX1 tyX1_ok nX1 hown hK hP hD hS 0 rfl rfl 8 (by decide) hlk_89 (fun _ h9 => h9) rfl (by decide +kernel) rfl rfl (Nat.le_of_ble_eq_true rfl) dX1_choose_43 (fun H locs hP hD hS => ?_)
        have hP : va_P (dC, dI) vwCl (cw1 h (upd (upd u 16 1) 8 (w &&& 1))) H := hP
        have hD : va_D A (cw1 h (upd (upd u 16 1) 8 (w &&& 1))) := hD
        exact xc_vret (wf := cw1 h) hx hb hr hlocks dX1_choose_46 hK hP hD hS (by first | (simp only [lpChoose, lpCh1, lpCh2, lpCh3, if_pos h1, if_neg (not_not_intro h1), if_neg h2, if_pos h2, if_neg h4, if_pos h4]; done) | rfl | (simp only [lpChoose, lpCh1, lpCh2, lpCh3]; simp only [if_pos h1, if_neg (not_not_intro h1), if_neg h2, if_pos h2, if_neg h4, if_pos h4]; done) | (simp_all [lpChoose, lpCh1, lpCh2, lpCh3]; done))
  · refine lv_aload_n hx hb dX1_choose_9 rfl (lv_at hl 0 rfl) ?_
    refine lv_iload_n hx hb dX1_choose_10 rfl (lv_at hl 1 rfl) ?_
    refine lv_iconst (v := 5) hx hb dX1_choose_11 (by decide) ?_
    refine xr_call (st1 := [.int (lpHas w 5), .ref h]) (W.runS (As := [.int w, .int 5]) (rest := [.ref h]) ⟨hx, hb, hml, hown, hts⟩ (c_hasBit l dC dI w 5) (cwS 2 hts (gd_S wa_c k_ml_X1_21 k_st_X1_hasBit k_in_X1 k_co_X1_hasBit) rfl rfl rfl (by decide +kernel) ⟨Nat.le_of_ble_eq_true rfl, Nat.le_of_ble_eq_true rfl⟩) (xr_preS hK (hP.sub (ws' := []) [] rfl) xz_Z.nil) rfl rfl hl.1 rfl (lv_room (Nat.le_of_ble_eq_true rfl)) dX1_choose_12 ⟨Nat.zero_le _, Nat.zero_le _⟩) rfl ?_
    refine va_put (D := (dC, dI)) (ci := 1) (v := .int (lpHas w 5)) (ty := .boolean) (C := RX1) (T := TX1) (N := 19) hx hb hts hin_RX1 tyX1 tyX1_ok nX1 hown hK hP hD hS 0 rfl rfl 12 (by decide) hlk_62 (fun _ h9 => h9) rfl (by decide +kernel) (lpHas_nar _ _) (lpHas_fit _ _) (Nat.le_of_ble_eq_true rfl) dX1_choose_15 (fun H locs hP hD hS => ?_)
    have hP : va_P (dC, dI) vwCl (cw1 h (upd u 12 (lpHas w 5))) H := hP
    have hD : va_D A (cw1 h (upd u 12 (lpHas w 5))) := hD
    refine lv_iload_n hx hb dX1_choose_18 rfl (lv_at hl 1 rfl) ?_
    refine lv_iconst (v := 2) hx hb dX1_choose_19 (by decide) ?_
    refine xr_call (st1 := [.int (lpHas w 2)]) (W.runS (As := [.int w, .int 2]) (rest := []) ⟨hx, hb, hml, hown, hts⟩ (c_hasBit l dC dI w 2) (cwS 2 hts (gd_S wa_c k_ml_X1_21 k_st_X1_hasBit k_in_X1 k_co_X1_hasBit) rfl rfl rfl (by decide +kernel) ⟨Nat.le_of_ble_eq_true rfl, Nat.le_of_ble_eq_true rfl⟩) (xr_preS hK (hP.sub (ws' := []) [] rfl) xz_Z.nil) rfl rfl hl.1 rfl (lv_room (Nat.le_of_ble_eq_true rfl)) dX1_choose_20 ⟨Nat.zero_le _, Nat.zero_le _⟩) rfl ?_
    refine lv_if_eq (tgt := 31) hx hb dX1_choose_23 (by decide) (fun h5 => ?_) (fun h5 => ?_)
    · refine lv_iload_n hx hb dX1_choose_31 rfl (lv_at hl 1 rfl) ?_
      refine lv_iconst (v := 1) hx hb dX1_choose_32 (by decide) ?_
      refine xr_call (st1 := [.int (lpHas w 1)]) (W.runS (As := [.int w, .int 1]) (rest := []) ⟨hx, hb, hml, hown, hts⟩ (c_hasBit l dC dI w 1) (cwS 2 hts (gd_S wa_c k_ml_X1_21 k_st_X1_hasBit k_in_X1 k_co_X1_hasBit) rfl rfl rfl (by decide +kernel) ⟨Nat.le_of_ble_eq_true rfl, Nat.le_of_ble_eq_true rfl⟩) (xr_preS hK (hP.sub (ws' := []) [] rfl) xz_Z.nil) rfl rfl hl.1 rfl (lv_room (Nat.le_of_ble_eq_true rfl)) dX1_choose_33 ⟨Nat.zero_le _, Nat.zero_le _⟩) rfl ?_
      refine lv_if_eq (tgt := 46) hx hb dX1_choose_36 (by decide) (fun h6 => ?_) (fun h6 => ?_)
      · exact xc_vret (wf := cw1 h) hx hb hr hlocks dX1_choose_46 hK hP hD hS (by first | (simp only [lpChoose, lpCh1, lpCh2, lpCh3, if_neg h1, if_pos h1, if_pos h5, if_neg (not_not_intro h5), if_pos h6, if_neg (not_not_intro h6)]; done) | rfl | (simp only [lpChoose, lpCh1, lpCh2, lpCh3]; simp only [if_neg h1, if_pos h1, if_pos h5, if_neg (not_not_intro h5), if_pos h6, if_neg (not_not_intro h6)]; done) | (simp_all [lpChoose, lpCh1, lpCh2, lpCh3]; done))
      · refine lv_aload_n hx hb dX1_choose_39 rfl (lv_at hl 0 rfl) ?_
        refine lv_iload_n hx hb dX1_choose_40 rfl (lv_at hl 1 rfl) ?_
        refine lv_iconst (v := 1) hx hb dX1_choose_41 (by decide) ?_
        refine lv_iand hx hb dX1_choose_42 ?_
        refine va_put (D := (dC, dI)) (ci := 1) (v := .int (w &&& 1)) (ty := .int) (C := RX1) (T := TX1) (N := 19) hx hb hts hin_RX1 tyX1 tyX1_ok nX1 hown hK hP hD hS 0 rfl rfl 8 (by decide) hlk_89 (fun _ h9 => h9) rfl (by decide +kernel) rfl rfl (Nat.le_of_ble_eq_true rfl) dX1_choose_43 (fun H locs hP hD hS => ?_)
        have hP : va_P (dC, dI) vwCl (cw1 h (upd (upd u 12 (lpHas w 5)) 8 (w &&& 1))) H := hP
        have hD : va_D A (cw1 h (upd (upd u 12 (lpHas w 5)) 8 (w &&& 1))) := hD
        exact xc_vret (wf := cw1 h) hx hb hr hlocks dX1_choose_46 hK hP hD hS (by first | (simp only [lpChoose, lpCh1, lpCh2, lpCh3, if_neg h1, if_pos h1, if_pos h5, if_neg (not_not_intro h5), if_neg h6, if_pos h6]; done) | rfl | (simp only [lpChoose, lpCh1, lpCh2, lpCh3]; simp only [if_neg h1, if_pos h1, if_pos h5, if_neg (not_not_intro h5), if_neg h6, if_pos h6]; done) | (simp_all [lpChoose, lpCh1, lpCh2, lpCh3]; done))
    · refine lv_aload_n hx hb dX1_choose_26 rfl (lv_at hl 0 rfl) ?_
      refine lv_iconst (v := 1) hx hb dX1_choose_27 (by decide) ?_
      refine va_put (D := (dC, dI)) (ci := 1) (v := .int 1) (ty := .boolean) (C := RX1) (T := TX1) (N := 19) hx hb hts hin_RX1 tyX1 tyX1_ok nX1 hown hK hP hD hS 0 rfl rfl 16 (by decide) hlk_83 (fun _ h9 => h9) rfl (by decide +kernel) rfl rfl (Nat.le_of_ble_eq_true rfl) dX1_choose_28 (fun H locs hP hD hS => ?_)
      have hP : va_P (dC, dI) vwCl (cw1 h (upd (upd u 12 (lpHas w 5)) 16 1)) H := hP
      have hD : va_D A (cw1 h (upd (upd u 12 (lpHas w 5)) 16 1)) := hD
      refine lv_iload_n hx hb dX1_choose_31 rfl (lv_at hl 1 rfl) ?_
      refine lv_iconst (v := 1) hx hb dX1_choose_32 (by decide) ?_
      refine xr_call (st1 := [.int (lpHas w 1)]) (W.runS (As := [.int w, .int 1]) (rest := []) ⟨hx, hb, hml, hown, hts⟩ (c_hasBit l dC dI w 1) (cwS 2 hts (gd_S wa_c k_ml_X1_21 k_st_X1_hasBit k_in_X1 k_co_X1_hasBit) rfl rfl rfl (by decide +kernel) ⟨Nat.le_of_ble_eq_true rfl, Nat.le_of_ble_eq_true rfl⟩) (xr_preS hK (hP.sub (ws' := []) [] rfl) xz_Z.nil) rfl rfl hl.1 rfl (lv_room (Nat.le_of_ble_eq_true rfl)) dX1_choose_33 ⟨Nat.zero_le _, Nat.zero_le _⟩) rfl ?_
      refine lv_if_eq (tgt := 46) hx hb dX1_choose_36 (by decide) (fun h7 => ?_) (fun h7 => ?_)
      · exact xc_vret (wf := cw1 h) hx hb hr hlocks dX1_choose_46 hK hP hD hS (by first | (simp only [lpChoose, lpCh1, lpCh2, lpCh3, if_neg h1, if_pos h1, if_neg h5, if_pos h5, if_pos h7, if_neg (not_not_intro h7)]; done) | rfl | (simp only [lpChoose, lpCh1, lpCh2, lpCh3]; simp only [if_neg h1, if_pos h1, if_neg h5, if_pos h5, if_pos h7, if_neg (not_not_intro h7)]; done) | (simp_all [lpChoose, lpCh1, lpCh2, lpCh3]; done))
      · refine lv_aload_n hx hb dX1_choose_39 rfl (lv_at hl 0 rfl) ?_
        refine lv_iload_n hx hb dX1_choose_40 rfl (lv_at hl 1 rfl) ?_
        refine lv_iconst (v := 1) hx hb dX1_choose_41 (by decide) ?_
        refine lv_iand hx hb dX1_choose_42 ?_
        refine va_put (D := (dC, dI)) (ci := 1) (v := .int (w &&& 1)) (ty := .int) (C := RX1) (T := TX1) (N := 19) hx hb hts hin_RX1 tyX1 tyX1_ok nX1 hown hK hP hD hS 0 rfl rfl 8 (by decide) hlk_89 (fun _ h9 => h9) rfl (by decide +kernel) rfl rfl (Nat.le_of_ble_eq_true rfl) dX1_choose_43 (fun H locs hP hD hS => ?_)
        have hP : va_P (dC, dI) vwCl (cw1 h (upd (upd (upd u 12 (lpHas w 5)) 16 1) 8 (w &&& 1))) H := hP
        have hD : va_D A (cw1 h (upd (upd (upd u 12 (lpHas w 5)) 16 1) 8 (w &&& 1))) := hD
        exact xc_vret (wf := cw1 h) hx hb hr hlocks dX1_choose_46 hK hP hD hS (by first | (simp only [lpChoose, lpCh1, lpCh2, lpCh3, if_neg h1, if_pos h1, if_neg h5, if_pos h5, if_neg h7, if_pos h7]; done) | rfl | (simp only [lpChoose, lpCh1, lpCh2, lpCh3]; simp only [if_neg h1, if_pos h1, if_neg h5, if_pos h5, if_neg h7, if_pos h7]; done) | (simp_all [lpChoose, lpCh1, lpCh2, lpCh3]; done))

set_option maxHeartbeats 4000000 in
set_option maxRecDepth 100000 in
theorem c_end (l : Launch) (dC : Nat → ClassId) (dI : Nat → Nat → Nat) (h : Nat) (sz : Nat) (u : Nat → Int32) (k : Int32) : xc_M l yX1_end wsX1_end ({ frames := 1, cells := 0, slots := 0, locals := 21 }) [.ref h, .int k] sz (dC, dI) vwCl [] [] (cw1 h u) none (cw1 h (lpEnd u k)) 0 0 := by
  refine Met.ofW (cc := cX1_end) (maxL := 2) (ret := none) (by decide) rfl ?_
  intro p e s m args below meth c s₁ B hml hv
  obtain ⟨rfl, hsz, hP, hK, hD0, hZ⟩ := hv
  have hx := B.exec
  have hb := B.bytes
  have hr := B.returns
  have hts := atoms_spec (ws := wsX1_end) B.pre
  have hown : s.vm.findClass RX1 = some m.cls := findClass_of_methodNamed B.named
  have hlocks := B.notSynchronized
  subst hsz
  have hD := hD0.self (sz := s.heap.size)
  generalize hAe : va_A (cw1 h u) s.heap.size = A at hD ⊢
  have hA : ∀ q : Nat, s.heap.size ≤ q → A q := fun q h => by rw [← hAe]; exact Or.inr h
  have hS : va_S A s.heap s.heap [] := va_S.rf
  have hin_RX1 : ∀ w ∈ u_ws RX1 TX1 19, w ∈ wsX1_end := fun w h => List.mem_cons_of_mem _ (u_X1 w h)
  have hlk_65 := hts _ (List.mem_cons_of_mem _ k_fl_X1_65)
  have hlk_115 := hts _ (List.mem_cons_of_mem _ k_fl_X1_115)
  have hl := lv_entry ([.ref h, .int k]) (n := 2) (Nat.le_of_ble_eq_true rfl)
  rw [lg_entry_eq]
  generalize (lg_sl ([.ref h, .int k]) ++ List.replicate (2 - (lg_sl ([.ref h, .int k])).length) Slot.unset).toArray = ls at hl ⊢
  have hl : lv_has ls 2 [(0, .ref h), (1, .int k)] := hl
  refine lv_iload_n hx hb dX1_end_0 rfl (lv_at hl 1 rfl) ?_
  refine lv_iconst (v := -1) hx hb dX1_end_1 (by decide) ?_
  refine lv_icmp_eq (tgt := 38) hx hb dX1_end_2 (by decide) (fun h1 => ?_) (fun h1 => ?_)
  · exact xc_vret (wf := cw1 h) hx hb hr hlocks dX1_end_38 hK hP hD hS (by first | (simp only [lpEnd, if_pos h1, if_neg (not_not_intro h1)]; done) | rfl | (simp only [lpEnd]; simp only [if_pos h1, if_neg (not_not_intro h1)]; done) | (simp_all [lpEnd]; done))
  · refine lv_aload_n hx hb dX1_end_5 rfl (lv_at hl 0 rfl) ?_
    refine va_get (D := (dC, dI)) (ci := 1) (v := .int (u 3)) (C := RX1) (T := TX1) (N := 19) hx hb hts hin_RX1 hown hK hP 0 rfl rfl 3 (by decide) hlk_65 (fun _ h9 => h9) rfl dX1_end_6 ?_
    refine lv_iload_n hx hb dX1_end_9 rfl (lv_at hl 1 rfl) ?_
    refine xr_call (st1 := [.int (lpHas (u 3) k)]) (W.runS (As := [.int (u 3), .int k]) (rest := []) ⟨hx, hb, hml, hown, hts⟩ (c_hasBit l dC dI (u 3) k) (cwS 2 hts (gd_S wa_c k_ml_X1_21 k_st_X1_hasBit k_in_X1 k_co_X1_hasBit) rfl rfl rfl (by decide +kernel) ⟨Nat.le_of_ble_eq_true rfl, Nat.le_of_ble_eq_true rfl⟩) (xr_preS hK (hP.sub (ws' := []) [] rfl) xz_Z.nil) rfl rfl hl.1 rfl (lv_room (Nat.le_of_ble_eq_true rfl)) dX1_end_10 ⟨Nat.zero_le _, Nat.zero_le _⟩) rfl ?_
    refine lv_if_eq (tgt := 38) hx hb dX1_end_13 (by decide) (fun h2 => ?_) (fun h2 => ?_)
    · exact xc_vret (wf := cw1 h) hx hb hr hlocks dX1_end_38 hK hP hD hS (by first | (simp only [lpEnd, if_neg h1, if_pos h1, if_pos h2, if_neg (not_not_intro h2)]; done) | rfl | (simp only [lpEnd]; simp only [if_neg h1, if_pos h1, if_pos h2, if_neg (not_not_intro h2)]; done) | (simp_all [lpEnd]; done))
    · refine lv_aload_n hx hb dX1_end_16 rfl (lv_at hl 0 rfl) ?_
      refine lv_aload_n hx hb dX1_end_17 rfl (lv_at hl 0 rfl) ?_
      refine va_get (D := (dC, dI)) (ci := 1) (v := .int (u 3)) (C := RX1) (T := TX1) (N := 19) hx hb hts hin_RX1 hown hK hP 0 rfl rfl 3 (by decide) hlk_65 (fun _ h9 => h9) rfl dX1_end_18 ?_
      refine lv_iload_n hx hb dX1_end_21 rfl (lv_at hl 1 rfl) ?_
      refine xr_call (st1 := [.int (lpWo (u 3) k), .ref h]) (W.runS (As := [.int (u 3), .int k]) (rest := [.ref h]) ⟨hx, hb, hml, hown, hts⟩ (c_without l dC dI (u 3) k) (cwS 2 hts (gd_S wa_c k_ml_X1_28 k_st_X1_without k_in_X1 k_co_X1_without) rfl rfl rfl (by decide +kernel) ⟨Nat.le_of_ble_eq_true rfl, Nat.le_of_ble_eq_true rfl⟩) (xr_preS hK (hP.sub (ws' := []) [] rfl) xz_Z.nil) rfl rfl hl.1 rfl (lv_room (Nat.le_of_ble_eq_true rfl)) dX1_end_22 ⟨Nat.zero_le _, Nat.zero_le _⟩) rfl ?_
      refine va_put (D := (dC, dI)) (ci := 1) (v := .int (lpWo (u 3) k)) (ty := .int) (C := RX1) (T := TX1) (N := 19) hx hb hts hin_RX1 tyX1 tyX1_ok nX1 hown hK hP hD hS 0 rfl rfl 3 (by decide) hlk_65 (fun _ h9 => h9) rfl (by decide +kernel) rfl rfl (Nat.le_of_ble_eq_true rfl) dX1_end_25 (fun H locs hP hD hS => ?_)
      have hP : va_P (dC, dI) vwCl (cw1 h (upd u 3 (lpWo (u 3) k))) H := hP
      have hD : va_D A (cw1 h (upd u 3 (lpWo (u 3) k))) := hD
      refine lv_aload_n hx hb dX1_end_28 rfl (lv_at hl 0 rfl) ?_
      refine lv_dup hx hb dX1_end_29 rfl ?_
      refine va_get (D := (dC, dI)) (ci := 1) (v := .int (u 18)) (C := RX1) (T := TX1) (N := 19) hx hb hts hin_RX1 hown hK hP 0 rfl rfl 18 (by decide) hlk_115 (fun _ h9 => h9) rfl dX1_end_30 ?_
      refine lv_iconst (v := 1) hx hb dX1_end_33 (by decide) ?_
      refine lv_iadd hx hb dX1_end_34 ?_
      refine va_put (D := (dC, dI)) (ci := 1) (v := .int ((u 18) + 1)) (ty := .int) (C := RX1) (T := TX1) (N := 19) hx hb hts hin_RX1 tyX1 tyX1_ok nX1 hown hK hP hD hS 0 rfl rfl 18 (by decide) hlk_115 (fun _ h9 => h9) rfl (by decide +kernel) rfl rfl (Nat.le_of_ble_eq_true rfl) dX1_end_35 (fun H locs hP hD hS => ?_)
      have hP : va_P (dC, dI) vwCl (cw1 h (upd (upd u 3 (lpWo (u 3) k)) 18 ((u 18) + 1))) H := hP
      have hD : va_D A (cw1 h (upd (upd u 3 (lpWo (u 3) k)) 18 ((u 18) + 1))) := hD
      exact xc_vret (wf := cw1 h) hx hb hr hlocks dX1_end_38 hK hP hD hS (by first | (simp only [lpEnd, if_neg h1, if_pos h1, if_neg h2, if_pos h2]; done) | rfl | (simp only [lpEnd]; simp only [if_neg h1, if_pos h1, if_neg h2, if_pos h2]; done) | (simp_all [lpEnd]; done))

set_option maxHeartbeats 4000000 in
set_option maxRecDepth 100000 in
theorem c_endHighestAndTurn (l : Launch) (dC : Nat → ClassId) (dI : Nat → Nat → Nat) (h : Nat) (sz : Nat) (u : Nat → Int32) : xc_M l yX1_endHighestAndTurn wsX1_endHighestAndTurn ({ frames := 2, cells := 0, slots := 0, locals := 44 }) [.ref h] sz (dC, dI) vwCl [] [] (cw1 h u) none (cw1 h (lpEht u)) 0 0 := by
  refine Met.ofW (cc := cX1_endHighestAndTurn) (maxL := 2) (ret := none) (by decide) rfl ?_
  intro p e s m args below meth c s₁ B hml hv
  obtain ⟨rfl, hsz, hP, hK, hD0, hZ⟩ := hv
  have hx := B.exec
  have hb := B.bytes
  have hr := B.returns
  have hts := atoms_spec (ws := wsX1_endHighestAndTurn) B.pre
  have hown : s.vm.findClass RX1 = some m.cls := findClass_of_methodNamed B.named
  have hlocks := B.notSynchronized
  subst hsz
  have hD := hD0.self (sz := s.heap.size)
  generalize hAe : va_A (cw1 h u) s.heap.size = A at hD ⊢
  have hA : ∀ q : Nat, s.heap.size ≤ q → A q := fun q h => by rw [← hAe]; exact Or.inr h
  have hS : va_S A s.heap s.heap [] := va_S.rf
  have hin_RX1 : ∀ w ∈ u_ws RX1 TX1 19, w ∈ wsX1_endHighestAndTurn := fun w h => List.mem_cons_of_mem _ (u_X1 w h)
  have hlk_15 := hts _ (List.mem_cons_of_mem _ k_fl_X1_15)
  have hl := lv_entry ([.ref h]) (n := 2) (Nat.le_of_ble_eq_true rfl)
  rw [lg_entry_eq]
  generalize (lg_sl ([.ref h]) ++ List.replicate (2 - (lg_sl ([.ref h])).length) Slot.unset).toArray = ls at hl ⊢
  have hl : lv_has ls 2 [(0, .ref h)] := hl
  refine lv_aload_n hx hb dX1_endHighestAndTurn_0 rfl (lv_at hl 0 rfl) ?_
  refine lv_aload_n hx hb dX1_endHighestAndTurn_1 rfl (lv_at hl 0 rfl) ?_
  refine xr_call (st1 := [.int (lpIsc u), .ref h]) (W.runV (As := []) (rest := [.ref h]) ⟨hx, hb, hml, hown, hts⟩ (c_inServiceThatCounts l dC dI h u) (cwV 0 hts (gd_V wa_c k_ml_X1_56 k_im_X1_inServiceThatCounts k_se_X1_inServiceThatCounts k_in_X1 k_co_X1_inServiceThatCounts) rfl rfl rfl (by decide +kernel) ⟨Nat.le_of_ble_eq_true rfl, Nat.le_of_ble_eq_true rfl⟩) (xr_preV (q0 := 0) (C := RX1) hK hP xz_Z.nil rfl rfl) rfl rfl hl.1 rfl (lv_room (Nat.le_of_ble_eq_true rfl)) dX1_endHighestAndTurn_2 ⟨Nat.zero_le _, Nat.zero_le _⟩) rfl ?_
  refine xr_call (st1 := [.int (lpHi u (lpIsc u))]) (W.runV (As := [.int (lpIsc u)]) (rest := []) ⟨hx, hb, hml, hown, hts⟩ (c_highestOf l dC dI h u (lpIsc u)) (cwV 1 hts (gd_V wa_c k_ml_X1_46 k_im_X1_highestOf k_se_X1_highestOf k_in_X1 k_co_X1_highestOf) rfl rfl rfl (by decide +kernel) ⟨Nat.le_of_ble_eq_true rfl, Nat.le_of_ble_eq_true rfl⟩) (xr_preV (q0 := 0) (C := RX1) hK hP xz_Z.nil rfl rfl) rfl rfl hl.1 rfl (lv_room (Nat.le_of_ble_eq_true rfl)) dX1_endHighestAndTurn_5 ⟨Nat.zero_le _, Nat.zero_le _⟩) rfl ?_
  refine lv_istore_n (lv' := [(1, .int (lpHi u (lpIsc u))), (0, .ref h)]) hx hb dX1_endHighestAndTurn_8 rfl hl (by decide) rfl (fun ls hl => ?_)
  refine lv_iload_n hx hb dX1_endHighestAndTurn_9 rfl (lv_at hl 0 rfl) ?_
  refine lv_iconst (v := -1) hx hb dX1_endHighestAndTurn_10 (by decide) ?_
  refine lv_icmp_eq (tgt := 24) hx hb dX1_endHighestAndTurn_11 (by decide) (fun h1 => ?_) (fun h1 => ?_)
  · exact xc_vret (wf := cw1 h) hx hb hr hlocks dX1_endHighestAndTurn_24 hK hP hD hS (by first | (simp only [lpEht, lpTop, if_pos h1, if_neg (not_not_intro h1)]; done) | rfl | (simp only [lpEht, lpTop]; simp only [if_pos h1, if_neg (not_not_intro h1)]; done) | (simp_all [lpEht, lpTop]; done))
  · refine lv_aload_n hx hb dX1_endHighestAndTurn_14 rfl (lv_at hl 1 rfl) ?_
    refine lv_iload_n hx hb dX1_endHighestAndTurn_15 rfl (lv_at hl 0 rfl) ?_
    refine xc_call (wc := cw1 h u) (wr := []) (st1 := []) (va_runV (As := [.int (lpHi u (lpIsc u))]) (rest := []) ⟨hx, hb, hml, hown, hts⟩ (c_end l dC dI h s.heap.size u (lpHi u (lpIsc u))) (cwV 1 hts (gd_V wa_c k_ml_X1_109 k_im_X1_end k_se_X1_end k_in_X1 k_co_X1_end) rfl rfl rfl (by decide +kernel) ⟨Nat.le_of_ble_eq_true rfl, Nat.le_of_ble_eq_true rfl⟩) (xc_preV (q0 := 0) (C := RX1) hK hP hD xz_Z.nil rfl rfl) rfl rfl hl.1 rfl (lv_room (Nat.le_of_ble_eq_true rfl)) dX1_endHighestAndTurn_16 ⟨Nat.zero_le _, Nat.zero_le _⟩) hP hD hS hA [0] [] rfl rfl (by decide) (by decide) rfl (fun H locs hP hD hS _ => ?_)
    have hP : va_P (dC, dI) vwCl (cw1 h (lpEnd u (lpHi u (lpIsc u)))) H := hP
    have hD : va_D A (cw1 h (lpEnd u (lpHi u (lpIsc u)))) := hD
    refine lv_aload_n hx hb dX1_endHighestAndTurn_19 rfl (lv_at hl 1 rfl) ?_
    refine lv_iload_n hx hb dX1_endHighestAndTurn_20 rfl (lv_at hl 0 rfl) ?_
    refine va_put (D := (dC, dI)) (ci := 1) (v := .int (lpHi u (lpIsc u))) (ty := .int) (C := RX1) (T := TX1) (N := 19) hx hb hts hin_RX1 tyX1 tyX1_ok nX1 hown hK hP hD hS 0 rfl rfl 5 (by decide) hlk_15 (fun _ h9 => h9) rfl (by decide +kernel) rfl rfl (Nat.le_of_ble_eq_true rfl) dX1_endHighestAndTurn_21 (fun H locs hP hD hS => ?_)
    have hP : va_P (dC, dI) vwCl (cw1 h (upd (lpEnd u (lpHi u (lpIsc u))) 5 (lpHi u (lpIsc u)))) H := hP
    have hD : va_D A (cw1 h (upd (lpEnd u (lpHi u (lpIsc u))) 5 (lpHi u (lpIsc u)))) := hD
    exact xc_vret (wf := cw1 h) hx hb hr hlocks dX1_endHighestAndTurn_24 hK hP hD hS (by first | (simp only [lpEht, lpTop, if_neg h1, if_pos h1]; done) | rfl | (simp only [lpEht, lpTop]; simp only [if_neg h1, if_pos h1]; done) | (simp_all [lpEht, lpTop]; done))

set_option maxHeartbeats 4000000 in
set_option maxRecDepth 100000 in
theorem c_endOrTurn (l : Launch) (dC : Nat → ClassId) (dI : Nat → Nat → Nat) (h : Nat) (sz : Nat) (u : Nat → Int32) (o k : Int32) : xc_M l yX1_endOrTurn wsX1_endOrTurn ({ frames := 3, cells := 0, slots := 0, locals := 65 }) [.ref h, .int o, .int k] sz (dC, dI) vwCl [] [] (cw1 h u) none (cw1 h (lpOrd u o k)) 0 0 := by
  refine Met.ofW (cc := cX1_endOrTurn) (maxL := 3) (ret := none) (by decide) rfl ?_
  intro p e s m args below meth c s₁ B hml hv
  obtain ⟨rfl, hsz, hP, hK, hD0, hZ⟩ := hv
  have hx := B.exec
  have hb := B.bytes
  have hr := B.returns
  have hts := atoms_spec (ws := wsX1_endOrTurn) B.pre
  have hown : s.vm.findClass RX1 = some m.cls := findClass_of_methodNamed B.named
  have hlocks := B.notSynchronized
  subst hsz
  have hD := hD0.self (sz := s.heap.size)
  generalize hAe : va_A (cw1 h u) s.heap.size = A at hD ⊢
  have hA : ∀ q : Nat, s.heap.size ≤ q → A q := fun q h => by rw [← hAe]; exact Or.inr h
  have hS : va_S A s.heap s.heap [] := va_S.rf
  have hin_RX1 : ∀ w ∈ u_ws RX1 TX1 19, w ∈ wsX1_endOrTurn := fun w h => List.mem_cons_of_mem _ (u_X1 w h)
  have hlk_15 := hts _ (List.mem_cons_of_mem _ k_fl_X1_15)
  have hlk_74 := hts _ (List.mem_cons_of_mem _ k_fl_X1_74)
  have hl := lv_entry ([.ref h, .int o, .int k]) (n := 3) (Nat.le_of_ble_eq_true rfl)
  rw [lg_entry_eq]
  generalize (lg_sl ([.ref h, .int o, .int k]) ++ List.replicate (3 - (lg_sl ([.ref h, .int o, .int k])).length) Slot.unset).toArray = ls at hl ⊢
  have hl : lv_has ls 3 [(0, .ref h), (1, .int o), (2, .int k)] := hl
  refine lv_iload_n hx hb dX1_endOrTurn_0 rfl (lv_at hl 1 rfl) ?_
  by_cases h1 : o = 0
  · refine lv_tableIn (tgt := 48) hx hb dX1_endOrTurn_1 (by rw [h1]; decide) (by rw [h1]; decide) (by rw [h1]; rfl) (by decide) ?_
    refine lv_aload_n hx hb dX1_endOrTurn_48 rfl (lv_at hl 0 rfl) ?_
    refine lv_iconst (v := 0) hx hb dX1_endOrTurn_49 (by decide) ?_
    refine va_put (D := (dC, dI)) (ci := 1) (v := .int 0) (ty := .boolean) (C := RX1) (T := TX1) (N := 19) hx hb hts hin_RX1 tyX1 tyX1_ok nX1 hown hK hP hD hS 0 rfl rfl 15 (by decide) hlk_74 (fun _ h9 => h9) rfl (by decide +kernel) rfl rfl (Nat.le_of_ble_eq_true rfl) dX1_endOrTurn_50 (fun H locs hP hD hS => ?_)
    have hP : va_P (dC, dI) vwCl (cw1 h (upd u 15 0)) H := hP
    have hD : va_D A (cw1 h (upd u 15 0)) := hD
    refine lv_goto (tgt := 115) hx hb dX1_endOrTurn_53 (by decide) ?_
    exact xc_vret (wf := cw1 h) hx hb hr hlocks dX1_endOrTurn_115 hK hP hD hS (by first | (simp only [lpOrd, lpTop, if_pos h1, if_neg (not_not_intro h1)]; done) | rfl | (simp only [lpOrd, lpTop]; simp only [if_pos h1, if_neg (not_not_intro h1)]; done) | (simp_all [lpOrd, lpTop]; done))
  by_cases h2 : o = 1
  · refine lv_tableIn (tgt := 56) hx hb dX1_endOrTurn_1 (by rw [h2]; decide) (by rw [h2]; decide) (by rw [h2]; rfl) (by decide) ?_
    refine lv_aload_n hx hb dX1_endOrTurn_56 rfl (lv_at hl 0 rfl) ?_
    refine lv_aload_n hx hb dX1_endOrTurn_57 rfl (lv_at hl 0 rfl) ?_
    refine lv_aload_n hx hb dX1_endOrTurn_58 rfl (lv_at hl 0 rfl) ?_
    refine xr_call (st1 := [.int (lpIsc u), .ref h, .ref h]) (W.runV (As := []) (rest := [.ref h, .ref h]) ⟨hx, hb, hml, hown, hts⟩ (c_inServiceThatCounts l dC dI h u) (cwV 0 hts (gd_V wa_c k_ml_X1_56 k_im_X1_inServiceThatCounts k_se_X1_inServiceThatCounts k_in_X1 k_co_X1_inServiceThatCounts) rfl rfl rfl (by decide +kernel) ⟨Nat.le_of_ble_eq_true rfl, Nat.le_of_ble_eq_true rfl⟩) (xr_preV (q0 := 0) (C := RX1) hK hP xz_Z.nil rfl rfl) rfl rfl hl.1 rfl (lv_room (Nat.le_of_ble_eq_true rfl)) dX1_endOrTurn_59 ⟨Nat.zero_le _, Nat.zero_le _⟩) rfl ?_
    refine xr_call (st1 := [.int (lpHi u (lpIsc u)), .ref h]) (W.runV (As := [.int (lpIsc u)]) (rest := [.ref h]) ⟨hx, hb, hml, hown, hts⟩ (c_highestOf l dC dI h u (lpIsc u)) (cwV 1 hts (gd_V wa_c k_ml_X1_46 k_im_X1_highestOf k_se_X1_highestOf k_in_X1 k_co_X1_highestOf) rfl rfl rfl (by decide +kernel) ⟨Nat.le_of_ble_eq_true rfl, Nat.le_of_ble_eq_true rfl⟩) (xr_preV (q0 := 0) (C := RX1) hK hP xz_Z.nil rfl rfl) rfl rfl hl.1 rfl (lv_room (Nat.le_of_ble_eq_true rfl)) dX1_endOrTurn_62 ⟨Nat.zero_le _, Nat.zero_le _⟩) rfl ?_
    refine xc_call (wc := cw1 h u) (wr := []) (st1 := []) (va_runV (As := [.int (lpHi u (lpIsc u))]) (rest := []) ⟨hx, hb, hml, hown, hts⟩ (c_end l dC dI h s.heap.size u (lpHi u (lpIsc u))) (cwV 1 hts (gd_V wa_c k_ml_X1_109 k_im_X1_end k_se_X1_end k_in_X1 k_co_X1_end) rfl rfl rfl (by decide +kernel) ⟨Nat.le_of_ble_eq_true rfl, Nat.le_of_ble_eq_true rfl⟩) (xc_preV (q0 := 0) (C := RX1) hK hP hD xz_Z.nil rfl rfl) rfl rfl hl.1 rfl (lv_room (Nat.le_of_ble_eq_true rfl)) dX1_endOrTurn_65 ⟨Nat.zero_le _, Nat.zero_le _⟩) hP hD hS hA [0] [] rfl rfl (by decide) (by decide) rfl (fun H locs hP hD hS _ => ?_)
    have hP : va_P (dC, dI) vwCl (cw1 h (lpEnd u (lpHi u (lpIsc u)))) H := hP
    have hD : va_D A (cw1 h (lpEnd u (lpHi u (lpIsc u)))) := hD
    refine lv_goto (tgt := 115) hx hb dX1_endOrTurn_68 (by decide) ?_
    exact xc_vret (wf := cw1 h) hx hb hr hlocks dX1_endOrTurn_115 hK hP hD hS (by first | (simp only [lpOrd, lpTop, if_neg h1, if_pos h1, if_pos h2, if_neg (not_not_intro h2)]; done) | rfl | (simp only [lpOrd, lpTop]; simp only [if_neg h1, if_pos h1, if_pos h2, if_neg (not_not_intro h2)]; done) | (simp_all [lpOrd, lpTop]; done))
  by_cases h3 : o = 2
  · refine lv_tableIn (tgt := 115) hx hb dX1_endOrTurn_1 (by rw [h3]; decide) (by rw [h3]; decide) (by rw [h3]; rfl) (by decide) ?_
    exact xc_vret (wf := cw1 h) hx hb hr hlocks dX1_endOrTurn_115 hK hP hD hS (by first | (simp only [lpOrd, lpTop, if_neg h1, if_pos h1, if_neg h2, if_pos h2, if_pos h3, if_neg (not_not_intro h3)]; done) | rfl | (simp only [lpOrd, lpTop]; simp only [if_neg h1, if_pos h1, if_neg h2, if_pos h2, if_pos h3, if_neg (not_not_intro h3)]; done) | (simp_all [lpOrd, lpTop]; done))
  by_cases h4 : o = 3
  · refine lv_tableIn (tgt := 71) hx hb dX1_endOrTurn_1 (by rw [h4]; decide) (by rw [h4]; decide) (by rw [h4]; rfl) (by decide) ?_
    refine lv_aload_n hx hb dX1_endOrTurn_71 rfl (lv_at hl 0 rfl) ?_
    refine lv_iload_n hx hb dX1_endOrTurn_72 rfl (lv_at hl 2 rfl) ?_
    refine xc_call (wc := cw1 h u) (wr := []) (st1 := []) (va_runV (As := [.int k]) (rest := []) ⟨hx, hb, hml, hown, hts⟩ (c_end l dC dI h s.heap.size u k) (cwV 1 hts (gd_V wa_c k_ml_X1_109 k_im_X1_end k_se_X1_end k_in_X1 k_co_X1_end) rfl rfl rfl (by decide +kernel) ⟨Nat.le_of_ble_eq_true rfl, Nat.le_of_ble_eq_true rfl⟩) (xc_preV (q0 := 0) (C := RX1) hK hP hD xz_Z.nil rfl rfl) rfl rfl hl.1 rfl (lv_room (Nat.le_of_ble_eq_true rfl)) dX1_endOrTurn_73 ⟨Nat.zero_le _, Nat.zero_le _⟩) hP hD hS hA [0] [] rfl rfl (by decide) (by decide) rfl (fun H locs hP hD hS _ => ?_)
    have hP : va_P (dC, dI) vwCl (cw1 h (lpEnd u k)) H := hP
    have hD : va_D A (cw1 h (lpEnd u k)) := hD
    refine lv_goto (tgt := 115) hx hb dX1_endOrTurn_76 (by decide) ?_
    exact xc_vret (wf := cw1 h) hx hb hr hlocks dX1_endOrTurn_115 hK hP hD hS (by first | (simp only [lpOrd, lpTop, if_neg h1, if_pos h1, if_neg h2, if_pos h2, if_neg h3, if_pos h3, if_pos h4, if_neg (not_not_intro h4)]; done) | rfl | (simp only [lpOrd, lpTop]; simp only [if_neg h1, if_pos h1, if_neg h2, if_pos h2, if_neg h3, if_pos h3, if_pos h4, if_neg (not_not_intro h4)]; done) | (simp_all [lpOrd, lpTop]; done))
  by_cases h5 : o = 4
  · refine lv_tableIn (tgt := 79) hx hb dX1_endOrTurn_1 (by rw [h5]; decide) (by rw [h5]; decide) (by rw [h5]; rfl) (by decide) ?_
    refine lv_aload_n hx hb dX1_endOrTurn_79 rfl (lv_at hl 0 rfl) ?_
    refine lv_iconst (v := 1) hx hb dX1_endOrTurn_80 (by decide) ?_
    refine va_put (D := (dC, dI)) (ci := 1) (v := .int 1) (ty := .boolean) (C := RX1) (T := TX1) (N := 19) hx hb hts hin_RX1 tyX1 tyX1_ok nX1 hown hK hP hD hS 0 rfl rfl 15 (by decide) hlk_74 (fun _ h9 => h9) rfl (by decide +kernel) rfl rfl (Nat.le_of_ble_eq_true rfl) dX1_endOrTurn_81 (fun H locs hP hD hS => ?_)
    have hP : va_P (dC, dI) vwCl (cw1 h (upd u 15 1)) H := hP
    have hD : va_D A (cw1 h (upd u 15 1)) := hD
    refine lv_goto (tgt := 115) hx hb dX1_endOrTurn_84 (by decide) ?_
    exact xc_vret (wf := cw1 h) hx hb hr hlocks dX1_endOrTurn_115 hK hP hD hS (by first | (simp only [lpOrd, lpTop, if_neg h1, if_pos h1, if_neg h2, if_pos h2, if_neg h3, if_pos h3, if_neg h4, if_pos h4, if_pos h5, if_neg (not_not_intro h5)]; done) | rfl | (simp only [lpOrd, lpTop]; simp only [if_neg h1, if_pos h1, if_neg h2, if_pos h2, if_neg h3, if_pos h3, if_neg h4, if_pos h4, if_pos h5, if_neg (not_not_intro h5)]; done) | (simp_all [lpOrd, lpTop]; done))
  by_cases h6 : o = 5
  · refine lv_tableIn (tgt := 87) hx hb dX1_endOrTurn_1 (by rw [h6]; decide) (by rw [h6]; decide) (by rw [h6]; rfl) (by decide) ?_
    refine lv_aload_n hx hb dX1_endOrTurn_87 rfl (lv_at hl 0 rfl) ?_
    refine xc_call (wc := cw1 h u) (wr := []) (st1 := []) (va_runV (As := []) (rest := []) ⟨hx, hb, hml, hown, hts⟩ (c_endHighestAndTurn l dC dI h s.heap.size u) (cwV 0 hts (gd_V wa_c k_ml_X1_112 k_im_X1_endHighestAndTurn k_se_X1_endHighestAndTurn k_in_X1 k_co_X1_endHighestAndTurn) rfl rfl rfl (by decide +kernel) ⟨Nat.le_of_ble_eq_true rfl, Nat.le_of_ble_eq_true rfl⟩) (xc_preV (q0 := 0) (C := RX1) hK hP hD xz_Z.nil rfl rfl) rfl rfl hl.1 rfl (lv_room (Nat.le_of_ble_eq_true rfl)) dX1_endOrTurn_88 ⟨Nat.zero_le _, Nat.zero_le _⟩) hP hD hS hA [0] [] rfl rfl (by decide) (by decide) rfl (fun H locs hP hD hS _ => ?_)
    have hP : va_P (dC, dI) vwCl (cw1 h (lpEht u)) H := hP
    have hD : va_D A (cw1 h (lpEht u)) := hD
    refine lv_goto (tgt := 115) hx hb dX1_endOrTurn_91 (by decide) ?_
    exact xc_vret (wf := cw1 h) hx hb hr hlocks dX1_endOrTurn_115 hK hP hD hS (by first | (simp only [lpOrd, lpTop, if_neg h1, if_pos h1, if_neg h2, if_pos h2, if_neg h3, if_pos h3, if_neg h4, if_pos h4, if_neg h5, if_pos h5, if_pos h6, if_neg (not_not_intro h6)]; done) | rfl | (simp only [lpOrd, lpTop]; simp only [if_neg h1, if_pos h1, if_neg h2, if_pos h2, if_neg h3, if_pos h3, if_neg h4, if_pos h4, if_neg h5, if_pos h5, if_pos h6, if_neg (not_not_intro h6)]; done) | (simp_all [lpOrd, lpTop]; done))
  by_cases h7 : o = 6
  · refine lv_tableIn (tgt := 94) hx hb dX1_endOrTurn_1 (by rw [h7]; decide) (by rw [h7]; decide) (by rw [h7]; rfl) (by decide) ?_
    refine lv_aload_n hx hb dX1_endOrTurn_94 rfl (lv_at hl 0 rfl) ?_
    refine lv_iload_n hx hb dX1_endOrTurn_95 rfl (lv_at hl 2 rfl) ?_
    refine va_put (D := (dC, dI)) (ci := 1) (v := .int k) (ty := .int) (C := RX1) (T := TX1) (N := 19) hx hb hts hin_RX1 tyX1 tyX1_ok nX1 hown hK hP hD hS 0 rfl rfl 5 (by decide) hlk_15 (fun _ h9 => h9) rfl (by decide +kernel) rfl rfl (Nat.le_of_ble_eq_true rfl) dX1_endOrTurn_96 (fun H locs hP hD hS => ?_)
    have hP : va_P (dC, dI) vwCl (cw1 h (upd u 5 k)) H := hP
    have hD : va_D A (cw1 h (upd u 5 k)) := hD
    refine lv_goto (tgt := 115) hx hb dX1_endOrTurn_99 (by decide) ?_
    exact xc_vret (wf := cw1 h) hx hb hr hlocks dX1_endOrTurn_115 hK hP hD hS (by first | (simp only [lpOrd, lpTop, if_neg h1, if_pos h1, if_neg h2, if_pos h2, if_neg h3, if_pos h3, if_neg h4, if_pos h4, if_neg h5, if_pos h5, if_neg h6, if_pos h6, if_pos h7, if_neg (not_not_intro h7)]; done) | rfl | (simp only [lpOrd, lpTop]; simp only [if_neg h1, if_pos h1, if_neg h2, if_pos h2, if_neg h3, if_pos h3, if_neg h4, if_pos h4, if_neg h5, if_pos h5, if_neg h6, if_pos h6, if_pos h7, if_neg (not_not_intro h7)]; done) | (simp_all [lpOrd, lpTop]; done))
  by_cases h8 : o = 7
  · refine lv_tableIn (tgt := 102) hx hb dX1_endOrTurn_1 (by rw [h8]; decide) (by rw [h8]; decide) (by rw [h8]; rfl) (by decide) ?_
    refine lv_aload_n hx hb dX1_endOrTurn_102 rfl (lv_at hl 0 rfl) ?_
    refine lv_iload_n hx hb dX1_endOrTurn_103 rfl (lv_at hl 2 rfl) ?_
    refine xc_call (wc := cw1 h u) (wr := []) (st1 := []) (va_runV (As := [.int k]) (rest := []) ⟨hx, hb, hml, hown, hts⟩ (c_end l dC dI h s.heap.size u k) (cwV 1 hts (gd_V wa_c k_ml_X1_109 k_im_X1_end k_se_X1_end k_in_X1 k_co_X1_end) rfl rfl rfl (by decide +kernel) ⟨Nat.le_of_ble_eq_true rfl, Nat.le_of_ble_eq_true rfl⟩) (xc_preV (q0 := 0) (C := RX1) hK hP hD xz_Z.nil rfl rfl) rfl rfl hl.1 rfl (lv_room (Nat.le_of_ble_eq_true rfl)) dX1_endOrTurn_104 ⟨Nat.zero_le _, Nat.zero_le _⟩) hP hD hS hA [0] [] rfl rfl (by decide) (by decide) rfl (fun H locs hP hD hS _ => ?_)
    have hP : va_P (dC, dI) vwCl (cw1 h (lpEnd u k)) H := hP
    have hD : va_D A (cw1 h (lpEnd u k)) := hD
    refine lv_aload_n hx hb dX1_endOrTurn_107 rfl (lv_at hl 0 rfl) ?_
    refine lv_iload_n hx hb dX1_endOrTurn_108 rfl (lv_at hl 2 rfl) ?_
    refine va_put (D := (dC, dI)) (ci := 1) (v := .int k) (ty := .int) (C := RX1) (T := TX1) (N := 19) hx hb hts hin_RX1 tyX1 tyX1_ok nX1 hown hK hP hD hS 0 rfl rfl 5 (by decide) hlk_15 (fun _ h9 => h9) rfl (by decide +kernel) rfl rfl (Nat.le_of_ble_eq_true rfl) dX1_endOrTurn_109 (fun H locs hP hD hS => ?_)
    have hP : va_P (dC, dI) vwCl (cw1 h (upd (lpEnd u k) 5 k)) H := hP
    have hD : va_D A (cw1 h (upd (lpEnd u k) 5 k)) := hD
    refine lv_goto (tgt := 115) hx hb dX1_endOrTurn_112 (by decide) ?_
    exact xc_vret (wf := cw1 h) hx hb hr hlocks dX1_endOrTurn_115 hK hP hD hS (by first | (simp only [lpOrd, lpTop, if_neg h1, if_pos h1, if_neg h2, if_pos h2, if_neg h3, if_pos h3, if_neg h4, if_pos h4, if_neg h5, if_pos h5, if_neg h6, if_pos h6, if_neg h7, if_pos h7, if_pos h8, if_neg (not_not_intro h8)]; done) | rfl | (simp only [lpOrd, lpTop]; simp only [if_neg h1, if_pos h1, if_neg h2, if_pos h2, if_neg h3, if_pos h3, if_neg h4, if_pos h4, if_neg h5, if_pos h5, if_neg h6, if_pos h6, if_neg h7, if_pos h7, if_pos h8, if_neg (not_not_intro h8)]; done) | (simp_all [lpOrd, lpTop]; done))
  refine lv_tableOut (tgt := 115) hx hb dX1_endOrTurn_1 (by have q0 := lv_neT (a := 0) h1 (by decide); have q1 := lv_neT (a := 1) h2 (by decide); have q2 := lv_neT (a := 2) h3 (by decide); have q3 := lv_neT (a := 3) h4 (by decide); have q4 := lv_neT (a := 4) h5 (by decide); have q5 := lv_neT (a := 5) h6 (by decide); have q6 := lv_neT (a := 6) h7 (by decide); have q7 := lv_neT (a := 7) h8 (by decide); omega) (by decide) ?_
  exact xc_vret (wf := cw1 h) hx hb hr hlocks dX1_endOrTurn_115 hK hP hD hS (by first | (simp only [lpOrd, lpTop, if_neg h1, if_pos h1, if_neg h2, if_pos h2, if_neg h3, if_pos h3, if_neg h4, if_pos h4, if_neg h5, if_pos h5, if_neg h6, if_pos h6, if_neg h7, if_pos h7, if_neg h8, if_pos h8]; done) | rfl | (simp only [lpOrd, lpTop]; simp only [if_neg h1, if_pos h1, if_neg h2, if_pos h2, if_neg h3, if_pos h3, if_neg h4, if_pos h4, if_neg h5, if_pos h5, if_neg h6, if_pos h6, if_neg h7, if_pos h7, if_neg h8, if_pos h8]; done) | (simp_all [lpOrd, lpTop]; done))

set_option maxHeartbeats 4000000 in
set_option maxRecDepth 100000 in
theorem c_acceptAtPort0 (l : Launch) (dC : Nat → ClassId) (dI : Nat → Nat → Nat) (h : Nat) (sz : Nat) (u : Nat → Int32) (w : Int32) : xc_M l yX1_acceptAtPort0 wsX1_acceptAtPort0 ({ frames := 4, cells := 0, slots := 0, locals := 87 }) [.ref h, .int w] sz (dC, dI) vwCl [] [] (cw1 h u) none (cw1 h (lpP0 u w)) 0 0 := by
  refine Met.ofW (cc := cX1_acceptAtPort0) (maxL := 2) (ret := none) (by decide) rfl ?_
  intro p e s m args below meth c s₁ B hml hv
  obtain ⟨rfl, hsz, hP, hK, hD0, hZ⟩ := hv
  have hx := B.exec
  have hb := B.bytes
  have hr := B.returns
  have hts := atoms_spec (ws := wsX1_acceptAtPort0) B.pre
  have hown : s.vm.findClass RX1 = some m.cls := findClass_of_methodNamed B.named
  have hlocks := B.notSynchronized
  subst hsz
  have hD := hD0.self (sz := s.heap.size)
  generalize hAe : va_A (cw1 h u) s.heap.size = A at hD ⊢
  have hA : ∀ q : Nat, s.heap.size ≤ q → A q := fun q h => by rw [← hAe]; exact Or.inr h
  have hS : va_S A s.heap s.heap [] := va_S.rf
  have hl := lv_entry ([.ref h, .int w]) (n := 2) (Nat.le_of_ble_eq_true rfl)
  rw [lg_entry_eq]
  generalize (lg_sl ([.ref h, .int w]) ++ List.replicate (2 - (lg_sl ([.ref h, .int w])).length) Slot.unset).toArray = ls at hl ⊢
  have hl : lv_has ls 2 [(0, .ref h), (1, .int w)] := hl
  refine lv_iload_n hx hb dX1_acceptAtPort0_0 rfl (lv_at hl 1 rfl) ?_
  refine lv_iconst (v := 4) hx hb dX1_acceptAtPort0_1 (by decide) ?_
  refine xr_call (st1 := [.int (lpHas w 4)]) (W.runS (As := [.int w, .int 4]) (rest := []) ⟨hx, hb, hml, hown, hts⟩ (c_hasBit l dC dI w 4) (cwS 2 hts (gd_S wa_c k_ml_X1_21 k_st_X1_hasBit k_in_X1 k_co_X1_hasBit) rfl rfl rfl (by decide +kernel) ⟨Nat.le_of_ble_eq_true rfl, Nat.le_of_ble_eq_true rfl⟩) (xr_preS hK (hP.sub (ws' := []) [] rfl) xz_Z.nil) rfl rfl hl.1 rfl (lv_room (Nat.le_of_ble_eq_true rfl)) dX1_acceptAtPort0_2 ⟨Nat.zero_le _, Nat.zero_le _⟩) rfl ?_
  refine lv_if_eq (tgt := 16) hx hb dX1_acceptAtPort0_5 (by decide) (fun h1 => ?_) (fun h1 => ?_)
  · refine lv_iload_n hx hb dX1_acceptAtPort0_16 rfl (lv_at hl 1 rfl) ?_
    refine lv_iconst (v := 3) hx hb dX1_acceptAtPort0_17 (by decide) ?_
    refine xr_call (st1 := [.int (lpHas w 3)]) (W.runS (As := [.int w, .int 3]) (rest := []) ⟨hx, hb, hml, hown, hts⟩ (c_hasBit l dC dI w 3) (cwS 2 hts (gd_S wa_c k_ml_X1_21 k_st_X1_hasBit k_in_X1 k_co_X1_hasBit) rfl rfl rfl (by decide +kernel) ⟨Nat.le_of_ble_eq_true rfl, Nat.le_of_ble_eq_true rfl⟩) (xr_preS hK (hP.sub (ws' := []) [] rfl) xz_Z.nil) rfl rfl hl.1 rfl (lv_room (Nat.le_of_ble_eq_true rfl)) dX1_acceptAtPort0_18 ⟨Nat.zero_le _, Nat.zero_le _⟩) rfl ?_
    refine lv_if_eq (tgt := 32) hx hb dX1_acceptAtPort0_21 (by decide) (fun h2 => ?_) (fun h2 => ?_)
    · refine lv_aload_n hx hb dX1_acceptAtPort0_32 rfl (lv_at hl 0 rfl) ?_
      refine lv_iload_n hx hb dX1_acceptAtPort0_33 rfl (lv_at hl 1 rfl) ?_
      refine lv_iconst (v := 5) hx hb dX1_acceptAtPort0_34 (by decide) ?_
      refine lv_ishr hx hb dX1_acceptAtPort0_35 ?_
      refine lv_iload_n hx hb dX1_acceptAtPort0_36 rfl (lv_at hl 1 rfl) ?_
      refine lv_bipush (v := 7) hx hb dX1_acceptAtPort0_37 (by decide) ?_
      refine lv_iand hx hb dX1_acceptAtPort0_39 ?_
      refine xc_call (wc := cw1 h u) (wr := []) (st1 := []) (va_runV (As := [.int (w >>> ((5 : Int32) &&& 31)), .int (w &&& 7)]) (rest := []) ⟨hx, hb, hml, hown, hts⟩ (c_endOrTurn l dC dI h s.heap.size u (w >>> ((5 : Int32) &&& 31)) (w &&& 7)) (cwV 2 hts (gd_V wa_c k_ml_X1_99 k_im_X1_endOrTurn k_se_X1_endOrTurn k_in_X1 k_co_X1_endOrTurn) rfl rfl rfl (by decide +kernel) ⟨Nat.le_of_ble_eq_true rfl, Nat.le_of_ble_eq_true rfl⟩) (xc_preV (q0 := 0) (C := RX1) hK hP hD xz_Z.nil rfl rfl) rfl rfl hl.1 rfl (lv_room (Nat.le_of_ble_eq_true rfl)) dX1_acceptAtPort0_40 ⟨Nat.zero_le _, Nat.zero_le _⟩) hP hD hS hA [0] [] rfl rfl (by decide) (by decide) rfl (fun H locs hP hD hS _ => ?_)
      have hP : va_P (dC, dI) vwCl (cw1 h (lpOrd u (w >>> ((5 : Int32) &&& 31)) (w &&& 7))) H := hP
      have hD : va_D A (cw1 h (lpOrd u (w >>> ((5 : Int32) &&& 31)) (w &&& 7))) := hD
      exact xc_vret (wf := cw1 h) hx hb hr hlocks dX1_acceptAtPort0_43 hK hP hD hS (by first | (simp only [lpP0, if_pos h1, if_neg (not_not_intro h1), if_pos h2, if_neg (not_not_intro h2)]; done) | rfl | (simp only [lpP0]; simp only [if_pos h1, if_neg (not_not_intro h1), if_pos h2, if_neg (not_not_intro h2)]; done) | (simp_all [lpP0]; done))
    · refine lv_aload_n hx hb dX1_acceptAtPort0_24 rfl (lv_at hl 0 rfl) ?_
      refine lv_iload_n hx hb dX1_acceptAtPort0_25 rfl (lv_at hl 1 rfl) ?_
      refine xc_call (wc := cw1 h u) (wr := []) (st1 := []) (va_runV (As := [.int w]) (rest := []) ⟨hx, hb, hml, hown, hts⟩ (c_choose l dC dI h s.heap.size u w) (cwV 1 hts (gd_V wa_c k_ml_X1_96 k_im_X1_choose k_se_X1_choose k_in_X1 k_co_X1_choose) rfl rfl rfl (by decide +kernel) ⟨Nat.le_of_ble_eq_true rfl, Nat.le_of_ble_eq_true rfl⟩) (xc_preV (q0 := 0) (C := RX1) hK hP hD xz_Z.nil rfl rfl) rfl rfl hl.1 rfl (lv_room (Nat.le_of_ble_eq_true rfl)) dX1_acceptAtPort0_26 ⟨Nat.zero_le _, Nat.zero_le _⟩) hP hD hS hA [0] [] rfl rfl (by decide) (by decide) rfl (fun H locs hP hD hS _ => ?_)
      have hP : va_P (dC, dI) vwCl (cw1 h (lpChoose u w)) H := hP
      have hD : va_D A (cw1 h (lpChoose u w)) := hD
      refine lv_goto (tgt := 43) hx hb dX1_acceptAtPort0_29 (by decide) ?_
      exact xc_vret (wf := cw1 h) hx hb hr hlocks dX1_acceptAtPort0_43 hK hP hD hS (by first | (simp only [lpP0, if_pos h1, if_neg (not_not_intro h1), if_neg h2, if_pos h2]; done) | rfl | (simp only [lpP0]; simp only [if_pos h1, if_neg (not_not_intro h1), if_neg h2, if_pos h2]; done) | (simp_all [lpP0]; done))
  · refine lv_aload_n hx hb dX1_acceptAtPort0_8 rfl (lv_at hl 0 rfl) ?_
    refine lv_iload_n hx hb dX1_acceptAtPort0_9 rfl (lv_at hl 1 rfl) ?_
    refine xc_call (wc := cw1 h u) (wr := []) (st1 := []) (va_runV (As := [.int w]) (rest := []) ⟨hx, hb, hml, hown, hts⟩ (c_begin l dC dI h s.heap.size u w) (cwV 1 hts (gd_V wa_c k_ml_X1_92 k_im_X1_begin k_se_X1_begin k_in_X1 k_co_X1_begin) rfl rfl rfl (by decide +kernel) ⟨Nat.le_of_ble_eq_true rfl, Nat.le_of_ble_eq_true rfl⟩) (xc_preV (q0 := 0) (C := RX1) hK hP hD xz_Z.nil rfl rfl) rfl rfl hl.1 rfl (lv_room (Nat.le_of_ble_eq_true rfl)) dX1_acceptAtPort0_10 ⟨Nat.zero_le _, Nat.zero_le _⟩) hP hD hS hA [0] [] rfl rfl (by decide) (by decide) rfl (fun H locs hP hD hS _ => ?_)
    have hP : va_P (dC, dI) vwCl (cw1 h (lpBegin u w)) H := hP
    have hD : va_D A (cw1 h (lpBegin u w)) := hD
    refine lv_goto (tgt := 43) hx hb dX1_acceptAtPort0_13 (by decide) ?_
    exact xc_vret (wf := cw1 h) hx hb hr hlocks dX1_acceptAtPort0_43 hK hP hD hS (by first | (simp only [lpP0, if_neg h1, if_pos h1]; done) | rfl | (simp only [lpP0]; simp only [if_neg h1, if_pos h1]; done) | (simp_all [lpP0]; done))

set_option maxHeartbeats 4000000 in
set_option maxRecDepth 100000 in
theorem c_acceptAtPort1 (l : Launch) (dC : Nat → ClassId) (dI : Nat → Nat → Nat) (h : Nat) (sz : Nat) (u : Nat → Int32) (w : Int32) : xc_M l yX1_acceptAtPort1 wsX1_acceptAtPort1 ({ frames := 1, cells := 0, slots := 0, locals := 21 }) [.ref h, .int w] sz (dC, dI) vwCl [] [] (cw1 h u) none (cw1 h (lpP1 u w)) 0 0 := by
  refine Met.ofW (cc := cX1_acceptAtPort1) (maxL := 2) (ret := none) (by decide) rfl ?_
  intro p e s m args below meth c s₁ B hml hv
  obtain ⟨rfl, hsz, hP, hK, hD0, hZ⟩ := hv
  have hx := B.exec
  have hb := B.bytes
  have hr := B.returns
  have hts := atoms_spec (ws := wsX1_acceptAtPort1) B.pre
  have hown : s.vm.findClass RX1 = some m.cls := findClass_of_methodNamed B.named
  have hlocks := B.notSynchronized
  subst hsz
  have hD := hD0.self (sz := s.heap.size)
  generalize hAe : va_A (cw1 h u) s.heap.size = A at hD ⊢
  have hA : ∀ q : Nat, s.heap.size ≤ q → A q := fun q h => by rw [← hAe]; exact Or.inr h
  have hS : va_S A s.heap s.heap [] := va_S.rf
  have hin_RX1 : ∀ w ∈ u_ws RX1 TX1 19, w ∈ wsX1_acceptAtPort1 := fun w h => List.mem_cons_of_mem _ (u_X1 w h)
  have hlk_36 := hts _ (List.mem_cons_of_mem _ k_fl_X1_36)
  have hlk_43 := hts _ (List.mem_cons_of_mem _ k_fl_X1_43)
  have hlk_59 := hts _ (List.mem_cons_of_mem _ k_fl_X1_59)
  have hlk_71 := hts _ (List.mem_cons_of_mem _ k_fl_X1_71)
  have hlk_80 := hts _ (List.mem_cons_of_mem _ k_fl_X1_80)
  have hlk_103 := hts _ (List.mem_cons_of_mem _ k_fl_X1_103)
  have hlk_106 := hts _ (List.mem_cons_of_mem _ k_fl_X1_106)
  have hl := lv_entry ([.ref h, .int w]) (n := 2) (Nat.le_of_ble_eq_true rfl)
  rw [lg_entry_eq]
  generalize (lg_sl ([.ref h, .int w]) ++ List.replicate (2 - (lg_sl ([.ref h, .int w])).length) Slot.unset).toArray = ls at hl ⊢
  have hl : lv_has ls 2 [(0, .ref h), (1, .int w)] := hl
  refine lv_aload_n hx hb dX1_acceptAtPort1_0 rfl (lv_at hl 0 rfl) ?_
  refine va_get (D := (dC, dI)) (ci := 1) (v := .int (u 7)) (C := RX1) (T := TX1) (N := 19) hx hb hts hin_RX1 hown hK hP 0 rfl rfl 7 (by decide) hlk_103 (fun _ h9 => h9) rfl dX1_acceptAtPort1_1 ?_
  by_cases h1 : u 7 = 2
  · refine lv_tableIn (tgt := 32) hx hb dX1_acceptAtPort1_4 (by rw [h1]; decide) (by rw [h1]; decide) (by rw [h1]; rfl) (by decide) ?_
    refine lv_aload_n hx hb dX1_acceptAtPort1_32 rfl (lv_at hl 0 rfl) ?_
    refine lv_iload_n hx hb dX1_acceptAtPort1_33 rfl (lv_at hl 1 rfl) ?_
    refine lv_sipush (v := 248) hx hb dX1_acceptAtPort1_34 (by decide) ?_
    refine lv_iand hx hb dX1_acceptAtPort1_37 ?_
    refine va_put (D := (dC, dI)) (ci := 1) (v := .int (w &&& 248)) (ty := .int) (C := RX1) (T := TX1) (N := 19) hx hb hts hin_RX1 tyX1 tyX1_ok nX1 hown hK hP hD hS 0 rfl rfl 6 (by decide) hlk_80 (fun _ h9 => h9) rfl (by decide +kernel) rfl rfl (Nat.le_of_ble_eq_true rfl) dX1_acceptAtPort1_38 (fun H locs hP hD hS => ?_)
    have hP : va_P (dC, dI) vwCl (cw1 h (upd u 6 (w &&& 248))) H := hP
    have hD : va_D A (cw1 h (upd u 6 (w &&& 248))) := hD
    refine lv_aload_n hx hb dX1_acceptAtPort1_41 rfl (lv_at hl 0 rfl) ?_
    refine lv_iconst (v := 3) hx hb dX1_acceptAtPort1_42 (by decide) ?_
    refine va_put (D := (dC, dI)) (ci := 1) (v := .int 3) (ty := .int) (C := RX1) (T := TX1) (N := 19) hx hb hts hin_RX1 tyX1 tyX1_ok nX1 hown hK hP hD hS 0 rfl rfl 7 (by decide) hlk_103 (fun _ h9 => h9) rfl (by decide +kernel) rfl rfl (Nat.le_of_ble_eq_true rfl) dX1_acceptAtPort1_43 (fun H locs hP hD hS => ?_)
    have hP : va_P (dC, dI) vwCl (cw1 h (upd (upd u 6 (w &&& 248)) 7 3)) H := hP
    have hD : va_D A (cw1 h (upd (upd u 6 (w &&& 248)) 7 3)) := hD
    refine lv_goto (tgt := 120) hx hb dX1_acceptAtPort1_46 (by decide) ?_
    exact xc_vret (wf := cw1 h) hx hb hr hlocks dX1_acceptAtPort1_120 hK hP hD hS (by first | (simp only [lpP1, if_pos h1, if_neg (not_not_intro h1)]; done) | rfl | (simp only [lpP1]; simp only [if_pos h1, if_neg (not_not_intro h1)]; done) | (simp_all [lpP1]; done))
  by_cases h2 : u 7 = 3
  · refine lv_tableIn (tgt := 49) hx hb dX1_acceptAtPort1_4 (by rw [h2]; decide) (by rw [h2]; decide) (by rw [h2]; rfl) (by decide) ?_
    refine lv_aload_n hx hb dX1_acceptAtPort1_49 rfl (lv_at hl 0 rfl) ?_
    refine lv_aload_n hx hb dX1_acceptAtPort1_50 rfl (lv_at hl 0 rfl) ?_
    refine va_get (D := (dC, dI)) (ci := 1) (v := .int (u 9)) (C := RX1) (T := TX1) (N := 19) hx hb hts hin_RX1 hown hK hP 0 rfl rfl 9 (by decide) hlk_106 (fun _ h9 => h9) rfl dX1_acceptAtPort1_51 ?_
    refine lv_if_eq (tgt := 61) hx hb dX1_acceptAtPort1_54 (by decide) (fun h3 => ?_) (fun h3 => ?_)
    · refine lv_iconst (v := 0) hx hb dX1_acceptAtPort1_61 (by decide) ?_
      refine va_put (D := (dC, dI)) (ci := 1) (v := .int 0) (ty := .int) (C := RX1) (T := TX1) (N := 19) hx hb hts hin_RX1 tyX1 tyX1_ok nX1 hown hK hP hD hS 0 rfl rfl 7 (by decide) hlk_103 (fun _ h9 => h9) rfl (by decide +kernel) rfl rfl (Nat.le_of_ble_eq_true rfl) dX1_acceptAtPort1_62 (fun H locs hP hD hS => ?_)
      have hP : va_P (dC, dI) vwCl (cw1 h (upd u 7 0)) H := hP
      have hD : va_D A (cw1 h (upd u 7 0)) := hD
      refine lv_aload_n hx hb dX1_acceptAtPort1_65 rfl (lv_at hl 0 rfl) ?_
      refine lv_aload_n hx hb dX1_acceptAtPort1_66 rfl (lv_at hl 0 rfl) ?_
      refine va_get (D := (dC, dI)) (ci := 1) (v := .int (u 9)) (C := RX1) (T := TX1) (N := 19) hx hb hts hin_RX1 hown hK hP 0 rfl rfl 9 (by decide) hlk_106 (fun _ h9 => h9) rfl dX1_acceptAtPort1_67 ?_
      refine lv_if_ne (tgt := 77) hx hb dX1_acceptAtPort1_70 (by decide) (fun h => absurd h3 h) (fun _ => ?_)
      refine lv_iconst (v := 1) hx hb dX1_acceptAtPort1_73 (by decide) ?_
      refine lv_goto (tgt := 78) hx hb dX1_acceptAtPort1_74 (by decide) ?_
      refine va_put (D := (dC, dI)) (ci := 1) (v := .int 1) (ty := .boolean) (C := RX1) (T := TX1) (N := 19) hx hb hts hin_RX1 tyX1 tyX1_ok nX1 hown hK hP hD hS 0 rfl rfl 10 (by decide) hlk_36 (fun _ h9 => h9) rfl (by decide +kernel) rfl rfl (Nat.le_of_ble_eq_true rfl) dX1_acceptAtPort1_78 (fun H locs hP hD hS => ?_)
      have hP : va_P (dC, dI) vwCl (cw1 h (upd (upd u 7 0) 10 1)) H := hP
      have hD : va_D A (cw1 h (upd (upd u 7 0) 10 1)) := hD
      refine lv_goto (tgt := 120) hx hb dX1_acceptAtPort1_81 (by decide) ?_
      exact xc_vret (wf := cw1 h) hx hb hr hlocks dX1_acceptAtPort1_120 hK hP hD hS (by first | (simp only [lpP1, if_neg h1, if_pos h1, if_pos h2, if_neg (not_not_intro h2), if_pos h3, if_neg (not_not_intro h3)]; done) | rfl | (simp only [lpP1]; simp only [if_neg h1, if_pos h1, if_pos h2, if_neg (not_not_intro h2), if_pos h3, if_neg (not_not_intro h3)]; done) | (simp_all [lpP1]; done))
    · refine lv_iconst (v := 4) hx hb dX1_acceptAtPort1_57 (by decide) ?_
      refine lv_goto (tgt := 62) hx hb dX1_acceptAtPort1_58 (by decide) ?_
      refine va_put (D := (dC, dI)) (ci := 1) (v := .int 4) (ty := .int) (C := RX1) (T := TX1) (N := 19) hx hb hts hin_RX1 tyX1 tyX1_ok nX1 hown hK hP hD hS 0 rfl rfl 7 (by decide) hlk_103 (fun _ h9 => h9) rfl (by decide +kernel) rfl rfl (Nat.le_of_ble_eq_true rfl) dX1_acceptAtPort1_62 (fun H locs hP hD hS => ?_)
      have hP : va_P (dC, dI) vwCl (cw1 h (upd u 7 4)) H := hP
      have hD : va_D A (cw1 h (upd u 7 4)) := hD
      refine lv_aload_n hx hb dX1_acceptAtPort1_65 rfl (lv_at hl 0 rfl) ?_
      refine lv_aload_n hx hb dX1_acceptAtPort1_66 rfl (lv_at hl 0 rfl) ?_
      refine va_get (D := (dC, dI)) (ci := 1) (v := .int (u 9)) (C := RX1) (T := TX1) (N := 19) hx hb hts hin_RX1 hown hK hP 0 rfl rfl 9 (by decide) hlk_106 (fun _ h9 => h9) rfl dX1_acceptAtPort1_67 ?_
      refine lv_if_ne (tgt := 77) hx hb dX1_acceptAtPort1_70 (by decide) (fun _ => ?_) (fun h => absurd h h3)
      refine lv_iconst (v := 0) hx hb dX1_acceptAtPort1_77 (by decide) ?_
      refine va_put (D := (dC, dI)) (ci := 1) (v := .int 0) (ty := .boolean) (C := RX1) (T := TX1) (N := 19) hx hb hts hin_RX1 tyX1 tyX1_ok nX1 hown hK hP hD hS 0 rfl rfl 10 (by decide) hlk_36 (fun _ h9 => h9) rfl (by decide +kernel) rfl rfl (Nat.le_of_ble_eq_true rfl) dX1_acceptAtPort1_78 (fun H locs hP hD hS => ?_)
      have hP : va_P (dC, dI) vwCl (cw1 h (upd (upd u 7 4) 10 0)) H := hP
      have hD : va_D A (cw1 h (upd (upd u 7 4) 10 0)) := hD
      refine lv_goto (tgt := 120) hx hb dX1_acceptAtPort1_81 (by decide) ?_
      exact xc_vret (wf := cw1 h) hx hb hr hlocks dX1_acceptAtPort1_120 hK hP hD hS (by first | (simp only [lpP1, if_neg h1, if_pos h1, if_pos h2, if_neg (not_not_intro h2), if_neg h3, if_pos h3]; done) | rfl | (simp only [lpP1]; simp only [if_neg h1, if_pos h1, if_pos h2, if_neg (not_not_intro h2), if_neg h3, if_pos h3]; done) | (simp_all [lpP1]; done))
  by_cases h4 : u 7 = 4
  · refine lv_tableIn (tgt := 84) hx hb dX1_acceptAtPort1_4 (by rw [h4]; decide) (by rw [h4]; decide) (by rw [h4]; rfl) (by decide) ?_
    refine lv_aload_n hx hb dX1_acceptAtPort1_84 rfl (lv_at hl 0 rfl) ?_
    refine lv_iload_n hx hb dX1_acceptAtPort1_85 rfl (lv_at hl 1 rfl) ?_
    refine lv_iconst (v := 1) hx hb dX1_acceptAtPort1_86 (by decide) ?_
    refine xr_call (st1 := [.int (lpHas w 1), .ref h]) (W.runS (As := [.int w, .int 1]) (rest := [.ref h]) ⟨hx, hb, hml, hown, hts⟩ (c_hasBit l dC dI w 1) (cwS 2 hts (gd_S wa_c k_ml_X1_21 k_st_X1_hasBit k_in_X1 k_co_X1_hasBit) rfl rfl rfl (by decide +kernel) ⟨Nat.le_of_ble_eq_true rfl, Nat.le_of_ble_eq_true rfl⟩) (xr_preS hK (hP.sub (ws' := []) [] rfl) xz_Z.nil) rfl rfl hl.1 rfl (lv_room (Nat.le_of_ble_eq_true rfl)) dX1_acceptAtPort1_87 ⟨Nat.zero_le _, Nat.zero_le _⟩) rfl ?_
    refine va_put (D := (dC, dI)) (ci := 1) (v := .int (lpHas w 1)) (ty := .boolean) (C := RX1) (T := TX1) (N := 19) hx hb hts hin_RX1 tyX1 tyX1_ok nX1 hown hK hP hD hS 0 rfl rfl 14 (by decide) hlk_71 (fun _ h9 => h9) rfl (by decide +kernel) (lpHas_nar _ _) (lpHas_fit _ _) (Nat.le_of_ble_eq_true rfl) dX1_acceptAtPort1_90 (fun H locs hP hD hS => ?_)
    have hP : va_P (dC, dI) vwCl (cw1 h (upd u 14 (lpHas w 1))) H := hP
    have hD : va_D A (cw1 h (upd u 14 (lpHas w 1))) := hD
    refine lv_aload_n hx hb dX1_acceptAtPort1_93 rfl (lv_at hl 0 rfl) ?_
    refine lv_iload_n hx hb dX1_acceptAtPort1_94 rfl (lv_at hl 1 rfl) ?_
    refine lv_iconst (v := 4) hx hb dX1_acceptAtPort1_95 (by decide) ?_
    refine xr_call (st1 := [.int (lpHas w 4), .ref h]) (W.runS (As := [.int w, .int 4]) (rest := [.ref h]) ⟨hx, hb, hml, hown, hts⟩ (c_hasBit l dC dI w 4) (cwS 2 hts (gd_S wa_c k_ml_X1_21 k_st_X1_hasBit k_in_X1 k_co_X1_hasBit) rfl rfl rfl (by decide +kernel) ⟨Nat.le_of_ble_eq_true rfl, Nat.le_of_ble_eq_true rfl⟩) (xr_preS hK (hP.sub (ws' := []) [] rfl) xz_Z.nil) rfl rfl hl.1 rfl (lv_room (Nat.le_of_ble_eq_true rfl)) dX1_acceptAtPort1_96 ⟨Nat.zero_le _, Nat.zero_le _⟩) rfl ?_
    refine va_put (D := (dC, dI)) (ci := 1) (v := .int (lpHas w 4)) (ty := .boolean) (C := RX1) (T := TX1) (N := 19) hx hb hts hin_RX1 tyX1 tyX1_ok nX1 hown hK hP hD hS 0 rfl rfl 13 (by decide) hlk_59 (fun _ h9 => h9) rfl (by decide +kernel) (lpHas_nar _ _) (lpHas_fit _ _) (Nat.le_of_ble_eq_true rfl) dX1_acceptAtPort1_99 (fun H locs hP hD hS => ?_)
    have hP : va_P (dC, dI) vwCl (cw1 h (upd (upd u 14 (lpHas w 1)) 13 (lpHas w 4))) H := hP
    have hD : va_D A (cw1 h (upd (upd u 14 (lpHas w 1)) 13 (lpHas w 4))) := hD
    refine lv_aload_n hx hb dX1_acceptAtPort1_102 rfl (lv_at hl 0 rfl) ?_
    refine lv_iconst (v := 0) hx hb dX1_acceptAtPort1_103 (by decide) ?_
    refine va_put (D := (dC, dI)) (ci := 1) (v := .int 0) (ty := .int) (C := RX1) (T := TX1) (N := 19) hx hb hts hin_RX1 tyX1 tyX1_ok nX1 hown hK hP hD hS 0 rfl rfl 7 (by decide) hlk_103 (fun _ h9 => h9) rfl (by decide +kernel) rfl rfl (Nat.le_of_ble_eq_true rfl) dX1_acceptAtPort1_104 (fun H locs hP hD hS => ?_)
    have hP : va_P (dC, dI) vwCl (cw1 h (upd (upd (upd u 14 (lpHas w 1)) 13 (lpHas w 4)) 7 0)) H := hP
    have hD : va_D A (cw1 h (upd (upd (upd u 14 (lpHas w 1)) 13 (lpHas w 4)) 7 0)) := hD
    refine lv_aload_n hx hb dX1_acceptAtPort1_107 rfl (lv_at hl 0 rfl) ?_
    refine lv_iconst (v := 1) hx hb dX1_acceptAtPort1_108 (by decide) ?_
    refine va_put (D := (dC, dI)) (ci := 1) (v := .int 1) (ty := .boolean) (C := RX1) (T := TX1) (N := 19) hx hb hts hin_RX1 tyX1 tyX1_ok nX1 hown hK hP hD hS 0 rfl rfl 10 (by decide) hlk_36 (fun _ h9 => h9) rfl (by decide +kernel) rfl rfl (Nat.le_of_ble_eq_true rfl) dX1_acceptAtPort1_109 (fun H locs hP hD hS => ?_)
    have hP : va_P (dC, dI) vwCl (cw1 h (upd (upd (upd (upd u 14 (lpHas w 1)) 13 (lpHas w 4)) 7 0) 10 1)) H := hP
    have hD : va_D A (cw1 h (upd (upd (upd (upd u 14 (lpHas w 1)) 13 (lpHas w 4)) 7 0) 10 1)) := hD
    refine lv_goto (tgt := 120) hx hb dX1_acceptAtPort1_112 (by decide) ?_
    exact xc_vret (wf := cw1 h) hx hb hr hlocks dX1_acceptAtPort1_120 hK hP hD hS (by first | (simp only [lpP1, if_neg h1, if_pos h1, if_neg h2, if_pos h2, if_pos h4, if_neg (not_not_intro h4)]; done) | rfl | (simp only [lpP1]; simp only [if_neg h1, if_pos h1, if_neg h2, if_pos h2, if_pos h4, if_neg (not_not_intro h4)]; done) | (simp_all [lpP1]; done))
  refine lv_tableOut (tgt := 115) hx hb dX1_acceptAtPort1_4 (by have q0 := lv_neT (a := 2) h1 (by decide); have q1 := lv_neT (a := 3) h2 (by decide); have q2 := lv_neT (a := 4) h4 (by decide); omega) (by decide) ?_
  refine lv_aload_n hx hb dX1_acceptAtPort1_115 rfl (lv_at hl 0 rfl) ?_
  refine lv_iload_n hx hb dX1_acceptAtPort1_116 rfl (lv_at hl 1 rfl) ?_
  refine va_put (D := (dC, dI)) (ci := 1) (v := .int w) (ty := .int) (C := RX1) (T := TX1) (N := 19) hx hb hts hin_RX1 tyX1 tyX1_ok nX1 hown hK hP hD hS 0 rfl rfl 4 (by decide) hlk_43 (fun _ h9 => h9) rfl (by decide +kernel) rfl rfl (Nat.le_of_ble_eq_true rfl) dX1_acceptAtPort1_117 (fun H locs hP hD hS => ?_)
  have hP : va_P (dC, dI) vwCl (cw1 h (upd u 4 w)) H := hP
  have hD : va_D A (cw1 h (upd u 4 w)) := hD
  exact xc_vret (wf := cw1 h) hx hb hr hlocks dX1_acceptAtPort1_120 hK hP hD hS (by first | (simp only [lpP1, if_neg h1, if_pos h1, if_neg h2, if_pos h2, if_neg h4, if_pos h4]; done) | rfl | (simp only [lpP1]; simp only [if_neg h1, if_pos h1, if_neg h2, if_pos h2, if_neg h4, if_pos h4]; done) | (simp_all [lpP1]; done))
end
section
abbrev pw (hx hc hh : Nat) (q : PS) : va_W := [(hx, .inr (0, [.ref hc, .ref hh, .int q.2.2])), (hc, .inr (1, lpF q.1)), (hh, .inr (1, lpF q.2.1))]
def pz : List Cond := [.methodLinkNest RX0 11 yX1_init "LinePair", .fieldLinkNest RX0 77 "LinePair$Controller" "up" "I" "LinePair", .fieldLinkNest RX0 74 "LinePair$Controller" "inService" "I" "LinePair", .fieldLinkNest RX0 55 "LinePair$Controller" "masked" "I" "LinePair", .fieldLinkNest RX0 80 "LinePair$Controller" "lowest" "I" "LinePair", .fieldLinkNest RX0 83 "LinePair$Controller" "base" "I" "LinePair", .fieldLinkNest RX0 86 "LinePair$Controller" "awaited" "I" "LinePair", .fieldLinkNest RX0 89 "LinePair$Controller" "readChoice" "I" "LinePair", .fieldLinkNest RX0 92 "LinePair$Controller" "ready" "Z" "LinePair", .fieldLinkNest RX0 96 "LinePair$Controller" "byLevels" "Z" "LinePair", .fieldLinkNest RX0 99 "LinePair$Controller" "specialMask" "Z" "LinePair", .fieldLinkNest RX0 102 "LinePair$Controller" "specialNesting" "Z" "LinePair", .fieldLinkNest RX0 105 "LinePair$Controller" "endsAtOnce" "Z" "LinePair", .fieldLinkNest RX0 108 "LinePair$Controller" "turnsAtOnce" "Z" "LinePair", .fieldLinkNest RX0 111 "LinePair$Controller" "pollWaits" "Z" "LinePair", .fieldLinkNest RX0 114 "LinePair$Controller" "takenLines" "I" "LinePair", .fieldLinkNest RX0 117 "LinePair$Controller" "endedLines" "I" "LinePair", .methodLinkNest RX0 61 yX1_takeDelivered "LinePair", .methodLinkNest RX0 28 yX1_moveLine "LinePair", .methodLinkNest RX0 51 yX1_lineToDeliver "LinePair", .methodLinkNest RX0 67 yX1_numberOf "LinePair", .methodLinkNest RX0 45 yX1_acceptAtPort0 "LinePair", .methodLinkNest RX0 48 yX1_acceptAtPort1 "LinePair", .methodLinkNest RX0 58 yX1_answerAtPort0 "LinePair", .methodLinkNest RX0 71 yX1_requested "LinePair"]

set_option maxHeartbeats 4000000 in
set_option maxRecDepth 100000 in
theorem c_controllerNumbered_0 (l : Launch) (dC : Nat → ClassId) (dI : Nat → Nat → Nat) (hx hc hh : Nat) (u0 u1 : Nat → Int32) (ea : Int32) : xr_M l yX0_controllerNumbered wsX0_controllerNumbered ({ frames := 0, cells := 0, slots := 0, locals := 0 }) [.ref hx, .int 0] (dC, dI) vwCl [] pz (pw hx hc hh (u0, u1, ea)) (some (.ref hc)) := by
  refine Met.ofW (cc := cX0_controllerNumbered) (maxL := 2) (ret := (some (.object "LinePair$Controller"))) (by decide) rfl ?_
  intro p e s m args below meth c s₁ B hml hv
  obtain ⟨rfl, hP, hK, hZ⟩ := hv
  have hx_ := B.exec
  have hb := B.bytes
  have hr := B.returns
  have hts := atoms_spec (ws := wsX0_controllerNumbered) B.pre
  have hown : s.vm.findClass RX0 = some m.cls := findClass_of_methodNamed B.named
  have hlocks := B.notSynchronized
  have hin_RX0 : ∀ w ∈ u_ws RX0 TX0 3, w ∈ wsX0_controllerNumbered := fun w h => List.mem_cons_of_mem _ (u_X0 w h)
  have hlk_14 := hts _ (List.mem_cons_of_mem _ k_fl_X0_14)
  have hlk_18 := hts _ (List.mem_cons_of_mem _ k_fl_X0_18)
  have hl := lv_entry ([.ref hx, .int 0]) (n := 2) (Nat.le_of_ble_eq_true rfl)
  rw [lg_entry_eq]
  generalize (lg_sl ([.ref hx, .int 0]) ++ List.replicate (2 - (lg_sl ([.ref hx, .int 0])).length) Slot.unset).toArray = ls at hl ⊢
  have hl : lv_has ls 2 [(0, .ref hx), (1, .int 0)] := hl
  refine lv_iload_n hx_ hb dX0_controllerNumbered_0 rfl (lv_at hl 1 rfl) ?_
  refine lv_if_eq (tgt := 17) hx_ hb dX0_controllerNumbered_1 (by decide) (fun _ => ?_) (fun h => absurd (by decide) h)
  refine lv_iload_n hx_ hb dX0_controllerNumbered_17 rfl (lv_at hl 1 rfl) ?_
  refine lv_if_ne (tgt := 28) hx_ hb dX0_controllerNumbered_18 (by decide) (fun h => absurd (by decide) h) (fun _ => ?_)
  refine lv_aload_n hx_ hb dX0_controllerNumbered_21 rfl (lv_at hl 0 rfl) ?_
  refine va_get (D := (dC, dI)) (ci := 0) (v := .ref hc) (C := RX0) (T := TX0) (N := 3) hx_ hb hts hin_RX0 hown hK hP 0 rfl rfl 0 (by decide) hlk_14 (fun _ h9 => h9) rfl dX0_controllerNumbered_22 ?_
  refine lv_goto (tgt := 32) hx_ hb dX0_controllerNumbered_25 (by decide) ?_
  exact xr_aret hx_ hb hr hlocks dX0_controllerNumbered_32 rfl

set_option maxHeartbeats 4000000 in
set_option maxRecDepth 100000 in
theorem c_controllerNumbered_1 (l : Launch) (dC : Nat → ClassId) (dI : Nat → Nat → Nat) (hx hc hh : Nat) (u0 u1 : Nat → Int32) (ea : Int32) : xr_M l yX0_controllerNumbered wsX0_controllerNumbered ({ frames := 0, cells := 0, slots := 0, locals := 0 }) [.ref hx, .int 1] (dC, dI) vwCl [] pz (pw hx hc hh (u0, u1, ea)) (some (.ref hh)) := by
  refine Met.ofW (cc := cX0_controllerNumbered) (maxL := 2) (ret := (some (.object "LinePair$Controller"))) (by decide) rfl ?_
  intro p e s m args below meth c s₁ B hml hv
  obtain ⟨rfl, hP, hK, hZ⟩ := hv
  have hx_ := B.exec
  have hb := B.bytes
  have hr := B.returns
  have hts := atoms_spec (ws := wsX0_controllerNumbered) B.pre
  have hown : s.vm.findClass RX0 = some m.cls := findClass_of_methodNamed B.named
  have hlocks := B.notSynchronized
  have hin_RX0 : ∀ w ∈ u_ws RX0 TX0 3, w ∈ wsX0_controllerNumbered := fun w h => List.mem_cons_of_mem _ (u_X0 w h)
  have hlk_14 := hts _ (List.mem_cons_of_mem _ k_fl_X0_14)
  have hlk_18 := hts _ (List.mem_cons_of_mem _ k_fl_X0_18)
  have hl := lv_entry ([.ref hx, .int 1]) (n := 2) (Nat.le_of_ble_eq_true rfl)
  rw [lg_entry_eq]
  generalize (lg_sl ([.ref hx, .int 1]) ++ List.replicate (2 - (lg_sl ([.ref hx, .int 1])).length) Slot.unset).toArray = ls at hl ⊢
  have hl : lv_has ls 2 [(0, .ref hx), (1, .int 1)] := hl
  refine lv_iload_n hx_ hb dX0_controllerNumbered_0 rfl (lv_at hl 1 rfl) ?_
  refine lv_if_eq (tgt := 17) hx_ hb dX0_controllerNumbered_1 (by decide) (fun h => absurd h (by decide)) (fun _ => ?_)
  refine lv_iload_n hx_ hb dX0_controllerNumbered_4 rfl (lv_at hl 1 rfl) ?_
  refine lv_iconst (v := 1) hx_ hb dX0_controllerNumbered_5 (by decide) ?_
  refine lv_icmp_eq (tgt := 17) hx_ hb dX0_controllerNumbered_6 (by decide) (fun _ => ?_) (fun h => absurd (by decide) h)
  refine lv_iload_n hx_ hb dX0_controllerNumbered_17 rfl (lv_at hl 1 rfl) ?_
  refine lv_if_ne (tgt := 28) hx_ hb dX0_controllerNumbered_18 (by decide) (fun _ => ?_) (fun h => absurd h (by decide))
  refine lv_aload_n hx_ hb dX0_controllerNumbered_28 rfl (lv_at hl 0 rfl) ?_
  refine va_get (D := (dC, dI)) (ci := 0) (v := .ref hh) (C := RX0) (T := TX0) (N := 3) hx_ hb hts hin_RX0 hown hK hP 0 rfl rfl 1 (by decide) hlk_18 (fun _ h9 => h9) rfl dX0_controllerNumbered_29 ?_
  exact xr_aret hx_ hb hr hlocks dX0_controllerNumbered_32 rfl

set_option maxHeartbeats 4000000 in
set_option maxRecDepth 100000 in
theorem c_checkPort_0 (l : Launch) (dC : Nat → ClassId) (dI : Nat → Nat → Nat) (hx hc hh : Nat) (u0 u1 : Nat → Int32) (ea : Int32) : xr_M l yX0_checkPort wsX0_checkPort ({ frames := 0, cells := 0, slots := 0, locals := 0 }) [.ref hx, .int 0] (dC, dI) vwCl [] pz (pw hx hc hh (u0, u1, ea)) none := by
  refine Met.ofW (cc := cX0_checkPort) (maxL := 2) (ret := none) (by decide) rfl ?_
  intro p e s m args below meth c s₁ B hml hv
  obtain ⟨rfl, hP, hK, hZ⟩ := hv
  have hx_ := B.exec
  have hb := B.bytes
  have hr := B.returns
  have hts := atoms_spec (ws := wsX0_checkPort) B.pre
  have hown : s.vm.findClass RX0 = some m.cls := findClass_of_methodNamed B.named
  have hlocks := B.notSynchronized
  have hl := lv_entry ([.ref hx, .int 0]) (n := 2) (Nat.le_of_ble_eq_true rfl)
  rw [lg_entry_eq]
  generalize (lg_sl ([.ref hx, .int 0]) ++ List.replicate (2 - (lg_sl ([.ref hx, .int 0])).length) Slot.unset).toArray = ls at hl ⊢
  have hl : lv_has ls 2 [(0, .ref hx), (1, .int 0)] := hl
  refine lv_iload_n hx_ hb dX0_checkPort_0 rfl (lv_at hl 1 rfl) ?_
  refine lv_if_eq (tgt := 17) hx_ hb dX0_checkPort_1 (by decide) (fun _ => ?_) (fun h => absurd (by decide) h)
  exact xr_vret hx_ hb hr hlocks dX0_checkPort_17

set_option maxHeartbeats 4000000 in
set_option maxRecDepth 100000 in
theorem c_checkPort_1 (l : Launch) (dC : Nat → ClassId) (dI : Nat → Nat → Nat) (hx hc hh : Nat) (u0 u1 : Nat → Int32) (ea : Int32) : xr_M l yX0_checkPort wsX0_checkPort ({ frames := 0, cells := 0, slots := 0, locals := 0 }) [.ref hx, .int 1] (dC, dI) vwCl [] pz (pw hx hc hh (u0, u1, ea)) none := by
  refine Met.ofW (cc := cX0_checkPort) (maxL := 2) (ret := none) (by decide) rfl ?_
  intro p e s m args below meth c s₁ B hml hv
  obtain ⟨rfl, hP, hK, hZ⟩ := hv
  have hx_ := B.exec
  have hb := B.bytes
  have hr := B.returns
  have hts := atoms_spec (ws := wsX0_checkPort) B.pre
  have hown : s.vm.findClass RX0 = some m.cls := findClass_of_methodNamed B.named
  have hlocks := B.notSynchronized
  have hl := lv_entry ([.ref hx, .int 1]) (n := 2) (Nat.le_of_ble_eq_true rfl)
  rw [lg_entry_eq]
  generalize (lg_sl ([.ref hx, .int 1]) ++ List.replicate (2 - (lg_sl ([.ref hx, .int 1])).length) Slot.unset).toArray = ls at hl ⊢
  have hl : lv_has ls 2 [(0, .ref hx), (1, .int 1)] := hl
  refine lv_iload_n hx_ hb dX0_checkPort_0 rfl (lv_at hl 1 rfl) ?_
  refine lv_if_eq (tgt := 17) hx_ hb dX0_checkPort_1 (by decide) (fun h => absurd h (by decide)) (fun _ => ?_)
  refine lv_iload_n hx_ hb dX0_checkPort_4 rfl (lv_at hl 1 rfl) ?_
  refine lv_iconst (v := 1) hx_ hb dX0_checkPort_5 (by decide) ?_
  refine lv_icmp_eq (tgt := 17) hx_ hb dX0_checkPort_6 (by decide) (fun _ => ?_) (fun h => absurd (by decide) h)
  exact xr_vret hx_ hb hr hlocks dX0_checkPort_17

set_option maxHeartbeats 4000000 in
set_option maxRecDepth 100000 in
theorem c_followHelper (l : Launch) (dC : Nat → ClassId) (dI : Nat → Nat → Nat) (hx hc hh : Nat) (sz : Nat) (u0 u1 : Nat → Int32) (ea : Int32) : xc_M l yX0_followHelper wsX0_followHelper ({ frames := 3, cells := 0, slots := 0, locals := 66 }) [.ref hx] sz (dC, dI) vwCl [] pz (pw hx hc hh (u0, u1, ea)) none (pw hx hc hh ((lpFol u0 u1, u1, ea))) 0 0 := by
  refine Met.ofW (cc := cX0_followHelper) (maxL := 1) (ret := none) (by decide) rfl ?_
  intro p e s m args below meth c s₁ B hml hv
  obtain ⟨rfl, hsz, hP, hK, hD0, hZ⟩ := hv
  have hx_ := B.exec
  have hb := B.bytes
  have hr := B.returns
  have hts := atoms_spec (ws := wsX0_followHelper) B.pre
  have hown : s.vm.findClass RX0 = some m.cls := findClass_of_methodNamed B.named
  have hlocks := B.notSynchronized
  subst hsz
  have hD := hD0.self (sz := s.heap.size)
  generalize hAe : va_A (pw hx hc hh (u0, u1, ea)) s.heap.size = A at hD ⊢
  have hA : ∀ q : Nat, s.heap.size ≤ q → A q := fun q h => by rw [← hAe]; exact Or.inr h
  have hS : va_S A s.heap s.heap [] := va_S.rf
  have hin_RX0 : ∀ w ∈ u_ws RX0 TX0 3, w ∈ wsX0_followHelper := fun w h => List.mem_cons_of_mem _ (u_X0 w h)
  have hlk_14 := hts _ (List.mem_cons_of_mem _ k_fl_X0_14)
  have hlk_18 := hts _ (List.mem_cons_of_mem _ k_fl_X0_18)
  have hml_28 : va_Nw (.methodLinkNest RX0 28 yX1_moveLine "LinePair") s := hZ.2 _ (by decide +kernel)
  have hml_51 : va_Nw (.methodLinkNest RX0 51 yX1_lineToDeliver "LinePair") s := hZ.2 _ (by decide +kernel)
  have hl := lv_entry ([.ref hx]) (n := 1) (Nat.le_of_ble_eq_true rfl)
  rw [lg_entry_eq]
  generalize (lg_sl ([.ref hx]) ++ List.replicate (1 - (lg_sl ([.ref hx])).length) Slot.unset).toArray = ls at hl ⊢
  have hl : lv_has ls 1 [(0, .ref hx)] := hl
  refine lv_aload_n hx_ hb dX0_followHelper_0 rfl (lv_at hl 0 rfl) ?_
  refine va_get (D := (dC, dI)) (ci := 0) (v := .ref hc) (C := RX0) (T := TX0) (N := 3) hx_ hb hts hin_RX0 hown hK hP 0 rfl rfl 0 (by decide) hlk_14 (fun _ h9 => h9) rfl dX0_followHelper_1 ?_
  refine lv_iconst (v := 2) hx_ hb dX0_followHelper_4 (by decide) ?_
  refine lv_aload_n hx_ hb dX0_followHelper_5 rfl (lv_at hl 0 rfl) ?_
  refine va_get (D := (dC, dI)) (ci := 0) (v := .ref hh) (C := RX0) (T := TX0) (N := 3) hx_ hb hts hin_RX0 hown hK hP 0 rfl rfl 1 (by decide) hlk_18 (fun _ h9 => h9) rfl dX0_followHelper_6 ?_
  refine xr_call (st1 := [.int (lpDel u1), .int 2, .ref hc]) ((va_runVN (As := []) (rest := [.int 2, .ref hc]) ⟨hx_, hb, hml, hown, hts⟩ (c_lineToDeliver l dC dI hh u1) ⟨va_cnB 0 hts (gd_0 wa_c k_co_X1_lineToDeliver) rfl rfl rfl hml_51 (hts _ (List.mem_cons_of_mem _ k_in_X1)) (by decide +kernel) ⟨Nat.le_of_ble_eq_true rfl, Nat.le_of_ble_eq_true rfl⟩, hts _ (List.mem_cons_of_mem _ k_im_X1_lineToDeliver), hts _ (List.mem_cons_of_mem _ k_se_X1_lineToDeliver)⟩ (xr_preV (q0 := 0) (C := RX1) hK (hP.sub (ws' := cw1 hh u1) [2] rfl) xz_Z.nil rfl rfl) rfl rfl hl.1 rfl (lv_room (Nat.le_of_ble_eq_true rfl)) dX0_followHelper_9 ⟨Nat.zero_le _, Nat.zero_le _⟩).run) rfl ?_
  refine lv_iconst (v := -1) hx_ hb dX0_followHelper_12 (by decide) ?_
  refine lv_icmp_eq (tgt := 20) hx_ hb dX0_followHelper_13 (by decide) (fun h1 => ?_) (fun h1 => ?_)
  · refine lv_iconst (v := 0) hx_ hb dX0_followHelper_20 (by decide) ?_
    refine xc_call (wc := cw1 hc u0) (wr := [(hx, .inr (0, [.ref hc, .ref hh, .int ea])), (hh, .inr (1, lpF u1))]) (st1 := [.int (lpMoveR u0 2 0)]) (va_runVN (As := [.int 2, .int 0]) (rest := []) ⟨hx_, hb, hml, hown, hts⟩ (c_moveLine l dC dI hc s.heap.size u0 2 0) ⟨va_cnB 2 hts (gd_0 wa_c k_co_X1_moveLine) rfl rfl rfl hml_28 (hts _ (List.mem_cons_of_mem _ k_in_X1)) (by decide +kernel) ⟨Nat.le_of_ble_eq_true rfl, Nat.le_of_ble_eq_true rfl⟩, hts _ (List.mem_cons_of_mem _ k_im_X1_moveLine), hts _ (List.mem_cons_of_mem _ k_se_X1_moveLine)⟩ (xc_preV (q0 := 0) (C := RX1) hK (hP.sub (ws' := cw1 hc u0) [1] rfl) (hD.sub (ws' := cw1 hc u0) [1] (by decide) rfl) xz_Z.nil rfl rfl) rfl rfl hl.1 rfl (lv_room (Nat.le_of_ble_eq_true rfl)) dX0_followHelper_21 ⟨Nat.zero_le _, Nat.zero_le _⟩) hP hD hS hA [1] [0, 2] rfl rfl (by decide) (by decide) rfl (fun H locs hP hD hS _ => ?_)
    have hP := hP.sub (ws' := pw hx hc hh (lpMove u0 2 0, u1, ea)) [0, 2, 1] rfl
    have hD := hD.sub (ws' := pw hx hc hh (lpMove u0 2 0, u1, ea)) [0, 2, 1] (by decide) rfl
    refine lv_pop hx_ hb dX0_followHelper_24 rfl ?_
    exact xc_vret (wf := pw hx hc hh) hx_ hb hr hlocks dX0_followHelper_25 hK hP hD hS (by first | (simp only [lpFol, if_pos h1, if_neg (not_not_intro h1)]; done) | rfl | (simp only [lpFol]; simp only [if_pos h1, if_neg (not_not_intro h1)]; done) | (simp_all [lpFol]; done))
  · refine lv_iconst (v := 1) hx_ hb dX0_followHelper_16 (by decide) ?_
    refine lv_goto (tgt := 21) hx_ hb dX0_followHelper_17 (by decide) ?_
    refine xc_call (wc := cw1 hc u0) (wr := [(hx, .inr (0, [.ref hc, .ref hh, .int ea])), (hh, .inr (1, lpF u1))]) (st1 := [.int (lpMoveR u0 2 1)]) (va_runVN (As := [.int 2, .int 1]) (rest := []) ⟨hx_, hb, hml, hown, hts⟩ (c_moveLine l dC dI hc s.heap.size u0 2 1) ⟨va_cnB 2 hts (gd_0 wa_c k_co_X1_moveLine) rfl rfl rfl hml_28 (hts _ (List.mem_cons_of_mem _ k_in_X1)) (by decide +kernel) ⟨Nat.le_of_ble_eq_true rfl, Nat.le_of_ble_eq_true rfl⟩, hts _ (List.mem_cons_of_mem _ k_im_X1_moveLine), hts _ (List.mem_cons_of_mem _ k_se_X1_moveLine)⟩ (xc_preV (q0 := 0) (C := RX1) hK (hP.sub (ws' := cw1 hc u0) [1] rfl) (hD.sub (ws' := cw1 hc u0) [1] (by decide) rfl) xz_Z.nil rfl rfl) rfl rfl hl.1 rfl (lv_room (Nat.le_of_ble_eq_true rfl)) dX0_followHelper_21 ⟨Nat.zero_le _, Nat.zero_le _⟩) hP hD hS hA [1] [0, 2] rfl rfl (by decide) (by decide) rfl (fun H locs hP hD hS _ => ?_)
    have hP := hP.sub (ws' := pw hx hc hh (lpMove u0 2 1, u1, ea)) [0, 2, 1] rfl
    have hD := hD.sub (ws' := pw hx hc hh (lpMove u0 2 1, u1, ea)) [0, 2, 1] (by decide) rfl
    refine lv_pop hx_ hb dX0_followHelper_24 rfl ?_
    exact xc_vret (wf := pw hx hc hh) hx_ hb hr hlocks dX0_followHelper_25 hK hP hD hS (by first | (simp only [lpFol, if_neg h1, if_pos h1]; done) | rfl | (simp only [lpFol]; simp only [if_neg h1, if_pos h1]; done) | (simp_all [lpFol]; done))

set_option maxHeartbeats 4000000 in
set_option maxRecDepth 100000 in
theorem c_takeFromHelper (l : Launch) (dC : Nat → ClassId) (dI : Nat → Nat → Nat) (hx hc hh : Nat) (sz : Nat) (u0 u1 : Nat → Int32) (ea : Int32) : xc_M l yX0_takeFromHelper wsX0_takeFromHelper ({ frames := 4, cells := 0, slots := 0, locals := 87 }) [.ref hx] sz (dC, dI) vwCl [] pz (pw hx hc hh (u0, u1, ea)) (some (.int (lpTFHr u1))) (pw hx hc hh (lpTFH u0 u1 ea)) 0 0 := by
  refine Met.ofW (cc := cX0_takeFromHelper) (maxL := 2) (ret := (some .int)) (by decide) rfl ?_
  intro p e s m args below meth c s₁ B hml hv
  obtain ⟨rfl, hsz, hP, hK, hD0, hZ⟩ := hv
  have hx_ := B.exec
  have hb := B.bytes
  have hr := B.returns
  have hts := atoms_spec (ws := wsX0_takeFromHelper) B.pre
  have hown : s.vm.findClass RX0 = some m.cls := findClass_of_methodNamed B.named
  have hlocks := B.notSynchronized
  subst hsz
  have hD := hD0.self (sz := s.heap.size)
  generalize hAe : va_A (pw hx hc hh (u0, u1, ea)) s.heap.size = A at hD ⊢
  have hA : ∀ q : Nat, s.heap.size ≤ q → A q := fun q h => by rw [← hAe]; exact Or.inr h
  have hS : va_S A s.heap s.heap [] := va_S.rf
  have hin_RX0 : ∀ w ∈ u_ws RX0 TX0 3, w ∈ wsX0_takeFromHelper := fun w h => List.mem_cons_of_mem _ (u_X0 w h)
  have hlk_14 := hts _ (List.mem_cons_of_mem _ k_fl_X0_14)
  have hlk_18 := hts _ (List.mem_cons_of_mem _ k_fl_X0_18)
  have hml_28 : va_Nw (.methodLinkNest RX0 28 yX1_moveLine "LinePair") s := hZ.2 _ (by decide +kernel)
  have hml_61 : va_Nw (.methodLinkNest RX0 61 yX1_takeDelivered "LinePair") s := hZ.2 _ (by decide +kernel)
  have hml_67 : va_Nw (.methodLinkNest RX0 67 yX1_numberOf "LinePair") s := hZ.2 _ (by decide +kernel)
  have hl := lv_entry ([.ref hx]) (n := 2) (Nat.le_of_ble_eq_true rfl)
  rw [lg_entry_eq]
  generalize (lg_sl ([.ref hx]) ++ List.replicate (2 - (lg_sl ([.ref hx])).length) Slot.unset).toArray = ls at hl ⊢
  have hl : lv_has ls 2 [(0, .ref hx)] := hl
  refine lv_aload_n hx_ hb dX0_takeFromHelper_0 rfl (lv_at hl 0 rfl) ?_
  refine va_get (D := (dC, dI)) (ci := 0) (v := .ref hh) (C := RX0) (T := TX0) (N := 3) hx_ hb hts hin_RX0 hown hK hP 0 rfl rfl 1 (by decide) hlk_18 (fun _ h9 => h9) rfl dX0_takeFromHelper_1 ?_
  refine xc_call (wc := cw1 hh u1) (wr := [(hx, .inr (0, [.ref hc, .ref hh, .int ea])), (hc, .inr (1, lpF u0))]) (st1 := [.int (lpDel u1)]) (va_runVN (As := []) (rest := []) ⟨hx_, hb, hml, hown, hts⟩ (c_takeDelivered l dC dI hh s.heap.size u1) ⟨va_cnB 0 hts (gd_0 wa_c k_co_X1_takeDelivered) rfl rfl rfl hml_61 (hts _ (List.mem_cons_of_mem _ k_in_X1)) (by decide +kernel) ⟨Nat.le_of_ble_eq_true rfl, Nat.le_of_ble_eq_true rfl⟩, hts _ (List.mem_cons_of_mem _ k_im_X1_takeDelivered), hts _ (List.mem_cons_of_mem _ k_se_X1_takeDelivered)⟩ (xc_preV (q0 := 0) (C := RX1) hK (hP.sub (ws' := cw1 hh u1) [2] rfl) (hD.sub (ws' := cw1 hh u1) [2] (by decide) rfl) xz_Z.nil rfl rfl) rfl rfl hl.1 rfl (lv_room (Nat.le_of_ble_eq_true rfl)) dX0_takeFromHelper_4 ⟨Nat.zero_le _, Nat.zero_le _⟩) hP hD hS hA [2] [0, 1] rfl rfl (by decide) (by decide) rfl (fun H locs hP hD hS _ => ?_)
  have hP := hP.sub (ws' := pw hx hc hh (u0, lpTake u1, ea)) [0, 1, 2] rfl
  have hD := hD.sub (ws' := pw hx hc hh (u0, lpTake u1, ea)) [0, 1, 2] (by decide) rfl
  refine lv_istore_n (lv' := [(1, .int (lpDel u1)), (0, .ref hx)]) hx_ hb dX0_takeFromHelper_7 rfl hl (by decide) rfl (fun ls hl => ?_)
  refine lv_aload_n hx_ hb dX0_takeFromHelper_8 rfl (lv_at hl 1 rfl) ?_
  refine va_get (D := (dC, dI)) (ci := 0) (v := .ref hc) (C := RX0) (T := TX0) (N := 3) hx_ hb hts hin_RX0 hown hK hP 0 rfl rfl 0 (by decide) hlk_14 (fun _ h9 => h9) rfl dX0_takeFromHelper_9 ?_
  refine lv_iconst (v := 2) hx_ hb dX0_takeFromHelper_12 (by decide) ?_
  refine lv_iconst (v := 0) hx_ hb dX0_takeFromHelper_13 (by decide) ?_
  refine xc_call (wc := cw1 hc u0) (wr := [(hx, .inr (0, [.ref hc, .ref hh, .int ea])), (hh, .inr (1, lpF (lpTake u1)))]) (st1 := [.int (lpMoveR u0 2 0)]) (va_runVN (As := [.int 2, .int 0]) (rest := []) ⟨hx_, hb, hml, hown, hts⟩ (c_moveLine l dC dI hc H.size u0 2 0) ⟨va_cnB 2 hts (gd_0 wa_c k_co_X1_moveLine) rfl rfl rfl hml_28 (hts _ (List.mem_cons_of_mem _ k_in_X1)) (by decide +kernel) ⟨Nat.le_of_ble_eq_true rfl, Nat.le_of_ble_eq_true rfl⟩, hts _ (List.mem_cons_of_mem _ k_im_X1_moveLine), hts _ (List.mem_cons_of_mem _ k_se_X1_moveLine)⟩ (xc_preV (q0 := 0) (C := RX1) hK (hP.sub (ws' := cw1 hc u0) [1] rfl) (hD.sub (ws' := cw1 hc u0) [1] (by decide) rfl) xz_Z.nil rfl rfl) rfl rfl hl.1 rfl (lv_room (Nat.le_of_ble_eq_true rfl)) dX0_takeFromHelper_14 ⟨Nat.zero_le _, Nat.zero_le _⟩) hP hD hS hA [1] [0, 2] rfl rfl (by decide) (by decide) rfl (fun H locs hP hD hS _ => ?_)
  have hP := hP.sub (ws' := pw hx hc hh (lpMove u0 2 0, lpTake u1, ea)) [0, 2, 1] rfl
  have hD := hD.sub (ws' := pw hx hc hh (lpMove u0 2 0, lpTake u1, ea)) [0, 2, 1] (by decide) rfl
  refine lv_pop hx_ hb dX0_takeFromHelper_17 rfl ?_
  refine lv_aload_n hx_ hb dX0_takeFromHelper_18 rfl (lv_at hl 1 rfl) ?_
  refine xc_call (wc := pw hx hc hh (lpMove u0 2 0, lpTake u1, ea)) (wr := []) (st1 := []) (va_runV (As := []) (rest := []) ⟨hx_, hb, hml, hown, hts⟩ (c_followHelper l dC dI hx hc hh H.size (lpMove u0 2 0) (lpTake u1) ea) (cwV 0 hts (gd_V wa_c k_ml_X0_32 k_im_X0_followHelper k_se_X0_followHelper k_in_X0 k_co_X0_followHelper) rfl rfl rfl (by decide +kernel) ⟨Nat.le_of_ble_eq_true rfl, Nat.le_of_ble_eq_true rfl⟩) (xc_preV (q0 := 0) (C := RX0) hK hP hD hZ rfl rfl) rfl rfl hl.1 rfl (lv_room (Nat.le_of_ble_eq_true rfl)) dX0_takeFromHelper_19 ⟨Nat.zero_le _, Nat.zero_le _⟩) hP hD hS hA [0, 1, 2] [] rfl rfl (by decide) (by decide) rfl (fun H locs hP hD hS _ => ?_)
  have hP : va_P (dC, dI) vwCl (pw hx hc hh (lpFol (lpMove u0 2 0) (lpTake u1), lpTake u1, ea)) H := hP
  have hD : va_D A (pw hx hc hh (lpFol (lpMove u0 2 0) (lpTake u1), lpTake u1, ea)) := hD
  refine lv_aload_n hx_ hb dX0_takeFromHelper_22 rfl (lv_at hl 1 rfl) ?_
  refine va_get (D := (dC, dI)) (ci := 0) (v := .ref hh) (C := RX0) (T := TX0) (N := 3) hx_ hb hts hin_RX0 hown hK hP 0 rfl rfl 1 (by decide) hlk_18 (fun _ h9 => h9) rfl dX0_takeFromHelper_23 ?_
  refine lv_iload_n hx_ hb dX0_takeFromHelper_26 rfl (lv_at hl 0 rfl) ?_
  refine xr_call (st1 := [.int (lpNum (lpTake u1) (lpDel u1))]) ((va_runVN (As := [.int (lpDel u1)]) (rest := []) ⟨hx_, hb, hml, hown, hts⟩ (c_numberOf l dC dI hh (lpTake u1) (lpDel u1)) ⟨va_cnB 1 hts (gd_0 wa_c k_co_X1_numberOf) rfl rfl rfl hml_67 (hts _ (List.mem_cons_of_mem _ k_in_X1)) (by decide +kernel) ⟨Nat.le_of_ble_eq_true rfl, Nat.le_of_ble_eq_true rfl⟩, hts _ (List.mem_cons_of_mem _ k_im_X1_numberOf), hts _ (List.mem_cons_of_mem _ k_se_X1_numberOf)⟩ (xr_preV (q0 := 0) (C := RX1) hK (hP.sub (ws' := cw1 hh (lpTake u1)) [2] rfl) xz_Z.nil rfl rfl) rfl rfl hl.1 rfl (lv_room (Nat.le_of_ble_eq_true rfl)) dX0_takeFromHelper_27 ⟨Nat.zero_le _, Nat.zero_le _⟩).run) rfl ?_
  exact xc_iret (wf := pw hx hc hh) hx_ hb hr hlocks dX0_takeFromHelper_30 hK hP hD hS (by first | (simp only [lpTFH, lpTFHr]; done) | rfl | (simp_all [lpTFH, lpTFHr]; done)) (by first | (simp only [lpTFH, lpTFHr]; done) | rfl | (simp_all [lpTFH, lpTFHr]; done))

set_option maxHeartbeats 4000000 in
set_option maxRecDepth 100000 in
theorem c_take (l : Launch) (dC : Nat → ClassId) (dI : Nat → Nat → Nat) (hx hc hh : Nat) (sz : Nat) (u0 u1 : Nat → Int32) (ea : Int32) : xc_M l yX0_take wsX0_take ({ frames := 5, cells := 0, slots := 0, locals := 108 }) [.ref hx] sz (dC, dI) vwCl [] pz (pw hx hc hh (u0, u1, ea)) (some (.int (lpTkr u0 u1))) (pw hx hc hh (lpTk u0 u1 ea)) 0 0 := by
  refine Met.ofW (cc := cX0_take) (maxL := 2) (ret := (some .int)) (by decide) rfl ?_
  intro p e s m args below meth c s₁ B hml hv
  obtain ⟨rfl, hsz, hP, hK, hD0, hZ⟩ := hv
  have hx_ := B.exec
  have hb := B.bytes
  have hr := B.returns
  have hts := atoms_spec (ws := wsX0_take) B.pre
  have hown : s.vm.findClass RX0 = some m.cls := findClass_of_methodNamed B.named
  have hlocks := B.notSynchronized
  subst hsz
  have hD := hD0.self (sz := s.heap.size)
  generalize hAe : va_A (pw hx hc hh (u0, u1, ea)) s.heap.size = A at hD ⊢
  have hA : ∀ q : Nat, s.heap.size ≤ q → A q := fun q h => by rw [← hAe]; exact Or.inr h
  have hS : va_S A s.heap s.heap [] := va_S.rf
  have hin_RX0 : ∀ w ∈ u_ws RX0 TX0 3, w ∈ wsX0_take := fun w h => List.mem_cons_of_mem _ (u_X0 w h)
  have hlk_14 := hts _ (List.mem_cons_of_mem _ k_fl_X0_14)
  have hlk_21 := hts _ (List.mem_cons_of_mem _ k_fl_X0_21)
  have hml_61 : va_Nw (.methodLinkNest RX0 61 yX1_takeDelivered "LinePair") s := hZ.2 _ (by decide +kernel)
  have hml_67 : va_Nw (.methodLinkNest RX0 67 yX1_numberOf "LinePair") s := hZ.2 _ (by decide +kernel)
  have hl := lv_entry ([.ref hx]) (n := 2) (Nat.le_of_ble_eq_true rfl)
  rw [lg_entry_eq]
  generalize (lg_sl ([.ref hx]) ++ List.replicate (2 - (lg_sl ([.ref hx])).length) Slot.unset).toArray = ls at hl ⊢
  have hl : lv_has ls 2 [(0, .ref hx)] := hl
  refine lv_aload_n hx_ hb dX0_take_0 rfl (lv_at hl 0 rfl) ?_
  refine va_get (D := (dC, dI)) (ci := 0) (v := .ref hc) (C := RX0) (T := TX0) (N := 3) hx_ hb hts hin_RX0 hown hK hP 0 rfl rfl 0 (by decide) hlk_14 (fun _ h9 => h9) rfl dX0_take_1 ?_
  refine xc_call (wc := cw1 hc u0) (wr := [(hx, .inr (0, [.ref hc, .ref hh, .int ea])), (hh, .inr (1, lpF u1))]) (st1 := [.int (lpDel u0)]) (va_runVN (As := []) (rest := []) ⟨hx_, hb, hml, hown, hts⟩ (c_takeDelivered l dC dI hc s.heap.size u0) ⟨va_cnB 0 hts (gd_0 wa_c k_co_X1_takeDelivered) rfl rfl rfl hml_61 (hts _ (List.mem_cons_of_mem _ k_in_X1)) (by decide +kernel) ⟨Nat.le_of_ble_eq_true rfl, Nat.le_of_ble_eq_true rfl⟩, hts _ (List.mem_cons_of_mem _ k_im_X1_takeDelivered), hts _ (List.mem_cons_of_mem _ k_se_X1_takeDelivered)⟩ (xc_preV (q0 := 0) (C := RX1) hK (hP.sub (ws' := cw1 hc u0) [1] rfl) (hD.sub (ws' := cw1 hc u0) [1] (by decide) rfl) xz_Z.nil rfl rfl) rfl rfl hl.1 rfl (lv_room (Nat.le_of_ble_eq_true rfl)) dX0_take_4 ⟨Nat.zero_le _, Nat.zero_le _⟩) hP hD hS hA [1] [0, 2] rfl rfl (by decide) (by decide) rfl (fun H locs hP hD hS _ => ?_)
  have hP := hP.sub (ws' := pw hx hc hh (lpTake u0, u1, ea)) [0, 2, 1] rfl
  have hD := hD.sub (ws' := pw hx hc hh (lpTake u0, u1, ea)) [0, 2, 1] (by decide) rfl
  refine lv_istore_n (lv' := [(1, .int (lpDel u0)), (0, .ref hx)]) hx_ hb dX0_take_7 rfl hl (by decide) rfl (fun ls hl => ?_)
  refine lv_iload_n hx_ hb dX0_take_8 rfl (lv_at hl 0 rfl) ?_
  refine lv_iconst (v := -1) hx_ hb dX0_take_9 (by decide) ?_
  refine lv_icmp_ne (tgt := 23) hx_ hb dX0_take_10 (by decide) (fun h1 => ?_) (fun h1 => ?_)
  · refine lv_iload_n hx_ hb dX0_take_23 rfl (lv_at hl 0 rfl) ?_
    refine lv_iconst (v := 2) hx_ hb dX0_take_24 (by decide) ?_
    refine lv_icmp_ne (tgt := 35) hx_ hb dX0_take_25 (by decide) (fun h2 => ?_) (fun h2 => ?_)
    · refine lv_aload_n hx_ hb dX0_take_35 rfl (lv_at hl 1 rfl) ?_
      refine va_get (D := (dC, dI)) (ci := 0) (v := .ref hc) (C := RX0) (T := TX0) (N := 3) hx_ hb hts hin_RX0 hown hK hP 0 rfl rfl 0 (by decide) hlk_14 (fun _ h9 => h9) rfl dX0_take_36 ?_
      refine lv_iload_n hx_ hb dX0_take_39 rfl (lv_at hl 0 rfl) ?_
      refine xr_call (st1 := [.int (lpNum (lpTake u0) (lpDel u0))]) ((va_runVN (As := [.int (lpDel u0)]) (rest := []) ⟨hx_, hb, hml, hown, hts⟩ (c_numberOf l dC dI hc (lpTake u0) (lpDel u0)) ⟨va_cnB 1 hts (gd_0 wa_c k_co_X1_numberOf) rfl rfl rfl hml_67 (hts _ (List.mem_cons_of_mem _ k_in_X1)) (by decide +kernel) ⟨Nat.le_of_ble_eq_true rfl, Nat.le_of_ble_eq_true rfl⟩, hts _ (List.mem_cons_of_mem _ k_im_X1_numberOf), hts _ (List.mem_cons_of_mem _ k_se_X1_numberOf)⟩ (xr_preV (q0 := 0) (C := RX1) hK (hP.sub (ws' := cw1 hc (lpTake u0)) [1] rfl) xz_Z.nil rfl rfl) rfl rfl hl.1 rfl (lv_room (Nat.le_of_ble_eq_true rfl)) dX0_take_40 ⟨Nat.zero_le _, Nat.zero_le _⟩).run) rfl ?_
      exact xc_iret (wf := pw hx hc hh) hx_ hb hr hlocks dX0_take_43 hK hP hD hS (by first | (simp only [lpTk, lpTkr, if_neg h1, if_pos h1, if_neg h2, if_pos h2]; done) | rfl | (simp only [lpTk, lpTkr]; simp only [if_neg h1, if_pos h1, if_neg h2, if_pos h2]; done) | (simp_all [lpTk, lpTkr]; done)) (by first | (simp only [lpTk, lpTkr, if_neg h1, if_pos h1, if_neg h2, if_pos h2]; done) | rfl | (simp only [lpTk, lpTkr]; simp only [if_neg h1, if_pos h1, if_neg h2, if_pos h2]; done) | (simp_all [lpTk, lpTkr]; done))
    · refine lv_aload_n hx_ hb dX0_take_28 rfl (lv_at hl 1 rfl) ?_
      refine xc_call (wc := pw hx hc hh (lpTake u0, u1, ea)) (wr := []) (st1 := [.int (lpTFHr u1)]) (va_runV (As := []) (rest := []) ⟨hx_, hb, hml, hown, hts⟩ (c_takeFromHelper l dC dI hx hc hh H.size (lpTake u0) u1 ea) (cwV 0 hts (gd_V wa_c k_ml_X0_64 k_im_X0_takeFromHelper k_se_X0_takeFromHelper k_in_X0 k_co_X0_takeFromHelper) rfl rfl rfl (by decide +kernel) ⟨Nat.le_of_ble_eq_true rfl, Nat.le_of_ble_eq_true rfl⟩) (xc_preV (q0 := 0) (C := RX0) hK hP hD hZ rfl rfl) rfl rfl hl.1 rfl (lv_room (Nat.le_of_ble_eq_true rfl)) dX0_take_29 ⟨Nat.zero_le _, Nat.zero_le _⟩) hP hD hS hA [0, 1, 2] [] rfl rfl (by decide) (by decide) rfl (fun H locs hP hD hS _ => ?_)
      have hP : va_P (dC, dI) vwCl (pw hx hc hh ((lpTFH (lpTake u0) u1 ea).1, (lpTFH (lpTake u0) u1 ea).2.1, (lpTFH (lpTake u0) u1 ea).2.2)) H := hP
      have hD : va_D A (pw hx hc hh ((lpTFH (lpTake u0) u1 ea).1, (lpTFH (lpTake u0) u1 ea).2.1, (lpTFH (lpTake u0) u1 ea).2.2)) := hD
      refine lv_goto (tgt := 43) hx_ hb dX0_take_32 (by decide) ?_
      exact xc_iret (wf := pw hx hc hh) hx_ hb hr hlocks dX0_take_43 hK hP hD hS (by first | (simp only [lpTk, lpTkr, if_neg h1, if_pos h1, if_pos h2, if_neg (not_not_intro h2)]; done) | rfl | (simp only [lpTk, lpTkr]; simp only [if_neg h1, if_pos h1, if_pos h2, if_neg (not_not_intro h2)]; done) | (simp_all [lpTk, lpTkr]; done)) (by first | (simp only [lpTk, lpTkr, if_neg h1, if_pos h1, if_pos h2, if_neg (not_not_intro h2)]; done) | rfl | (simp only [lpTk, lpTkr]; simp only [if_neg h1, if_pos h1, if_pos h2, if_neg (not_not_intro h2)]; done) | (simp_all [lpTk, lpTkr]; done))
  · refine lv_aload_n hx_ hb dX0_take_13 rfl (lv_at hl 1 rfl) ?_
    refine lv_dup hx_ hb dX0_take_14 rfl ?_
    refine va_get (D := (dC, dI)) (ci := 0) (v := .int ea) (C := RX0) (T := TX0) (N := 3) hx_ hb hts hin_RX0 hown hK hP 0 rfl rfl 2 (by decide) hlk_21 (fun _ h9 => h9) rfl dX0_take_15 ?_
    refine lv_iconst (v := 1) hx_ hb dX0_take_18 (by decide) ?_
    refine lv_iadd hx_ hb dX0_take_19 ?_
    refine va_put (D := (dC, dI)) (ci := 0) (v := .int (ea + 1)) (ty := .int) (C := RX0) (T := TX0) (N := 3) hx_ hb hts hin_RX0 tyX0 tyX0_ok nX0 hown hK hP hD hS 0 rfl rfl 2 (by decide) hlk_21 (fun _ h9 => h9) rfl (by decide +kernel) rfl rfl (Nat.le_of_ble_eq_true rfl) dX0_take_20 (fun H locs hP hD hS => ?_)
    have hP : va_P (dC, dI) vwCl (pw hx hc hh (lpTake u0, u1, ea + 1)) H := hP
    have hD : va_D A (pw hx hc hh (lpTake u0, u1, ea + 1)) := hD
    refine lv_iload_n hx_ hb dX0_take_23 rfl (lv_at hl 0 rfl) ?_
    refine lv_iconst (v := 2) hx_ hb dX0_take_24 (by decide) ?_
    refine lv_icmp_ne (tgt := 35) hx_ hb dX0_take_25 (by decide) (fun h3 => ?_) (fun h3 => ?_)
    · refine lv_aload_n hx_ hb dX0_take_35 rfl (lv_at hl 1 rfl) ?_
      refine va_get (D := (dC, dI)) (ci := 0) (v := .ref hc) (C := RX0) (T := TX0) (N := 3) hx_ hb hts hin_RX0 hown hK hP 0 rfl rfl 0 (by decide) hlk_14 (fun _ h9 => h9) rfl dX0_take_36 ?_
      refine lv_iload_n hx_ hb dX0_take_39 rfl (lv_at hl 0 rfl) ?_
      refine xr_call (st1 := [.int (lpNum (lpTake u0) (lpDel u0))]) ((va_runVN (As := [.int (lpDel u0)]) (rest := []) ⟨hx_, hb, hml, hown, hts⟩ (c_numberOf l dC dI hc (lpTake u0) (lpDel u0)) ⟨va_cnB 1 hts (gd_0 wa_c k_co_X1_numberOf) rfl rfl rfl hml_67 (hts _ (List.mem_cons_of_mem _ k_in_X1)) (by decide +kernel) ⟨Nat.le_of_ble_eq_true rfl, Nat.le_of_ble_eq_true rfl⟩, hts _ (List.mem_cons_of_mem _ k_im_X1_numberOf), hts _ (List.mem_cons_of_mem _ k_se_X1_numberOf)⟩ (xr_preV (q0 := 0) (C := RX1) hK (hP.sub (ws' := cw1 hc (lpTake u0)) [1] rfl) xz_Z.nil rfl rfl) rfl rfl hl.1 rfl (lv_room (Nat.le_of_ble_eq_true rfl)) dX0_take_40 ⟨Nat.zero_le _, Nat.zero_le _⟩).run) rfl ?_
      exact xc_iret (wf := pw hx hc hh) hx_ hb hr hlocks dX0_take_43 hK hP hD hS (by first | (simp only [lpTk, lpTkr, if_pos h1, if_neg (not_not_intro h1), if_neg h3, if_pos h3]; done) | rfl | (simp only [lpTk, lpTkr]; simp only [if_pos h1, if_neg (not_not_intro h1), if_neg h3, if_pos h3]; done) | (simp_all [lpTk, lpTkr]; done)) (by first | (simp only [lpTk, lpTkr, if_pos h1, if_neg (not_not_intro h1), if_neg h3, if_pos h3]; done) | rfl | (simp only [lpTk, lpTkr]; simp only [if_pos h1, if_neg (not_not_intro h1), if_neg h3, if_pos h3]; done) | (simp_all [lpTk, lpTkr]; done))
    · refine lv_aload_n hx_ hb dX0_take_28 rfl (lv_at hl 1 rfl) ?_
      refine xc_call (wc := pw hx hc hh (lpTake u0, u1, ea + 1)) (wr := []) (st1 := [.int (lpTFHr u1)]) (va_runV (As := []) (rest := []) ⟨hx_, hb, hml, hown, hts⟩ (c_takeFromHelper l dC dI hx hc hh H.size (lpTake u0) u1 (ea + 1)) (cwV 0 hts (gd_V wa_c k_ml_X0_64 k_im_X0_takeFromHelper k_se_X0_takeFromHelper k_in_X0 k_co_X0_takeFromHelper) rfl rfl rfl (by decide +kernel) ⟨Nat.le_of_ble_eq_true rfl, Nat.le_of_ble_eq_true rfl⟩) (xc_preV (q0 := 0) (C := RX0) hK hP hD hZ rfl rfl) rfl rfl hl.1 rfl (lv_room (Nat.le_of_ble_eq_true rfl)) dX0_take_29 ⟨Nat.zero_le _, Nat.zero_le _⟩) hP hD hS hA [0, 1, 2] [] rfl rfl (by decide) (by decide) rfl (fun H locs hP hD hS _ => ?_)
      have hP : va_P (dC, dI) vwCl (pw hx hc hh ((lpTFH (lpTake u0) u1 (ea + 1)).1, (lpTFH (lpTake u0) u1 (ea + 1)).2.1, (lpTFH (lpTake u0) u1 (ea + 1)).2.2)) H := hP
      have hD : va_D A (pw hx hc hh ((lpTFH (lpTake u0) u1 (ea + 1)).1, (lpTFH (lpTake u0) u1 (ea + 1)).2.1, (lpTFH (lpTake u0) u1 (ea + 1)).2.2)) := hD
      refine lv_goto (tgt := 43) hx_ hb dX0_take_32 (by decide) ?_
      exact xc_iret (wf := pw hx hc hh) hx_ hb hr hlocks dX0_take_43 hK hP hD hS (by first | (simp only [lpTk, lpTkr, if_pos h1, if_neg (not_not_intro h1), if_pos h3, if_neg (not_not_intro h3)]; done) | rfl | (simp only [lpTk, lpTkr]; simp only [if_pos h1, if_neg (not_not_intro h1), if_pos h3, if_neg (not_not_intro h3)]; done) | (simp_all [lpTk, lpTkr]; done)) (by first | (simp only [lpTk, lpTkr, if_pos h1, if_neg (not_not_intro h1), if_pos h3, if_neg (not_not_intro h3)]; done) | rfl | (simp only [lpTk, lpTkr]; simp only [if_pos h1, if_neg (not_not_intro h1), if_pos h3, if_neg (not_not_intro h3)]; done) | (simp_all [lpTk, lpTkr]; done))

set_option maxHeartbeats 4000000 in
set_option maxRecDepth 100000 in
theorem c_line (l : Launch) (dC : Nat → ClassId) (dI : Nat → Nat → Nat) (hx hc hh : Nat) (sz : Nat) (u0 u1 : Nat → Int32) (ea : Int32) (k t : Int32) (hk0 : ¬ k < 0) (hk1 : ¬ 16 ≤ k) (hk2 : ¬ k = 2) : xc_M l yX0_line wsX0_line ({ frames := 4, cells := 0, slots := 0, locals := 86 }) [.ref hx, .int k, .int t] sz (dC, dI) vwCl [] pz (pw hx hc hh (u0, u1, ea)) (some (.int (lpLnr u0 u1 k t))) (pw hx hc hh (lpLn u0 u1 ea k t)) 0 0 := by
  refine Met.ofW (cc := cX0_line) (maxL := 4) (ret := (some .boolean)) (by decide) rfl ?_
  intro p e s m args below meth c s₁ B hml hv
  obtain ⟨rfl, hsz, hP, hK, hD0, hZ⟩ := hv
  have hx_ := B.exec
  have hb := B.bytes
  have hr := B.returns
  have hts := atoms_spec (ws := wsX0_line) B.pre
  have hown : s.vm.findClass RX0 = some m.cls := findClass_of_methodNamed B.named
  have hlocks := B.notSynchronized
  subst hsz
  have hD := hD0.self (sz := s.heap.size)
  generalize hAe : va_A (pw hx hc hh (u0, u1, ea)) s.heap.size = A at hD ⊢
  have hA : ∀ q : Nat, s.heap.size ≤ q → A q := fun q h => by rw [← hAe]; exact Or.inr h
  have hS : va_S A s.heap s.heap [] := va_S.rf
  have hin_RX0 : ∀ w ∈ u_ws RX0 TX0 3, w ∈ wsX0_line := fun w h => List.mem_cons_of_mem _ (u_X0 w h)
  have hlk_14 := hts _ (List.mem_cons_of_mem _ k_fl_X0_14)
  have hlk_18 := hts _ (List.mem_cons_of_mem _ k_fl_X0_18)
  have hml_28 : va_Nw (.methodLinkNest RX0 28 yX1_moveLine "LinePair") s := hZ.2 _ (by decide +kernel)
  have hl := lv_entry ([.ref hx, .int k, .int t]) (n := 4) (Nat.le_of_ble_eq_true rfl)
  rw [lg_entry_eq]
  generalize (lg_sl ([.ref hx, .int k, .int t]) ++ List.replicate (4 - (lg_sl ([.ref hx, .int k, .int t])).length) Slot.unset).toArray = ls at hl ⊢
  have hl : lv_has ls 4 [(0, .ref hx), (1, .int k), (2, .int t)] := hl
  refine lv_iload_n hx_ hb dX0_line_0 rfl (lv_at hl 1 rfl) ?_
  refine lv_if_lt (tgt := 15) hx_ hb dX0_line_1 (by decide) (fun h => absurd h hk0) (fun _ => ?_)
  refine lv_iload_n hx_ hb dX0_line_4 rfl (lv_at hl 1 rfl) ?_
  refine lv_bipush (v := 16) hx_ hb dX0_line_5 (by decide) ?_
  refine lv_icmp_ge (tgt := 15) hx_ hb dX0_line_7 (by decide) (fun h => absurd h hk1) (fun _ => ?_)
  refine lv_iload_n hx_ hb dX0_line_10 rfl (lv_at hl 1 rfl) ?_
  refine lv_iconst (v := 2) hx_ hb dX0_line_11 (by decide) ?_
  refine lv_icmp_ne (tgt := 23) hx_ hb dX0_line_12 (by decide) (fun _ => ?_) (fun h => absurd h hk2)
  refine lv_iload_n hx_ hb dX0_line_23 rfl (lv_at hl 1 rfl) ?_
  refine lv_bipush (v := 8) hx_ hb dX0_line_24 (by decide) ?_
  refine lv_icmp_ge (tgt := 41) hx_ hb dX0_line_26 (by decide) (fun h1 => ?_) (fun h1 => ?_)
  · refine lv_aload_n hx_ hb dX0_line_41 rfl (lv_at hl 0 rfl) ?_
    refine va_get (D := (dC, dI)) (ci := 0) (v := .ref hh) (C := RX0) (T := TX0) (N := 3) hx_ hb hts hin_RX0 hown hK hP 0 rfl rfl 1 (by decide) hlk_18 (fun _ h9 => h9) rfl dX0_line_42 ?_
    refine lv_iload_n hx_ hb dX0_line_45 rfl (lv_at hl 1 rfl) ?_
    refine lv_bipush (v := 8) hx_ hb dX0_line_46 (by decide) ?_
    refine lv_isub hx_ hb dX0_line_48 ?_
    refine lv_iload_n hx_ hb dX0_line_49 rfl (lv_at hl 2 rfl) ?_
    refine xc_call (wc := cw1 hh u1) (wr := [(hx, .inr (0, [.ref hc, .ref hh, .int ea])), (hc, .inr (1, lpF u0))]) (st1 := [.int (lpMoveR u1 (k - 8) t)]) (va_runVN (As := [.int (k - 8), .int t]) (rest := []) ⟨hx_, hb, hml, hown, hts⟩ (c_moveLine l dC dI hh s.heap.size u1 (k - 8) t) ⟨va_cnB 2 hts (gd_0 wa_c k_co_X1_moveLine) rfl rfl rfl hml_28 (hts _ (List.mem_cons_of_mem _ k_in_X1)) (by decide +kernel) ⟨Nat.le_of_ble_eq_true rfl, Nat.le_of_ble_eq_true rfl⟩, hts _ (List.mem_cons_of_mem _ k_im_X1_moveLine), hts _ (List.mem_cons_of_mem _ k_se_X1_moveLine)⟩ (xc_preV (q0 := 0) (C := RX1) hK (hP.sub (ws' := cw1 hh u1) [2] rfl) (hD.sub (ws' := cw1 hh u1) [2] (by decide) rfl) xz_Z.nil rfl rfl) rfl rfl hl.1 rfl (lv_room (Nat.le_of_ble_eq_true rfl)) dX0_line_50 ⟨Nat.zero_le _, Nat.zero_le _⟩) hP hD hS hA [2] [0, 1] rfl rfl (by decide) (by decide) rfl (fun H locs hP hD hS _ => ?_)
    have hP := hP.sub (ws' := pw hx hc hh (u0, lpMove u1 (k - 8) t, ea)) [0, 1, 2] rfl
    have hD := hD.sub (ws' := pw hx hc hh (u0, lpMove u1 (k - 8) t, ea)) [0, 1, 2] (by decide) rfl
    refine lv_istore_n (lv' := [(3, .int (lpMoveR u1 (k - 8) t)), (0, .ref hx), (1, .int k), (2, .int t)]) hx_ hb dX0_line_53 rfl hl (by decide) rfl (fun ls hl => ?_)
    refine lv_aload_n hx_ hb dX0_line_54 rfl (lv_at hl 1 rfl) ?_
    refine xc_call (wc := pw hx hc hh (u0, lpMove u1 (k - 8) t, ea)) (wr := []) (st1 := []) (va_runV (As := []) (rest := []) ⟨hx_, hb, hml, hown, hts⟩ (c_followHelper l dC dI hx hc hh H.size u0 (lpMove u1 (k - 8) t) ea) (cwV 0 hts (gd_V wa_c k_ml_X0_32 k_im_X0_followHelper k_se_X0_followHelper k_in_X0 k_co_X0_followHelper) rfl rfl rfl (by decide +kernel) ⟨Nat.le_of_ble_eq_true rfl, Nat.le_of_ble_eq_true rfl⟩) (xc_preV (q0 := 0) (C := RX0) hK hP hD hZ rfl rfl) rfl rfl hl.1 rfl (lv_room (Nat.le_of_ble_eq_true rfl)) dX0_line_55 ⟨Nat.zero_le _, Nat.zero_le _⟩) hP hD hS hA [0, 1, 2] [] rfl rfl (by decide) (by decide) rfl (fun H locs hP hD hS _ => ?_)
    have hP : va_P (dC, dI) vwCl (pw hx hc hh (lpFol u0 (lpMove u1 (k - 8) t), lpMove u1 (k - 8) t, ea)) H := hP
    have hD : va_D A (pw hx hc hh (lpFol u0 (lpMove u1 (k - 8) t), lpMove u1 (k - 8) t, ea)) := hD
    refine lv_iload_n hx_ hb dX0_line_58 rfl (lv_at hl 0 rfl) ?_
    exact xc_zret (wf := pw hx hc hh) hx_ hb hr hlocks dX0_line_59 hK hP hD hS (lpMoveR_nar _ _ _) (by first | (simp only [lpLn, lpLnr, if_neg hk0, if_pos hk0, if_neg hk1, if_pos hk1, if_neg hk2, if_pos hk2, if_pos h1, if_neg (not_not_intro h1)]; done) | rfl | (simp only [lpLn, lpLnr]; simp only [if_neg hk0, if_pos hk0, if_neg hk1, if_pos hk1, if_neg hk2, if_pos hk2, if_pos h1, if_neg (not_not_intro h1)]; done) | (simp_all [lpLn, lpLnr]; done)) (by first | (simp only [lpLn, lpLnr, if_neg hk0, if_pos hk0, if_neg hk1, if_pos hk1, if_neg hk2, if_pos hk2, if_pos h1, if_neg (not_not_intro h1)]; done) | rfl | (simp only [lpLn, lpLnr]; simp only [if_neg hk0, if_pos hk0, if_neg hk1, if_pos hk1, if_neg hk2, if_pos hk2, if_pos h1, if_neg (not_not_intro h1)]; done) | (simp_all [lpLn, lpLnr]; done))
  · refine lv_aload_n hx_ hb dX0_line_29 rfl (lv_at hl 0 rfl) ?_
    refine va_get (D := (dC, dI)) (ci := 0) (v := .ref hc) (C := RX0) (T := TX0) (N := 3) hx_ hb hts hin_RX0 hown hK hP 0 rfl rfl 0 (by decide) hlk_14 (fun _ h9 => h9) rfl dX0_line_30 ?_
    refine lv_iload_n hx_ hb dX0_line_33 rfl (lv_at hl 1 rfl) ?_
    refine lv_iload_n hx_ hb dX0_line_34 rfl (lv_at hl 2 rfl) ?_
    refine xc_call (wc := cw1 hc u0) (wr := [(hx, .inr (0, [.ref hc, .ref hh, .int ea])), (hh, .inr (1, lpF u1))]) (st1 := [.int (lpMoveR u0 k t)]) (va_runVN (As := [.int k, .int t]) (rest := []) ⟨hx_, hb, hml, hown, hts⟩ (c_moveLine l dC dI hc s.heap.size u0 k t) ⟨va_cnB 2 hts (gd_0 wa_c k_co_X1_moveLine) rfl rfl rfl hml_28 (hts _ (List.mem_cons_of_mem _ k_in_X1)) (by decide +kernel) ⟨Nat.le_of_ble_eq_true rfl, Nat.le_of_ble_eq_true rfl⟩, hts _ (List.mem_cons_of_mem _ k_im_X1_moveLine), hts _ (List.mem_cons_of_mem _ k_se_X1_moveLine)⟩ (xc_preV (q0 := 0) (C := RX1) hK (hP.sub (ws' := cw1 hc u0) [1] rfl) (hD.sub (ws' := cw1 hc u0) [1] (by decide) rfl) xz_Z.nil rfl rfl) rfl rfl hl.1 rfl (lv_room (Nat.le_of_ble_eq_true rfl)) dX0_line_35 ⟨Nat.zero_le _, Nat.zero_le _⟩) hP hD hS hA [1] [0, 2] rfl rfl (by decide) (by decide) rfl (fun H locs hP hD hS _ => ?_)
    have hP := hP.sub (ws' := pw hx hc hh (lpMove u0 k t, u1, ea)) [0, 2, 1] rfl
    have hD := hD.sub (ws' := pw hx hc hh (lpMove u0 k t, u1, ea)) [0, 2, 1] (by decide) rfl
    refine lv_goto (tgt := 53) hx_ hb dX0_line_38 (by decide) ?_
    refine lv_istore_n (lv' := [(3, .int (lpMoveR u0 k t)), (0, .ref hx), (1, .int k), (2, .int t)]) hx_ hb dX0_line_53 rfl hl (by decide) rfl (fun ls hl => ?_)
    refine lv_aload_n hx_ hb dX0_line_54 rfl (lv_at hl 1 rfl) ?_
    refine xc_call (wc := pw hx hc hh (lpMove u0 k t, u1, ea)) (wr := []) (st1 := []) (va_runV (As := []) (rest := []) ⟨hx_, hb, hml, hown, hts⟩ (c_followHelper l dC dI hx hc hh H.size (lpMove u0 k t) u1 ea) (cwV 0 hts (gd_V wa_c k_ml_X0_32 k_im_X0_followHelper k_se_X0_followHelper k_in_X0 k_co_X0_followHelper) rfl rfl rfl (by decide +kernel) ⟨Nat.le_of_ble_eq_true rfl, Nat.le_of_ble_eq_true rfl⟩) (xc_preV (q0 := 0) (C := RX0) hK hP hD hZ rfl rfl) rfl rfl hl.1 rfl (lv_room (Nat.le_of_ble_eq_true rfl)) dX0_line_55 ⟨Nat.zero_le _, Nat.zero_le _⟩) hP hD hS hA [0, 1, 2] [] rfl rfl (by decide) (by decide) rfl (fun H locs hP hD hS _ => ?_)
    have hP : va_P (dC, dI) vwCl (pw hx hc hh (lpFol (lpMove u0 k t) u1, u1, ea)) H := hP
    have hD : va_D A (pw hx hc hh (lpFol (lpMove u0 k t) u1, u1, ea)) := hD
    refine lv_iload_n hx_ hb dX0_line_58 rfl (lv_at hl 0 rfl) ?_
    exact xc_zret (wf := pw hx hc hh) hx_ hb hr hlocks dX0_line_59 hK hP hD hS (lpMoveR_nar _ _ _) (by first | (simp only [lpLn, lpLnr, if_neg hk0, if_pos hk0, if_neg hk1, if_pos hk1, if_neg hk2, if_pos hk2, if_neg h1, if_pos h1]; done) | rfl | (simp only [lpLn, lpLnr]; simp only [if_neg hk0, if_pos hk0, if_neg hk1, if_pos hk1, if_neg hk2, if_pos hk2, if_neg h1, if_pos h1]; done) | (simp_all [lpLn, lpLnr]; done)) (by first | (simp only [lpLn, lpLnr, if_neg hk0, if_pos hk0, if_neg hk1, if_pos hk1, if_neg hk2, if_pos hk2, if_neg h1, if_pos h1]; done) | rfl | (simp only [lpLn, lpLnr]; simp only [if_neg hk0, if_pos hk0, if_neg hk1, if_pos hk1, if_neg hk2, if_pos hk2, if_neg h1, if_pos h1]; done) | (simp_all [lpLn, lpLnr]; done))

set_option maxHeartbeats 4000000 in
set_option maxRecDepth 100000 in
theorem c_write_0_0 (l : Launch) (dC : Nat → ClassId) (dI : Nat → Nat → Nat) (hx hc hh : Nat) (sz : Nat) (u0 u1 : Nat → Int32) (ea : Int32) (w : Int32) (hw0 : ¬ w < 0) (hw1 : w ≤ 255) : xc_M l yX0_write wsX0_write ({ frames := 5, cells := 0, slots := 0, locals := 108 }) [.ref hx, .int 0, .int 0, .int w] sz (dC, dI) vwCl [] pz (pw hx hc hh (u0, u1, ea)) (some (.int (lpBo (lpFol (lpP0 u0 w) u1)))) (pw hx hc hh ((lpFol (lpP0 u0 w) u1, u1, ea))) 0 0 := by
  refine Met.ofW (cc := cX0_write) (maxL := 5) (ret := (some .boolean)) (by decide) rfl ?_
  intro p e s m args below meth c s₁ B hml hv
  obtain ⟨rfl, hsz, hP, hK, hD0, hZ⟩ := hv
  have hx_ := B.exec
  have hb := B.bytes
  have hr := B.returns
  have hts := atoms_spec (ws := wsX0_write) B.pre
  have hown : s.vm.findClass RX0 = some m.cls := findClass_of_methodNamed B.named
  have hlocks := B.notSynchronized
  subst hsz
  have hD := hD0.self (sz := s.heap.size)
  generalize hAe : va_A (pw hx hc hh (u0, u1, ea)) s.heap.size = A at hD ⊢
  have hA : ∀ q : Nat, s.heap.size ≤ q → A q := fun q h => by rw [← hAe]; exact Or.inr h
  have hS : va_S A s.heap s.heap [] := va_S.rf
  have hin_RX0 : ∀ w ∈ u_ws RX0 TX0 3, w ∈ wsX0_write := fun w h => List.mem_cons_of_mem _ (u_X0 w h)
  have hlk_14 := hts _ (List.mem_cons_of_mem _ k_fl_X0_14)
  have hml_45 : va_Nw (.methodLinkNest RX0 45 yX1_acceptAtPort0 "LinePair") s := hZ.2 _ (by decide +kernel)
  have hml_48 : va_Nw (.methodLinkNest RX0 48 yX1_acceptAtPort1 "LinePair") s := hZ.2 _ (by decide +kernel)
  have hml_51 : va_Nw (.methodLinkNest RX0 51 yX1_lineToDeliver "LinePair") s := hZ.2 _ (by decide +kernel)
  have hl := lv_entry ([.ref hx, .int 0, .int 0, .int w]) (n := 5) (Nat.le_of_ble_eq_true rfl)
  rw [lg_entry_eq]
  generalize (lg_sl ([.ref hx, .int 0, .int 0, .int w]) ++ List.replicate (5 - (lg_sl ([.ref hx, .int 0, .int 0, .int w])).length) Slot.unset).toArray = ls at hl ⊢
  have hl : lv_has ls 5 [(0, .ref hx), (1, .int 0), (2, .int 0), (3, .int w)] := hl
  refine lv_aload_n hx_ hb dX0_write_0 rfl (lv_at hl 0 rfl) ?_
  refine lv_iload_n hx_ hb dX0_write_1 rfl (lv_at hl 1 rfl) ?_
  refine xr_call (st1 := [.ref hc]) (W.runV (As := [.int 0]) (rest := []) ⟨hx_, hb, hml, hown, hts⟩ (c_controllerNumbered_0 l dC dI hx hc hh u0 u1 ea) (cwV 1 hts (gd_V wa_c k_ml_X0_35 k_im_X0_controllerNumbered k_se_X0_controllerNumbered k_in_X0 k_co_X0_controllerNumbered) rfl rfl rfl (by decide +kernel) ⟨Nat.le_of_ble_eq_true rfl, Nat.le_of_ble_eq_true rfl⟩) (xr_preV (q0 := 0) (C := RX0) hK hP hZ rfl rfl) rfl rfl hl.1 rfl (lv_room (Nat.le_of_ble_eq_true rfl)) dX0_write_2 ⟨Nat.zero_le _, Nat.zero_le _⟩) rfl ?_
  refine lv_astore (lv' := [(4, .ref hc), (0, .ref hx), (1, .int 0), (2, .int 0), (3, .int w)]) hx_ hb dX0_write_5 hl (by decide) rfl (fun ls hl => ?_)
  refine lv_aload_n hx_ hb dX0_write_7 rfl (lv_at hl 1 rfl) ?_
  refine lv_iload_n hx_ hb dX0_write_8 rfl (lv_at hl 3 rfl) ?_
  refine xr_call (st1 := []) (W.runV (As := [.int 0]) (rest := []) ⟨hx_, hb, hml, hown, hts⟩ (c_checkPort_0 l dC dI hx hc hh u0 u1 ea) (cwV 1 hts (gd_V wa_c k_ml_X0_39 k_im_X0_checkPort k_se_X0_checkPort k_in_X0 k_co_X0_checkPort) rfl rfl rfl (by decide +kernel) ⟨Nat.le_of_ble_eq_true rfl, Nat.le_of_ble_eq_true rfl⟩) (xr_preV (q0 := 0) (C := RX0) hK hP hZ rfl rfl) rfl rfl hl.1 rfl (lv_room (Nat.le_of_ble_eq_true rfl)) dX0_write_9 ⟨Nat.zero_le _, Nat.zero_le _⟩) rfl ?_
  refine lv_iload_n hx_ hb dX0_write_12 rfl (lv_at hl 4 rfl) ?_
  refine lv_if_lt (tgt := 23) hx_ hb dX0_write_13 (by decide) (fun h => absurd h hw0) (fun _ => ?_)
  refine lv_iload_n hx_ hb dX0_write_16 rfl (lv_at hl 4 rfl) ?_
  refine lv_sipush (v := 255) hx_ hb dX0_write_17 (by decide) ?_
  refine lv_icmp_le (tgt := 31) hx_ hb dX0_write_20 (by decide) (fun _ => ?_) (fun h => absurd hw1 h)
  refine lv_iload_n hx_ hb dX0_write_31 rfl (lv_at hl 3 rfl) ?_
  refine lv_if_ne (tgt := 44) hx_ hb dX0_write_32 (by decide) (fun h => absurd (by decide) h) (fun _ => ?_)
  refine lv_aload hx_ hb dX0_write_35 (lv_at hl 0 rfl) ?_
  refine lv_iload_n hx_ hb dX0_write_37 rfl (lv_at hl 4 rfl) ?_
  refine xc_call (wc := cw1 hc u0) (wr := [(hx, .inr (0, [.ref hc, .ref hh, .int ea])), (hh, .inr (1, lpF u1))]) (st1 := []) (va_runVN (As := [.int w]) (rest := []) ⟨hx_, hb, hml, hown, hts⟩ (c_acceptAtPort0 l dC dI hc s.heap.size u0 w) ⟨va_cnB 1 hts (gd_0 wa_c k_co_X1_acceptAtPort0) rfl rfl rfl hml_45 (hts _ (List.mem_cons_of_mem _ k_in_X1)) (by decide +kernel) ⟨Nat.le_of_ble_eq_true rfl, Nat.le_of_ble_eq_true rfl⟩, hts _ (List.mem_cons_of_mem _ k_im_X1_acceptAtPort0), hts _ (List.mem_cons_of_mem _ k_se_X1_acceptAtPort0)⟩ (xc_preV (q0 := 0) (C := RX1) hK (hP.sub (ws' := cw1 hc u0) [1] rfl) (hD.sub (ws' := cw1 hc u0) [1] (by decide) rfl) xz_Z.nil rfl rfl) rfl rfl hl.1 rfl (lv_room (Nat.le_of_ble_eq_true rfl)) dX0_write_38 ⟨Nat.zero_le _, Nat.zero_le _⟩) hP hD hS hA [1] [0, 2] rfl rfl (by decide) (by decide) rfl (fun H locs hP hD hS _ => ?_)
  have hP := hP.sub (ws' := pw hx hc hh (lpP0 u0 w, u1, ea)) [0, 2, 1] rfl
  have hD := hD.sub (ws' := pw hx hc hh (lpP0 u0 w, u1, ea)) [0, 2, 1] (by decide) rfl
  refine lv_goto (tgt := 50) hx_ hb dX0_write_41 (by decide) ?_
  refine lv_aload_n hx_ hb dX0_write_50 rfl (lv_at hl 1 rfl) ?_
  refine xc_call (wc := pw hx hc hh (lpP0 u0 w, u1, ea)) (wr := []) (st1 := []) (va_runV (As := []) (rest := []) ⟨hx_, hb, hml, hown, hts⟩ (c_followHelper l dC dI hx hc hh H.size (lpP0 u0 w) u1 ea) (cwV 0 hts (gd_V wa_c k_ml_X0_32 k_im_X0_followHelper k_se_X0_followHelper k_in_X0 k_co_X0_followHelper) rfl rfl rfl (by decide +kernel) ⟨Nat.le_of_ble_eq_true rfl, Nat.le_of_ble_eq_true rfl⟩) (xc_preV (q0 := 0) (C := RX0) hK hP hD hZ rfl rfl) rfl rfl hl.1 rfl (lv_room (Nat.le_of_ble_eq_true rfl)) dX0_write_51 ⟨Nat.zero_le _, Nat.zero_le _⟩) hP hD hS hA [0, 1, 2] [] rfl rfl (by decide) (by decide) rfl (fun H locs hP hD hS _ => ?_)
  have hP : va_P (dC, dI) vwCl (pw hx hc hh (lpFol (lpP0 u0 w) u1, u1, ea)) H := hP
  have hD : va_D A (pw hx hc hh (lpFol (lpP0 u0 w) u1, u1, ea)) := hD
  refine lv_aload_n hx_ hb dX0_write_54 rfl (lv_at hl 1 rfl) ?_
  refine va_get (D := (dC, dI)) (ci := 0) (v := .ref hc) (C := RX0) (T := TX0) (N := 3) hx_ hb hts hin_RX0 hown hK hP 0 rfl rfl 0 (by decide) hlk_14 (fun _ h9 => h9) rfl dX0_write_55 ?_
  refine xr_call (st1 := [.int (lpDel (lpFol (lpP0 u0 w) u1))]) ((va_runVN (As := []) (rest := []) ⟨hx_, hb, hml, hown, hts⟩ (c_lineToDeliver l dC dI hc (lpFol (lpP0 u0 w) u1)) ⟨va_cnB 0 hts (gd_0 wa_c k_co_X1_lineToDeliver) rfl rfl rfl hml_51 (hts _ (List.mem_cons_of_mem _ k_in_X1)) (by decide +kernel) ⟨Nat.le_of_ble_eq_true rfl, Nat.le_of_ble_eq_true rfl⟩, hts _ (List.mem_cons_of_mem _ k_im_X1_lineToDeliver), hts _ (List.mem_cons_of_mem _ k_se_X1_lineToDeliver)⟩ (xr_preV (q0 := 0) (C := RX1) hK (hP.sub (ws' := cw1 hc (lpFol (lpP0 u0 w) u1)) [1] rfl) xz_Z.nil rfl rfl) rfl rfl hl.1 rfl (lv_room (Nat.le_of_ble_eq_true rfl)) dX0_write_58 ⟨Nat.zero_le _, Nat.zero_le _⟩).run) rfl ?_
  refine lv_iconst (v := -1) hx_ hb dX0_write_61 (by decide) ?_
  refine lv_icmp_eq (tgt := 69) hx_ hb dX0_write_62 (by decide) (fun h1 => ?_) (fun h1 => ?_)
  · refine lv_iconst (v := 0) hx_ hb dX0_write_69 (by decide) ?_
    exact xc_zret (wf := pw hx hc hh) hx_ hb hr hlocks dX0_write_70 hK hP hD hS rfl (by first | (simp only [lpBo, if_neg hw0, if_pos hw0, if_pos hw1, if_neg (not_not_intro hw1), if_pos h1, if_neg (not_not_intro h1)]; done) | rfl | (simp only [lpBo]; simp only [if_neg hw0, if_pos hw0, if_pos hw1, if_neg (not_not_intro hw1), if_pos h1, if_neg (not_not_intro h1)]; done) | (simp_all [lpBo]; done)) (by first | (simp only [lpBo, if_neg hw0, if_pos hw0, if_pos hw1, if_neg (not_not_intro hw1), if_pos h1, if_neg (not_not_intro h1)]; done) | rfl | (simp only [lpBo]; simp only [if_neg hw0, if_pos hw0, if_pos hw1, if_neg (not_not_intro hw1), if_pos h1, if_neg (not_not_intro h1)]; done) | (simp_all [lpBo]; done))
  · refine lv_iconst (v := 1) hx_ hb dX0_write_65 (by decide) ?_
    refine lv_goto (tgt := 70) hx_ hb dX0_write_66 (by decide) ?_
    exact xc_zret (wf := pw hx hc hh) hx_ hb hr hlocks dX0_write_70 hK hP hD hS rfl (by first | (simp only [lpBo, if_neg hw0, if_pos hw0, if_pos hw1, if_neg (not_not_intro hw1), if_neg h1, if_pos h1]; done) | rfl | (simp only [lpBo]; simp only [if_neg hw0, if_pos hw0, if_pos hw1, if_neg (not_not_intro hw1), if_neg h1, if_pos h1]; done) | (simp_all [lpBo]; done)) (by first | (simp only [lpBo, if_neg hw0, if_pos hw0, if_pos hw1, if_neg (not_not_intro hw1), if_neg h1, if_pos h1]; done) | rfl | (simp only [lpBo]; simp only [if_neg hw0, if_pos hw0, if_pos hw1, if_neg (not_not_intro hw1), if_neg h1, if_pos h1]; done) | (simp_all [lpBo]; done))

set_option maxHeartbeats 4000000 in
set_option maxRecDepth 100000 in
theorem c_write_0_1 (l : Launch) (dC : Nat → ClassId) (dI : Nat → Nat → Nat) (hx hc hh : Nat) (sz : Nat) (u0 u1 : Nat → Int32) (ea : Int32) (w : Int32) (hw0 : ¬ w < 0) (hw1 : w ≤ 255) : xc_M l yX0_write wsX0_write ({ frames := 5, cells := 0, slots := 0, locals := 108 }) [.ref hx, .int 0, .int 1, .int w] sz (dC, dI) vwCl [] pz (pw hx hc hh (u0, u1, ea)) (some (.int (lpBo (lpFol (lpP1 u0 w) u1)))) (pw hx hc hh ((lpFol (lpP1 u0 w) u1, u1, ea))) 0 0 := by
  refine Met.ofW (cc := cX0_write) (maxL := 5) (ret := (some .boolean)) (by decide) rfl ?_
  intro p e s m args below meth c s₁ B hml hv
  obtain ⟨rfl, hsz, hP, hK, hD0, hZ⟩ := hv
  have hx_ := B.exec
  have hb := B.bytes
  have hr := B.returns
  have hts := atoms_spec (ws := wsX0_write) B.pre
  have hown : s.vm.findClass RX0 = some m.cls := findClass_of_methodNamed B.named
  have hlocks := B.notSynchronized
  subst hsz
  have hD := hD0.self (sz := s.heap.size)
  generalize hAe : va_A (pw hx hc hh (u0, u1, ea)) s.heap.size = A at hD ⊢
  have hA : ∀ q : Nat, s.heap.size ≤ q → A q := fun q h => by rw [← hAe]; exact Or.inr h
  have hS : va_S A s.heap s.heap [] := va_S.rf
  have hin_RX0 : ∀ w ∈ u_ws RX0 TX0 3, w ∈ wsX0_write := fun w h => List.mem_cons_of_mem _ (u_X0 w h)
  have hlk_14 := hts _ (List.mem_cons_of_mem _ k_fl_X0_14)
  have hml_45 : va_Nw (.methodLinkNest RX0 45 yX1_acceptAtPort0 "LinePair") s := hZ.2 _ (by decide +kernel)
  have hml_48 : va_Nw (.methodLinkNest RX0 48 yX1_acceptAtPort1 "LinePair") s := hZ.2 _ (by decide +kernel)
  have hml_51 : va_Nw (.methodLinkNest RX0 51 yX1_lineToDeliver "LinePair") s := hZ.2 _ (by decide +kernel)
  have hl := lv_entry ([.ref hx, .int 0, .int 1, .int w]) (n := 5) (Nat.le_of_ble_eq_true rfl)
  rw [lg_entry_eq]
  generalize (lg_sl ([.ref hx, .int 0, .int 1, .int w]) ++ List.replicate (5 - (lg_sl ([.ref hx, .int 0, .int 1, .int w])).length) Slot.unset).toArray = ls at hl ⊢
  have hl : lv_has ls 5 [(0, .ref hx), (1, .int 0), (2, .int 1), (3, .int w)] := hl
  refine lv_aload_n hx_ hb dX0_write_0 rfl (lv_at hl 0 rfl) ?_
  refine lv_iload_n hx_ hb dX0_write_1 rfl (lv_at hl 1 rfl) ?_
  refine xr_call (st1 := [.ref hc]) (W.runV (As := [.int 0]) (rest := []) ⟨hx_, hb, hml, hown, hts⟩ (c_controllerNumbered_0 l dC dI hx hc hh u0 u1 ea) (cwV 1 hts (gd_V wa_c k_ml_X0_35 k_im_X0_controllerNumbered k_se_X0_controllerNumbered k_in_X0 k_co_X0_controllerNumbered) rfl rfl rfl (by decide +kernel) ⟨Nat.le_of_ble_eq_true rfl, Nat.le_of_ble_eq_true rfl⟩) (xr_preV (q0 := 0) (C := RX0) hK hP hZ rfl rfl) rfl rfl hl.1 rfl (lv_room (Nat.le_of_ble_eq_true rfl)) dX0_write_2 ⟨Nat.zero_le _, Nat.zero_le _⟩) rfl ?_
  refine lv_astore (lv' := [(4, .ref hc), (0, .ref hx), (1, .int 0), (2, .int 1), (3, .int w)]) hx_ hb dX0_write_5 hl (by decide) rfl (fun ls hl => ?_)
  refine lv_aload_n hx_ hb dX0_write_7 rfl (lv_at hl 1 rfl) ?_
  refine lv_iload_n hx_ hb dX0_write_8 rfl (lv_at hl 3 rfl) ?_
  refine xr_call (st1 := []) (W.runV (As := [.int 1]) (rest := []) ⟨hx_, hb, hml, hown, hts⟩ (c_checkPort_1 l dC dI hx hc hh u0 u1 ea) (cwV 1 hts (gd_V wa_c k_ml_X0_39 k_im_X0_checkPort k_se_X0_checkPort k_in_X0 k_co_X0_checkPort) rfl rfl rfl (by decide +kernel) ⟨Nat.le_of_ble_eq_true rfl, Nat.le_of_ble_eq_true rfl⟩) (xr_preV (q0 := 0) (C := RX0) hK hP hZ rfl rfl) rfl rfl hl.1 rfl (lv_room (Nat.le_of_ble_eq_true rfl)) dX0_write_9 ⟨Nat.zero_le _, Nat.zero_le _⟩) rfl ?_
  refine lv_iload_n hx_ hb dX0_write_12 rfl (lv_at hl 4 rfl) ?_
  refine lv_if_lt (tgt := 23) hx_ hb dX0_write_13 (by decide) (fun h => absurd h hw0) (fun _ => ?_)
  refine lv_iload_n hx_ hb dX0_write_16 rfl (lv_at hl 4 rfl) ?_
  refine lv_sipush (v := 255) hx_ hb dX0_write_17 (by decide) ?_
  refine lv_icmp_le (tgt := 31) hx_ hb dX0_write_20 (by decide) (fun _ => ?_) (fun h => absurd hw1 h)
  refine lv_iload_n hx_ hb dX0_write_31 rfl (lv_at hl 3 rfl) ?_
  refine lv_if_ne (tgt := 44) hx_ hb dX0_write_32 (by decide) (fun _ => ?_) (fun h => absurd h (by decide))
  refine lv_aload hx_ hb dX0_write_44 (lv_at hl 0 rfl) ?_
  refine lv_iload_n hx_ hb dX0_write_46 rfl (lv_at hl 4 rfl) ?_
  refine xc_call (wc := cw1 hc u0) (wr := [(hx, .inr (0, [.ref hc, .ref hh, .int ea])), (hh, .inr (1, lpF u1))]) (st1 := []) (va_runVN (As := [.int w]) (rest := []) ⟨hx_, hb, hml, hown, hts⟩ (c_acceptAtPort1 l dC dI hc s.heap.size u0 w) ⟨va_cnB 1 hts (gd_0 wa_c k_co_X1_acceptAtPort1) rfl rfl rfl hml_48 (hts _ (List.mem_cons_of_mem _ k_in_X1)) (by decide +kernel) ⟨Nat.le_of_ble_eq_true rfl, Nat.le_of_ble_eq_true rfl⟩, hts _ (List.mem_cons_of_mem _ k_im_X1_acceptAtPort1), hts _ (List.mem_cons_of_mem _ k_se_X1_acceptAtPort1)⟩ (xc_preV (q0 := 0) (C := RX1) hK (hP.sub (ws' := cw1 hc u0) [1] rfl) (hD.sub (ws' := cw1 hc u0) [1] (by decide) rfl) xz_Z.nil rfl rfl) rfl rfl hl.1 rfl (lv_room (Nat.le_of_ble_eq_true rfl)) dX0_write_47 ⟨Nat.zero_le _, Nat.zero_le _⟩) hP hD hS hA [1] [0, 2] rfl rfl (by decide) (by decide) rfl (fun H locs hP hD hS _ => ?_)
  have hP := hP.sub (ws' := pw hx hc hh (lpP1 u0 w, u1, ea)) [0, 2, 1] rfl
  have hD := hD.sub (ws' := pw hx hc hh (lpP1 u0 w, u1, ea)) [0, 2, 1] (by decide) rfl
  refine lv_aload_n hx_ hb dX0_write_50 rfl (lv_at hl 1 rfl) ?_
  refine xc_call (wc := pw hx hc hh (lpP1 u0 w, u1, ea)) (wr := []) (st1 := []) (va_runV (As := []) (rest := []) ⟨hx_, hb, hml, hown, hts⟩ (c_followHelper l dC dI hx hc hh H.size (lpP1 u0 w) u1 ea) (cwV 0 hts (gd_V wa_c k_ml_X0_32 k_im_X0_followHelper k_se_X0_followHelper k_in_X0 k_co_X0_followHelper) rfl rfl rfl (by decide +kernel) ⟨Nat.le_of_ble_eq_true rfl, Nat.le_of_ble_eq_true rfl⟩) (xc_preV (q0 := 0) (C := RX0) hK hP hD hZ rfl rfl) rfl rfl hl.1 rfl (lv_room (Nat.le_of_ble_eq_true rfl)) dX0_write_51 ⟨Nat.zero_le _, Nat.zero_le _⟩) hP hD hS hA [0, 1, 2] [] rfl rfl (by decide) (by decide) rfl (fun H locs hP hD hS _ => ?_)
  have hP : va_P (dC, dI) vwCl (pw hx hc hh (lpFol (lpP1 u0 w) u1, u1, ea)) H := hP
  have hD : va_D A (pw hx hc hh (lpFol (lpP1 u0 w) u1, u1, ea)) := hD
  refine lv_aload_n hx_ hb dX0_write_54 rfl (lv_at hl 1 rfl) ?_
  refine va_get (D := (dC, dI)) (ci := 0) (v := .ref hc) (C := RX0) (T := TX0) (N := 3) hx_ hb hts hin_RX0 hown hK hP 0 rfl rfl 0 (by decide) hlk_14 (fun _ h9 => h9) rfl dX0_write_55 ?_
  refine xr_call (st1 := [.int (lpDel (lpFol (lpP1 u0 w) u1))]) ((va_runVN (As := []) (rest := []) ⟨hx_, hb, hml, hown, hts⟩ (c_lineToDeliver l dC dI hc (lpFol (lpP1 u0 w) u1)) ⟨va_cnB 0 hts (gd_0 wa_c k_co_X1_lineToDeliver) rfl rfl rfl hml_51 (hts _ (List.mem_cons_of_mem _ k_in_X1)) (by decide +kernel) ⟨Nat.le_of_ble_eq_true rfl, Nat.le_of_ble_eq_true rfl⟩, hts _ (List.mem_cons_of_mem _ k_im_X1_lineToDeliver), hts _ (List.mem_cons_of_mem _ k_se_X1_lineToDeliver)⟩ (xr_preV (q0 := 0) (C := RX1) hK (hP.sub (ws' := cw1 hc (lpFol (lpP1 u0 w) u1)) [1] rfl) xz_Z.nil rfl rfl) rfl rfl hl.1 rfl (lv_room (Nat.le_of_ble_eq_true rfl)) dX0_write_58 ⟨Nat.zero_le _, Nat.zero_le _⟩).run) rfl ?_
  refine lv_iconst (v := -1) hx_ hb dX0_write_61 (by decide) ?_
  refine lv_icmp_eq (tgt := 69) hx_ hb dX0_write_62 (by decide) (fun h1 => ?_) (fun h1 => ?_)
  · refine lv_iconst (v := 0) hx_ hb dX0_write_69 (by decide) ?_
    exact xc_zret (wf := pw hx hc hh) hx_ hb hr hlocks dX0_write_70 hK hP hD hS rfl (by first | (simp only [lpBo, if_neg hw0, if_pos hw0, if_pos hw1, if_neg (not_not_intro hw1), if_pos h1, if_neg (not_not_intro h1)]; done) | rfl | (simp only [lpBo]; simp only [if_neg hw0, if_pos hw0, if_pos hw1, if_neg (not_not_intro hw1), if_pos h1, if_neg (not_not_intro h1)]; done) | (simp_all [lpBo]; done)) (by first | (simp only [lpBo, if_neg hw0, if_pos hw0, if_pos hw1, if_neg (not_not_intro hw1), if_pos h1, if_neg (not_not_intro h1)]; done) | rfl | (simp only [lpBo]; simp only [if_neg hw0, if_pos hw0, if_pos hw1, if_neg (not_not_intro hw1), if_pos h1, if_neg (not_not_intro h1)]; done) | (simp_all [lpBo]; done))
  · refine lv_iconst (v := 1) hx_ hb dX0_write_65 (by decide) ?_
    refine lv_goto (tgt := 70) hx_ hb dX0_write_66 (by decide) ?_
    exact xc_zret (wf := pw hx hc hh) hx_ hb hr hlocks dX0_write_70 hK hP hD hS rfl (by first | (simp only [lpBo, if_neg hw0, if_pos hw0, if_pos hw1, if_neg (not_not_intro hw1), if_neg h1, if_pos h1]; done) | rfl | (simp only [lpBo]; simp only [if_neg hw0, if_pos hw0, if_pos hw1, if_neg (not_not_intro hw1), if_neg h1, if_pos h1]; done) | (simp_all [lpBo]; done)) (by first | (simp only [lpBo, if_neg hw0, if_pos hw0, if_pos hw1, if_neg (not_not_intro hw1), if_neg h1, if_pos h1]; done) | rfl | (simp only [lpBo]; simp only [if_neg hw0, if_pos hw0, if_pos hw1, if_neg (not_not_intro hw1), if_neg h1, if_pos h1]; done) | (simp_all [lpBo]; done))

set_option maxHeartbeats 4000000 in
set_option maxRecDepth 100000 in
theorem c_read_0_1 (l : Launch) (dC : Nat → ClassId) (dI : Nat → Nat → Nat) (hx hc hh : Nat) (sz : Nat) (u0 u1 : Nat → Int32) (ea : Int32) : xc_M l yX0_read wsX0_read ({ frames := 5, cells := 0, slots := 0, locals := 108 }) [.ref hx, .int 0, .int 1] sz (dC, dI) vwCl [] pz (pw hx hc hh (u0, u1, ea)) (some (.int (u0 4))) (pw hx hc hh ((u0, u1, ea))) 0 0 := by
  refine Met.ofW (cc := cX0_read) (maxL := 5) (ret := (some .int)) (by decide) rfl ?_
  intro p e s m args below meth c s₁ B hml hv
  obtain ⟨rfl, hsz, hP, hK, hD0, hZ⟩ := hv
  have hx_ := B.exec
  have hb := B.bytes
  have hr := B.returns
  have hts := atoms_spec (ws := wsX0_read) B.pre
  have hown : s.vm.findClass RX0 = some m.cls := findClass_of_methodNamed B.named
  have hlocks := B.notSynchronized
  subst hsz
  have hD := hD0.self (sz := s.heap.size)
  generalize hAe : va_A (pw hx hc hh (u0, u1, ea)) s.heap.size = A at hD ⊢
  have hA : ∀ q : Nat, s.heap.size ≤ q → A q := fun q h => by rw [← hAe]; exact Or.inr h
  have hS : va_S A s.heap s.heap [] := va_S.rf
  have hin_RX1 : ∀ w ∈ u_ws RX1 TX1 19, w ∈ wsX0_read := fun w h => List.mem_cons_of_mem _ (u_X1 w h)
  have hlk_55 := hZ.use (w := .fieldLinkNest RX0 55 "LinePair$Controller" "masked" "I" "LinePair") (by decide +kernel) (a := ([.ref hx, .int 0, .int 1]).toArray)
  have hml_58 : va_Nw (.methodLinkNest RX0 58 yX1_answerAtPort0 "LinePair") s := hZ.2 _ (by decide +kernel)
  have hl := lv_entry ([.ref hx, .int 0, .int 1]) (n := 5) (Nat.le_of_ble_eq_true rfl)
  rw [lg_entry_eq]
  generalize (lg_sl ([.ref hx, .int 0, .int 1]) ++ List.replicate (5 - (lg_sl ([.ref hx, .int 0, .int 1])).length) Slot.unset).toArray = ls at hl ⊢
  have hl : lv_has ls 5 [(0, .ref hx), (1, .int 0), (2, .int 1)] := hl
  refine lv_aload_n hx_ hb dX0_read_0 rfl (lv_at hl 0 rfl) ?_
  refine lv_iload_n hx_ hb dX0_read_1 rfl (lv_at hl 1 rfl) ?_
  refine xr_call (st1 := [.ref hc]) (W.runV (As := [.int 0]) (rest := []) ⟨hx_, hb, hml, hown, hts⟩ (c_controllerNumbered_0 l dC dI hx hc hh u0 u1 ea) (cwV 1 hts (gd_V wa_c k_ml_X0_35 k_im_X0_controllerNumbered k_se_X0_controllerNumbered k_in_X0 k_co_X0_controllerNumbered) rfl rfl rfl (by decide +kernel) ⟨Nat.le_of_ble_eq_true rfl, Nat.le_of_ble_eq_true rfl⟩) (xr_preV (q0 := 0) (C := RX0) hK hP hZ rfl rfl) rfl rfl hl.1 rfl (lv_room (Nat.le_of_ble_eq_true rfl)) dX0_read_2 ⟨Nat.zero_le _, Nat.zero_le _⟩) rfl ?_
  refine lv_astore_n (lv' := [(3, .ref hc), (0, .ref hx), (1, .int 0), (2, .int 1)]) hx_ hb dX0_read_5 rfl hl (by decide) rfl (fun ls hl => ?_)
  refine lv_aload_n hx_ hb dX0_read_6 rfl (lv_at hl 1 rfl) ?_
  refine lv_iload_n hx_ hb dX0_read_7 rfl (lv_at hl 3 rfl) ?_
  refine xr_call (st1 := []) (W.runV (As := [.int 1]) (rest := []) ⟨hx_, hb, hml, hown, hts⟩ (c_checkPort_1 l dC dI hx hc hh u0 u1 ea) (cwV 1 hts (gd_V wa_c k_ml_X0_39 k_im_X0_checkPort k_se_X0_checkPort k_in_X0 k_co_X0_checkPort) rfl rfl rfl (by decide +kernel) ⟨Nat.le_of_ble_eq_true rfl, Nat.le_of_ble_eq_true rfl⟩) (xr_preV (q0 := 0) (C := RX0) hK hP hZ rfl rfl) rfl rfl hl.1 rfl (lv_room (Nat.le_of_ble_eq_true rfl)) dX0_read_8 ⟨Nat.zero_le _, Nat.zero_le _⟩) rfl ?_
  refine lv_iload_n hx_ hb dX0_read_11 rfl (lv_at hl 3 rfl) ?_
  refine lv_iconst (v := 1) hx_ hb dX0_read_12 (by decide) ?_
  refine lv_icmp_ne (tgt := 21) hx_ hb dX0_read_13 (by decide) (fun h => absurd (by decide) h) (fun _ => ?_)
  refine lv_aload_n hx_ hb dX0_read_16 rfl (lv_at hl 0 rfl) ?_
  refine va_getN (D := (dC, dI)) (ci := 1) (v := .int (u0 4)) (C := RX1) (T := TX1) (N := 19) hx_ hb hts hin_RX1 hown hK hP 1 rfl rfl 4 (by decide) hlk_55 (fun _ h9 => h9) rfl dX0_read_17 ?_
  exact xc_iret (wf := pw hx hc hh) hx_ hb hr hlocks dX0_read_20 hK hP hD hS rfl rfl

set_option maxHeartbeats 4000000 in
set_option maxRecDepth 100000 in
theorem c_read_0_0 (l : Launch) (dC : Nat → ClassId) (dI : Nat → Nat → Nat) (hx hc hh : Nat) (sz : Nat) (u0 u1 : Nat → Int32) (ea : Int32) : xc_M l yX0_read wsX0_read ({ frames := 5, cells := 0, slots := 0, locals := 108 }) [.ref hx, .int 0, .int 0] sz (dC, dI) vwCl [] pz (pw hx hc hh (u0, u1, ea)) (some (.int (lpAnsR u0))) (pw hx hc hh ((lpFol (lpAns u0) u1, u1, ea))) 0 0 := by
  refine Met.ofW (cc := cX0_read) (maxL := 5) (ret := (some .int)) (by decide) rfl ?_
  intro p e s m args below meth c s₁ B hml hv
  obtain ⟨rfl, hsz, hP, hK, hD0, hZ⟩ := hv
  have hx_ := B.exec
  have hb := B.bytes
  have hr := B.returns
  have hts := atoms_spec (ws := wsX0_read) B.pre
  have hown : s.vm.findClass RX0 = some m.cls := findClass_of_methodNamed B.named
  have hlocks := B.notSynchronized
  subst hsz
  have hD := hD0.self (sz := s.heap.size)
  generalize hAe : va_A (pw hx hc hh (u0, u1, ea)) s.heap.size = A at hD ⊢
  have hA : ∀ q : Nat, s.heap.size ≤ q → A q := fun q h => by rw [← hAe]; exact Or.inr h
  have hS : va_S A s.heap s.heap [] := va_S.rf
  have hin_RX1 : ∀ w ∈ u_ws RX1 TX1 19, w ∈ wsX0_read := fun w h => List.mem_cons_of_mem _ (u_X1 w h)
  have hlk_55 := hZ.use (w := .fieldLinkNest RX0 55 "LinePair$Controller" "masked" "I" "LinePair") (by decide +kernel) (a := ([.ref hx, .int 0, .int 0]).toArray)
  have hml_58 : va_Nw (.methodLinkNest RX0 58 yX1_answerAtPort0 "LinePair") s := hZ.2 _ (by decide +kernel)
  have hl := lv_entry ([.ref hx, .int 0, .int 0]) (n := 5) (Nat.le_of_ble_eq_true rfl)
  rw [lg_entry_eq]
  generalize (lg_sl ([.ref hx, .int 0, .int 0]) ++ List.replicate (5 - (lg_sl ([.ref hx, .int 0, .int 0])).length) Slot.unset).toArray = ls at hl ⊢
  have hl : lv_has ls 5 [(0, .ref hx), (1, .int 0), (2, .int 0)] := hl
  refine lv_aload_n hx_ hb dX0_read_0 rfl (lv_at hl 0 rfl) ?_
  refine lv_iload_n hx_ hb dX0_read_1 rfl (lv_at hl 1 rfl) ?_
  refine xr_call (st1 := [.ref hc]) (W.runV (As := [.int 0]) (rest := []) ⟨hx_, hb, hml, hown, hts⟩ (c_controllerNumbered_0 l dC dI hx hc hh u0 u1 ea) (cwV 1 hts (gd_V wa_c k_ml_X0_35 k_im_X0_controllerNumbered k_se_X0_controllerNumbered k_in_X0 k_co_X0_controllerNumbered) rfl rfl rfl (by decide +kernel) ⟨Nat.le_of_ble_eq_true rfl, Nat.le_of_ble_eq_true rfl⟩) (xr_preV (q0 := 0) (C := RX0) hK hP hZ rfl rfl) rfl rfl hl.1 rfl (lv_room (Nat.le_of_ble_eq_true rfl)) dX0_read_2 ⟨Nat.zero_le _, Nat.zero_le _⟩) rfl ?_
  refine lv_astore_n (lv' := [(3, .ref hc), (0, .ref hx), (1, .int 0), (2, .int 0)]) hx_ hb dX0_read_5 rfl hl (by decide) rfl (fun ls hl => ?_)
  refine lv_aload_n hx_ hb dX0_read_6 rfl (lv_at hl 1 rfl) ?_
  refine lv_iload_n hx_ hb dX0_read_7 rfl (lv_at hl 3 rfl) ?_
  refine xr_call (st1 := []) (W.runV (As := [.int 0]) (rest := []) ⟨hx_, hb, hml, hown, hts⟩ (c_checkPort_0 l dC dI hx hc hh u0 u1 ea) (cwV 1 hts (gd_V wa_c k_ml_X0_39 k_im_X0_checkPort k_se_X0_checkPort k_in_X0 k_co_X0_checkPort) rfl rfl rfl (by decide +kernel) ⟨Nat.le_of_ble_eq_true rfl, Nat.le_of_ble_eq_true rfl⟩) (xr_preV (q0 := 0) (C := RX0) hK hP hZ rfl rfl) rfl rfl hl.1 rfl (lv_room (Nat.le_of_ble_eq_true rfl)) dX0_read_8 ⟨Nat.zero_le _, Nat.zero_le _⟩) rfl ?_
  refine lv_iload_n hx_ hb dX0_read_11 rfl (lv_at hl 3 rfl) ?_
  refine lv_iconst (v := 1) hx_ hb dX0_read_12 (by decide) ?_
  refine lv_icmp_ne (tgt := 21) hx_ hb dX0_read_13 (by decide) (fun _ => ?_) (fun h => absurd h (by decide))
  refine lv_aload_n hx_ hb dX0_read_21 rfl (lv_at hl 0 rfl) ?_
  refine xc_call (wc := cw1 hc u0) (wr := [(hx, .inr (0, [.ref hc, .ref hh, .int ea])), (hh, .inr (1, lpF u1))]) (st1 := [.int (lpAnsR u0)]) (va_runVN (As := []) (rest := []) ⟨hx_, hb, hml, hown, hts⟩ (c_answerAtPort0 l dC dI hc s.heap.size u0) ⟨va_cnB 0 hts (gd_0 wa_c k_co_X1_answerAtPort0) rfl rfl rfl hml_58 (hts _ (List.mem_cons_of_mem _ k_in_X1)) (by decide +kernel) ⟨Nat.le_of_ble_eq_true rfl, Nat.le_of_ble_eq_true rfl⟩, hts _ (List.mem_cons_of_mem _ k_im_X1_answerAtPort0), hts _ (List.mem_cons_of_mem _ k_se_X1_answerAtPort0)⟩ (xc_preV (q0 := 0) (C := RX1) hK (hP.sub (ws' := cw1 hc u0) [1] rfl) (hD.sub (ws' := cw1 hc u0) [1] (by decide) rfl) xz_Z.nil rfl rfl) rfl rfl hl.1 rfl (lv_room (Nat.le_of_ble_eq_true rfl)) dX0_read_22 ⟨Nat.zero_le _, Nat.zero_le _⟩) hP hD hS hA [1] [0, 2] rfl rfl (by decide) (by decide) rfl (fun H locs hP hD hS _ => ?_)
  have hP := hP.sub (ws' := pw hx hc hh (lpAns u0, u1, ea)) [0, 2, 1] rfl
  have hD := hD.sub (ws' := pw hx hc hh (lpAns u0, u1, ea)) [0, 2, 1] (by decide) rfl
  refine lv_istore (lv' := [(4, .int (lpAnsR u0)), (3, .ref hc), (0, .ref hx), (1, .int 0), (2, .int 0)]) hx_ hb dX0_read_25 hl (by decide) rfl (fun ls hl => ?_)
  refine lv_aload_n hx_ hb dX0_read_27 rfl (lv_at hl 2 rfl) ?_
  refine xc_call (wc := pw hx hc hh (lpAns u0, u1, ea)) (wr := []) (st1 := []) (va_runV (As := []) (rest := []) ⟨hx_, hb, hml, hown, hts⟩ (c_followHelper l dC dI hx hc hh H.size (lpAns u0) u1 ea) (cwV 0 hts (gd_V wa_c k_ml_X0_32 k_im_X0_followHelper k_se_X0_followHelper k_in_X0 k_co_X0_followHelper) rfl rfl rfl (by decide +kernel) ⟨Nat.le_of_ble_eq_true rfl, Nat.le_of_ble_eq_true rfl⟩) (xc_preV (q0 := 0) (C := RX0) hK hP hD hZ rfl rfl) rfl rfl hl.1 rfl (lv_room (Nat.le_of_ble_eq_true rfl)) dX0_read_28 ⟨Nat.zero_le _, Nat.zero_le _⟩) hP hD hS hA [0, 1, 2] [] rfl rfl (by decide) (by decide) rfl (fun H locs hP hD hS _ => ?_)
  have hP : va_P (dC, dI) vwCl (pw hx hc hh (lpFol (lpAns u0) u1, u1, ea)) H := hP
  have hD : va_D A (pw hx hc hh (lpFol (lpAns u0) u1, u1, ea)) := hD
  refine lv_iload hx_ hb dX0_read_31 (lv_at hl 0 rfl) ?_
  exact xc_iret (wf := pw hx hc hh) hx_ hb hr hlocks dX0_read_33 hK hP hD hS rfl rfl

set_option maxHeartbeats 4000000 in
set_option maxRecDepth 100000 in
theorem c_delivers_0 (l : Launch) (dC : Nat → ClassId) (dI : Nat → Nat → Nat) (hx hc hh : Nat) (u0 u1 : Nat → Int32) (ea : Int32) : xr_M l yX0_delivers wsX0_delivers ({ frames := 3, cells := 0, slots := 0, locals := 66 }) [.ref hx, .int 0] (dC, dI) vwCl [] pz (pw hx hc hh (u0, u1, ea)) (some (.int (lpDel u0))) := by
  refine Met.ofW (cc := cX0_delivers) (maxL := 2) (ret := (some .int)) (by decide) rfl ?_
  intro p e s m args below meth c s₁ B hml hv
  obtain ⟨rfl, hP, hK, hZ⟩ := hv
  have hx_ := B.exec
  have hb := B.bytes
  have hr := B.returns
  have hts := atoms_spec (ws := wsX0_delivers) B.pre
  have hown : s.vm.findClass RX0 = some m.cls := findClass_of_methodNamed B.named
  have hlocks := B.notSynchronized
  have hml_51 : va_Nw (.methodLinkNest RX0 51 yX1_lineToDeliver "LinePair") s := hZ.2 _ (by decide +kernel)
  have hl := lv_entry ([.ref hx, .int 0]) (n := 2) (Nat.le_of_ble_eq_true rfl)
  rw [lg_entry_eq]
  generalize (lg_sl ([.ref hx, .int 0]) ++ List.replicate (2 - (lg_sl ([.ref hx, .int 0])).length) Slot.unset).toArray = ls at hl ⊢
  have hl : lv_has ls 2 [(0, .ref hx), (1, .int 0)] := hl
  refine lv_aload_n hx_ hb dX0_delivers_0 rfl (lv_at hl 0 rfl) ?_
  refine lv_iload_n hx_ hb dX0_delivers_1 rfl (lv_at hl 1 rfl) ?_
  refine xr_call (st1 := [.ref hc]) (W.runV (As := [.int 0]) (rest := []) ⟨hx_, hb, hml, hown, hts⟩ (c_controllerNumbered_0 l dC dI hx hc hh u0 u1 ea) (cwV 1 hts (gd_V wa_c k_ml_X0_35 k_im_X0_controllerNumbered k_se_X0_controllerNumbered k_in_X0 k_co_X0_controllerNumbered) rfl rfl rfl (by decide +kernel) ⟨Nat.le_of_ble_eq_true rfl, Nat.le_of_ble_eq_true rfl⟩) (xr_preV (q0 := 0) (C := RX0) hK hP hZ rfl rfl) rfl rfl hl.1 rfl (lv_room (Nat.le_of_ble_eq_true rfl)) dX0_delivers_2 ⟨Nat.zero_le _, Nat.zero_le _⟩) rfl ?_
  refine xr_call (st1 := [.int (lpDel u0)]) ((va_runVN (As := []) (rest := []) ⟨hx_, hb, hml, hown, hts⟩ (c_lineToDeliver l dC dI hc u0) ⟨va_cnB 0 hts (gd_0 wa_c k_co_X1_lineToDeliver) rfl rfl rfl hml_51 (hts _ (List.mem_cons_of_mem _ k_in_X1)) (by decide +kernel) ⟨Nat.le_of_ble_eq_true rfl, Nat.le_of_ble_eq_true rfl⟩, hts _ (List.mem_cons_of_mem _ k_im_X1_lineToDeliver), hts _ (List.mem_cons_of_mem _ k_se_X1_lineToDeliver)⟩ (xr_preV (q0 := 0) (C := RX1) hK (hP.sub (ws' := cw1 hc u0) [1] rfl) xz_Z.nil rfl rfl) rfl rfl hl.1 rfl (lv_room (Nat.le_of_ble_eq_true rfl)) dX0_delivers_5 ⟨Nat.zero_le _, Nat.zero_le _⟩).run) rfl ?_
  exact xr_iret hx_ hb hr hlocks dX0_delivers_8 rfl

set_option maxHeartbeats 4000000 in
set_option maxRecDepth 100000 in
theorem c_about_0_0 (l : Launch) (dC : Nat → ClassId) (dI : Nat → Nat → Nat) (hx hc hh : Nat) (u0 u1 : Nat → Int32) (ea : Int32) : xr_M l yX0_about wsX0_about ({ frames := 1, cells := 0, slots := 0, locals := 21 }) [.ref hx, .int 0, .int 0] (dC, dI) vwCl [] pz (pw hx hc hh (u0, u1, ea)) (some (.int (lpReq u0))) := by
  refine Met.ofW (cc := cX0_about) (maxL := 4) (ret := (some .int)) (by decide) rfl ?_
  intro p e s m args below meth c s₁ B hml hv
  obtain ⟨rfl, hP, hK, hZ⟩ := hv
  have hx_ := B.exec
  have hb := B.bytes
  have hr := B.returns
  have hts := atoms_spec (ws := wsX0_about) B.pre
  have hown : s.vm.findClass RX0 = some m.cls := findClass_of_methodNamed B.named
  have hlocks := B.notSynchronized
  have hin_RX1 : ∀ w ∈ u_ws RX1 TX1 19, w ∈ wsX0_about := fun w h => List.mem_cons_of_mem _ (u_X1 w h)
  have hlk_55 := hZ.use (w := .fieldLinkNest RX0 55 "LinePair$Controller" "masked" "I" "LinePair") (by decide +kernel) (a := ([.ref hx, .int 0, .int 0]).toArray)
  have hlk_74 := hZ.use (w := .fieldLinkNest RX0 74 "LinePair$Controller" "inService" "I" "LinePair") (by decide +kernel) (a := ([.ref hx, .int 0, .int 0]).toArray)
  have hlk_77 := hZ.use (w := .fieldLinkNest RX0 77 "LinePair$Controller" "up" "I" "LinePair") (by decide +kernel) (a := ([.ref hx, .int 0, .int 0]).toArray)
  have hlk_80 := hZ.use (w := .fieldLinkNest RX0 80 "LinePair$Controller" "lowest" "I" "LinePair") (by decide +kernel) (a := ([.ref hx, .int 0, .int 0]).toArray)
  have hlk_83 := hZ.use (w := .fieldLinkNest RX0 83 "LinePair$Controller" "base" "I" "LinePair") (by decide +kernel) (a := ([.ref hx, .int 0, .int 0]).toArray)
  have hlk_86 := hZ.use (w := .fieldLinkNest RX0 86 "LinePair$Controller" "awaited" "I" "LinePair") (by decide +kernel) (a := ([.ref hx, .int 0, .int 0]).toArray)
  have hlk_89 := hZ.use (w := .fieldLinkNest RX0 89 "LinePair$Controller" "readChoice" "I" "LinePair") (by decide +kernel) (a := ([.ref hx, .int 0, .int 0]).toArray)
  have hml_71 : va_Nw (.methodLinkNest RX0 71 yX1_requested "LinePair") s := hZ.2 _ (by decide +kernel)
  have hl := lv_entry ([.ref hx, .int 0, .int 0]) (n := 4) (Nat.le_of_ble_eq_true rfl)
  rw [lg_entry_eq]
  generalize (lg_sl ([.ref hx, .int 0, .int 0]) ++ List.replicate (4 - (lg_sl ([.ref hx, .int 0, .int 0])).length) Slot.unset).toArray = ls at hl ⊢
  have hl : lv_has ls 4 [(0, .ref hx), (1, .int 0), (2, .int 0)] := hl
  refine lv_aload_n hx_ hb dX0_about_0 rfl (lv_at hl 0 rfl) ?_
  refine lv_iload_n hx_ hb dX0_about_1 rfl (lv_at hl 1 rfl) ?_
  refine xr_call (st1 := [.ref hc]) (W.runV (As := [.int 0]) (rest := []) ⟨hx_, hb, hml, hown, hts⟩ (c_controllerNumbered_0 l dC dI hx hc hh u0 u1 ea) (cwV 1 hts (gd_V wa_c k_ml_X0_35 k_im_X0_controllerNumbered k_se_X0_controllerNumbered k_in_X0 k_co_X0_controllerNumbered) rfl rfl rfl (by decide +kernel) ⟨Nat.le_of_ble_eq_true rfl, Nat.le_of_ble_eq_true rfl⟩) (xr_preV (q0 := 0) (C := RX0) hK hP hZ rfl rfl) rfl rfl hl.1 rfl (lv_room (Nat.le_of_ble_eq_true rfl)) dX0_about_2 ⟨Nat.zero_le _, Nat.zero_le _⟩) rfl ?_
  refine lv_astore_n (lv' := [(3, .ref hc), (0, .ref hx), (1, .int 0), (2, .int 0)]) hx_ hb dX0_about_5 rfl hl (by decide) rfl (fun ls hl => ?_)
  refine lv_iload_n hx_ hb dX0_about_6 rfl (lv_at hl 3 rfl) ?_
  refine lv_tableIn (tgt := 52) hx_ hb dX0_about_7 (by decide) (by decide) (by rfl) (by decide) ?_
  refine lv_aload_n hx_ hb dX0_about_52 rfl (lv_at hl 0 rfl) ?_
  refine xr_call (st1 := [.int (lpReq u0)]) ((va_runVN (As := []) (rest := []) ⟨hx_, hb, hml, hown, hts⟩ (c_requested l dC dI hc u0) ⟨va_cnB 0 hts (gd_0 wa_c k_co_X1_requested) rfl rfl rfl hml_71 (hts _ (List.mem_cons_of_mem _ k_in_X1)) (by decide +kernel) ⟨Nat.le_of_ble_eq_true rfl, Nat.le_of_ble_eq_true rfl⟩, hts _ (List.mem_cons_of_mem _ k_im_X1_requested), hts _ (List.mem_cons_of_mem _ k_se_X1_requested)⟩ (xr_preV (q0 := 0) (C := RX1) hK (hP.sub (ws' := cw1 hc u0) [1] rfl) xz_Z.nil rfl rfl) rfl rfl hl.1 rfl (lv_room (Nat.le_of_ble_eq_true rfl)) dX0_about_53 ⟨Nat.zero_le _, Nat.zero_le _⟩).run) rfl ?_
  exact xr_iret hx_ hb hr hlocks dX0_about_56 rfl

set_option maxHeartbeats 4000000 in
set_option maxRecDepth 100000 in
theorem c_about_0_1 (l : Launch) (dC : Nat → ClassId) (dI : Nat → Nat → Nat) (hx hc hh : Nat) (u0 u1 : Nat → Int32) (ea : Int32) : xr_M l yX0_about wsX0_about ({ frames := 1, cells := 0, slots := 0, locals := 21 }) [.ref hx, .int 0, .int 1] (dC, dI) vwCl [] pz (pw hx hc hh (u0, u1, ea)) (some (.int (u0 3))) := by
  refine Met.ofW (cc := cX0_about) (maxL := 4) (ret := (some .int)) (by decide) rfl ?_
  intro p e s m args below meth c s₁ B hml hv
  obtain ⟨rfl, hP, hK, hZ⟩ := hv
  have hx_ := B.exec
  have hb := B.bytes
  have hr := B.returns
  have hts := atoms_spec (ws := wsX0_about) B.pre
  have hown : s.vm.findClass RX0 = some m.cls := findClass_of_methodNamed B.named
  have hlocks := B.notSynchronized
  have hin_RX1 : ∀ w ∈ u_ws RX1 TX1 19, w ∈ wsX0_about := fun w h => List.mem_cons_of_mem _ (u_X1 w h)
  have hlk_55 := hZ.use (w := .fieldLinkNest RX0 55 "LinePair$Controller" "masked" "I" "LinePair") (by decide +kernel) (a := ([.ref hx, .int 0, .int 1]).toArray)
  have hlk_74 := hZ.use (w := .fieldLinkNest RX0 74 "LinePair$Controller" "inService" "I" "LinePair") (by decide +kernel) (a := ([.ref hx, .int 0, .int 1]).toArray)
  have hlk_77 := hZ.use (w := .fieldLinkNest RX0 77 "LinePair$Controller" "up" "I" "LinePair") (by decide +kernel) (a := ([.ref hx, .int 0, .int 1]).toArray)
  have hlk_80 := hZ.use (w := .fieldLinkNest RX0 80 "LinePair$Controller" "lowest" "I" "LinePair") (by decide +kernel) (a := ([.ref hx, .int 0, .int 1]).toArray)
  have hlk_83 := hZ.use (w := .fieldLinkNest RX0 83 "LinePair$Controller" "base" "I" "LinePair") (by decide +kernel) (a := ([.ref hx, .int 0, .int 1]).toArray)
  have hlk_86 := hZ.use (w := .fieldLinkNest RX0 86 "LinePair$Controller" "awaited" "I" "LinePair") (by decide +kernel) (a := ([.ref hx, .int 0, .int 1]).toArray)
  have hlk_89 := hZ.use (w := .fieldLinkNest RX0 89 "LinePair$Controller" "readChoice" "I" "LinePair") (by decide +kernel) (a := ([.ref hx, .int 0, .int 1]).toArray)
  have hml_71 : va_Nw (.methodLinkNest RX0 71 yX1_requested "LinePair") s := hZ.2 _ (by decide +kernel)
  have hl := lv_entry ([.ref hx, .int 0, .int 1]) (n := 4) (Nat.le_of_ble_eq_true rfl)
  rw [lg_entry_eq]
  generalize (lg_sl ([.ref hx, .int 0, .int 1]) ++ List.replicate (4 - (lg_sl ([.ref hx, .int 0, .int 1])).length) Slot.unset).toArray = ls at hl ⊢
  have hl : lv_has ls 4 [(0, .ref hx), (1, .int 0), (2, .int 1)] := hl
  refine lv_aload_n hx_ hb dX0_about_0 rfl (lv_at hl 0 rfl) ?_
  refine lv_iload_n hx_ hb dX0_about_1 rfl (lv_at hl 1 rfl) ?_
  refine xr_call (st1 := [.ref hc]) (W.runV (As := [.int 0]) (rest := []) ⟨hx_, hb, hml, hown, hts⟩ (c_controllerNumbered_0 l dC dI hx hc hh u0 u1 ea) (cwV 1 hts (gd_V wa_c k_ml_X0_35 k_im_X0_controllerNumbered k_se_X0_controllerNumbered k_in_X0 k_co_X0_controllerNumbered) rfl rfl rfl (by decide +kernel) ⟨Nat.le_of_ble_eq_true rfl, Nat.le_of_ble_eq_true rfl⟩) (xr_preV (q0 := 0) (C := RX0) hK hP hZ rfl rfl) rfl rfl hl.1 rfl (lv_room (Nat.le_of_ble_eq_true rfl)) dX0_about_2 ⟨Nat.zero_le _, Nat.zero_le _⟩) rfl ?_
  refine lv_astore_n (lv' := [(3, .ref hc), (0, .ref hx), (1, .int 0), (2, .int 1)]) hx_ hb dX0_about_5 rfl hl (by decide) rfl (fun ls hl => ?_)
  refine lv_iload_n hx_ hb dX0_about_6 rfl (lv_at hl 3 rfl) ?_
  refine lv_tableIn (tgt := 57) hx_ hb dX0_about_7 (by decide) (by decide) (by rfl) (by decide) ?_
  refine lv_aload_n hx_ hb dX0_about_57 rfl (lv_at hl 0 rfl) ?_
  refine va_getN (D := (dC, dI)) (ci := 1) (v := .int (u0 3)) (C := RX1) (T := TX1) (N := 19) hx_ hb hts hin_RX1 hown hK hP 1 rfl rfl 3 (by decide) hlk_74 (fun _ h9 => h9) rfl dX0_about_58 ?_
  exact xr_iret hx_ hb hr hlocks dX0_about_61 rfl

set_option maxHeartbeats 4000000 in
set_option maxRecDepth 100000 in
theorem c_about_0_2 (l : Launch) (dC : Nat → ClassId) (dI : Nat → Nat → Nat) (hx hc hh : Nat) (u0 u1 : Nat → Int32) (ea : Int32) : xr_M l yX0_about wsX0_about ({ frames := 1, cells := 0, slots := 0, locals := 21 }) [.ref hx, .int 0, .int 2] (dC, dI) vwCl [] pz (pw hx hc hh (u0, u1, ea)) (some (.int (u0 4))) := by
  refine Met.ofW (cc := cX0_about) (maxL := 4) (ret := (some .int)) (by decide) rfl ?_
  intro p e s m args below meth c s₁ B hml hv
  obtain ⟨rfl, hP, hK, hZ⟩ := hv
  have hx_ := B.exec
  have hb := B.bytes
  have hr := B.returns
  have hts := atoms_spec (ws := wsX0_about) B.pre
  have hown : s.vm.findClass RX0 = some m.cls := findClass_of_methodNamed B.named
  have hlocks := B.notSynchronized
  have hin_RX1 : ∀ w ∈ u_ws RX1 TX1 19, w ∈ wsX0_about := fun w h => List.mem_cons_of_mem _ (u_X1 w h)
  have hlk_55 := hZ.use (w := .fieldLinkNest RX0 55 "LinePair$Controller" "masked" "I" "LinePair") (by decide +kernel) (a := ([.ref hx, .int 0, .int 2]).toArray)
  have hlk_74 := hZ.use (w := .fieldLinkNest RX0 74 "LinePair$Controller" "inService" "I" "LinePair") (by decide +kernel) (a := ([.ref hx, .int 0, .int 2]).toArray)
  have hlk_77 := hZ.use (w := .fieldLinkNest RX0 77 "LinePair$Controller" "up" "I" "LinePair") (by decide +kernel) (a := ([.ref hx, .int 0, .int 2]).toArray)
  have hlk_80 := hZ.use (w := .fieldLinkNest RX0 80 "LinePair$Controller" "lowest" "I" "LinePair") (by decide +kernel) (a := ([.ref hx, .int 0, .int 2]).toArray)
  have hlk_83 := hZ.use (w := .fieldLinkNest RX0 83 "LinePair$Controller" "base" "I" "LinePair") (by decide +kernel) (a := ([.ref hx, .int 0, .int 2]).toArray)
  have hlk_86 := hZ.use (w := .fieldLinkNest RX0 86 "LinePair$Controller" "awaited" "I" "LinePair") (by decide +kernel) (a := ([.ref hx, .int 0, .int 2]).toArray)
  have hlk_89 := hZ.use (w := .fieldLinkNest RX0 89 "LinePair$Controller" "readChoice" "I" "LinePair") (by decide +kernel) (a := ([.ref hx, .int 0, .int 2]).toArray)
  have hml_71 : va_Nw (.methodLinkNest RX0 71 yX1_requested "LinePair") s := hZ.2 _ (by decide +kernel)
  have hl := lv_entry ([.ref hx, .int 0, .int 2]) (n := 4) (Nat.le_of_ble_eq_true rfl)
  rw [lg_entry_eq]
  generalize (lg_sl ([.ref hx, .int 0, .int 2]) ++ List.replicate (4 - (lg_sl ([.ref hx, .int 0, .int 2])).length) Slot.unset).toArray = ls at hl ⊢
  have hl : lv_has ls 4 [(0, .ref hx), (1, .int 0), (2, .int 2)] := hl
  refine lv_aload_n hx_ hb dX0_about_0 rfl (lv_at hl 0 rfl) ?_
  refine lv_iload_n hx_ hb dX0_about_1 rfl (lv_at hl 1 rfl) ?_
  refine xr_call (st1 := [.ref hc]) (W.runV (As := [.int 0]) (rest := []) ⟨hx_, hb, hml, hown, hts⟩ (c_controllerNumbered_0 l dC dI hx hc hh u0 u1 ea) (cwV 1 hts (gd_V wa_c k_ml_X0_35 k_im_X0_controllerNumbered k_se_X0_controllerNumbered k_in_X0 k_co_X0_controllerNumbered) rfl rfl rfl (by decide +kernel) ⟨Nat.le_of_ble_eq_true rfl, Nat.le_of_ble_eq_true rfl⟩) (xr_preV (q0 := 0) (C := RX0) hK hP hZ rfl rfl) rfl rfl hl.1 rfl (lv_room (Nat.le_of_ble_eq_true rfl)) dX0_about_2 ⟨Nat.zero_le _, Nat.zero_le _⟩) rfl ?_
  refine lv_astore_n (lv' := [(3, .ref hc), (0, .ref hx), (1, .int 0), (2, .int 2)]) hx_ hb dX0_about_5 rfl hl (by decide) rfl (fun ls hl => ?_)
  refine lv_iload_n hx_ hb dX0_about_6 rfl (lv_at hl 3 rfl) ?_
  refine lv_tableIn (tgt := 62) hx_ hb dX0_about_7 (by decide) (by decide) (by rfl) (by decide) ?_
  refine lv_aload_n hx_ hb dX0_about_62 rfl (lv_at hl 0 rfl) ?_
  refine va_getN (D := (dC, dI)) (ci := 1) (v := .int (u0 4)) (C := RX1) (T := TX1) (N := 19) hx_ hb hts hin_RX1 hown hK hP 1 rfl rfl 4 (by decide) hlk_55 (fun _ h9 => h9) rfl dX0_about_63 ?_
  exact xr_iret hx_ hb hr hlocks dX0_about_66 rfl

set_option maxHeartbeats 4000000 in
set_option maxRecDepth 100000 in
theorem c_about_0_3 (l : Launch) (dC : Nat → ClassId) (dI : Nat → Nat → Nat) (hx hc hh : Nat) (u0 u1 : Nat → Int32) (ea : Int32) : xr_M l yX0_about wsX0_about ({ frames := 1, cells := 0, slots := 0, locals := 21 }) [.ref hx, .int 0, .int 3] (dC, dI) vwCl [] pz (pw hx hc hh (u0, u1, ea)) (some (.int (u0 1))) := by
  refine Met.ofW (cc := cX0_about) (maxL := 4) (ret := (some .int)) (by decide) rfl ?_
  intro p e s m args below meth c s₁ B hml hv
  obtain ⟨rfl, hP, hK, hZ⟩ := hv
  have hx_ := B.exec
  have hb := B.bytes
  have hr := B.returns
  have hts := atoms_spec (ws := wsX0_about) B.pre
  have hown : s.vm.findClass RX0 = some m.cls := findClass_of_methodNamed B.named
  have hlocks := B.notSynchronized
  have hin_RX1 : ∀ w ∈ u_ws RX1 TX1 19, w ∈ wsX0_about := fun w h => List.mem_cons_of_mem _ (u_X1 w h)
  have hlk_55 := hZ.use (w := .fieldLinkNest RX0 55 "LinePair$Controller" "masked" "I" "LinePair") (by decide +kernel) (a := ([.ref hx, .int 0, .int 3]).toArray)
  have hlk_74 := hZ.use (w := .fieldLinkNest RX0 74 "LinePair$Controller" "inService" "I" "LinePair") (by decide +kernel) (a := ([.ref hx, .int 0, .int 3]).toArray)
  have hlk_77 := hZ.use (w := .fieldLinkNest RX0 77 "LinePair$Controller" "up" "I" "LinePair") (by decide +kernel) (a := ([.ref hx, .int 0, .int 3]).toArray)
  have hlk_80 := hZ.use (w := .fieldLinkNest RX0 80 "LinePair$Controller" "lowest" "I" "LinePair") (by decide +kernel) (a := ([.ref hx, .int 0, .int 3]).toArray)
  have hlk_83 := hZ.use (w := .fieldLinkNest RX0 83 "LinePair$Controller" "base" "I" "LinePair") (by decide +kernel) (a := ([.ref hx, .int 0, .int 3]).toArray)
  have hlk_86 := hZ.use (w := .fieldLinkNest RX0 86 "LinePair$Controller" "awaited" "I" "LinePair") (by decide +kernel) (a := ([.ref hx, .int 0, .int 3]).toArray)
  have hlk_89 := hZ.use (w := .fieldLinkNest RX0 89 "LinePair$Controller" "readChoice" "I" "LinePair") (by decide +kernel) (a := ([.ref hx, .int 0, .int 3]).toArray)
  have hml_71 : va_Nw (.methodLinkNest RX0 71 yX1_requested "LinePair") s := hZ.2 _ (by decide +kernel)
  have hl := lv_entry ([.ref hx, .int 0, .int 3]) (n := 4) (Nat.le_of_ble_eq_true rfl)
  rw [lg_entry_eq]
  generalize (lg_sl ([.ref hx, .int 0, .int 3]) ++ List.replicate (4 - (lg_sl ([.ref hx, .int 0, .int 3])).length) Slot.unset).toArray = ls at hl ⊢
  have hl : lv_has ls 4 [(0, .ref hx), (1, .int 0), (2, .int 3)] := hl
  refine lv_aload_n hx_ hb dX0_about_0 rfl (lv_at hl 0 rfl) ?_
  refine lv_iload_n hx_ hb dX0_about_1 rfl (lv_at hl 1 rfl) ?_
  refine xr_call (st1 := [.ref hc]) (W.runV (As := [.int 0]) (rest := []) ⟨hx_, hb, hml, hown, hts⟩ (c_controllerNumbered_0 l dC dI hx hc hh u0 u1 ea) (cwV 1 hts (gd_V wa_c k_ml_X0_35 k_im_X0_controllerNumbered k_se_X0_controllerNumbered k_in_X0 k_co_X0_controllerNumbered) rfl rfl rfl (by decide +kernel) ⟨Nat.le_of_ble_eq_true rfl, Nat.le_of_ble_eq_true rfl⟩) (xr_preV (q0 := 0) (C := RX0) hK hP hZ rfl rfl) rfl rfl hl.1 rfl (lv_room (Nat.le_of_ble_eq_true rfl)) dX0_about_2 ⟨Nat.zero_le _, Nat.zero_le _⟩) rfl ?_
  refine lv_astore_n (lv' := [(3, .ref hc), (0, .ref hx), (1, .int 0), (2, .int 3)]) hx_ hb dX0_about_5 rfl hl (by decide) rfl (fun ls hl => ?_)
  refine lv_iload_n hx_ hb dX0_about_6 rfl (lv_at hl 3 rfl) ?_
  refine lv_tableIn (tgt := 67) hx_ hb dX0_about_7 (by decide) (by decide) (by rfl) (by decide) ?_
  refine lv_aload_n hx_ hb dX0_about_67 rfl (lv_at hl 0 rfl) ?_
  refine va_getN (D := (dC, dI)) (ci := 1) (v := .int (u0 1)) (C := RX1) (T := TX1) (N := 19) hx_ hb hts hin_RX1 hown hK hP 1 rfl rfl 1 (by decide) hlk_77 (fun _ h9 => h9) rfl dX0_about_68 ?_
  exact xr_iret hx_ hb hr hlocks dX0_about_71 rfl

set_option maxHeartbeats 4000000 in
set_option maxRecDepth 100000 in
theorem c_about_0_4 (l : Launch) (dC : Nat → ClassId) (dI : Nat → Nat → Nat) (hx hc hh : Nat) (u0 u1 : Nat → Int32) (ea : Int32) : xr_M l yX0_about wsX0_about ({ frames := 1, cells := 0, slots := 0, locals := 21 }) [.ref hx, .int 0, .int 4] (dC, dI) vwCl [] pz (pw hx hc hh (u0, u1, ea)) (some (.int (u0 5))) := by
  refine Met.ofW (cc := cX0_about) (maxL := 4) (ret := (some .int)) (by decide) rfl ?_
  intro p e s m args below meth c s₁ B hml hv
  obtain ⟨rfl, hP, hK, hZ⟩ := hv
  have hx_ := B.exec
  have hb := B.bytes
  have hr := B.returns
  have hts := atoms_spec (ws := wsX0_about) B.pre
  have hown : s.vm.findClass RX0 = some m.cls := findClass_of_methodNamed B.named
  have hlocks := B.notSynchronized
  have hin_RX1 : ∀ w ∈ u_ws RX1 TX1 19, w ∈ wsX0_about := fun w h => List.mem_cons_of_mem _ (u_X1 w h)
  have hlk_55 := hZ.use (w := .fieldLinkNest RX0 55 "LinePair$Controller" "masked" "I" "LinePair") (by decide +kernel) (a := ([.ref hx, .int 0, .int 4]).toArray)
  have hlk_74 := hZ.use (w := .fieldLinkNest RX0 74 "LinePair$Controller" "inService" "I" "LinePair") (by decide +kernel) (a := ([.ref hx, .int 0, .int 4]).toArray)
  have hlk_77 := hZ.use (w := .fieldLinkNest RX0 77 "LinePair$Controller" "up" "I" "LinePair") (by decide +kernel) (a := ([.ref hx, .int 0, .int 4]).toArray)
  have hlk_80 := hZ.use (w := .fieldLinkNest RX0 80 "LinePair$Controller" "lowest" "I" "LinePair") (by decide +kernel) (a := ([.ref hx, .int 0, .int 4]).toArray)
  have hlk_83 := hZ.use (w := .fieldLinkNest RX0 83 "LinePair$Controller" "base" "I" "LinePair") (by decide +kernel) (a := ([.ref hx, .int 0, .int 4]).toArray)
  have hlk_86 := hZ.use (w := .fieldLinkNest RX0 86 "LinePair$Controller" "awaited" "I" "LinePair") (by decide +kernel) (a := ([.ref hx, .int 0, .int 4]).toArray)
  have hlk_89 := hZ.use (w := .fieldLinkNest RX0 89 "LinePair$Controller" "readChoice" "I" "LinePair") (by decide +kernel) (a := ([.ref hx, .int 0, .int 4]).toArray)
  have hml_71 : va_Nw (.methodLinkNest RX0 71 yX1_requested "LinePair") s := hZ.2 _ (by decide +kernel)
  have hl := lv_entry ([.ref hx, .int 0, .int 4]) (n := 4) (Nat.le_of_ble_eq_true rfl)
  rw [lg_entry_eq]
  generalize (lg_sl ([.ref hx, .int 0, .int 4]) ++ List.replicate (4 - (lg_sl ([.ref hx, .int 0, .int 4])).length) Slot.unset).toArray = ls at hl ⊢
  have hl : lv_has ls 4 [(0, .ref hx), (1, .int 0), (2, .int 4)] := hl
  refine lv_aload_n hx_ hb dX0_about_0 rfl (lv_at hl 0 rfl) ?_
  refine lv_iload_n hx_ hb dX0_about_1 rfl (lv_at hl 1 rfl) ?_
  refine xr_call (st1 := [.ref hc]) (W.runV (As := [.int 0]) (rest := []) ⟨hx_, hb, hml, hown, hts⟩ (c_controllerNumbered_0 l dC dI hx hc hh u0 u1 ea) (cwV 1 hts (gd_V wa_c k_ml_X0_35 k_im_X0_controllerNumbered k_se_X0_controllerNumbered k_in_X0 k_co_X0_controllerNumbered) rfl rfl rfl (by decide +kernel) ⟨Nat.le_of_ble_eq_true rfl, Nat.le_of_ble_eq_true rfl⟩) (xr_preV (q0 := 0) (C := RX0) hK hP hZ rfl rfl) rfl rfl hl.1 rfl (lv_room (Nat.le_of_ble_eq_true rfl)) dX0_about_2 ⟨Nat.zero_le _, Nat.zero_le _⟩) rfl ?_
  refine lv_astore_n (lv' := [(3, .ref hc), (0, .ref hx), (1, .int 0), (2, .int 4)]) hx_ hb dX0_about_5 rfl hl (by decide) rfl (fun ls hl => ?_)
  refine lv_iload_n hx_ hb dX0_about_6 rfl (lv_at hl 3 rfl) ?_
  refine lv_tableIn (tgt := 72) hx_ hb dX0_about_7 (by decide) (by decide) (by rfl) (by decide) ?_
  refine lv_aload_n hx_ hb dX0_about_72 rfl (lv_at hl 0 rfl) ?_
  refine va_getN (D := (dC, dI)) (ci := 1) (v := .int (u0 5)) (C := RX1) (T := TX1) (N := 19) hx_ hb hts hin_RX1 hown hK hP 1 rfl rfl 5 (by decide) hlk_80 (fun _ h9 => h9) rfl dX0_about_73 ?_
  exact xr_iret hx_ hb hr hlocks dX0_about_76 rfl

set_option maxHeartbeats 4000000 in
set_option maxRecDepth 100000 in
theorem c_about_0_5 (l : Launch) (dC : Nat → ClassId) (dI : Nat → Nat → Nat) (hx hc hh : Nat) (u0 u1 : Nat → Int32) (ea : Int32) : xr_M l yX0_about wsX0_about ({ frames := 1, cells := 0, slots := 0, locals := 21 }) [.ref hx, .int 0, .int 5] (dC, dI) vwCl [] pz (pw hx hc hh (u0, u1, ea)) (some (.int (u0 6))) := by
  refine Met.ofW (cc := cX0_about) (maxL := 4) (ret := (some .int)) (by decide) rfl ?_
  intro p e s m args below meth c s₁ B hml hv
  obtain ⟨rfl, hP, hK, hZ⟩ := hv
  have hx_ := B.exec
  have hb := B.bytes
  have hr := B.returns
  have hts := atoms_spec (ws := wsX0_about) B.pre
  have hown : s.vm.findClass RX0 = some m.cls := findClass_of_methodNamed B.named
  have hlocks := B.notSynchronized
  have hin_RX1 : ∀ w ∈ u_ws RX1 TX1 19, w ∈ wsX0_about := fun w h => List.mem_cons_of_mem _ (u_X1 w h)
  have hlk_55 := hZ.use (w := .fieldLinkNest RX0 55 "LinePair$Controller" "masked" "I" "LinePair") (by decide +kernel) (a := ([.ref hx, .int 0, .int 5]).toArray)
  have hlk_74 := hZ.use (w := .fieldLinkNest RX0 74 "LinePair$Controller" "inService" "I" "LinePair") (by decide +kernel) (a := ([.ref hx, .int 0, .int 5]).toArray)
  have hlk_77 := hZ.use (w := .fieldLinkNest RX0 77 "LinePair$Controller" "up" "I" "LinePair") (by decide +kernel) (a := ([.ref hx, .int 0, .int 5]).toArray)
  have hlk_80 := hZ.use (w := .fieldLinkNest RX0 80 "LinePair$Controller" "lowest" "I" "LinePair") (by decide +kernel) (a := ([.ref hx, .int 0, .int 5]).toArray)
  have hlk_83 := hZ.use (w := .fieldLinkNest RX0 83 "LinePair$Controller" "base" "I" "LinePair") (by decide +kernel) (a := ([.ref hx, .int 0, .int 5]).toArray)
  have hlk_86 := hZ.use (w := .fieldLinkNest RX0 86 "LinePair$Controller" "awaited" "I" "LinePair") (by decide +kernel) (a := ([.ref hx, .int 0, .int 5]).toArray)
  have hlk_89 := hZ.use (w := .fieldLinkNest RX0 89 "LinePair$Controller" "readChoice" "I" "LinePair") (by decide +kernel) (a := ([.ref hx, .int 0, .int 5]).toArray)
  have hml_71 : va_Nw (.methodLinkNest RX0 71 yX1_requested "LinePair") s := hZ.2 _ (by decide +kernel)
  have hl := lv_entry ([.ref hx, .int 0, .int 5]) (n := 4) (Nat.le_of_ble_eq_true rfl)
  rw [lg_entry_eq]
  generalize (lg_sl ([.ref hx, .int 0, .int 5]) ++ List.replicate (4 - (lg_sl ([.ref hx, .int 0, .int 5])).length) Slot.unset).toArray = ls at hl ⊢
  have hl : lv_has ls 4 [(0, .ref hx), (1, .int 0), (2, .int 5)] := hl
  refine lv_aload_n hx_ hb dX0_about_0 rfl (lv_at hl 0 rfl) ?_
  refine lv_iload_n hx_ hb dX0_about_1 rfl (lv_at hl 1 rfl) ?_
  refine xr_call (st1 := [.ref hc]) (W.runV (As := [.int 0]) (rest := []) ⟨hx_, hb, hml, hown, hts⟩ (c_controllerNumbered_0 l dC dI hx hc hh u0 u1 ea) (cwV 1 hts (gd_V wa_c k_ml_X0_35 k_im_X0_controllerNumbered k_se_X0_controllerNumbered k_in_X0 k_co_X0_controllerNumbered) rfl rfl rfl (by decide +kernel) ⟨Nat.le_of_ble_eq_true rfl, Nat.le_of_ble_eq_true rfl⟩) (xr_preV (q0 := 0) (C := RX0) hK hP hZ rfl rfl) rfl rfl hl.1 rfl (lv_room (Nat.le_of_ble_eq_true rfl)) dX0_about_2 ⟨Nat.zero_le _, Nat.zero_le _⟩) rfl ?_
  refine lv_astore_n (lv' := [(3, .ref hc), (0, .ref hx), (1, .int 0), (2, .int 5)]) hx_ hb dX0_about_5 rfl hl (by decide) rfl (fun ls hl => ?_)
  refine lv_iload_n hx_ hb dX0_about_6 rfl (lv_at hl 3 rfl) ?_
  refine lv_tableIn (tgt := 77) hx_ hb dX0_about_7 (by decide) (by decide) (by rfl) (by decide) ?_
  refine lv_aload_n hx_ hb dX0_about_77 rfl (lv_at hl 0 rfl) ?_
  refine va_getN (D := (dC, dI)) (ci := 1) (v := .int (u0 6)) (C := RX1) (T := TX1) (N := 19) hx_ hb hts hin_RX1 hown hK hP 1 rfl rfl 6 (by decide) hlk_83 (fun _ h9 => h9) rfl dX0_about_78 ?_
  exact xr_iret hx_ hb hr hlocks dX0_about_81 rfl

set_option maxHeartbeats 4000000 in
set_option maxRecDepth 100000 in
theorem c_about_0_6 (l : Launch) (dC : Nat → ClassId) (dI : Nat → Nat → Nat) (hx hc hh : Nat) (u0 u1 : Nat → Int32) (ea : Int32) : xr_M l yX0_about wsX0_about ({ frames := 1, cells := 0, slots := 0, locals := 21 }) [.ref hx, .int 0, .int 6] (dC, dI) vwCl [] pz (pw hx hc hh (u0, u1, ea)) (some (.int (u0 7))) := by
  refine Met.ofW (cc := cX0_about) (maxL := 4) (ret := (some .int)) (by decide) rfl ?_
  intro p e s m args below meth c s₁ B hml hv
  obtain ⟨rfl, hP, hK, hZ⟩ := hv
  have hx_ := B.exec
  have hb := B.bytes
  have hr := B.returns
  have hts := atoms_spec (ws := wsX0_about) B.pre
  have hown : s.vm.findClass RX0 = some m.cls := findClass_of_methodNamed B.named
  have hlocks := B.notSynchronized
  have hin_RX1 : ∀ w ∈ u_ws RX1 TX1 19, w ∈ wsX0_about := fun w h => List.mem_cons_of_mem _ (u_X1 w h)
  have hlk_55 := hZ.use (w := .fieldLinkNest RX0 55 "LinePair$Controller" "masked" "I" "LinePair") (by decide +kernel) (a := ([.ref hx, .int 0, .int 6]).toArray)
  have hlk_74 := hZ.use (w := .fieldLinkNest RX0 74 "LinePair$Controller" "inService" "I" "LinePair") (by decide +kernel) (a := ([.ref hx, .int 0, .int 6]).toArray)
  have hlk_77 := hZ.use (w := .fieldLinkNest RX0 77 "LinePair$Controller" "up" "I" "LinePair") (by decide +kernel) (a := ([.ref hx, .int 0, .int 6]).toArray)
  have hlk_80 := hZ.use (w := .fieldLinkNest RX0 80 "LinePair$Controller" "lowest" "I" "LinePair") (by decide +kernel) (a := ([.ref hx, .int 0, .int 6]).toArray)
  have hlk_83 := hZ.use (w := .fieldLinkNest RX0 83 "LinePair$Controller" "base" "I" "LinePair") (by decide +kernel) (a := ([.ref hx, .int 0, .int 6]).toArray)
  have hlk_86 := hZ.use (w := .fieldLinkNest RX0 86 "LinePair$Controller" "awaited" "I" "LinePair") (by decide +kernel) (a := ([.ref hx, .int 0, .int 6]).toArray)
  have hlk_89 := hZ.use (w := .fieldLinkNest RX0 89 "LinePair$Controller" "readChoice" "I" "LinePair") (by decide +kernel) (a := ([.ref hx, .int 0, .int 6]).toArray)
  have hml_71 : va_Nw (.methodLinkNest RX0 71 yX1_requested "LinePair") s := hZ.2 _ (by decide +kernel)
  have hl := lv_entry ([.ref hx, .int 0, .int 6]) (n := 4) (Nat.le_of_ble_eq_true rfl)
  rw [lg_entry_eq]
  generalize (lg_sl ([.ref hx, .int 0, .int 6]) ++ List.replicate (4 - (lg_sl ([.ref hx, .int 0, .int 6])).length) Slot.unset).toArray = ls at hl ⊢
  have hl : lv_has ls 4 [(0, .ref hx), (1, .int 0), (2, .int 6)] := hl
  refine lv_aload_n hx_ hb dX0_about_0 rfl (lv_at hl 0 rfl) ?_
  refine lv_iload_n hx_ hb dX0_about_1 rfl (lv_at hl 1 rfl) ?_
  refine xr_call (st1 := [.ref hc]) (W.runV (As := [.int 0]) (rest := []) ⟨hx_, hb, hml, hown, hts⟩ (c_controllerNumbered_0 l dC dI hx hc hh u0 u1 ea) (cwV 1 hts (gd_V wa_c k_ml_X0_35 k_im_X0_controllerNumbered k_se_X0_controllerNumbered k_in_X0 k_co_X0_controllerNumbered) rfl rfl rfl (by decide +kernel) ⟨Nat.le_of_ble_eq_true rfl, Nat.le_of_ble_eq_true rfl⟩) (xr_preV (q0 := 0) (C := RX0) hK hP hZ rfl rfl) rfl rfl hl.1 rfl (lv_room (Nat.le_of_ble_eq_true rfl)) dX0_about_2 ⟨Nat.zero_le _, Nat.zero_le _⟩) rfl ?_
  refine lv_astore_n (lv' := [(3, .ref hc), (0, .ref hx), (1, .int 0), (2, .int 6)]) hx_ hb dX0_about_5 rfl hl (by decide) rfl (fun ls hl => ?_)
  refine lv_iload_n hx_ hb dX0_about_6 rfl (lv_at hl 3 rfl) ?_
  refine lv_tableIn (tgt := 82) hx_ hb dX0_about_7 (by decide) (by decide) (by rfl) (by decide) ?_
  refine lv_aload_n hx_ hb dX0_about_82 rfl (lv_at hl 0 rfl) ?_
  refine va_getN (D := (dC, dI)) (ci := 1) (v := .int (u0 7)) (C := RX1) (T := TX1) (N := 19) hx_ hb hts hin_RX1 hown hK hP 1 rfl rfl 7 (by decide) hlk_86 (fun _ h9 => h9) rfl dX0_about_83 ?_
  exact xr_iret hx_ hb hr hlocks dX0_about_86 rfl

set_option maxHeartbeats 4000000 in
set_option maxRecDepth 100000 in
theorem c_about_0_7 (l : Launch) (dC : Nat → ClassId) (dI : Nat → Nat → Nat) (hx hc hh : Nat) (u0 u1 : Nat → Int32) (ea : Int32) : xr_M l yX0_about wsX0_about ({ frames := 1, cells := 0, slots := 0, locals := 21 }) [.ref hx, .int 0, .int 7] (dC, dI) vwCl [] pz (pw hx hc hh (u0, u1, ea)) (some (.int (u0 8))) := by
  refine Met.ofW (cc := cX0_about) (maxL := 4) (ret := (some .int)) (by decide) rfl ?_
  intro p e s m args below meth c s₁ B hml hv
  obtain ⟨rfl, hP, hK, hZ⟩ := hv
  have hx_ := B.exec
  have hb := B.bytes
  have hr := B.returns
  have hts := atoms_spec (ws := wsX0_about) B.pre
  have hown : s.vm.findClass RX0 = some m.cls := findClass_of_methodNamed B.named
  have hlocks := B.notSynchronized
  have hin_RX1 : ∀ w ∈ u_ws RX1 TX1 19, w ∈ wsX0_about := fun w h => List.mem_cons_of_mem _ (u_X1 w h)
  have hlk_55 := hZ.use (w := .fieldLinkNest RX0 55 "LinePair$Controller" "masked" "I" "LinePair") (by decide +kernel) (a := ([.ref hx, .int 0, .int 7]).toArray)
  have hlk_74 := hZ.use (w := .fieldLinkNest RX0 74 "LinePair$Controller" "inService" "I" "LinePair") (by decide +kernel) (a := ([.ref hx, .int 0, .int 7]).toArray)
  have hlk_77 := hZ.use (w := .fieldLinkNest RX0 77 "LinePair$Controller" "up" "I" "LinePair") (by decide +kernel) (a := ([.ref hx, .int 0, .int 7]).toArray)
  have hlk_80 := hZ.use (w := .fieldLinkNest RX0 80 "LinePair$Controller" "lowest" "I" "LinePair") (by decide +kernel) (a := ([.ref hx, .int 0, .int 7]).toArray)
  have hlk_83 := hZ.use (w := .fieldLinkNest RX0 83 "LinePair$Controller" "base" "I" "LinePair") (by decide +kernel) (a := ([.ref hx, .int 0, .int 7]).toArray)
  have hlk_86 := hZ.use (w := .fieldLinkNest RX0 86 "LinePair$Controller" "awaited" "I" "LinePair") (by decide +kernel) (a := ([.ref hx, .int 0, .int 7]).toArray)
  have hlk_89 := hZ.use (w := .fieldLinkNest RX0 89 "LinePair$Controller" "readChoice" "I" "LinePair") (by decide +kernel) (a := ([.ref hx, .int 0, .int 7]).toArray)
  have hml_71 : va_Nw (.methodLinkNest RX0 71 yX1_requested "LinePair") s := hZ.2 _ (by decide +kernel)
  have hl := lv_entry ([.ref hx, .int 0, .int 7]) (n := 4) (Nat.le_of_ble_eq_true rfl)
  rw [lg_entry_eq]
  generalize (lg_sl ([.ref hx, .int 0, .int 7]) ++ List.replicate (4 - (lg_sl ([.ref hx, .int 0, .int 7])).length) Slot.unset).toArray = ls at hl ⊢
  have hl : lv_has ls 4 [(0, .ref hx), (1, .int 0), (2, .int 7)] := hl
  refine lv_aload_n hx_ hb dX0_about_0 rfl (lv_at hl 0 rfl) ?_
  refine lv_iload_n hx_ hb dX0_about_1 rfl (lv_at hl 1 rfl) ?_
  refine xr_call (st1 := [.ref hc]) (W.runV (As := [.int 0]) (rest := []) ⟨hx_, hb, hml, hown, hts⟩ (c_controllerNumbered_0 l dC dI hx hc hh u0 u1 ea) (cwV 1 hts (gd_V wa_c k_ml_X0_35 k_im_X0_controllerNumbered k_se_X0_controllerNumbered k_in_X0 k_co_X0_controllerNumbered) rfl rfl rfl (by decide +kernel) ⟨Nat.le_of_ble_eq_true rfl, Nat.le_of_ble_eq_true rfl⟩) (xr_preV (q0 := 0) (C := RX0) hK hP hZ rfl rfl) rfl rfl hl.1 rfl (lv_room (Nat.le_of_ble_eq_true rfl)) dX0_about_2 ⟨Nat.zero_le _, Nat.zero_le _⟩) rfl ?_
  refine lv_astore_n (lv' := [(3, .ref hc), (0, .ref hx), (1, .int 0), (2, .int 7)]) hx_ hb dX0_about_5 rfl hl (by decide) rfl (fun ls hl => ?_)
  refine lv_iload_n hx_ hb dX0_about_6 rfl (lv_at hl 3 rfl) ?_
  refine lv_tableIn (tgt := 87) hx_ hb dX0_about_7 (by decide) (by decide) (by rfl) (by decide) ?_
  refine lv_aload_n hx_ hb dX0_about_87 rfl (lv_at hl 0 rfl) ?_
  refine va_getN (D := (dC, dI)) (ci := 1) (v := .int (u0 8)) (C := RX1) (T := TX1) (N := 19) hx_ hb hts hin_RX1 hown hK hP 1 rfl rfl 8 (by decide) hlk_89 (fun _ h9 => h9) rfl dX0_about_88 ?_
  exact xr_iret hx_ hb hr hlocks dX0_about_91 rfl

set_option maxHeartbeats 4000000 in
set_option maxRecDepth 100000 in
theorem c_mode_0_0 (l : Launch) (dC : Nat → ClassId) (dI : Nat → Nat → Nat) (hx hc hh : Nat) (u0 u1 : Nat → Int32) (ea : Int32) (hok0 : lpOk u0) : xr_M l yX0_mode wsX0_mode ({ frames := 1, cells := 0, slots := 0, locals := 21 }) [.ref hx, .int 0, .int 0] (dC, dI) vwCl [] pz (pw hx hc hh (u0, u1, ea)) (some (.int (u0 10))) := by
  refine Met.ofW (cc := cX0_mode) (maxL := 4) (ret := (some .boolean)) (by decide) rfl ?_
  intro p e s m args below meth c s₁ B hml hv
  obtain ⟨rfl, hP, hK, hZ⟩ := hv
  have hx_ := B.exec
  have hb := B.bytes
  have hr := B.returns
  have hts := atoms_spec (ws := wsX0_mode) B.pre
  have hown : s.vm.findClass RX0 = some m.cls := findClass_of_methodNamed B.named
  have hlocks := B.notSynchronized
  have hin_RX1 : ∀ w ∈ u_ws RX1 TX1 19, w ∈ wsX0_mode := fun w h => List.mem_cons_of_mem _ (u_X1 w h)
  have hlk_92 := hZ.use (w := .fieldLinkNest RX0 92 "LinePair$Controller" "ready" "Z" "LinePair") (by decide +kernel) (a := ([.ref hx, .int 0, .int 0]).toArray)
  have hlk_96 := hZ.use (w := .fieldLinkNest RX0 96 "LinePair$Controller" "byLevels" "Z" "LinePair") (by decide +kernel) (a := ([.ref hx, .int 0, .int 0]).toArray)
  have hlk_99 := hZ.use (w := .fieldLinkNest RX0 99 "LinePair$Controller" "specialMask" "Z" "LinePair") (by decide +kernel) (a := ([.ref hx, .int 0, .int 0]).toArray)
  have hlk_102 := hZ.use (w := .fieldLinkNest RX0 102 "LinePair$Controller" "specialNesting" "Z" "LinePair") (by decide +kernel) (a := ([.ref hx, .int 0, .int 0]).toArray)
  have hlk_105 := hZ.use (w := .fieldLinkNest RX0 105 "LinePair$Controller" "endsAtOnce" "Z" "LinePair") (by decide +kernel) (a := ([.ref hx, .int 0, .int 0]).toArray)
  have hlk_108 := hZ.use (w := .fieldLinkNest RX0 108 "LinePair$Controller" "turnsAtOnce" "Z" "LinePair") (by decide +kernel) (a := ([.ref hx, .int 0, .int 0]).toArray)
  have hlk_111 := hZ.use (w := .fieldLinkNest RX0 111 "LinePair$Controller" "pollWaits" "Z" "LinePair") (by decide +kernel) (a := ([.ref hx, .int 0, .int 0]).toArray)
  have hl := lv_entry ([.ref hx, .int 0, .int 0]) (n := 4) (Nat.le_of_ble_eq_true rfl)
  rw [lg_entry_eq]
  generalize (lg_sl ([.ref hx, .int 0, .int 0]) ++ List.replicate (4 - (lg_sl ([.ref hx, .int 0, .int 0])).length) Slot.unset).toArray = ls at hl ⊢
  have hl : lv_has ls 4 [(0, .ref hx), (1, .int 0), (2, .int 0)] := hl
  refine lv_aload_n hx_ hb dX0_mode_0 rfl (lv_at hl 0 rfl) ?_
  refine lv_iload_n hx_ hb dX0_mode_1 rfl (lv_at hl 1 rfl) ?_
  refine xr_call (st1 := [.ref hc]) (W.runV (As := [.int 0]) (rest := []) ⟨hx_, hb, hml, hown, hts⟩ (c_controllerNumbered_0 l dC dI hx hc hh u0 u1 ea) (cwV 1 hts (gd_V wa_c k_ml_X0_35 k_im_X0_controllerNumbered k_se_X0_controllerNumbered k_in_X0 k_co_X0_controllerNumbered) rfl rfl rfl (by decide +kernel) ⟨Nat.le_of_ble_eq_true rfl, Nat.le_of_ble_eq_true rfl⟩) (xr_preV (q0 := 0) (C := RX0) hK hP hZ rfl rfl) rfl rfl hl.1 rfl (lv_room (Nat.le_of_ble_eq_true rfl)) dX0_mode_2 ⟨Nat.zero_le _, Nat.zero_le _⟩) rfl ?_
  refine lv_astore_n (lv' := [(3, .ref hc), (0, .ref hx), (1, .int 0), (2, .int 0)]) hx_ hb dX0_mode_5 rfl hl (by decide) rfl (fun ls hl => ?_)
  refine lv_iload_n hx_ hb dX0_mode_6 rfl (lv_at hl 3 rfl) ?_
  refine lv_tableIn (tgt := 48) hx_ hb dX0_mode_7 (by decide) (by decide) (by rfl) (by decide) ?_
  refine lv_aload_n hx_ hb dX0_mode_48 rfl (lv_at hl 0 rfl) ?_
  refine va_getN (D := (dC, dI)) (ci := 1) (v := .int (u0 10)) (C := RX1) (T := TX1) (N := 19) hx_ hb hts hin_RX1 hown hK hP 1 rfl rfl 10 (by decide) hlk_92 (fun _ h9 => h9) rfl dX0_mode_49 ?_
  exact xr_zret hx_ hb hr hlocks dX0_mode_52 (lpOk_nar hok0 10 (by decide)) rfl

set_option maxHeartbeats 4000000 in
set_option maxRecDepth 100000 in
theorem c_mode_0_1 (l : Launch) (dC : Nat → ClassId) (dI : Nat → Nat → Nat) (hx hc hh : Nat) (u0 u1 : Nat → Int32) (ea : Int32) (hok0 : lpOk u0) : xr_M l yX0_mode wsX0_mode ({ frames := 1, cells := 0, slots := 0, locals := 21 }) [.ref hx, .int 0, .int 1] (dC, dI) vwCl [] pz (pw hx hc hh (u0, u1, ea)) (some (.int (u0 11))) := by
  refine Met.ofW (cc := cX0_mode) (maxL := 4) (ret := (some .boolean)) (by decide) rfl ?_
  intro p e s m args below meth c s₁ B hml hv
  obtain ⟨rfl, hP, hK, hZ⟩ := hv
  have hx_ := B.exec
  have hb := B.bytes
  have hr := B.returns
  have hts := atoms_spec (ws := wsX0_mode) B.pre
  have hown : s.vm.findClass RX0 = some m.cls := findClass_of_methodNamed B.named
  have hlocks := B.notSynchronized
  have hin_RX1 : ∀ w ∈ u_ws RX1 TX1 19, w ∈ wsX0_mode := fun w h => List.mem_cons_of_mem _ (u_X1 w h)
  have hlk_92 := hZ.use (w := .fieldLinkNest RX0 92 "LinePair$Controller" "ready" "Z" "LinePair") (by decide +kernel) (a := ([.ref hx, .int 0, .int 1]).toArray)
  have hlk_96 := hZ.use (w := .fieldLinkNest RX0 96 "LinePair$Controller" "byLevels" "Z" "LinePair") (by decide +kernel) (a := ([.ref hx, .int 0, .int 1]).toArray)
  have hlk_99 := hZ.use (w := .fieldLinkNest RX0 99 "LinePair$Controller" "specialMask" "Z" "LinePair") (by decide +kernel) (a := ([.ref hx, .int 0, .int 1]).toArray)
  have hlk_102 := hZ.use (w := .fieldLinkNest RX0 102 "LinePair$Controller" "specialNesting" "Z" "LinePair") (by decide +kernel) (a := ([.ref hx, .int 0, .int 1]).toArray)
  have hlk_105 := hZ.use (w := .fieldLinkNest RX0 105 "LinePair$Controller" "endsAtOnce" "Z" "LinePair") (by decide +kernel) (a := ([.ref hx, .int 0, .int 1]).toArray)
  have hlk_108 := hZ.use (w := .fieldLinkNest RX0 108 "LinePair$Controller" "turnsAtOnce" "Z" "LinePair") (by decide +kernel) (a := ([.ref hx, .int 0, .int 1]).toArray)
  have hlk_111 := hZ.use (w := .fieldLinkNest RX0 111 "LinePair$Controller" "pollWaits" "Z" "LinePair") (by decide +kernel) (a := ([.ref hx, .int 0, .int 1]).toArray)
  have hl := lv_entry ([.ref hx, .int 0, .int 1]) (n := 4) (Nat.le_of_ble_eq_true rfl)
  rw [lg_entry_eq]
  generalize (lg_sl ([.ref hx, .int 0, .int 1]) ++ List.replicate (4 - (lg_sl ([.ref hx, .int 0, .int 1])).length) Slot.unset).toArray = ls at hl ⊢
  have hl : lv_has ls 4 [(0, .ref hx), (1, .int 0), (2, .int 1)] := hl
  refine lv_aload_n hx_ hb dX0_mode_0 rfl (lv_at hl 0 rfl) ?_
  refine lv_iload_n hx_ hb dX0_mode_1 rfl (lv_at hl 1 rfl) ?_
  refine xr_call (st1 := [.ref hc]) (W.runV (As := [.int 0]) (rest := []) ⟨hx_, hb, hml, hown, hts⟩ (c_controllerNumbered_0 l dC dI hx hc hh u0 u1 ea) (cwV 1 hts (gd_V wa_c k_ml_X0_35 k_im_X0_controllerNumbered k_se_X0_controllerNumbered k_in_X0 k_co_X0_controllerNumbered) rfl rfl rfl (by decide +kernel) ⟨Nat.le_of_ble_eq_true rfl, Nat.le_of_ble_eq_true rfl⟩) (xr_preV (q0 := 0) (C := RX0) hK hP hZ rfl rfl) rfl rfl hl.1 rfl (lv_room (Nat.le_of_ble_eq_true rfl)) dX0_mode_2 ⟨Nat.zero_le _, Nat.zero_le _⟩) rfl ?_
  refine lv_astore_n (lv' := [(3, .ref hc), (0, .ref hx), (1, .int 0), (2, .int 1)]) hx_ hb dX0_mode_5 rfl hl (by decide) rfl (fun ls hl => ?_)
  refine lv_iload_n hx_ hb dX0_mode_6 rfl (lv_at hl 3 rfl) ?_
  refine lv_tableIn (tgt := 53) hx_ hb dX0_mode_7 (by decide) (by decide) (by rfl) (by decide) ?_
  refine lv_aload_n hx_ hb dX0_mode_53 rfl (lv_at hl 0 rfl) ?_
  refine va_getN (D := (dC, dI)) (ci := 1) (v := .int (u0 11)) (C := RX1) (T := TX1) (N := 19) hx_ hb hts hin_RX1 hown hK hP 1 rfl rfl 11 (by decide) hlk_96 (fun _ h9 => h9) rfl dX0_mode_54 ?_
  exact xr_zret hx_ hb hr hlocks dX0_mode_57 (lpOk_nar hok0 11 (by decide)) rfl

set_option maxHeartbeats 4000000 in
set_option maxRecDepth 100000 in
theorem c_mode_0_2 (l : Launch) (dC : Nat → ClassId) (dI : Nat → Nat → Nat) (hx hc hh : Nat) (u0 u1 : Nat → Int32) (ea : Int32) (hok0 : lpOk u0) : xr_M l yX0_mode wsX0_mode ({ frames := 1, cells := 0, slots := 0, locals := 21 }) [.ref hx, .int 0, .int 2] (dC, dI) vwCl [] pz (pw hx hc hh (u0, u1, ea)) (some (.int (u0 12))) := by
  refine Met.ofW (cc := cX0_mode) (maxL := 4) (ret := (some .boolean)) (by decide) rfl ?_
  intro p e s m args below meth c s₁ B hml hv
  obtain ⟨rfl, hP, hK, hZ⟩ := hv
  have hx_ := B.exec
  have hb := B.bytes
  have hr := B.returns
  have hts := atoms_spec (ws := wsX0_mode) B.pre
  have hown : s.vm.findClass RX0 = some m.cls := findClass_of_methodNamed B.named
  have hlocks := B.notSynchronized
  have hin_RX1 : ∀ w ∈ u_ws RX1 TX1 19, w ∈ wsX0_mode := fun w h => List.mem_cons_of_mem _ (u_X1 w h)
  have hlk_92 := hZ.use (w := .fieldLinkNest RX0 92 "LinePair$Controller" "ready" "Z" "LinePair") (by decide +kernel) (a := ([.ref hx, .int 0, .int 2]).toArray)
  have hlk_96 := hZ.use (w := .fieldLinkNest RX0 96 "LinePair$Controller" "byLevels" "Z" "LinePair") (by decide +kernel) (a := ([.ref hx, .int 0, .int 2]).toArray)
  have hlk_99 := hZ.use (w := .fieldLinkNest RX0 99 "LinePair$Controller" "specialMask" "Z" "LinePair") (by decide +kernel) (a := ([.ref hx, .int 0, .int 2]).toArray)
  have hlk_102 := hZ.use (w := .fieldLinkNest RX0 102 "LinePair$Controller" "specialNesting" "Z" "LinePair") (by decide +kernel) (a := ([.ref hx, .int 0, .int 2]).toArray)
  have hlk_105 := hZ.use (w := .fieldLinkNest RX0 105 "LinePair$Controller" "endsAtOnce" "Z" "LinePair") (by decide +kernel) (a := ([.ref hx, .int 0, .int 2]).toArray)
  have hlk_108 := hZ.use (w := .fieldLinkNest RX0 108 "LinePair$Controller" "turnsAtOnce" "Z" "LinePair") (by decide +kernel) (a := ([.ref hx, .int 0, .int 2]).toArray)
  have hlk_111 := hZ.use (w := .fieldLinkNest RX0 111 "LinePair$Controller" "pollWaits" "Z" "LinePair") (by decide +kernel) (a := ([.ref hx, .int 0, .int 2]).toArray)
  have hl := lv_entry ([.ref hx, .int 0, .int 2]) (n := 4) (Nat.le_of_ble_eq_true rfl)
  rw [lg_entry_eq]
  generalize (lg_sl ([.ref hx, .int 0, .int 2]) ++ List.replicate (4 - (lg_sl ([.ref hx, .int 0, .int 2])).length) Slot.unset).toArray = ls at hl ⊢
  have hl : lv_has ls 4 [(0, .ref hx), (1, .int 0), (2, .int 2)] := hl
  refine lv_aload_n hx_ hb dX0_mode_0 rfl (lv_at hl 0 rfl) ?_
  refine lv_iload_n hx_ hb dX0_mode_1 rfl (lv_at hl 1 rfl) ?_
  refine xr_call (st1 := [.ref hc]) (W.runV (As := [.int 0]) (rest := []) ⟨hx_, hb, hml, hown, hts⟩ (c_controllerNumbered_0 l dC dI hx hc hh u0 u1 ea) (cwV 1 hts (gd_V wa_c k_ml_X0_35 k_im_X0_controllerNumbered k_se_X0_controllerNumbered k_in_X0 k_co_X0_controllerNumbered) rfl rfl rfl (by decide +kernel) ⟨Nat.le_of_ble_eq_true rfl, Nat.le_of_ble_eq_true rfl⟩) (xr_preV (q0 := 0) (C := RX0) hK hP hZ rfl rfl) rfl rfl hl.1 rfl (lv_room (Nat.le_of_ble_eq_true rfl)) dX0_mode_2 ⟨Nat.zero_le _, Nat.zero_le _⟩) rfl ?_
  refine lv_astore_n (lv' := [(3, .ref hc), (0, .ref hx), (1, .int 0), (2, .int 2)]) hx_ hb dX0_mode_5 rfl hl (by decide) rfl (fun ls hl => ?_)
  refine lv_iload_n hx_ hb dX0_mode_6 rfl (lv_at hl 3 rfl) ?_
  refine lv_tableIn (tgt := 58) hx_ hb dX0_mode_7 (by decide) (by decide) (by rfl) (by decide) ?_
  refine lv_aload_n hx_ hb dX0_mode_58 rfl (lv_at hl 0 rfl) ?_
  refine va_getN (D := (dC, dI)) (ci := 1) (v := .int (u0 12)) (C := RX1) (T := TX1) (N := 19) hx_ hb hts hin_RX1 hown hK hP 1 rfl rfl 12 (by decide) hlk_99 (fun _ h9 => h9) rfl dX0_mode_59 ?_
  exact xr_zret hx_ hb hr hlocks dX0_mode_62 (lpOk_nar hok0 12 (by decide)) rfl

set_option maxHeartbeats 4000000 in
set_option maxRecDepth 100000 in
theorem c_mode_0_3 (l : Launch) (dC : Nat → ClassId) (dI : Nat → Nat → Nat) (hx hc hh : Nat) (u0 u1 : Nat → Int32) (ea : Int32) (hok0 : lpOk u0) : xr_M l yX0_mode wsX0_mode ({ frames := 1, cells := 0, slots := 0, locals := 21 }) [.ref hx, .int 0, .int 3] (dC, dI) vwCl [] pz (pw hx hc hh (u0, u1, ea)) (some (.int (u0 13))) := by
  refine Met.ofW (cc := cX0_mode) (maxL := 4) (ret := (some .boolean)) (by decide) rfl ?_
  intro p e s m args below meth c s₁ B hml hv
  obtain ⟨rfl, hP, hK, hZ⟩ := hv
  have hx_ := B.exec
  have hb := B.bytes
  have hr := B.returns
  have hts := atoms_spec (ws := wsX0_mode) B.pre
  have hown : s.vm.findClass RX0 = some m.cls := findClass_of_methodNamed B.named
  have hlocks := B.notSynchronized
  have hin_RX1 : ∀ w ∈ u_ws RX1 TX1 19, w ∈ wsX0_mode := fun w h => List.mem_cons_of_mem _ (u_X1 w h)
  have hlk_92 := hZ.use (w := .fieldLinkNest RX0 92 "LinePair$Controller" "ready" "Z" "LinePair") (by decide +kernel) (a := ([.ref hx, .int 0, .int 3]).toArray)
  have hlk_96 := hZ.use (w := .fieldLinkNest RX0 96 "LinePair$Controller" "byLevels" "Z" "LinePair") (by decide +kernel) (a := ([.ref hx, .int 0, .int 3]).toArray)
  have hlk_99 := hZ.use (w := .fieldLinkNest RX0 99 "LinePair$Controller" "specialMask" "Z" "LinePair") (by decide +kernel) (a := ([.ref hx, .int 0, .int 3]).toArray)
  have hlk_102 := hZ.use (w := .fieldLinkNest RX0 102 "LinePair$Controller" "specialNesting" "Z" "LinePair") (by decide +kernel) (a := ([.ref hx, .int 0, .int 3]).toArray)
  have hlk_105 := hZ.use (w := .fieldLinkNest RX0 105 "LinePair$Controller" "endsAtOnce" "Z" "LinePair") (by decide +kernel) (a := ([.ref hx, .int 0, .int 3]).toArray)
  have hlk_108 := hZ.use (w := .fieldLinkNest RX0 108 "LinePair$Controller" "turnsAtOnce" "Z" "LinePair") (by decide +kernel) (a := ([.ref hx, .int 0, .int 3]).toArray)
  have hlk_111 := hZ.use (w := .fieldLinkNest RX0 111 "LinePair$Controller" "pollWaits" "Z" "LinePair") (by decide +kernel) (a := ([.ref hx, .int 0, .int 3]).toArray)
  have hl := lv_entry ([.ref hx, .int 0, .int 3]) (n := 4) (Nat.le_of_ble_eq_true rfl)
  rw [lg_entry_eq]
  generalize (lg_sl ([.ref hx, .int 0, .int 3]) ++ List.replicate (4 - (lg_sl ([.ref hx, .int 0, .int 3])).length) Slot.unset).toArray = ls at hl ⊢
  have hl : lv_has ls 4 [(0, .ref hx), (1, .int 0), (2, .int 3)] := hl
  refine lv_aload_n hx_ hb dX0_mode_0 rfl (lv_at hl 0 rfl) ?_
  refine lv_iload_n hx_ hb dX0_mode_1 rfl (lv_at hl 1 rfl) ?_
  refine xr_call (st1 := [.ref hc]) (W.runV (As := [.int 0]) (rest := []) ⟨hx_, hb, hml, hown, hts⟩ (c_controllerNumbered_0 l dC dI hx hc hh u0 u1 ea) (cwV 1 hts (gd_V wa_c k_ml_X0_35 k_im_X0_controllerNumbered k_se_X0_controllerNumbered k_in_X0 k_co_X0_controllerNumbered) rfl rfl rfl (by decide +kernel) ⟨Nat.le_of_ble_eq_true rfl, Nat.le_of_ble_eq_true rfl⟩) (xr_preV (q0 := 0) (C := RX0) hK hP hZ rfl rfl) rfl rfl hl.1 rfl (lv_room (Nat.le_of_ble_eq_true rfl)) dX0_mode_2 ⟨Nat.zero_le _, Nat.zero_le _⟩) rfl ?_
  refine lv_astore_n (lv' := [(3, .ref hc), (0, .ref hx), (1, .int 0), (2, .int 3)]) hx_ hb dX0_mode_5 rfl hl (by decide) rfl (fun ls hl => ?_)
  refine lv_iload_n hx_ hb dX0_mode_6 rfl (lv_at hl 3 rfl) ?_
  refine lv_tableIn (tgt := 63) hx_ hb dX0_mode_7 (by decide) (by decide) (by rfl) (by decide) ?_
  refine lv_aload_n hx_ hb dX0_mode_63 rfl (lv_at hl 0 rfl) ?_
  refine va_getN (D := (dC, dI)) (ci := 1) (v := .int (u0 13)) (C := RX1) (T := TX1) (N := 19) hx_ hb hts hin_RX1 hown hK hP 1 rfl rfl 13 (by decide) hlk_102 (fun _ h9 => h9) rfl dX0_mode_64 ?_
  exact xr_zret hx_ hb hr hlocks dX0_mode_67 (lpOk_nar hok0 13 (by decide)) rfl

set_option maxHeartbeats 4000000 in
set_option maxRecDepth 100000 in
theorem c_mode_0_4 (l : Launch) (dC : Nat → ClassId) (dI : Nat → Nat → Nat) (hx hc hh : Nat) (u0 u1 : Nat → Int32) (ea : Int32) (hok0 : lpOk u0) : xr_M l yX0_mode wsX0_mode ({ frames := 1, cells := 0, slots := 0, locals := 21 }) [.ref hx, .int 0, .int 4] (dC, dI) vwCl [] pz (pw hx hc hh (u0, u1, ea)) (some (.int (u0 14))) := by
  refine Met.ofW (cc := cX0_mode) (maxL := 4) (ret := (some .boolean)) (by decide) rfl ?_
  intro p e s m args below meth c s₁ B hml hv
  obtain ⟨rfl, hP, hK, hZ⟩ := hv
  have hx_ := B.exec
  have hb := B.bytes
  have hr := B.returns
  have hts := atoms_spec (ws := wsX0_mode) B.pre
  have hown : s.vm.findClass RX0 = some m.cls := findClass_of_methodNamed B.named
  have hlocks := B.notSynchronized
  have hin_RX1 : ∀ w ∈ u_ws RX1 TX1 19, w ∈ wsX0_mode := fun w h => List.mem_cons_of_mem _ (u_X1 w h)
  have hlk_92 := hZ.use (w := .fieldLinkNest RX0 92 "LinePair$Controller" "ready" "Z" "LinePair") (by decide +kernel) (a := ([.ref hx, .int 0, .int 4]).toArray)
  have hlk_96 := hZ.use (w := .fieldLinkNest RX0 96 "LinePair$Controller" "byLevels" "Z" "LinePair") (by decide +kernel) (a := ([.ref hx, .int 0, .int 4]).toArray)
  have hlk_99 := hZ.use (w := .fieldLinkNest RX0 99 "LinePair$Controller" "specialMask" "Z" "LinePair") (by decide +kernel) (a := ([.ref hx, .int 0, .int 4]).toArray)
  have hlk_102 := hZ.use (w := .fieldLinkNest RX0 102 "LinePair$Controller" "specialNesting" "Z" "LinePair") (by decide +kernel) (a := ([.ref hx, .int 0, .int 4]).toArray)
  have hlk_105 := hZ.use (w := .fieldLinkNest RX0 105 "LinePair$Controller" "endsAtOnce" "Z" "LinePair") (by decide +kernel) (a := ([.ref hx, .int 0, .int 4]).toArray)
  have hlk_108 := hZ.use (w := .fieldLinkNest RX0 108 "LinePair$Controller" "turnsAtOnce" "Z" "LinePair") (by decide +kernel) (a := ([.ref hx, .int 0, .int 4]).toArray)
  have hlk_111 := hZ.use (w := .fieldLinkNest RX0 111 "LinePair$Controller" "pollWaits" "Z" "LinePair") (by decide +kernel) (a := ([.ref hx, .int 0, .int 4]).toArray)
  have hl := lv_entry ([.ref hx, .int 0, .int 4]) (n := 4) (Nat.le_of_ble_eq_true rfl)
  rw [lg_entry_eq]
  generalize (lg_sl ([.ref hx, .int 0, .int 4]) ++ List.replicate (4 - (lg_sl ([.ref hx, .int 0, .int 4])).length) Slot.unset).toArray = ls at hl ⊢
  have hl : lv_has ls 4 [(0, .ref hx), (1, .int 0), (2, .int 4)] := hl
  refine lv_aload_n hx_ hb dX0_mode_0 rfl (lv_at hl 0 rfl) ?_
  refine lv_iload_n hx_ hb dX0_mode_1 rfl (lv_at hl 1 rfl) ?_
  refine xr_call (st1 := [.ref hc]) (W.runV (As := [.int 0]) (rest := []) ⟨hx_, hb, hml, hown, hts⟩ (c_controllerNumbered_0 l dC dI hx hc hh u0 u1 ea) (cwV 1 hts (gd_V wa_c k_ml_X0_35 k_im_X0_controllerNumbered k_se_X0_controllerNumbered k_in_X0 k_co_X0_controllerNumbered) rfl rfl rfl (by decide +kernel) ⟨Nat.le_of_ble_eq_true rfl, Nat.le_of_ble_eq_true rfl⟩) (xr_preV (q0 := 0) (C := RX0) hK hP hZ rfl rfl) rfl rfl hl.1 rfl (lv_room (Nat.le_of_ble_eq_true rfl)) dX0_mode_2 ⟨Nat.zero_le _, Nat.zero_le _⟩) rfl ?_
  refine lv_astore_n (lv' := [(3, .ref hc), (0, .ref hx), (1, .int 0), (2, .int 4)]) hx_ hb dX0_mode_5 rfl hl (by decide) rfl (fun ls hl => ?_)
  refine lv_iload_n hx_ hb dX0_mode_6 rfl (lv_at hl 3 rfl) ?_
  refine lv_tableIn (tgt := 68) hx_ hb dX0_mode_7 (by decide) (by decide) (by rfl) (by decide) ?_
  refine lv_aload_n hx_ hb dX0_mode_68 rfl (lv_at hl 0 rfl) ?_
  refine va_getN (D := (dC, dI)) (ci := 1) (v := .int (u0 14)) (C := RX1) (T := TX1) (N := 19) hx_ hb hts hin_RX1 hown hK hP 1 rfl rfl 14 (by decide) hlk_105 (fun _ h9 => h9) rfl dX0_mode_69 ?_
  exact xr_zret hx_ hb hr hlocks dX0_mode_72 (lpOk_nar hok0 14 (by decide)) rfl

set_option maxHeartbeats 4000000 in
set_option maxRecDepth 100000 in
theorem c_mode_0_5 (l : Launch) (dC : Nat → ClassId) (dI : Nat → Nat → Nat) (hx hc hh : Nat) (u0 u1 : Nat → Int32) (ea : Int32) (hok0 : lpOk u0) : xr_M l yX0_mode wsX0_mode ({ frames := 1, cells := 0, slots := 0, locals := 21 }) [.ref hx, .int 0, .int 5] (dC, dI) vwCl [] pz (pw hx hc hh (u0, u1, ea)) (some (.int (u0 15))) := by
  refine Met.ofW (cc := cX0_mode) (maxL := 4) (ret := (some .boolean)) (by decide) rfl ?_
  intro p e s m args below meth c s₁ B hml hv
  obtain ⟨rfl, hP, hK, hZ⟩ := hv
  have hx_ := B.exec
  have hb := B.bytes
  have hr := B.returns
  have hts := atoms_spec (ws := wsX0_mode) B.pre
  have hown : s.vm.findClass RX0 = some m.cls := findClass_of_methodNamed B.named
  have hlocks := B.notSynchronized
  have hin_RX1 : ∀ w ∈ u_ws RX1 TX1 19, w ∈ wsX0_mode := fun w h => List.mem_cons_of_mem _ (u_X1 w h)
  have hlk_92 := hZ.use (w := .fieldLinkNest RX0 92 "LinePair$Controller" "ready" "Z" "LinePair") (by decide +kernel) (a := ([.ref hx, .int 0, .int 5]).toArray)
  have hlk_96 := hZ.use (w := .fieldLinkNest RX0 96 "LinePair$Controller" "byLevels" "Z" "LinePair") (by decide +kernel) (a := ([.ref hx, .int 0, .int 5]).toArray)
  have hlk_99 := hZ.use (w := .fieldLinkNest RX0 99 "LinePair$Controller" "specialMask" "Z" "LinePair") (by decide +kernel) (a := ([.ref hx, .int 0, .int 5]).toArray)
  have hlk_102 := hZ.use (w := .fieldLinkNest RX0 102 "LinePair$Controller" "specialNesting" "Z" "LinePair") (by decide +kernel) (a := ([.ref hx, .int 0, .int 5]).toArray)
  have hlk_105 := hZ.use (w := .fieldLinkNest RX0 105 "LinePair$Controller" "endsAtOnce" "Z" "LinePair") (by decide +kernel) (a := ([.ref hx, .int 0, .int 5]).toArray)
  have hlk_108 := hZ.use (w := .fieldLinkNest RX0 108 "LinePair$Controller" "turnsAtOnce" "Z" "LinePair") (by decide +kernel) (a := ([.ref hx, .int 0, .int 5]).toArray)
  have hlk_111 := hZ.use (w := .fieldLinkNest RX0 111 "LinePair$Controller" "pollWaits" "Z" "LinePair") (by decide +kernel) (a := ([.ref hx, .int 0, .int 5]).toArray)
  have hl := lv_entry ([.ref hx, .int 0, .int 5]) (n := 4) (Nat.le_of_ble_eq_true rfl)
  rw [lg_entry_eq]
  generalize (lg_sl ([.ref hx, .int 0, .int 5]) ++ List.replicate (4 - (lg_sl ([.ref hx, .int 0, .int 5])).length) Slot.unset).toArray = ls at hl ⊢
  have hl : lv_has ls 4 [(0, .ref hx), (1, .int 0), (2, .int 5)] := hl
  refine lv_aload_n hx_ hb dX0_mode_0 rfl (lv_at hl 0 rfl) ?_
  refine lv_iload_n hx_ hb dX0_mode_1 rfl (lv_at hl 1 rfl) ?_
  refine xr_call (st1 := [.ref hc]) (W.runV (As := [.int 0]) (rest := []) ⟨hx_, hb, hml, hown, hts⟩ (c_controllerNumbered_0 l dC dI hx hc hh u0 u1 ea) (cwV 1 hts (gd_V wa_c k_ml_X0_35 k_im_X0_controllerNumbered k_se_X0_controllerNumbered k_in_X0 k_co_X0_controllerNumbered) rfl rfl rfl (by decide +kernel) ⟨Nat.le_of_ble_eq_true rfl, Nat.le_of_ble_eq_true rfl⟩) (xr_preV (q0 := 0) (C := RX0) hK hP hZ rfl rfl) rfl rfl hl.1 rfl (lv_room (Nat.le_of_ble_eq_true rfl)) dX0_mode_2 ⟨Nat.zero_le _, Nat.zero_le _⟩) rfl ?_
  refine lv_astore_n (lv' := [(3, .ref hc), (0, .ref hx), (1, .int 0), (2, .int 5)]) hx_ hb dX0_mode_5 rfl hl (by decide) rfl (fun ls hl => ?_)
  refine lv_iload_n hx_ hb dX0_mode_6 rfl (lv_at hl 3 rfl) ?_
  refine lv_tableIn (tgt := 73) hx_ hb dX0_mode_7 (by decide) (by decide) (by rfl) (by decide) ?_
  refine lv_aload_n hx_ hb dX0_mode_73 rfl (lv_at hl 0 rfl) ?_
  refine va_getN (D := (dC, dI)) (ci := 1) (v := .int (u0 15)) (C := RX1) (T := TX1) (N := 19) hx_ hb hts hin_RX1 hown hK hP 1 rfl rfl 15 (by decide) hlk_108 (fun _ h9 => h9) rfl dX0_mode_74 ?_
  exact xr_zret hx_ hb hr hlocks dX0_mode_77 (lpOk_nar hok0 15 (by decide)) rfl

set_option maxHeartbeats 4000000 in
set_option maxRecDepth 100000 in
theorem c_mode_0_6 (l : Launch) (dC : Nat → ClassId) (dI : Nat → Nat → Nat) (hx hc hh : Nat) (u0 u1 : Nat → Int32) (ea : Int32) (hok0 : lpOk u0) : xr_M l yX0_mode wsX0_mode ({ frames := 1, cells := 0, slots := 0, locals := 21 }) [.ref hx, .int 0, .int 6] (dC, dI) vwCl [] pz (pw hx hc hh (u0, u1, ea)) (some (.int (u0 16))) := by
  refine Met.ofW (cc := cX0_mode) (maxL := 4) (ret := (some .boolean)) (by decide) rfl ?_
  intro p e s m args below meth c s₁ B hml hv
  obtain ⟨rfl, hP, hK, hZ⟩ := hv
  have hx_ := B.exec
  have hb := B.bytes
  have hr := B.returns
  have hts := atoms_spec (ws := wsX0_mode) B.pre
  have hown : s.vm.findClass RX0 = some m.cls := findClass_of_methodNamed B.named
  have hlocks := B.notSynchronized
  have hin_RX1 : ∀ w ∈ u_ws RX1 TX1 19, w ∈ wsX0_mode := fun w h => List.mem_cons_of_mem _ (u_X1 w h)
  have hlk_92 := hZ.use (w := .fieldLinkNest RX0 92 "LinePair$Controller" "ready" "Z" "LinePair") (by decide +kernel) (a := ([.ref hx, .int 0, .int 6]).toArray)
  have hlk_96 := hZ.use (w := .fieldLinkNest RX0 96 "LinePair$Controller" "byLevels" "Z" "LinePair") (by decide +kernel) (a := ([.ref hx, .int 0, .int 6]).toArray)
  have hlk_99 := hZ.use (w := .fieldLinkNest RX0 99 "LinePair$Controller" "specialMask" "Z" "LinePair") (by decide +kernel) (a := ([.ref hx, .int 0, .int 6]).toArray)
  have hlk_102 := hZ.use (w := .fieldLinkNest RX0 102 "LinePair$Controller" "specialNesting" "Z" "LinePair") (by decide +kernel) (a := ([.ref hx, .int 0, .int 6]).toArray)
  have hlk_105 := hZ.use (w := .fieldLinkNest RX0 105 "LinePair$Controller" "endsAtOnce" "Z" "LinePair") (by decide +kernel) (a := ([.ref hx, .int 0, .int 6]).toArray)
  have hlk_108 := hZ.use (w := .fieldLinkNest RX0 108 "LinePair$Controller" "turnsAtOnce" "Z" "LinePair") (by decide +kernel) (a := ([.ref hx, .int 0, .int 6]).toArray)
  have hlk_111 := hZ.use (w := .fieldLinkNest RX0 111 "LinePair$Controller" "pollWaits" "Z" "LinePair") (by decide +kernel) (a := ([.ref hx, .int 0, .int 6]).toArray)
  have hl := lv_entry ([.ref hx, .int 0, .int 6]) (n := 4) (Nat.le_of_ble_eq_true rfl)
  rw [lg_entry_eq]
  generalize (lg_sl ([.ref hx, .int 0, .int 6]) ++ List.replicate (4 - (lg_sl ([.ref hx, .int 0, .int 6])).length) Slot.unset).toArray = ls at hl ⊢
  have hl : lv_has ls 4 [(0, .ref hx), (1, .int 0), (2, .int 6)] := hl
  refine lv_aload_n hx_ hb dX0_mode_0 rfl (lv_at hl 0 rfl) ?_
  refine lv_iload_n hx_ hb dX0_mode_1 rfl (lv_at hl 1 rfl) ?_
  refine xr_call (st1 := [.ref hc]) (W.runV (As := [.int 0]) (rest := []) ⟨hx_, hb, hml, hown, hts⟩ (c_controllerNumbered_0 l dC dI hx hc hh u0 u1 ea) (cwV 1 hts (gd_V wa_c k_ml_X0_35 k_im_X0_controllerNumbered k_se_X0_controllerNumbered k_in_X0 k_co_X0_controllerNumbered) rfl rfl rfl (by decide +kernel) ⟨Nat.le_of_ble_eq_true rfl, Nat.le_of_ble_eq_true rfl⟩) (xr_preV (q0 := 0) (C := RX0) hK hP hZ rfl rfl) rfl rfl hl.1 rfl (lv_room (Nat.le_of_ble_eq_true rfl)) dX0_mode_2 ⟨Nat.zero_le _, Nat.zero_le _⟩) rfl ?_
  refine lv_astore_n (lv' := [(3, .ref hc), (0, .ref hx), (1, .int 0), (2, .int 6)]) hx_ hb dX0_mode_5 rfl hl (by decide) rfl (fun ls hl => ?_)
  refine lv_iload_n hx_ hb dX0_mode_6 rfl (lv_at hl 3 rfl) ?_
  refine lv_tableIn (tgt := 78) hx_ hb dX0_mode_7 (by decide) (by decide) (by rfl) (by decide) ?_
  refine lv_aload_n hx_ hb dX0_mode_78 rfl (lv_at hl 0 rfl) ?_
  refine va_getN (D := (dC, dI)) (ci := 1) (v := .int (u0 16)) (C := RX1) (T := TX1) (N := 19) hx_ hb hts hin_RX1 hown hK hP 1 rfl rfl 16 (by decide) hlk_111 (fun _ h9 => h9) rfl dX0_mode_79 ?_
  exact xr_zret hx_ hb hr hlocks dX0_mode_82 (lpOk_nar hok0 16 (by decide)) rfl

set_option maxHeartbeats 4000000 in
set_option maxRecDepth 100000 in
theorem c_write_1_0 (l : Launch) (dC : Nat → ClassId) (dI : Nat → Nat → Nat) (hx hc hh : Nat) (sz : Nat) (u0 u1 : Nat → Int32) (ea : Int32) (w : Int32) (hw0 : ¬ w < 0) (hw1 : w ≤ 255) : xc_M l yX0_write wsX0_write ({ frames := 5, cells := 0, slots := 0, locals := 108 }) [.ref hx, .int 1, .int 0, .int w] sz (dC, dI) vwCl [] pz (pw hx hc hh (u0, u1, ea)) (some (.int (lpBo (lpFol u0 (lpP0 u1 w))))) (pw hx hc hh ((lpFol u0 (lpP0 u1 w), lpP0 u1 w, ea))) 0 0 := by
  refine Met.ofW (cc := cX0_write) (maxL := 5) (ret := (some .boolean)) (by decide) rfl ?_
  intro p e s m args below meth c s₁ B hml hv
  obtain ⟨rfl, hsz, hP, hK, hD0, hZ⟩ := hv
  have hx_ := B.exec
  have hb := B.bytes
  have hr := B.returns
  have hts := atoms_spec (ws := wsX0_write) B.pre
  have hown : s.vm.findClass RX0 = some m.cls := findClass_of_methodNamed B.named
  have hlocks := B.notSynchronized
  subst hsz
  have hD := hD0.self (sz := s.heap.size)
  generalize hAe : va_A (pw hx hc hh (u0, u1, ea)) s.heap.size = A at hD ⊢
  have hA : ∀ q : Nat, s.heap.size ≤ q → A q := fun q h => by rw [← hAe]; exact Or.inr h
  have hS : va_S A s.heap s.heap [] := va_S.rf
  have hin_RX0 : ∀ w ∈ u_ws RX0 TX0 3, w ∈ wsX0_write := fun w h => List.mem_cons_of_mem _ (u_X0 w h)
  have hlk_14 := hts _ (List.mem_cons_of_mem _ k_fl_X0_14)
  have hml_45 : va_Nw (.methodLinkNest RX0 45 yX1_acceptAtPort0 "LinePair") s := hZ.2 _ (by decide +kernel)
  have hml_48 : va_Nw (.methodLinkNest RX0 48 yX1_acceptAtPort1 "LinePair") s := hZ.2 _ (by decide +kernel)
  have hml_51 : va_Nw (.methodLinkNest RX0 51 yX1_lineToDeliver "LinePair") s := hZ.2 _ (by decide +kernel)
  have hl := lv_entry ([.ref hx, .int 1, .int 0, .int w]) (n := 5) (Nat.le_of_ble_eq_true rfl)
  rw [lg_entry_eq]
  generalize (lg_sl ([.ref hx, .int 1, .int 0, .int w]) ++ List.replicate (5 - (lg_sl ([.ref hx, .int 1, .int 0, .int w])).length) Slot.unset).toArray = ls at hl ⊢
  have hl : lv_has ls 5 [(0, .ref hx), (1, .int 1), (2, .int 0), (3, .int w)] := hl
  refine lv_aload_n hx_ hb dX0_write_0 rfl (lv_at hl 0 rfl) ?_
  refine lv_iload_n hx_ hb dX0_write_1 rfl (lv_at hl 1 rfl) ?_
  refine xr_call (st1 := [.ref hh]) (W.runV (As := [.int 1]) (rest := []) ⟨hx_, hb, hml, hown, hts⟩ (c_controllerNumbered_1 l dC dI hx hc hh u0 u1 ea) (cwV 1 hts (gd_V wa_c k_ml_X0_35 k_im_X0_controllerNumbered k_se_X0_controllerNumbered k_in_X0 k_co_X0_controllerNumbered) rfl rfl rfl (by decide +kernel) ⟨Nat.le_of_ble_eq_true rfl, Nat.le_of_ble_eq_true rfl⟩) (xr_preV (q0 := 0) (C := RX0) hK hP hZ rfl rfl) rfl rfl hl.1 rfl (lv_room (Nat.le_of_ble_eq_true rfl)) dX0_write_2 ⟨Nat.zero_le _, Nat.zero_le _⟩) rfl ?_
  refine lv_astore (lv' := [(4, .ref hh), (0, .ref hx), (1, .int 1), (2, .int 0), (3, .int w)]) hx_ hb dX0_write_5 hl (by decide) rfl (fun ls hl => ?_)
  refine lv_aload_n hx_ hb dX0_write_7 rfl (lv_at hl 1 rfl) ?_
  refine lv_iload_n hx_ hb dX0_write_8 rfl (lv_at hl 3 rfl) ?_
  refine xr_call (st1 := []) (W.runV (As := [.int 0]) (rest := []) ⟨hx_, hb, hml, hown, hts⟩ (c_checkPort_0 l dC dI hx hc hh u0 u1 ea) (cwV 1 hts (gd_V wa_c k_ml_X0_39 k_im_X0_checkPort k_se_X0_checkPort k_in_X0 k_co_X0_checkPort) rfl rfl rfl (by decide +kernel) ⟨Nat.le_of_ble_eq_true rfl, Nat.le_of_ble_eq_true rfl⟩) (xr_preV (q0 := 0) (C := RX0) hK hP hZ rfl rfl) rfl rfl hl.1 rfl (lv_room (Nat.le_of_ble_eq_true rfl)) dX0_write_9 ⟨Nat.zero_le _, Nat.zero_le _⟩) rfl ?_
  refine lv_iload_n hx_ hb dX0_write_12 rfl (lv_at hl 4 rfl) ?_
  refine lv_if_lt (tgt := 23) hx_ hb dX0_write_13 (by decide) (fun h => absurd h hw0) (fun _ => ?_)
  refine lv_iload_n hx_ hb dX0_write_16 rfl (lv_at hl 4 rfl) ?_
  refine lv_sipush (v := 255) hx_ hb dX0_write_17 (by decide) ?_
  refine lv_icmp_le (tgt := 31) hx_ hb dX0_write_20 (by decide) (fun _ => ?_) (fun h => absurd hw1 h)
  refine lv_iload_n hx_ hb dX0_write_31 rfl (lv_at hl 3 rfl) ?_
  refine lv_if_ne (tgt := 44) hx_ hb dX0_write_32 (by decide) (fun h => absurd (by decide) h) (fun _ => ?_)
  refine lv_aload hx_ hb dX0_write_35 (lv_at hl 0 rfl) ?_
  refine lv_iload_n hx_ hb dX0_write_37 rfl (lv_at hl 4 rfl) ?_
  refine xc_call (wc := cw1 hh u1) (wr := [(hx, .inr (0, [.ref hc, .ref hh, .int ea])), (hc, .inr (1, lpF u0))]) (st1 := []) (va_runVN (As := [.int w]) (rest := []) ⟨hx_, hb, hml, hown, hts⟩ (c_acceptAtPort0 l dC dI hh s.heap.size u1 w) ⟨va_cnB 1 hts (gd_0 wa_c k_co_X1_acceptAtPort0) rfl rfl rfl hml_45 (hts _ (List.mem_cons_of_mem _ k_in_X1)) (by decide +kernel) ⟨Nat.le_of_ble_eq_true rfl, Nat.le_of_ble_eq_true rfl⟩, hts _ (List.mem_cons_of_mem _ k_im_X1_acceptAtPort0), hts _ (List.mem_cons_of_mem _ k_se_X1_acceptAtPort0)⟩ (xc_preV (q0 := 0) (C := RX1) hK (hP.sub (ws' := cw1 hh u1) [2] rfl) (hD.sub (ws' := cw1 hh u1) [2] (by decide) rfl) xz_Z.nil rfl rfl) rfl rfl hl.1 rfl (lv_room (Nat.le_of_ble_eq_true rfl)) dX0_write_38 ⟨Nat.zero_le _, Nat.zero_le _⟩) hP hD hS hA [2] [0, 1] rfl rfl (by decide) (by decide) rfl (fun H locs hP hD hS _ => ?_)
  have hP := hP.sub (ws' := pw hx hc hh (u0, lpP0 u1 w, ea)) [0, 1, 2] rfl
  have hD := hD.sub (ws' := pw hx hc hh (u0, lpP0 u1 w, ea)) [0, 1, 2] (by decide) rfl
  refine lv_goto (tgt := 50) hx_ hb dX0_write_41 (by decide) ?_
  refine lv_aload_n hx_ hb dX0_write_50 rfl (lv_at hl 1 rfl) ?_
  refine xc_call (wc := pw hx hc hh (u0, lpP0 u1 w, ea)) (wr := []) (st1 := []) (va_runV (As := []) (rest := []) ⟨hx_, hb, hml, hown, hts⟩ (c_followHelper l dC dI hx hc hh H.size u0 (lpP0 u1 w) ea) (cwV 0 hts (gd_V wa_c k_ml_X0_32 k_im_X0_followHelper k_se_X0_followHelper k_in_X0 k_co_X0_followHelper) rfl rfl rfl (by decide +kernel) ⟨Nat.le_of_ble_eq_true rfl, Nat.le_of_ble_eq_true rfl⟩) (xc_preV (q0 := 0) (C := RX0) hK hP hD hZ rfl rfl) rfl rfl hl.1 rfl (lv_room (Nat.le_of_ble_eq_true rfl)) dX0_write_51 ⟨Nat.zero_le _, Nat.zero_le _⟩) hP hD hS hA [0, 1, 2] [] rfl rfl (by decide) (by decide) rfl (fun H locs hP hD hS _ => ?_)
  have hP : va_P (dC, dI) vwCl (pw hx hc hh (lpFol u0 (lpP0 u1 w), lpP0 u1 w, ea)) H := hP
  have hD : va_D A (pw hx hc hh (lpFol u0 (lpP0 u1 w), lpP0 u1 w, ea)) := hD
  refine lv_aload_n hx_ hb dX0_write_54 rfl (lv_at hl 1 rfl) ?_
  refine va_get (D := (dC, dI)) (ci := 0) (v := .ref hc) (C := RX0) (T := TX0) (N := 3) hx_ hb hts hin_RX0 hown hK hP 0 rfl rfl 0 (by decide) hlk_14 (fun _ h9 => h9) rfl dX0_write_55 ?_
  refine xr_call (st1 := [.int (lpDel (lpFol u0 (lpP0 u1 w)))]) ((va_runVN (As := []) (rest := []) ⟨hx_, hb, hml, hown, hts⟩ (c_lineToDeliver l dC dI hc (lpFol u0 (lpP0 u1 w))) ⟨va_cnB 0 hts (gd_0 wa_c k_co_X1_lineToDeliver) rfl rfl rfl hml_51 (hts _ (List.mem_cons_of_mem _ k_in_X1)) (by decide +kernel) ⟨Nat.le_of_ble_eq_true rfl, Nat.le_of_ble_eq_true rfl⟩, hts _ (List.mem_cons_of_mem _ k_im_X1_lineToDeliver), hts _ (List.mem_cons_of_mem _ k_se_X1_lineToDeliver)⟩ (xr_preV (q0 := 0) (C := RX1) hK (hP.sub (ws' := cw1 hc (lpFol u0 (lpP0 u1 w))) [1] rfl) xz_Z.nil rfl rfl) rfl rfl hl.1 rfl (lv_room (Nat.le_of_ble_eq_true rfl)) dX0_write_58 ⟨Nat.zero_le _, Nat.zero_le _⟩).run) rfl ?_
  refine lv_iconst (v := -1) hx_ hb dX0_write_61 (by decide) ?_
  refine lv_icmp_eq (tgt := 69) hx_ hb dX0_write_62 (by decide) (fun h1 => ?_) (fun h1 => ?_)
  · refine lv_iconst (v := 0) hx_ hb dX0_write_69 (by decide) ?_
    exact xc_zret (wf := pw hx hc hh) hx_ hb hr hlocks dX0_write_70 hK hP hD hS rfl (by first | (simp only [lpBo, if_neg hw0, if_pos hw0, if_pos hw1, if_neg (not_not_intro hw1), if_pos h1, if_neg (not_not_intro h1)]; done) | rfl | (simp only [lpBo]; simp only [if_neg hw0, if_pos hw0, if_pos hw1, if_neg (not_not_intro hw1), if_pos h1, if_neg (not_not_intro h1)]; done) | (simp_all [lpBo]; done)) (by first | (simp only [lpBo, if_neg hw0, if_pos hw0, if_pos hw1, if_neg (not_not_intro hw1), if_pos h1, if_neg (not_not_intro h1)]; done) | rfl | (simp only [lpBo]; simp only [if_neg hw0, if_pos hw0, if_pos hw1, if_neg (not_not_intro hw1), if_pos h1, if_neg (not_not_intro h1)]; done) | (simp_all [lpBo]; done))
  · refine lv_iconst (v := 1) hx_ hb dX0_write_65 (by decide) ?_
    refine lv_goto (tgt := 70) hx_ hb dX0_write_66 (by decide) ?_
    exact xc_zret (wf := pw hx hc hh) hx_ hb hr hlocks dX0_write_70 hK hP hD hS rfl (by first | (simp only [lpBo, if_neg hw0, if_pos hw0, if_pos hw1, if_neg (not_not_intro hw1), if_neg h1, if_pos h1]; done) | rfl | (simp only [lpBo]; simp only [if_neg hw0, if_pos hw0, if_pos hw1, if_neg (not_not_intro hw1), if_neg h1, if_pos h1]; done) | (simp_all [lpBo]; done)) (by first | (simp only [lpBo, if_neg hw0, if_pos hw0, if_pos hw1, if_neg (not_not_intro hw1), if_neg h1, if_pos h1]; done) | rfl | (simp only [lpBo]; simp only [if_neg hw0, if_pos hw0, if_pos hw1, if_neg (not_not_intro hw1), if_neg h1, if_pos h1]; done) | (simp_all [lpBo]; done))

set_option maxHeartbeats 4000000 in
set_option maxRecDepth 100000 in
theorem c_write_1_1 (l : Launch) (dC : Nat → ClassId) (dI : Nat → Nat → Nat) (hx hc hh : Nat) (sz : Nat) (u0 u1 : Nat → Int32) (ea : Int32) (w : Int32) (hw0 : ¬ w < 0) (hw1 : w ≤ 255) : xc_M l yX0_write wsX0_write ({ frames := 5, cells := 0, slots := 0, locals := 108 }) [.ref hx, .int 1, .int 1, .int w] sz (dC, dI) vwCl [] pz (pw hx hc hh (u0, u1, ea)) (some (.int (lpBo (lpFol u0 (lpP1 u1 w))))) (pw hx hc hh ((lpFol u0 (lpP1 u1 w), lpP1 u1 w, ea))) 0 0 := by
  refine Met.ofW (cc := cX0_write) (maxL := 5) (ret := (some .boolean)) (by decide) rfl ?_
  intro p e s m args below meth c s₁ B hml hv
  obtain ⟨rfl, hsz, hP, hK, hD0, hZ⟩ := hv
  have hx_ := B.exec
  have hb := B.bytes
  have hr := B.returns
  have hts := atoms_spec (ws := wsX0_write) B.pre
  have hown : s.vm.findClass RX0 = some m.cls := findClass_of_methodNamed B.named
  have hlocks := B.notSynchronized
  subst hsz
  have hD := hD0.self (sz := s.heap.size)
  generalize hAe : va_A (pw hx hc hh (u0, u1, ea)) s.heap.size = A at hD ⊢
  have hA : ∀ q : Nat, s.heap.size ≤ q → A q := fun q h => by rw [← hAe]; exact Or.inr h
  have hS : va_S A s.heap s.heap [] := va_S.rf
  have hin_RX0 : ∀ w ∈ u_ws RX0 TX0 3, w ∈ wsX0_write := fun w h => List.mem_cons_of_mem _ (u_X0 w h)
  have hlk_14 := hts _ (List.mem_cons_of_mem _ k_fl_X0_14)
  have hml_45 : va_Nw (.methodLinkNest RX0 45 yX1_acceptAtPort0 "LinePair") s := hZ.2 _ (by decide +kernel)
  have hml_48 : va_Nw (.methodLinkNest RX0 48 yX1_acceptAtPort1 "LinePair") s := hZ.2 _ (by decide +kernel)
  have hml_51 : va_Nw (.methodLinkNest RX0 51 yX1_lineToDeliver "LinePair") s := hZ.2 _ (by decide +kernel)
  have hl := lv_entry ([.ref hx, .int 1, .int 1, .int w]) (n := 5) (Nat.le_of_ble_eq_true rfl)
  rw [lg_entry_eq]
  generalize (lg_sl ([.ref hx, .int 1, .int 1, .int w]) ++ List.replicate (5 - (lg_sl ([.ref hx, .int 1, .int 1, .int w])).length) Slot.unset).toArray = ls at hl ⊢
  have hl : lv_has ls 5 [(0, .ref hx), (1, .int 1), (2, .int 1), (3, .int w)] := hl
  refine lv_aload_n hx_ hb dX0_write_0 rfl (lv_at hl 0 rfl) ?_
  refine lv_iload_n hx_ hb dX0_write_1 rfl (lv_at hl 1 rfl) ?_
  refine xr_call (st1 := [.ref hh]) (W.runV (As := [.int 1]) (rest := []) ⟨hx_, hb, hml, hown, hts⟩ (c_controllerNumbered_1 l dC dI hx hc hh u0 u1 ea) (cwV 1 hts (gd_V wa_c k_ml_X0_35 k_im_X0_controllerNumbered k_se_X0_controllerNumbered k_in_X0 k_co_X0_controllerNumbered) rfl rfl rfl (by decide +kernel) ⟨Nat.le_of_ble_eq_true rfl, Nat.le_of_ble_eq_true rfl⟩) (xr_preV (q0 := 0) (C := RX0) hK hP hZ rfl rfl) rfl rfl hl.1 rfl (lv_room (Nat.le_of_ble_eq_true rfl)) dX0_write_2 ⟨Nat.zero_le _, Nat.zero_le _⟩) rfl ?_
  refine lv_astore (lv' := [(4, .ref hh), (0, .ref hx), (1, .int 1), (2, .int 1), (3, .int w)]) hx_ hb dX0_write_5 hl (by decide) rfl (fun ls hl => ?_)
  refine lv_aload_n hx_ hb dX0_write_7 rfl (lv_at hl 1 rfl) ?_
  refine lv_iload_n hx_ hb dX0_write_8 rfl (lv_at hl 3 rfl) ?_
  refine xr_call (st1 := []) (W.runV (As := [.int 1]) (rest := []) ⟨hx_, hb, hml, hown, hts⟩ (c_checkPort_1 l dC dI hx hc hh u0 u1 ea) (cwV 1 hts (gd_V wa_c k_ml_X0_39 k_im_X0_checkPort k_se_X0_checkPort k_in_X0 k_co_X0_checkPort) rfl rfl rfl (by decide +kernel) ⟨Nat.le_of_ble_eq_true rfl, Nat.le_of_ble_eq_true rfl⟩) (xr_preV (q0 := 0) (C := RX0) hK hP hZ rfl rfl) rfl rfl hl.1 rfl (lv_room (Nat.le_of_ble_eq_true rfl)) dX0_write_9 ⟨Nat.zero_le _, Nat.zero_le _⟩) rfl ?_
  refine lv_iload_n hx_ hb dX0_write_12 rfl (lv_at hl 4 rfl) ?_
  refine lv_if_lt (tgt := 23) hx_ hb dX0_write_13 (by decide) (fun h => absurd h hw0) (fun _ => ?_)
  refine lv_iload_n hx_ hb dX0_write_16 rfl (lv_at hl 4 rfl) ?_
  refine lv_sipush (v := 255) hx_ hb dX0_write_17 (by decide) ?_
  refine lv_icmp_le (tgt := 31) hx_ hb dX0_write_20 (by decide) (fun _ => ?_) (fun h => absurd hw1 h)
  refine lv_iload_n hx_ hb dX0_write_31 rfl (lv_at hl 3 rfl) ?_
  refine lv_if_ne (tgt := 44) hx_ hb dX0_write_32 (by decide) (fun _ => ?_) (fun h => absurd h (by decide))
  refine lv_aload hx_ hb dX0_write_44 (lv_at hl 0 rfl) ?_
  refine lv_iload_n hx_ hb dX0_write_46 rfl (lv_at hl 4 rfl) ?_
  refine xc_call (wc := cw1 hh u1) (wr := [(hx, .inr (0, [.ref hc, .ref hh, .int ea])), (hc, .inr (1, lpF u0))]) (st1 := []) (va_runVN (As := [.int w]) (rest := []) ⟨hx_, hb, hml, hown, hts⟩ (c_acceptAtPort1 l dC dI hh s.heap.size u1 w) ⟨va_cnB 1 hts (gd_0 wa_c k_co_X1_acceptAtPort1) rfl rfl rfl hml_48 (hts _ (List.mem_cons_of_mem _ k_in_X1)) (by decide +kernel) ⟨Nat.le_of_ble_eq_true rfl, Nat.le_of_ble_eq_true rfl⟩, hts _ (List.mem_cons_of_mem _ k_im_X1_acceptAtPort1), hts _ (List.mem_cons_of_mem _ k_se_X1_acceptAtPort1)⟩ (xc_preV (q0 := 0) (C := RX1) hK (hP.sub (ws' := cw1 hh u1) [2] rfl) (hD.sub (ws' := cw1 hh u1) [2] (by decide) rfl) xz_Z.nil rfl rfl) rfl rfl hl.1 rfl (lv_room (Nat.le_of_ble_eq_true rfl)) dX0_write_47 ⟨Nat.zero_le _, Nat.zero_le _⟩) hP hD hS hA [2] [0, 1] rfl rfl (by decide) (by decide) rfl (fun H locs hP hD hS _ => ?_)
  have hP := hP.sub (ws' := pw hx hc hh (u0, lpP1 u1 w, ea)) [0, 1, 2] rfl
  have hD := hD.sub (ws' := pw hx hc hh (u0, lpP1 u1 w, ea)) [0, 1, 2] (by decide) rfl
  refine lv_aload_n hx_ hb dX0_write_50 rfl (lv_at hl 1 rfl) ?_
  refine xc_call (wc := pw hx hc hh (u0, lpP1 u1 w, ea)) (wr := []) (st1 := []) (va_runV (As := []) (rest := []) ⟨hx_, hb, hml, hown, hts⟩ (c_followHelper l dC dI hx hc hh H.size u0 (lpP1 u1 w) ea) (cwV 0 hts (gd_V wa_c k_ml_X0_32 k_im_X0_followHelper k_se_X0_followHelper k_in_X0 k_co_X0_followHelper) rfl rfl rfl (by decide +kernel) ⟨Nat.le_of_ble_eq_true rfl, Nat.le_of_ble_eq_true rfl⟩) (xc_preV (q0 := 0) (C := RX0) hK hP hD hZ rfl rfl) rfl rfl hl.1 rfl (lv_room (Nat.le_of_ble_eq_true rfl)) dX0_write_51 ⟨Nat.zero_le _, Nat.zero_le _⟩) hP hD hS hA [0, 1, 2] [] rfl rfl (by decide) (by decide) rfl (fun H locs hP hD hS _ => ?_)
  have hP : va_P (dC, dI) vwCl (pw hx hc hh (lpFol u0 (lpP1 u1 w), lpP1 u1 w, ea)) H := hP
  have hD : va_D A (pw hx hc hh (lpFol u0 (lpP1 u1 w), lpP1 u1 w, ea)) := hD
  refine lv_aload_n hx_ hb dX0_write_54 rfl (lv_at hl 1 rfl) ?_
  refine va_get (D := (dC, dI)) (ci := 0) (v := .ref hc) (C := RX0) (T := TX0) (N := 3) hx_ hb hts hin_RX0 hown hK hP 0 rfl rfl 0 (by decide) hlk_14 (fun _ h9 => h9) rfl dX0_write_55 ?_
  refine xr_call (st1 := [.int (lpDel (lpFol u0 (lpP1 u1 w)))]) ((va_runVN (As := []) (rest := []) ⟨hx_, hb, hml, hown, hts⟩ (c_lineToDeliver l dC dI hc (lpFol u0 (lpP1 u1 w))) ⟨va_cnB 0 hts (gd_0 wa_c k_co_X1_lineToDeliver) rfl rfl rfl hml_51 (hts _ (List.mem_cons_of_mem _ k_in_X1)) (by decide +kernel) ⟨Nat.le_of_ble_eq_true rfl, Nat.le_of_ble_eq_true rfl⟩, hts _ (List.mem_cons_of_mem _ k_im_X1_lineToDeliver), hts _ (List.mem_cons_of_mem _ k_se_X1_lineToDeliver)⟩ (xr_preV (q0 := 0) (C := RX1) hK (hP.sub (ws' := cw1 hc (lpFol u0 (lpP1 u1 w))) [1] rfl) xz_Z.nil rfl rfl) rfl rfl hl.1 rfl (lv_room (Nat.le_of_ble_eq_true rfl)) dX0_write_58 ⟨Nat.zero_le _, Nat.zero_le _⟩).run) rfl ?_
  refine lv_iconst (v := -1) hx_ hb dX0_write_61 (by decide) ?_
  refine lv_icmp_eq (tgt := 69) hx_ hb dX0_write_62 (by decide) (fun h1 => ?_) (fun h1 => ?_)
  · refine lv_iconst (v := 0) hx_ hb dX0_write_69 (by decide) ?_
    exact xc_zret (wf := pw hx hc hh) hx_ hb hr hlocks dX0_write_70 hK hP hD hS rfl (by first | (simp only [lpBo, if_neg hw0, if_pos hw0, if_pos hw1, if_neg (not_not_intro hw1), if_pos h1, if_neg (not_not_intro h1)]; done) | rfl | (simp only [lpBo]; simp only [if_neg hw0, if_pos hw0, if_pos hw1, if_neg (not_not_intro hw1), if_pos h1, if_neg (not_not_intro h1)]; done) | (simp_all [lpBo]; done)) (by first | (simp only [lpBo, if_neg hw0, if_pos hw0, if_pos hw1, if_neg (not_not_intro hw1), if_pos h1, if_neg (not_not_intro h1)]; done) | rfl | (simp only [lpBo]; simp only [if_neg hw0, if_pos hw0, if_pos hw1, if_neg (not_not_intro hw1), if_pos h1, if_neg (not_not_intro h1)]; done) | (simp_all [lpBo]; done))
  · refine lv_iconst (v := 1) hx_ hb dX0_write_65 (by decide) ?_
    refine lv_goto (tgt := 70) hx_ hb dX0_write_66 (by decide) ?_
    exact xc_zret (wf := pw hx hc hh) hx_ hb hr hlocks dX0_write_70 hK hP hD hS rfl (by first | (simp only [lpBo, if_neg hw0, if_pos hw0, if_pos hw1, if_neg (not_not_intro hw1), if_neg h1, if_pos h1]; done) | rfl | (simp only [lpBo]; simp only [if_neg hw0, if_pos hw0, if_pos hw1, if_neg (not_not_intro hw1), if_neg h1, if_pos h1]; done) | (simp_all [lpBo]; done)) (by first | (simp only [lpBo, if_neg hw0, if_pos hw0, if_pos hw1, if_neg (not_not_intro hw1), if_neg h1, if_pos h1]; done) | rfl | (simp only [lpBo]; simp only [if_neg hw0, if_pos hw0, if_pos hw1, if_neg (not_not_intro hw1), if_neg h1, if_pos h1]; done) | (simp_all [lpBo]; done))

set_option maxHeartbeats 4000000 in
set_option maxRecDepth 100000 in
theorem c_read_1_1 (l : Launch) (dC : Nat → ClassId) (dI : Nat → Nat → Nat) (hx hc hh : Nat) (sz : Nat) (u0 u1 : Nat → Int32) (ea : Int32) : xc_M l yX0_read wsX0_read ({ frames := 5, cells := 0, slots := 0, locals := 108 }) [.ref hx, .int 1, .int 1] sz (dC, dI) vwCl [] pz (pw hx hc hh (u0, u1, ea)) (some (.int (u1 4))) (pw hx hc hh ((u0, u1, ea))) 0 0 := by
  refine Met.ofW (cc := cX0_read) (maxL := 5) (ret := (some .int)) (by decide) rfl ?_
  intro p e s m args below meth c s₁ B hml hv
  obtain ⟨rfl, hsz, hP, hK, hD0, hZ⟩ := hv
  have hx_ := B.exec
  have hb := B.bytes
  have hr := B.returns
  have hts := atoms_spec (ws := wsX0_read) B.pre
  have hown : s.vm.findClass RX0 = some m.cls := findClass_of_methodNamed B.named
  have hlocks := B.notSynchronized
  subst hsz
  have hD := hD0.self (sz := s.heap.size)
  generalize hAe : va_A (pw hx hc hh (u0, u1, ea)) s.heap.size = A at hD ⊢
  have hA : ∀ q : Nat, s.heap.size ≤ q → A q := fun q h => by rw [← hAe]; exact Or.inr h
  have hS : va_S A s.heap s.heap [] := va_S.rf
  have hin_RX1 : ∀ w ∈ u_ws RX1 TX1 19, w ∈ wsX0_read := fun w h => List.mem_cons_of_mem _ (u_X1 w h)
  have hlk_55 := hZ.use (w := .fieldLinkNest RX0 55 "LinePair$Controller" "masked" "I" "LinePair") (by decide +kernel) (a := ([.ref hx, .int 1, .int 1]).toArray)
  have hml_58 : va_Nw (.methodLinkNest RX0 58 yX1_answerAtPort0 "LinePair") s := hZ.2 _ (by decide +kernel)
  have hl := lv_entry ([.ref hx, .int 1, .int 1]) (n := 5) (Nat.le_of_ble_eq_true rfl)
  rw [lg_entry_eq]
  generalize (lg_sl ([.ref hx, .int 1, .int 1]) ++ List.replicate (5 - (lg_sl ([.ref hx, .int 1, .int 1])).length) Slot.unset).toArray = ls at hl ⊢
  have hl : lv_has ls 5 [(0, .ref hx), (1, .int 1), (2, .int 1)] := hl
  refine lv_aload_n hx_ hb dX0_read_0 rfl (lv_at hl 0 rfl) ?_
  refine lv_iload_n hx_ hb dX0_read_1 rfl (lv_at hl 1 rfl) ?_
  refine xr_call (st1 := [.ref hh]) (W.runV (As := [.int 1]) (rest := []) ⟨hx_, hb, hml, hown, hts⟩ (c_controllerNumbered_1 l dC dI hx hc hh u0 u1 ea) (cwV 1 hts (gd_V wa_c k_ml_X0_35 k_im_X0_controllerNumbered k_se_X0_controllerNumbered k_in_X0 k_co_X0_controllerNumbered) rfl rfl rfl (by decide +kernel) ⟨Nat.le_of_ble_eq_true rfl, Nat.le_of_ble_eq_true rfl⟩) (xr_preV (q0 := 0) (C := RX0) hK hP hZ rfl rfl) rfl rfl hl.1 rfl (lv_room (Nat.le_of_ble_eq_true rfl)) dX0_read_2 ⟨Nat.zero_le _, Nat.zero_le _⟩) rfl ?_
  refine lv_astore_n (lv' := [(3, .ref hh), (0, .ref hx), (1, .int 1), (2, .int 1)]) hx_ hb dX0_read_5 rfl hl (by decide) rfl (fun ls hl => ?_)
  refine lv_aload_n hx_ hb dX0_read_6 rfl (lv_at hl 1 rfl) ?_
  refine lv_iload_n hx_ hb dX0_read_7 rfl (lv_at hl 3 rfl) ?_
  refine xr_call (st1 := []) (W.runV (As := [.int 1]) (rest := []) ⟨hx_, hb, hml, hown, hts⟩ (c_checkPort_1 l dC dI hx hc hh u0 u1 ea) (cwV 1 hts (gd_V wa_c k_ml_X0_39 k_im_X0_checkPort k_se_X0_checkPort k_in_X0 k_co_X0_checkPort) rfl rfl rfl (by decide +kernel) ⟨Nat.le_of_ble_eq_true rfl, Nat.le_of_ble_eq_true rfl⟩) (xr_preV (q0 := 0) (C := RX0) hK hP hZ rfl rfl) rfl rfl hl.1 rfl (lv_room (Nat.le_of_ble_eq_true rfl)) dX0_read_8 ⟨Nat.zero_le _, Nat.zero_le _⟩) rfl ?_
  refine lv_iload_n hx_ hb dX0_read_11 rfl (lv_at hl 3 rfl) ?_
  refine lv_iconst (v := 1) hx_ hb dX0_read_12 (by decide) ?_
  refine lv_icmp_ne (tgt := 21) hx_ hb dX0_read_13 (by decide) (fun h => absurd (by decide) h) (fun _ => ?_)
  refine lv_aload_n hx_ hb dX0_read_16 rfl (lv_at hl 0 rfl) ?_
  refine va_getN (D := (dC, dI)) (ci := 1) (v := .int (u1 4)) (C := RX1) (T := TX1) (N := 19) hx_ hb hts hin_RX1 hown hK hP 2 rfl rfl 4 (by decide) hlk_55 (fun _ h9 => h9) rfl dX0_read_17 ?_
  exact xc_iret (wf := pw hx hc hh) hx_ hb hr hlocks dX0_read_20 hK hP hD hS rfl rfl

set_option maxHeartbeats 4000000 in
set_option maxRecDepth 100000 in
theorem c_read_1_0 (l : Launch) (dC : Nat → ClassId) (dI : Nat → Nat → Nat) (hx hc hh : Nat) (sz : Nat) (u0 u1 : Nat → Int32) (ea : Int32) : xc_M l yX0_read wsX0_read ({ frames := 5, cells := 0, slots := 0, locals := 108 }) [.ref hx, .int 1, .int 0] sz (dC, dI) vwCl [] pz (pw hx hc hh (u0, u1, ea)) (some (.int (lpAnsR u1))) (pw hx hc hh ((lpFol u0 (lpAns u1), lpAns u1, ea))) 0 0 := by
  refine Met.ofW (cc := cX0_read) (maxL := 5) (ret := (some .int)) (by decide) rfl ?_
  intro p e s m args below meth c s₁ B hml hv
  obtain ⟨rfl, hsz, hP, hK, hD0, hZ⟩ := hv
  have hx_ := B.exec
  have hb := B.bytes
  have hr := B.returns
  have hts := atoms_spec (ws := wsX0_read) B.pre
  have hown : s.vm.findClass RX0 = some m.cls := findClass_of_methodNamed B.named
  have hlocks := B.notSynchronized
  subst hsz
  have hD := hD0.self (sz := s.heap.size)
  generalize hAe : va_A (pw hx hc hh (u0, u1, ea)) s.heap.size = A at hD ⊢
  have hA : ∀ q : Nat, s.heap.size ≤ q → A q := fun q h => by rw [← hAe]; exact Or.inr h
  have hS : va_S A s.heap s.heap [] := va_S.rf
  have hin_RX1 : ∀ w ∈ u_ws RX1 TX1 19, w ∈ wsX0_read := fun w h => List.mem_cons_of_mem _ (u_X1 w h)
  have hlk_55 := hZ.use (w := .fieldLinkNest RX0 55 "LinePair$Controller" "masked" "I" "LinePair") (by decide +kernel) (a := ([.ref hx, .int 1, .int 0]).toArray)
  have hml_58 : va_Nw (.methodLinkNest RX0 58 yX1_answerAtPort0 "LinePair") s := hZ.2 _ (by decide +kernel)
  have hl := lv_entry ([.ref hx, .int 1, .int 0]) (n := 5) (Nat.le_of_ble_eq_true rfl)
  rw [lg_entry_eq]
  generalize (lg_sl ([.ref hx, .int 1, .int 0]) ++ List.replicate (5 - (lg_sl ([.ref hx, .int 1, .int 0])).length) Slot.unset).toArray = ls at hl ⊢
  have hl : lv_has ls 5 [(0, .ref hx), (1, .int 1), (2, .int 0)] := hl
  refine lv_aload_n hx_ hb dX0_read_0 rfl (lv_at hl 0 rfl) ?_
  refine lv_iload_n hx_ hb dX0_read_1 rfl (lv_at hl 1 rfl) ?_
  refine xr_call (st1 := [.ref hh]) (W.runV (As := [.int 1]) (rest := []) ⟨hx_, hb, hml, hown, hts⟩ (c_controllerNumbered_1 l dC dI hx hc hh u0 u1 ea) (cwV 1 hts (gd_V wa_c k_ml_X0_35 k_im_X0_controllerNumbered k_se_X0_controllerNumbered k_in_X0 k_co_X0_controllerNumbered) rfl rfl rfl (by decide +kernel) ⟨Nat.le_of_ble_eq_true rfl, Nat.le_of_ble_eq_true rfl⟩) (xr_preV (q0 := 0) (C := RX0) hK hP hZ rfl rfl) rfl rfl hl.1 rfl (lv_room (Nat.le_of_ble_eq_true rfl)) dX0_read_2 ⟨Nat.zero_le _, Nat.zero_le _⟩) rfl ?_
  refine lv_astore_n (lv' := [(3, .ref hh), (0, .ref hx), (1, .int 1), (2, .int 0)]) hx_ hb dX0_read_5 rfl hl (by decide) rfl (fun ls hl => ?_)
  refine lv_aload_n hx_ hb dX0_read_6 rfl (lv_at hl 1 rfl) ?_
  refine lv_iload_n hx_ hb dX0_read_7 rfl (lv_at hl 3 rfl) ?_
  refine xr_call (st1 := []) (W.runV (As := [.int 0]) (rest := []) ⟨hx_, hb, hml, hown, hts⟩ (c_checkPort_0 l dC dI hx hc hh u0 u1 ea) (cwV 1 hts (gd_V wa_c k_ml_X0_39 k_im_X0_checkPort k_se_X0_checkPort k_in_X0 k_co_X0_checkPort) rfl rfl rfl (by decide +kernel) ⟨Nat.le_of_ble_eq_true rfl, Nat.le_of_ble_eq_true rfl⟩) (xr_preV (q0 := 0) (C := RX0) hK hP hZ rfl rfl) rfl rfl hl.1 rfl (lv_room (Nat.le_of_ble_eq_true rfl)) dX0_read_8 ⟨Nat.zero_le _, Nat.zero_le _⟩) rfl ?_
  refine lv_iload_n hx_ hb dX0_read_11 rfl (lv_at hl 3 rfl) ?_
  refine lv_iconst (v := 1) hx_ hb dX0_read_12 (by decide) ?_
  refine lv_icmp_ne (tgt := 21) hx_ hb dX0_read_13 (by decide) (fun _ => ?_) (fun h => absurd h (by decide))
  refine lv_aload_n hx_ hb dX0_read_21 rfl (lv_at hl 0 rfl) ?_
  refine xc_call (wc := cw1 hh u1) (wr := [(hx, .inr (0, [.ref hc, .ref hh, .int ea])), (hc, .inr (1, lpF u0))]) (st1 := [.int (lpAnsR u1)]) (va_runVN (As := []) (rest := []) ⟨hx_, hb, hml, hown, hts⟩ (c_answerAtPort0 l dC dI hh s.heap.size u1) ⟨va_cnB 0 hts (gd_0 wa_c k_co_X1_answerAtPort0) rfl rfl rfl hml_58 (hts _ (List.mem_cons_of_mem _ k_in_X1)) (by decide +kernel) ⟨Nat.le_of_ble_eq_true rfl, Nat.le_of_ble_eq_true rfl⟩, hts _ (List.mem_cons_of_mem _ k_im_X1_answerAtPort0), hts _ (List.mem_cons_of_mem _ k_se_X1_answerAtPort0)⟩ (xc_preV (q0 := 0) (C := RX1) hK (hP.sub (ws' := cw1 hh u1) [2] rfl) (hD.sub (ws' := cw1 hh u1) [2] (by decide) rfl) xz_Z.nil rfl rfl) rfl rfl hl.1 rfl (lv_room (Nat.le_of_ble_eq_true rfl)) dX0_read_22 ⟨Nat.zero_le _, Nat.zero_le _⟩) hP hD hS hA [2] [0, 1] rfl rfl (by decide) (by decide) rfl (fun H locs hP hD hS _ => ?_)
  have hP := hP.sub (ws' := pw hx hc hh (u0, lpAns u1, ea)) [0, 1, 2] rfl
  have hD := hD.sub (ws' := pw hx hc hh (u0, lpAns u1, ea)) [0, 1, 2] (by decide) rfl
  refine lv_istore (lv' := [(4, .int (lpAnsR u1)), (3, .ref hh), (0, .ref hx), (1, .int 1), (2, .int 0)]) hx_ hb dX0_read_25 hl (by decide) rfl (fun ls hl => ?_)
  refine lv_aload_n hx_ hb dX0_read_27 rfl (lv_at hl 2 rfl) ?_
  refine xc_call (wc := pw hx hc hh (u0, lpAns u1, ea)) (wr := []) (st1 := []) (va_runV (As := []) (rest := []) ⟨hx_, hb, hml, hown, hts⟩ (c_followHelper l dC dI hx hc hh H.size u0 (lpAns u1) ea) (cwV 0 hts (gd_V wa_c k_ml_X0_32 k_im_X0_followHelper k_se_X0_followHelper k_in_X0 k_co_X0_followHelper) rfl rfl rfl (by decide +kernel) ⟨Nat.le_of_ble_eq_true rfl, Nat.le_of_ble_eq_true rfl⟩) (xc_preV (q0 := 0) (C := RX0) hK hP hD hZ rfl rfl) rfl rfl hl.1 rfl (lv_room (Nat.le_of_ble_eq_true rfl)) dX0_read_28 ⟨Nat.zero_le _, Nat.zero_le _⟩) hP hD hS hA [0, 1, 2] [] rfl rfl (by decide) (by decide) rfl (fun H locs hP hD hS _ => ?_)
  have hP : va_P (dC, dI) vwCl (pw hx hc hh (lpFol u0 (lpAns u1), lpAns u1, ea)) H := hP
  have hD : va_D A (pw hx hc hh (lpFol u0 (lpAns u1), lpAns u1, ea)) := hD
  refine lv_iload hx_ hb dX0_read_31 (lv_at hl 0 rfl) ?_
  exact xc_iret (wf := pw hx hc hh) hx_ hb hr hlocks dX0_read_33 hK hP hD hS rfl rfl

set_option maxHeartbeats 4000000 in
set_option maxRecDepth 100000 in
theorem c_delivers_1 (l : Launch) (dC : Nat → ClassId) (dI : Nat → Nat → Nat) (hx hc hh : Nat) (u0 u1 : Nat → Int32) (ea : Int32) : xr_M l yX0_delivers wsX0_delivers ({ frames := 3, cells := 0, slots := 0, locals := 66 }) [.ref hx, .int 1] (dC, dI) vwCl [] pz (pw hx hc hh (u0, u1, ea)) (some (.int (lpDel u1))) := by
  refine Met.ofW (cc := cX0_delivers) (maxL := 2) (ret := (some .int)) (by decide) rfl ?_
  intro p e s m args below meth c s₁ B hml hv
  obtain ⟨rfl, hP, hK, hZ⟩ := hv
  have hx_ := B.exec
  have hb := B.bytes
  have hr := B.returns
  have hts := atoms_spec (ws := wsX0_delivers) B.pre
  have hown : s.vm.findClass RX0 = some m.cls := findClass_of_methodNamed B.named
  have hlocks := B.notSynchronized
  have hml_51 : va_Nw (.methodLinkNest RX0 51 yX1_lineToDeliver "LinePair") s := hZ.2 _ (by decide +kernel)
  have hl := lv_entry ([.ref hx, .int 1]) (n := 2) (Nat.le_of_ble_eq_true rfl)
  rw [lg_entry_eq]
  generalize (lg_sl ([.ref hx, .int 1]) ++ List.replicate (2 - (lg_sl ([.ref hx, .int 1])).length) Slot.unset).toArray = ls at hl ⊢
  have hl : lv_has ls 2 [(0, .ref hx), (1, .int 1)] := hl
  refine lv_aload_n hx_ hb dX0_delivers_0 rfl (lv_at hl 0 rfl) ?_
  refine lv_iload_n hx_ hb dX0_delivers_1 rfl (lv_at hl 1 rfl) ?_
  refine xr_call (st1 := [.ref hh]) (W.runV (As := [.int 1]) (rest := []) ⟨hx_, hb, hml, hown, hts⟩ (c_controllerNumbered_1 l dC dI hx hc hh u0 u1 ea) (cwV 1 hts (gd_V wa_c k_ml_X0_35 k_im_X0_controllerNumbered k_se_X0_controllerNumbered k_in_X0 k_co_X0_controllerNumbered) rfl rfl rfl (by decide +kernel) ⟨Nat.le_of_ble_eq_true rfl, Nat.le_of_ble_eq_true rfl⟩) (xr_preV (q0 := 0) (C := RX0) hK hP hZ rfl rfl) rfl rfl hl.1 rfl (lv_room (Nat.le_of_ble_eq_true rfl)) dX0_delivers_2 ⟨Nat.zero_le _, Nat.zero_le _⟩) rfl ?_
  refine xr_call (st1 := [.int (lpDel u1)]) ((va_runVN (As := []) (rest := []) ⟨hx_, hb, hml, hown, hts⟩ (c_lineToDeliver l dC dI hh u1) ⟨va_cnB 0 hts (gd_0 wa_c k_co_X1_lineToDeliver) rfl rfl rfl hml_51 (hts _ (List.mem_cons_of_mem _ k_in_X1)) (by decide +kernel) ⟨Nat.le_of_ble_eq_true rfl, Nat.le_of_ble_eq_true rfl⟩, hts _ (List.mem_cons_of_mem _ k_im_X1_lineToDeliver), hts _ (List.mem_cons_of_mem _ k_se_X1_lineToDeliver)⟩ (xr_preV (q0 := 0) (C := RX1) hK (hP.sub (ws' := cw1 hh u1) [2] rfl) xz_Z.nil rfl rfl) rfl rfl hl.1 rfl (lv_room (Nat.le_of_ble_eq_true rfl)) dX0_delivers_5 ⟨Nat.zero_le _, Nat.zero_le _⟩).run) rfl ?_
  exact xr_iret hx_ hb hr hlocks dX0_delivers_8 rfl

set_option maxHeartbeats 4000000 in
set_option maxRecDepth 100000 in
theorem c_about_1_0 (l : Launch) (dC : Nat → ClassId) (dI : Nat → Nat → Nat) (hx hc hh : Nat) (u0 u1 : Nat → Int32) (ea : Int32) : xr_M l yX0_about wsX0_about ({ frames := 1, cells := 0, slots := 0, locals := 21 }) [.ref hx, .int 1, .int 0] (dC, dI) vwCl [] pz (pw hx hc hh (u0, u1, ea)) (some (.int (lpReq u1))) := by
  refine Met.ofW (cc := cX0_about) (maxL := 4) (ret := (some .int)) (by decide) rfl ?_
  intro p e s m args below meth c s₁ B hml hv
  obtain ⟨rfl, hP, hK, hZ⟩ := hv
  have hx_ := B.exec
  have hb := B.bytes
  have hr := B.returns
  have hts := atoms_spec (ws := wsX0_about) B.pre
  have hown : s.vm.findClass RX0 = some m.cls := findClass_of_methodNamed B.named
  have hlocks := B.notSynchronized
  have hin_RX1 : ∀ w ∈ u_ws RX1 TX1 19, w ∈ wsX0_about := fun w h => List.mem_cons_of_mem _ (u_X1 w h)
  have hlk_55 := hZ.use (w := .fieldLinkNest RX0 55 "LinePair$Controller" "masked" "I" "LinePair") (by decide +kernel) (a := ([.ref hx, .int 1, .int 0]).toArray)
  have hlk_74 := hZ.use (w := .fieldLinkNest RX0 74 "LinePair$Controller" "inService" "I" "LinePair") (by decide +kernel) (a := ([.ref hx, .int 1, .int 0]).toArray)
  have hlk_77 := hZ.use (w := .fieldLinkNest RX0 77 "LinePair$Controller" "up" "I" "LinePair") (by decide +kernel) (a := ([.ref hx, .int 1, .int 0]).toArray)
  have hlk_80 := hZ.use (w := .fieldLinkNest RX0 80 "LinePair$Controller" "lowest" "I" "LinePair") (by decide +kernel) (a := ([.ref hx, .int 1, .int 0]).toArray)
  have hlk_83 := hZ.use (w := .fieldLinkNest RX0 83 "LinePair$Controller" "base" "I" "LinePair") (by decide +kernel) (a := ([.ref hx, .int 1, .int 0]).toArray)
  have hlk_86 := hZ.use (w := .fieldLinkNest RX0 86 "LinePair$Controller" "awaited" "I" "LinePair") (by decide +kernel) (a := ([.ref hx, .int 1, .int 0]).toArray)
  have hlk_89 := hZ.use (w := .fieldLinkNest RX0 89 "LinePair$Controller" "readChoice" "I" "LinePair") (by decide +kernel) (a := ([.ref hx, .int 1, .int 0]).toArray)
  have hml_71 : va_Nw (.methodLinkNest RX0 71 yX1_requested "LinePair") s := hZ.2 _ (by decide +kernel)
  have hl := lv_entry ([.ref hx, .int 1, .int 0]) (n := 4) (Nat.le_of_ble_eq_true rfl)
  rw [lg_entry_eq]
  generalize (lg_sl ([.ref hx, .int 1, .int 0]) ++ List.replicate (4 - (lg_sl ([.ref hx, .int 1, .int 0])).length) Slot.unset).toArray = ls at hl ⊢
  have hl : lv_has ls 4 [(0, .ref hx), (1, .int 1), (2, .int 0)] := hl
  refine lv_aload_n hx_ hb dX0_about_0 rfl (lv_at hl 0 rfl) ?_
  refine lv_iload_n hx_ hb dX0_about_1 rfl (lv_at hl 1 rfl) ?_
  refine xr_call (st1 := [.ref hh]) (W.runV (As := [.int 1]) (rest := []) ⟨hx_, hb, hml, hown, hts⟩ (c_controllerNumbered_1 l dC dI hx hc hh u0 u1 ea) (cwV 1 hts (gd_V wa_c k_ml_X0_35 k_im_X0_controllerNumbered k_se_X0_controllerNumbered k_in_X0 k_co_X0_controllerNumbered) rfl rfl rfl (by decide +kernel) ⟨Nat.le_of_ble_eq_true rfl, Nat.le_of_ble_eq_true rfl⟩) (xr_preV (q0 := 0) (C := RX0) hK hP hZ rfl rfl) rfl rfl hl.1 rfl (lv_room (Nat.le_of_ble_eq_true rfl)) dX0_about_2 ⟨Nat.zero_le _, Nat.zero_le _⟩) rfl ?_
  refine lv_astore_n (lv' := [(3, .ref hh), (0, .ref hx), (1, .int 1), (2, .int 0)]) hx_ hb dX0_about_5 rfl hl (by decide) rfl (fun ls hl => ?_)
  refine lv_iload_n hx_ hb dX0_about_6 rfl (lv_at hl 3 rfl) ?_
  refine lv_tableIn (tgt := 52) hx_ hb dX0_about_7 (by decide) (by decide) (by rfl) (by decide) ?_
  refine lv_aload_n hx_ hb dX0_about_52 rfl (lv_at hl 0 rfl) ?_
  refine xr_call (st1 := [.int (lpReq u1)]) ((va_runVN (As := []) (rest := []) ⟨hx_, hb, hml, hown, hts⟩ (c_requested l dC dI hh u1) ⟨va_cnB 0 hts (gd_0 wa_c k_co_X1_requested) rfl rfl rfl hml_71 (hts _ (List.mem_cons_of_mem _ k_in_X1)) (by decide +kernel) ⟨Nat.le_of_ble_eq_true rfl, Nat.le_of_ble_eq_true rfl⟩, hts _ (List.mem_cons_of_mem _ k_im_X1_requested), hts _ (List.mem_cons_of_mem _ k_se_X1_requested)⟩ (xr_preV (q0 := 0) (C := RX1) hK (hP.sub (ws' := cw1 hh u1) [2] rfl) xz_Z.nil rfl rfl) rfl rfl hl.1 rfl (lv_room (Nat.le_of_ble_eq_true rfl)) dX0_about_53 ⟨Nat.zero_le _, Nat.zero_le _⟩).run) rfl ?_
  exact xr_iret hx_ hb hr hlocks dX0_about_56 rfl

set_option maxHeartbeats 4000000 in
set_option maxRecDepth 100000 in
theorem c_about_1_1 (l : Launch) (dC : Nat → ClassId) (dI : Nat → Nat → Nat) (hx hc hh : Nat) (u0 u1 : Nat → Int32) (ea : Int32) : xr_M l yX0_about wsX0_about ({ frames := 1, cells := 0, slots := 0, locals := 21 }) [.ref hx, .int 1, .int 1] (dC, dI) vwCl [] pz (pw hx hc hh (u0, u1, ea)) (some (.int (u1 3))) := by
  refine Met.ofW (cc := cX0_about) (maxL := 4) (ret := (some .int)) (by decide) rfl ?_
  intro p e s m args below meth c s₁ B hml hv
  obtain ⟨rfl, hP, hK, hZ⟩ := hv
  have hx_ := B.exec
  have hb := B.bytes
  have hr := B.returns
  have hts := atoms_spec (ws := wsX0_about) B.pre
  have hown : s.vm.findClass RX0 = some m.cls := findClass_of_methodNamed B.named
  have hlocks := B.notSynchronized
  have hin_RX1 : ∀ w ∈ u_ws RX1 TX1 19, w ∈ wsX0_about := fun w h => List.mem_cons_of_mem _ (u_X1 w h)
  have hlk_55 := hZ.use (w := .fieldLinkNest RX0 55 "LinePair$Controller" "masked" "I" "LinePair") (by decide +kernel) (a := ([.ref hx, .int 1, .int 1]).toArray)
  have hlk_74 := hZ.use (w := .fieldLinkNest RX0 74 "LinePair$Controller" "inService" "I" "LinePair") (by decide +kernel) (a := ([.ref hx, .int 1, .int 1]).toArray)
  have hlk_77 := hZ.use (w := .fieldLinkNest RX0 77 "LinePair$Controller" "up" "I" "LinePair") (by decide +kernel) (a := ([.ref hx, .int 1, .int 1]).toArray)
  have hlk_80 := hZ.use (w := .fieldLinkNest RX0 80 "LinePair$Controller" "lowest" "I" "LinePair") (by decide +kernel) (a := ([.ref hx, .int 1, .int 1]).toArray)
  have hlk_83 := hZ.use (w := .fieldLinkNest RX0 83 "LinePair$Controller" "base" "I" "LinePair") (by decide +kernel) (a := ([.ref hx, .int 1, .int 1]).toArray)
  have hlk_86 := hZ.use (w := .fieldLinkNest RX0 86 "LinePair$Controller" "awaited" "I" "LinePair") (by decide +kernel) (a := ([.ref hx, .int 1, .int 1]).toArray)
  have hlk_89 := hZ.use (w := .fieldLinkNest RX0 89 "LinePair$Controller" "readChoice" "I" "LinePair") (by decide +kernel) (a := ([.ref hx, .int 1, .int 1]).toArray)
  have hml_71 : va_Nw (.methodLinkNest RX0 71 yX1_requested "LinePair") s := hZ.2 _ (by decide +kernel)
  have hl := lv_entry ([.ref hx, .int 1, .int 1]) (n := 4) (Nat.le_of_ble_eq_true rfl)
  rw [lg_entry_eq]
  generalize (lg_sl ([.ref hx, .int 1, .int 1]) ++ List.replicate (4 - (lg_sl ([.ref hx, .int 1, .int 1])).length) Slot.unset).toArray = ls at hl ⊢
  have hl : lv_has ls 4 [(0, .ref hx), (1, .int 1), (2, .int 1)] := hl
  refine lv_aload_n hx_ hb dX0_about_0 rfl (lv_at hl 0 rfl) ?_
  refine lv_iload_n hx_ hb dX0_about_1 rfl (lv_at hl 1 rfl) ?_
  refine xr_call (st1 := [.ref hh]) (W.runV (As := [.int 1]) (rest := []) ⟨hx_, hb, hml, hown, hts⟩ (c_controllerNumbered_1 l dC dI hx hc hh u0 u1 ea) (cwV 1 hts (gd_V wa_c k_ml_X0_35 k_im_X0_controllerNumbered k_se_X0_controllerNumbered k_in_X0 k_co_X0_controllerNumbered) rfl rfl rfl (by decide +kernel) ⟨Nat.le_of_ble_eq_true rfl, Nat.le_of_ble_eq_true rfl⟩) (xr_preV (q0 := 0) (C := RX0) hK hP hZ rfl rfl) rfl rfl hl.1 rfl (lv_room (Nat.le_of_ble_eq_true rfl)) dX0_about_2 ⟨Nat.zero_le _, Nat.zero_le _⟩) rfl ?_
  refine lv_astore_n (lv' := [(3, .ref hh), (0, .ref hx), (1, .int 1), (2, .int 1)]) hx_ hb dX0_about_5 rfl hl (by decide) rfl (fun ls hl => ?_)
  refine lv_iload_n hx_ hb dX0_about_6 rfl (lv_at hl 3 rfl) ?_
  refine lv_tableIn (tgt := 57) hx_ hb dX0_about_7 (by decide) (by decide) (by rfl) (by decide) ?_
  refine lv_aload_n hx_ hb dX0_about_57 rfl (lv_at hl 0 rfl) ?_
  refine va_getN (D := (dC, dI)) (ci := 1) (v := .int (u1 3)) (C := RX1) (T := TX1) (N := 19) hx_ hb hts hin_RX1 hown hK hP 2 rfl rfl 3 (by decide) hlk_74 (fun _ h9 => h9) rfl dX0_about_58 ?_
  exact xr_iret hx_ hb hr hlocks dX0_about_61 rfl

set_option maxHeartbeats 4000000 in
set_option maxRecDepth 100000 in
theorem c_about_1_2 (l : Launch) (dC : Nat → ClassId) (dI : Nat → Nat → Nat) (hx hc hh : Nat) (u0 u1 : Nat → Int32) (ea : Int32) : xr_M l yX0_about wsX0_about ({ frames := 1, cells := 0, slots := 0, locals := 21 }) [.ref hx, .int 1, .int 2] (dC, dI) vwCl [] pz (pw hx hc hh (u0, u1, ea)) (some (.int (u1 4))) := by
  refine Met.ofW (cc := cX0_about) (maxL := 4) (ret := (some .int)) (by decide) rfl ?_
  intro p e s m args below meth c s₁ B hml hv
  obtain ⟨rfl, hP, hK, hZ⟩ := hv
  have hx_ := B.exec
  have hb := B.bytes
  have hr := B.returns
  have hts := atoms_spec (ws := wsX0_about) B.pre
  have hown : s.vm.findClass RX0 = some m.cls := findClass_of_methodNamed B.named
  have hlocks := B.notSynchronized
  have hin_RX1 : ∀ w ∈ u_ws RX1 TX1 19, w ∈ wsX0_about := fun w h => List.mem_cons_of_mem _ (u_X1 w h)
  have hlk_55 := hZ.use (w := .fieldLinkNest RX0 55 "LinePair$Controller" "masked" "I" "LinePair") (by decide +kernel) (a := ([.ref hx, .int 1, .int 2]).toArray)
  have hlk_74 := hZ.use (w := .fieldLinkNest RX0 74 "LinePair$Controller" "inService" "I" "LinePair") (by decide +kernel) (a := ([.ref hx, .int 1, .int 2]).toArray)
  have hlk_77 := hZ.use (w := .fieldLinkNest RX0 77 "LinePair$Controller" "up" "I" "LinePair") (by decide +kernel) (a := ([.ref hx, .int 1, .int 2]).toArray)
  have hlk_80 := hZ.use (w := .fieldLinkNest RX0 80 "LinePair$Controller" "lowest" "I" "LinePair") (by decide +kernel) (a := ([.ref hx, .int 1, .int 2]).toArray)
  have hlk_83 := hZ.use (w := .fieldLinkNest RX0 83 "LinePair$Controller" "base" "I" "LinePair") (by decide +kernel) (a := ([.ref hx, .int 1, .int 2]).toArray)
  have hlk_86 := hZ.use (w := .fieldLinkNest RX0 86 "LinePair$Controller" "awaited" "I" "LinePair") (by decide +kernel) (a := ([.ref hx, .int 1, .int 2]).toArray)
  have hlk_89 := hZ.use (w := .fieldLinkNest RX0 89 "LinePair$Controller" "readChoice" "I" "LinePair") (by decide +kernel) (a := ([.ref hx, .int 1, .int 2]).toArray)
  have hml_71 : va_Nw (.methodLinkNest RX0 71 yX1_requested "LinePair") s := hZ.2 _ (by decide +kernel)
  have hl := lv_entry ([.ref hx, .int 1, .int 2]) (n := 4) (Nat.le_of_ble_eq_true rfl)
  rw [lg_entry_eq]
  generalize (lg_sl ([.ref hx, .int 1, .int 2]) ++ List.replicate (4 - (lg_sl ([.ref hx, .int 1, .int 2])).length) Slot.unset).toArray = ls at hl ⊢
  have hl : lv_has ls 4 [(0, .ref hx), (1, .int 1), (2, .int 2)] := hl
  refine lv_aload_n hx_ hb dX0_about_0 rfl (lv_at hl 0 rfl) ?_
  refine lv_iload_n hx_ hb dX0_about_1 rfl (lv_at hl 1 rfl) ?_
  refine xr_call (st1 := [.ref hh]) (W.runV (As := [.int 1]) (rest := []) ⟨hx_, hb, hml, hown, hts⟩ (c_controllerNumbered_1 l dC dI hx hc hh u0 u1 ea) (cwV 1 hts (gd_V wa_c k_ml_X0_35 k_im_X0_controllerNumbered k_se_X0_controllerNumbered k_in_X0 k_co_X0_controllerNumbered) rfl rfl rfl (by decide +kernel) ⟨Nat.le_of_ble_eq_true rfl, Nat.le_of_ble_eq_true rfl⟩) (xr_preV (q0 := 0) (C := RX0) hK hP hZ rfl rfl) rfl rfl hl.1 rfl (lv_room (Nat.le_of_ble_eq_true rfl)) dX0_about_2 ⟨Nat.zero_le _, Nat.zero_le _⟩) rfl ?_
  refine lv_astore_n (lv' := [(3, .ref hh), (0, .ref hx), (1, .int 1), (2, .int 2)]) hx_ hb dX0_about_5 rfl hl (by decide) rfl (fun ls hl => ?_)
  refine lv_iload_n hx_ hb dX0_about_6 rfl (lv_at hl 3 rfl) ?_
  refine lv_tableIn (tgt := 62) hx_ hb dX0_about_7 (by decide) (by decide) (by rfl) (by decide) ?_
  refine lv_aload_n hx_ hb dX0_about_62 rfl (lv_at hl 0 rfl) ?_
  refine va_getN (D := (dC, dI)) (ci := 1) (v := .int (u1 4)) (C := RX1) (T := TX1) (N := 19) hx_ hb hts hin_RX1 hown hK hP 2 rfl rfl 4 (by decide) hlk_55 (fun _ h9 => h9) rfl dX0_about_63 ?_
  exact xr_iret hx_ hb hr hlocks dX0_about_66 rfl

set_option maxHeartbeats 4000000 in
set_option maxRecDepth 100000 in
theorem c_about_1_3 (l : Launch) (dC : Nat → ClassId) (dI : Nat → Nat → Nat) (hx hc hh : Nat) (u0 u1 : Nat → Int32) (ea : Int32) : xr_M l yX0_about wsX0_about ({ frames := 1, cells := 0, slots := 0, locals := 21 }) [.ref hx, .int 1, .int 3] (dC, dI) vwCl [] pz (pw hx hc hh (u0, u1, ea)) (some (.int (u1 1))) := by
  refine Met.ofW (cc := cX0_about) (maxL := 4) (ret := (some .int)) (by decide) rfl ?_
  intro p e s m args below meth c s₁ B hml hv
  obtain ⟨rfl, hP, hK, hZ⟩ := hv
  have hx_ := B.exec
  have hb := B.bytes
  have hr := B.returns
  have hts := atoms_spec (ws := wsX0_about) B.pre
  have hown : s.vm.findClass RX0 = some m.cls := findClass_of_methodNamed B.named
  have hlocks := B.notSynchronized
  have hin_RX1 : ∀ w ∈ u_ws RX1 TX1 19, w ∈ wsX0_about := fun w h => List.mem_cons_of_mem _ (u_X1 w h)
  have hlk_55 := hZ.use (w := .fieldLinkNest RX0 55 "LinePair$Controller" "masked" "I" "LinePair") (by decide +kernel) (a := ([.ref hx, .int 1, .int 3]).toArray)
  have hlk_74 := hZ.use (w := .fieldLinkNest RX0 74 "LinePair$Controller" "inService" "I" "LinePair") (by decide +kernel) (a := ([.ref hx, .int 1, .int 3]).toArray)
  have hlk_77 := hZ.use (w := .fieldLinkNest RX0 77 "LinePair$Controller" "up" "I" "LinePair") (by decide +kernel) (a := ([.ref hx, .int 1, .int 3]).toArray)
  have hlk_80 := hZ.use (w := .fieldLinkNest RX0 80 "LinePair$Controller" "lowest" "I" "LinePair") (by decide +kernel) (a := ([.ref hx, .int 1, .int 3]).toArray)
  have hlk_83 := hZ.use (w := .fieldLinkNest RX0 83 "LinePair$Controller" "base" "I" "LinePair") (by decide +kernel) (a := ([.ref hx, .int 1, .int 3]).toArray)
  have hlk_86 := hZ.use (w := .fieldLinkNest RX0 86 "LinePair$Controller" "awaited" "I" "LinePair") (by decide +kernel) (a := ([.ref hx, .int 1, .int 3]).toArray)
  have hlk_89 := hZ.use (w := .fieldLinkNest RX0 89 "LinePair$Controller" "readChoice" "I" "LinePair") (by decide +kernel) (a := ([.ref hx, .int 1, .int 3]).toArray)
  have hml_71 : va_Nw (.methodLinkNest RX0 71 yX1_requested "LinePair") s := hZ.2 _ (by decide +kernel)
  have hl := lv_entry ([.ref hx, .int 1, .int 3]) (n := 4) (Nat.le_of_ble_eq_true rfl)
  rw [lg_entry_eq]
  generalize (lg_sl ([.ref hx, .int 1, .int 3]) ++ List.replicate (4 - (lg_sl ([.ref hx, .int 1, .int 3])).length) Slot.unset).toArray = ls at hl ⊢
  have hl : lv_has ls 4 [(0, .ref hx), (1, .int 1), (2, .int 3)] := hl
  refine lv_aload_n hx_ hb dX0_about_0 rfl (lv_at hl 0 rfl) ?_
  refine lv_iload_n hx_ hb dX0_about_1 rfl (lv_at hl 1 rfl) ?_
  refine xr_call (st1 := [.ref hh]) (W.runV (As := [.int 1]) (rest := []) ⟨hx_, hb, hml, hown, hts⟩ (c_controllerNumbered_1 l dC dI hx hc hh u0 u1 ea) (cwV 1 hts (gd_V wa_c k_ml_X0_35 k_im_X0_controllerNumbered k_se_X0_controllerNumbered k_in_X0 k_co_X0_controllerNumbered) rfl rfl rfl (by decide +kernel) ⟨Nat.le_of_ble_eq_true rfl, Nat.le_of_ble_eq_true rfl⟩) (xr_preV (q0 := 0) (C := RX0) hK hP hZ rfl rfl) rfl rfl hl.1 rfl (lv_room (Nat.le_of_ble_eq_true rfl)) dX0_about_2 ⟨Nat.zero_le _, Nat.zero_le _⟩) rfl ?_
  refine lv_astore_n (lv' := [(3, .ref hh), (0, .ref hx), (1, .int 1), (2, .int 3)]) hx_ hb dX0_about_5 rfl hl (by decide) rfl (fun ls hl => ?_)
  refine lv_iload_n hx_ hb dX0_about_6 rfl (lv_at hl 3 rfl) ?_
  refine lv_tableIn (tgt := 67) hx_ hb dX0_about_7 (by decide) (by decide) (by rfl) (by decide) ?_
  refine lv_aload_n hx_ hb dX0_about_67 rfl (lv_at hl 0 rfl) ?_
  refine va_getN (D := (dC, dI)) (ci := 1) (v := .int (u1 1)) (C := RX1) (T := TX1) (N := 19) hx_ hb hts hin_RX1 hown hK hP 2 rfl rfl 1 (by decide) hlk_77 (fun _ h9 => h9) rfl dX0_about_68 ?_
  exact xr_iret hx_ hb hr hlocks dX0_about_71 rfl

set_option maxHeartbeats 4000000 in
set_option maxRecDepth 100000 in
theorem c_about_1_4 (l : Launch) (dC : Nat → ClassId) (dI : Nat → Nat → Nat) (hx hc hh : Nat) (u0 u1 : Nat → Int32) (ea : Int32) : xr_M l yX0_about wsX0_about ({ frames := 1, cells := 0, slots := 0, locals := 21 }) [.ref hx, .int 1, .int 4] (dC, dI) vwCl [] pz (pw hx hc hh (u0, u1, ea)) (some (.int (u1 5))) := by
  refine Met.ofW (cc := cX0_about) (maxL := 4) (ret := (some .int)) (by decide) rfl ?_
  intro p e s m args below meth c s₁ B hml hv
  obtain ⟨rfl, hP, hK, hZ⟩ := hv
  have hx_ := B.exec
  have hb := B.bytes
  have hr := B.returns
  have hts := atoms_spec (ws := wsX0_about) B.pre
  have hown : s.vm.findClass RX0 = some m.cls := findClass_of_methodNamed B.named
  have hlocks := B.notSynchronized
  have hin_RX1 : ∀ w ∈ u_ws RX1 TX1 19, w ∈ wsX0_about := fun w h => List.mem_cons_of_mem _ (u_X1 w h)
  have hlk_55 := hZ.use (w := .fieldLinkNest RX0 55 "LinePair$Controller" "masked" "I" "LinePair") (by decide +kernel) (a := ([.ref hx, .int 1, .int 4]).toArray)
  have hlk_74 := hZ.use (w := .fieldLinkNest RX0 74 "LinePair$Controller" "inService" "I" "LinePair") (by decide +kernel) (a := ([.ref hx, .int 1, .int 4]).toArray)
  have hlk_77 := hZ.use (w := .fieldLinkNest RX0 77 "LinePair$Controller" "up" "I" "LinePair") (by decide +kernel) (a := ([.ref hx, .int 1, .int 4]).toArray)
  have hlk_80 := hZ.use (w := .fieldLinkNest RX0 80 "LinePair$Controller" "lowest" "I" "LinePair") (by decide +kernel) (a := ([.ref hx, .int 1, .int 4]).toArray)
  have hlk_83 := hZ.use (w := .fieldLinkNest RX0 83 "LinePair$Controller" "base" "I" "LinePair") (by decide +kernel) (a := ([.ref hx, .int 1, .int 4]).toArray)
  have hlk_86 := hZ.use (w := .fieldLinkNest RX0 86 "LinePair$Controller" "awaited" "I" "LinePair") (by decide +kernel) (a := ([.ref hx, .int 1, .int 4]).toArray)
  have hlk_89 := hZ.use (w := .fieldLinkNest RX0 89 "LinePair$Controller" "readChoice" "I" "LinePair") (by decide +kernel) (a := ([.ref hx, .int 1, .int 4]).toArray)
  have hml_71 : va_Nw (.methodLinkNest RX0 71 yX1_requested "LinePair") s := hZ.2 _ (by decide +kernel)
  have hl := lv_entry ([.ref hx, .int 1, .int 4]) (n := 4) (Nat.le_of_ble_eq_true rfl)
  rw [lg_entry_eq]
  generalize (lg_sl ([.ref hx, .int 1, .int 4]) ++ List.replicate (4 - (lg_sl ([.ref hx, .int 1, .int 4])).length) Slot.unset).toArray = ls at hl ⊢
  have hl : lv_has ls 4 [(0, .ref hx), (1, .int 1), (2, .int 4)] := hl
  refine lv_aload_n hx_ hb dX0_about_0 rfl (lv_at hl 0 rfl) ?_
  refine lv_iload_n hx_ hb dX0_about_1 rfl (lv_at hl 1 rfl) ?_
  refine xr_call (st1 := [.ref hh]) (W.runV (As := [.int 1]) (rest := []) ⟨hx_, hb, hml, hown, hts⟩ (c_controllerNumbered_1 l dC dI hx hc hh u0 u1 ea) (cwV 1 hts (gd_V wa_c k_ml_X0_35 k_im_X0_controllerNumbered k_se_X0_controllerNumbered k_in_X0 k_co_X0_controllerNumbered) rfl rfl rfl (by decide +kernel) ⟨Nat.le_of_ble_eq_true rfl, Nat.le_of_ble_eq_true rfl⟩) (xr_preV (q0 := 0) (C := RX0) hK hP hZ rfl rfl) rfl rfl hl.1 rfl (lv_room (Nat.le_of_ble_eq_true rfl)) dX0_about_2 ⟨Nat.zero_le _, Nat.zero_le _⟩) rfl ?_
  refine lv_astore_n (lv' := [(3, .ref hh), (0, .ref hx), (1, .int 1), (2, .int 4)]) hx_ hb dX0_about_5 rfl hl (by decide) rfl (fun ls hl => ?_)
  refine lv_iload_n hx_ hb dX0_about_6 rfl (lv_at hl 3 rfl) ?_
  refine lv_tableIn (tgt := 72) hx_ hb dX0_about_7 (by decide) (by decide) (by rfl) (by decide) ?_
  refine lv_aload_n hx_ hb dX0_about_72 rfl (lv_at hl 0 rfl) ?_
  refine va_getN (D := (dC, dI)) (ci := 1) (v := .int (u1 5)) (C := RX1) (T := TX1) (N := 19) hx_ hb hts hin_RX1 hown hK hP 2 rfl rfl 5 (by decide) hlk_80 (fun _ h9 => h9) rfl dX0_about_73 ?_
  exact xr_iret hx_ hb hr hlocks dX0_about_76 rfl

set_option maxHeartbeats 4000000 in
set_option maxRecDepth 100000 in
theorem c_about_1_5 (l : Launch) (dC : Nat → ClassId) (dI : Nat → Nat → Nat) (hx hc hh : Nat) (u0 u1 : Nat → Int32) (ea : Int32) : xr_M l yX0_about wsX0_about ({ frames := 1, cells := 0, slots := 0, locals := 21 }) [.ref hx, .int 1, .int 5] (dC, dI) vwCl [] pz (pw hx hc hh (u0, u1, ea)) (some (.int (u1 6))) := by
  refine Met.ofW (cc := cX0_about) (maxL := 4) (ret := (some .int)) (by decide) rfl ?_
  intro p e s m args below meth c s₁ B hml hv
  obtain ⟨rfl, hP, hK, hZ⟩ := hv
  have hx_ := B.exec
  have hb := B.bytes
  have hr := B.returns
  have hts := atoms_spec (ws := wsX0_about) B.pre
  have hown : s.vm.findClass RX0 = some m.cls := findClass_of_methodNamed B.named
  have hlocks := B.notSynchronized
  have hin_RX1 : ∀ w ∈ u_ws RX1 TX1 19, w ∈ wsX0_about := fun w h => List.mem_cons_of_mem _ (u_X1 w h)
  have hlk_55 := hZ.use (w := .fieldLinkNest RX0 55 "LinePair$Controller" "masked" "I" "LinePair") (by decide +kernel) (a := ([.ref hx, .int 1, .int 5]).toArray)
  have hlk_74 := hZ.use (w := .fieldLinkNest RX0 74 "LinePair$Controller" "inService" "I" "LinePair") (by decide +kernel) (a := ([.ref hx, .int 1, .int 5]).toArray)
  have hlk_77 := hZ.use (w := .fieldLinkNest RX0 77 "LinePair$Controller" "up" "I" "LinePair") (by decide +kernel) (a := ([.ref hx, .int 1, .int 5]).toArray)
  have hlk_80 := hZ.use (w := .fieldLinkNest RX0 80 "LinePair$Controller" "lowest" "I" "LinePair") (by decide +kernel) (a := ([.ref hx, .int 1, .int 5]).toArray)
  have hlk_83 := hZ.use (w := .fieldLinkNest RX0 83 "LinePair$Controller" "base" "I" "LinePair") (by decide +kernel) (a := ([.ref hx, .int 1, .int 5]).toArray)
  have hlk_86 := hZ.use (w := .fieldLinkNest RX0 86 "LinePair$Controller" "awaited" "I" "LinePair") (by decide +kernel) (a := ([.ref hx, .int 1, .int 5]).toArray)
  have hlk_89 := hZ.use (w := .fieldLinkNest RX0 89 "LinePair$Controller" "readChoice" "I" "LinePair") (by decide +kernel) (a := ([.ref hx, .int 1, .int 5]).toArray)
  have hml_71 : va_Nw (.methodLinkNest RX0 71 yX1_requested "LinePair") s := hZ.2 _ (by decide +kernel)
  have hl := lv_entry ([.ref hx, .int 1, .int 5]) (n := 4) (Nat.le_of_ble_eq_true rfl)
  rw [lg_entry_eq]
  generalize (lg_sl ([.ref hx, .int 1, .int 5]) ++ List.replicate (4 - (lg_sl ([.ref hx, .int 1, .int 5])).length) Slot.unset).toArray = ls at hl ⊢
  have hl : lv_has ls 4 [(0, .ref hx), (1, .int 1), (2, .int 5)] := hl
  refine lv_aload_n hx_ hb dX0_about_0 rfl (lv_at hl 0 rfl) ?_
  refine lv_iload_n hx_ hb dX0_about_1 rfl (lv_at hl 1 rfl) ?_
  refine xr_call (st1 := [.ref hh]) (W.runV (As := [.int 1]) (rest := []) ⟨hx_, hb, hml, hown, hts⟩ (c_controllerNumbered_1 l dC dI hx hc hh u0 u1 ea) (cwV 1 hts (gd_V wa_c k_ml_X0_35 k_im_X0_controllerNumbered k_se_X0_controllerNumbered k_in_X0 k_co_X0_controllerNumbered) rfl rfl rfl (by decide +kernel) ⟨Nat.le_of_ble_eq_true rfl, Nat.le_of_ble_eq_true rfl⟩) (xr_preV (q0 := 0) (C := RX0) hK hP hZ rfl rfl) rfl rfl hl.1 rfl (lv_room (Nat.le_of_ble_eq_true rfl)) dX0_about_2 ⟨Nat.zero_le _, Nat.zero_le _⟩) rfl ?_
  refine lv_astore_n (lv' := [(3, .ref hh), (0, .ref hx), (1, .int 1), (2, .int 5)]) hx_ hb dX0_about_5 rfl hl (by decide) rfl (fun ls hl => ?_)
  refine lv_iload_n hx_ hb dX0_about_6 rfl (lv_at hl 3 rfl) ?_
  refine lv_tableIn (tgt := 77) hx_ hb dX0_about_7 (by decide) (by decide) (by rfl) (by decide) ?_
  refine lv_aload_n hx_ hb dX0_about_77 rfl (lv_at hl 0 rfl) ?_
  refine va_getN (D := (dC, dI)) (ci := 1) (v := .int (u1 6)) (C := RX1) (T := TX1) (N := 19) hx_ hb hts hin_RX1 hown hK hP 2 rfl rfl 6 (by decide) hlk_83 (fun _ h9 => h9) rfl dX0_about_78 ?_
  exact xr_iret hx_ hb hr hlocks dX0_about_81 rfl

set_option maxHeartbeats 4000000 in
set_option maxRecDepth 100000 in
theorem c_about_1_6 (l : Launch) (dC : Nat → ClassId) (dI : Nat → Nat → Nat) (hx hc hh : Nat) (u0 u1 : Nat → Int32) (ea : Int32) : xr_M l yX0_about wsX0_about ({ frames := 1, cells := 0, slots := 0, locals := 21 }) [.ref hx, .int 1, .int 6] (dC, dI) vwCl [] pz (pw hx hc hh (u0, u1, ea)) (some (.int (u1 7))) := by
  refine Met.ofW (cc := cX0_about) (maxL := 4) (ret := (some .int)) (by decide) rfl ?_
  intro p e s m args below meth c s₁ B hml hv
  obtain ⟨rfl, hP, hK, hZ⟩ := hv
  have hx_ := B.exec
  have hb := B.bytes
  have hr := B.returns
  have hts := atoms_spec (ws := wsX0_about) B.pre
  have hown : s.vm.findClass RX0 = some m.cls := findClass_of_methodNamed B.named
  have hlocks := B.notSynchronized
  have hin_RX1 : ∀ w ∈ u_ws RX1 TX1 19, w ∈ wsX0_about := fun w h => List.mem_cons_of_mem _ (u_X1 w h)
  have hlk_55 := hZ.use (w := .fieldLinkNest RX0 55 "LinePair$Controller" "masked" "I" "LinePair") (by decide +kernel) (a := ([.ref hx, .int 1, .int 6]).toArray)
  have hlk_74 := hZ.use (w := .fieldLinkNest RX0 74 "LinePair$Controller" "inService" "I" "LinePair") (by decide +kernel) (a := ([.ref hx, .int 1, .int 6]).toArray)
  have hlk_77 := hZ.use (w := .fieldLinkNest RX0 77 "LinePair$Controller" "up" "I" "LinePair") (by decide +kernel) (a := ([.ref hx, .int 1, .int 6]).toArray)
  have hlk_80 := hZ.use (w := .fieldLinkNest RX0 80 "LinePair$Controller" "lowest" "I" "LinePair") (by decide +kernel) (a := ([.ref hx, .int 1, .int 6]).toArray)
  have hlk_83 := hZ.use (w := .fieldLinkNest RX0 83 "LinePair$Controller" "base" "I" "LinePair") (by decide +kernel) (a := ([.ref hx, .int 1, .int 6]).toArray)
  have hlk_86 := hZ.use (w := .fieldLinkNest RX0 86 "LinePair$Controller" "awaited" "I" "LinePair") (by decide +kernel) (a := ([.ref hx, .int 1, .int 6]).toArray)
  have hlk_89 := hZ.use (w := .fieldLinkNest RX0 89 "LinePair$Controller" "readChoice" "I" "LinePair") (by decide +kernel) (a := ([.ref hx, .int 1, .int 6]).toArray)
  have hml_71 : va_Nw (.methodLinkNest RX0 71 yX1_requested "LinePair") s := hZ.2 _ (by decide +kernel)
  have hl := lv_entry ([.ref hx, .int 1, .int 6]) (n := 4) (Nat.le_of_ble_eq_true rfl)
  rw [lg_entry_eq]
  generalize (lg_sl ([.ref hx, .int 1, .int 6]) ++ List.replicate (4 - (lg_sl ([.ref hx, .int 1, .int 6])).length) Slot.unset).toArray = ls at hl ⊢
  have hl : lv_has ls 4 [(0, .ref hx), (1, .int 1), (2, .int 6)] := hl
  refine lv_aload_n hx_ hb dX0_about_0 rfl (lv_at hl 0 rfl) ?_
  refine lv_iload_n hx_ hb dX0_about_1 rfl (lv_at hl 1 rfl) ?_
  refine xr_call (st1 := [.ref hh]) (W.runV (As := [.int 1]) (rest := []) ⟨hx_, hb, hml, hown, hts⟩ (c_controllerNumbered_1 l dC dI hx hc hh u0 u1 ea) (cwV 1 hts (gd_V wa_c k_ml_X0_35 k_im_X0_controllerNumbered k_se_X0_controllerNumbered k_in_X0 k_co_X0_controllerNumbered) rfl rfl rfl (by decide +kernel) ⟨Nat.le_of_ble_eq_true rfl, Nat.le_of_ble_eq_true rfl⟩) (xr_preV (q0 := 0) (C := RX0) hK hP hZ rfl rfl) rfl rfl hl.1 rfl (lv_room (Nat.le_of_ble_eq_true rfl)) dX0_about_2 ⟨Nat.zero_le _, Nat.zero_le _⟩) rfl ?_
  refine lv_astore_n (lv' := [(3, .ref hh), (0, .ref hx), (1, .int 1), (2, .int 6)]) hx_ hb dX0_about_5 rfl hl (by decide) rfl (fun ls hl => ?_)
  refine lv_iload_n hx_ hb dX0_about_6 rfl (lv_at hl 3 rfl) ?_
  refine lv_tableIn (tgt := 82) hx_ hb dX0_about_7 (by decide) (by decide) (by rfl) (by decide) ?_
  refine lv_aload_n hx_ hb dX0_about_82 rfl (lv_at hl 0 rfl) ?_
  refine va_getN (D := (dC, dI)) (ci := 1) (v := .int (u1 7)) (C := RX1) (T := TX1) (N := 19) hx_ hb hts hin_RX1 hown hK hP 2 rfl rfl 7 (by decide) hlk_86 (fun _ h9 => h9) rfl dX0_about_83 ?_
  exact xr_iret hx_ hb hr hlocks dX0_about_86 rfl

set_option maxHeartbeats 4000000 in
set_option maxRecDepth 100000 in
theorem c_about_1_7 (l : Launch) (dC : Nat → ClassId) (dI : Nat → Nat → Nat) (hx hc hh : Nat) (u0 u1 : Nat → Int32) (ea : Int32) : xr_M l yX0_about wsX0_about ({ frames := 1, cells := 0, slots := 0, locals := 21 }) [.ref hx, .int 1, .int 7] (dC, dI) vwCl [] pz (pw hx hc hh (u0, u1, ea)) (some (.int (u1 8))) := by
  refine Met.ofW (cc := cX0_about) (maxL := 4) (ret := (some .int)) (by decide) rfl ?_
  intro p e s m args below meth c s₁ B hml hv
  obtain ⟨rfl, hP, hK, hZ⟩ := hv
  have hx_ := B.exec
  have hb := B.bytes
  have hr := B.returns
  have hts := atoms_spec (ws := wsX0_about) B.pre
  have hown : s.vm.findClass RX0 = some m.cls := findClass_of_methodNamed B.named
  have hlocks := B.notSynchronized
  have hin_RX1 : ∀ w ∈ u_ws RX1 TX1 19, w ∈ wsX0_about := fun w h => List.mem_cons_of_mem _ (u_X1 w h)
  have hlk_55 := hZ.use (w := .fieldLinkNest RX0 55 "LinePair$Controller" "masked" "I" "LinePair") (by decide +kernel) (a := ([.ref hx, .int 1, .int 7]).toArray)
  have hlk_74 := hZ.use (w := .fieldLinkNest RX0 74 "LinePair$Controller" "inService" "I" "LinePair") (by decide +kernel) (a := ([.ref hx, .int 1, .int 7]).toArray)
  have hlk_77 := hZ.use (w := .fieldLinkNest RX0 77 "LinePair$Controller" "up" "I" "LinePair") (by decide +kernel) (a := ([.ref hx, .int 1, .int 7]).toArray)
  have hlk_80 := hZ.use (w := .fieldLinkNest RX0 80 "LinePair$Controller" "lowest" "I" "LinePair") (by decide +kernel) (a := ([.ref hx, .int 1, .int 7]).toArray)
  have hlk_83 := hZ.use (w := .fieldLinkNest RX0 83 "LinePair$Controller" "base" "I" "LinePair") (by decide +kernel) (a := ([.ref hx, .int 1, .int 7]).toArray)
  have hlk_86 := hZ.use (w := .fieldLinkNest RX0 86 "LinePair$Controller" "awaited" "I" "LinePair") (by decide +kernel) (a := ([.ref hx, .int 1, .int 7]).toArray)
  have hlk_89 := hZ.use (w := .fieldLinkNest RX0 89 "LinePair$Controller" "readChoice" "I" "LinePair") (by decide +kernel) (a := ([.ref hx, .int 1, .int 7]).toArray)
  have hml_71 : va_Nw (.methodLinkNest RX0 71 yX1_requested "LinePair") s := hZ.2 _ (by decide +kernel)
  have hl := lv_entry ([.ref hx, .int 1, .int 7]) (n := 4) (Nat.le_of_ble_eq_true rfl)
  rw [lg_entry_eq]
  generalize (lg_sl ([.ref hx, .int 1, .int 7]) ++ List.replicate (4 - (lg_sl ([.ref hx, .int 1, .int 7])).length) Slot.unset).toArray = ls at hl ⊢
  have hl : lv_has ls 4 [(0, .ref hx), (1, .int 1), (2, .int 7)] := hl
  refine lv_aload_n hx_ hb dX0_about_0 rfl (lv_at hl 0 rfl) ?_
  refine lv_iload_n hx_ hb dX0_about_1 rfl (lv_at hl 1 rfl) ?_
  refine xr_call (st1 := [.ref hh]) (W.runV (As := [.int 1]) (rest := []) ⟨hx_, hb, hml, hown, hts⟩ (c_controllerNumbered_1 l dC dI hx hc hh u0 u1 ea) (cwV 1 hts (gd_V wa_c k_ml_X0_35 k_im_X0_controllerNumbered k_se_X0_controllerNumbered k_in_X0 k_co_X0_controllerNumbered) rfl rfl rfl (by decide +kernel) ⟨Nat.le_of_ble_eq_true rfl, Nat.le_of_ble_eq_true rfl⟩) (xr_preV (q0 := 0) (C := RX0) hK hP hZ rfl rfl) rfl rfl hl.1 rfl (lv_room (Nat.le_of_ble_eq_true rfl)) dX0_about_2 ⟨Nat.zero_le _, Nat.zero_le _⟩) rfl ?_
  refine lv_astore_n (lv' := [(3, .ref hh), (0, .ref hx), (1, .int 1), (2, .int 7)]) hx_ hb dX0_about_5 rfl hl (by decide) rfl (fun ls hl => ?_)
  refine lv_iload_n hx_ hb dX0_about_6 rfl (lv_at hl 3 rfl) ?_
  refine lv_tableIn (tgt := 87) hx_ hb dX0_about_7 (by decide) (by decide) (by rfl) (by decide) ?_
  refine lv_aload_n hx_ hb dX0_about_87 rfl (lv_at hl 0 rfl) ?_
  refine va_getN (D := (dC, dI)) (ci := 1) (v := .int (u1 8)) (C := RX1) (T := TX1) (N := 19) hx_ hb hts hin_RX1 hown hK hP 2 rfl rfl 8 (by decide) hlk_89 (fun _ h9 => h9) rfl dX0_about_88 ?_
  exact xr_iret hx_ hb hr hlocks dX0_about_91 rfl

set_option maxHeartbeats 4000000 in
set_option maxRecDepth 100000 in
theorem c_mode_1_0 (l : Launch) (dC : Nat → ClassId) (dI : Nat → Nat → Nat) (hx hc hh : Nat) (u0 u1 : Nat → Int32) (ea : Int32) (hok1 : lpOk u1) : xr_M l yX0_mode wsX0_mode ({ frames := 1, cells := 0, slots := 0, locals := 21 }) [.ref hx, .int 1, .int 0] (dC, dI) vwCl [] pz (pw hx hc hh (u0, u1, ea)) (some (.int (u1 10))) := by
  refine Met.ofW (cc := cX0_mode) (maxL := 4) (ret := (some .boolean)) (by decide) rfl ?_
  intro p e s m args below meth c s₁ B hml hv
  obtain ⟨rfl, hP, hK, hZ⟩ := hv
  have hx_ := B.exec
  have hb := B.bytes
  have hr := B.returns
  have hts := atoms_spec (ws := wsX0_mode) B.pre
  have hown : s.vm.findClass RX0 = some m.cls := findClass_of_methodNamed B.named
  have hlocks := B.notSynchronized
  have hin_RX1 : ∀ w ∈ u_ws RX1 TX1 19, w ∈ wsX0_mode := fun w h => List.mem_cons_of_mem _ (u_X1 w h)
  have hlk_92 := hZ.use (w := .fieldLinkNest RX0 92 "LinePair$Controller" "ready" "Z" "LinePair") (by decide +kernel) (a := ([.ref hx, .int 1, .int 0]).toArray)
  have hlk_96 := hZ.use (w := .fieldLinkNest RX0 96 "LinePair$Controller" "byLevels" "Z" "LinePair") (by decide +kernel) (a := ([.ref hx, .int 1, .int 0]).toArray)
  have hlk_99 := hZ.use (w := .fieldLinkNest RX0 99 "LinePair$Controller" "specialMask" "Z" "LinePair") (by decide +kernel) (a := ([.ref hx, .int 1, .int 0]).toArray)
  have hlk_102 := hZ.use (w := .fieldLinkNest RX0 102 "LinePair$Controller" "specialNesting" "Z" "LinePair") (by decide +kernel) (a := ([.ref hx, .int 1, .int 0]).toArray)
  have hlk_105 := hZ.use (w := .fieldLinkNest RX0 105 "LinePair$Controller" "endsAtOnce" "Z" "LinePair") (by decide +kernel) (a := ([.ref hx, .int 1, .int 0]).toArray)
  have hlk_108 := hZ.use (w := .fieldLinkNest RX0 108 "LinePair$Controller" "turnsAtOnce" "Z" "LinePair") (by decide +kernel) (a := ([.ref hx, .int 1, .int 0]).toArray)
  have hlk_111 := hZ.use (w := .fieldLinkNest RX0 111 "LinePair$Controller" "pollWaits" "Z" "LinePair") (by decide +kernel) (a := ([.ref hx, .int 1, .int 0]).toArray)
  have hl := lv_entry ([.ref hx, .int 1, .int 0]) (n := 4) (Nat.le_of_ble_eq_true rfl)
  rw [lg_entry_eq]
  generalize (lg_sl ([.ref hx, .int 1, .int 0]) ++ List.replicate (4 - (lg_sl ([.ref hx, .int 1, .int 0])).length) Slot.unset).toArray = ls at hl ⊢
  have hl : lv_has ls 4 [(0, .ref hx), (1, .int 1), (2, .int 0)] := hl
  refine lv_aload_n hx_ hb dX0_mode_0 rfl (lv_at hl 0 rfl) ?_
  refine lv_iload_n hx_ hb dX0_mode_1 rfl (lv_at hl 1 rfl) ?_
  refine xr_call (st1 := [.ref hh]) (W.runV (As := [.int 1]) (rest := []) ⟨hx_, hb, hml, hown, hts⟩ (c_controllerNumbered_1 l dC dI hx hc hh u0 u1 ea) (cwV 1 hts (gd_V wa_c k_ml_X0_35 k_im_X0_controllerNumbered k_se_X0_controllerNumbered k_in_X0 k_co_X0_controllerNumbered) rfl rfl rfl (by decide +kernel) ⟨Nat.le_of_ble_eq_true rfl, Nat.le_of_ble_eq_true rfl⟩) (xr_preV (q0 := 0) (C := RX0) hK hP hZ rfl rfl) rfl rfl hl.1 rfl (lv_room (Nat.le_of_ble_eq_true rfl)) dX0_mode_2 ⟨Nat.zero_le _, Nat.zero_le _⟩) rfl ?_
  refine lv_astore_n (lv' := [(3, .ref hh), (0, .ref hx), (1, .int 1), (2, .int 0)]) hx_ hb dX0_mode_5 rfl hl (by decide) rfl (fun ls hl => ?_)
  refine lv_iload_n hx_ hb dX0_mode_6 rfl (lv_at hl 3 rfl) ?_
  refine lv_tableIn (tgt := 48) hx_ hb dX0_mode_7 (by decide) (by decide) (by rfl) (by decide) ?_
  refine lv_aload_n hx_ hb dX0_mode_48 rfl (lv_at hl 0 rfl) ?_
  refine va_getN (D := (dC, dI)) (ci := 1) (v := .int (u1 10)) (C := RX1) (T := TX1) (N := 19) hx_ hb hts hin_RX1 hown hK hP 2 rfl rfl 10 (by decide) hlk_92 (fun _ h9 => h9) rfl dX0_mode_49 ?_
  exact xr_zret hx_ hb hr hlocks dX0_mode_52 (lpOk_nar hok1 10 (by decide)) rfl

set_option maxHeartbeats 4000000 in
set_option maxRecDepth 100000 in
theorem c_mode_1_1 (l : Launch) (dC : Nat → ClassId) (dI : Nat → Nat → Nat) (hx hc hh : Nat) (u0 u1 : Nat → Int32) (ea : Int32) (hok1 : lpOk u1) : xr_M l yX0_mode wsX0_mode ({ frames := 1, cells := 0, slots := 0, locals := 21 }) [.ref hx, .int 1, .int 1] (dC, dI) vwCl [] pz (pw hx hc hh (u0, u1, ea)) (some (.int (u1 11))) := by
  refine Met.ofW (cc := cX0_mode) (maxL := 4) (ret := (some .boolean)) (by decide) rfl ?_
  intro p e s m args below meth c s₁ B hml hv
  obtain ⟨rfl, hP, hK, hZ⟩ := hv
  have hx_ := B.exec
  have hb := B.bytes
  have hr := B.returns
  have hts := atoms_spec (ws := wsX0_mode) B.pre
  have hown : s.vm.findClass RX0 = some m.cls := findClass_of_methodNamed B.named
  have hlocks := B.notSynchronized
  have hin_RX1 : ∀ w ∈ u_ws RX1 TX1 19, w ∈ wsX0_mode := fun w h => List.mem_cons_of_mem _ (u_X1 w h)
  have hlk_92 := hZ.use (w := .fieldLinkNest RX0 92 "LinePair$Controller" "ready" "Z" "LinePair") (by decide +kernel) (a := ([.ref hx, .int 1, .int 1]).toArray)
  have hlk_96 := hZ.use (w := .fieldLinkNest RX0 96 "LinePair$Controller" "byLevels" "Z" "LinePair") (by decide +kernel) (a := ([.ref hx, .int 1, .int 1]).toArray)
  have hlk_99 := hZ.use (w := .fieldLinkNest RX0 99 "LinePair$Controller" "specialMask" "Z" "LinePair") (by decide +kernel) (a := ([.ref hx, .int 1, .int 1]).toArray)
  have hlk_102 := hZ.use (w := .fieldLinkNest RX0 102 "LinePair$Controller" "specialNesting" "Z" "LinePair") (by decide +kernel) (a := ([.ref hx, .int 1, .int 1]).toArray)
  have hlk_105 := hZ.use (w := .fieldLinkNest RX0 105 "LinePair$Controller" "endsAtOnce" "Z" "LinePair") (by decide +kernel) (a := ([.ref hx, .int 1, .int 1]).toArray)
  have hlk_108 := hZ.use (w := .fieldLinkNest RX0 108 "LinePair$Controller" "turnsAtOnce" "Z" "LinePair") (by decide +kernel) (a := ([.ref hx, .int 1, .int 1]).toArray)
  have hlk_111 := hZ.use (w := .fieldLinkNest RX0 111 "LinePair$Controller" "pollWaits" "Z" "LinePair") (by decide +kernel) (a := ([.ref hx, .int 1, .int 1]).toArray)
  have hl := lv_entry ([.ref hx, .int 1, .int 1]) (n := 4) (Nat.le_of_ble_eq_true rfl)
  rw [lg_entry_eq]
  generalize (lg_sl ([.ref hx, .int 1, .int 1]) ++ List.replicate (4 - (lg_sl ([.ref hx, .int 1, .int 1])).length) Slot.unset).toArray = ls at hl ⊢
  have hl : lv_has ls 4 [(0, .ref hx), (1, .int 1), (2, .int 1)] := hl
  refine lv_aload_n hx_ hb dX0_mode_0 rfl (lv_at hl 0 rfl) ?_
  refine lv_iload_n hx_ hb dX0_mode_1 rfl (lv_at hl 1 rfl) ?_
  refine xr_call (st1 := [.ref hh]) (W.runV (As := [.int 1]) (rest := []) ⟨hx_, hb, hml, hown, hts⟩ (c_controllerNumbered_1 l dC dI hx hc hh u0 u1 ea) (cwV 1 hts (gd_V wa_c k_ml_X0_35 k_im_X0_controllerNumbered k_se_X0_controllerNumbered k_in_X0 k_co_X0_controllerNumbered) rfl rfl rfl (by decide +kernel) ⟨Nat.le_of_ble_eq_true rfl, Nat.le_of_ble_eq_true rfl⟩) (xr_preV (q0 := 0) (C := RX0) hK hP hZ rfl rfl) rfl rfl hl.1 rfl (lv_room (Nat.le_of_ble_eq_true rfl)) dX0_mode_2 ⟨Nat.zero_le _, Nat.zero_le _⟩) rfl ?_
  refine lv_astore_n (lv' := [(3, .ref hh), (0, .ref hx), (1, .int 1), (2, .int 1)]) hx_ hb dX0_mode_5 rfl hl (by decide) rfl (fun ls hl => ?_)
  refine lv_iload_n hx_ hb dX0_mode_6 rfl (lv_at hl 3 rfl) ?_
  refine lv_tableIn (tgt := 53) hx_ hb dX0_mode_7 (by decide) (by decide) (by rfl) (by decide) ?_
  refine lv_aload_n hx_ hb dX0_mode_53 rfl (lv_at hl 0 rfl) ?_
  refine va_getN (D := (dC, dI)) (ci := 1) (v := .int (u1 11)) (C := RX1) (T := TX1) (N := 19) hx_ hb hts hin_RX1 hown hK hP 2 rfl rfl 11 (by decide) hlk_96 (fun _ h9 => h9) rfl dX0_mode_54 ?_
  exact xr_zret hx_ hb hr hlocks dX0_mode_57 (lpOk_nar hok1 11 (by decide)) rfl

set_option maxHeartbeats 4000000 in
set_option maxRecDepth 100000 in
theorem c_mode_1_2 (l : Launch) (dC : Nat → ClassId) (dI : Nat → Nat → Nat) (hx hc hh : Nat) (u0 u1 : Nat → Int32) (ea : Int32) (hok1 : lpOk u1) : xr_M l yX0_mode wsX0_mode ({ frames := 1, cells := 0, slots := 0, locals := 21 }) [.ref hx, .int 1, .int 2] (dC, dI) vwCl [] pz (pw hx hc hh (u0, u1, ea)) (some (.int (u1 12))) := by
  refine Met.ofW (cc := cX0_mode) (maxL := 4) (ret := (some .boolean)) (by decide) rfl ?_
  intro p e s m args below meth c s₁ B hml hv
  obtain ⟨rfl, hP, hK, hZ⟩ := hv
  have hx_ := B.exec
  have hb := B.bytes
  have hr := B.returns
  have hts := atoms_spec (ws := wsX0_mode) B.pre
  have hown : s.vm.findClass RX0 = some m.cls := findClass_of_methodNamed B.named
  have hlocks := B.notSynchronized
  have hin_RX1 : ∀ w ∈ u_ws RX1 TX1 19, w ∈ wsX0_mode := fun w h => List.mem_cons_of_mem _ (u_X1 w h)
  have hlk_92 := hZ.use (w := .fieldLinkNest RX0 92 "LinePair$Controller" "ready" "Z" "LinePair") (by decide +kernel) (a := ([.ref hx, .int 1, .int 2]).toArray)
  have hlk_96 := hZ.use (w := .fieldLinkNest RX0 96 "LinePair$Controller" "byLevels" "Z" "LinePair") (by decide +kernel) (a := ([.ref hx, .int 1, .int 2]).toArray)
  have hlk_99 := hZ.use (w := .fieldLinkNest RX0 99 "LinePair$Controller" "specialMask" "Z" "LinePair") (by decide +kernel) (a := ([.ref hx, .int 1, .int 2]).toArray)
  have hlk_102 := hZ.use (w := .fieldLinkNest RX0 102 "LinePair$Controller" "specialNesting" "Z" "LinePair") (by decide +kernel) (a := ([.ref hx, .int 1, .int 2]).toArray)
  have hlk_105 := hZ.use (w := .fieldLinkNest RX0 105 "LinePair$Controller" "endsAtOnce" "Z" "LinePair") (by decide +kernel) (a := ([.ref hx, .int 1, .int 2]).toArray)
  have hlk_108 := hZ.use (w := .fieldLinkNest RX0 108 "LinePair$Controller" "turnsAtOnce" "Z" "LinePair") (by decide +kernel) (a := ([.ref hx, .int 1, .int 2]).toArray)
  have hlk_111 := hZ.use (w := .fieldLinkNest RX0 111 "LinePair$Controller" "pollWaits" "Z" "LinePair") (by decide +kernel) (a := ([.ref hx, .int 1, .int 2]).toArray)
  have hl := lv_entry ([.ref hx, .int 1, .int 2]) (n := 4) (Nat.le_of_ble_eq_true rfl)
  rw [lg_entry_eq]
  generalize (lg_sl ([.ref hx, .int 1, .int 2]) ++ List.replicate (4 - (lg_sl ([.ref hx, .int 1, .int 2])).length) Slot.unset).toArray = ls at hl ⊢
  have hl : lv_has ls 4 [(0, .ref hx), (1, .int 1), (2, .int 2)] := hl
  refine lv_aload_n hx_ hb dX0_mode_0 rfl (lv_at hl 0 rfl) ?_
  refine lv_iload_n hx_ hb dX0_mode_1 rfl (lv_at hl 1 rfl) ?_
  refine xr_call (st1 := [.ref hh]) (W.runV (As := [.int 1]) (rest := []) ⟨hx_, hb, hml, hown, hts⟩ (c_controllerNumbered_1 l dC dI hx hc hh u0 u1 ea) (cwV 1 hts (gd_V wa_c k_ml_X0_35 k_im_X0_controllerNumbered k_se_X0_controllerNumbered k_in_X0 k_co_X0_controllerNumbered) rfl rfl rfl (by decide +kernel) ⟨Nat.le_of_ble_eq_true rfl, Nat.le_of_ble_eq_true rfl⟩) (xr_preV (q0 := 0) (C := RX0) hK hP hZ rfl rfl) rfl rfl hl.1 rfl (lv_room (Nat.le_of_ble_eq_true rfl)) dX0_mode_2 ⟨Nat.zero_le _, Nat.zero_le _⟩) rfl ?_
  refine lv_astore_n (lv' := [(3, .ref hh), (0, .ref hx), (1, .int 1), (2, .int 2)]) hx_ hb dX0_mode_5 rfl hl (by decide) rfl (fun ls hl => ?_)
  refine lv_iload_n hx_ hb dX0_mode_6 rfl (lv_at hl 3 rfl) ?_
  refine lv_tableIn (tgt := 58) hx_ hb dX0_mode_7 (by decide) (by decide) (by rfl) (by decide) ?_
  refine lv_aload_n hx_ hb dX0_mode_58 rfl (lv_at hl 0 rfl) ?_
  refine va_getN (D := (dC, dI)) (ci := 1) (v := .int (u1 12)) (C := RX1) (T := TX1) (N := 19) hx_ hb hts hin_RX1 hown hK hP 2 rfl rfl 12 (by decide) hlk_99 (fun _ h9 => h9) rfl dX0_mode_59 ?_
  exact xr_zret hx_ hb hr hlocks dX0_mode_62 (lpOk_nar hok1 12 (by decide)) rfl

set_option maxHeartbeats 4000000 in
set_option maxRecDepth 100000 in
theorem c_mode_1_3 (l : Launch) (dC : Nat → ClassId) (dI : Nat → Nat → Nat) (hx hc hh : Nat) (u0 u1 : Nat → Int32) (ea : Int32) (hok1 : lpOk u1) : xr_M l yX0_mode wsX0_mode ({ frames := 1, cells := 0, slots := 0, locals := 21 }) [.ref hx, .int 1, .int 3] (dC, dI) vwCl [] pz (pw hx hc hh (u0, u1, ea)) (some (.int (u1 13))) := by
  refine Met.ofW (cc := cX0_mode) (maxL := 4) (ret := (some .boolean)) (by decide) rfl ?_
  intro p e s m args below meth c s₁ B hml hv
  obtain ⟨rfl, hP, hK, hZ⟩ := hv
  have hx_ := B.exec
  have hb := B.bytes
  have hr := B.returns
  have hts := atoms_spec (ws := wsX0_mode) B.pre
  have hown : s.vm.findClass RX0 = some m.cls := findClass_of_methodNamed B.named
  have hlocks := B.notSynchronized
  have hin_RX1 : ∀ w ∈ u_ws RX1 TX1 19, w ∈ wsX0_mode := fun w h => List.mem_cons_of_mem _ (u_X1 w h)
  have hlk_92 := hZ.use (w := .fieldLinkNest RX0 92 "LinePair$Controller" "ready" "Z" "LinePair") (by decide +kernel) (a := ([.ref hx, .int 1, .int 3]).toArray)
  have hlk_96 := hZ.use (w := .fieldLinkNest RX0 96 "LinePair$Controller" "byLevels" "Z" "LinePair") (by decide +kernel) (a := ([.ref hx, .int 1, .int 3]).toArray)
  have hlk_99 := hZ.use (w := .fieldLinkNest RX0 99 "LinePair$Controller" "specialMask" "Z" "LinePair") (by decide +kernel) (a := ([.ref hx, .int 1, .int 3]).toArray)
  have hlk_102 := hZ.use (w := .fieldLinkNest RX0 102 "LinePair$Controller" "specialNesting" "Z" "LinePair") (by decide +kernel) (a := ([.ref hx, .int 1, .int 3]).toArray)
  have hlk_105 := hZ.use (w := .fieldLinkNest RX0 105 "LinePair$Controller" "endsAtOnce" "Z" "LinePair") (by decide +kernel) (a := ([.ref hx, .int 1, .int 3]).toArray)
  have hlk_108 := hZ.use (w := .fieldLinkNest RX0 108 "LinePair$Controller" "turnsAtOnce" "Z" "LinePair") (by decide +kernel) (a := ([.ref hx, .int 1, .int 3]).toArray)
  have hlk_111 := hZ.use (w := .fieldLinkNest RX0 111 "LinePair$Controller" "pollWaits" "Z" "LinePair") (by decide +kernel) (a := ([.ref hx, .int 1, .int 3]).toArray)
  have hl := lv_entry ([.ref hx, .int 1, .int 3]) (n := 4) (Nat.le_of_ble_eq_true rfl)
  rw [lg_entry_eq]
  generalize (lg_sl ([.ref hx, .int 1, .int 3]) ++ List.replicate (4 - (lg_sl ([.ref hx, .int 1, .int 3])).length) Slot.unset).toArray = ls at hl ⊢
  have hl : lv_has ls 4 [(0, .ref hx), (1, .int 1), (2, .int 3)] := hl
  refine lv_aload_n hx_ hb dX0_mode_0 rfl (lv_at hl 0 rfl) ?_
  refine lv_iload_n hx_ hb dX0_mode_1 rfl (lv_at hl 1 rfl) ?_
  refine xr_call (st1 := [.ref hh]) (W.runV (As := [.int 1]) (rest := []) ⟨hx_, hb, hml, hown, hts⟩ (c_controllerNumbered_1 l dC dI hx hc hh u0 u1 ea) (cwV 1 hts (gd_V wa_c k_ml_X0_35 k_im_X0_controllerNumbered k_se_X0_controllerNumbered k_in_X0 k_co_X0_controllerNumbered) rfl rfl rfl (by decide +kernel) ⟨Nat.le_of_ble_eq_true rfl, Nat.le_of_ble_eq_true rfl⟩) (xr_preV (q0 := 0) (C := RX0) hK hP hZ rfl rfl) rfl rfl hl.1 rfl (lv_room (Nat.le_of_ble_eq_true rfl)) dX0_mode_2 ⟨Nat.zero_le _, Nat.zero_le _⟩) rfl ?_
  refine lv_astore_n (lv' := [(3, .ref hh), (0, .ref hx), (1, .int 1), (2, .int 3)]) hx_ hb dX0_mode_5 rfl hl (by decide) rfl (fun ls hl => ?_)
  refine lv_iload_n hx_ hb dX0_mode_6 rfl (lv_at hl 3 rfl) ?_
  refine lv_tableIn (tgt := 63) hx_ hb dX0_mode_7 (by decide) (by decide) (by rfl) (by decide) ?_
  refine lv_aload_n hx_ hb dX0_mode_63 rfl (lv_at hl 0 rfl) ?_
  refine va_getN (D := (dC, dI)) (ci := 1) (v := .int (u1 13)) (C := RX1) (T := TX1) (N := 19) hx_ hb hts hin_RX1 hown hK hP 2 rfl rfl 13 (by decide) hlk_102 (fun _ h9 => h9) rfl dX0_mode_64 ?_
  exact xr_zret hx_ hb hr hlocks dX0_mode_67 (lpOk_nar hok1 13 (by decide)) rfl

set_option maxHeartbeats 4000000 in
set_option maxRecDepth 100000 in
theorem c_mode_1_4 (l : Launch) (dC : Nat → ClassId) (dI : Nat → Nat → Nat) (hx hc hh : Nat) (u0 u1 : Nat → Int32) (ea : Int32) (hok1 : lpOk u1) : xr_M l yX0_mode wsX0_mode ({ frames := 1, cells := 0, slots := 0, locals := 21 }) [.ref hx, .int 1, .int 4] (dC, dI) vwCl [] pz (pw hx hc hh (u0, u1, ea)) (some (.int (u1 14))) := by
  refine Met.ofW (cc := cX0_mode) (maxL := 4) (ret := (some .boolean)) (by decide) rfl ?_
  intro p e s m args below meth c s₁ B hml hv
  obtain ⟨rfl, hP, hK, hZ⟩ := hv
  have hx_ := B.exec
  have hb := B.bytes
  have hr := B.returns
  have hts := atoms_spec (ws := wsX0_mode) B.pre
  have hown : s.vm.findClass RX0 = some m.cls := findClass_of_methodNamed B.named
  have hlocks := B.notSynchronized
  have hin_RX1 : ∀ w ∈ u_ws RX1 TX1 19, w ∈ wsX0_mode := fun w h => List.mem_cons_of_mem _ (u_X1 w h)
  have hlk_92 := hZ.use (w := .fieldLinkNest RX0 92 "LinePair$Controller" "ready" "Z" "LinePair") (by decide +kernel) (a := ([.ref hx, .int 1, .int 4]).toArray)
  have hlk_96 := hZ.use (w := .fieldLinkNest RX0 96 "LinePair$Controller" "byLevels" "Z" "LinePair") (by decide +kernel) (a := ([.ref hx, .int 1, .int 4]).toArray)
  have hlk_99 := hZ.use (w := .fieldLinkNest RX0 99 "LinePair$Controller" "specialMask" "Z" "LinePair") (by decide +kernel) (a := ([.ref hx, .int 1, .int 4]).toArray)
  have hlk_102 := hZ.use (w := .fieldLinkNest RX0 102 "LinePair$Controller" "specialNesting" "Z" "LinePair") (by decide +kernel) (a := ([.ref hx, .int 1, .int 4]).toArray)
  have hlk_105 := hZ.use (w := .fieldLinkNest RX0 105 "LinePair$Controller" "endsAtOnce" "Z" "LinePair") (by decide +kernel) (a := ([.ref hx, .int 1, .int 4]).toArray)
  have hlk_108 := hZ.use (w := .fieldLinkNest RX0 108 "LinePair$Controller" "turnsAtOnce" "Z" "LinePair") (by decide +kernel) (a := ([.ref hx, .int 1, .int 4]).toArray)
  have hlk_111 := hZ.use (w := .fieldLinkNest RX0 111 "LinePair$Controller" "pollWaits" "Z" "LinePair") (by decide +kernel) (a := ([.ref hx, .int 1, .int 4]).toArray)
  have hl := lv_entry ([.ref hx, .int 1, .int 4]) (n := 4) (Nat.le_of_ble_eq_true rfl)
  rw [lg_entry_eq]
  generalize (lg_sl ([.ref hx, .int 1, .int 4]) ++ List.replicate (4 - (lg_sl ([.ref hx, .int 1, .int 4])).length) Slot.unset).toArray = ls at hl ⊢
  have hl : lv_has ls 4 [(0, .ref hx), (1, .int 1), (2, .int 4)] := hl
  refine lv_aload_n hx_ hb dX0_mode_0 rfl (lv_at hl 0 rfl) ?_
  refine lv_iload_n hx_ hb dX0_mode_1 rfl (lv_at hl 1 rfl) ?_
  refine xr_call (st1 := [.ref hh]) (W.runV (As := [.int 1]) (rest := []) ⟨hx_, hb, hml, hown, hts⟩ (c_controllerNumbered_1 l dC dI hx hc hh u0 u1 ea) (cwV 1 hts (gd_V wa_c k_ml_X0_35 k_im_X0_controllerNumbered k_se_X0_controllerNumbered k_in_X0 k_co_X0_controllerNumbered) rfl rfl rfl (by decide +kernel) ⟨Nat.le_of_ble_eq_true rfl, Nat.le_of_ble_eq_true rfl⟩) (xr_preV (q0 := 0) (C := RX0) hK hP hZ rfl rfl) rfl rfl hl.1 rfl (lv_room (Nat.le_of_ble_eq_true rfl)) dX0_mode_2 ⟨Nat.zero_le _, Nat.zero_le _⟩) rfl ?_
  refine lv_astore_n (lv' := [(3, .ref hh), (0, .ref hx), (1, .int 1), (2, .int 4)]) hx_ hb dX0_mode_5 rfl hl (by decide) rfl (fun ls hl => ?_)
  refine lv_iload_n hx_ hb dX0_mode_6 rfl (lv_at hl 3 rfl) ?_
  refine lv_tableIn (tgt := 68) hx_ hb dX0_mode_7 (by decide) (by decide) (by rfl) (by decide) ?_
  refine lv_aload_n hx_ hb dX0_mode_68 rfl (lv_at hl 0 rfl) ?_
  refine va_getN (D := (dC, dI)) (ci := 1) (v := .int (u1 14)) (C := RX1) (T := TX1) (N := 19) hx_ hb hts hin_RX1 hown hK hP 2 rfl rfl 14 (by decide) hlk_105 (fun _ h9 => h9) rfl dX0_mode_69 ?_
  exact xr_zret hx_ hb hr hlocks dX0_mode_72 (lpOk_nar hok1 14 (by decide)) rfl

set_option maxHeartbeats 4000000 in
set_option maxRecDepth 100000 in
theorem c_mode_1_5 (l : Launch) (dC : Nat → ClassId) (dI : Nat → Nat → Nat) (hx hc hh : Nat) (u0 u1 : Nat → Int32) (ea : Int32) (hok1 : lpOk u1) : xr_M l yX0_mode wsX0_mode ({ frames := 1, cells := 0, slots := 0, locals := 21 }) [.ref hx, .int 1, .int 5] (dC, dI) vwCl [] pz (pw hx hc hh (u0, u1, ea)) (some (.int (u1 15))) := by
  refine Met.ofW (cc := cX0_mode) (maxL := 4) (ret := (some .boolean)) (by decide) rfl ?_
  intro p e s m args below meth c s₁ B hml hv
  obtain ⟨rfl, hP, hK, hZ⟩ := hv
  have hx_ := B.exec
  have hb := B.bytes
  have hr := B.returns
  have hts := atoms_spec (ws := wsX0_mode) B.pre
  have hown : s.vm.findClass RX0 = some m.cls := findClass_of_methodNamed B.named
  have hlocks := B.notSynchronized
  have hin_RX1 : ∀ w ∈ u_ws RX1 TX1 19, w ∈ wsX0_mode := fun w h => List.mem_cons_of_mem _ (u_X1 w h)
  have hlk_92 := hZ.use (w := .fieldLinkNest RX0 92 "LinePair$Controller" "ready" "Z" "LinePair") (by decide +kernel) (a := ([.ref hx, .int 1, .int 5]).toArray)
  have hlk_96 := hZ.use (w := .fieldLinkNest RX0 96 "LinePair$Controller" "byLevels" "Z" "LinePair") (by decide +kernel) (a := ([.ref hx, .int 1, .int 5]).toArray)
  have hlk_99 := hZ.use (w := .fieldLinkNest RX0 99 "LinePair$Controller" "specialMask" "Z" "LinePair") (by decide +kernel) (a := ([.ref hx, .int 1, .int 5]).toArray)
  have hlk_102 := hZ.use (w := .fieldLinkNest RX0 102 "LinePair$Controller" "specialNesting" "Z" "LinePair") (by decide +kernel) (a := ([.ref hx, .int 1, .int 5]).toArray)
  have hlk_105 := hZ.use (w := .fieldLinkNest RX0 105 "LinePair$Controller" "endsAtOnce" "Z" "LinePair") (by decide +kernel) (a := ([.ref hx, .int 1, .int 5]).toArray)
  have hlk_108 := hZ.use (w := .fieldLinkNest RX0 108 "LinePair$Controller" "turnsAtOnce" "Z" "LinePair") (by decide +kernel) (a := ([.ref hx, .int 1, .int 5]).toArray)
  have hlk_111 := hZ.use (w := .fieldLinkNest RX0 111 "LinePair$Controller" "pollWaits" "Z" "LinePair") (by decide +kernel) (a := ([.ref hx, .int 1, .int 5]).toArray)
  have hl := lv_entry ([.ref hx, .int 1, .int 5]) (n := 4) (Nat.le_of_ble_eq_true rfl)
  rw [lg_entry_eq]
  generalize (lg_sl ([.ref hx, .int 1, .int 5]) ++ List.replicate (4 - (lg_sl ([.ref hx, .int 1, .int 5])).length) Slot.unset).toArray = ls at hl ⊢
  have hl : lv_has ls 4 [(0, .ref hx), (1, .int 1), (2, .int 5)] := hl
  refine lv_aload_n hx_ hb dX0_mode_0 rfl (lv_at hl 0 rfl) ?_
  refine lv_iload_n hx_ hb dX0_mode_1 rfl (lv_at hl 1 rfl) ?_
  refine xr_call (st1 := [.ref hh]) (W.runV (As := [.int 1]) (rest := []) ⟨hx_, hb, hml, hown, hts⟩ (c_controllerNumbered_1 l dC dI hx hc hh u0 u1 ea) (cwV 1 hts (gd_V wa_c k_ml_X0_35 k_im_X0_controllerNumbered k_se_X0_controllerNumbered k_in_X0 k_co_X0_controllerNumbered) rfl rfl rfl (by decide +kernel) ⟨Nat.le_of_ble_eq_true rfl, Nat.le_of_ble_eq_true rfl⟩) (xr_preV (q0 := 0) (C := RX0) hK hP hZ rfl rfl) rfl rfl hl.1 rfl (lv_room (Nat.le_of_ble_eq_true rfl)) dX0_mode_2 ⟨Nat.zero_le _, Nat.zero_le _⟩) rfl ?_
  refine lv_astore_n (lv' := [(3, .ref hh), (0, .ref hx), (1, .int 1), (2, .int 5)]) hx_ hb dX0_mode_5 rfl hl (by decide) rfl (fun ls hl => ?_)
  refine lv_iload_n hx_ hb dX0_mode_6 rfl (lv_at hl 3 rfl) ?_
  refine lv_tableIn (tgt := 73) hx_ hb dX0_mode_7 (by decide) (by decide) (by rfl) (by decide) ?_
  refine lv_aload_n hx_ hb dX0_mode_73 rfl (lv_at hl 0 rfl) ?_
  refine va_getN (D := (dC, dI)) (ci := 1) (v := .int (u1 15)) (C := RX1) (T := TX1) (N := 19) hx_ hb hts hin_RX1 hown hK hP 2 rfl rfl 15 (by decide) hlk_108 (fun _ h9 => h9) rfl dX0_mode_74 ?_
  exact xr_zret hx_ hb hr hlocks dX0_mode_77 (lpOk_nar hok1 15 (by decide)) rfl

set_option maxHeartbeats 4000000 in
set_option maxRecDepth 100000 in
theorem c_mode_1_6 (l : Launch) (dC : Nat → ClassId) (dI : Nat → Nat → Nat) (hx hc hh : Nat) (u0 u1 : Nat → Int32) (ea : Int32) (hok1 : lpOk u1) : xr_M l yX0_mode wsX0_mode ({ frames := 1, cells := 0, slots := 0, locals := 21 }) [.ref hx, .int 1, .int 6] (dC, dI) vwCl [] pz (pw hx hc hh (u0, u1, ea)) (some (.int (u1 16))) := by
  refine Met.ofW (cc := cX0_mode) (maxL := 4) (ret := (some .boolean)) (by decide) rfl ?_
  intro p e s m args below meth c s₁ B hml hv
  obtain ⟨rfl, hP, hK, hZ⟩ := hv
  have hx_ := B.exec
  have hb := B.bytes
  have hr := B.returns
  have hts := atoms_spec (ws := wsX0_mode) B.pre
  have hown : s.vm.findClass RX0 = some m.cls := findClass_of_methodNamed B.named
  have hlocks := B.notSynchronized
  have hin_RX1 : ∀ w ∈ u_ws RX1 TX1 19, w ∈ wsX0_mode := fun w h => List.mem_cons_of_mem _ (u_X1 w h)
  have hlk_92 := hZ.use (w := .fieldLinkNest RX0 92 "LinePair$Controller" "ready" "Z" "LinePair") (by decide +kernel) (a := ([.ref hx, .int 1, .int 6]).toArray)
  have hlk_96 := hZ.use (w := .fieldLinkNest RX0 96 "LinePair$Controller" "byLevels" "Z" "LinePair") (by decide +kernel) (a := ([.ref hx, .int 1, .int 6]).toArray)
  have hlk_99 := hZ.use (w := .fieldLinkNest RX0 99 "LinePair$Controller" "specialMask" "Z" "LinePair") (by decide +kernel) (a := ([.ref hx, .int 1, .int 6]).toArray)
  have hlk_102 := hZ.use (w := .fieldLinkNest RX0 102 "LinePair$Controller" "specialNesting" "Z" "LinePair") (by decide +kernel) (a := ([.ref hx, .int 1, .int 6]).toArray)
  have hlk_105 := hZ.use (w := .fieldLinkNest RX0 105 "LinePair$Controller" "endsAtOnce" "Z" "LinePair") (by decide +kernel) (a := ([.ref hx, .int 1, .int 6]).toArray)
  have hlk_108 := hZ.use (w := .fieldLinkNest RX0 108 "LinePair$Controller" "turnsAtOnce" "Z" "LinePair") (by decide +kernel) (a := ([.ref hx, .int 1, .int 6]).toArray)
  have hlk_111 := hZ.use (w := .fieldLinkNest RX0 111 "LinePair$Controller" "pollWaits" "Z" "LinePair") (by decide +kernel) (a := ([.ref hx, .int 1, .int 6]).toArray)
  have hl := lv_entry ([.ref hx, .int 1, .int 6]) (n := 4) (Nat.le_of_ble_eq_true rfl)
  rw [lg_entry_eq]
  generalize (lg_sl ([.ref hx, .int 1, .int 6]) ++ List.replicate (4 - (lg_sl ([.ref hx, .int 1, .int 6])).length) Slot.unset).toArray = ls at hl ⊢
  have hl : lv_has ls 4 [(0, .ref hx), (1, .int 1), (2, .int 6)] := hl
  refine lv_aload_n hx_ hb dX0_mode_0 rfl (lv_at hl 0 rfl) ?_
  refine lv_iload_n hx_ hb dX0_mode_1 rfl (lv_at hl 1 rfl) ?_
  refine xr_call (st1 := [.ref hh]) (W.runV (As := [.int 1]) (rest := []) ⟨hx_, hb, hml, hown, hts⟩ (c_controllerNumbered_1 l dC dI hx hc hh u0 u1 ea) (cwV 1 hts (gd_V wa_c k_ml_X0_35 k_im_X0_controllerNumbered k_se_X0_controllerNumbered k_in_X0 k_co_X0_controllerNumbered) rfl rfl rfl (by decide +kernel) ⟨Nat.le_of_ble_eq_true rfl, Nat.le_of_ble_eq_true rfl⟩) (xr_preV (q0 := 0) (C := RX0) hK hP hZ rfl rfl) rfl rfl hl.1 rfl (lv_room (Nat.le_of_ble_eq_true rfl)) dX0_mode_2 ⟨Nat.zero_le _, Nat.zero_le _⟩) rfl ?_
  refine lv_astore_n (lv' := [(3, .ref hh), (0, .ref hx), (1, .int 1), (2, .int 6)]) hx_ hb dX0_mode_5 rfl hl (by decide) rfl (fun ls hl => ?_)
  refine lv_iload_n hx_ hb dX0_mode_6 rfl (lv_at hl 3 rfl) ?_
  refine lv_tableIn (tgt := 78) hx_ hb dX0_mode_7 (by decide) (by decide) (by rfl) (by decide) ?_
  refine lv_aload_n hx_ hb dX0_mode_78 rfl (lv_at hl 0 rfl) ?_
  refine va_getN (D := (dC, dI)) (ci := 1) (v := .int (u1 16)) (C := RX1) (T := TX1) (N := 19) hx_ hb hts hin_RX1 hown hK hP 2 rfl rfl 16 (by decide) hlk_111 (fun _ h9 => h9) rfl dX0_mode_79 ?_
  exact xr_zret hx_ hb hr hlocks dX0_mode_82 (lpOk_nar hok1 16 (by decide)) rfl

set_option maxHeartbeats 4000000 in
set_option maxRecDepth 100000 in
theorem c_count_0 (l : Launch) (dC : Nat → ClassId) (dI : Nat → Nat → Nat) (hx hc hh : Nat) (u0 u1 : Nat → Int32) (ea : Int32) : xr_M l yX0_count wsX0_count ({ frames := 0, cells := 0, slots := 0, locals := 0 }) [.ref hx, .int 0] (dC, dI) vwCl [] pz (pw hx hc hh (u0, u1, ea)) (some (.int (u0 17 + u1 17))) := by
  refine Met.ofW (cc := cX0_count) (maxL := 2) (ret := (some .int)) (by decide) rfl ?_
  intro p e s m args below meth c s₁ B hml hv
  obtain ⟨rfl, hP, hK, hZ⟩ := hv
  have hx_ := B.exec
  have hb := B.bytes
  have hr := B.returns
  have hts := atoms_spec (ws := wsX0_count) B.pre
  have hown : s.vm.findClass RX0 = some m.cls := findClass_of_methodNamed B.named
  have hlocks := B.notSynchronized
  have hin_RX0 : ∀ w ∈ u_ws RX0 TX0 3, w ∈ wsX0_count := fun w h => List.mem_cons_of_mem _ (u_X0 w h)
  have hin_RX1 : ∀ w ∈ u_ws RX1 TX1 19, w ∈ wsX0_count := fun w h => List.mem_cons_of_mem _ (u_X1 w h)
  have hlk_14 := hts _ (List.mem_cons_of_mem _ k_fl_X0_14)
  have hlk_18 := hts _ (List.mem_cons_of_mem _ k_fl_X0_18)
  have hlk_21 := hts _ (List.mem_cons_of_mem _ k_fl_X0_21)
  have hlk_114 := hZ.use (w := .fieldLinkNest RX0 114 "LinePair$Controller" "takenLines" "I" "LinePair") (by decide +kernel) (a := ([.ref hx, .int 0]).toArray)
  have hlk_117 := hZ.use (w := .fieldLinkNest RX0 117 "LinePair$Controller" "endedLines" "I" "LinePair") (by decide +kernel) (a := ([.ref hx, .int 0]).toArray)
  have hl := lv_entry ([.ref hx, .int 0]) (n := 2) (Nat.le_of_ble_eq_true rfl)
  rw [lg_entry_eq]
  generalize (lg_sl ([.ref hx, .int 0]) ++ List.replicate (2 - (lg_sl ([.ref hx, .int 0])).length) Slot.unset).toArray = ls at hl ⊢
  have hl : lv_has ls 2 [(0, .ref hx), (1, .int 0)] := hl
  refine lv_iload_n hx_ hb dX0_count_0 rfl (lv_at hl 1 rfl) ?_
  refine lv_tableIn (tgt := 28) hx_ hb dX0_count_1 (by decide) (by decide) (by rfl) (by decide) ?_
  refine lv_aload_n hx_ hb dX0_count_28 rfl (lv_at hl 0 rfl) ?_
  refine va_get (D := (dC, dI)) (ci := 0) (v := .ref hc) (C := RX0) (T := TX0) (N := 3) hx_ hb hts hin_RX0 hown hK hP 0 rfl rfl 0 (by decide) hlk_14 (fun _ h9 => h9) rfl dX0_count_29 ?_
  refine va_getN (D := (dC, dI)) (ci := 1) (v := .int (u0 17)) (C := RX1) (T := TX1) (N := 19) hx_ hb hts hin_RX1 hown hK hP 1 rfl rfl 17 (by decide) hlk_114 (fun _ h9 => h9) rfl dX0_count_32 ?_
  refine lv_aload_n hx_ hb dX0_count_35 rfl (lv_at hl 0 rfl) ?_
  refine va_get (D := (dC, dI)) (ci := 0) (v := .ref hh) (C := RX0) (T := TX0) (N := 3) hx_ hb hts hin_RX0 hown hK hP 0 rfl rfl 1 (by decide) hlk_18 (fun _ h9 => h9) rfl dX0_count_36 ?_
  refine va_getN (D := (dC, dI)) (ci := 1) (v := .int (u1 17)) (C := RX1) (T := TX1) (N := 19) hx_ hb hts hin_RX1 hown hK hP 2 rfl rfl 17 (by decide) hlk_114 (fun _ h9 => h9) rfl dX0_count_39 ?_
  refine lv_iadd hx_ hb dX0_count_42 ?_
  exact xr_iret hx_ hb hr hlocks dX0_count_43 rfl

set_option maxHeartbeats 4000000 in
set_option maxRecDepth 100000 in
theorem c_count_1 (l : Launch) (dC : Nat → ClassId) (dI : Nat → Nat → Nat) (hx hc hh : Nat) (u0 u1 : Nat → Int32) (ea : Int32) : xr_M l yX0_count wsX0_count ({ frames := 0, cells := 0, slots := 0, locals := 0 }) [.ref hx, .int 1] (dC, dI) vwCl [] pz (pw hx hc hh (u0, u1, ea)) (some (.int ea)) := by
  refine Met.ofW (cc := cX0_count) (maxL := 2) (ret := (some .int)) (by decide) rfl ?_
  intro p e s m args below meth c s₁ B hml hv
  obtain ⟨rfl, hP, hK, hZ⟩ := hv
  have hx_ := B.exec
  have hb := B.bytes
  have hr := B.returns
  have hts := atoms_spec (ws := wsX0_count) B.pre
  have hown : s.vm.findClass RX0 = some m.cls := findClass_of_methodNamed B.named
  have hlocks := B.notSynchronized
  have hin_RX0 : ∀ w ∈ u_ws RX0 TX0 3, w ∈ wsX0_count := fun w h => List.mem_cons_of_mem _ (u_X0 w h)
  have hin_RX1 : ∀ w ∈ u_ws RX1 TX1 19, w ∈ wsX0_count := fun w h => List.mem_cons_of_mem _ (u_X1 w h)
  have hlk_14 := hts _ (List.mem_cons_of_mem _ k_fl_X0_14)
  have hlk_18 := hts _ (List.mem_cons_of_mem _ k_fl_X0_18)
  have hlk_21 := hts _ (List.mem_cons_of_mem _ k_fl_X0_21)
  have hlk_114 := hZ.use (w := .fieldLinkNest RX0 114 "LinePair$Controller" "takenLines" "I" "LinePair") (by decide +kernel) (a := ([.ref hx, .int 1]).toArray)
  have hlk_117 := hZ.use (w := .fieldLinkNest RX0 117 "LinePair$Controller" "endedLines" "I" "LinePair") (by decide +kernel) (a := ([.ref hx, .int 1]).toArray)
  have hl := lv_entry ([.ref hx, .int 1]) (n := 2) (Nat.le_of_ble_eq_true rfl)
  rw [lg_entry_eq]
  generalize (lg_sl ([.ref hx, .int 1]) ++ List.replicate (2 - (lg_sl ([.ref hx, .int 1])).length) Slot.unset).toArray = ls at hl ⊢
  have hl : lv_has ls 2 [(0, .ref hx), (1, .int 1)] := hl
  refine lv_iload_n hx_ hb dX0_count_0 rfl (lv_at hl 1 rfl) ?_
  refine lv_tableIn (tgt := 44) hx_ hb dX0_count_1 (by decide) (by decide) (by rfl) (by decide) ?_
  refine lv_aload_n hx_ hb dX0_count_44 rfl (lv_at hl 0 rfl) ?_
  refine va_get (D := (dC, dI)) (ci := 0) (v := .int ea) (C := RX0) (T := TX0) (N := 3) hx_ hb hts hin_RX0 hown hK hP 0 rfl rfl 2 (by decide) hlk_21 (fun _ h9 => h9) rfl dX0_count_45 ?_
  exact xr_iret hx_ hb hr hlocks dX0_count_48 rfl

set_option maxHeartbeats 4000000 in
set_option maxRecDepth 100000 in
theorem c_count_2 (l : Launch) (dC : Nat → ClassId) (dI : Nat → Nat → Nat) (hx hc hh : Nat) (u0 u1 : Nat → Int32) (ea : Int32) : xr_M l yX0_count wsX0_count ({ frames := 0, cells := 0, slots := 0, locals := 0 }) [.ref hx, .int 2] (dC, dI) vwCl [] pz (pw hx hc hh (u0, u1, ea)) (some (.int (u0 18 + u1 18))) := by
  refine Met.ofW (cc := cX0_count) (maxL := 2) (ret := (some .int)) (by decide) rfl ?_
  intro p e s m args below meth c s₁ B hml hv
  obtain ⟨rfl, hP, hK, hZ⟩ := hv
  have hx_ := B.exec
  have hb := B.bytes
  have hr := B.returns
  have hts := atoms_spec (ws := wsX0_count) B.pre
  have hown : s.vm.findClass RX0 = some m.cls := findClass_of_methodNamed B.named
  have hlocks := B.notSynchronized
  have hin_RX0 : ∀ w ∈ u_ws RX0 TX0 3, w ∈ wsX0_count := fun w h => List.mem_cons_of_mem _ (u_X0 w h)
  have hin_RX1 : ∀ w ∈ u_ws RX1 TX1 19, w ∈ wsX0_count := fun w h => List.mem_cons_of_mem _ (u_X1 w h)
  have hlk_14 := hts _ (List.mem_cons_of_mem _ k_fl_X0_14)
  have hlk_18 := hts _ (List.mem_cons_of_mem _ k_fl_X0_18)
  have hlk_21 := hts _ (List.mem_cons_of_mem _ k_fl_X0_21)
  have hlk_114 := hZ.use (w := .fieldLinkNest RX0 114 "LinePair$Controller" "takenLines" "I" "LinePair") (by decide +kernel) (a := ([.ref hx, .int 2]).toArray)
  have hlk_117 := hZ.use (w := .fieldLinkNest RX0 117 "LinePair$Controller" "endedLines" "I" "LinePair") (by decide +kernel) (a := ([.ref hx, .int 2]).toArray)
  have hl := lv_entry ([.ref hx, .int 2]) (n := 2) (Nat.le_of_ble_eq_true rfl)
  rw [lg_entry_eq]
  generalize (lg_sl ([.ref hx, .int 2]) ++ List.replicate (2 - (lg_sl ([.ref hx, .int 2])).length) Slot.unset).toArray = ls at hl ⊢
  have hl : lv_has ls 2 [(0, .ref hx), (1, .int 2)] := hl
  refine lv_iload_n hx_ hb dX0_count_0 rfl (lv_at hl 1 rfl) ?_
  refine lv_tableIn (tgt := 49) hx_ hb dX0_count_1 (by decide) (by decide) (by rfl) (by decide) ?_
  refine lv_aload_n hx_ hb dX0_count_49 rfl (lv_at hl 0 rfl) ?_
  refine va_get (D := (dC, dI)) (ci := 0) (v := .ref hc) (C := RX0) (T := TX0) (N := 3) hx_ hb hts hin_RX0 hown hK hP 0 rfl rfl 0 (by decide) hlk_14 (fun _ h9 => h9) rfl dX0_count_50 ?_
  refine va_getN (D := (dC, dI)) (ci := 1) (v := .int (u0 18)) (C := RX1) (T := TX1) (N := 19) hx_ hb hts hin_RX1 hown hK hP 1 rfl rfl 18 (by decide) hlk_117 (fun _ h9 => h9) rfl dX0_count_53 ?_
  refine lv_aload_n hx_ hb dX0_count_56 rfl (lv_at hl 0 rfl) ?_
  refine va_get (D := (dC, dI)) (ci := 0) (v := .ref hh) (C := RX0) (T := TX0) (N := 3) hx_ hb hts hin_RX0 hown hK hP 0 rfl rfl 1 (by decide) hlk_18 (fun _ h9 => h9) rfl dX0_count_57 ?_
  refine va_getN (D := (dC, dI)) (ci := 1) (v := .int (u1 18)) (C := RX1) (T := TX1) (N := 19) hx_ hb hts hin_RX1 hown hK hP 2 rfl rfl 18 (by decide) hlk_117 (fun _ h9 => h9) rfl dX0_count_60 ?_
  refine lv_iadd hx_ hb dX0_count_63 ?_
  exact xr_iret hx_ hb hr hlocks dX0_count_64 rfl
end
section
def xt_Q (E : String) (st : State) (o : Outcome) (t : State) : Prop :=
  ∃ (x : Addr) (ce : Cell), o = .threw x ∧ t.heap[x]? = some ce ∧ ce.vm.isStatics = false ∧ st.vm.findClass E = some ce.cls ∧ st.WarmedH t.vm ∧ st.sameButNew ({ t with vm := st.vm } : State) [] 1 6
def xt_M (l : Launch) (y : MethodName) (ws : List Cond) (rm : Room) (Pc : Array Value → State → Prop) (E : String) : Prop :=
  MetFree l y (headSpec ws rm) Pc (fun _ _ _ _ _ => True) (fun _ st o t => xt_Q E st o t)
abbrev xt_MQ (below : List Frame) (E : String) (s : State) : State → Prop := fun t => ∃ o, t.status = .running ∧ Ended t below o ∧ xt_Q E s o t
theorem xt_kept {s U : State} {cells slots : Nat} (h : s.sameButNew ({ U with vm := s.vm } : State) [] cells slots) : s.heap.size ≤ U.heap.size ∧ ∀ q : Nat, q < s.heap.size → U.heap[q]? = s.heap[q]? := by
  obtain ⟨-, h2, -, -, -, h6⟩ := h
  refine ⟨h2, fun q hq => ?_⟩
  obtain ⟨c9, e1, e2, -, e4⟩ := h6 q s.heap[q] (Array.getElem?_eq_getElem hq)
  have h1 : U.heap[q]? = some c9 := e1
  have h3 : c9.slots = (s.heap[q]).slots := Array.ext_getElem? (fun i => e4 i (fun z => by cases z))
  rw [h3] at e2
  rw [h1, e2, Array.getElem?_eq_getElem hq]
theorem xt_ofW {l : Launch} {y : MethodName} {ws ws' : List Cond} {rm : Room} {Pc : Array Value → State → Prop} {E : String} {cc : ByteArray} {maxL : Nat} {ret : Option FieldType}
    (hy : plainName y.cls = true) (hw : ws = Cond.code y cc maxL ret :: ws')
    (body : ∀ p e s m args below meth c s₁, BodyLoose p l y (headSpec ws rm) cc maxL ret e s m args below meth c s₁ → c.maxLocals = maxL → Pc args s →
      W p l e (headSpec ws rm).room s m args below meth c s.heap [] 0 0 (xt_MQ below E s) (entryFrame m args maxL)) : xt_M l y ws rm Pc E := by
  refine MetFree.of_bodyS (code := cc) (maxLocals := maxL) (ret := ret) hy ?_ ?_
  · intro args s m h hn
    obtain ⟨meth, c, h1, h2, h3, h4, h5, h6, -, -⟩ := Cond.code_spec hn (atoms_spec (ws := ws) h _ (by rw [hw]; exact List.mem_cons_self))
    exact ⟨meth, c, h1, h2, h3, h4, h5, h6⟩
  · intro p e s m args below meth c s₁ B hml hP _
    obtain ⟨t, a1, o, b1, b2, b3⟩ := body p e s m args below meth c s₁ B hml hP s₁ (by rw [B.state]; rfl) (Stand.of_body B)
    exact ⟨t, o, a1, b1, b2, b3⟩
section XT
variable {p : Program} {l : Launch} {e : Env} {R : Room} {s : State} {m : MethodId} {args : Array Value} {below : List Frame} {meth : Method} {c : Code} {H : Heap} {locs : List Loc} {cells slots : Nat} {Q : State → Prop}
theorem xt_new {cc : ByteArray} (hexec : p.tables.exec = Jvm.exec) (hb : c.code = cc) (htr : l.stackTraces = false) {own E : String} {names : List String} {ix ic pc : Nat} {ls : Array Slot} {st : List Value}
    (hown : s.vm.findClass own = some m.cls) (hE : Bundle.fit E = true) (hnames : ∀ n ∈ names, Bundle.fit n = true)
    (hcl : (Cond.classLink own ix E).before args s = true) (hini : (Cond.initialized E).before args s = true) (hat : ∀ a ∈ Bundle.ownAtoms0 own ic E names, a.before args s = true)
    (hno : c.exceptionTable.isEmpty = true) (hlocks : meth.locks = false) (hml : ls.size = c.maxLocals)
    (hRc : 1 ≤ R.cells) (hRs : 6 ≤ R.slots) (hRf : names.length + 3 < R.frames) (hRl : (st.map fun v => v.category).sum + (13 * (names.length + 1) + 42) ≤ R.locals)
    (d0 : decode cc pc = .ok (.new ix, 3)) (d3 : decode cc (pc + 3) = .ok (.dup, 1)) (d4 : decode cc (pc + 4) = .ok (.invokespecial ic, 3)) (d7 : decode cc (pc + 7) = .ok (.athrow, 1)) :
    W p l e R s m args below meth c s.heap [] 0 0 (xt_MQ below E s) (F0 m pc ls st) := by
  have hins : (Cond.instantiable E 6).before args s = true := hat _ (by simp [Bundle.ownAtoms0])
  refine W.newc hexec hb hown hcl hins hini (g := F0 m pc ls st) rfl d0 (by omega) (by omega) fun cC kC hfc hkC _ _ => ?_
  refine lv_dup hexec hb d3 rfl ?_
  intro T hT X
  have htr' : e.platform.stackTraces = false := by rw [X.admits.platform]; exact htr
  obtain ⟨U, hst, hrun, hend, hW, hsame, ce, hce, ho⟩ := X.ctorThrow0 hexec htr' (own := own) (cls := E) (names := names) (ic := ic) hown hE hnames hat (fun x hx => by cases hx) (a := s.heap.size) hfc hkC (by rw [hT]; simp) (Nat.le_refl _)
    (g := F0 m (pc + 3 + 1) ls (.ref s.heap.size :: .ref s.heap.size :: st)) rfl hml rfl rfl rfl (by rw [hb]; exact d4) (by rw [hb]; exact d7) (fun x hx => by simp [Array.isEmpty_iff.mp hno] at hx) hRf (by simp [Value.category, JFrame.monitorRoom] at hRl ⊢; omega) hlocks
  exact ⟨U, hst, .threw _, hrun, hend, _, ce, rfl, hce, by rw [ho.vm]; rfl, ho.cls, hW, hsame⟩
def xt_Run (p : Program) (l : Launch) (e : Env) (R : Room) (s : State) (m : MethodId) (args : Array Value) (below : List Frame) (meth : Method) (c : Code) (H : Heap) (locs : List Loc) (cells slots : Nat) (g : JFrame) (rest : List Value) (E : String) : Prop :=
  ∀ T : State, T.heap = H → Stand p l e R s m args below meth c T locs cells slots → ∃ (x : Addr) (ce : Cell) (T' : State), Stand p l e R s m args below meth c T' locs (cells + 1) (slots + 6) ∧
    T'.heap[x]? = some ce ∧ ce.vm.isStatics = false ∧ s.vm.findClass E = some ce.cls ∧ H.size ≤ T'.heap.size ∧ (∀ q : Nat, q < H.size → T'.heap[q]? = H[q]?) ∧
    Steps p.tables e below (T.setTop g) ((T'.setTop { g with stack := rest }).pushFrame (.throwing x))
variable {y : MethodName} {bytes cc : ByteArray} {maxL nL n index : Nat} {ret : Option FieldType} {ws : List Cond} {rm : Room} {Pc : Array Value → State → Prop} {Ts : List Cond} {own C : String} {b : Addr} {As rest : List Value} {g : JFrame} {E : String}
theorem xt_back {U : State} {ig : Instr} {mk : MethodId} {a : Array Value} (hM : xt_M l y ws rm Pc E) (hblind : FrameBlind Pc) (hrc : rm.cells = 1) (hrs : rm.slots = 6)
    (hframes : rm.frames + 1 ≤ R.frames) (hlocals : 8 + (maxL + 11) + rm.locals ≤ R.locals)
    (hws : ∀ w ∈ ws, ∀ a' U, s.WarmedH U.vm → w.before a' U = true) (hcode : Cond.code y bytes maxL ret ∈ ws) (hinit : ∀ a' U, s.WarmedH U.vm → (Cond.initialized y.cls).before a' U = true)
    (X : Stand p l e R s m args below meth c U locs cells slots) (hg : g.method = m) (hsize : g.locals.size = c.maxLocals) (hdg : decode c.code g.pc = .ok (ig, 3)) (hW : 2 * g.monitorRoom + (g.stack.map fun v => v.category).sum ≤ 8)
    (hn : U.methodNamed? y = some mk) (hc1 : cells + 1 ≤ R.cells) (hs1 : slots + 6 ≤ R.slots) (hPc0 : Pc a U) :
    ∃ (x : Addr) (ce : Cell) (T' : State), Stand p l e R s m args below meth c T' locs (cells + 1) (slots + 6) ∧ T'.heap[x]? = some ce ∧ ce.vm.isStatics = false ∧ s.vm.findClass E = some ce.cls ∧ U.heap.size ≤ T'.heap.size ∧ (∀ q : Nat, q < U.heap.size → T'.heap[q]? = U.heap[q]?) ∧
      Steps p.tables e below (doInvoke e (U.setTop g) [] mk a).1 ((T'.setTop g).pushFrame (.throwing x)) := by
  have h1 : (headSpec ws rm).pre.before a U = true := atoms_intro fun w hw => hws w hw _ _ X.warmed
  have h2 : (Cond.code y bytes maxL ret).before a U = true := hws _ hcode _ _ X.warmed
  have h3 : (Cond.initialized y.cls).before a U = true := hinit _ _ X.warmed
  have h4 : cells + (headSpec ws rm).room.cells ≤ R.cells := by rw [show (headSpec ws rm).room.cells = 1 from hrc]; exact hc1
  have h5 : slots + (headSpec ws rm).room.slots ≤ R.slots := by rw [show (headSpec ws rm).room.slots = 6 from hrs]; exact hs1
  have hPc : Pc a (U.calling g mk a) := hblind _ _ _ _ hPc0
  obtain ⟨methY, cY, hmY, hcY, -, hlY, -, -, -, -⟩ := Cond.code_spec hn h2
  obtain ⟨kY, hkY, -⟩ := className_of_methodNamed hn
  have hinitY : kY.init = .initialized := Cond.initialized_spec (findClass_of_methodNamed hn) hkY h3
  have h : At U g.method c below := by rw [hg]; exact X.here
  have hlo : 8 + (maxL + 11) + (headSpec ws rm).room.locals ≤ R.locals := hlocals
  have happ : (headSpec ws rm).appliesLoose y e.platform (U.calling g mk a) = true :=
    Spec.appliesLoose_calling (g := g) h hdg hn hkY hinitY (X.room_calling (g := g) (R' := (headSpec ws rm).room) hsize hmY hcY hframes (by rw [hlY]; omega) h4 h5) h1
  obtain ⟨mid, hmid⟩ := h.above
  have hfr : (U.setTop g).frames = (.java g :: mid) ++ below := by rw [State.frames_setTop' g h.top, hmid]; rfl
  obtain ⟨o, s₂, hsteps, -, hend, hq⟩ := Steps.callFree hM p X.admits X.cas X.clock (acts := []) hfr happ hPc trivial
  have hq' : xt_Q E (U.calling g mk a) o s₂ := hq
  rw [State.frames_setTop' g h.top] at hend
  obtain ⟨x, ce, rfl, hce, hcv, hcl, hW₂, hsm⟩ := hq'
  obtain ⟨g₀, hg0⟩ := Option.isSome_iff_exists.mp h.top
  obtain ⟨r, hr⟩ := State.topJava?_eq_some.mp hg0
  have hr' : (({ U with heap := s₂.heap, slotsUsed := s₂.slotsUsed } : State).setVm s₂.vm).frames = .java g₀ :: r := hr
  have hkp := xt_kept hsm
  obtain ⟨e2, q2, q3, q4, q5, q6⟩ := id hsm
  have e3 : s₂ = ({ (U.calling g mk a).setFrames s₂.frames with heap := s₂.heap, slotsUsed := s₂.slotsUsed } : State).setVm s₂.vm := by
    have e4 : s₂ = ({ s₂ with vm := (U.calling g mk a).vm } : State).setVm s₂.vm := rfl
    rw [e2] at e4
    exact e4
  have hf₂ : s₂.frames = .throwing x :: .java g :: U.frames.tail := hend
  have hW' : U.WarmedH s₂.vm := hW₂
  have hs₂ : s₂ = ((({ U with heap := s₂.heap, slotsUsed := s₂.slotsUsed } : State).setVm s₂.vm).setTop g).pushFrame (.throwing x) := by
    refine e3.trans ?_
    rw [hf₂, State.calling_eq h.top, State.setFrames_setFrames, State.pushFrame, State.frames_setTop _ hr', State.setTop_of_frames _ hr', State.setFrames_setFrames, hr]
    rfl
  have hsame : U.sameButNew ({ U with heap := s₂.heap, slotsUsed := s₂.slotsUsed } : State) [] 1 6 := by
    refine ⟨?_, q2, q3, q4, q5, q6⟩
    obtain ⟨t, ht, -⟩ := State.frames_cons hr
    show ({ U with heap := s₂.heap, slotsUsed := s₂.slotsUsed } : State) = { U.setFrames U.frames with heap := s₂.heap, slotsUsed := s₂.slotsUsed }
    rw [State.setFrames_self ht]
  have hsm2 := X.same.trans (hsame.setVm s.vm)
  rw [List.append_nil] at hsm2
  have hcl' : U.vm.findClass E = some ce.cls := hcl
  rw [X.warmed.alike.findClass] at hcl'
  subst hg
  refine ⟨x, ce, ({ U with heap := s₂.heap, slotsUsed := s₂.slotsUsed } : State).setVm s₂.vm,
    ⟨X.admits, X.cas, X.clock, X.frames, X.room, X.hears, X.method, X.code, (X.here.setHeapUsed s₂.heap s₂.slotsUsed).setVm hW'.alike, X.tail, State.WarmedH.trans X.warmed hW', X.limits, X.bytes, hsm2⟩,
    hce, hcv, hcl', hkp.1, hkp.2, ?_⟩
  rw [← hs₂]
  exact hsteps
theorem xt_runV (S : CallFix p m c cc nL s args Ts own) (hM : xt_M l y ws rm Pc E) (cw : CallW R s args own C index y bytes maxL ret ws rm 1 6 n) (hp : PreV s H C b Pc As)
    (hg : g.method = m) (hn : As.length = n) (hsize : g.locals.size = nL) (hstack : g.stack = As.reverse ++ .ref b :: rest) (hW : 2 * g.monitorRoom + (rest.map fun v => v.category).sum ≤ 8) (hdg : decode cc g.pc = .ok (.invokevirtual index, 3)) (hf : cells + 1 ≤ R.cells ∧ slots + 6 ≤ R.slots) :
    xt_Run p l e R s m args below meth c H locs cells slots g rest E := by
  obtain ⟨⟨hrc, hrs, hfr, hlo, hws, hcw, hcode, hini, hy, hlen, hl⟩, hin, hse⟩ := cw
  obtain ⟨hx, hb, hml, ho, -⟩ := S
  obtain ⟨hbl, ⟨cellB, hcB, hoB, hclB⟩, hPc⟩ := hp
  intro T hT X
  obtain ⟨mk, methM, hnamed, hmethM, hstM, habM⟩ := Cond.instanceMethod_spec hin
  obtain ⟨methM', cM, hmethM', -, -, -, -, -, -, hsigM⟩ := Cond.code_spec hnamed hcode
  cases hmethM.symm.trans hmethM'
  obtain ⟨c2, r2, m2, q1, q2, q3, q4, kP, hkP, hkPi⟩ := Cond.selects_spec hse
  cases hclB.symm.trans q1
  cases (State.methodFound?_of_named hnamed hy).symm.trans q2
  cases hnamed.symm.trans q3
  have hselP : selectMethod e.platform s.vm cellB.cls mk = .method mk := by rw [Launch.admits_selectMethod X.admits]; exact q4
  obtain ⟨vm₁, X₁, hstep₁⟩ := X.invokevirtual hx ho hl hnamed hmethM hstM hkP hkPi hy (a := b) (cell := cellB) (by rw [hT]; exact hcB)
    (fun z h => by rw [h] at hoB; cases hoB) hselP hmethM habM hkP hkPi (g := g) hg (argsL := As) (rest := rest) (hn.trans (hlen _ hsigM)) hstack (by rw [hb]; exact hdg)
  obtain ⟨x, ce, T', X', h1, h2, h3, h4, h5, st⟩ := xt_back (g := { g with stack := rest }) (ig := .invokevirtual index) (mk := mk) (a := (Value.ref b :: As).toArray) (bytes := bytes) (maxL := maxL) (ret := ret) hM hbl hrc hrs hfr hlo hws hcw
    (fun a' U hW => word_at hW (Or.inl (by first | rfl | simp [Cond.onTables, Cond.keeps, Cond.steady])) hini) X₁ hg (hsize.trans hml.symm) (by rw [hb]; exact hdg) hW (X₁.named hnamed) hf.1 hf.2 (hPc (T.setVm vm₁) hT X₁.warmed)
  have hT1 : (T.setVm vm₁).heap = H := hT
  rw [hT1] at h4 h5
  exact ⟨x, ce, T', X', h1, h2, h3, h4, h5, hstep₁ _ fun acts => by rw [doInvoke_state]; exact st⟩
theorem xt_leave {pc : Nat} {ls : Array Slot} {st0 : List Value} (hr : xt_Run p l e R s m args below meth c s.heap [] 0 0 (F0 m pc ls st0) rest E) (hno : c.exceptionTable.isEmpty = true) (hlocks : meth.locks = false) :
    W p l e R s m args below meth c s.heap [] 0 0 (xt_MQ below E s) (F0 m pc ls st0) := by
  intro T hT X
  obtain ⟨x, ce, T', X', h1, h2, h3, -, -, st⟩ := hr T hT X
  obtain ⟨st1, hrun, hend, hW, hsm⟩ := X'.leaveThrown x (g := F0 m pc ls rest) rfl rfl rfl (fun z hz => by simp [Array.isEmpty_iff.mp hno] at hz) hlocks
  have hce : (T'.setFrames (.throwing x :: below)).heap[x]? = some ce := h1
  exact ⟨_, st.trans st1, .threw x, hrun, hend, x, ce, rfl, hce, h2, h3, hW, hsm⟩
end XT
end
section
def bI (b : Bool) : Int32 := cond b 1 0
def oI (o : Option Nat) : Int32 := match o with
  | none => -1
  | some k => nI k
def bF (f : Nat → Bool) : Nat → Int32 := fun k => bI (f k)
def nF (f : Nat → Nat) : Nat → Int32 := fun k => nI (f k)
def uB (f : Nat → Bool) (k : Nat) (b : Bool) : Nat → Bool := fun j => if j = k then b else f j
def uN (f : Nat → Nat) (k x : Nat) : Nat → Nat := fun j => if j = k then x else f j
theorem bI_nar (b : Bool) : narrow .boolean (.int (bI b)) = .int (bI b) := by cases b <;> rfl
theorem bI_fit (b : Bool) : fits .boolean (.int (bI b)) = true := by cases b <;> rfl
theorem bI_vp (b : Bool) : vp_nar .boolean (bI b) = bI b := by cases b <;> rfl
theorem bI_0 (b : Bool) : bI b = 0 ↔ b = false := by cases b <;> decide
theorem bI_inj (a b : Bool) : bI a = bI b ↔ a = b := by cases a <;> cases b <;> decide
theorem uB_up (f : Nat → Bool) (k : Nat) (b : Bool) : upd (bF f) k (bI b) = bF (uB f k b) := by
  funext j; simp only [upd, bF, uB]; split <;> rfl
theorem uN_up (f : Nat → Nat) (k x : Nat) : upd (nF f) k (nI x) = nF (uN f k x) := by
  funext j; simp only [upd, nF, uN]; split <;> rfl
theorem oI_none {o : Option Nat} (h : ∀ k, o = some k → k < 2 ^ 31) : oI o = -1 ↔ o = none := by
  cases o with
  | none => exact ⟨fun _ => rfl, fun _ => rfl⟩
  | some k =>
    refine ⟨fun q => ?_, fun q => by cases q⟩
    have h1 : nI k = -1 := q
    have h2 := nI_toInt (h k rfl)
    rw [h1] at h2
    have h3 : (-1 : Int32).toInt = -1 := by decide
    omega
section XN
variable {p : Program} {l : Launch} {e : Env} {R : Room} {s : State} {m : MethodId} {args : Array Value} {below : List Frame} {meth : Method} {c : Code} {H : Heap} {locs : List Loc} {cells slots : Nat} {Q : State → Prop}
variable {cc : ByteArray} {pc : Nat} {ls : Array Slot} {rest : List Value} {D : va_G} {cl : List vw_C} {A : Nat → Prop} {a : Nat} {tys : List (ClassId × FieldType)} {ws : va_W} {H0 : Heap}
theorem xz_ld (hx : p.tables.exec = Jvm.exec) (hb : c.code = cc) (hK : va_K D cl tys s) (hP : va_P D cl ws H) (q0 t0 : Nat) {cA : ClassId} {n : Nat} {f : Nat → Bool} (ha : ws[q0]? = some (a, .inl (cA, n, .inl (bF f)))) (ht : tys[t0]? = some (cA, .boolean)) {j : Nat} (hj : j < n) (hn : n < 2 ^ 31) (hdg : decode cc pc = .ok (.baload, 1))
    (kk : W p l e R s m args below meth c H locs cells slots Q (F0 m (pc + 1) ls (.int (bI (f j)) :: rest))) : W p l e R s m args below meth c H locs cells slots Q (F0 m pc ls (.int (nI j) :: .ref a :: rest)) := by
  refine va_zald hx hb hK hP q0 t0 ha ht (vp_in_nI hj hn) hdg ?_
  rw [nI_clamp (by omega)]
  exact kk
theorem xn_ld (hx : p.tables.exec = Jvm.exec) (hb : c.code = cc) (hK : va_K D cl tys s) (hP : va_P D cl ws H) (q0 t0 : Nat) {cA : ClassId} {n : Nat} {f : Nat → Nat} (ha : ws[q0]? = some (a, .inl (cA, n, .inl (nF f)))) (ht : tys[t0]? = some (cA, .int)) {j : Nat} (hj : j < n) (hn : n < 2 ^ 31) (hdg : decode cc pc = .ok (.iaload, 1))
    (kk : W p l e R s m args below meth c H locs cells slots Q (F0 m (pc + 1) ls (.int (nI (f j)) :: rest))) : W p l e R s m args below meth c H locs cells slots Q (F0 m pc ls (.int (nI j) :: .ref a :: rest)) := by
  refine va_iald hx hb hK hP q0 t0 ha ht (vp_in_nI hj hn) hdg ?_
  rw [nI_clamp (by omega)]
  exact kk
theorem xz_st (hx : p.tables.exec = Jvm.exec) (hb : c.code = cc) (hK : va_K D cl tys s) (hP : va_P D cl ws H) (hD : va_D A ws) (hS : va_S A H0 H locs) (q0 t0 : Nat) {cA : ClassId} {n : Nat} {f : Nat → Bool} (ha : ws[q0]? = some (a, .inl (cA, n, .inl (bF f)))) (ht : tys[t0]? = some (cA, .boolean)) {j : Nat} {b : Bool} (hj : j < n) (hn : n < 2 ^ 31) (hdg : decode cc pc = .ok (.bastore, 1))
    (kk : ∀ (H1 : Heap) (locs1 : List Loc), va_P D cl (ws.set q0 (a, .inl (cA, n, .inl (bF (uB f j b))))) H1 → va_D A (ws.set q0 (a, .inl (cA, n, .inl (bF (uB f j b))))) → va_S A H0 H1 locs1 → W p l e R s m args below meth c H1 locs1 cells slots Q (F0 m (pc + 1) ls rest)) : W p l e R s m args below meth c H locs cells slots Q (F0 m pc ls (.int (bI b) :: .int (nI j) :: .ref a :: rest)) := by
  refine va_zast hx hb hK hP hD hS q0 t0 ha ht (vp_in_nI hj hn) hdg (fun H1 locs1 hP hD hS => ?_)
  rw [nI_clamp (by omega), bI_vp, uB_up] at hP hD
  exact kk H1 locs1 hP hD hS
theorem xn_st (hx : p.tables.exec = Jvm.exec) (hb : c.code = cc) (hK : va_K D cl tys s) (hP : va_P D cl ws H) (hD : va_D A ws) (hS : va_S A H0 H locs) (q0 t0 : Nat) {cA : ClassId} {n : Nat} {f : Nat → Nat} (ha : ws[q0]? = some (a, .inl (cA, n, .inl (nF f)))) (ht : tys[t0]? = some (cA, .int)) {j x : Nat} (hj : j < n) (hn : n < 2 ^ 31) (hdg : decode cc pc = .ok (.iastore, 1))
    (kk : ∀ (H1 : Heap) (locs1 : List Loc), va_P D cl (ws.set q0 (a, .inl (cA, n, .inl (nF (uN f j x))))) H1 → va_D A (ws.set q0 (a, .inl (cA, n, .inl (nF (uN f j x))))) → va_S A H0 H1 locs1 → W p l e R s m args below meth c H1 locs1 cells slots Q (F0 m (pc + 1) ls rest)) : W p l e R s m args below meth c H locs cells slots Q (F0 m pc ls (.int (nI x) :: .int (nI j) :: .ref a :: rest)) := by
  refine va_iast hx hb hK hP hD hS q0 t0 ha ht (vp_in_nI hj hn) hdg (fun H1 locs1 hP hD hS => ?_)
  rw [nI_clamp (by omega), uN_up] at hP hD
  exact kk H1 locs1 hP hD hS
variable {off : Int} {tgt : Nat}
theorem xb_if_eq {b : Bool} (hx : p.tables.exec = Jvm.exec) (hb : c.code = cc) (hdg : decode cc pc = .ok (.ifCond .eq off, 3)) (ht : (pc : Int) + off = (tgt : Int))
    (kt : b = false → W p l e R s m args below meth c H locs cells slots Q (F0 m tgt ls rest)) (kf : b = true → W p l e R s m args below meth c H locs cells slots Q (F0 m (pc + 3) ls rest)) : W p l e R s m args below meth c H locs cells slots Q (F0 m pc ls (.int (bI b) :: rest)) :=
  lv_if_eq hx hb hdg ht (fun h => kt ((bI_0 b).mp h)) (fun h => kf (by cases b; exact absurd rfl h; rfl))
theorem xb_if_ne {b : Bool} (hx : p.tables.exec = Jvm.exec) (hb : c.code = cc) (hdg : decode cc pc = .ok (.ifCond .ne off, 3)) (ht : (pc : Int) + off = (tgt : Int))
    (kt : b = true → W p l e R s m args below meth c H locs cells slots Q (F0 m tgt ls rest)) (kf : b = false → W p l e R s m args below meth c H locs cells slots Q (F0 m (pc + 3) ls rest)) : W p l e R s m args below meth c H locs cells slots Q (F0 m pc ls (.int (bI b) :: rest)) :=
  lv_if_ne hx hb hdg ht (fun h => kt (by cases b; exact absurd rfl h; rfl)) (fun h => kf ((bI_0 b).mp h))
theorem xb_icmp_eq {x y : Bool} (hx : p.tables.exec = Jvm.exec) (hb : c.code = cc) (hdg : decode cc pc = .ok (.if_icmp .eq off, 3)) (ht : (pc : Int) + off = (tgt : Int))
    (kt : x = y → W p l e R s m args below meth c H locs cells slots Q (F0 m tgt ls rest)) (kf : ¬ x = y → W p l e R s m args below meth c H locs cells slots Q (F0 m (pc + 3) ls rest)) : W p l e R s m args below meth c H locs cells slots Q (F0 m pc ls (.int (bI y) :: .int (bI x) :: rest)) :=
  lv_icmp_eq hx hb hdg ht (fun h => kt ((bI_inj x y).mp h)) (fun h => kf (fun q => h ((bI_inj x y).mpr q)))
theorem xn_if_eq {x : Nat} (hb1 : x < 2 ^ 31) (hx : p.tables.exec = Jvm.exec) (hb : c.code = cc) (hdg : decode cc pc = .ok (.ifCond .eq off, 3)) (ht : (pc : Int) + off = (tgt : Int))
    (kt : x = 0 → W p l e R s m args below meth c H locs cells slots Q (F0 m tgt ls rest)) (kf : ¬ x = 0 → W p l e R s m args below meth c H locs cells slots Q (F0 m (pc + 3) ls rest)) : W p l e R s m args below meth c H locs cells slots Q (F0 m pc ls (.int (nI x) :: rest)) :=
  lv_if_eq hx hb hdg ht (fun h => kt ((nI_eq hb1 (by decide : 0 < 2 ^ 31)).mp h)) (fun h => kf (fun q => h (by rw [q]; rfl)))
theorem xn_if_ne {x : Nat} (hb1 : x < 2 ^ 31) (hx : p.tables.exec = Jvm.exec) (hb : c.code = cc) (hdg : decode cc pc = .ok (.ifCond .ne off, 3)) (ht : (pc : Int) + off = (tgt : Int))
    (kt : ¬ x = 0 → W p l e R s m args below meth c H locs cells slots Q (F0 m tgt ls rest)) (kf : x = 0 → W p l e R s m args below meth c H locs cells slots Q (F0 m (pc + 3) ls rest)) : W p l e R s m args below meth c H locs cells slots Q (F0 m pc ls (.int (nI x) :: rest)) :=
  lv_if_ne hx hb hdg ht (fun h => kt (fun q => h (by rw [q]; rfl))) (fun h => kf ((nI_eq hb1 (by decide : 0 < 2 ^ 31)).mp h))
theorem xn_icmp_eq {x y : Nat} (h1 : x < 2 ^ 31) (h2 : y < 2 ^ 31) (hx : p.tables.exec = Jvm.exec) (hb : c.code = cc) (hdg : decode cc pc = .ok (.if_icmp .eq off, 3)) (ht : (pc : Int) + off = (tgt : Int))
    (kt : x = y → W p l e R s m args below meth c H locs cells slots Q (F0 m tgt ls rest)) (kf : ¬ x = y → W p l e R s m args below meth c H locs cells slots Q (F0 m (pc + 3) ls rest)) : W p l e R s m args below meth c H locs cells slots Q (F0 m pc ls (.int (nI y) :: .int (nI x) :: rest)) :=
  lv_icmp_eq hx hb hdg ht (fun h => kt ((nI_eq h1 h2).mp h)) (fun h => kf (fun q => h ((nI_eq h1 h2).mpr q)))
theorem xn_icmp_ne {x y : Nat} (h1 : x < 2 ^ 31) (h2 : y < 2 ^ 31) (hx : p.tables.exec = Jvm.exec) (hb : c.code = cc) (hdg : decode cc pc = .ok (.if_icmp .ne off, 3)) (ht : (pc : Int) + off = (tgt : Int))
    (kt : ¬ x = y → W p l e R s m args below meth c H locs cells slots Q (F0 m tgt ls rest)) (kf : x = y → W p l e R s m args below meth c H locs cells slots Q (F0 m (pc + 3) ls rest)) : W p l e R s m args below meth c H locs cells slots Q (F0 m pc ls (.int (nI y) :: .int (nI x) :: rest)) :=
  lv_icmp_ne hx hb hdg ht (fun h => kt (fun q => h ((nI_eq h1 h2).mpr q))) (fun h => kf ((nI_eq h1 h2).mp h))
theorem xn_icmp_ge {x y : Nat} (h1 : x < 2 ^ 31) (h2 : y < 2 ^ 31) (hx : p.tables.exec = Jvm.exec) (hb : c.code = cc) (hdg : decode cc pc = .ok (.if_icmp .ge off, 3)) (ht : (pc : Int) + off = (tgt : Int))
    (kt : y ≤ x → W p l e R s m args below meth c H locs cells slots Q (F0 m tgt ls rest)) (kf : ¬ y ≤ x → W p l e R s m args below meth c H locs cells slots Q (F0 m (pc + 3) ls rest)) : W p l e R s m args below meth c H locs cells slots Q (F0 m pc ls (.int (nI y) :: .int (nI x) :: rest)) :=
  lv_icmp_ge hx hb hdg ht (fun h => kt ((nI_leI h2 h1).mp h)) (fun h => kf (fun q => h ((nI_leI h2 h1).mpr q)))
theorem xn_icmp_gt {x y : Nat} (h1 : x < 2 ^ 31) (h2 : y < 2 ^ 31) (hx : p.tables.exec = Jvm.exec) (hb : c.code = cc) (hdg : decode cc pc = .ok (.if_icmp .gt off, 3)) (ht : (pc : Int) + off = (tgt : Int))
    (kt : y < x → W p l e R s m args below meth c H locs cells slots Q (F0 m tgt ls rest)) (kf : ¬ y < x → W p l e R s m args below meth c H locs cells slots Q (F0 m (pc + 3) ls rest)) : W p l e R s m args below meth c H locs cells slots Q (F0 m pc ls (.int (nI y) :: .int (nI x) :: rest)) :=
  lv_icmp_gt hx hb hdg ht (fun h => kt ((nI_ltI h2 h1).mp h)) (fun h => kf (fun q => h ((nI_ltI h2 h1).mpr q)))
theorem xn_icmp_le {x y : Nat} (h1 : x < 2 ^ 31) (h2 : y < 2 ^ 31) (hx : p.tables.exec = Jvm.exec) (hb : c.code = cc) (hdg : decode cc pc = .ok (.if_icmp .le off, 3)) (ht : (pc : Int) + off = (tgt : Int))
    (kt : x ≤ y → W p l e R s m args below meth c H locs cells slots Q (F0 m tgt ls rest)) (kf : ¬ x ≤ y → W p l e R s m args below meth c H locs cells slots Q (F0 m (pc + 3) ls rest)) : W p l e R s m args below meth c H locs cells slots Q (F0 m pc ls (.int (nI y) :: .int (nI x) :: rest)) :=
  lv_icmp_le hx hb hdg ht (fun h => kt ((nI_leI h1 h2).mp h)) (fun h => kf (fun q => h ((nI_leI h1 h2).mpr q)))
theorem xn_if_lt {x : Nat} (h1 : x < 2 ^ 31) (hx : p.tables.exec = Jvm.exec) (hb : c.code = cc) (hdg : decode cc pc = .ok (.ifCond .lt off, 3)) (ht : (pc : Int) + off = (tgt : Int))
    (kf : W p l e R s m args below meth c H locs cells slots Q (F0 m (pc + 3) ls rest)) : W p l e R s m args below meth c H locs cells slots Q (F0 m pc ls (.int (nI x) :: rest)) :=
  lv_if_lt hx hb hdg ht (fun h => absurd h (nI_pos h1)) (fun _ => kf)
end XN
theorem xn_m1 {k : Nat} (h : k < 2 ^ 31) : ¬ nI k = -1 := by
  intro q
  have h2 := nI_toInt h
  rw [q] at h2
  have h3 : (-1 : Int32).toInt = -1 := by decide
  omega
theorem xj_goal {p : Program} {l : Launch} {e : Env} {R : Room} {s : State} {m : MethodId} {args : Array Value} {below : List Frame} {meth : Method} {c : Code} {H : Heap} {locs : List Loc} {cells slots : Nat} {Q : State → Prop} {ls : Array Slot} {pc pcJ : Nat} {st0 stJ : List Value} {P : Prop}
    (k : P → W p l e R s m args below meth c H locs cells slots Q (F0 m pcJ ls stJ)) (h : (P → W p l e R s m args below meth c H locs cells slots Q (F0 m pcJ ls stJ)) → W p l e R s m args below meth c H locs cells slots Q (F0 m pc ls st0)) : W p l e R s m args below meth c H locs cells slots Q (F0 m pc ls st0) := h k
end
section
def sB (B : Nat → Nat → Bool) (i k : Nat) (b : Bool) : Nat → Nat → Bool := fun j => if j = i then uB (B i) k b else B j
def sN (N : Nat → Nat → Nat) (i k x : Nat) : Nat → Nat → Nat := fun j => if j = i then uN (N i) k x else N j
def mIsC (x : Int32) : Bool := decide (x = 0) || decide (x = nI 1)
def mTh (x y : Bool) : Nat := if x = false then 1 else if y = false then 2 else 0
def mReq (B : Nat → Nat → Bool) (c k : Nat) : Bool := if B 4 (7 * c + 1) = false then B 1 (8 * c + k) else B 0 (8 * c + k)
def mRk (N : Nat → Nat → Nat) (c p : Nat) : Nat := (N 0 c + 1 + p) % 8
def mBlk (B : Nat → Nat → Bool) (c k : Nat) : Bool := B 2 (8 * c + k) && (!(B 4 (7 * c + 2)) || !(B 3 (8 * c + k)))
def mOwn (B : Nat → Nat → Bool) (c k : Nat) : Bool := decide (c = 0) && (decide (k = 2) && B 4 (7 * 0 + 3))
def mB1 (B : Nat → Nat → Bool) (c k : Nat) : Bool := mBlk B c k && !(mOwn B c k)
def mHit (B : Nat → Nat → Bool) (c k : Nat) : Bool := !(mB1 B c k) && (mReq B c k && !(B 3 (8 * c + k)))
def mDlF (B : Nat → Nat → Bool) (N : Nat → Nat → Nat) (c : Nat) : Nat → Nat → Bool → Option Nat
  | 0, _, _ => none
  | n + 1, p, bl => if bl = true then none else if mHit B c (mRk N c p) = true then some (mRk N c p) else mDlF B N c n (p + 1) (mB1 B c (mRk N c p) || mBlk B c (mRk N c p))
def mDel (B : Nat → Nat → Bool) (N : Nat → Nat → Nat) (c : Nat) : Option Nat := mDlF B N c 8 0 (!(B 4 (7 * c + 0)))
theorem mDlF_lt (B : Nat → Nat → Bool) (N : Nat → Nat → Nat) (c : Nat) : ∀ (n p : Nat) (bl : Bool) (k : Nat), mDlF B N c n p bl = some k → k < 8 := by
  intro n
  induction n with
  | zero => intro p bl k h; cases h
  | succ n ih =>
    intro p bl k h
    rw [mDlF] at h
    split at h
    · cases h
    · split at h
      · cases h; exact Nat.mod_lt _ (by decide)
      · exact ih _ _ _ h
theorem mDel_lt {B : Nat → Nat → Bool} {N : Nat → Nat → Nat} {c k : Nat} (h : mDel B N c = some k) : k < 8 := mDlF_lt B N c _ _ _ _ h
def mTopF (B : Nat → Nat → Bool) (N : Nat → Nat → Nat) (c : Nat) : Nat → Nat → Option Nat
  | 0, _ => none
  | n + 1, p => if mBlk B c (mRk N c p) = false then mTopF B N c n (p + 1) else some (mRk N c p)
def mTop (B : Nat → Nat → Bool) (N : Nat → Nat → Nat) (c : Nat) : Option Nat := mTopF B N c 8 0
theorem mTopF_lt (B : Nat → Nat → Bool) (N : Nat → Nat → Nat) (c : Nat) : ∀ (n p k : Nat), mTopF B N c n p = some k → k < 8 := by
  intro n
  induction n with
  | zero => intro p k h; cases h
  | succ n ih =>
    intro p k h
    rw [mTopF] at h
    split at h
    · exact ih _ _ h
    · cases h; exact Nat.mod_lt _ (by decide)
theorem mTop_lt {B : Nat → Nat → Bool} {N : Nat → Nat → Nat} {c k : Nat} (h : mTop B N c = some k) : k < 8 := mTopF_lt B N c _ _ _ h
def mRaise (B : Nat → Nat → Bool) (i : Nat) (b : Bool) : Nat → Nat → Bool := if B 0 i = b then B else sB (sB B 0 i b) 1 i b
def mFol (B : Nat → Nat → Bool) (N : Nat → Nat → Nat) : Nat → Nat → Bool := mRaise B 2 (mDel B N 1).isSome
def mTakB (B : Nat → Nat → Bool) (c k : Nat) : Nat → Nat → Bool := if B 4 (7 * c + 4) = true then sB B 1 (8 * c + k) false else sB (sB B 1 (8 * c + k) false) 2 (8 * c + k) true
def mTakN (B : Nat → Nat → Bool) (N : Nat → Nat → Nat) (c k : Nat) : Nat → Nat → Nat := if B 4 (7 * c + 4) = true then (if B 4 (7 * c + 5) = false then sN N 4 1 (N 4 1 + 1) else sN (sN N 4 1 (N 4 1 + 1)) 0 c k) else sN N 4 1 (N 4 1 + 1)
def mClr (B : Nat → Nat → Bool) (c : Nat) : Nat → (Nat → Nat → Bool)
  | 0 => B
  | j + 1 => sB (sB (sB (mClr B c j) 3 (8 * c + j) false) 2 (8 * c + j) false) 1 (8 * c + j) false
def mMod (B : Nat → Nat → Bool) (c w : Nat) : Nat → (Nat → Nat → Bool)
  | 0 => B
  | j + 1 => sB (mMod B c w j) 4 (7 * c + j) (decide (j = 1) && decide (w / 8 % 2 = 1))
def mBegB (B : Nat → Nat → Bool) (c w : Nat) : Nat → Nat → Bool := sB (mMod (mClr B c 8) c w 7) 5 c (decide (w % 2 = 1))
def mBegN (N : Nat → Nat → Nat) (c : Nat) : Nat → Nat → Nat := sN (sN (sN N 0 c 7) 3 c 0) 2 c 2
def mMsk (B : Nat → Nat → Bool) (c w : Nat) : Nat → (Nat → Nat → Bool)
  | 0 => B
  | j + 1 => sB (mMsk B c w j) 3 (8 * c + j) (decide (w / 2 ^ j % 2 = 1))
def mSecB (B : Nat → Nat → Bool) (N : Nat → Nat → Nat) (c w : Nat) : Nat → Nat → Bool := if ¬ N 2 c = 2 then (if ¬ N 2 c = 3 then (if ¬ N 2 c = 4 then mMsk B c w 8 else sB (sB (sB B 4 (7 * c + 4) (decide (w / 2 % 2 = 1))) 4 (7 * c + 3) (decide (w / 16 % 2 = 1))) 4 (7 * c) true) else (if B 5 c = false then sB B 4 (7 * c) true else sB B 4 (7 * c) false)) else B
def mSecN (B : Nat → Nat → Bool) (N : Nat → Nat → Nat) (c w : Nat) : Nat → Nat → Nat := if ¬ N 2 c = 2 then (if ¬ N 2 c = 3 then (if ¬ N 2 c = 4 then N else sN N 2 c 0) else (if B 5 c = false then sN N 2 c 0 else sN N 2 c 4)) else sN (sN N 1 c (w - w % 8)) 2 c 3
def mEndK (B : Nat → Nat → Bool) (N : Nat → Nat → Nat) (c o l : Nat) : Option Nat := if o = 1 then mTop B N c else if ¬ o = 5 then some l else mTop B N c
def mEndS (B : Nat → Nat → Bool) (N : Nat → Nat → Nat) (c o k : Nat) : (Nat → Nat → Bool) × (Nat → Nat → Nat) := (sB B 2 (8 * c + k) false, sN (sN N 4 3 (if B 2 (8 * c + k) = false then N 4 3 else N 4 3 + 1)) 0 c (if o ≤ 3 then N 0 c else k))
def mEnd (B : Nat → Nat → Bool) (N : Nat → Nat → Nat) (c o l : Nat) : (Nat → Nat → Bool) × (Nat → Nat → Nat) := match mEndK B N c o l with
  | none => (B, N)
  | some k => mEndS B N c o k
def mOrd (B : Nat → Nat → Bool) (N : Nat → Nat → Nat) (c w : Nat) : (Nat → Nat → Bool) × (Nat → Nat → Nat) := if ¬ w / 32 % 2 = 1 then (if ¬ w / 32 = 6 then (if w / 32 = 2 then (B, N) else (sB B 4 (7 * c + 5) (decide (w / 32 = 4)), N)) else (B, sN N 0 c (w % 8))) else mEnd B N c (w / 32) (w % 8)
def mSp (B : Nat → Nat → Bool) (c w : Nat) : Bool := decide (w / 32 % 4 = 3) || (!(decide (w / 32 % 4 = 2)) && B 4 (7 * c + 2))
def mSetB (B : Nat → Nat → Bool) (c w : Nat) : Nat → Nat → Bool := sB (sB B 4 (7 * c + 2) (mSp B c w)) 4 (7 * c + 6) ((sB B 4 (7 * c + 2) (mSp B c w)) 4 (7 * c + 6) || decide (w / 4 % 2 = 1))
def mSetN (N : Nat → Nat → Nat) (c w : Nat) : Nat → Nat → Nat := sN N 3 c (if ¬ w % 4 = 2 then (if ¬ w % 4 = 3 then N 3 c else 1) else 0)
def mSel (B : Nat → Nat → Bool) (c i k : Nat) : Bool := if ¬ i = 0 then (if ¬ i = 1 then (if ¬ i = 2 then B 0 (8 * c + k) else B 3 (8 * c + k)) else B 2 (8 * c + k)) else mReq B c k
def mBits (f : Nat → Bool) : Nat → Nat
  | 0 => 0
  | j + 1 => if f j = false then mBits f j else mBits f j ||| 1 * 2 ^ j
theorem xs_l : ∀ n, n < 32 → ((nI n &&& 31).toBitVec.smod 32).toNat = n := by decide +kernel
theorem xs_shr {w k : Nat} (hw : w < 2 ^ 31) (hk : k < 32) : nI w >>> (nI k &&& 31) = nI (w / 2 ^ k) := pk_shrN hw _ k (xs_l k hk)
theorem xs_shl {w k : Nat} (hk : k < 32) (h : w * 2 ^ k < 2 ^ 32) : nI w <<< (nI k &&& 31) = nI (w * 2 ^ k) := pk_shlN _ k (xs_l k hk) h
theorem xs_or (a b : Nat) : nI a ||| nI b = nI (a ||| b) := by
  apply Int32.toBitVec_inj.mp
  show BitVec.ofNat 32 a ||| BitVec.ofNat 32 b = BitVec.ofNat 32 (a ||| b)
  exact BitVec.eq_of_toNat_eq (by simp [BitVec.toNat_or, Nat.or_mod_two_pow])
def N8 (N : Nat → Nat → Nat) : Prop := ∀ c, c < 2 → N 0 c < 8
theorem uN8 {f : Nat → Nat} {c x d : Nat} (h1 : x < 8) (h2 : f d < 8) : uN f c x d < 8 := by unfold uN; split <;> assumption
theorem mBeg_lt {N : Nat → Nat → Nat} {c : Nat} (h : ∀ c, c < 2 → N 0 c < 8) : ∀ d, d < 2 → (mBegN N c) 0 d < 8 := fun d hd => uN8 (by decide) (h d hd)
theorem mTak_lt {B : Nat → Nat → Bool} {N : Nat → Nat → Nat} {c k : Nat} (hk : k < 8) (h : ∀ c, c < 2 → N 0 c < 8) : ∀ d, d < 2 → (mTakN B N c k) 0 d < 8 := by
  intro d hd
  unfold mTakN; split
  · split
    · exact h d hd
    · exact uN8 hk (h d hd)
  · exact h d hd
theorem mSec_lt {B : Nat → Nat → Bool} {N : Nat → Nat → Nat} {c w : Nat} (h : ∀ c, c < 2 → N 0 c < 8) : ∀ d, d < 2 → (mSecN B N c w) 0 d < 8 := by
  intro d hd
  unfold mSecN; split
  · split
    · split <;> exact h d hd
    · split <;> exact h d hd
  · exact h d hd
theorem mEnd_lt {B : Nat → Nat → Bool} {N : Nat → Nat → Nat} {c o l : Nat} (hc : c < 2) (hl : l < 8) (h : ∀ c, c < 2 → N 0 c < 8) : ∀ d, d < 2 → (mEnd B N c o l).2 0 d < 8 := by
  intro d hd
  unfold mEnd
  cases e : mEndK B N c o l with
  | none => exact h d hd
  | some k =>
    have hk : k < 8 := by
      unfold mEndK at e; split at e
      · exact mTop_lt e
      · split at e
        · cases e; exact hl
        · exact mTop_lt e
    refine uN8 ?_ (h d hd)
    split
    · exact h c hc
    · exact hk
theorem mOrd_lt {B : Nat → Nat → Bool} {N : Nat → Nat → Nat} {c w : Nat} (hc : c < 2) (h : ∀ c, c < 2 → N 0 c < 8) : ∀ d, d < 2 → (mOrd B N c w).2 0 d < 8 := by
  intro d hd
  unfold mOrd; split
  · split
    · split <;> exact h d hd
    · exact uN8 (Nat.mod_lt _ (by decide)) (h d hd)
  · exact mEnd_lt hc (Nat.mod_lt _ (by decide)) h d hd
def mP0 (B : Nat → Nat → Bool) (N : Nat → Nat → Nat) (c w : Nat) : (Nat → Nat → Bool) × (Nat → Nat → Nat) := if ¬ w / 16 % 2 = 1 then (if ¬ w / 8 % 2 = 0 then (mSetB B c w, mSetN N c w) else mOrd B N c w) else (mBegB B c w, mBegN N c)
theorem mIsC_ok {c : Nat} (h : c < 2) : mIsC (nI c) = true := by
  rcases (show c = 0 ∨ c = 1 by omega) with rfl | rfl <;> rfl
def mOkW (w m : Int32) : Bool := decide (¬ w < 0) && decide (¬ m < w)
def mRdR (B : Nat → Nat → Bool) (N : Nat → Nat → Nat) (c : Nat) : Nat := if B 4 (7 * c + 6) = true then (match mDel (sB B 4 (7 * c + 6) false) N c with | none => 0 | some k => 128 + k) else mBits (mSel B c (N 3 c)) 8
def mRd (B : Nat → Nat → Bool) (N : Nat → Nat → Nat) (c : Nat) : (Nat → Nat → Bool) × (Nat → Nat → Nat) := if B 4 (7 * c + 6) = true then (match mDel (sB B 4 (7 * c + 6) false) N c with | none => (sB B 4 (7 * c + 6) false, N) | some k => (mFol (mTakB (sB B 4 (7 * c + 6) false) c k) (mTakN (sB B 4 (7 * c + 6) false) N c k), mTakN (sB B 4 (7 * c + 6) false) N c k)) else (B, N)
end
section
theorem dX2_init_0 : decode cX2_init 0 = .ok (.aload_n 0, 1) := by decide +kernel
theorem dX2_init_1 : decode cX2_init 1 = .ok (.invokespecial 1, 3) := by decide +kernel
theorem dX2_init_4 : decode cX2_init 4 = .ok (.aload_n 0, 1) := by decide +kernel
theorem dX2_init_5 : decode cX2_init 5 = .ok (.bipush 16, 2) := by decide +kernel
theorem dX2_init_7 : decode cX2_init 7 = .ok (.newarray .boolean, 2) := by decide +kernel
theorem dX2_init_9 : decode cX2_init 9 = .ok (.putfield 7, 3) := by decide +kernel
theorem dX2_init_12 : decode cX2_init 12 = .ok (.aload_n 0, 1) := by decide +kernel
theorem dX2_init_13 : decode cX2_init 13 = .ok (.bipush 16, 2) := by decide +kernel
theorem dX2_init_15 : decode cX2_init 15 = .ok (.newarray .boolean, 2) := by decide +kernel
theorem dX2_init_17 : decode cX2_init 17 = .ok (.putfield 13, 3) := by decide +kernel
theorem dX2_init_20 : decode cX2_init 20 = .ok (.aload_n 0, 1) := by decide +kernel
theorem dX2_init_21 : decode cX2_init 21 = .ok (.bipush 16, 2) := by decide +kernel
theorem dX2_init_23 : decode cX2_init 23 = .ok (.newarray .boolean, 2) := by decide +kernel
theorem dX2_init_25 : decode cX2_init 25 = .ok (.putfield 16, 3) := by decide +kernel
theorem dX2_init_28 : decode cX2_init 28 = .ok (.aload_n 0, 1) := by decide +kernel
theorem dX2_init_29 : decode cX2_init 29 = .ok (.bipush 16, 2) := by decide +kernel
theorem dX2_init_31 : decode cX2_init 31 = .ok (.newarray .boolean, 2) := by decide +kernel
theorem dX2_init_33 : decode cX2_init 33 = .ok (.putfield 19, 3) := by decide +kernel
theorem dX2_init_36 : decode cX2_init 36 = .ok (.aload_n 0, 1) := by decide +kernel
theorem dX2_init_37 : decode cX2_init 37 = .ok (.iconst 2, 1) := by decide +kernel
theorem dX2_init_38 : decode cX2_init 38 = .ok (.newarray .int, 2) := by decide +kernel
theorem dX2_init_40 : decode cX2_init 40 = .ok (.putfield 22, 3) := by decide +kernel
theorem dX2_init_43 : decode cX2_init 43 = .ok (.aload_n 0, 1) := by decide +kernel
theorem dX2_init_44 : decode cX2_init 44 = .ok (.iconst 2, 1) := by decide +kernel
theorem dX2_init_45 : decode cX2_init 45 = .ok (.newarray .int, 2) := by decide +kernel
theorem dX2_init_47 : decode cX2_init 47 = .ok (.putfield 26, 3) := by decide +kernel
theorem dX2_init_50 : decode cX2_init 50 = .ok (.aload_n 0, 1) := by decide +kernel
theorem dX2_init_51 : decode cX2_init 51 = .ok (.iconst 2, 1) := by decide +kernel
theorem dX2_init_52 : decode cX2_init 52 = .ok (.newarray .int, 2) := by decide +kernel
theorem dX2_init_54 : decode cX2_init 54 = .ok (.putfield 29, 3) := by decide +kernel
theorem dX2_init_57 : decode cX2_init 57 = .ok (.aload_n 0, 1) := by decide +kernel
theorem dX2_init_58 : decode cX2_init 58 = .ok (.iconst 2, 1) := by decide +kernel
theorem dX2_init_59 : decode cX2_init 59 = .ok (.newarray .int, 2) := by decide +kernel
theorem dX2_init_61 : decode cX2_init 61 = .ok (.putfield 32, 3) := by decide +kernel
theorem dX2_init_64 : decode cX2_init 64 = .ok (.aload_n 0, 1) := by decide +kernel
theorem dX2_init_65 : decode cX2_init 65 = .ok (.bipush 14, 2) := by decide +kernel
theorem dX2_init_67 : decode cX2_init 67 = .ok (.newarray .boolean, 2) := by decide +kernel
theorem dX2_init_69 : decode cX2_init 69 = .ok (.putfield 35, 3) := by decide +kernel
theorem dX2_init_72 : decode cX2_init 72 = .ok (.aload_n 0, 1) := by decide +kernel
theorem dX2_init_73 : decode cX2_init 73 = .ok (.iconst 2, 1) := by decide +kernel
theorem dX2_init_74 : decode cX2_init 74 = .ok (.newarray .boolean, 2) := by decide +kernel
theorem dX2_init_76 : decode cX2_init 76 = .ok (.putfield 38, 3) := by decide +kernel
theorem dX2_init_79 : decode cX2_init 79 = .ok (.aload_n 0, 1) := by decide +kernel
theorem dX2_init_80 : decode cX2_init 80 = .ok (.getfield 22, 3) := by decide +kernel
theorem dX2_init_83 : decode cX2_init 83 = .ok (.iconst 0, 1) := by decide +kernel
theorem dX2_init_84 : decode cX2_init 84 = .ok (.bipush 7, 2) := by decide +kernel
theorem dX2_init_86 : decode cX2_init 86 = .ok (.iastore, 1) := by decide +kernel
theorem dX2_init_87 : decode cX2_init 87 = .ok (.aload_n 0, 1) := by decide +kernel
theorem dX2_init_88 : decode cX2_init 88 = .ok (.getfield 22, 3) := by decide +kernel
theorem dX2_init_91 : decode cX2_init 91 = .ok (.iconst 1, 1) := by decide +kernel
theorem dX2_init_92 : decode cX2_init 92 = .ok (.bipush 7, 2) := by decide +kernel
theorem dX2_init_94 : decode cX2_init 94 = .ok (.iastore, 1) := by decide +kernel
theorem dX2_init_95 : decode cX2_init 95 = .ok (.return_, 1) := by decide +kernel
theorem dX2_thrown_0 : decode cX2_thrown 0 = .ok (.aload_n 0, 1) := by decide +kernel
theorem dX2_thrown_1 : decode cX2_thrown 1 = .ok (.getfield 41, 3) := by decide +kernel
theorem dX2_thrown_4 : decode cX2_thrown 4 = .ok (.ireturn, 1) := by decide +kernel
theorem dX2_goes_0 : decode cX2_goes 0 = .ok (.aload_n 0, 1) := by decide +kernel
theorem dX2_goes_1 : decode cX2_goes 1 = .ok (.iload_n 1, 1) := by decide +kernel
theorem dX2_goes_2 : decode cX2_goes 2 = .ok (.ifCond .ne 7, 3) := by decide +kernel
theorem dX2_goes_5 : decode cX2_goes 5 = .ok (.iconst 1, 1) := by decide +kernel
theorem dX2_goes_6 : decode cX2_goes 6 = .ok (.goto 12, 3) := by decide +kernel
theorem dX2_goes_9 : decode cX2_goes 9 = .ok (.iload_n 2, 1) := by decide +kernel
theorem dX2_goes_10 : decode cX2_goes 10 = .ok (.ifCond .ne 7, 3) := by decide +kernel
theorem dX2_goes_13 : decode cX2_goes 13 = .ok (.iconst 2, 1) := by decide +kernel
theorem dX2_goes_14 : decode cX2_goes 14 = .ok (.goto 4, 3) := by decide +kernel
theorem dX2_goes_17 : decode cX2_goes 17 = .ok (.iconst 0, 1) := by decide +kernel
theorem dX2_goes_18 : decode cX2_goes 18 = .ok (.putfield 41, 3) := by decide +kernel
theorem dX2_goes_21 : decode cX2_goes 21 = .ok (.aload_n 0, 1) := by decide +kernel
theorem dX2_goes_22 : decode cX2_goes 22 = .ok (.getfield 41, 3) := by decide +kernel
theorem dX2_goes_25 : decode cX2_goes 25 = .ok (.ifCond .ne 7, 3) := by decide +kernel
theorem dX2_goes_28 : decode cX2_goes 28 = .ok (.iconst 1, 1) := by decide +kernel
theorem dX2_goes_29 : decode cX2_goes 29 = .ok (.goto 4, 3) := by decide +kernel
theorem dX2_goes_32 : decode cX2_goes 32 = .ok (.iconst 0, 1) := by decide +kernel
theorem dX2_goes_33 : decode cX2_goes 33 = .ok (.ireturn, 1) := by decide +kernel
theorem dX2_isController_0 : decode cX2_isController 0 = .ok (.iload_n 0, 1) := by decide +kernel
theorem dX2_isController_1 : decode cX2_isController 1 = .ok (.ifCond .eq 8, 3) := by decide +kernel
theorem dX2_isController_4 : decode cX2_isController 4 = .ok (.iload_n 0, 1) := by decide +kernel
theorem dX2_isController_5 : decode cX2_isController 5 = .ok (.iconst 1, 1) := by decide +kernel
theorem dX2_isController_6 : decode cX2_isController 6 = .ok (.if_icmp .ne 7, 3) := by decide +kernel
theorem dX2_isController_9 : decode cX2_isController 9 = .ok (.iconst 1, 1) := by decide +kernel
theorem dX2_isController_10 : decode cX2_isController 10 = .ok (.goto 4, 3) := by decide +kernel
theorem dX2_isController_13 : decode cX2_isController 13 = .ok (.iconst 0, 1) := by decide +kernel
theorem dX2_isController_14 : decode cX2_isController 14 = .ok (.ireturn, 1) := by decide +kernel
theorem dX2_is_0 : decode cX2_is 0 = .ok (.aload_n 0, 1) := by decide +kernel
theorem dX2_is_1 : decode cX2_is 1 = .ok (.getfield 35, 3) := by decide +kernel
theorem dX2_is_4 : decode cX2_is 4 = .ok (.bipush 7, 2) := by decide +kernel
theorem dX2_is_6 : decode cX2_is 6 = .ok (.iload_n 1, 1) := by decide +kernel
theorem dX2_is_7 : decode cX2_is 7 = .ok (.imul, 1) := by decide +kernel
theorem dX2_is_8 : decode cX2_is 8 = .ok (.iload_n 2, 1) := by decide +kernel
theorem dX2_is_9 : decode cX2_is 9 = .ok (.iadd, 1) := by decide +kernel
theorem dX2_is_10 : decode cX2_is 10 = .ok (.baload, 1) := by decide +kernel
theorem dX2_is_11 : decode cX2_is 11 = .ok (.ireturn, 1) := by decide +kernel
theorem dX2_requested_0 : decode cX2_requested 0 = .ok (.aload_n 0, 1) := by decide +kernel
theorem dX2_requested_1 : decode cX2_requested 1 = .ok (.iload_n 1, 1) := by decide +kernel
theorem dX2_requested_2 : decode cX2_requested 2 = .ok (.iconst 1, 1) := by decide +kernel
theorem dX2_requested_3 : decode cX2_requested 3 = .ok (.invokevirtual 45, 3) := by decide +kernel
theorem dX2_requested_6 : decode cX2_requested 6 = .ok (.ifCond .eq 17, 3) := by decide +kernel
theorem dX2_requested_9 : decode cX2_requested 9 = .ok (.aload_n 0, 1) := by decide +kernel
theorem dX2_requested_10 : decode cX2_requested 10 = .ok (.getfield 7, 3) := by decide +kernel
theorem dX2_requested_13 : decode cX2_requested 13 = .ok (.bipush 8, 2) := by decide +kernel
theorem dX2_requested_15 : decode cX2_requested 15 = .ok (.iload_n 1, 1) := by decide +kernel
theorem dX2_requested_16 : decode cX2_requested 16 = .ok (.imul, 1) := by decide +kernel
theorem dX2_requested_17 : decode cX2_requested 17 = .ok (.iload_n 2, 1) := by decide +kernel
theorem dX2_requested_18 : decode cX2_requested 18 = .ok (.iadd, 1) := by decide +kernel
theorem dX2_requested_19 : decode cX2_requested 19 = .ok (.baload, 1) := by decide +kernel
theorem dX2_requested_20 : decode cX2_requested 20 = .ok (.goto 14, 3) := by decide +kernel
theorem dX2_requested_23 : decode cX2_requested 23 = .ok (.aload_n 0, 1) := by decide +kernel
theorem dX2_requested_24 : decode cX2_requested 24 = .ok (.getfield 13, 3) := by decide +kernel
theorem dX2_requested_27 : decode cX2_requested 27 = .ok (.bipush 8, 2) := by decide +kernel
theorem dX2_requested_29 : decode cX2_requested 29 = .ok (.iload_n 1, 1) := by decide +kernel
theorem dX2_requested_30 : decode cX2_requested 30 = .ok (.imul, 1) := by decide +kernel
theorem dX2_requested_31 : decode cX2_requested 31 = .ok (.iload_n 2, 1) := by decide +kernel
theorem dX2_requested_32 : decode cX2_requested 32 = .ok (.iadd, 1) := by decide +kernel
theorem dX2_requested_33 : decode cX2_requested 33 = .ok (.baload, 1) := by decide +kernel
theorem dX2_requested_34 : decode cX2_requested 34 = .ok (.ireturn, 1) := by decide +kernel
theorem dX2_ranked_0 : decode cX2_ranked 0 = .ok (.aload_n 0, 1) := by decide +kernel
theorem dX2_ranked_1 : decode cX2_ranked 1 = .ok (.getfield 22, 3) := by decide +kernel
theorem dX2_ranked_4 : decode cX2_ranked 4 = .ok (.iload_n 1, 1) := by decide +kernel
theorem dX2_ranked_5 : decode cX2_ranked 5 = .ok (.iaload, 1) := by decide +kernel
theorem dX2_ranked_6 : decode cX2_ranked 6 = .ok (.iconst 1, 1) := by decide +kernel
theorem dX2_ranked_7 : decode cX2_ranked 7 = .ok (.iadd, 1) := by decide +kernel
theorem dX2_ranked_8 : decode cX2_ranked 8 = .ok (.iload_n 2, 1) := by decide +kernel
theorem dX2_ranked_9 : decode cX2_ranked 9 = .ok (.iadd, 1) := by decide +kernel
theorem dX2_ranked_10 : decode cX2_ranked 10 = .ok (.bipush 8, 2) := by decide +kernel
theorem dX2_ranked_12 : decode cX2_ranked 12 = .ok (.irem, 1) := by decide +kernel
theorem dX2_ranked_13 : decode cX2_ranked 13 = .ok (.ireturn, 1) := by decide +kernel
theorem dX2_blocks_0 : decode cX2_blocks 0 = .ok (.aload_n 0, 1) := by decide +kernel
theorem dX2_blocks_1 : decode cX2_blocks 1 = .ok (.getfield 16, 3) := by decide +kernel
theorem dX2_blocks_4 : decode cX2_blocks 4 = .ok (.bipush 8, 2) := by decide +kernel
theorem dX2_blocks_6 : decode cX2_blocks 6 = .ok (.iload_n 1, 1) := by decide +kernel
theorem dX2_blocks_7 : decode cX2_blocks 7 = .ok (.imul, 1) := by decide +kernel
theorem dX2_blocks_8 : decode cX2_blocks 8 = .ok (.iload_n 2, 1) := by decide +kernel
theorem dX2_blocks_9 : decode cX2_blocks 9 = .ok (.iadd, 1) := by decide +kernel
theorem dX2_blocks_10 : decode cX2_blocks 10 = .ok (.baload, 1) := by decide +kernel
theorem dX2_blocks_11 : decode cX2_blocks 11 = .ok (.ifCond .eq 30, 3) := by decide +kernel
theorem dX2_blocks_14 : decode cX2_blocks 14 = .ok (.aload_n 0, 1) := by decide +kernel
theorem dX2_blocks_15 : decode cX2_blocks 15 = .ok (.iload_n 1, 1) := by decide +kernel
theorem dX2_blocks_16 : decode cX2_blocks 16 = .ok (.iconst 2, 1) := by decide +kernel
theorem dX2_blocks_17 : decode cX2_blocks 17 = .ok (.invokevirtual 45, 3) := by decide +kernel
theorem dX2_blocks_20 : decode cX2_blocks 20 = .ok (.ifCond .eq 17, 3) := by decide +kernel
theorem dX2_blocks_23 : decode cX2_blocks 23 = .ok (.aload_n 0, 1) := by decide +kernel
theorem dX2_blocks_24 : decode cX2_blocks 24 = .ok (.getfield 19, 3) := by decide +kernel
theorem dX2_blocks_27 : decode cX2_blocks 27 = .ok (.bipush 8, 2) := by decide +kernel
theorem dX2_blocks_29 : decode cX2_blocks 29 = .ok (.iload_n 1, 1) := by decide +kernel
theorem dX2_blocks_30 : decode cX2_blocks 30 = .ok (.imul, 1) := by decide +kernel
theorem dX2_blocks_31 : decode cX2_blocks 31 = .ok (.iload_n 2, 1) := by decide +kernel
theorem dX2_blocks_32 : decode cX2_blocks 32 = .ok (.iadd, 1) := by decide +kernel
theorem dX2_blocks_33 : decode cX2_blocks 33 = .ok (.baload, 1) := by decide +kernel
theorem dX2_blocks_34 : decode cX2_blocks 34 = .ok (.ifCond .ne 7, 3) := by decide +kernel
theorem dX2_blocks_37 : decode cX2_blocks 37 = .ok (.iconst 1, 1) := by decide +kernel
theorem dX2_blocks_38 : decode cX2_blocks 38 = .ok (.goto 4, 3) := by decide +kernel
theorem dX2_blocks_41 : decode cX2_blocks 41 = .ok (.iconst 0, 1) := by decide +kernel
theorem dX2_blocks_42 : decode cX2_blocks 42 = .ok (.ireturn, 1) := by decide +kernel
theorem dX2_delivered_0 : decode cX2_delivered 0 = .ok (.aload_n 0, 1) := by decide +kernel
theorem dX2_delivered_1 : decode cX2_delivered 1 = .ok (.iload_n 1, 1) := by decide +kernel
theorem dX2_delivered_2 : decode cX2_delivered 2 = .ok (.iconst 0, 1) := by decide +kernel
theorem dX2_delivered_3 : decode cX2_delivered 3 = .ok (.invokevirtual 45, 3) := by decide +kernel
theorem dX2_delivered_6 : decode cX2_delivered 6 = .ok (.ifCond .ne 7, 3) := by decide +kernel
theorem dX2_delivered_9 : decode cX2_delivered 9 = .ok (.iconst 1, 1) := by decide +kernel
theorem dX2_delivered_10 : decode cX2_delivered 10 = .ok (.goto 4, 3) := by decide +kernel
theorem dX2_delivered_13 : decode cX2_delivered 13 = .ok (.iconst 0, 1) := by decide +kernel
theorem dX2_delivered_14 : decode cX2_delivered 14 = .ok (.istore_n 2, 1) := by decide +kernel
theorem dX2_delivered_15 : decode cX2_delivered 15 = .ok (.iconst 0, 1) := by decide +kernel
theorem dX2_delivered_16 : decode cX2_delivered 16 = .ok (.istore_n 3, 1) := by decide +kernel
theorem dX2_delivered_17 : decode cX2_delivered 17 = .ok (.iload_n 3, 1) := by decide +kernel
theorem dX2_delivered_18 : decode cX2_delivered 18 = .ok (.bipush 8, 2) := by decide +kernel
theorem dX2_delivered_20 : decode cX2_delivered 20 = .ok (.if_icmp .ge 120, 3) := by decide +kernel
theorem dX2_delivered_23 : decode cX2_delivered 23 = .ok (.iload_n 2, 1) := by decide +kernel
theorem dX2_delivered_24 : decode cX2_delivered 24 = .ok (.ifCond .ne 116, 3) := by decide +kernel
theorem dX2_delivered_27 : decode cX2_delivered 27 = .ok (.aload_n 0, 1) := by decide +kernel
theorem dX2_delivered_28 : decode cX2_delivered 28 = .ok (.iload_n 1, 1) := by decide +kernel
theorem dX2_delivered_29 : decode cX2_delivered 29 = .ok (.iload_n 3, 1) := by decide +kernel
theorem dX2_delivered_30 : decode cX2_delivered 30 = .ok (.invokevirtual 49, 3) := by decide +kernel
theorem dX2_delivered_33 : decode cX2_delivered 33 = .ok (.istore 4, 2) := by decide +kernel
theorem dX2_delivered_35 : decode cX2_delivered 35 = .ok (.iload_n 1, 1) := by decide +kernel
theorem dX2_delivered_36 : decode cX2_delivered 36 = .ok (.ifCond .ne 22, 3) := by decide +kernel
theorem dX2_delivered_39 : decode cX2_delivered 39 = .ok (.iload 4, 2) := by decide +kernel
theorem dX2_delivered_41 : decode cX2_delivered 41 = .ok (.iconst 2, 1) := by decide +kernel
theorem dX2_delivered_42 : decode cX2_delivered 42 = .ok (.if_icmp .ne 16, 3) := by decide +kernel
theorem dX2_delivered_45 : decode cX2_delivered 45 = .ok (.aload_n 0, 1) := by decide +kernel
theorem dX2_delivered_46 : decode cX2_delivered 46 = .ok (.iconst 0, 1) := by decide +kernel
theorem dX2_delivered_47 : decode cX2_delivered 47 = .ok (.iconst 3, 1) := by decide +kernel
theorem dX2_delivered_48 : decode cX2_delivered 48 = .ok (.invokevirtual 45, 3) := by decide +kernel
theorem dX2_delivered_51 : decode cX2_delivered 51 = .ok (.ifCond .eq 7, 3) := by decide +kernel
theorem dX2_delivered_54 : decode cX2_delivered 54 = .ok (.iconst 1, 1) := by decide +kernel
theorem dX2_delivered_55 : decode cX2_delivered 55 = .ok (.goto 4, 3) := by decide +kernel
theorem dX2_delivered_58 : decode cX2_delivered 58 = .ok (.iconst 0, 1) := by decide +kernel
theorem dX2_delivered_59 : decode cX2_delivered 59 = .ok (.istore 5, 2) := by decide +kernel
theorem dX2_delivered_61 : decode cX2_delivered 61 = .ok (.aload_n 0, 1) := by decide +kernel
theorem dX2_delivered_62 : decode cX2_delivered 62 = .ok (.iload_n 1, 1) := by decide +kernel
theorem dX2_delivered_63 : decode cX2_delivered 63 = .ok (.iload 4, 2) := by decide +kernel
theorem dX2_delivered_65 : decode cX2_delivered 65 = .ok (.invokevirtual 53, 3) := by decide +kernel
theorem dX2_delivered_68 : decode cX2_delivered 68 = .ok (.ifCond .eq 12, 3) := by decide +kernel
theorem dX2_delivered_71 : decode cX2_delivered 71 = .ok (.iload 5, 2) := by decide +kernel
theorem dX2_delivered_73 : decode cX2_delivered 73 = .ok (.ifCond .ne 7, 3) := by decide +kernel
theorem dX2_delivered_76 : decode cX2_delivered 76 = .ok (.iconst 1, 1) := by decide +kernel
theorem dX2_delivered_77 : decode cX2_delivered 77 = .ok (.goto 4, 3) := by decide +kernel
theorem dX2_delivered_80 : decode cX2_delivered 80 = .ok (.iconst 0, 1) := by decide +kernel
theorem dX2_delivered_81 : decode cX2_delivered 81 = .ok (.istore_n 2, 1) := by decide +kernel
theorem dX2_delivered_82 : decode cX2_delivered 82 = .ok (.iload_n 2, 1) := by decide +kernel
theorem dX2_delivered_83 : decode cX2_delivered 83 = .ok (.ifCond .ne 31, 3) := by decide +kernel
theorem dX2_delivered_86 : decode cX2_delivered 86 = .ok (.aload_n 0, 1) := by decide +kernel
theorem dX2_delivered_87 : decode cX2_delivered 87 = .ok (.iload_n 1, 1) := by decide +kernel
theorem dX2_delivered_88 : decode cX2_delivered 88 = .ok (.iload 4, 2) := by decide +kernel
theorem dX2_delivered_90 : decode cX2_delivered 90 = .ok (.invokevirtual 56, 3) := by decide +kernel
theorem dX2_delivered_93 : decode cX2_delivered 93 = .ok (.ifCond .eq 21, 3) := by decide +kernel
theorem dX2_delivered_96 : decode cX2_delivered 96 = .ok (.aload_n 0, 1) := by decide +kernel
theorem dX2_delivered_97 : decode cX2_delivered 97 = .ok (.getfield 19, 3) := by decide +kernel
theorem dX2_delivered_100 : decode cX2_delivered 100 = .ok (.bipush 8, 2) := by decide +kernel
theorem dX2_delivered_102 : decode cX2_delivered 102 = .ok (.iload_n 1, 1) := by decide +kernel
theorem dX2_delivered_103 : decode cX2_delivered 103 = .ok (.imul, 1) := by decide +kernel
theorem dX2_delivered_104 : decode cX2_delivered 104 = .ok (.iload 4, 2) := by decide +kernel
theorem dX2_delivered_106 : decode cX2_delivered 106 = .ok (.iadd, 1) := by decide +kernel
theorem dX2_delivered_107 : decode cX2_delivered 107 = .ok (.baload, 1) := by decide +kernel
theorem dX2_delivered_108 : decode cX2_delivered 108 = .ok (.ifCond .ne 6, 3) := by decide +kernel
theorem dX2_delivered_111 : decode cX2_delivered 111 = .ok (.iload 4, 2) := by decide +kernel
theorem dX2_delivered_113 : decode cX2_delivered 113 = .ok (.ireturn, 1) := by decide +kernel
theorem dX2_delivered_114 : decode cX2_delivered 114 = .ok (.iload_n 2, 1) := by decide +kernel
theorem dX2_delivered_115 : decode cX2_delivered 115 = .ok (.ifCond .ne 13, 3) := by decide +kernel
theorem dX2_delivered_118 : decode cX2_delivered 118 = .ok (.aload_n 0, 1) := by decide +kernel
theorem dX2_delivered_119 : decode cX2_delivered 119 = .ok (.iload_n 1, 1) := by decide +kernel
theorem dX2_delivered_120 : decode cX2_delivered 120 = .ok (.iload 4, 2) := by decide +kernel
theorem dX2_delivered_122 : decode cX2_delivered 122 = .ok (.invokevirtual 53, 3) := by decide +kernel
theorem dX2_delivered_125 : decode cX2_delivered 125 = .ok (.ifCond .eq 7, 3) := by decide +kernel
theorem dX2_delivered_128 : decode cX2_delivered 128 = .ok (.iconst 1, 1) := by decide +kernel
theorem dX2_delivered_129 : decode cX2_delivered 129 = .ok (.goto 4, 3) := by decide +kernel
theorem dX2_delivered_132 : decode cX2_delivered 132 = .ok (.iconst 0, 1) := by decide +kernel
theorem dX2_delivered_133 : decode cX2_delivered 133 = .ok (.istore_n 2, 1) := by decide +kernel
theorem dX2_delivered_134 : decode cX2_delivered 134 = .ok (.iinc 3 1, 3) := by decide +kernel
theorem dX2_delivered_137 : decode cX2_delivered 137 = .ok (.goto (-120), 3) := by decide +kernel
theorem dX2_delivered_140 : decode cX2_delivered 140 = .ok (.iconst (-1), 1) := by decide +kernel
theorem dX2_delivered_141 : decode cX2_delivered 141 = .ok (.ireturn, 1) := by decide +kernel
theorem dX2_raise_0 : decode cX2_raise 0 = .ok (.aload_n 0, 1) := by decide +kernel
theorem dX2_raise_1 : decode cX2_raise 1 = .ok (.getfield 7, 3) := by decide +kernel
theorem dX2_raise_4 : decode cX2_raise 4 = .ok (.iload_n 1, 1) := by decide +kernel
theorem dX2_raise_5 : decode cX2_raise 5 = .ok (.baload, 1) := by decide +kernel
theorem dX2_raise_6 : decode cX2_raise 6 = .ok (.iload_n 2, 1) := by decide +kernel
theorem dX2_raise_7 : decode cX2_raise 7 = .ok (.if_icmp .eq 17, 3) := by decide +kernel
theorem dX2_raise_10 : decode cX2_raise 10 = .ok (.aload_n 0, 1) := by decide +kernel
theorem dX2_raise_11 : decode cX2_raise 11 = .ok (.getfield 7, 3) := by decide +kernel
theorem dX2_raise_14 : decode cX2_raise 14 = .ok (.iload_n 1, 1) := by decide +kernel
theorem dX2_raise_15 : decode cX2_raise 15 = .ok (.iload_n 2, 1) := by decide +kernel
theorem dX2_raise_16 : decode cX2_raise 16 = .ok (.bastore, 1) := by decide +kernel
theorem dX2_raise_17 : decode cX2_raise 17 = .ok (.aload_n 0, 1) := by decide +kernel
theorem dX2_raise_18 : decode cX2_raise 18 = .ok (.getfield 13, 3) := by decide +kernel
theorem dX2_raise_21 : decode cX2_raise 21 = .ok (.iload_n 1, 1) := by decide +kernel
theorem dX2_raise_22 : decode cX2_raise 22 = .ok (.iload_n 2, 1) := by decide +kernel
theorem dX2_raise_23 : decode cX2_raise 23 = .ok (.bastore, 1) := by decide +kernel
theorem dX2_raise_24 : decode cX2_raise 24 = .ok (.return_, 1) := by decide +kernel
theorem dX2_follow_0 : decode cX2_follow 0 = .ok (.aload_n 0, 1) := by decide +kernel
theorem dX2_follow_1 : decode cX2_follow 1 = .ok (.iconst 2, 1) := by decide +kernel
theorem dX2_follow_2 : decode cX2_follow 2 = .ok (.aload_n 0, 1) := by decide +kernel
theorem dX2_follow_3 : decode cX2_follow 3 = .ok (.iconst 1, 1) := by decide +kernel
theorem dX2_follow_4 : decode cX2_follow 4 = .ok (.invokevirtual 59, 3) := by decide +kernel
theorem dX2_follow_7 : decode cX2_follow 7 = .ok (.iconst (-1), 1) := by decide +kernel
theorem dX2_follow_8 : decode cX2_follow 8 = .ok (.if_icmp .eq 7, 3) := by decide +kernel
theorem dX2_follow_11 : decode cX2_follow 11 = .ok (.iconst 1, 1) := by decide +kernel
theorem dX2_follow_12 : decode cX2_follow 12 = .ok (.goto 4, 3) := by decide +kernel
theorem dX2_follow_15 : decode cX2_follow 15 = .ok (.iconst 0, 1) := by decide +kernel
theorem dX2_follow_16 : decode cX2_follow 16 = .ok (.invokevirtual 63, 3) := by decide +kernel
theorem dX2_follow_19 : decode cX2_follow 19 = .ok (.return_, 1) := by decide +kernel
theorem dX2_taken_0 : decode cX2_taken 0 = .ok (.aload_n 0, 1) := by decide +kernel
theorem dX2_taken_1 : decode cX2_taken 1 = .ok (.dup, 1) := by decide +kernel
theorem dX2_taken_2 : decode cX2_taken 2 = .ok (.getfield 67, 3) := by decide +kernel
theorem dX2_taken_5 : decode cX2_taken 5 = .ok (.iconst 1, 1) := by decide +kernel
theorem dX2_taken_6 : decode cX2_taken 6 = .ok (.iadd, 1) := by decide +kernel
theorem dX2_taken_7 : decode cX2_taken 7 = .ok (.putfield 67, 3) := by decide +kernel
theorem dX2_taken_10 : decode cX2_taken 10 = .ok (.aload_n 0, 1) := by decide +kernel
theorem dX2_taken_11 : decode cX2_taken 11 = .ok (.getfield 13, 3) := by decide +kernel
theorem dX2_taken_14 : decode cX2_taken 14 = .ok (.bipush 8, 2) := by decide +kernel
theorem dX2_taken_16 : decode cX2_taken 16 = .ok (.iload_n 1, 1) := by decide +kernel
theorem dX2_taken_17 : decode cX2_taken 17 = .ok (.imul, 1) := by decide +kernel
theorem dX2_taken_18 : decode cX2_taken 18 = .ok (.iload_n 2, 1) := by decide +kernel
theorem dX2_taken_19 : decode cX2_taken 19 = .ok (.iadd, 1) := by decide +kernel
theorem dX2_taken_20 : decode cX2_taken 20 = .ok (.iconst 0, 1) := by decide +kernel
theorem dX2_taken_21 : decode cX2_taken 21 = .ok (.bastore, 1) := by decide +kernel
theorem dX2_taken_22 : decode cX2_taken 22 = .ok (.aload_n 0, 1) := by decide +kernel
theorem dX2_taken_23 : decode cX2_taken 23 = .ok (.iload_n 1, 1) := by decide +kernel
theorem dX2_taken_24 : decode cX2_taken 24 = .ok (.iconst 4, 1) := by decide +kernel
theorem dX2_taken_25 : decode cX2_taken 25 = .ok (.invokevirtual 45, 3) := by decide +kernel
theorem dX2_taken_28 : decode cX2_taken 28 = .ok (.ifCond .ne 18, 3) := by decide +kernel
theorem dX2_taken_31 : decode cX2_taken 31 = .ok (.aload_n 0, 1) := by decide +kernel
theorem dX2_taken_32 : decode cX2_taken 32 = .ok (.getfield 16, 3) := by decide +kernel
theorem dX2_taken_35 : decode cX2_taken 35 = .ok (.bipush 8, 2) := by decide +kernel
theorem dX2_taken_37 : decode cX2_taken 37 = .ok (.iload_n 1, 1) := by decide +kernel
theorem dX2_taken_38 : decode cX2_taken 38 = .ok (.imul, 1) := by decide +kernel
theorem dX2_taken_39 : decode cX2_taken 39 = .ok (.iload_n 2, 1) := by decide +kernel
theorem dX2_taken_40 : decode cX2_taken 40 = .ok (.iadd, 1) := by decide +kernel
theorem dX2_taken_41 : decode cX2_taken 41 = .ok (.iconst 1, 1) := by decide +kernel
theorem dX2_taken_42 : decode cX2_taken 42 = .ok (.bastore, 1) := by decide +kernel
theorem dX2_taken_43 : decode cX2_taken 43 = .ok (.goto 19, 3) := by decide +kernel
theorem dX2_taken_46 : decode cX2_taken 46 = .ok (.aload_n 0, 1) := by decide +kernel
theorem dX2_taken_47 : decode cX2_taken 47 = .ok (.iload_n 1, 1) := by decide +kernel
theorem dX2_taken_48 : decode cX2_taken 48 = .ok (.iconst 5, 1) := by decide +kernel
theorem dX2_taken_49 : decode cX2_taken 49 = .ok (.invokevirtual 45, 3) := by decide +kernel
theorem dX2_taken_52 : decode cX2_taken 52 = .ok (.ifCond .eq 10, 3) := by decide +kernel
theorem dX2_taken_55 : decode cX2_taken 55 = .ok (.aload_n 0, 1) := by decide +kernel
theorem dX2_taken_56 : decode cX2_taken 56 = .ok (.getfield 22, 3) := by decide +kernel
theorem dX2_taken_59 : decode cX2_taken 59 = .ok (.iload_n 1, 1) := by decide +kernel
theorem dX2_taken_60 : decode cX2_taken 60 = .ok (.iload_n 2, 1) := by decide +kernel
theorem dX2_taken_61 : decode cX2_taken 61 = .ok (.iastore, 1) := by decide +kernel
theorem dX2_taken_62 : decode cX2_taken 62 = .ok (.return_, 1) := by decide +kernel
theorem dX2_line_0 : decode cX2_line 0 = .ok (.aload_n 0, 1) := by decide +kernel
theorem dX2_line_1 : decode cX2_line 1 = .ok (.iload_n 1, 1) := by decide +kernel
theorem dX2_line_2 : decode cX2_line 2 = .ok (.ifCond .lt 18, 3) := by decide +kernel
theorem dX2_line_5 : decode cX2_line 5 = .ok (.iload_n 1, 1) := by decide +kernel
theorem dX2_line_6 : decode cX2_line 6 = .ok (.bipush 16, 2) := by decide +kernel
theorem dX2_line_8 : decode cX2_line 8 = .ok (.if_icmp .ge 12, 3) := by decide +kernel
theorem dX2_line_11 : decode cX2_line 11 = .ok (.iload_n 1, 1) := by decide +kernel
theorem dX2_line_12 : decode cX2_line 12 = .ok (.iconst 2, 1) := by decide +kernel
theorem dX2_line_13 : decode cX2_line 13 = .ok (.if_icmp .eq 7, 3) := by decide +kernel
theorem dX2_line_16 : decode cX2_line 16 = .ok (.iconst 1, 1) := by decide +kernel
theorem dX2_line_17 : decode cX2_line 17 = .ok (.goto 4, 3) := by decide +kernel
theorem dX2_line_20 : decode cX2_line 20 = .ok (.iconst 0, 1) := by decide +kernel
theorem dX2_line_21 : decode cX2_line 21 = .ok (.iconst 1, 1) := by decide +kernel
theorem dX2_line_22 : decode cX2_line 22 = .ok (.invokevirtual 70, 3) := by decide +kernel
theorem dX2_line_25 : decode cX2_line 25 = .ok (.ifCond .ne 5, 3) := by decide +kernel
theorem dX2_line_28 : decode cX2_line 28 = .ok (.iconst 0, 1) := by decide +kernel
theorem dX2_line_29 : decode cX2_line 29 = .ok (.ireturn, 1) := by decide +kernel
theorem dX2_line_30 : decode cX2_line 30 = .ok (.aload_n 0, 1) := by decide +kernel
theorem dX2_line_31 : decode cX2_line 31 = .ok (.getfield 7, 3) := by decide +kernel
theorem dX2_line_34 : decode cX2_line 34 = .ok (.iload_n 1, 1) := by decide +kernel
theorem dX2_line_35 : decode cX2_line 35 = .ok (.baload, 1) := by decide +kernel
theorem dX2_line_36 : decode cX2_line 36 = .ok (.istore_n 3, 1) := by decide +kernel
theorem dX2_line_37 : decode cX2_line 37 = .ok (.aload_n 0, 1) := by decide +kernel
theorem dX2_line_38 : decode cX2_line 38 = .ok (.iload_n 1, 1) := by decide +kernel
theorem dX2_line_39 : decode cX2_line 39 = .ok (.iload_n 2, 1) := by decide +kernel
theorem dX2_line_40 : decode cX2_line 40 = .ok (.invokevirtual 63, 3) := by decide +kernel
theorem dX2_line_43 : decode cX2_line 43 = .ok (.aload_n 0, 1) := by decide +kernel
theorem dX2_line_44 : decode cX2_line 44 = .ok (.invokevirtual 74, 3) := by decide +kernel
theorem dX2_line_47 : decode cX2_line 47 = .ok (.iload_n 3, 1) := by decide +kernel
theorem dX2_line_48 : decode cX2_line 48 = .ok (.iload_n 2, 1) := by decide +kernel
theorem dX2_line_49 : decode cX2_line 49 = .ok (.if_icmp .eq 7, 3) := by decide +kernel
theorem dX2_line_52 : decode cX2_line 52 = .ok (.iconst 1, 1) := by decide +kernel
theorem dX2_line_53 : decode cX2_line 53 = .ok (.goto 4, 3) := by decide +kernel
theorem dX2_line_56 : decode cX2_line 56 = .ok (.iconst 0, 1) := by decide +kernel
theorem dX2_line_57 : decode cX2_line 57 = .ok (.ireturn, 1) := by decide +kernel
theorem dX2_begin_0 : decode cX2_begin 0 = .ok (.iconst 0, 1) := by decide +kernel
theorem dX2_begin_1 : decode cX2_begin 1 = .ok (.istore_n 3, 1) := by decide +kernel
theorem dX2_begin_2 : decode cX2_begin 2 = .ok (.iload_n 3, 1) := by decide +kernel
theorem dX2_begin_3 : decode cX2_begin 3 = .ok (.bipush 8, 2) := by decide +kernel
theorem dX2_begin_5 : decode cX2_begin 5 = .ok (.if_icmp .ge 45, 3) := by decide +kernel
theorem dX2_begin_8 : decode cX2_begin 8 = .ok (.aload_n 0, 1) := by decide +kernel
theorem dX2_begin_9 : decode cX2_begin 9 = .ok (.getfield 19, 3) := by decide +kernel
theorem dX2_begin_12 : decode cX2_begin 12 = .ok (.bipush 8, 2) := by decide +kernel
theorem dX2_begin_14 : decode cX2_begin 14 = .ok (.iload_n 1, 1) := by decide +kernel
theorem dX2_begin_15 : decode cX2_begin 15 = .ok (.imul, 1) := by decide +kernel
theorem dX2_begin_16 : decode cX2_begin 16 = .ok (.iload_n 3, 1) := by decide +kernel
theorem dX2_begin_17 : decode cX2_begin 17 = .ok (.iadd, 1) := by decide +kernel
theorem dX2_begin_18 : decode cX2_begin 18 = .ok (.iconst 0, 1) := by decide +kernel
theorem dX2_begin_19 : decode cX2_begin 19 = .ok (.bastore, 1) := by decide +kernel
theorem dX2_begin_20 : decode cX2_begin 20 = .ok (.aload_n 0, 1) := by decide +kernel
theorem dX2_begin_21 : decode cX2_begin 21 = .ok (.getfield 16, 3) := by decide +kernel
theorem dX2_begin_24 : decode cX2_begin 24 = .ok (.bipush 8, 2) := by decide +kernel
theorem dX2_begin_26 : decode cX2_begin 26 = .ok (.iload_n 1, 1) := by decide +kernel
theorem dX2_begin_27 : decode cX2_begin 27 = .ok (.imul, 1) := by decide +kernel
theorem dX2_begin_28 : decode cX2_begin 28 = .ok (.iload_n 3, 1) := by decide +kernel
theorem dX2_begin_29 : decode cX2_begin 29 = .ok (.iadd, 1) := by decide +kernel
theorem dX2_begin_30 : decode cX2_begin 30 = .ok (.iconst 0, 1) := by decide +kernel
theorem dX2_begin_31 : decode cX2_begin 31 = .ok (.bastore, 1) := by decide +kernel
theorem dX2_begin_32 : decode cX2_begin 32 = .ok (.aload_n 0, 1) := by decide +kernel
theorem dX2_begin_33 : decode cX2_begin 33 = .ok (.getfield 13, 3) := by decide +kernel
theorem dX2_begin_36 : decode cX2_begin 36 = .ok (.bipush 8, 2) := by decide +kernel
theorem dX2_begin_38 : decode cX2_begin 38 = .ok (.iload_n 1, 1) := by decide +kernel
theorem dX2_begin_39 : decode cX2_begin 39 = .ok (.imul, 1) := by decide +kernel
theorem dX2_begin_40 : decode cX2_begin 40 = .ok (.iload_n 3, 1) := by decide +kernel
theorem dX2_begin_41 : decode cX2_begin 41 = .ok (.iadd, 1) := by decide +kernel
theorem dX2_begin_42 : decode cX2_begin 42 = .ok (.iconst 0, 1) := by decide +kernel
theorem dX2_begin_43 : decode cX2_begin 43 = .ok (.bastore, 1) := by decide +kernel
theorem dX2_begin_44 : decode cX2_begin 44 = .ok (.iinc 3 1, 3) := by decide +kernel
theorem dX2_begin_47 : decode cX2_begin 47 = .ok (.goto (-45), 3) := by decide +kernel
theorem dX2_begin_50 : decode cX2_begin 50 = .ok (.iconst 0, 1) := by decide +kernel
theorem dX2_begin_51 : decode cX2_begin 51 = .ok (.istore_n 3, 1) := by decide +kernel
theorem dX2_begin_52 : decode cX2_begin 52 = .ok (.iload_n 3, 1) := by decide +kernel
theorem dX2_begin_53 : decode cX2_begin 53 = .ok (.bipush 7, 2) := by decide +kernel
theorem dX2_begin_55 : decode cX2_begin 55 = .ok (.if_icmp .ge 39, 3) := by decide +kernel
theorem dX2_begin_58 : decode cX2_begin 58 = .ok (.aload_n 0, 1) := by decide +kernel
theorem dX2_begin_59 : decode cX2_begin 59 = .ok (.getfield 35, 3) := by decide +kernel
theorem dX2_begin_62 : decode cX2_begin 62 = .ok (.bipush 7, 2) := by decide +kernel
theorem dX2_begin_64 : decode cX2_begin 64 = .ok (.iload_n 1, 1) := by decide +kernel
theorem dX2_begin_65 : decode cX2_begin 65 = .ok (.imul, 1) := by decide +kernel
theorem dX2_begin_66 : decode cX2_begin 66 = .ok (.iload_n 3, 1) := by decide +kernel
theorem dX2_begin_67 : decode cX2_begin 67 = .ok (.iadd, 1) := by decide +kernel
theorem dX2_begin_68 : decode cX2_begin 68 = .ok (.iload_n 3, 1) := by decide +kernel
theorem dX2_begin_69 : decode cX2_begin 69 = .ok (.iconst 1, 1) := by decide +kernel
theorem dX2_begin_70 : decode cX2_begin 70 = .ok (.if_icmp .ne 16, 3) := by decide +kernel
theorem dX2_begin_73 : decode cX2_begin 73 = .ok (.iload_n 2, 1) := by decide +kernel
theorem dX2_begin_74 : decode cX2_begin 74 = .ok (.iconst 3, 1) := by decide +kernel
theorem dX2_begin_75 : decode cX2_begin 75 = .ok (.ishr, 1) := by decide +kernel
theorem dX2_begin_76 : decode cX2_begin 76 = .ok (.iconst 1, 1) := by decide +kernel
theorem dX2_begin_77 : decode cX2_begin 77 = .ok (.iand, 1) := by decide +kernel
theorem dX2_begin_78 : decode cX2_begin 78 = .ok (.iconst 1, 1) := by decide +kernel
theorem dX2_begin_79 : decode cX2_begin 79 = .ok (.if_icmp .ne 7, 3) := by decide +kernel
theorem dX2_begin_82 : decode cX2_begin 82 = .ok (.iconst 1, 1) := by decide +kernel
theorem dX2_begin_83 : decode cX2_begin 83 = .ok (.goto 4, 3) := by decide +kernel
theorem dX2_begin_86 : decode cX2_begin 86 = .ok (.iconst 0, 1) := by decide +kernel
theorem dX2_begin_87 : decode cX2_begin 87 = .ok (.bastore, 1) := by decide +kernel
theorem dX2_begin_88 : decode cX2_begin 88 = .ok (.iinc 3 1, 3) := by decide +kernel
theorem dX2_begin_91 : decode cX2_begin 91 = .ok (.goto (-39), 3) := by decide +kernel
theorem dX2_begin_94 : decode cX2_begin 94 = .ok (.aload_n 0, 1) := by decide +kernel
theorem dX2_begin_95 : decode cX2_begin 95 = .ok (.getfield 22, 3) := by decide +kernel
theorem dX2_begin_98 : decode cX2_begin 98 = .ok (.iload_n 1, 1) := by decide +kernel
theorem dX2_begin_99 : decode cX2_begin 99 = .ok (.bipush 7, 2) := by decide +kernel
theorem dX2_begin_101 : decode cX2_begin 101 = .ok (.iastore, 1) := by decide +kernel
theorem dX2_begin_102 : decode cX2_begin 102 = .ok (.aload_n 0, 1) := by decide +kernel
theorem dX2_begin_103 : decode cX2_begin 103 = .ok (.getfield 32, 3) := by decide +kernel
theorem dX2_begin_106 : decode cX2_begin 106 = .ok (.iload_n 1, 1) := by decide +kernel
theorem dX2_begin_107 : decode cX2_begin 107 = .ok (.iconst 0, 1) := by decide +kernel
theorem dX2_begin_108 : decode cX2_begin 108 = .ok (.iastore, 1) := by decide +kernel
theorem dX2_begin_109 : decode cX2_begin 109 = .ok (.aload_n 0, 1) := by decide +kernel
theorem dX2_begin_110 : decode cX2_begin 110 = .ok (.getfield 29, 3) := by decide +kernel
theorem dX2_begin_113 : decode cX2_begin 113 = .ok (.iload_n 1, 1) := by decide +kernel
theorem dX2_begin_114 : decode cX2_begin 114 = .ok (.iconst 2, 1) := by decide +kernel
theorem dX2_begin_115 : decode cX2_begin 115 = .ok (.iastore, 1) := by decide +kernel
theorem dX2_begin_116 : decode cX2_begin 116 = .ok (.aload_n 0, 1) := by decide +kernel
theorem dX2_begin_117 : decode cX2_begin 117 = .ok (.getfield 38, 3) := by decide +kernel
theorem dX2_begin_120 : decode cX2_begin 120 = .ok (.iload_n 1, 1) := by decide +kernel
theorem dX2_begin_121 : decode cX2_begin 121 = .ok (.iload_n 2, 1) := by decide +kernel
theorem dX2_begin_122 : decode cX2_begin 122 = .ok (.iconst 1, 1) := by decide +kernel
theorem dX2_begin_123 : decode cX2_begin 123 = .ok (.iand, 1) := by decide +kernel
theorem dX2_begin_124 : decode cX2_begin 124 = .ok (.iconst 1, 1) := by decide +kernel
theorem dX2_begin_125 : decode cX2_begin 125 = .ok (.if_icmp .ne 7, 3) := by decide +kernel
theorem dX2_begin_128 : decode cX2_begin 128 = .ok (.iconst 1, 1) := by decide +kernel
theorem dX2_begin_129 : decode cX2_begin 129 = .ok (.goto 4, 3) := by decide +kernel
theorem dX2_begin_132 : decode cX2_begin 132 = .ok (.iconst 0, 1) := by decide +kernel
theorem dX2_begin_133 : decode cX2_begin 133 = .ok (.bastore, 1) := by decide +kernel
theorem dX2_begin_134 : decode cX2_begin 134 = .ok (.return_, 1) := by decide +kernel
theorem dX2_second_0 : decode cX2_second 0 = .ok (.aload_n 0, 1) := by decide +kernel
theorem dX2_second_1 : decode cX2_second 1 = .ok (.getfield 29, 3) := by decide +kernel
theorem dX2_second_4 : decode cX2_second 4 = .ok (.iload_n 1, 1) := by decide +kernel
theorem dX2_second_5 : decode cX2_second 5 = .ok (.iaload, 1) := by decide +kernel
theorem dX2_second_6 : decode cX2_second 6 = .ok (.iconst 2, 1) := by decide +kernel
theorem dX2_second_7 : decode cX2_second 7 = .ok (.if_icmp .ne 25, 3) := by decide +kernel
theorem dX2_second_10 : decode cX2_second 10 = .ok (.aload_n 0, 1) := by decide +kernel
theorem dX2_second_11 : decode cX2_second 11 = .ok (.getfield 26, 3) := by decide +kernel
theorem dX2_second_14 : decode cX2_second 14 = .ok (.iload_n 1, 1) := by decide +kernel
theorem dX2_second_15 : decode cX2_second 15 = .ok (.iload_n 2, 1) := by decide +kernel
theorem dX2_second_16 : decode cX2_second 16 = .ok (.iload_n 2, 1) := by decide +kernel
theorem dX2_second_17 : decode cX2_second 17 = .ok (.bipush 8, 2) := by decide +kernel
theorem dX2_second_19 : decode cX2_second 19 = .ok (.irem, 1) := by decide +kernel
theorem dX2_second_20 : decode cX2_second 20 = .ok (.isub, 1) := by decide +kernel
theorem dX2_second_21 : decode cX2_second 21 = .ok (.iastore, 1) := by decide +kernel
theorem dX2_second_22 : decode cX2_second 22 = .ok (.aload_n 0, 1) := by decide +kernel
theorem dX2_second_23 : decode cX2_second 23 = .ok (.getfield 29, 3) := by decide +kernel
theorem dX2_second_26 : decode cX2_second 26 = .ok (.iload_n 1, 1) := by decide +kernel
theorem dX2_second_27 : decode cX2_second 27 = .ok (.iconst 3, 1) := by decide +kernel
theorem dX2_second_28 : decode cX2_second 28 = .ok (.iastore, 1) := by decide +kernel
theorem dX2_second_29 : decode cX2_second 29 = .ok (.goto 178, 3) := by decide +kernel
theorem dX2_second_32 : decode cX2_second 32 = .ok (.aload_n 0, 1) := by decide +kernel
theorem dX2_second_33 : decode cX2_second 33 = .ok (.getfield 29, 3) := by decide +kernel
theorem dX2_second_36 : decode cX2_second 36 = .ok (.iload_n 1, 1) := by decide +kernel
theorem dX2_second_37 : decode cX2_second 37 = .ok (.iaload, 1) := by decide +kernel
theorem dX2_second_38 : decode cX2_second 38 = .ok (.iconst 3, 1) := by decide +kernel
theorem dX2_second_39 : decode cX2_second 39 = .ok (.if_icmp .ne 49, 3) := by decide +kernel
theorem dX2_second_42 : decode cX2_second 42 = .ok (.aload_n 0, 1) := by decide +kernel
theorem dX2_second_43 : decode cX2_second 43 = .ok (.getfield 29, 3) := by decide +kernel
theorem dX2_second_46 : decode cX2_second 46 = .ok (.iload_n 1, 1) := by decide +kernel
theorem dX2_second_47 : decode cX2_second 47 = .ok (.aload_n 0, 1) := by decide +kernel
theorem dX2_second_48 : decode cX2_second 48 = .ok (.getfield 38, 3) := by decide +kernel
theorem dX2_second_51 : decode cX2_second 51 = .ok (.iload_n 1, 1) := by decide +kernel
theorem dX2_second_52 : decode cX2_second 52 = .ok (.baload, 1) := by decide +kernel
theorem dX2_second_53 : decode cX2_second 53 = .ok (.ifCond .eq 7, 3) := by decide +kernel
theorem dX2_second_56 : decode cX2_second 56 = .ok (.iconst 4, 1) := by decide +kernel
theorem dX2_second_57 : decode cX2_second 57 = .ok (.goto 4, 3) := by decide +kernel
theorem dX2_second_60 : decode cX2_second 60 = .ok (.iconst 0, 1) := by decide +kernel
theorem dX2_second_61 : decode cX2_second 61 = .ok (.iastore, 1) := by decide +kernel
theorem dX2_second_62 : decode cX2_second 62 = .ok (.aload_n 0, 1) := by decide +kernel
theorem dX2_second_63 : decode cX2_second 63 = .ok (.getfield 35, 3) := by decide +kernel
theorem dX2_second_66 : decode cX2_second 66 = .ok (.bipush 7, 2) := by decide +kernel
theorem dX2_second_68 : decode cX2_second 68 = .ok (.iload_n 1, 1) := by decide +kernel
theorem dX2_second_69 : decode cX2_second 69 = .ok (.imul, 1) := by decide +kernel
theorem dX2_second_70 : decode cX2_second 70 = .ok (.aload_n 0, 1) := by decide +kernel
theorem dX2_second_71 : decode cX2_second 71 = .ok (.getfield 38, 3) := by decide +kernel
theorem dX2_second_74 : decode cX2_second 74 = .ok (.iload_n 1, 1) := by decide +kernel
theorem dX2_second_75 : decode cX2_second 75 = .ok (.baload, 1) := by decide +kernel
theorem dX2_second_76 : decode cX2_second 76 = .ok (.ifCond .ne 7, 3) := by decide +kernel
theorem dX2_second_79 : decode cX2_second 79 = .ok (.iconst 1, 1) := by decide +kernel
theorem dX2_second_80 : decode cX2_second 80 = .ok (.goto 4, 3) := by decide +kernel
theorem dX2_second_83 : decode cX2_second 83 = .ok (.iconst 0, 1) := by decide +kernel
theorem dX2_second_84 : decode cX2_second 84 = .ok (.bastore, 1) := by decide +kernel
theorem dX2_second_85 : decode cX2_second 85 = .ok (.goto 122, 3) := by decide +kernel
theorem dX2_second_88 : decode cX2_second 88 = .ok (.aload_n 0, 1) := by decide +kernel
theorem dX2_second_89 : decode cX2_second 89 = .ok (.getfield 29, 3) := by decide +kernel
theorem dX2_second_92 : decode cX2_second 92 = .ok (.iload_n 1, 1) := by decide +kernel
theorem dX2_second_93 : decode cX2_second 93 = .ok (.iaload, 1) := by decide +kernel
theorem dX2_second_94 : decode cX2_second 94 = .ok (.iconst 4, 1) := by decide +kernel
theorem dX2_second_95 : decode cX2_second 95 = .ok (.if_icmp .ne 73, 3) := by decide +kernel
theorem dX2_second_98 : decode cX2_second 98 = .ok (.aload_n 0, 1) := by decide +kernel
theorem dX2_second_99 : decode cX2_second 99 = .ok (.getfield 35, 3) := by decide +kernel
theorem dX2_second_102 : decode cX2_second 102 = .ok (.bipush 7, 2) := by decide +kernel
theorem dX2_second_104 : decode cX2_second 104 = .ok (.iload_n 1, 1) := by decide +kernel
theorem dX2_second_105 : decode cX2_second 105 = .ok (.imul, 1) := by decide +kernel
theorem dX2_second_106 : decode cX2_second 106 = .ok (.iconst 4, 1) := by decide +kernel
theorem dX2_second_107 : decode cX2_second 107 = .ok (.iadd, 1) := by decide +kernel
theorem dX2_second_108 : decode cX2_second 108 = .ok (.iload_n 2, 1) := by decide +kernel
theorem dX2_second_109 : decode cX2_second 109 = .ok (.iconst 1, 1) := by decide +kernel
theorem dX2_second_110 : decode cX2_second 110 = .ok (.ishr, 1) := by decide +kernel
theorem dX2_second_111 : decode cX2_second 111 = .ok (.iconst 1, 1) := by decide +kernel
theorem dX2_second_112 : decode cX2_second 112 = .ok (.iand, 1) := by decide +kernel
theorem dX2_second_113 : decode cX2_second 113 = .ok (.iconst 1, 1) := by decide +kernel
theorem dX2_second_114 : decode cX2_second 114 = .ok (.if_icmp .ne 7, 3) := by decide +kernel
theorem dX2_second_117 : decode cX2_second 117 = .ok (.iconst 1, 1) := by decide +kernel
theorem dX2_second_118 : decode cX2_second 118 = .ok (.goto 4, 3) := by decide +kernel
theorem dX2_second_121 : decode cX2_second 121 = .ok (.iconst 0, 1) := by decide +kernel
theorem dX2_second_122 : decode cX2_second 122 = .ok (.bastore, 1) := by decide +kernel
theorem dX2_second_123 : decode cX2_second 123 = .ok (.aload_n 0, 1) := by decide +kernel
theorem dX2_second_124 : decode cX2_second 124 = .ok (.getfield 35, 3) := by decide +kernel
theorem dX2_second_127 : decode cX2_second 127 = .ok (.bipush 7, 2) := by decide +kernel
theorem dX2_second_129 : decode cX2_second 129 = .ok (.iload_n 1, 1) := by decide +kernel
theorem dX2_second_130 : decode cX2_second 130 = .ok (.imul, 1) := by decide +kernel
theorem dX2_second_131 : decode cX2_second 131 = .ok (.iconst 3, 1) := by decide +kernel
theorem dX2_second_132 : decode cX2_second 132 = .ok (.iadd, 1) := by decide +kernel
theorem dX2_second_133 : decode cX2_second 133 = .ok (.iload_n 2, 1) := by decide +kernel
theorem dX2_second_134 : decode cX2_second 134 = .ok (.iconst 4, 1) := by decide +kernel
theorem dX2_second_135 : decode cX2_second 135 = .ok (.ishr, 1) := by decide +kernel
theorem dX2_second_136 : decode cX2_second 136 = .ok (.iconst 1, 1) := by decide +kernel
theorem dX2_second_137 : decode cX2_second 137 = .ok (.iand, 1) := by decide +kernel
theorem dX2_second_138 : decode cX2_second 138 = .ok (.iconst 1, 1) := by decide +kernel
theorem dX2_second_139 : decode cX2_second 139 = .ok (.if_icmp .ne 7, 3) := by decide +kernel
theorem dX2_second_142 : decode cX2_second 142 = .ok (.iconst 1, 1) := by decide +kernel
theorem dX2_second_143 : decode cX2_second 143 = .ok (.goto 4, 3) := by decide +kernel
theorem dX2_second_146 : decode cX2_second 146 = .ok (.iconst 0, 1) := by decide +kernel
theorem dX2_second_147 : decode cX2_second 147 = .ok (.bastore, 1) := by decide +kernel
theorem dX2_second_148 : decode cX2_second 148 = .ok (.aload_n 0, 1) := by decide +kernel
theorem dX2_second_149 : decode cX2_second 149 = .ok (.getfield 29, 3) := by decide +kernel
theorem dX2_second_152 : decode cX2_second 152 = .ok (.iload_n 1, 1) := by decide +kernel
theorem dX2_second_153 : decode cX2_second 153 = .ok (.iconst 0, 1) := by decide +kernel
theorem dX2_second_154 : decode cX2_second 154 = .ok (.iastore, 1) := by decide +kernel
theorem dX2_second_155 : decode cX2_second 155 = .ok (.aload_n 0, 1) := by decide +kernel
theorem dX2_second_156 : decode cX2_second 156 = .ok (.getfield 35, 3) := by decide +kernel
theorem dX2_second_159 : decode cX2_second 159 = .ok (.bipush 7, 2) := by decide +kernel
theorem dX2_second_161 : decode cX2_second 161 = .ok (.iload_n 1, 1) := by decide +kernel
theorem dX2_second_162 : decode cX2_second 162 = .ok (.imul, 1) := by decide +kernel
theorem dX2_second_163 : decode cX2_second 163 = .ok (.iconst 1, 1) := by decide +kernel
theorem dX2_second_164 : decode cX2_second 164 = .ok (.bastore, 1) := by decide +kernel
theorem dX2_second_165 : decode cX2_second 165 = .ok (.goto 42, 3) := by decide +kernel
theorem dX2_second_168 : decode cX2_second 168 = .ok (.iconst 0, 1) := by decide +kernel
theorem dX2_second_169 : decode cX2_second 169 = .ok (.istore_n 3, 1) := by decide +kernel
theorem dX2_second_170 : decode cX2_second 170 = .ok (.iload_n 3, 1) := by decide +kernel
theorem dX2_second_171 : decode cX2_second 171 = .ok (.bipush 8, 2) := by decide +kernel
theorem dX2_second_173 : decode cX2_second 173 = .ok (.if_icmp .ge 34, 3) := by decide +kernel
theorem dX2_second_176 : decode cX2_second 176 = .ok (.aload_n 0, 1) := by decide +kernel
theorem dX2_second_177 : decode cX2_second 177 = .ok (.getfield 19, 3) := by decide +kernel
theorem dX2_second_180 : decode cX2_second 180 = .ok (.bipush 8, 2) := by decide +kernel
theorem dX2_second_182 : decode cX2_second 182 = .ok (.iload_n 1, 1) := by decide +kernel
theorem dX2_second_183 : decode cX2_second 183 = .ok (.imul, 1) := by decide +kernel
theorem dX2_second_184 : decode cX2_second 184 = .ok (.iload_n 3, 1) := by decide +kernel
theorem dX2_second_185 : decode cX2_second 185 = .ok (.iadd, 1) := by decide +kernel
theorem dX2_second_186 : decode cX2_second 186 = .ok (.iload_n 2, 1) := by decide +kernel
theorem dX2_second_187 : decode cX2_second 187 = .ok (.iload_n 3, 1) := by decide +kernel
theorem dX2_second_188 : decode cX2_second 188 = .ok (.ishr, 1) := by decide +kernel
theorem dX2_second_189 : decode cX2_second 189 = .ok (.iconst 1, 1) := by decide +kernel
theorem dX2_second_190 : decode cX2_second 190 = .ok (.iand, 1) := by decide +kernel
theorem dX2_second_191 : decode cX2_second 191 = .ok (.iconst 1, 1) := by decide +kernel
theorem dX2_second_192 : decode cX2_second 192 = .ok (.if_icmp .ne 7, 3) := by decide +kernel
theorem dX2_second_195 : decode cX2_second 195 = .ok (.iconst 1, 1) := by decide +kernel
theorem dX2_second_196 : decode cX2_second 196 = .ok (.goto 4, 3) := by decide +kernel
theorem dX2_second_199 : decode cX2_second 199 = .ok (.iconst 0, 1) := by decide +kernel
theorem dX2_second_200 : decode cX2_second 200 = .ok (.bastore, 1) := by decide +kernel
theorem dX2_second_201 : decode cX2_second 201 = .ok (.iinc 3 1, 3) := by decide +kernel
theorem dX2_second_204 : decode cX2_second 204 = .ok (.goto (-34), 3) := by decide +kernel
theorem dX2_second_207 : decode cX2_second 207 = .ok (.return_, 1) := by decide +kernel
theorem dX2_highest_0 : decode cX2_highest 0 = .ok (.iconst 0, 1) := by decide +kernel
theorem dX2_highest_1 : decode cX2_highest 1 = .ok (.istore_n 2, 1) := by decide +kernel
theorem dX2_highest_2 : decode cX2_highest 2 = .ok (.iload_n 2, 1) := by decide +kernel
theorem dX2_highest_3 : decode cX2_highest 3 = .ok (.bipush 8, 2) := by decide +kernel
theorem dX2_highest_5 : decode cX2_highest 5 = .ok (.if_icmp .ge 30, 3) := by decide +kernel
theorem dX2_highest_8 : decode cX2_highest 8 = .ok (.aload_n 0, 1) := by decide +kernel
theorem dX2_highest_9 : decode cX2_highest 9 = .ok (.iload_n 1, 1) := by decide +kernel
theorem dX2_highest_10 : decode cX2_highest 10 = .ok (.aload_n 0, 1) := by decide +kernel
theorem dX2_highest_11 : decode cX2_highest 11 = .ok (.iload_n 1, 1) := by decide +kernel
theorem dX2_highest_12 : decode cX2_highest 12 = .ok (.iload_n 2, 1) := by decide +kernel
theorem dX2_highest_13 : decode cX2_highest 13 = .ok (.invokevirtual 49, 3) := by decide +kernel
theorem dX2_highest_16 : decode cX2_highest 16 = .ok (.invokevirtual 53, 3) := by decide +kernel
theorem dX2_highest_19 : decode cX2_highest 19 = .ok (.ifCond .eq 10, 3) := by decide +kernel
theorem dX2_highest_22 : decode cX2_highest 22 = .ok (.aload_n 0, 1) := by decide +kernel
theorem dX2_highest_23 : decode cX2_highest 23 = .ok (.iload_n 1, 1) := by decide +kernel
theorem dX2_highest_24 : decode cX2_highest 24 = .ok (.iload_n 2, 1) := by decide +kernel
theorem dX2_highest_25 : decode cX2_highest 25 = .ok (.invokevirtual 49, 3) := by decide +kernel
theorem dX2_highest_28 : decode cX2_highest 28 = .ok (.ireturn, 1) := by decide +kernel
theorem dX2_highest_29 : decode cX2_highest 29 = .ok (.iinc 2 1, 3) := by decide +kernel
theorem dX2_highest_32 : decode cX2_highest 32 = .ok (.goto (-30), 3) := by decide +kernel
theorem dX2_highest_35 : decode cX2_highest 35 = .ok (.iconst (-1), 1) := by decide +kernel
theorem dX2_highest_36 : decode cX2_highest 36 = .ok (.ireturn, 1) := by decide +kernel
theorem dX2_end_0 : decode cX2_end 0 = .ok (.iload_n 2, 1) := by decide +kernel
theorem dX2_end_1 : decode cX2_end 1 = .ok (.iconst 1, 1) := by decide +kernel
theorem dX2_end_2 : decode cX2_end 2 = .ok (.if_icmp .eq 8, 3) := by decide +kernel
theorem dX2_end_5 : decode cX2_end 5 = .ok (.iload_n 2, 1) := by decide +kernel
theorem dX2_end_6 : decode cX2_end 6 = .ok (.iconst 5, 1) := by decide +kernel
theorem dX2_end_7 : decode cX2_end 7 = .ok (.if_icmp .ne 11, 3) := by decide +kernel
theorem dX2_end_10 : decode cX2_end 10 = .ok (.aload_n 0, 1) := by decide +kernel
theorem dX2_end_11 : decode cX2_end 11 = .ok (.iload_n 1, 1) := by decide +kernel
theorem dX2_end_12 : decode cX2_end 12 = .ok (.invokevirtual 77, 3) := by decide +kernel
theorem dX2_end_15 : decode cX2_end 15 = .ok (.goto 4, 3) := by decide +kernel
theorem dX2_end_18 : decode cX2_end 18 = .ok (.iload_n 3, 1) := by decide +kernel
theorem dX2_end_19 : decode cX2_end 19 = .ok (.istore 4, 2) := by decide +kernel
theorem dX2_end_21 : decode cX2_end 21 = .ok (.iload 4, 2) := by decide +kernel
theorem dX2_end_23 : decode cX2_end 23 = .ok (.iconst (-1), 1) := by decide +kernel
theorem dX2_end_24 : decode cX2_end 24 = .ok (.if_icmp .ne 4, 3) := by decide +kernel
theorem dX2_end_27 : decode cX2_end 27 = .ok (.return_, 1) := by decide +kernel
theorem dX2_end_28 : decode cX2_end 28 = .ok (.aload_n 0, 1) := by decide +kernel
theorem dX2_end_29 : decode cX2_end 29 = .ok (.aload_n 0, 1) := by decide +kernel
theorem dX2_end_30 : decode cX2_end 30 = .ok (.getfield 16, 3) := by decide +kernel
theorem dX2_end_33 : decode cX2_end 33 = .ok (.bipush 8, 2) := by decide +kernel
theorem dX2_end_35 : decode cX2_end 35 = .ok (.iload_n 1, 1) := by decide +kernel
theorem dX2_end_36 : decode cX2_end 36 = .ok (.imul, 1) := by decide +kernel
theorem dX2_end_37 : decode cX2_end 37 = .ok (.iload 4, 2) := by decide +kernel
theorem dX2_end_39 : decode cX2_end 39 = .ok (.iadd, 1) := by decide +kernel
theorem dX2_end_40 : decode cX2_end 40 = .ok (.baload, 1) := by decide +kernel
theorem dX2_end_41 : decode cX2_end 41 = .ok (.ifCond .eq 12, 3) := by decide +kernel
theorem dX2_end_44 : decode cX2_end 44 = .ok (.aload_n 0, 1) := by decide +kernel
theorem dX2_end_45 : decode cX2_end 45 = .ok (.getfield 80, 3) := by decide +kernel
theorem dX2_end_48 : decode cX2_end 48 = .ok (.iconst 1, 1) := by decide +kernel
theorem dX2_end_49 : decode cX2_end 49 = .ok (.iadd, 1) := by decide +kernel
theorem dX2_end_50 : decode cX2_end 50 = .ok (.goto 7, 3) := by decide +kernel
theorem dX2_end_53 : decode cX2_end 53 = .ok (.aload_n 0, 1) := by decide +kernel
theorem dX2_end_54 : decode cX2_end 54 = .ok (.getfield 80, 3) := by decide +kernel
theorem dX2_end_57 : decode cX2_end 57 = .ok (.putfield 80, 3) := by decide +kernel
theorem dX2_end_60 : decode cX2_end 60 = .ok (.aload_n 0, 1) := by decide +kernel
theorem dX2_end_61 : decode cX2_end 61 = .ok (.getfield 16, 3) := by decide +kernel
theorem dX2_end_64 : decode cX2_end 64 = .ok (.bipush 8, 2) := by decide +kernel
theorem dX2_end_66 : decode cX2_end 66 = .ok (.iload_n 1, 1) := by decide +kernel
theorem dX2_end_67 : decode cX2_end 67 = .ok (.imul, 1) := by decide +kernel
theorem dX2_end_68 : decode cX2_end 68 = .ok (.iload 4, 2) := by decide +kernel
theorem dX2_end_70 : decode cX2_end 70 = .ok (.iadd, 1) := by decide +kernel
theorem dX2_end_71 : decode cX2_end 71 = .ok (.iconst 0, 1) := by decide +kernel
theorem dX2_end_72 : decode cX2_end 72 = .ok (.bastore, 1) := by decide +kernel
theorem dX2_end_73 : decode cX2_end 73 = .ok (.aload_n 0, 1) := by decide +kernel
theorem dX2_end_74 : decode cX2_end 74 = .ok (.getfield 22, 3) := by decide +kernel
theorem dX2_end_77 : decode cX2_end 77 = .ok (.iload_n 1, 1) := by decide +kernel
theorem dX2_end_78 : decode cX2_end 78 = .ok (.iload_n 2, 1) := by decide +kernel
theorem dX2_end_79 : decode cX2_end 79 = .ok (.iconst 3, 1) := by decide +kernel
theorem dX2_end_80 : decode cX2_end 80 = .ok (.if_icmp .le 8, 3) := by decide +kernel
theorem dX2_end_83 : decode cX2_end 83 = .ok (.iload 4, 2) := by decide +kernel
theorem dX2_end_85 : decode cX2_end 85 = .ok (.goto 9, 3) := by decide +kernel
theorem dX2_end_88 : decode cX2_end 88 = .ok (.aload_n 0, 1) := by decide +kernel
theorem dX2_end_89 : decode cX2_end 89 = .ok (.getfield 22, 3) := by decide +kernel
theorem dX2_end_92 : decode cX2_end 92 = .ok (.iload_n 1, 1) := by decide +kernel
theorem dX2_end_93 : decode cX2_end 93 = .ok (.iaload, 1) := by decide +kernel
theorem dX2_end_94 : decode cX2_end 94 = .ok (.iastore, 1) := by decide +kernel
theorem dX2_end_95 : decode cX2_end 95 = .ok (.return_, 1) := by decide +kernel
theorem dX2_order_0 : decode cX2_order 0 = .ok (.iload_n 2, 1) := by decide +kernel
theorem dX2_order_1 : decode cX2_order 1 = .ok (.iconst 5, 1) := by decide +kernel
theorem dX2_order_2 : decode cX2_order 2 = .ok (.ishr, 1) := by decide +kernel
theorem dX2_order_3 : decode cX2_order 3 = .ok (.istore_n 3, 1) := by decide +kernel
theorem dX2_order_4 : decode cX2_order 4 = .ok (.iload_n 3, 1) := by decide +kernel
theorem dX2_order_5 : decode cX2_order 5 = .ok (.iconst 2, 1) := by decide +kernel
theorem dX2_order_6 : decode cX2_order 6 = .ok (.irem, 1) := by decide +kernel
theorem dX2_order_7 : decode cX2_order 7 = .ok (.iconst 1, 1) := by decide +kernel
theorem dX2_order_8 : decode cX2_order 8 = .ok (.if_icmp .ne 16, 3) := by decide +kernel
theorem dX2_order_11 : decode cX2_order 11 = .ok (.aload_n 0, 1) := by decide +kernel
theorem dX2_order_12 : decode cX2_order 12 = .ok (.iload_n 1, 1) := by decide +kernel
theorem dX2_order_13 : decode cX2_order 13 = .ok (.iload_n 3, 1) := by decide +kernel
theorem dX2_order_14 : decode cX2_order 14 = .ok (.iload_n 2, 1) := by decide +kernel
theorem dX2_order_15 : decode cX2_order 15 = .ok (.bipush 8, 2) := by decide +kernel
theorem dX2_order_17 : decode cX2_order 17 = .ok (.irem, 1) := by decide +kernel
theorem dX2_order_18 : decode cX2_order 18 = .ok (.invokevirtual 83, 3) := by decide +kernel
theorem dX2_order_21 : decode cX2_order 21 = .ok (.goto 48, 3) := by decide +kernel
theorem dX2_order_24 : decode cX2_order 24 = .ok (.iload_n 3, 1) := by decide +kernel
theorem dX2_order_25 : decode cX2_order 25 = .ok (.bipush 6, 2) := by decide +kernel
theorem dX2_order_27 : decode cX2_order 27 = .ok (.if_icmp .ne 16, 3) := by decide +kernel
theorem dX2_order_30 : decode cX2_order 30 = .ok (.aload_n 0, 1) := by decide +kernel
theorem dX2_order_31 : decode cX2_order 31 = .ok (.getfield 22, 3) := by decide +kernel
theorem dX2_order_34 : decode cX2_order 34 = .ok (.iload_n 1, 1) := by decide +kernel
theorem dX2_order_35 : decode cX2_order 35 = .ok (.iload_n 2, 1) := by decide +kernel
theorem dX2_order_36 : decode cX2_order 36 = .ok (.bipush 8, 2) := by decide +kernel
theorem dX2_order_38 : decode cX2_order 38 = .ok (.irem, 1) := by decide +kernel
theorem dX2_order_39 : decode cX2_order 39 = .ok (.iastore, 1) := by decide +kernel
theorem dX2_order_40 : decode cX2_order 40 = .ok (.goto 29, 3) := by decide +kernel
theorem dX2_order_43 : decode cX2_order 43 = .ok (.iload_n 3, 1) := by decide +kernel
theorem dX2_order_44 : decode cX2_order 44 = .ok (.iconst 2, 1) := by decide +kernel
theorem dX2_order_45 : decode cX2_order 45 = .ok (.if_icmp .eq 24, 3) := by decide +kernel
theorem dX2_order_48 : decode cX2_order 48 = .ok (.aload_n 0, 1) := by decide +kernel
theorem dX2_order_49 : decode cX2_order 49 = .ok (.getfield 35, 3) := by decide +kernel
theorem dX2_order_52 : decode cX2_order 52 = .ok (.bipush 7, 2) := by decide +kernel
theorem dX2_order_54 : decode cX2_order 54 = .ok (.iload_n 1, 1) := by decide +kernel
theorem dX2_order_55 : decode cX2_order 55 = .ok (.imul, 1) := by decide +kernel
theorem dX2_order_56 : decode cX2_order 56 = .ok (.iconst 5, 1) := by decide +kernel
theorem dX2_order_57 : decode cX2_order 57 = .ok (.iadd, 1) := by decide +kernel
theorem dX2_order_58 : decode cX2_order 58 = .ok (.iload_n 3, 1) := by decide +kernel
theorem dX2_order_59 : decode cX2_order 59 = .ok (.iconst 4, 1) := by decide +kernel
theorem dX2_order_60 : decode cX2_order 60 = .ok (.if_icmp .ne 7, 3) := by decide +kernel
theorem dX2_order_63 : decode cX2_order 63 = .ok (.iconst 1, 1) := by decide +kernel
theorem dX2_order_64 : decode cX2_order 64 = .ok (.goto 4, 3) := by decide +kernel
theorem dX2_order_67 : decode cX2_order 67 = .ok (.iconst 0, 1) := by decide +kernel
theorem dX2_order_68 : decode cX2_order 68 = .ok (.bastore, 1) := by decide +kernel
theorem dX2_order_69 : decode cX2_order 69 = .ok (.return_, 1) := by decide +kernel
theorem dX2_set_0 : decode cX2_set 0 = .ok (.iload_n 2, 1) := by decide +kernel
theorem dX2_set_1 : decode cX2_set 1 = .ok (.iconst 5, 1) := by decide +kernel
theorem dX2_set_2 : decode cX2_set 2 = .ok (.ishr, 1) := by decide +kernel
theorem dX2_set_3 : decode cX2_set 3 = .ok (.iconst 3, 1) := by decide +kernel
theorem dX2_set_4 : decode cX2_set 4 = .ok (.iand, 1) := by decide +kernel
theorem dX2_set_5 : decode cX2_set 5 = .ok (.istore_n 3, 1) := by decide +kernel
theorem dX2_set_6 : decode cX2_set 6 = .ok (.aload_n 0, 1) := by decide +kernel
theorem dX2_set_7 : decode cX2_set 7 = .ok (.getfield 35, 3) := by decide +kernel
theorem dX2_set_10 : decode cX2_set 10 = .ok (.bipush 7, 2) := by decide +kernel
theorem dX2_set_12 : decode cX2_set 12 = .ok (.iload_n 1, 1) := by decide +kernel
theorem dX2_set_13 : decode cX2_set 13 = .ok (.imul, 1) := by decide +kernel
theorem dX2_set_14 : decode cX2_set 14 = .ok (.iconst 2, 1) := by decide +kernel
theorem dX2_set_15 : decode cX2_set 15 = .ok (.iadd, 1) := by decide +kernel
theorem dX2_set_16 : decode cX2_set 16 = .ok (.iload_n 3, 1) := by decide +kernel
theorem dX2_set_17 : decode cX2_set 17 = .ok (.iconst 3, 1) := by decide +kernel
theorem dX2_set_18 : decode cX2_set 18 = .ok (.if_icmp .eq 17, 3) := by decide +kernel
theorem dX2_set_21 : decode cX2_set 21 = .ok (.iload_n 3, 1) := by decide +kernel
theorem dX2_set_22 : decode cX2_set 22 = .ok (.iconst 2, 1) := by decide +kernel
theorem dX2_set_23 : decode cX2_set 23 = .ok (.if_icmp .eq 16, 3) := by decide +kernel
theorem dX2_set_26 : decode cX2_set 26 = .ok (.aload_n 0, 1) := by decide +kernel
theorem dX2_set_27 : decode cX2_set 27 = .ok (.iload_n 1, 1) := by decide +kernel
theorem dX2_set_28 : decode cX2_set 28 = .ok (.iconst 2, 1) := by decide +kernel
theorem dX2_set_29 : decode cX2_set 29 = .ok (.invokevirtual 45, 3) := by decide +kernel
theorem dX2_set_32 : decode cX2_set 32 = .ok (.ifCond .eq 7, 3) := by decide +kernel
theorem dX2_set_35 : decode cX2_set 35 = .ok (.iconst 1, 1) := by decide +kernel
theorem dX2_set_36 : decode cX2_set 36 = .ok (.goto 4, 3) := by decide +kernel
theorem dX2_set_39 : decode cX2_set 39 = .ok (.iconst 0, 1) := by decide +kernel
theorem dX2_set_40 : decode cX2_set 40 = .ok (.bastore, 1) := by decide +kernel
theorem dX2_set_41 : decode cX2_set 41 = .ok (.aload_n 0, 1) := by decide +kernel
theorem dX2_set_42 : decode cX2_set 42 = .ok (.getfield 35, 3) := by decide +kernel
theorem dX2_set_45 : decode cX2_set 45 = .ok (.bipush 7, 2) := by decide +kernel
theorem dX2_set_47 : decode cX2_set 47 = .ok (.iload_n 1, 1) := by decide +kernel
theorem dX2_set_48 : decode cX2_set 48 = .ok (.imul, 1) := by decide +kernel
theorem dX2_set_49 : decode cX2_set 49 = .ok (.bipush 6, 2) := by decide +kernel
theorem dX2_set_51 : decode cX2_set 51 = .ok (.iadd, 1) := by decide +kernel
theorem dX2_set_52 : decode cX2_set 52 = .ok (.aload_n 0, 1) := by decide +kernel
theorem dX2_set_53 : decode cX2_set 53 = .ok (.iload_n 1, 1) := by decide +kernel
theorem dX2_set_54 : decode cX2_set 54 = .ok (.bipush 6, 2) := by decide +kernel
theorem dX2_set_56 : decode cX2_set 56 = .ok (.invokevirtual 45, 3) := by decide +kernel
theorem dX2_set_59 : decode cX2_set 59 = .ok (.ifCond .ne 12, 3) := by decide +kernel
theorem dX2_set_62 : decode cX2_set 62 = .ok (.iload_n 2, 1) := by decide +kernel
theorem dX2_set_63 : decode cX2_set 63 = .ok (.iconst 2, 1) := by decide +kernel
theorem dX2_set_64 : decode cX2_set 64 = .ok (.ishr, 1) := by decide +kernel
theorem dX2_set_65 : decode cX2_set 65 = .ok (.iconst 1, 1) := by decide +kernel
theorem dX2_set_66 : decode cX2_set 66 = .ok (.iand, 1) := by decide +kernel
theorem dX2_set_67 : decode cX2_set 67 = .ok (.iconst 1, 1) := by decide +kernel
theorem dX2_set_68 : decode cX2_set 68 = .ok (.if_icmp .ne 7, 3) := by decide +kernel
theorem dX2_set_71 : decode cX2_set 71 = .ok (.iconst 1, 1) := by decide +kernel
theorem dX2_set_72 : decode cX2_set 72 = .ok (.goto 4, 3) := by decide +kernel
theorem dX2_set_75 : decode cX2_set 75 = .ok (.iconst 0, 1) := by decide +kernel
theorem dX2_set_76 : decode cX2_set 76 = .ok (.bastore, 1) := by decide +kernel
theorem dX2_set_77 : decode cX2_set 77 = .ok (.aload_n 0, 1) := by decide +kernel
theorem dX2_set_78 : decode cX2_set 78 = .ok (.getfield 32, 3) := by decide +kernel
theorem dX2_set_81 : decode cX2_set 81 = .ok (.iload_n 1, 1) := by decide +kernel
theorem dX2_set_82 : decode cX2_set 82 = .ok (.iload_n 2, 1) := by decide +kernel
theorem dX2_set_83 : decode cX2_set 83 = .ok (.iconst 3, 1) := by decide +kernel
theorem dX2_set_84 : decode cX2_set 84 = .ok (.iand, 1) := by decide +kernel
theorem dX2_set_85 : decode cX2_set 85 = .ok (.iconst 2, 1) := by decide +kernel
theorem dX2_set_86 : decode cX2_set 86 = .ok (.if_icmp .ne 7, 3) := by decide +kernel
theorem dX2_set_89 : decode cX2_set 89 = .ok (.iconst 0, 1) := by decide +kernel
theorem dX2_set_90 : decode cX2_set 90 = .ok (.goto 20, 3) := by decide +kernel
theorem dX2_set_93 : decode cX2_set 93 = .ok (.iload_n 2, 1) := by decide +kernel
theorem dX2_set_94 : decode cX2_set 94 = .ok (.iconst 3, 1) := by decide +kernel
theorem dX2_set_95 : decode cX2_set 95 = .ok (.iand, 1) := by decide +kernel
theorem dX2_set_96 : decode cX2_set 96 = .ok (.iconst 3, 1) := by decide +kernel
theorem dX2_set_97 : decode cX2_set 97 = .ok (.if_icmp .ne 7, 3) := by decide +kernel
theorem dX2_set_100 : decode cX2_set 100 = .ok (.iconst 1, 1) := by decide +kernel
theorem dX2_set_101 : decode cX2_set 101 = .ok (.goto 9, 3) := by decide +kernel
theorem dX2_set_104 : decode cX2_set 104 = .ok (.aload_n 0, 1) := by decide +kernel
theorem dX2_set_105 : decode cX2_set 105 = .ok (.getfield 32, 3) := by decide +kernel
theorem dX2_set_108 : decode cX2_set 108 = .ok (.iload_n 1, 1) := by decide +kernel
theorem dX2_set_109 : decode cX2_set 109 = .ok (.iaload, 1) := by decide +kernel
theorem dX2_set_110 : decode cX2_set 110 = .ok (.iastore, 1) := by decide +kernel
theorem dX2_set_111 : decode cX2_set 111 = .ok (.return_, 1) := by decide +kernel
theorem dX2_write_0 : decode cX2_write 0 = .ok (.aload_n 0, 1) := by decide +kernel
theorem dX2_write_1 : decode cX2_write 1 = .ok (.iload_n 1, 1) := by decide +kernel
theorem dX2_write_2 : decode cX2_write 2 = .ok (.invokestatic 87, 3) := by decide +kernel
theorem dX2_write_5 : decode cX2_write 5 = .ok (.ifCond .eq 16, 3) := by decide +kernel
theorem dX2_write_8 : decode cX2_write 8 = .ok (.iload_n 2, 1) := by decide +kernel
theorem dX2_write_9 : decode cX2_write 9 = .ok (.ifCond .eq 8, 3) := by decide +kernel
theorem dX2_write_12 : decode cX2_write 12 = .ok (.iload_n 2, 1) := by decide +kernel
theorem dX2_write_13 : decode cX2_write 13 = .ok (.iconst 1, 1) := by decide +kernel
theorem dX2_write_14 : decode cX2_write 14 = .ok (.if_icmp .ne 7, 3) := by decide +kernel
theorem dX2_write_17 : decode cX2_write 17 = .ok (.iconst 1, 1) := by decide +kernel
theorem dX2_write_18 : decode cX2_write 18 = .ok (.goto 4, 3) := by decide +kernel
theorem dX2_write_21 : decode cX2_write 21 = .ok (.iconst 0, 1) := by decide +kernel
theorem dX2_write_22 : decode cX2_write 22 = .ok (.iload_n 3, 1) := by decide +kernel
theorem dX2_write_23 : decode cX2_write 23 = .ok (.ifCond .lt 14, 3) := by decide +kernel
theorem dX2_write_26 : decode cX2_write 26 = .ok (.iload_n 3, 1) := by decide +kernel
theorem dX2_write_27 : decode cX2_write 27 = .ok (.sipush 255, 3) := by decide +kernel
theorem dX2_write_30 : decode cX2_write 30 = .ok (.if_icmp .gt 7, 3) := by decide +kernel
theorem dX2_write_33 : decode cX2_write 33 = .ok (.iconst 1, 1) := by decide +kernel
theorem dX2_write_34 : decode cX2_write 34 = .ok (.goto 4, 3) := by decide +kernel
theorem dX2_write_37 : decode cX2_write 37 = .ok (.iconst 0, 1) := by decide +kernel
theorem dX2_write_38 : decode cX2_write 38 = .ok (.invokevirtual 70, 3) := by decide +kernel
theorem dX2_write_41 : decode cX2_write 41 = .ok (.ifCond .ne 5, 3) := by decide +kernel
theorem dX2_write_44 : decode cX2_write 44 = .ok (.iconst 0, 1) := by decide +kernel
theorem dX2_write_45 : decode cX2_write 45 = .ok (.ireturn, 1) := by decide +kernel
theorem dX2_write_46 : decode cX2_write 46 = .ok (.iload_n 2, 1) := by decide +kernel
theorem dX2_write_47 : decode cX2_write 47 = .ok (.iconst 1, 1) := by decide +kernel
theorem dX2_write_48 : decode cX2_write 48 = .ok (.if_icmp .ne 12, 3) := by decide +kernel
theorem dX2_write_51 : decode cX2_write 51 = .ok (.aload_n 0, 1) := by decide +kernel
theorem dX2_write_52 : decode cX2_write 52 = .ok (.iload_n 1, 1) := by decide +kernel
theorem dX2_write_53 : decode cX2_write 53 = .ok (.iload_n 3, 1) := by decide +kernel
theorem dX2_write_54 : decode cX2_write 54 = .ok (.invokevirtual 91, 3) := by decide +kernel
theorem dX2_write_57 : decode cX2_write 57 = .ok (.goto 44, 3) := by decide +kernel
theorem dX2_write_60 : decode cX2_write 60 = .ok (.iload_n 3, 1) := by decide +kernel
theorem dX2_write_61 : decode cX2_write 61 = .ok (.iconst 4, 1) := by decide +kernel
theorem dX2_write_62 : decode cX2_write 62 = .ok (.ishr, 1) := by decide +kernel
theorem dX2_write_63 : decode cX2_write 63 = .ok (.iconst 1, 1) := by decide +kernel
theorem dX2_write_64 : decode cX2_write 64 = .ok (.iand, 1) := by decide +kernel
theorem dX2_write_65 : decode cX2_write 65 = .ok (.iconst 1, 1) := by decide +kernel
theorem dX2_write_66 : decode cX2_write 66 = .ok (.if_icmp .ne 12, 3) := by decide +kernel
theorem dX2_write_69 : decode cX2_write 69 = .ok (.aload_n 0, 1) := by decide +kernel
theorem dX2_write_70 : decode cX2_write 70 = .ok (.iload_n 1, 1) := by decide +kernel
theorem dX2_write_71 : decode cX2_write 71 = .ok (.iload_n 3, 1) := by decide +kernel
theorem dX2_write_72 : decode cX2_write 72 = .ok (.invokevirtual 95, 3) := by decide +kernel
theorem dX2_write_75 : decode cX2_write 75 = .ok (.goto 26, 3) := by decide +kernel
theorem dX2_write_78 : decode cX2_write 78 = .ok (.iload_n 3, 1) := by decide +kernel
theorem dX2_write_79 : decode cX2_write 79 = .ok (.iconst 3, 1) := by decide +kernel
theorem dX2_write_80 : decode cX2_write 80 = .ok (.ishr, 1) := by decide +kernel
theorem dX2_write_81 : decode cX2_write 81 = .ok (.iconst 1, 1) := by decide +kernel
theorem dX2_write_82 : decode cX2_write 82 = .ok (.iand, 1) := by decide +kernel
theorem dX2_write_83 : decode cX2_write 83 = .ok (.ifCond .ne 12, 3) := by decide +kernel
theorem dX2_write_86 : decode cX2_write 86 = .ok (.aload_n 0, 1) := by decide +kernel
theorem dX2_write_87 : decode cX2_write 87 = .ok (.iload_n 1, 1) := by decide +kernel
theorem dX2_write_88 : decode cX2_write 88 = .ok (.iload_n 3, 1) := by decide +kernel
theorem dX2_write_89 : decode cX2_write 89 = .ok (.invokevirtual 98, 3) := by decide +kernel
theorem dX2_write_92 : decode cX2_write 92 = .ok (.goto 9, 3) := by decide +kernel
theorem dX2_write_95 : decode cX2_write 95 = .ok (.aload_n 0, 1) := by decide +kernel
theorem dX2_write_96 : decode cX2_write 96 = .ok (.iload_n 1, 1) := by decide +kernel
theorem dX2_write_97 : decode cX2_write 97 = .ok (.iload_n 3, 1) := by decide +kernel
theorem dX2_write_98 : decode cX2_write 98 = .ok (.invokevirtual 101, 3) := by decide +kernel
theorem dX2_write_101 : decode cX2_write 101 = .ok (.aload_n 0, 1) := by decide +kernel
theorem dX2_write_102 : decode cX2_write 102 = .ok (.invokevirtual 74, 3) := by decide +kernel
theorem dX2_write_105 : decode cX2_write 105 = .ok (.aload_n 0, 1) := by decide +kernel
theorem dX2_write_106 : decode cX2_write 106 = .ok (.iconst 0, 1) := by decide +kernel
theorem dX2_write_107 : decode cX2_write 107 = .ok (.invokevirtual 59, 3) := by decide +kernel
theorem dX2_write_110 : decode cX2_write 110 = .ok (.iconst (-1), 1) := by decide +kernel
theorem dX2_write_111 : decode cX2_write 111 = .ok (.if_icmp .eq 7, 3) := by decide +kernel
theorem dX2_write_114 : decode cX2_write 114 = .ok (.iconst 1, 1) := by decide +kernel
theorem dX2_write_115 : decode cX2_write 115 = .ok (.goto 4, 3) := by decide +kernel
theorem dX2_write_118 : decode cX2_write 118 = .ok (.iconst 0, 1) := by decide +kernel
theorem dX2_write_119 : decode cX2_write 119 = .ok (.ireturn, 1) := by decide +kernel
theorem dX2_bits_0 : decode cX2_bits 0 = .ok (.iconst 0, 1) := by decide +kernel
theorem dX2_bits_1 : decode cX2_bits 1 = .ok (.istore_n 3, 1) := by decide +kernel
theorem dX2_bits_2 : decode cX2_bits 2 = .ok (.iconst 0, 1) := by decide +kernel
theorem dX2_bits_3 : decode cX2_bits 3 = .ok (.istore 4, 2) := by decide +kernel
theorem dX2_bits_5 : decode cX2_bits 5 = .ok (.iload 4, 2) := by decide +kernel
theorem dX2_bits_7 : decode cX2_bits 7 = .ok (.bipush 8, 2) := by decide +kernel
theorem dX2_bits_9 : decode cX2_bits 9 = .ok (.if_icmp .ge 93, 3) := by decide +kernel
theorem dX2_bits_12 : decode cX2_bits 12 = .ok (.iload_n 2, 1) := by decide +kernel
theorem dX2_bits_13 : decode cX2_bits 13 = .ok (.ifCond .ne 13, 3) := by decide +kernel
theorem dX2_bits_16 : decode cX2_bits 16 = .ok (.aload_n 0, 1) := by decide +kernel
theorem dX2_bits_17 : decode cX2_bits 17 = .ok (.iload_n 1, 1) := by decide +kernel
theorem dX2_bits_18 : decode cX2_bits 18 = .ok (.iload 4, 2) := by decide +kernel
theorem dX2_bits_20 : decode cX2_bits 20 = .ok (.invokevirtual 56, 3) := by decide +kernel
theorem dX2_bits_23 : decode cX2_bits 23 = .ok (.goto 55, 3) := by decide +kernel
theorem dX2_bits_26 : decode cX2_bits 26 = .ok (.iload_n 2, 1) := by decide +kernel
theorem dX2_bits_27 : decode cX2_bits 27 = .ok (.iconst 1, 1) := by decide +kernel
theorem dX2_bits_28 : decode cX2_bits 28 = .ok (.if_icmp .ne 18, 3) := by decide +kernel
theorem dX2_bits_31 : decode cX2_bits 31 = .ok (.aload_n 0, 1) := by decide +kernel
theorem dX2_bits_32 : decode cX2_bits 32 = .ok (.getfield 16, 3) := by decide +kernel
theorem dX2_bits_35 : decode cX2_bits 35 = .ok (.bipush 8, 2) := by decide +kernel
theorem dX2_bits_37 : decode cX2_bits 37 = .ok (.iload_n 1, 1) := by decide +kernel
theorem dX2_bits_38 : decode cX2_bits 38 = .ok (.imul, 1) := by decide +kernel
theorem dX2_bits_39 : decode cX2_bits 39 = .ok (.iload 4, 2) := by decide +kernel
theorem dX2_bits_41 : decode cX2_bits 41 = .ok (.iadd, 1) := by decide +kernel
theorem dX2_bits_42 : decode cX2_bits 42 = .ok (.baload, 1) := by decide +kernel
theorem dX2_bits_43 : decode cX2_bits 43 = .ok (.goto 35, 3) := by decide +kernel
theorem dX2_bits_46 : decode cX2_bits 46 = .ok (.iload_n 2, 1) := by decide +kernel
theorem dX2_bits_47 : decode cX2_bits 47 = .ok (.iconst 2, 1) := by decide +kernel
theorem dX2_bits_48 : decode cX2_bits 48 = .ok (.if_icmp .ne 18, 3) := by decide +kernel
theorem dX2_bits_51 : decode cX2_bits 51 = .ok (.aload_n 0, 1) := by decide +kernel
theorem dX2_bits_52 : decode cX2_bits 52 = .ok (.getfield 19, 3) := by decide +kernel
theorem dX2_bits_55 : decode cX2_bits 55 = .ok (.bipush 8, 2) := by decide +kernel
theorem dX2_bits_57 : decode cX2_bits 57 = .ok (.iload_n 1, 1) := by decide +kernel
theorem dX2_bits_58 : decode cX2_bits 58 = .ok (.imul, 1) := by decide +kernel
theorem dX2_bits_59 : decode cX2_bits 59 = .ok (.iload 4, 2) := by decide +kernel
theorem dX2_bits_61 : decode cX2_bits 61 = .ok (.iadd, 1) := by decide +kernel
theorem dX2_bits_62 : decode cX2_bits 62 = .ok (.baload, 1) := by decide +kernel
theorem dX2_bits_63 : decode cX2_bits 63 = .ok (.goto 15, 3) := by decide +kernel
theorem dX2_bits_66 : decode cX2_bits 66 = .ok (.aload_n 0, 1) := by decide +kernel
theorem dX2_bits_67 : decode cX2_bits 67 = .ok (.getfield 7, 3) := by decide +kernel
theorem dX2_bits_70 : decode cX2_bits 70 = .ok (.bipush 8, 2) := by decide +kernel
theorem dX2_bits_72 : decode cX2_bits 72 = .ok (.iload_n 1, 1) := by decide +kernel
theorem dX2_bits_73 : decode cX2_bits 73 = .ok (.imul, 1) := by decide +kernel
theorem dX2_bits_74 : decode cX2_bits 74 = .ok (.iload 4, 2) := by decide +kernel
theorem dX2_bits_76 : decode cX2_bits 76 = .ok (.iadd, 1) := by decide +kernel
theorem dX2_bits_77 : decode cX2_bits 77 = .ok (.baload, 1) := by decide +kernel
theorem dX2_bits_78 : decode cX2_bits 78 = .ok (.istore 5, 2) := by decide +kernel
theorem dX2_bits_80 : decode cX2_bits 80 = .ok (.iload 5, 2) := by decide +kernel
theorem dX2_bits_82 : decode cX2_bits 82 = .ok (.ifCond .eq 12, 3) := by decide +kernel
theorem dX2_bits_85 : decode cX2_bits 85 = .ok (.iload_n 3, 1) := by decide +kernel
theorem dX2_bits_86 : decode cX2_bits 86 = .ok (.iconst 1, 1) := by decide +kernel
theorem dX2_bits_87 : decode cX2_bits 87 = .ok (.iload 4, 2) := by decide +kernel
theorem dX2_bits_89 : decode cX2_bits 89 = .ok (.ishl, 1) := by decide +kernel
theorem dX2_bits_90 : decode cX2_bits 90 = .ok (.ior, 1) := by decide +kernel
theorem dX2_bits_91 : decode cX2_bits 91 = .ok (.goto 4, 3) := by decide +kernel
theorem dX2_bits_94 : decode cX2_bits 94 = .ok (.iload_n 3, 1) := by decide +kernel
theorem dX2_bits_95 : decode cX2_bits 95 = .ok (.istore_n 3, 1) := by decide +kernel
theorem dX2_bits_96 : decode cX2_bits 96 = .ok (.iinc 4 1, 3) := by decide +kernel
theorem dX2_bits_99 : decode cX2_bits 99 = .ok (.goto (-94), 3) := by decide +kernel
theorem dX2_bits_102 : decode cX2_bits 102 = .ok (.iload_n 3, 1) := by decide +kernel
theorem dX2_bits_103 : decode cX2_bits 103 = .ok (.ireturn, 1) := by decide +kernel
theorem dX2_read_0 : decode cX2_read 0 = .ok (.aload_n 0, 1) := by decide +kernel
theorem dX2_read_1 : decode cX2_read 1 = .ok (.iload_n 1, 1) := by decide +kernel
theorem dX2_read_2 : decode cX2_read 2 = .ok (.invokestatic 87, 3) := by decide +kernel
theorem dX2_read_5 : decode cX2_read 5 = .ok (.ifCond .eq 16, 3) := by decide +kernel
theorem dX2_read_8 : decode cX2_read 8 = .ok (.iload_n 2, 1) := by decide +kernel
theorem dX2_read_9 : decode cX2_read 9 = .ok (.ifCond .eq 8, 3) := by decide +kernel
theorem dX2_read_12 : decode cX2_read 12 = .ok (.iload_n 2, 1) := by decide +kernel
theorem dX2_read_13 : decode cX2_read 13 = .ok (.iconst 1, 1) := by decide +kernel
theorem dX2_read_14 : decode cX2_read 14 = .ok (.if_icmp .ne 7, 3) := by decide +kernel
theorem dX2_read_17 : decode cX2_read 17 = .ok (.iconst 1, 1) := by decide +kernel
theorem dX2_read_18 : decode cX2_read 18 = .ok (.goto 4, 3) := by decide +kernel
theorem dX2_read_21 : decode cX2_read 21 = .ok (.iconst 0, 1) := by decide +kernel
theorem dX2_read_22 : decode cX2_read 22 = .ok (.iconst 1, 1) := by decide +kernel
theorem dX2_read_23 : decode cX2_read 23 = .ok (.invokevirtual 70, 3) := by decide +kernel
theorem dX2_read_26 : decode cX2_read 26 = .ok (.ifCond .ne 5, 3) := by decide +kernel
theorem dX2_read_29 : decode cX2_read 29 = .ok (.iconst 0, 1) := by decide +kernel
theorem dX2_read_30 : decode cX2_read 30 = .ok (.ireturn, 1) := by decide +kernel
theorem dX2_read_31 : decode cX2_read 31 = .ok (.iload_n 2, 1) := by decide +kernel
theorem dX2_read_32 : decode cX2_read 32 = .ok (.iconst 1, 1) := by decide +kernel
theorem dX2_read_33 : decode cX2_read 33 = .ok (.if_icmp .ne 10, 3) := by decide +kernel
theorem dX2_read_36 : decode cX2_read 36 = .ok (.aload_n 0, 1) := by decide +kernel
theorem dX2_read_37 : decode cX2_read 37 = .ok (.iload_n 1, 1) := by decide +kernel
theorem dX2_read_38 : decode cX2_read 38 = .ok (.iconst 2, 1) := by decide +kernel
theorem dX2_read_39 : decode cX2_read 39 = .ok (.invokevirtual 104, 3) := by decide +kernel
theorem dX2_read_42 : decode cX2_read 42 = .ok (.ireturn, 1) := by decide +kernel
theorem dX2_read_43 : decode cX2_read 43 = .ok (.aload_n 0, 1) := by decide +kernel
theorem dX2_read_44 : decode cX2_read 44 = .ok (.iload_n 1, 1) := by decide +kernel
theorem dX2_read_45 : decode cX2_read 45 = .ok (.bipush 6, 2) := by decide +kernel
theorem dX2_read_47 : decode cX2_read 47 = .ok (.invokevirtual 45, 3) := by decide +kernel
theorem dX2_read_50 : decode cX2_read 50 = .ok (.ifCond .ne 15, 3) := by decide +kernel
theorem dX2_read_53 : decode cX2_read 53 = .ok (.aload_n 0, 1) := by decide +kernel
theorem dX2_read_54 : decode cX2_read 54 = .ok (.iload_n 1, 1) := by decide +kernel
theorem dX2_read_55 : decode cX2_read 55 = .ok (.aload_n 0, 1) := by decide +kernel
theorem dX2_read_56 : decode cX2_read 56 = .ok (.getfield 32, 3) := by decide +kernel
theorem dX2_read_59 : decode cX2_read 59 = .ok (.iload_n 1, 1) := by decide +kernel
theorem dX2_read_60 : decode cX2_read 60 = .ok (.iaload, 1) := by decide +kernel
theorem dX2_read_61 : decode cX2_read 61 = .ok (.invokevirtual 104, 3) := by decide +kernel
theorem dX2_read_64 : decode cX2_read 64 = .ok (.ireturn, 1) := by decide +kernel
theorem dX2_read_65 : decode cX2_read 65 = .ok (.aload_n 0, 1) := by decide +kernel
theorem dX2_read_66 : decode cX2_read 66 = .ok (.getfield 35, 3) := by decide +kernel
theorem dX2_read_69 : decode cX2_read 69 = .ok (.bipush 7, 2) := by decide +kernel
theorem dX2_read_71 : decode cX2_read 71 = .ok (.iload_n 1, 1) := by decide +kernel
theorem dX2_read_72 : decode cX2_read 72 = .ok (.imul, 1) := by decide +kernel
theorem dX2_read_73 : decode cX2_read 73 = .ok (.bipush 6, 2) := by decide +kernel
theorem dX2_read_75 : decode cX2_read 75 = .ok (.iadd, 1) := by decide +kernel
theorem dX2_read_76 : decode cX2_read 76 = .ok (.iconst 0, 1) := by decide +kernel
theorem dX2_read_77 : decode cX2_read 77 = .ok (.bastore, 1) := by decide +kernel
theorem dX2_read_78 : decode cX2_read 78 = .ok (.aload_n 0, 1) := by decide +kernel
theorem dX2_read_79 : decode cX2_read 79 = .ok (.iload_n 1, 1) := by decide +kernel
theorem dX2_read_80 : decode cX2_read 80 = .ok (.invokevirtual 59, 3) := by decide +kernel
theorem dX2_read_83 : decode cX2_read 83 = .ok (.istore_n 3, 1) := by decide +kernel
theorem dX2_read_84 : decode cX2_read 84 = .ok (.iload_n 3, 1) := by decide +kernel
theorem dX2_read_85 : decode cX2_read 85 = .ok (.iconst (-1), 1) := by decide +kernel
theorem dX2_read_86 : decode cX2_read 86 = .ok (.if_icmp .ne 5, 3) := by decide +kernel
theorem dX2_read_89 : decode cX2_read 89 = .ok (.iconst 0, 1) := by decide +kernel
theorem dX2_read_90 : decode cX2_read 90 = .ok (.ireturn, 1) := by decide +kernel
theorem dX2_read_91 : decode cX2_read 91 = .ok (.aload_n 0, 1) := by decide +kernel
theorem dX2_read_92 : decode cX2_read 92 = .ok (.iload_n 1, 1) := by decide +kernel
theorem dX2_read_93 : decode cX2_read 93 = .ok (.iload_n 3, 1) := by decide +kernel
theorem dX2_read_94 : decode cX2_read 94 = .ok (.invokevirtual 107, 3) := by decide +kernel
theorem dX2_read_97 : decode cX2_read 97 = .ok (.aload_n 0, 1) := by decide +kernel
theorem dX2_read_98 : decode cX2_read 98 = .ok (.invokevirtual 74, 3) := by decide +kernel
theorem dX2_read_101 : decode cX2_read 101 = .ok (.sipush 128, 3) := by decide +kernel
theorem dX2_read_104 : decode cX2_read 104 = .ok (.iload_n 3, 1) := by decide +kernel
theorem dX2_read_105 : decode cX2_read 105 = .ok (.iadd, 1) := by decide +kernel
theorem dX2_read_106 : decode cX2_read 106 = .ok (.ireturn, 1) := by decide +kernel
theorem dX2_take_0 : decode cX2_take 0 = .ok (.aload_n 0, 1) := by decide +kernel
theorem dX2_take_1 : decode cX2_take 1 = .ok (.iconst 0, 1) := by decide +kernel
theorem dX2_take_2 : decode cX2_take 2 = .ok (.putfield 41, 3) := by decide +kernel
theorem dX2_take_5 : decode cX2_take 5 = .ok (.aload_n 0, 1) := by decide +kernel
theorem dX2_take_6 : decode cX2_take 6 = .ok (.iconst 0, 1) := by decide +kernel
theorem dX2_take_7 : decode cX2_take 7 = .ok (.invokevirtual 59, 3) := by decide +kernel
theorem dX2_take_10 : decode cX2_take 10 = .ok (.istore_n 1, 1) := by decide +kernel
theorem dX2_take_11 : decode cX2_take 11 = .ok (.iload_n 1, 1) := by decide +kernel
theorem dX2_take_12 : decode cX2_take 12 = .ok (.iconst (-1), 1) := by decide +kernel
theorem dX2_take_13 : decode cX2_take 13 = .ok (.if_icmp .ne 23, 3) := by decide +kernel
theorem dX2_take_16 : decode cX2_take 16 = .ok (.aload_n 0, 1) := by decide +kernel
theorem dX2_take_17 : decode cX2_take 17 = .ok (.dup, 1) := by decide +kernel
theorem dX2_take_18 : decode cX2_take 18 = .ok (.getfield 110, 3) := by decide +kernel
theorem dX2_take_21 : decode cX2_take 21 = .ok (.iconst 1, 1) := by decide +kernel
theorem dX2_take_22 : decode cX2_take 22 = .ok (.iadd, 1) := by decide +kernel
theorem dX2_take_23 : decode cX2_take 23 = .ok (.putfield 110, 3) := by decide +kernel
theorem dX2_take_26 : decode cX2_take 26 = .ok (.aload_n 0, 1) := by decide +kernel
theorem dX2_take_27 : decode cX2_take 27 = .ok (.getfield 26, 3) := by decide +kernel
theorem dX2_take_30 : decode cX2_take 30 = .ok (.iconst 0, 1) := by decide +kernel
theorem dX2_take_31 : decode cX2_take 31 = .ok (.iaload, 1) := by decide +kernel
theorem dX2_take_32 : decode cX2_take 32 = .ok (.bipush 7, 2) := by decide +kernel
theorem dX2_take_34 : decode cX2_take 34 = .ok (.iadd, 1) := by decide +kernel
theorem dX2_take_35 : decode cX2_take 35 = .ok (.ireturn, 1) := by decide +kernel
theorem dX2_take_36 : decode cX2_take 36 = .ok (.aload_n 0, 1) := by decide +kernel
theorem dX2_take_37 : decode cX2_take 37 = .ok (.iconst 0, 1) := by decide +kernel
theorem dX2_take_38 : decode cX2_take 38 = .ok (.iload_n 1, 1) := by decide +kernel
theorem dX2_take_39 : decode cX2_take 39 = .ok (.invokevirtual 107, 3) := by decide +kernel
theorem dX2_take_42 : decode cX2_take 42 = .ok (.iload_n 1, 1) := by decide +kernel
theorem dX2_take_43 : decode cX2_take 43 = .ok (.iconst 2, 1) := by decide +kernel
theorem dX2_take_44 : decode cX2_take 44 = .ok (.if_icmp .eq 12, 3) := by decide +kernel
theorem dX2_take_47 : decode cX2_take 47 = .ok (.aload_n 0, 1) := by decide +kernel
theorem dX2_take_48 : decode cX2_take 48 = .ok (.getfield 26, 3) := by decide +kernel
theorem dX2_take_51 : decode cX2_take 51 = .ok (.iconst 0, 1) := by decide +kernel
theorem dX2_take_52 : decode cX2_take 52 = .ok (.iaload, 1) := by decide +kernel
theorem dX2_take_53 : decode cX2_take 53 = .ok (.iload_n 1, 1) := by decide +kernel
theorem dX2_take_54 : decode cX2_take 54 = .ok (.iadd, 1) := by decide +kernel
theorem dX2_take_55 : decode cX2_take 55 = .ok (.ireturn, 1) := by decide +kernel
theorem dX2_take_56 : decode cX2_take 56 = .ok (.aload_n 0, 1) := by decide +kernel
theorem dX2_take_57 : decode cX2_take 57 = .ok (.iconst 1, 1) := by decide +kernel
theorem dX2_take_58 : decode cX2_take 58 = .ok (.invokevirtual 59, 3) := by decide +kernel
theorem dX2_take_61 : decode cX2_take 61 = .ok (.istore_n 2, 1) := by decide +kernel
theorem dX2_take_62 : decode cX2_take 62 = .ok (.aload_n 0, 1) := by decide +kernel
theorem dX2_take_63 : decode cX2_take 63 = .ok (.iconst 1, 1) := by decide +kernel
theorem dX2_take_64 : decode cX2_take 64 = .ok (.iload_n 2, 1) := by decide +kernel
theorem dX2_take_65 : decode cX2_take 65 = .ok (.invokevirtual 107, 3) := by decide +kernel
theorem dX2_take_68 : decode cX2_take 68 = .ok (.aload_n 0, 1) := by decide +kernel
theorem dX2_take_69 : decode cX2_take 69 = .ok (.iconst 2, 1) := by decide +kernel
theorem dX2_take_70 : decode cX2_take 70 = .ok (.iconst 0, 1) := by decide +kernel
theorem dX2_take_71 : decode cX2_take 71 = .ok (.invokevirtual 63, 3) := by decide +kernel
theorem dX2_take_74 : decode cX2_take 74 = .ok (.aload_n 0, 1) := by decide +kernel
theorem dX2_take_75 : decode cX2_take 75 = .ok (.invokevirtual 74, 3) := by decide +kernel
theorem dX2_take_78 : decode cX2_take 78 = .ok (.aload_n 0, 1) := by decide +kernel
theorem dX2_take_79 : decode cX2_take 79 = .ok (.getfield 26, 3) := by decide +kernel
theorem dX2_take_82 : decode cX2_take 82 = .ok (.iconst 1, 1) := by decide +kernel
theorem dX2_take_83 : decode cX2_take 83 = .ok (.iaload, 1) := by decide +kernel
theorem dX2_take_84 : decode cX2_take 84 = .ok (.iload_n 2, 1) := by decide +kernel
theorem dX2_take_85 : decode cX2_take 85 = .ok (.iadd, 1) := by decide +kernel
theorem dX2_take_86 : decode cX2_take 86 = .ok (.ireturn, 1) := by decide +kernel
theorem dX2_delivers_0 : decode cX2_delivers 0 = .ok (.aload_n 0, 1) := by decide +kernel
theorem dX2_delivers_1 : decode cX2_delivers 1 = .ok (.iload_n 1, 1) := by decide +kernel
theorem dX2_delivers_2 : decode cX2_delivers 2 = .ok (.invokestatic 87, 3) := by decide +kernel
theorem dX2_delivers_5 : decode cX2_delivers 5 = .ok (.iconst 1, 1) := by decide +kernel
theorem dX2_delivers_6 : decode cX2_delivers 6 = .ok (.invokevirtual 70, 3) := by decide +kernel
theorem dX2_delivers_9 : decode cX2_delivers 9 = .ok (.ifCond .eq 11, 3) := by decide +kernel
theorem dX2_delivers_12 : decode cX2_delivers 12 = .ok (.aload_n 0, 1) := by decide +kernel
theorem dX2_delivers_13 : decode cX2_delivers 13 = .ok (.iload_n 1, 1) := by decide +kernel
theorem dX2_delivers_14 : decode cX2_delivers 14 = .ok (.invokevirtual 59, 3) := by decide +kernel
theorem dX2_delivers_17 : decode cX2_delivers 17 = .ok (.goto 4, 3) := by decide +kernel
theorem dX2_delivers_20 : decode cX2_delivers 20 = .ok (.iconst 0, 1) := by decide +kernel
theorem dX2_delivers_21 : decode cX2_delivers 21 = .ok (.ireturn, 1) := by decide +kernel
theorem dX2_about_0 : decode cX2_about 0 = .ok (.aload_n 0, 1) := by decide +kernel
theorem dX2_about_1 : decode cX2_about 1 = .ok (.iload_n 1, 1) := by decide +kernel
theorem dX2_about_2 : decode cX2_about 2 = .ok (.invokestatic 87, 3) := by decide +kernel
theorem dX2_about_5 : decode cX2_about 5 = .ok (.iload_n 2, 1) := by decide +kernel
theorem dX2_about_6 : decode cX2_about 6 = .ok (.ifCond .lt 13, 3) := by decide +kernel
theorem dX2_about_9 : decode cX2_about 9 = .ok (.iload_n 2, 1) := by decide +kernel
theorem dX2_about_10 : decode cX2_about 10 = .ok (.bipush 7, 2) := by decide +kernel
theorem dX2_about_12 : decode cX2_about 12 = .ok (.if_icmp .gt 7, 3) := by decide +kernel
theorem dX2_about_15 : decode cX2_about 15 = .ok (.iconst 1, 1) := by decide +kernel
theorem dX2_about_16 : decode cX2_about 16 = .ok (.goto 4, 3) := by decide +kernel
theorem dX2_about_19 : decode cX2_about 19 = .ok (.iconst 0, 1) := by decide +kernel
theorem dX2_about_20 : decode cX2_about 20 = .ok (.invokevirtual 70, 3) := by decide +kernel
theorem dX2_about_23 : decode cX2_about 23 = .ok (.ifCond .ne 5, 3) := by decide +kernel
theorem dX2_about_26 : decode cX2_about 26 = .ok (.iconst 0, 1) := by decide +kernel
theorem dX2_about_27 : decode cX2_about 27 = .ok (.ireturn, 1) := by decide +kernel
theorem dX2_about_28 : decode cX2_about 28 = .ok (.iload_n 2, 1) := by decide +kernel
theorem dX2_about_29 : decode cX2_about 29 = .ok (.tableswitch 59 4 7 #[31, 38, 45, 52], 31) := by decide +kernel
theorem dX2_about_60 : decode cX2_about 60 = .ok (.aload_n 0, 1) := by decide +kernel
theorem dX2_about_61 : decode cX2_about 61 = .ok (.getfield 22, 3) := by decide +kernel
theorem dX2_about_64 : decode cX2_about 64 = .ok (.iload_n 1, 1) := by decide +kernel
theorem dX2_about_65 : decode cX2_about 65 = .ok (.iaload, 1) := by decide +kernel
theorem dX2_about_66 : decode cX2_about 66 = .ok (.ireturn, 1) := by decide +kernel
theorem dX2_about_67 : decode cX2_about 67 = .ok (.aload_n 0, 1) := by decide +kernel
theorem dX2_about_68 : decode cX2_about 68 = .ok (.getfield 26, 3) := by decide +kernel
theorem dX2_about_71 : decode cX2_about 71 = .ok (.iload_n 1, 1) := by decide +kernel
theorem dX2_about_72 : decode cX2_about 72 = .ok (.iaload, 1) := by decide +kernel
theorem dX2_about_73 : decode cX2_about 73 = .ok (.ireturn, 1) := by decide +kernel
theorem dX2_about_74 : decode cX2_about 74 = .ok (.aload_n 0, 1) := by decide +kernel
theorem dX2_about_75 : decode cX2_about 75 = .ok (.getfield 29, 3) := by decide +kernel
theorem dX2_about_78 : decode cX2_about 78 = .ok (.iload_n 1, 1) := by decide +kernel
theorem dX2_about_79 : decode cX2_about 79 = .ok (.iaload, 1) := by decide +kernel
theorem dX2_about_80 : decode cX2_about 80 = .ok (.ireturn, 1) := by decide +kernel
theorem dX2_about_81 : decode cX2_about 81 = .ok (.aload_n 0, 1) := by decide +kernel
theorem dX2_about_82 : decode cX2_about 82 = .ok (.getfield 32, 3) := by decide +kernel
theorem dX2_about_85 : decode cX2_about 85 = .ok (.iload_n 1, 1) := by decide +kernel
theorem dX2_about_86 : decode cX2_about 86 = .ok (.iaload, 1) := by decide +kernel
theorem dX2_about_87 : decode cX2_about 87 = .ok (.ireturn, 1) := by decide +kernel
theorem dX2_about_88 : decode cX2_about 88 = .ok (.aload_n 0, 1) := by decide +kernel
theorem dX2_about_89 : decode cX2_about 89 = .ok (.iload_n 1, 1) := by decide +kernel
theorem dX2_about_90 : decode cX2_about 90 = .ok (.iload_n 2, 1) := by decide +kernel
theorem dX2_about_91 : decode cX2_about 91 = .ok (.invokevirtual 104, 3) := by decide +kernel
theorem dX2_about_94 : decode cX2_about 94 = .ok (.ireturn, 1) := by decide +kernel
theorem dX2_mode_0 : decode cX2_mode 0 = .ok (.aload_n 0, 1) := by decide +kernel
theorem dX2_mode_1 : decode cX2_mode 1 = .ok (.iload_n 1, 1) := by decide +kernel
theorem dX2_mode_2 : decode cX2_mode 2 = .ok (.invokestatic 87, 3) := by decide +kernel
theorem dX2_mode_5 : decode cX2_mode 5 = .ok (.iload_n 2, 1) := by decide +kernel
theorem dX2_mode_6 : decode cX2_mode 6 = .ok (.ifCond .lt 13, 3) := by decide +kernel
theorem dX2_mode_9 : decode cX2_mode 9 = .ok (.iload_n 2, 1) := by decide +kernel
theorem dX2_mode_10 : decode cX2_mode 10 = .ok (.bipush 6, 2) := by decide +kernel
theorem dX2_mode_12 : decode cX2_mode 12 = .ok (.if_icmp .gt 7, 3) := by decide +kernel
theorem dX2_mode_15 : decode cX2_mode 15 = .ok (.iconst 1, 1) := by decide +kernel
theorem dX2_mode_16 : decode cX2_mode 16 = .ok (.goto 4, 3) := by decide +kernel
theorem dX2_mode_19 : decode cX2_mode 19 = .ok (.iconst 0, 1) := by decide +kernel
theorem dX2_mode_20 : decode cX2_mode 20 = .ok (.invokevirtual 70, 3) := by decide +kernel
theorem dX2_mode_23 : decode cX2_mode 23 = .ok (.ifCond .eq 16, 3) := by decide +kernel
theorem dX2_mode_26 : decode cX2_mode 26 = .ok (.aload_n 0, 1) := by decide +kernel
theorem dX2_mode_27 : decode cX2_mode 27 = .ok (.iload_n 1, 1) := by decide +kernel
theorem dX2_mode_28 : decode cX2_mode 28 = .ok (.iload_n 2, 1) := by decide +kernel
theorem dX2_mode_29 : decode cX2_mode 29 = .ok (.invokevirtual 45, 3) := by decide +kernel
theorem dX2_mode_32 : decode cX2_mode 32 = .ok (.ifCond .eq 7, 3) := by decide +kernel
theorem dX2_mode_35 : decode cX2_mode 35 = .ok (.iconst 1, 1) := by decide +kernel
theorem dX2_mode_36 : decode cX2_mode 36 = .ok (.goto 4, 3) := by decide +kernel
theorem dX2_mode_39 : decode cX2_mode 39 = .ok (.iconst 0, 1) := by decide +kernel
theorem dX2_mode_40 : decode cX2_mode 40 = .ok (.ireturn, 1) := by decide +kernel
theorem dX2_count_0 : decode cX2_count 0 = .ok (.aload_n 0, 1) := by decide +kernel
theorem dX2_count_1 : decode cX2_count 1 = .ok (.iload_n 1, 1) := by decide +kernel
theorem dX2_count_2 : decode cX2_count 2 = .ok (.ifCond .lt 12, 3) := by decide +kernel
theorem dX2_count_5 : decode cX2_count 5 = .ok (.iload_n 1, 1) := by decide +kernel
theorem dX2_count_6 : decode cX2_count 6 = .ok (.iconst 2, 1) := by decide +kernel
theorem dX2_count_7 : decode cX2_count 7 = .ok (.if_icmp .gt 7, 3) := by decide +kernel
theorem dX2_count_10 : decode cX2_count 10 = .ok (.iconst 1, 1) := by decide +kernel
theorem dX2_count_11 : decode cX2_count 11 = .ok (.goto 4, 3) := by decide +kernel
theorem dX2_count_14 : decode cX2_count 14 = .ok (.iconst 0, 1) := by decide +kernel
theorem dX2_count_15 : decode cX2_count 15 = .ok (.iconst 1, 1) := by decide +kernel
theorem dX2_count_16 : decode cX2_count 16 = .ok (.invokevirtual 70, 3) := by decide +kernel
theorem dX2_count_19 : decode cX2_count 19 = .ok (.ifCond .ne 5, 3) := by decide +kernel
theorem dX2_count_22 : decode cX2_count 22 = .ok (.iconst 0, 1) := by decide +kernel
theorem dX2_count_23 : decode cX2_count 23 = .ok (.ireturn, 1) := by decide +kernel
theorem dX2_count_24 : decode cX2_count 24 = .ok (.iload_n 1, 1) := by decide +kernel
theorem dX2_count_25 : decode cX2_count 25 = .ok (.ifCond .ne 10, 3) := by decide +kernel
theorem dX2_count_28 : decode cX2_count 28 = .ok (.aload_n 0, 1) := by decide +kernel
theorem dX2_count_29 : decode cX2_count 29 = .ok (.getfield 67, 3) := by decide +kernel
theorem dX2_count_32 : decode cX2_count 32 = .ok (.goto 19, 3) := by decide +kernel
theorem dX2_count_35 : decode cX2_count 35 = .ok (.iload_n 1, 1) := by decide +kernel
theorem dX2_count_36 : decode cX2_count 36 = .ok (.iconst 1, 1) := by decide +kernel
theorem dX2_count_37 : decode cX2_count 37 = .ok (.if_icmp .ne 10, 3) := by decide +kernel
theorem dX2_count_40 : decode cX2_count 40 = .ok (.aload_n 0, 1) := by decide +kernel
theorem dX2_count_41 : decode cX2_count 41 = .ok (.getfield 110, 3) := by decide +kernel
theorem dX2_count_44 : decode cX2_count 44 = .ok (.goto 7, 3) := by decide +kernel
theorem dX2_count_47 : decode cX2_count 47 = .ok (.aload_n 0, 1) := by decide +kernel
theorem dX2_count_48 : decode cX2_count 48 = .ok (.getfield 80, 3) := by decide +kernel
theorem dX2_count_51 : decode cX2_count 51 = .ok (.ireturn, 1) := by decide +kernel
end
section
abbrev mtys (cA : Nat → ClassId) : List (ClassId × FieldType) := [(cA 0, .boolean), (cA 1, .boolean), (cA 2, .boolean), (cA 3, .boolean), (cA 4, .int), (cA 5, .int), (cA 6, .int), (cA 7, .int), (cA 8, .boolean), (cA 9, .boolean)]
abbrev mw (hm : Nat) (a : Nat → Nat) (cA : Nat → ClassId) (q : (Nat → Nat → Bool) × (Nat → Nat → Nat)) : va_W := [(hm, .inr (2, [.int (nI (q.2 4 0)), .ref (a 0), .ref (a 1), .ref (a 2), .ref (a 3), .ref (a 4), .ref (a 5), .ref (a 6), .ref (a 7), .ref (a 8), .ref (a 9), .int (nI (q.2 4 1)), .int (nI (q.2 4 2)), .int (nI (q.2 4 3))])), (a 0, .inl (cA 0, 16, .inl (bF (q.1 0)))), (a 1, .inl (cA 1, 16, .inl (bF (q.1 1)))), (a 2, .inl (cA 2, 16, .inl (bF (q.1 2)))), (a 3, .inl (cA 3, 16, .inl (bF (q.1 3)))), (a 4, .inl (cA 4, 2, .inl (nF (q.2 0)))), (a 5, .inl (cA 5, 2, .inl (nF (q.2 1)))), (a 6, .inl (cA 6, 2, .inl (nF (q.2 2)))), (a 7, .inl (cA 7, 2, .inl (nF (q.2 3)))), (a 8, .inl (cA 8, 14, .inl (bF (q.1 4)))), (a 9, .inl (cA 9, 2, .inl (bF (q.1 5))))]

set_option maxHeartbeats 4000000 in
set_option maxRecDepth 100000 in
theorem c2_thrown (l : Launch) (dC : Nat → ClassId) (dI : Nat → Nat → Nat) (hm : Nat) (a : Nat → Nat) (cA : Nat → ClassId) (B : Nat → Nat → Bool) (N : Nat → Nat → Nat) : xr_M l yX2_thrown wsX2_thrown ({ frames := 0, cells := 0, slots := 0, locals := 0 }) [.ref hm] (dC, dI) vwCl (mtys cA) [] (mw hm a cA (B, N)) (some (.int (nI (N 4 0)))) := by
  refine Met.ofW (cc := cX2_thrown) (maxL := 1) (ret := (some .int)) (by decide) rfl ?_
  intro p e s m args below meth cd s₁ B₀ hml hv
  obtain ⟨rfl, hP, hK, hZ⟩ := hv
  have hx := B₀.exec
  have hb := B₀.bytes
  have hr := B₀.returns
  have hts := atoms_spec (ws := wsX2_thrown) B₀.pre
  have hown : s.vm.findClass RX2 = some m.cls := findClass_of_methodNamed B₀.named
  have hlocks := B₀.notSynchronized
  have hin_RX2 : ∀ w ∈ u_ws RX2 TX2 14, w ∈ wsX2_thrown := fun w h => List.mem_cons_of_mem _ (u_X2 w h)
  have hlk_41 := hts _ (List.mem_cons_of_mem _ k_fl_X2_41)
  have hl := lv_entry ([.ref hm]) (n := 1) (Nat.le_of_ble_eq_true rfl)
  rw [lg_entry_eq]
  generalize (lg_sl ([.ref hm]) ++ List.replicate (1 - (lg_sl ([.ref hm])).length) Slot.unset).toArray = ls at hl ⊢
  have hl : lv_has ls 1 [(0, .ref hm)] := hl
  refine lv_aload_n hx hb dX2_thrown_0 rfl (lv_at hl 0 rfl) ?_
  refine va_get (D := (dC, dI)) (ci := 2) (v := .int (nI (N 4 0))) (C := RX2) (T := TX2) (N := 14) hx hb hts hin_RX2 hown hK hP 0 rfl rfl 0 (by decide) hlk_41 (fun _ h9 => h9) rfl dX2_thrown_1 ?_
  exact xr_iret hx hb hr hlocks dX2_thrown_4  (congrArg nI (show N 4 0 = (N 4 0) from (by first | rfl | (simp only [Bool.true_and, Bool.false_and, Bool.and_true, Bool.and_false, Bool.true_or, Bool.or_true, Bool.false_or, Bool.or_false, Bool.not_true, Bool.not_false, decide_true, decide_false, Option.isSome, not_true_eq_false, not_false_eq_true, if_true, if_false, reduceCtorEq, ↓reduceIte]; done) | (simp only [Bool.true_and, Bool.false_and, Bool.and_true, Bool.and_false, Bool.true_or, Bool.or_true, Bool.false_or, Bool.or_false, Bool.not_true, Bool.not_false, decide_true, decide_false, Option.isSome, not_true_eq_false, not_false_eq_true, if_true, if_false, reduceCtorEq, ↓reduceIte]; rfl) | (simp_all; done))))

set_option maxHeartbeats 4000000 in
set_option maxRecDepth 100000 in
theorem c2_isController (l : Launch) (dC : Nat → ClassId) (dI : Nat → Nat → Nat) (x : Int32) : xr_M l yX2_isController wsX2_isController ({ frames := 0, cells := 0, slots := 0, locals := 0 }) [.int x] (dC, dI) vwCl ([]) [] ([]) (some (.int (bI (mIsC x)))) := by
  refine Met.ofW (cc := cX2_isController) (maxL := 1) (ret := (some .boolean)) (by decide) rfl ?_
  intro p e s m args below meth cd s₁ B₀ hml hv
  obtain ⟨rfl, hP, hK, hZ⟩ := hv
  have hx := B₀.exec
  have hb := B₀.bytes
  have hr := B₀.returns
  have hts := atoms_spec (ws := wsX2_isController) B₀.pre
  have hown : s.vm.findClass RX2 = some m.cls := findClass_of_methodNamed B₀.named
  have hlocks := B₀.notSynchronized
  have hl := lv_entry ([.int x]) (n := 1) (Nat.le_of_ble_eq_true rfl)
  rw [lg_entry_eq]
  generalize (lg_sl ([.int x]) ++ List.replicate (1 - (lg_sl ([.int x])).length) Slot.unset).toArray = ls at hl ⊢
  have hl : lv_has ls 1 [(0, .int x)] := hl
  refine lv_iload_n hx hb dX2_isController_0 rfl (lv_at hl 0 rfl) ?_
  refine lv_if_eq (tgt := 9) hx hb dX2_isController_1 (by decide) (fun h1 => ?_) (fun h1 => ?_)
  · refine lv_iconst (v := nI 1) hx hb dX2_isController_9 (by decide) ?_
    refine lv_goto (tgt := 14) hx hb dX2_isController_10 (by decide) ?_
    exact xr_zret hx hb hr hlocks dX2_isController_14 (bI_nar true) (congrArg bI (show true = (mIsC x) from (by first | rfl | (simp only [if_pos h1, if_neg (not_not_intro h1), decide_eq_true h1, Bool.true_and, Bool.false_and, Bool.and_true, Bool.and_false, Bool.true_or, Bool.or_true, Bool.false_or, Bool.or_false, Bool.not_true, Bool.not_false, decide_true, decide_false, Option.isSome, not_true_eq_false, not_false_eq_true, if_true, if_false, reduceCtorEq, ↓reduceIte]; done) | (simp only [mIsC, if_pos h1, if_neg (not_not_intro h1), decide_eq_true h1, Bool.true_and, Bool.false_and, Bool.and_true, Bool.and_false, Bool.true_or, Bool.or_true, Bool.false_or, Bool.or_false, Bool.not_true, Bool.not_false, decide_true, decide_false, Option.isSome, not_true_eq_false, not_false_eq_true, if_true, if_false, reduceCtorEq, ↓reduceIte]; done) | (simp only [mIsC]; simp only [if_pos h1, if_neg (not_not_intro h1), decide_eq_true h1, Bool.true_and, Bool.false_and, Bool.and_true, Bool.and_false, Bool.true_or, Bool.or_true, Bool.false_or, Bool.or_false, Bool.not_true, Bool.not_false, decide_true, decide_false, Option.isSome, not_true_eq_false, not_false_eq_true, if_true, if_false, reduceCtorEq, ↓reduceIte]; done) | (simp only [mIsC]; simp only [if_pos h1, if_neg (not_not_intro h1), decide_eq_true h1, Bool.true_and, Bool.false_and, Bool.and_true, Bool.and_false, Bool.true_or, Bool.or_true, Bool.false_or, Bool.or_false, Bool.not_true, Bool.not_false, decide_true, decide_false, Option.isSome, not_true_eq_false, not_false_eq_true, if_true, if_false, reduceCtorEq, ↓reduceIte]; done) | (simp only [mIsC]; simp only [if_pos h1, if_neg (not_not_intro h1), decide_eq_true h1, Bool.true_and, Bool.false_and, Bool.and_true, Bool.and_false, Bool.true_or, Bool.or_true, Bool.false_or, Bool.or_false, Bool.not_true, Bool.not_false, decide_true, decide_false, Option.isSome, not_true_eq_false, not_false_eq_true, if_true, if_false, reduceCtorEq, ↓reduceIte]; rfl) | (simp only [if_pos h1, if_neg (not_not_intro h1), decide_eq_true h1, Bool.true_and, Bool.false_and, Bool.and_true, Bool.and_false, Bool.true_or, Bool.or_true, Bool.false_or, Bool.or_false, Bool.not_true, Bool.not_false, decide_true, decide_false, Option.isSome, not_true_eq_false, not_false_eq_true, if_true, if_false, reduceCtorEq, ↓reduceIte]; rfl) | (simp_all [mIsC]; done))))
  · refine lv_iload_n hx hb dX2_isController_4 rfl (lv_at hl 0 rfl) ?_
    refine lv_iconst (v := nI 1) hx hb dX2_isController_5 (by decide) ?_
    refine lv_icmp_ne (tgt := 13) hx hb dX2_isController_6 (by decide) (fun h2 => ?_) (fun h2 => ?_)
    · refine lv_iconst (v := nI 0) hx hb dX2_isController_13 (by decide) ?_
      exact xr_zret hx hb hr hlocks dX2_isController_14 (bI_nar false) (congrArg bI (show false = (mIsC x) from (by first | rfl | (simp only [if_neg h1, if_pos h1, decide_eq_false h1, if_neg h2, if_pos h2, decide_eq_false h2, Bool.true_and, Bool.false_and, Bool.and_true, Bool.and_false, Bool.true_or, Bool.or_true, Bool.false_or, Bool.or_false, Bool.not_true, Bool.not_false, decide_true, decide_false, Option.isSome, not_true_eq_false, not_false_eq_true, if_true, if_false, reduceCtorEq, ↓reduceIte]; done) | (simp only [mIsC, if_neg h1, if_pos h1, decide_eq_false h1, if_neg h2, if_pos h2, decide_eq_false h2, Bool.true_and, Bool.false_and, Bool.and_true, Bool.and_false, Bool.true_or, Bool.or_true, Bool.false_or, Bool.or_false, Bool.not_true, Bool.not_false, decide_true, decide_false, Option.isSome, not_true_eq_false, not_false_eq_true, if_true, if_false, reduceCtorEq, ↓reduceIte]; done) | (simp only [mIsC]; simp only [if_neg h1, if_pos h1, decide_eq_false h1, if_neg h2, if_pos h2, decide_eq_false h2, Bool.true_and, Bool.false_and, Bool.and_true, Bool.and_false, Bool.true_or, Bool.or_true, Bool.false_or, Bool.or_false, Bool.not_true, Bool.not_false, decide_true, decide_false, Option.isSome, not_true_eq_false, not_false_eq_true, if_true, if_false, reduceCtorEq, ↓reduceIte]; done) | (simp only [mIsC]; simp only [if_neg h1, if_pos h1, decide_eq_false h1, if_neg h2, if_pos h2, decide_eq_false h2, Bool.true_and, Bool.false_and, Bool.and_true, Bool.and_false, Bool.true_or, Bool.or_true, Bool.false_or, Bool.or_false, Bool.not_true, Bool.not_false, decide_true, decide_false, Option.isSome, not_true_eq_false, not_false_eq_true, if_true, if_false, reduceCtorEq, ↓reduceIte]; done) | (simp only [mIsC]; simp only [if_neg h1, if_pos h1, decide_eq_false h1, if_neg h2, if_pos h2, decide_eq_false h2, Bool.true_and, Bool.false_and, Bool.and_true, Bool.and_false, Bool.true_or, Bool.or_true, Bool.false_or, Bool.or_false, Bool.not_true, Bool.not_false, decide_true, decide_false, Option.isSome, not_true_eq_false, not_false_eq_true, if_true, if_false, reduceCtorEq, ↓reduceIte]; rfl) | (simp only [if_neg h1, if_pos h1, decide_eq_false h1, if_neg h2, if_pos h2, decide_eq_false h2, Bool.true_and, Bool.false_and, Bool.and_true, Bool.and_false, Bool.true_or, Bool.or_true, Bool.false_or, Bool.or_false, Bool.not_true, Bool.not_false, decide_true, decide_false, Option.isSome, not_true_eq_false, not_false_eq_true, if_true, if_false, reduceCtorEq, ↓reduceIte]; rfl) | (simp_all [mIsC]; done))))
    · refine lv_iconst (v := nI 1) hx hb dX2_isController_9 (by decide) ?_
      refine lv_goto (tgt := 14) hx hb dX2_isController_10 (by decide) ?_
      exact xr_zret hx hb hr hlocks dX2_isController_14 (bI_nar true) (congrArg bI (show true = (mIsC x) from (by first | rfl | (simp only [if_neg h1, if_pos h1, decide_eq_false h1, if_pos h2, if_neg (not_not_intro h2), decide_eq_true h2, Bool.true_and, Bool.false_and, Bool.and_true, Bool.and_false, Bool.true_or, Bool.or_true, Bool.false_or, Bool.or_false, Bool.not_true, Bool.not_false, decide_true, decide_false, Option.isSome, not_true_eq_false, not_false_eq_true, if_true, if_false, reduceCtorEq, ↓reduceIte]; done) | (simp only [mIsC, if_neg h1, if_pos h1, decide_eq_false h1, if_pos h2, if_neg (not_not_intro h2), decide_eq_true h2, Bool.true_and, Bool.false_and, Bool.and_true, Bool.and_false, Bool.true_or, Bool.or_true, Bool.false_or, Bool.or_false, Bool.not_true, Bool.not_false, decide_true, decide_false, Option.isSome, not_true_eq_false, not_false_eq_true, if_true, if_false, reduceCtorEq, ↓reduceIte]; done) | (simp only [mIsC]; simp only [if_neg h1, if_pos h1, decide_eq_false h1, if_pos h2, if_neg (not_not_intro h2), decide_eq_true h2, Bool.true_and, Bool.false_and, Bool.and_true, Bool.and_false, Bool.true_or, Bool.or_true, Bool.false_or, Bool.or_false, Bool.not_true, Bool.not_false, decide_true, decide_false, Option.isSome, not_true_eq_false, not_false_eq_true, if_true, if_false, reduceCtorEq, ↓reduceIte]; done) | (simp only [mIsC]; simp only [if_neg h1, if_pos h1, decide_eq_false h1, if_pos h2, if_neg (not_not_intro h2), decide_eq_true h2, Bool.true_and, Bool.false_and, Bool.and_true, Bool.and_false, Bool.true_or, Bool.or_true, Bool.false_or, Bool.or_false, Bool.not_true, Bool.not_false, decide_true, decide_false, Option.isSome, not_true_eq_false, not_false_eq_true, if_true, if_false, reduceCtorEq, ↓reduceIte]; done) | (simp only [mIsC]; simp only [if_neg h1, if_pos h1, decide_eq_false h1, if_pos h2, if_neg (not_not_intro h2), decide_eq_true h2, Bool.true_and, Bool.false_and, Bool.and_true, Bool.and_false, Bool.true_or, Bool.or_true, Bool.false_or, Bool.or_false, Bool.not_true, Bool.not_false, decide_true, decide_false, Option.isSome, not_true_eq_false, not_false_eq_true, if_true, if_false, reduceCtorEq, ↓reduceIte]; rfl) | (simp only [if_neg h1, if_pos h1, decide_eq_false h1, if_pos h2, if_neg (not_not_intro h2), decide_eq_true h2, Bool.true_and, Bool.false_and, Bool.and_true, Bool.and_false, Bool.true_or, Bool.or_true, Bool.false_or, Bool.or_false, Bool.not_true, Bool.not_false, decide_true, decide_false, Option.isSome, not_true_eq_false, not_false_eq_true, if_true, if_false, reduceCtorEq, ↓reduceIte]; rfl) | (simp_all [mIsC]; done))))

set_option maxHeartbeats 4000000 in
set_option maxRecDepth 100000 in
theorem c2_goes (l : Launch) (dC : Nat → ClassId) (dI : Nat → Nat → Nat) (hm : Nat) (a : Nat → Nat) (cA : Nat → ClassId) (sz : Nat) (B : Nat → Nat → Bool) (N : Nat → Nat → Nat) (x : Bool) (y : Bool) : xc_M l yX2_goes wsX2_goes ({ frames := 0, cells := 0, slots := 0, locals := 0 }) [.ref hm, .int (bI x), .int (bI y)] sz (dC, dI) vwCl (mtys cA) [] (mw hm a cA (B, N)) (some (.int (bI (x && y)))) (mw hm a cA (B, sN N 4 0 (mTh x y))) 0 0 := by
  refine Met.ofW (cc := cX2_goes) (maxL := 3) (ret := (some .boolean)) (by decide) rfl ?_
  intro p e s m args below meth cd s₁ B₀ hml hv
  obtain ⟨rfl, hsz, hP, hK, hD0, hZ⟩ := hv
  have hx := B₀.exec
  have hb := B₀.bytes
  have hr := B₀.returns
  have hts := atoms_spec (ws := wsX2_goes) B₀.pre
  have hown : s.vm.findClass RX2 = some m.cls := findClass_of_methodNamed B₀.named
  have hlocks := B₀.notSynchronized
  subst hsz
  have hD := hD0.self (sz := s.heap.size)
  generalize hAe : va_A (mw hm a cA (B, N)) s.heap.size = A at hD ⊢
  have hA : ∀ q : Nat, s.heap.size ≤ q → A q := fun q h => by rw [← hAe]; exact Or.inr h
  have hS : va_S A s.heap s.heap [] := va_S.rf
  have hin_RX2 : ∀ w ∈ u_ws RX2 TX2 14, w ∈ wsX2_goes := fun w h => List.mem_cons_of_mem _ (u_X2 w h)
  have hlk_41 := hts _ (List.mem_cons_of_mem _ k_fl_X2_41)
  have hl := lv_entry ([.ref hm, .int (bI x), .int (bI y)]) (n := 3) (Nat.le_of_ble_eq_true rfl)
  rw [lg_entry_eq]
  generalize (lg_sl ([.ref hm, .int (bI x), .int (bI y)]) ++ List.replicate (3 - (lg_sl ([.ref hm, .int (bI x), .int (bI y)])).length) Slot.unset).toArray = ls at hl ⊢
  have hl : lv_has ls 3 [(0, .ref hm), (1, .int (bI x)), (2, .int (bI y))] := hl
  refine lv_aload_n hx hb dX2_goes_0 rfl (lv_at hl 0 rfl) ?_
  refine lv_iload_n hx hb dX2_goes_1 rfl (lv_at hl 1 rfl) ?_
  refine xb_if_ne (b := x) (tgt := 9) hx hb dX2_goes_2 (by decide) (fun h1 => ?_) (fun h1 => ?_)
  · refine lv_iload_n hx hb dX2_goes_9 rfl (lv_at hl 2 rfl) ?_
    refine xb_if_ne (b := y) (tgt := 17) hx hb dX2_goes_10 (by decide) (fun h2 => ?_) (fun h2 => ?_)
    · refine lv_iconst (v := nI 0) hx hb dX2_goes_17 (by decide) ?_
      refine va_put (D := (dC, dI)) (ci := 2) (v := .int (nI 0)) (ty := .int) (C := RX2) (T := TX2) (N := 14) hx hb hts hin_RX2 tyX2 tyX2_ok nX2 hown hK hP hD hS 0 rfl rfl 0 (by decide) hlk_41 (fun _ h9 => h9) rfl (by decide +kernel) rfl rfl (Nat.le_of_ble_eq_true rfl) dX2_goes_18 (fun H locs hP hD hS => ?_)
      have hP : va_P (dC, dI) vwCl (mw hm a cA (B, sN N 4 0 0)) H := hP
      have hD : va_D A (mw hm a cA (B, sN N 4 0 0)) := hD
      refine lv_aload_n hx hb dX2_goes_21 rfl (lv_at hl 0 rfl) ?_
      refine va_get (D := (dC, dI)) (ci := 2) (v := .int (nI 0)) (C := RX2) (T := TX2) (N := 14) hx hb hts hin_RX2 hown hK hP 0 rfl rfl 0 (by decide) hlk_41 (fun _ h9 => h9) rfl dX2_goes_22 ?_
      refine xn_if_ne (x := 0) (tgt := 32) (by omega) hx hb dX2_goes_25 (by decide) (fun h => absurd (by decide) h) (fun _ => ?_)
      refine lv_iconst (v := nI 1) hx hb dX2_goes_28 (by decide) ?_
      refine lv_goto (tgt := 33) hx hb dX2_goes_29 (by decide) ?_
      exact xc_zret (wf := mw hm a cA) hx hb hr hlocks dX2_goes_33 hK hP hD hS (bI_nar true) (congrArg bI (show true = (x && y) from (by first | rfl | (simp only [h1, h2, Bool.true_and, Bool.false_and, Bool.and_true, Bool.and_false, Bool.true_or, Bool.or_true, Bool.false_or, Bool.or_false, Bool.not_true, Bool.not_false, decide_true, decide_false, Option.isSome, not_true_eq_false, not_false_eq_true, if_true, if_false, reduceCtorEq, ↓reduceIte]; done) | (simp only [mTh, h1, h2, Bool.true_and, Bool.false_and, Bool.and_true, Bool.and_false, Bool.true_or, Bool.or_true, Bool.false_or, Bool.or_false, Bool.not_true, Bool.not_false, decide_true, decide_false, Option.isSome, not_true_eq_false, not_false_eq_true, if_true, if_false, reduceCtorEq, ↓reduceIte]; done) | (simp only [mTh]; simp only [h1, h2, Bool.true_and, Bool.false_and, Bool.and_true, Bool.and_false, Bool.true_or, Bool.or_true, Bool.false_or, Bool.or_false, Bool.not_true, Bool.not_false, decide_true, decide_false, Option.isSome, not_true_eq_false, not_false_eq_true, if_true, if_false, reduceCtorEq, ↓reduceIte]; done) | (simp only [mTh]; simp only [h1, h2, Bool.true_and, Bool.false_and, Bool.and_true, Bool.and_false, Bool.true_or, Bool.or_true, Bool.false_or, Bool.or_false, Bool.not_true, Bool.not_false, decide_true, decide_false, Option.isSome, not_true_eq_false, not_false_eq_true, if_true, if_false, reduceCtorEq, ↓reduceIte]; done) | (simp only [mTh]; simp only [h1, h2, Bool.true_and, Bool.false_and, Bool.and_true, Bool.and_false, Bool.true_or, Bool.or_true, Bool.false_or, Bool.or_false, Bool.not_true, Bool.not_false, decide_true, decide_false, Option.isSome, not_true_eq_false, not_false_eq_true, if_true, if_false, reduceCtorEq, ↓reduceIte]; rfl) | (simp only [h1, h2, Bool.true_and, Bool.false_and, Bool.and_true, Bool.and_false, Bool.true_or, Bool.or_true, Bool.false_or, Bool.or_false, Bool.not_true, Bool.not_false, decide_true, decide_false, Option.isSome, not_true_eq_false, not_false_eq_true, if_true, if_false, reduceCtorEq, ↓reduceIte]; rfl) | (simp_all [mTh]; done)))) (by first | rfl | (simp only [h1, h2, Bool.true_and, Bool.false_and, Bool.and_true, Bool.and_false, Bool.true_or, Bool.or_true, Bool.false_or, Bool.or_false, Bool.not_true, Bool.not_false, decide_true, decide_false, Option.isSome, not_true_eq_false, not_false_eq_true, if_true, if_false, reduceCtorEq, ↓reduceIte]; done) | (simp only [mTh, h1, h2, Bool.true_and, Bool.false_and, Bool.and_true, Bool.and_false, Bool.true_or, Bool.or_true, Bool.false_or, Bool.or_false, Bool.not_true, Bool.not_false, decide_true, decide_false, Option.isSome, not_true_eq_false, not_false_eq_true, if_true, if_false, reduceCtorEq, ↓reduceIte]; done) | (simp only [mTh]; simp only [h1, h2, Bool.true_and, Bool.false_and, Bool.and_true, Bool.and_false, Bool.true_or, Bool.or_true, Bool.false_or, Bool.or_false, Bool.not_true, Bool.not_false, decide_true, decide_false, Option.isSome, not_true_eq_false, not_false_eq_true, if_true, if_false, reduceCtorEq, ↓reduceIte]; done) | (simp only [mTh]; simp only [h1, h2, Bool.true_and, Bool.false_and, Bool.and_true, Bool.and_false, Bool.true_or, Bool.or_true, Bool.false_or, Bool.or_false, Bool.not_true, Bool.not_false, decide_true, decide_false, Option.isSome, not_true_eq_false, not_false_eq_true, if_true, if_false, reduceCtorEq, ↓reduceIte]; done) | (simp only [mTh]; simp only [h1, h2, Bool.true_and, Bool.false_and, Bool.and_true, Bool.and_false, Bool.true_or, Bool.or_true, Bool.false_or, Bool.or_false, Bool.not_true, Bool.not_false, decide_true, decide_false, Option.isSome, not_true_eq_false, not_false_eq_true, if_true, if_false, reduceCtorEq, ↓reduceIte]; rfl) | (simp only [h1, h2, Bool.true_and, Bool.false_and, Bool.and_true, Bool.and_false, Bool.true_or, Bool.or_true, Bool.false_or, Bool.or_false, Bool.not_true, Bool.not_false, decide_true, decide_false, Option.isSome, not_true_eq_false, not_false_eq_true, if_true, if_false, reduceCtorEq, ↓reduceIte]; rfl) | (simp_all [mTh]; done))
    · refine lv_iconst (v := nI 2) hx hb dX2_goes_13 (by decide) ?_
      refine lv_goto (tgt := 18) hx hb dX2_goes_14 (by decide) ?_
      refine va_put (D := (dC, dI)) (ci := 2) (v := .int (nI 2)) (ty := .int) (C := RX2) (T := TX2) (N := 14) hx hb hts hin_RX2 tyX2 tyX2_ok nX2 hown hK hP hD hS 0 rfl rfl 0 (by decide) hlk_41 (fun _ h9 => h9) rfl (by decide +kernel) rfl rfl (Nat.le_of_ble_eq_true rfl) dX2_goes_18 (fun H locs hP hD hS => ?_)
      have hP : va_P (dC, dI) vwCl (mw hm a cA (B, sN N 4 0 2)) H := hP
      have hD : va_D A (mw hm a cA (B, sN N 4 0 2)) := hD
      refine lv_aload_n hx hb dX2_goes_21 rfl (lv_at hl 0 rfl) ?_
      refine va_get (D := (dC, dI)) (ci := 2) (v := .int (nI 2)) (C := RX2) (T := TX2) (N := 14) hx hb hts hin_RX2 hown hK hP 0 rfl rfl 0 (by decide) hlk_41 (fun _ h9 => h9) rfl dX2_goes_22 ?_
      refine xn_if_ne (x := 2) (tgt := 32) (by omega) hx hb dX2_goes_25 (by decide) (fun _ => ?_) (fun h => absurd h (by decide))
      refine lv_iconst (v := nI 0) hx hb dX2_goes_32 (by decide) ?_
      exact xc_zret (wf := mw hm a cA) hx hb hr hlocks dX2_goes_33 hK hP hD hS (bI_nar false) (congrArg bI (show false = (x && y) from (by first | rfl | (simp only [h1, h2, Bool.true_and, Bool.false_and, Bool.and_true, Bool.and_false, Bool.true_or, Bool.or_true, Bool.false_or, Bool.or_false, Bool.not_true, Bool.not_false, decide_true, decide_false, Option.isSome, not_true_eq_false, not_false_eq_true, if_true, if_false, reduceCtorEq, ↓reduceIte]; done) | (simp only [mTh, h1, h2, Bool.true_and, Bool.false_and, Bool.and_true, Bool.and_false, Bool.true_or, Bool.or_true, Bool.false_or, Bool.or_false, Bool.not_true, Bool.not_false, decide_true, decide_false, Option.isSome, not_true_eq_false, not_false_eq_true, if_true, if_false, reduceCtorEq, ↓reduceIte]; done) | (simp only [mTh]; simp only [h1, h2, Bool.true_and, Bool.false_and, Bool.and_true, Bool.and_false, Bool.true_or, Bool.or_true, Bool.false_or, Bool.or_false, Bool.not_true, Bool.not_false, decide_true, decide_false, Option.isSome, not_true_eq_false, not_false_eq_true, if_true, if_false, reduceCtorEq, ↓reduceIte]; done) | (simp only [mTh]; simp only [h1, h2, Bool.true_and, Bool.false_and, Bool.and_true, Bool.and_false, Bool.true_or, Bool.or_true, Bool.false_or, Bool.or_false, Bool.not_true, Bool.not_false, decide_true, decide_false, Option.isSome, not_true_eq_false, not_false_eq_true, if_true, if_false, reduceCtorEq, ↓reduceIte]; done) | (simp only [mTh]; simp only [h1, h2, Bool.true_and, Bool.false_and, Bool.and_true, Bool.and_false, Bool.true_or, Bool.or_true, Bool.false_or, Bool.or_false, Bool.not_true, Bool.not_false, decide_true, decide_false, Option.isSome, not_true_eq_false, not_false_eq_true, if_true, if_false, reduceCtorEq, ↓reduceIte]; rfl) | (simp only [h1, h2, Bool.true_and, Bool.false_and, Bool.and_true, Bool.and_false, Bool.true_or, Bool.or_true, Bool.false_or, Bool.or_false, Bool.not_true, Bool.not_false, decide_true, decide_false, Option.isSome, not_true_eq_false, not_false_eq_true, if_true, if_false, reduceCtorEq, ↓reduceIte]; rfl) | (simp_all [mTh]; done)))) (by first | rfl | (simp only [h1, h2, Bool.true_and, Bool.false_and, Bool.and_true, Bool.and_false, Bool.true_or, Bool.or_true, Bool.false_or, Bool.or_false, Bool.not_true, Bool.not_false, decide_true, decide_false, Option.isSome, not_true_eq_false, not_false_eq_true, if_true, if_false, reduceCtorEq, ↓reduceIte]; done) | (simp only [mTh, h1, h2, Bool.true_and, Bool.false_and, Bool.and_true, Bool.and_false, Bool.true_or, Bool.or_true, Bool.false_or, Bool.or_false, Bool.not_true, Bool.not_false, decide_true, decide_false, Option.isSome, not_true_eq_false, not_false_eq_true, if_true, if_false, reduceCtorEq, ↓reduceIte]; done) | (simp only [mTh]; simp only [h1, h2, Bool.true_and, Bool.false_and, Bool.and_true, Bool.and_false, Bool.true_or, Bool.or_true, Bool.false_or, Bool.or_false, Bool.not_true, Bool.not_false, decide_true, decide_false, Option.isSome, not_true_eq_false, not_false_eq_true, if_true, if_false, reduceCtorEq, ↓reduceIte]; done) | (simp only [mTh]; simp only [h1, h2, Bool.true_and, Bool.false_and, Bool.and_true, Bool.and_false, Bool.true_or, Bool.or_true, Bool.false_or, Bool.or_false, Bool.not_true, Bool.not_false, decide_true, decide_false, Option.isSome, not_true_eq_false, not_false_eq_true, if_true, if_false, reduceCtorEq, ↓reduceIte]; done) | (simp only [mTh]; simp only [h1, h2, Bool.true_and, Bool.false_and, Bool.and_true, Bool.and_false, Bool.true_or, Bool.or_true, Bool.false_or, Bool.or_false, Bool.not_true, Bool.not_false, decide_true, decide_false, Option.isSome, not_true_eq_false, not_false_eq_true, if_true, if_false, reduceCtorEq, ↓reduceIte]; rfl) | (simp only [h1, h2, Bool.true_and, Bool.false_and, Bool.and_true, Bool.and_false, Bool.true_or, Bool.or_true, Bool.false_or, Bool.or_false, Bool.not_true, Bool.not_false, decide_true, decide_false, Option.isSome, not_true_eq_false, not_false_eq_true, if_true, if_false, reduceCtorEq, ↓reduceIte]; rfl) | (simp_all [mTh]; done))
  · refine lv_iconst (v := nI 1) hx hb dX2_goes_5 (by decide) ?_
    refine lv_goto (tgt := 18) hx hb dX2_goes_6 (by decide) ?_
    refine va_put (D := (dC, dI)) (ci := 2) (v := .int (nI 1)) (ty := .int) (C := RX2) (T := TX2) (N := 14) hx hb hts hin_RX2 tyX2 tyX2_ok nX2 hown hK hP hD hS 0 rfl rfl 0 (by decide) hlk_41 (fun _ h9 => h9) rfl (by decide +kernel) rfl rfl (Nat.le_of_ble_eq_true rfl) dX2_goes_18 (fun H locs hP hD hS => ?_)
    have hP : va_P (dC, dI) vwCl (mw hm a cA (B, sN N 4 0 1)) H := hP
    have hD : va_D A (mw hm a cA (B, sN N 4 0 1)) := hD
    refine lv_aload_n hx hb dX2_goes_21 rfl (lv_at hl 0 rfl) ?_
    refine va_get (D := (dC, dI)) (ci := 2) (v := .int (nI 1)) (C := RX2) (T := TX2) (N := 14) hx hb hts hin_RX2 hown hK hP 0 rfl rfl 0 (by decide) hlk_41 (fun _ h9 => h9) rfl dX2_goes_22 ?_
    refine xn_if_ne (x := 1) (tgt := 32) (by omega) hx hb dX2_goes_25 (by decide) (fun _ => ?_) (fun h => absurd h (by decide))
    refine lv_iconst (v := nI 0) hx hb dX2_goes_32 (by decide) ?_
    exact xc_zret (wf := mw hm a cA) hx hb hr hlocks dX2_goes_33 hK hP hD hS (bI_nar false) (congrArg bI (show false = (x && y) from (by first | rfl | (simp only [h1, Bool.true_and, Bool.false_and, Bool.and_true, Bool.and_false, Bool.true_or, Bool.or_true, Bool.false_or, Bool.or_false, Bool.not_true, Bool.not_false, decide_true, decide_false, Option.isSome, not_true_eq_false, not_false_eq_true, if_true, if_false, reduceCtorEq, ↓reduceIte]; done) | (simp only [mTh, h1, Bool.true_and, Bool.false_and, Bool.and_true, Bool.and_false, Bool.true_or, Bool.or_true, Bool.false_or, Bool.or_false, Bool.not_true, Bool.not_false, decide_true, decide_false, Option.isSome, not_true_eq_false, not_false_eq_true, if_true, if_false, reduceCtorEq, ↓reduceIte]; done) | (simp only [mTh]; simp only [h1, Bool.true_and, Bool.false_and, Bool.and_true, Bool.and_false, Bool.true_or, Bool.or_true, Bool.false_or, Bool.or_false, Bool.not_true, Bool.not_false, decide_true, decide_false, Option.isSome, not_true_eq_false, not_false_eq_true, if_true, if_false, reduceCtorEq, ↓reduceIte]; done) | (simp only [mTh]; simp only [h1, Bool.true_and, Bool.false_and, Bool.and_true, Bool.and_false, Bool.true_or, Bool.or_true, Bool.false_or, Bool.or_false, Bool.not_true, Bool.not_false, decide_true, decide_false, Option.isSome, not_true_eq_false, not_false_eq_true, if_true, if_false, reduceCtorEq, ↓reduceIte]; done) | (simp only [mTh]; simp only [h1, Bool.true_and, Bool.false_and, Bool.and_true, Bool.and_false, Bool.true_or, Bool.or_true, Bool.false_or, Bool.or_false, Bool.not_true, Bool.not_false, decide_true, decide_false, Option.isSome, not_true_eq_false, not_false_eq_true, if_true, if_false, reduceCtorEq, ↓reduceIte]; rfl) | (simp only [h1, Bool.true_and, Bool.false_and, Bool.and_true, Bool.and_false, Bool.true_or, Bool.or_true, Bool.false_or, Bool.or_false, Bool.not_true, Bool.not_false, decide_true, decide_false, Option.isSome, not_true_eq_false, not_false_eq_true, if_true, if_false, reduceCtorEq, ↓reduceIte]; rfl) | (simp_all [mTh]; done)))) (by first | rfl | (simp only [h1, Bool.true_and, Bool.false_and, Bool.and_true, Bool.and_false, Bool.true_or, Bool.or_true, Bool.false_or, Bool.or_false, Bool.not_true, Bool.not_false, decide_true, decide_false, Option.isSome, not_true_eq_false, not_false_eq_true, if_true, if_false, reduceCtorEq, ↓reduceIte]; done) | (simp only [mTh, h1, Bool.true_and, Bool.false_and, Bool.and_true, Bool.and_false, Bool.true_or, Bool.or_true, Bool.false_or, Bool.or_false, Bool.not_true, Bool.not_false, decide_true, decide_false, Option.isSome, not_true_eq_false, not_false_eq_true, if_true, if_false, reduceCtorEq, ↓reduceIte]; done) | (simp only [mTh]; simp only [h1, Bool.true_and, Bool.false_and, Bool.and_true, Bool.and_false, Bool.true_or, Bool.or_true, Bool.false_or, Bool.or_false, Bool.not_true, Bool.not_false, decide_true, decide_false, Option.isSome, not_true_eq_false, not_false_eq_true, if_true, if_false, reduceCtorEq, ↓reduceIte]; done) | (simp only [mTh]; simp only [h1, Bool.true_and, Bool.false_and, Bool.and_true, Bool.and_false, Bool.true_or, Bool.or_true, Bool.false_or, Bool.or_false, Bool.not_true, Bool.not_false, decide_true, decide_false, Option.isSome, not_true_eq_false, not_false_eq_true, if_true, if_false, reduceCtorEq, ↓reduceIte]; done) | (simp only [mTh]; simp only [h1, Bool.true_and, Bool.false_and, Bool.and_true, Bool.and_false, Bool.true_or, Bool.or_true, Bool.false_or, Bool.or_false, Bool.not_true, Bool.not_false, decide_true, decide_false, Option.isSome, not_true_eq_false, not_false_eq_true, if_true, if_false, reduceCtorEq, ↓reduceIte]; rfl) | (simp only [h1, Bool.true_and, Bool.false_and, Bool.and_true, Bool.and_false, Bool.true_or, Bool.or_true, Bool.false_or, Bool.or_false, Bool.not_true, Bool.not_false, decide_true, decide_false, Option.isSome, not_true_eq_false, not_false_eq_true, if_true, if_false, reduceCtorEq, ↓reduceIte]; rfl) | (simp_all [mTh]; done))

set_option maxHeartbeats 4000000 in
set_option maxRecDepth 100000 in
theorem c2_is (l : Launch) (dC : Nat → ClassId) (dI : Nat → Nat → Nat) (hm : Nat) (a : Nat → Nat) (cA : Nat → ClassId) (B : Nat → Nat → Bool) (N : Nat → Nat → Nat) (c : Nat) (k : Nat) (hk : 7 * c + k < 14) : xr_M l yX2_is wsX2_is ({ frames := 0, cells := 0, slots := 0, locals := 0 }) [.ref hm, .int (nI c), .int (nI k)] (dC, dI) vwCl (mtys cA) [] (mw hm a cA (B, N)) (some (.int (bI (B 4 (7 * c + k))))) := by
  refine Met.ofW (cc := cX2_is) (maxL := 3) (ret := (some .boolean)) (by decide) rfl ?_
  intro p e s m args below meth cd s₁ B₀ hml hv
  obtain ⟨rfl, hP, hK, hZ⟩ := hv
  have hx := B₀.exec
  have hb := B₀.bytes
  have hr := B₀.returns
  have hts := atoms_spec (ws := wsX2_is) B₀.pre
  have hown : s.vm.findClass RX2 = some m.cls := findClass_of_methodNamed B₀.named
  have hlocks := B₀.notSynchronized
  have hin_RX2 : ∀ w ∈ u_ws RX2 TX2 14, w ∈ wsX2_is := fun w h => List.mem_cons_of_mem _ (u_X2 w h)
  have hlk_35 := hts _ (List.mem_cons_of_mem _ k_fl_X2_35)
  have hl := lv_entry ([.ref hm, .int (nI c), .int (nI k)]) (n := 3) (Nat.le_of_ble_eq_true rfl)
  rw [lg_entry_eq]
  generalize (lg_sl ([.ref hm, .int (nI c), .int (nI k)]) ++ List.replicate (3 - (lg_sl ([.ref hm, .int (nI c), .int (nI k)])).length) Slot.unset).toArray = ls at hl ⊢
  have hl : lv_has ls 3 [(0, .ref hm), (1, .int (nI c)), (2, .int (nI k))] := hl
  refine lv_aload_n hx hb dX2_is_0 rfl (lv_at hl 0 rfl) ?_
  refine va_get (D := (dC, dI)) (ci := 2) (v := .ref (a 8)) (C := RX2) (T := TX2) (N := 14) hx hb hts hin_RX2 hown hK hP 0 rfl rfl 9 (by decide) hlk_35 (fun _ h9 => h9) rfl dX2_is_1 ?_
  refine lv_bipush (v := nI 7) hx hb dX2_is_4 (by decide) ?_
  refine lv_iload_n hx hb dX2_is_6 rfl (lv_at hl 1 rfl) ?_
  refine lv_imul hx hb dX2_is_7 ?_
  refine xi_eq (y := nI (7 * c)) (pk_mul _ _) ?_
  refine lv_iload_n hx hb dX2_is_8 rfl (lv_at hl 2 rfl) ?_
  refine lv_iadd hx hb dX2_is_9 ?_
  refine xi_eq (y := nI ((7 * c) + k)) (nI_add _ _) ?_
  refine xz_ld (f := B 4) (j := ((7 * c) + k)) hx hb hK hP 9 8 rfl rfl (by omega) (by decide) dX2_is_10 ?_
  exact xr_zret hx hb hr hlocks dX2_is_11 (bI_nar (B 4 ((7 * c) + k))) (congrArg bI (show B 4 ((7 * c) + k) = (B 4 (7 * c + k)) from (by first | rfl | (simp only [Bool.true_and, Bool.false_and, Bool.and_true, Bool.and_false, Bool.true_or, Bool.or_true, Bool.false_or, Bool.or_false, Bool.not_true, Bool.not_false, decide_true, decide_false, Option.isSome, not_true_eq_false, not_false_eq_true, if_true, if_false, reduceCtorEq, ↓reduceIte]; done) | (simp only [Bool.true_and, Bool.false_and, Bool.and_true, Bool.and_false, Bool.true_or, Bool.or_true, Bool.false_or, Bool.or_false, Bool.not_true, Bool.not_false, decide_true, decide_false, Option.isSome, not_true_eq_false, not_false_eq_true, if_true, if_false, reduceCtorEq, ↓reduceIte]; rfl) | (simp_all; done))))

set_option maxHeartbeats 4000000 in
set_option maxRecDepth 100000 in
theorem c2_requested (l : Launch) (dC : Nat → ClassId) (dI : Nat → Nat → Nat) (hm : Nat) (a : Nat → Nat) (cA : Nat → ClassId) (B : Nat → Nat → Bool) (N : Nat → Nat → Nat) (c : Nat) (k : Nat) (hc : c < 2) (hk : k < 8) : xr_M l yX2_requested wsX2_requested ({ frames := 1, cells := 0, slots := 0, locals := 22 }) [.ref hm, .int (nI c), .int (nI k)] (dC, dI) vwCl (mtys cA) [] (mw hm a cA (B, N)) (some (.int (bI (mReq B c k)))) := by
  refine Met.ofW (cc := cX2_requested) (maxL := 3) (ret := (some .boolean)) (by decide) rfl ?_
  intro p e s m args below meth cd s₁ B₀ hml hv
  obtain ⟨rfl, hP, hK, hZ⟩ := hv
  have hx := B₀.exec
  have hb := B₀.bytes
  have hr := B₀.returns
  have hts := atoms_spec (ws := wsX2_requested) B₀.pre
  have hown : s.vm.findClass RX2 = some m.cls := findClass_of_methodNamed B₀.named
  have hlocks := B₀.notSynchronized
  have hin_RX2 : ∀ w ∈ u_ws RX2 TX2 14, w ∈ wsX2_requested := fun w h => List.mem_cons_of_mem _ (u_X2 w h)
  have hlk_7 := hts _ (List.mem_cons_of_mem _ k_fl_X2_7)
  have hlk_13 := hts _ (List.mem_cons_of_mem _ k_fl_X2_13)
  have hl := lv_entry ([.ref hm, .int (nI c), .int (nI k)]) (n := 3) (Nat.le_of_ble_eq_true rfl)
  rw [lg_entry_eq]
  generalize (lg_sl ([.ref hm, .int (nI c), .int (nI k)]) ++ List.replicate (3 - (lg_sl ([.ref hm, .int (nI c), .int (nI k)])).length) Slot.unset).toArray = ls at hl ⊢
  have hl : lv_has ls 3 [(0, .ref hm), (1, .int (nI c)), (2, .int (nI k))] := hl
  refine lv_aload_n hx hb dX2_requested_0 rfl (lv_at hl 0 rfl) ?_
  refine lv_iload_n hx hb dX2_requested_1 rfl (lv_at hl 1 rfl) ?_
  refine lv_iconst (v := nI 1) hx hb dX2_requested_2 (by decide) ?_
  refine xr_call (st1 := [.int (bI (B 4 (7 * c + 1)))]) (W.runV (As := [.int (nI c), .int (nI 1)]) (rest := []) ⟨hx, hb, hml, hown, hts⟩ (c2_is l dC dI hm a cA B N c 1 (by omega)) (cwV 2 hts (gd_V wa_c k_ml_X2_45 k_im_X2_is k_se_X2_is k_in_X2 k_co_X2_is) rfl rfl rfl (by decide +kernel) ⟨Nat.le_of_ble_eq_true rfl, Nat.le_of_ble_eq_true rfl⟩) (xr_preV (q0 := 0) (C := RX2) hK hP xz_Z.nil rfl rfl) rfl rfl hl.1 rfl (lv_room (Nat.le_of_ble_eq_true rfl)) dX2_requested_3 ⟨Nat.zero_le _, Nat.zero_le _⟩) rfl ?_
  refine xb_if_eq (b := B 4 (7 * c + 1)) (tgt := 23) hx hb dX2_requested_6 (by decide) (fun h1 => ?_) (fun h1 => ?_)
  · refine lv_aload_n hx hb dX2_requested_23 rfl (lv_at hl 0 rfl) ?_
    refine va_get (D := (dC, dI)) (ci := 2) (v := .ref (a 1)) (C := RX2) (T := TX2) (N := 14) hx hb hts hin_RX2 hown hK hP 0 rfl rfl 2 (by decide) hlk_13 (fun _ h9 => h9) rfl dX2_requested_24 ?_
    refine lv_bipush (v := nI 8) hx hb dX2_requested_27 (by decide) ?_
    refine lv_iload_n hx hb dX2_requested_29 rfl (lv_at hl 1 rfl) ?_
    refine lv_imul hx hb dX2_requested_30 ?_
    refine xi_eq (y := nI (8 * c)) (pk_mul _ _) ?_
    refine lv_iload_n hx hb dX2_requested_31 rfl (lv_at hl 2 rfl) ?_
    refine lv_iadd hx hb dX2_requested_32 ?_
    refine xi_eq (y := nI ((8 * c) + k)) (nI_add _ _) ?_
    refine xz_ld (f := B 1) (j := ((8 * c) + k)) hx hb hK hP 2 1 rfl rfl (by omega) (by decide) dX2_requested_33 ?_
    exact xr_zret hx hb hr hlocks dX2_requested_34 (bI_nar (B 1 ((8 * c) + k))) (congrArg bI (show B 1 ((8 * c) + k) = (mReq B c k) from (by first | rfl | (simp only [h1, Bool.true_and, Bool.false_and, Bool.and_true, Bool.and_false, Bool.true_or, Bool.or_true, Bool.false_or, Bool.or_false, Bool.not_true, Bool.not_false, decide_true, decide_false, Option.isSome, not_true_eq_false, not_false_eq_true, if_true, if_false, reduceCtorEq, ↓reduceIte]; done) | (simp only [mReq, h1, Bool.true_and, Bool.false_and, Bool.and_true, Bool.and_false, Bool.true_or, Bool.or_true, Bool.false_or, Bool.or_false, Bool.not_true, Bool.not_false, decide_true, decide_false, Option.isSome, not_true_eq_false, not_false_eq_true, if_true, if_false, reduceCtorEq, ↓reduceIte]; done) | (simp only [mReq]; simp only [h1, Bool.true_and, Bool.false_and, Bool.and_true, Bool.and_false, Bool.true_or, Bool.or_true, Bool.false_or, Bool.or_false, Bool.not_true, Bool.not_false, decide_true, decide_false, Option.isSome, not_true_eq_false, not_false_eq_true, if_true, if_false, reduceCtorEq, ↓reduceIte]; done) | (simp only [mReq]; simp only [h1, Bool.true_and, Bool.false_and, Bool.and_true, Bool.and_false, Bool.true_or, Bool.or_true, Bool.false_or, Bool.or_false, Bool.not_true, Bool.not_false, decide_true, decide_false, Option.isSome, not_true_eq_false, not_false_eq_true, if_true, if_false, reduceCtorEq, ↓reduceIte]; done) | (simp only [mReq]; simp only [h1, Bool.true_and, Bool.false_and, Bool.and_true, Bool.and_false, Bool.true_or, Bool.or_true, Bool.false_or, Bool.or_false, Bool.not_true, Bool.not_false, decide_true, decide_false, Option.isSome, not_true_eq_false, not_false_eq_true, if_true, if_false, reduceCtorEq, ↓reduceIte]; rfl) | (simp only [h1, Bool.true_and, Bool.false_and, Bool.and_true, Bool.and_false, Bool.true_or, Bool.or_true, Bool.false_or, Bool.or_false, Bool.not_true, Bool.not_false, decide_true, decide_false, Option.isSome, not_true_eq_false, not_false_eq_true, if_true, if_false, reduceCtorEq, ↓reduceIte]; rfl) | (simp_all [mReq]; done))))
  · refine lv_aload_n hx hb dX2_requested_9 rfl (lv_at hl 0 rfl) ?_
    refine va_get (D := (dC, dI)) (ci := 2) (v := .ref (a 0)) (C := RX2) (T := TX2) (N := 14) hx hb hts hin_RX2 hown hK hP 0 rfl rfl 1 (by decide) hlk_7 (fun _ h9 => h9) rfl dX2_requested_10 ?_
    refine lv_bipush (v := nI 8) hx hb dX2_requested_13 (by decide) ?_
    refine lv_iload_n hx hb dX2_requested_15 rfl (lv_at hl 1 rfl) ?_
    refine lv_imul hx hb dX2_requested_16 ?_
    refine xi_eq (y := nI (8 * c)) (pk_mul _ _) ?_
    refine lv_iload_n hx hb dX2_requested_17 rfl (lv_at hl 2 rfl) ?_
    refine lv_iadd hx hb dX2_requested_18 ?_
    refine xi_eq (y := nI ((8 * c) + k)) (nI_add _ _) ?_
    refine xz_ld (f := B 0) (j := ((8 * c) + k)) hx hb hK hP 1 0 rfl rfl (by omega) (by decide) dX2_requested_19 ?_
    refine lv_goto (tgt := 34) hx hb dX2_requested_20 (by decide) ?_
    exact xr_zret hx hb hr hlocks dX2_requested_34 (bI_nar (B 0 ((8 * c) + k))) (congrArg bI (show B 0 ((8 * c) + k) = (mReq B c k) from (by first | rfl | (simp only [h1, Bool.true_and, Bool.false_and, Bool.and_true, Bool.and_false, Bool.true_or, Bool.or_true, Bool.false_or, Bool.or_false, Bool.not_true, Bool.not_false, decide_true, decide_false, Option.isSome, not_true_eq_false, not_false_eq_true, if_true, if_false, reduceCtorEq, ↓reduceIte]; done) | (simp only [mReq, h1, Bool.true_and, Bool.false_and, Bool.and_true, Bool.and_false, Bool.true_or, Bool.or_true, Bool.false_or, Bool.or_false, Bool.not_true, Bool.not_false, decide_true, decide_false, Option.isSome, not_true_eq_false, not_false_eq_true, if_true, if_false, reduceCtorEq, ↓reduceIte]; done) | (simp only [mReq]; simp only [h1, Bool.true_and, Bool.false_and, Bool.and_true, Bool.and_false, Bool.true_or, Bool.or_true, Bool.false_or, Bool.or_false, Bool.not_true, Bool.not_false, decide_true, decide_false, Option.isSome, not_true_eq_false, not_false_eq_true, if_true, if_false, reduceCtorEq, ↓reduceIte]; done) | (simp only [mReq]; simp only [h1, Bool.true_and, Bool.false_and, Bool.and_true, Bool.and_false, Bool.true_or, Bool.or_true, Bool.false_or, Bool.or_false, Bool.not_true, Bool.not_false, decide_true, decide_false, Option.isSome, not_true_eq_false, not_false_eq_true, if_true, if_false, reduceCtorEq, ↓reduceIte]; done) | (simp only [mReq]; simp only [h1, Bool.true_and, Bool.false_and, Bool.and_true, Bool.and_false, Bool.true_or, Bool.or_true, Bool.false_or, Bool.or_false, Bool.not_true, Bool.not_false, decide_true, decide_false, Option.isSome, not_true_eq_false, not_false_eq_true, if_true, if_false, reduceCtorEq, ↓reduceIte]; rfl) | (simp only [h1, Bool.true_and, Bool.false_and, Bool.and_true, Bool.and_false, Bool.true_or, Bool.or_true, Bool.false_or, Bool.or_false, Bool.not_true, Bool.not_false, decide_true, decide_false, Option.isSome, not_true_eq_false, not_false_eq_true, if_true, if_false, reduceCtorEq, ↓reduceIte]; rfl) | (simp_all [mReq]; done))))

set_option maxHeartbeats 4000000 in
set_option maxRecDepth 100000 in
theorem c2_ranked (l : Launch) (dC : Nat → ClassId) (dI : Nat → Nat → Nat) (hm : Nat) (a : Nat → Nat) (cA : Nat → ClassId) (B : Nat → Nat → Bool) (N : Nat → Nat → Nat) (c : Nat) (k : Nat) (hc : c < 2) (hk : k < 8) (hN : ∀ c, c < 2 → N 0 c < 8) : xr_M l yX2_ranked wsX2_ranked ({ frames := 0, cells := 0, slots := 0, locals := 0 }) [.ref hm, .int (nI c), .int (nI k)] (dC, dI) vwCl (mtys cA) [] (mw hm a cA (B, N)) (some (.int (nI (mRk N c k)))) := by
  refine Met.ofW (cc := cX2_ranked) (maxL := 3) (ret := (some .int)) (by decide) rfl ?_
  intro p e s m args below meth cd s₁ B₀ hml hv
  obtain ⟨rfl, hP, hK, hZ⟩ := hv
  have hx := B₀.exec
  have hb := B₀.bytes
  have hr := B₀.returns
  have hts := atoms_spec (ws := wsX2_ranked) B₀.pre
  have hown : s.vm.findClass RX2 = some m.cls := findClass_of_methodNamed B₀.named
  have hlocks := B₀.notSynchronized
  have hin_RX2 : ∀ w ∈ u_ws RX2 TX2 14, w ∈ wsX2_ranked := fun w h => List.mem_cons_of_mem _ (u_X2 w h)
  have hlk_22 := hts _ (List.mem_cons_of_mem _ k_fl_X2_22)
  have hl := lv_entry ([.ref hm, .int (nI c), .int (nI k)]) (n := 3) (Nat.le_of_ble_eq_true rfl)
  rw [lg_entry_eq]
  generalize (lg_sl ([.ref hm, .int (nI c), .int (nI k)]) ++ List.replicate (3 - (lg_sl ([.ref hm, .int (nI c), .int (nI k)])).length) Slot.unset).toArray = ls at hl ⊢
  have hl : lv_has ls 3 [(0, .ref hm), (1, .int (nI c)), (2, .int (nI k))] := hl
  have hN0 := hN c hc
  refine lv_aload_n hx hb dX2_ranked_0 rfl (lv_at hl 0 rfl) ?_
  refine va_get (D := (dC, dI)) (ci := 2) (v := .ref (a 4)) (C := RX2) (T := TX2) (N := 14) hx hb hts hin_RX2 hown hK hP 0 rfl rfl 5 (by decide) hlk_22 (fun _ h9 => h9) rfl dX2_ranked_1 ?_
  refine lv_iload_n hx hb dX2_ranked_4 rfl (lv_at hl 1 rfl) ?_
  refine xn_ld (f := N 0) (j := c) hx hb hK hP 5 4 rfl rfl (by omega) (by decide) dX2_ranked_5 ?_
  refine lv_iconst (v := nI 1) hx hb dX2_ranked_6 (by decide) ?_
  refine lv_iadd hx hb dX2_ranked_7 ?_
  refine xi_eq (y := nI ((N 0 c) + 1)) (nI_add _ _) ?_
  refine lv_iload_n hx hb dX2_ranked_8 rfl (lv_at hl 2 rfl) ?_
  refine lv_iadd hx hb dX2_ranked_9 ?_
  refine xi_eq (y := nI (((N 0 c) + 1) + k)) (nI_add _ _) ?_
  refine lv_bipush (v := nI 8) hx hb dX2_ranked_10 (by decide) ?_
  refine lv_irem hx hb dX2_ranked_12 (by decide) ?_
  refine xi_eq (y := nI ((((N 0 c) + 1) + k) % 8)) (pk_rem (by omega) (by decide) (by decide)) ?_
  exact xr_iret hx hb hr hlocks dX2_ranked_13  (congrArg nI (show (((N 0 c) + 1) + k) % 8 = (mRk N c k) from (by first | rfl | (simp only [Bool.true_and, Bool.false_and, Bool.and_true, Bool.and_false, Bool.true_or, Bool.or_true, Bool.false_or, Bool.or_false, Bool.not_true, Bool.not_false, decide_true, decide_false, Option.isSome, not_true_eq_false, not_false_eq_true, if_true, if_false, reduceCtorEq, ↓reduceIte]; done) | (simp only [mRk, Bool.true_and, Bool.false_and, Bool.and_true, Bool.and_false, Bool.true_or, Bool.or_true, Bool.false_or, Bool.or_false, Bool.not_true, Bool.not_false, decide_true, decide_false, Option.isSome, not_true_eq_false, not_false_eq_true, if_true, if_false, reduceCtorEq, ↓reduceIte]; done) | (simp only [mRk]; simp only [Bool.true_and, Bool.false_and, Bool.and_true, Bool.and_false, Bool.true_or, Bool.or_true, Bool.false_or, Bool.or_false, Bool.not_true, Bool.not_false, decide_true, decide_false, Option.isSome, not_true_eq_false, not_false_eq_true, if_true, if_false, reduceCtorEq, ↓reduceIte]; done) | (simp only [mRk]; simp only [Bool.true_and, Bool.false_and, Bool.and_true, Bool.and_false, Bool.true_or, Bool.or_true, Bool.false_or, Bool.or_false, Bool.not_true, Bool.not_false, decide_true, decide_false, Option.isSome, not_true_eq_false, not_false_eq_true, if_true, if_false, reduceCtorEq, ↓reduceIte]; done) | (simp only [mRk]; simp only [Bool.true_and, Bool.false_and, Bool.and_true, Bool.and_false, Bool.true_or, Bool.or_true, Bool.false_or, Bool.or_false, Bool.not_true, Bool.not_false, decide_true, decide_false, Option.isSome, not_true_eq_false, not_false_eq_true, if_true, if_false, reduceCtorEq, ↓reduceIte]; rfl) | (simp only [Bool.true_and, Bool.false_and, Bool.and_true, Bool.and_false, Bool.true_or, Bool.or_true, Bool.false_or, Bool.or_false, Bool.not_true, Bool.not_false, decide_true, decide_false, Option.isSome, not_true_eq_false, not_false_eq_true, if_true, if_false, reduceCtorEq, ↓reduceIte]; rfl) | (simp_all [mRk]; done))))

set_option maxHeartbeats 4000000 in
set_option maxRecDepth 100000 in
theorem c2_blocks (l : Launch) (dC : Nat → ClassId) (dI : Nat → Nat → Nat) (hm : Nat) (a : Nat → Nat) (cA : Nat → ClassId) (B : Nat → Nat → Bool) (N : Nat → Nat → Nat) (c : Nat) (k : Nat) (hc : c < 2) (hk : k < 8) : xr_M l yX2_blocks wsX2_blocks ({ frames := 1, cells := 0, slots := 0, locals := 22 }) [.ref hm, .int (nI c), .int (nI k)] (dC, dI) vwCl (mtys cA) [] (mw hm a cA (B, N)) (some (.int (bI (mBlk B c k)))) := by
  refine Met.ofW (cc := cX2_blocks) (maxL := 3) (ret := (some .boolean)) (by decide) rfl ?_
  intro p e s m args below meth cd s₁ B₀ hml hv
  obtain ⟨rfl, hP, hK, hZ⟩ := hv
  have hx := B₀.exec
  have hb := B₀.bytes
  have hr := B₀.returns
  have hts := atoms_spec (ws := wsX2_blocks) B₀.pre
  have hown : s.vm.findClass RX2 = some m.cls := findClass_of_methodNamed B₀.named
  have hlocks := B₀.notSynchronized
  have hin_RX2 : ∀ w ∈ u_ws RX2 TX2 14, w ∈ wsX2_blocks := fun w h => List.mem_cons_of_mem _ (u_X2 w h)
  have hlk_16 := hts _ (List.mem_cons_of_mem _ k_fl_X2_16)
  have hlk_19 := hts _ (List.mem_cons_of_mem _ k_fl_X2_19)
  have hl := lv_entry ([.ref hm, .int (nI c), .int (nI k)]) (n := 3) (Nat.le_of_ble_eq_true rfl)
  rw [lg_entry_eq]
  generalize (lg_sl ([.ref hm, .int (nI c), .int (nI k)]) ++ List.replicate (3 - (lg_sl ([.ref hm, .int (nI c), .int (nI k)])).length) Slot.unset).toArray = ls at hl ⊢
  have hl : lv_has ls 3 [(0, .ref hm), (1, .int (nI c)), (2, .int (nI k))] := hl
  refine lv_aload_n hx hb dX2_blocks_0 rfl (lv_at hl 0 rfl) ?_
  refine va_get (D := (dC, dI)) (ci := 2) (v := .ref (a 2)) (C := RX2) (T := TX2) (N := 14) hx hb hts hin_RX2 hown hK hP 0 rfl rfl 3 (by decide) hlk_16 (fun _ h9 => h9) rfl dX2_blocks_1 ?_
  refine lv_bipush (v := nI 8) hx hb dX2_blocks_4 (by decide) ?_
  refine lv_iload_n hx hb dX2_blocks_6 rfl (lv_at hl 1 rfl) ?_
  refine lv_imul hx hb dX2_blocks_7 ?_
  refine xi_eq (y := nI (8 * c)) (pk_mul _ _) ?_
  refine lv_iload_n hx hb dX2_blocks_8 rfl (lv_at hl 2 rfl) ?_
  refine lv_iadd hx hb dX2_blocks_9 ?_
  refine xi_eq (y := nI ((8 * c) + k)) (nI_add _ _) ?_
  refine xz_ld (f := B 2) (j := ((8 * c) + k)) hx hb hK hP 3 2 rfl rfl (by omega) (by decide) dX2_blocks_10 ?_
  refine xb_if_eq (b := B 2 ((8 * c) + k)) (tgt := 41) hx hb dX2_blocks_11 (by decide) (fun h1 => ?_) (fun h1 => ?_)
  · refine lv_iconst (v := nI 0) hx hb dX2_blocks_41 (by decide) ?_
    exact xr_zret hx hb hr hlocks dX2_blocks_42 (bI_nar false) (congrArg bI (show false = (mBlk B c k) from (by first | rfl | (simp only [h1, Bool.true_and, Bool.false_and, Bool.and_true, Bool.and_false, Bool.true_or, Bool.or_true, Bool.false_or, Bool.or_false, Bool.not_true, Bool.not_false, decide_true, decide_false, Option.isSome, not_true_eq_false, not_false_eq_true, if_true, if_false, reduceCtorEq, ↓reduceIte]; done) | (simp only [mBlk, h1, Bool.true_and, Bool.false_and, Bool.and_true, Bool.and_false, Bool.true_or, Bool.or_true, Bool.false_or, Bool.or_false, Bool.not_true, Bool.not_false, decide_true, decide_false, Option.isSome, not_true_eq_false, not_false_eq_true, if_true, if_false, reduceCtorEq, ↓reduceIte]; done) | (simp only [mBlk]; simp only [h1, Bool.true_and, Bool.false_and, Bool.and_true, Bool.and_false, Bool.true_or, Bool.or_true, Bool.false_or, Bool.or_false, Bool.not_true, Bool.not_false, decide_true, decide_false, Option.isSome, not_true_eq_false, not_false_eq_true, if_true, if_false, reduceCtorEq, ↓reduceIte]; done) | (simp only [mBlk]; simp only [h1, Bool.true_and, Bool.false_and, Bool.and_true, Bool.and_false, Bool.true_or, Bool.or_true, Bool.false_or, Bool.or_false, Bool.not_true, Bool.not_false, decide_true, decide_false, Option.isSome, not_true_eq_false, not_false_eq_true, if_true, if_false, reduceCtorEq, ↓reduceIte]; done) | (simp only [mBlk]; simp only [h1, Bool.true_and, Bool.false_and, Bool.and_true, Bool.and_false, Bool.true_or, Bool.or_true, Bool.false_or, Bool.or_false, Bool.not_true, Bool.not_false, decide_true, decide_false, Option.isSome, not_true_eq_false, not_false_eq_true, if_true, if_false, reduceCtorEq, ↓reduceIte]; rfl) | (simp only [h1, Bool.true_and, Bool.false_and, Bool.and_true, Bool.and_false, Bool.true_or, Bool.or_true, Bool.false_or, Bool.or_false, Bool.not_true, Bool.not_false, decide_true, decide_false, Option.isSome, not_true_eq_false, not_false_eq_true, if_true, if_false, reduceCtorEq, ↓reduceIte]; rfl) | (simp_all [mBlk]; done))))
  · refine lv_aload_n hx hb dX2_blocks_14 rfl (lv_at hl 0 rfl) ?_
    refine lv_iload_n hx hb dX2_blocks_15 rfl (lv_at hl 1 rfl) ?_
    refine lv_iconst (v := nI 2) hx hb dX2_blocks_16 (by decide) ?_
    refine xr_call (st1 := [.int (bI (B 4 (7 * c + 2)))]) (W.runV (As := [.int (nI c), .int (nI 2)]) (rest := []) ⟨hx, hb, hml, hown, hts⟩ (c2_is l dC dI hm a cA B N c 2 (by omega)) (cwV 2 hts (gd_V wa_c k_ml_X2_45 k_im_X2_is k_se_X2_is k_in_X2 k_co_X2_is) rfl rfl rfl (by decide +kernel) ⟨Nat.le_of_ble_eq_true rfl, Nat.le_of_ble_eq_true rfl⟩) (xr_preV (q0 := 0) (C := RX2) hK hP xz_Z.nil rfl rfl) rfl rfl hl.1 rfl (lv_room (Nat.le_of_ble_eq_true rfl)) dX2_blocks_17 ⟨Nat.zero_le _, Nat.zero_le _⟩) rfl ?_
    refine xb_if_eq (b := B 4 (7 * c + 2)) (tgt := 37) hx hb dX2_blocks_20 (by decide) (fun h2 => ?_) (fun h2 => ?_)
    · refine lv_iconst (v := nI 1) hx hb dX2_blocks_37 (by decide) ?_
      refine lv_goto (tgt := 42) hx hb dX2_blocks_38 (by decide) ?_
      exact xr_zret hx hb hr hlocks dX2_blocks_42 (bI_nar true) (congrArg bI (show true = (mBlk B c k) from (by first | rfl | (simp only [h1, h2, Bool.true_and, Bool.false_and, Bool.and_true, Bool.and_false, Bool.true_or, Bool.or_true, Bool.false_or, Bool.or_false, Bool.not_true, Bool.not_false, decide_true, decide_false, Option.isSome, not_true_eq_false, not_false_eq_true, if_true, if_false, reduceCtorEq, ↓reduceIte]; done) | (simp only [mBlk, h1, h2, Bool.true_and, Bool.false_and, Bool.and_true, Bool.and_false, Bool.true_or, Bool.or_true, Bool.false_or, Bool.or_false, Bool.not_true, Bool.not_false, decide_true, decide_false, Option.isSome, not_true_eq_false, not_false_eq_true, if_true, if_false, reduceCtorEq, ↓reduceIte]; done) | (simp only [mBlk]; simp only [h1, h2, Bool.true_and, Bool.false_and, Bool.and_true, Bool.and_false, Bool.true_or, Bool.or_true, Bool.false_or, Bool.or_false, Bool.not_true, Bool.not_false, decide_true, decide_false, Option.isSome, not_true_eq_false, not_false_eq_true, if_true, if_false, reduceCtorEq, ↓reduceIte]; done) | (simp only [mBlk]; simp only [h1, h2, Bool.true_and, Bool.false_and, Bool.and_true, Bool.and_false, Bool.true_or, Bool.or_true, Bool.false_or, Bool.or_false, Bool.not_true, Bool.not_false, decide_true, decide_false, Option.isSome, not_true_eq_false, not_false_eq_true, if_true, if_false, reduceCtorEq, ↓reduceIte]; done) | (simp only [mBlk]; simp only [h1, h2, Bool.true_and, Bool.false_and, Bool.and_true, Bool.and_false, Bool.true_or, Bool.or_true, Bool.false_or, Bool.or_false, Bool.not_true, Bool.not_false, decide_true, decide_false, Option.isSome, not_true_eq_false, not_false_eq_true, if_true, if_false, reduceCtorEq, ↓reduceIte]; rfl) | (simp only [h1, h2, Bool.true_and, Bool.false_and, Bool.and_true, Bool.and_false, Bool.true_or, Bool.or_true, Bool.false_or, Bool.or_false, Bool.not_true, Bool.not_false, decide_true, decide_false, Option.isSome, not_true_eq_false, not_false_eq_true, if_true, if_false, reduceCtorEq, ↓reduceIte]; rfl) | (simp_all [mBlk]; done))))
    · refine lv_aload_n hx hb dX2_blocks_23 rfl (lv_at hl 0 rfl) ?_
      refine va_get (D := (dC, dI)) (ci := 2) (v := .ref (a 3)) (C := RX2) (T := TX2) (N := 14) hx hb hts hin_RX2 hown hK hP 0 rfl rfl 4 (by decide) hlk_19 (fun _ h9 => h9) rfl dX2_blocks_24 ?_
      refine lv_bipush (v := nI 8) hx hb dX2_blocks_27 (by decide) ?_
      refine lv_iload_n hx hb dX2_blocks_29 rfl (lv_at hl 1 rfl) ?_
      refine lv_imul hx hb dX2_blocks_30 ?_
      refine xi_eq (y := nI (8 * c)) (pk_mul _ _) ?_
      refine lv_iload_n hx hb dX2_blocks_31 rfl (lv_at hl 2 rfl) ?_
      refine lv_iadd hx hb dX2_blocks_32 ?_
      refine xi_eq (y := nI ((8 * c) + k)) (nI_add _ _) ?_
      refine xz_ld (f := B 3) (j := ((8 * c) + k)) hx hb hK hP 4 3 rfl rfl (by omega) (by decide) dX2_blocks_33 ?_
      refine xb_if_ne (b := B 3 ((8 * c) + k)) (tgt := 41) hx hb dX2_blocks_34 (by decide) (fun h3 => ?_) (fun h3 => ?_)
      · refine lv_iconst (v := nI 0) hx hb dX2_blocks_41 (by decide) ?_
        exact xr_zret hx hb hr hlocks dX2_blocks_42 (bI_nar false) (congrArg bI (show false = (mBlk B c k) from (by first | rfl | (simp only [h1, h2, h3, Bool.true_and, Bool.false_and, Bool.and_true, Bool.and_false, Bool.true_or, Bool.or_true, Bool.false_or, Bool.or_false, Bool.not_true, Bool.not_false, decide_true, decide_false, Option.isSome, not_true_eq_false, not_false_eq_true, if_true, if_false, reduceCtorEq, ↓reduceIte]; done) | (simp only [mBlk, h1, h2, h3, Bool.true_and, Bool.false_and, Bool.and_true, Bool.and_false, Bool.true_or, Bool.or_true, Bool.false_or, Bool.or_false, Bool.not_true, Bool.not_false, decide_true, decide_false, Option.isSome, not_true_eq_false, not_false_eq_true, if_true, if_false, reduceCtorEq, ↓reduceIte]; done) | (simp only [mBlk]; simp only [h1, h2, h3, Bool.true_and, Bool.false_and, Bool.and_true, Bool.and_false, Bool.true_or, Bool.or_true, Bool.false_or, Bool.or_false, Bool.not_true, Bool.not_false, decide_true, decide_false, Option.isSome, not_true_eq_false, not_false_eq_true, if_true, if_false, reduceCtorEq, ↓reduceIte]; done) | (simp only [mBlk]; simp only [h1, h2, h3, Bool.true_and, Bool.false_and, Bool.and_true, Bool.and_false, Bool.true_or, Bool.or_true, Bool.false_or, Bool.or_false, Bool.not_true, Bool.not_false, decide_true, decide_false, Option.isSome, not_true_eq_false, not_false_eq_true, if_true, if_false, reduceCtorEq, ↓reduceIte]; done) | (simp only [mBlk]; simp only [h1, h2, h3, Bool.true_and, Bool.false_and, Bool.and_true, Bool.and_false, Bool.true_or, Bool.or_true, Bool.false_or, Bool.or_false, Bool.not_true, Bool.not_false, decide_true, decide_false, Option.isSome, not_true_eq_false, not_false_eq_true, if_true, if_false, reduceCtorEq, ↓reduceIte]; rfl) | (simp only [h1, h2, h3, Bool.true_and, Bool.false_and, Bool.and_true, Bool.and_false, Bool.true_or, Bool.or_true, Bool.false_or, Bool.or_false, Bool.not_true, Bool.not_false, decide_true, decide_false, Option.isSome, not_true_eq_false, not_false_eq_true, if_true, if_false, reduceCtorEq, ↓reduceIte]; rfl) | (simp_all [mBlk]; done))))
      · refine lv_iconst (v := nI 1) hx hb dX2_blocks_37 (by decide) ?_
        refine lv_goto (tgt := 42) hx hb dX2_blocks_38 (by decide) ?_
        exact xr_zret hx hb hr hlocks dX2_blocks_42 (bI_nar true) (congrArg bI (show true = (mBlk B c k) from (by first | rfl | (simp only [h1, h2, h3, Bool.true_and, Bool.false_and, Bool.and_true, Bool.and_false, Bool.true_or, Bool.or_true, Bool.false_or, Bool.or_false, Bool.not_true, Bool.not_false, decide_true, decide_false, Option.isSome, not_true_eq_false, not_false_eq_true, if_true, if_false, reduceCtorEq, ↓reduceIte]; done) | (simp only [mBlk, h1, h2, h3, Bool.true_and, Bool.false_and, Bool.and_true, Bool.and_false, Bool.true_or, Bool.or_true, Bool.false_or, Bool.or_false, Bool.not_true, Bool.not_false, decide_true, decide_false, Option.isSome, not_true_eq_false, not_false_eq_true, if_true, if_false, reduceCtorEq, ↓reduceIte]; done) | (simp only [mBlk]; simp only [h1, h2, h3, Bool.true_and, Bool.false_and, Bool.and_true, Bool.and_false, Bool.true_or, Bool.or_true, Bool.false_or, Bool.or_false, Bool.not_true, Bool.not_false, decide_true, decide_false, Option.isSome, not_true_eq_false, not_false_eq_true, if_true, if_false, reduceCtorEq, ↓reduceIte]; done) | (simp only [mBlk]; simp only [h1, h2, h3, Bool.true_and, Bool.false_and, Bool.and_true, Bool.and_false, Bool.true_or, Bool.or_true, Bool.false_or, Bool.or_false, Bool.not_true, Bool.not_false, decide_true, decide_false, Option.isSome, not_true_eq_false, not_false_eq_true, if_true, if_false, reduceCtorEq, ↓reduceIte]; done) | (simp only [mBlk]; simp only [h1, h2, h3, Bool.true_and, Bool.false_and, Bool.and_true, Bool.and_false, Bool.true_or, Bool.or_true, Bool.false_or, Bool.or_false, Bool.not_true, Bool.not_false, decide_true, decide_false, Option.isSome, not_true_eq_false, not_false_eq_true, if_true, if_false, reduceCtorEq, ↓reduceIte]; rfl) | (simp only [h1, h2, h3, Bool.true_and, Bool.false_and, Bool.and_true, Bool.and_false, Bool.true_or, Bool.or_true, Bool.false_or, Bool.or_false, Bool.not_true, Bool.not_false, decide_true, decide_false, Option.isSome, not_true_eq_false, not_false_eq_true, if_true, if_false, reduceCtorEq, ↓reduceIte]; rfl) | (simp_all [mBlk]; done))))

set_option maxHeartbeats 4000000 in
set_option maxRecDepth 100000 in
theorem c2_raise (l : Launch) (dC : Nat → ClassId) (dI : Nat → Nat → Nat) (hm : Nat) (a : Nat → Nat) (cA : Nat → ClassId) (sz : Nat) (B : Nat → Nat → Bool) (N : Nat → Nat → Nat) (i : Nat) (x : Bool) (hi : i < 16) : xc_M l yX2_raise wsX2_raise ({ frames := 0, cells := 0, slots := 0, locals := 0 }) [.ref hm, .int (nI i), .int (bI x)] sz (dC, dI) vwCl (mtys cA) [] (mw hm a cA (B, N)) none (mw hm a cA (mRaise B i x, N)) 0 0 := by
  refine Met.ofW (cc := cX2_raise) (maxL := 3) (ret := none) (by decide) rfl ?_
  intro p e s m args below meth cd s₁ B₀ hml hv
  obtain ⟨rfl, hsz, hP, hK, hD0, hZ⟩ := hv
  have hx := B₀.exec
  have hb := B₀.bytes
  have hr := B₀.returns
  have hts := atoms_spec (ws := wsX2_raise) B₀.pre
  have hown : s.vm.findClass RX2 = some m.cls := findClass_of_methodNamed B₀.named
  have hlocks := B₀.notSynchronized
  subst hsz
  have hD := hD0.self (sz := s.heap.size)
  generalize hAe : va_A (mw hm a cA (B, N)) s.heap.size = A at hD ⊢
  have hA : ∀ q : Nat, s.heap.size ≤ q → A q := fun q h => by rw [← hAe]; exact Or.inr h
  have hS : va_S A s.heap s.heap [] := va_S.rf
  have hin_RX2 : ∀ w ∈ u_ws RX2 TX2 14, w ∈ wsX2_raise := fun w h => List.mem_cons_of_mem _ (u_X2 w h)
  have hlk_7 := hts _ (List.mem_cons_of_mem _ k_fl_X2_7)
  have hlk_13 := hts _ (List.mem_cons_of_mem _ k_fl_X2_13)
  have hl := lv_entry ([.ref hm, .int (nI i), .int (bI x)]) (n := 3) (Nat.le_of_ble_eq_true rfl)
  rw [lg_entry_eq]
  generalize (lg_sl ([.ref hm, .int (nI i), .int (bI x)]) ++ List.replicate (3 - (lg_sl ([.ref hm, .int (nI i), .int (bI x)])).length) Slot.unset).toArray = ls at hl ⊢
  have hl : lv_has ls 3 [(0, .ref hm), (1, .int (nI i)), (2, .int (bI x))] := hl
  refine lv_aload_n hx hb dX2_raise_0 rfl (lv_at hl 0 rfl) ?_
  refine va_get (D := (dC, dI)) (ci := 2) (v := .ref (a 0)) (C := RX2) (T := TX2) (N := 14) hx hb hts hin_RX2 hown hK hP 0 rfl rfl 1 (by decide) hlk_7 (fun _ h9 => h9) rfl dX2_raise_1 ?_
  refine lv_iload_n hx hb dX2_raise_4 rfl (lv_at hl 1 rfl) ?_
  refine xz_ld (f := B 0) (j := i) hx hb hK hP 1 0 rfl rfl (by omega) (by decide) dX2_raise_5 ?_
  refine lv_iload_n hx hb dX2_raise_6 rfl (lv_at hl 2 rfl) ?_
  refine xb_icmp_eq (x := B 0 i) (y := x) (tgt := 24) hx hb dX2_raise_7 (by decide) (fun h1 => ?_) (fun h1 => ?_)
  · exact xc_vret (wf := mw hm a cA) hx hb hr hlocks dX2_raise_24 hK hP hD hS (by first | rfl | (simp only [if_pos h1, if_neg (not_not_intro h1), decide_eq_true h1, Bool.true_and, Bool.false_and, Bool.and_true, Bool.and_false, Bool.true_or, Bool.or_true, Bool.false_or, Bool.or_false, Bool.not_true, Bool.not_false, decide_true, decide_false, Option.isSome, not_true_eq_false, not_false_eq_true, if_true, if_false, reduceCtorEq, ↓reduceIte]; done) | (simp only [mRaise, if_pos h1, if_neg (not_not_intro h1), decide_eq_true h1, Bool.true_and, Bool.false_and, Bool.and_true, Bool.and_false, Bool.true_or, Bool.or_true, Bool.false_or, Bool.or_false, Bool.not_true, Bool.not_false, decide_true, decide_false, Option.isSome, not_true_eq_false, not_false_eq_true, if_true, if_false, reduceCtorEq, ↓reduceIte]; done) | (simp only [mRaise]; simp only [if_pos h1, if_neg (not_not_intro h1), decide_eq_true h1, Bool.true_and, Bool.false_and, Bool.and_true, Bool.and_false, Bool.true_or, Bool.or_true, Bool.false_or, Bool.or_false, Bool.not_true, Bool.not_false, decide_true, decide_false, Option.isSome, not_true_eq_false, not_false_eq_true, if_true, if_false, reduceCtorEq, ↓reduceIte]; done) | (simp only [mRaise]; simp only [if_pos h1, if_neg (not_not_intro h1), decide_eq_true h1, Bool.true_and, Bool.false_and, Bool.and_true, Bool.and_false, Bool.true_or, Bool.or_true, Bool.false_or, Bool.or_false, Bool.not_true, Bool.not_false, decide_true, decide_false, Option.isSome, not_true_eq_false, not_false_eq_true, if_true, if_false, reduceCtorEq, ↓reduceIte]; done) | (simp only [mRaise]; simp only [if_pos h1, if_neg (not_not_intro h1), decide_eq_true h1, Bool.true_and, Bool.false_and, Bool.and_true, Bool.and_false, Bool.true_or, Bool.or_true, Bool.false_or, Bool.or_false, Bool.not_true, Bool.not_false, decide_true, decide_false, Option.isSome, not_true_eq_false, not_false_eq_true, if_true, if_false, reduceCtorEq, ↓reduceIte]; rfl) | (simp only [if_pos h1, if_neg (not_not_intro h1), decide_eq_true h1, Bool.true_and, Bool.false_and, Bool.and_true, Bool.and_false, Bool.true_or, Bool.or_true, Bool.false_or, Bool.or_false, Bool.not_true, Bool.not_false, decide_true, decide_false, Option.isSome, not_true_eq_false, not_false_eq_true, if_true, if_false, reduceCtorEq, ↓reduceIte]; rfl) | (simp_all [mRaise]; done))
  · refine lv_aload_n hx hb dX2_raise_10 rfl (lv_at hl 0 rfl) ?_
    refine va_get (D := (dC, dI)) (ci := 2) (v := .ref (a 0)) (C := RX2) (T := TX2) (N := 14) hx hb hts hin_RX2 hown hK hP 0 rfl rfl 1 (by decide) hlk_7 (fun _ h9 => h9) rfl dX2_raise_11 ?_
    refine lv_iload_n hx hb dX2_raise_14 rfl (lv_at hl 1 rfl) ?_
    refine lv_iload_n hx hb dX2_raise_15 rfl (lv_at hl 2 rfl) ?_
    refine xz_st (f := B 0) (j := i) (b := x) hx hb hK hP hD hS 1 0 rfl rfl (by omega) (by decide) dX2_raise_16 (fun H locs hP hD hS => ?_)
    have hP : va_P (dC, dI) vwCl (mw hm a cA (sB B 0 i x, N)) H := hP
    have hD : va_D A (mw hm a cA (sB B 0 i x, N)) := hD
    refine lv_aload_n hx hb dX2_raise_17 rfl (lv_at hl 0 rfl) ?_
    refine va_get (D := (dC, dI)) (ci := 2) (v := .ref (a 1)) (C := RX2) (T := TX2) (N := 14) hx hb hts hin_RX2 hown hK hP 0 rfl rfl 2 (by decide) hlk_13 (fun _ h9 => h9) rfl dX2_raise_18 ?_
    refine lv_iload_n hx hb dX2_raise_21 rfl (lv_at hl 1 rfl) ?_
    refine lv_iload_n hx hb dX2_raise_22 rfl (lv_at hl 2 rfl) ?_
    refine xz_st (f := (sB B 0 i x) 1) (j := i) (b := x) hx hb hK hP hD hS 2 1 rfl rfl (by omega) (by decide) dX2_raise_23 (fun H locs hP hD hS => ?_)
    have hP : va_P (dC, dI) vwCl (mw hm a cA (sB (sB B 0 i x) 1 i x, N)) H := hP
    have hD : va_D A (mw hm a cA (sB (sB B 0 i x) 1 i x, N)) := hD
    exact xc_vret (wf := mw hm a cA) hx hb hr hlocks dX2_raise_24 hK hP hD hS (by first | rfl | (simp only [if_neg h1, if_pos h1, decide_eq_false h1, Bool.true_and, Bool.false_and, Bool.and_true, Bool.and_false, Bool.true_or, Bool.or_true, Bool.false_or, Bool.or_false, Bool.not_true, Bool.not_false, decide_true, decide_false, Option.isSome, not_true_eq_false, not_false_eq_true, if_true, if_false, reduceCtorEq, ↓reduceIte]; done) | (simp only [mRaise, if_neg h1, if_pos h1, decide_eq_false h1, Bool.true_and, Bool.false_and, Bool.and_true, Bool.and_false, Bool.true_or, Bool.or_true, Bool.false_or, Bool.or_false, Bool.not_true, Bool.not_false, decide_true, decide_false, Option.isSome, not_true_eq_false, not_false_eq_true, if_true, if_false, reduceCtorEq, ↓reduceIte]; done) | (simp only [mRaise]; simp only [if_neg h1, if_pos h1, decide_eq_false h1, Bool.true_and, Bool.false_and, Bool.and_true, Bool.and_false, Bool.true_or, Bool.or_true, Bool.false_or, Bool.or_false, Bool.not_true, Bool.not_false, decide_true, decide_false, Option.isSome, not_true_eq_false, not_false_eq_true, if_true, if_false, reduceCtorEq, ↓reduceIte]; done) | (simp only [mRaise]; simp only [if_neg h1, if_pos h1, decide_eq_false h1, Bool.true_and, Bool.false_and, Bool.and_true, Bool.and_false, Bool.true_or, Bool.or_true, Bool.false_or, Bool.or_false, Bool.not_true, Bool.not_false, decide_true, decide_false, Option.isSome, not_true_eq_false, not_false_eq_true, if_true, if_false, reduceCtorEq, ↓reduceIte]; done) | (simp only [mRaise]; simp only [if_neg h1, if_pos h1, decide_eq_false h1, Bool.true_and, Bool.false_and, Bool.and_true, Bool.and_false, Bool.true_or, Bool.or_true, Bool.false_or, Bool.or_false, Bool.not_true, Bool.not_false, decide_true, decide_false, Option.isSome, not_true_eq_false, not_false_eq_true, if_true, if_false, reduceCtorEq, ↓reduceIte]; rfl) | (simp only [if_neg h1, if_pos h1, decide_eq_false h1, Bool.true_and, Bool.false_and, Bool.and_true, Bool.and_false, Bool.true_or, Bool.or_true, Bool.false_or, Bool.or_false, Bool.not_true, Bool.not_false, decide_true, decide_false, Option.isSome, not_true_eq_false, not_false_eq_true, if_true, if_false, reduceCtorEq, ↓reduceIte]; rfl) | (simp_all [mRaise]; done))
end
section
set_option maxHeartbeats 4000000 in
set_option maxRecDepth 100000 in
theorem c2_delivered (l : Launch) (dC : Nat → ClassId) (dI : Nat → Nat → Nat) (hm : Nat) (a : Nat → Nat) (cA : Nat → ClassId) (B : Nat → Nat → Bool) (N : Nat → Nat → Nat) (c : Nat) (hc : c < 2) (hN : ∀ c, c < 2 → N 0 c < 8) : xr_M l yX2_delivered wsX2_delivered ({ frames := 2, cells := 0, slots := 0, locals := 44 }) [.ref hm, .int (nI c)] (dC, dI) vwCl (mtys cA) [] (mw hm a cA (B, N)) (some (.int (oI (mDel B N c)))) := by
  refine Met.ofW (cc := cX2_delivered) (maxL := 6) (ret := (some .int)) (by decide) rfl ?_
  intro p e s m args below meth cd s₁ B₀ hml hv
  obtain ⟨rfl, hP, hK, hZ⟩ := hv
  have hx := B₀.exec
  have hb := B₀.bytes
  have hr := B₀.returns
  have hts := atoms_spec (ws := wsX2_delivered) B₀.pre
  have hown : s.vm.findClass RX2 = some m.cls := findClass_of_methodNamed B₀.named
  have hlocks := B₀.notSynchronized
  have hin_RX2 : ∀ w ∈ u_ws RX2 TX2 14, w ∈ wsX2_delivered := fun w h => List.mem_cons_of_mem _ (u_X2 w h)
  have hlk_19 := hts _ (List.mem_cons_of_mem _ k_fl_X2_19)
  have hl := lv_entry ([.ref hm, .int (nI c)]) (n := 6) (Nat.le_of_ble_eq_true rfl)
  rw [lg_entry_eq]
  generalize (lg_sl ([.ref hm, .int (nI c)]) ++ List.replicate (6 - (lg_sl ([.ref hm, .int (nI c)])).length) Slot.unset).toArray = ls at hl ⊢
  have hl : lv_has ls 6 [(0, .ref hm), (1, .int (nI c))] := hl
  have loop : ∀ (n q : Nat) (bl : Bool), q + n = 8 → mDlF B N c n q bl = mDel B N c → ∀ ls : Array Slot, lv_has ls 6 [(3, .int (nI q)), (2, .int (bI bl)), (0, .ref hm), (1, .int (nI c))] → W p l e (headSpec wsX2_delivered ({ frames := 2, cells := 0, slots := 0, locals := 44 })).room s m ([.ref hm, .int (nI c)]).toArray below meth cd s.heap [] 0 0 (MQ below (xr_Q (some (.int (oI (mDel B N c))))) ([.ref hm, .int (nI c)]).toArray s 0 0 (fun _ => False)) (F0 m 17 ls []) := by
    intro n
    induction n with
    | zero =>
      intro q bl hq hF ls hl
      obtain rfl : q = 8 := by omega
      refine lv_iload_n hx hb dX2_delivered_17 rfl (lv_at hl 0 rfl) ?_
      refine lv_bipush (v := nI 8) hx hb dX2_delivered_18 (by decide) ?_
      refine xn_icmp_ge (x := 8) (y := 8) (tgt := 140) (by omega) (by omega) hx hb dX2_delivered_20 (by decide) (fun _ => ?_) (fun h => absurd (by decide) h)
      refine lv_iconst (v := -1) hx hb dX2_delivered_140 (by decide) ?_
      exact xr_iret hx hb hr hlocks dX2_delivered_141 (congrArg oI hF)
    | succ n ih =>
      intro q bl hq hF ls hl
      have hr8 : mRk N c q < 8 := Nat.mod_lt _ (by decide)
      refine lv_iload_n hx hb dX2_delivered_17 rfl (lv_at hl 0 rfl) ?_
      refine lv_bipush (v := nI 8) hx hb dX2_delivered_18 (by decide) ?_
      refine xn_icmp_ge (x := q) (y := 8) (tgt := 140) (by omega) (by omega) hx hb dX2_delivered_20 (by decide) (fun h => absurd h (by omega)) (fun _ => ?_)
      refine lv_iload_n hx hb dX2_delivered_23 rfl (lv_at hl 1 rfl) ?_
      refine xb_if_ne (b := bl) (tgt := 140) hx hb dX2_delivered_24 (by decide) (fun h1 => ?_) (fun h1 => ?_)
      · refine lv_iconst (v := -1) hx hb dX2_delivered_140 (by decide) ?_
        exact xr_iret hx hb hr hlocks dX2_delivered_141  (congrArg oI (show none = mDel B N c from by rw [← hF, mDlF, if_pos h1]))
      · refine lv_aload_n hx hb dX2_delivered_27 rfl (lv_at hl 2 rfl) ?_
        refine lv_iload_n hx hb dX2_delivered_28 rfl (lv_at hl 3 rfl) ?_
        refine lv_iload_n hx hb dX2_delivered_29 rfl (lv_at hl 0 rfl) ?_
        refine xr_call (st1 := [.int (nI (mRk N c q))]) (W.runV (As := [.int (nI c), .int (nI q)]) (rest := []) ⟨hx, hb, hml, hown, hts⟩ (c2_ranked l dC dI hm a cA B N c q (by omega) (by omega) hN) (cwV 2 hts (gd_V wa_c k_ml_X2_49 k_im_X2_ranked k_se_X2_ranked k_in_X2 k_co_X2_ranked) rfl rfl rfl (by decide +kernel) ⟨Nat.le_of_ble_eq_true rfl, Nat.le_of_ble_eq_true rfl⟩) (xr_preV (q0 := 0) (C := RX2) hK hP xz_Z.nil rfl rfl) rfl rfl hl.1 rfl (lv_room (Nat.le_of_ble_eq_true rfl)) dX2_delivered_30 ⟨Nat.zero_le _, Nat.zero_le _⟩) rfl ?_
        refine lv_istore (lv' := [(4, .int (nI (mRk N c q))), (3, .int (nI q)), (2, .int (bI bl)), (0, .ref hm), (1, .int (nI c))]) hx hb dX2_delivered_33 hl (by decide) rfl (fun ls hl => ?_)
        refine xj_meet (pcJ := 59) (stJ := fun y => .int y :: []) (bI (mOwn B c (mRk N c q))) ?_ (fun J59 => ?_)
        · refine lv_istore (lv' := [(5, .int (bI (mOwn B c (mRk N c q)))), (4, .int (nI (mRk N c q))), (3, .int (nI q)), (2, .int (bI bl)), (0, .ref hm), (1, .int (nI c))]) hx hb dX2_delivered_59 hl (by decide) rfl (fun ls hl => ?_)
          refine lv_aload_n hx hb dX2_delivered_61 rfl (lv_at hl 4 rfl) ?_
          refine lv_iload_n hx hb dX2_delivered_62 rfl (lv_at hl 5 rfl) ?_
          refine lv_iload hx hb dX2_delivered_63 (lv_at hl 1 rfl) ?_
          refine xr_call (st1 := [.int (bI (mBlk B c (mRk N c q)))]) (W.runV (As := [.int (nI c), .int (nI (mRk N c q))]) (rest := []) ⟨hx, hb, hml, hown, hts⟩ (c2_blocks l dC dI hm a cA B N c (mRk N c q) (by omega) (by omega)) (cwV 2 hts (gd_V wa_c k_ml_X2_53 k_im_X2_blocks k_se_X2_blocks k_in_X2 k_co_X2_blocks) rfl rfl rfl (by decide +kernel) ⟨Nat.le_of_ble_eq_true rfl, Nat.le_of_ble_eq_true rfl⟩) (xr_preV (q0 := 0) (C := RX2) hK hP xz_Z.nil rfl rfl) rfl rfl hl.1 rfl (lv_room (Nat.le_of_ble_eq_true rfl)) dX2_delivered_65 ⟨Nat.zero_le _, Nat.zero_le _⟩) rfl ?_
          refine xj_meet (pcJ := 81) (stJ := fun y => .int y :: []) (bI (mB1 B c (mRk N c q))) ?_ (fun J81 => ?_)
          · refine lv_istore_n (lv' := [(2, .int (bI (mB1 B c (mRk N c q)))), (5, .int (bI (mOwn B c (mRk N c q)))), (4, .int (nI (mRk N c q))), (3, .int (nI q)), (0, .ref hm), (1, .int (nI c))]) hx hb dX2_delivered_81 rfl hl (by decide) rfl (fun ls hl => ?_)
            refine xj_goal (P := mHit B c (mRk N c q) = false) (pcJ := 114) (stJ := []) (fun hno => ?_) (fun J114 => ?_)
            · refine xj_meet (pcJ := 133) (stJ := fun y => .int y :: []) (bI (mB1 B c (mRk N c q) || mBlk B c (mRk N c q))) ?_ (fun J133 => ?_)
              · refine lv_istore_n (lv' := [(2, .int (bI (mB1 B c (mRk N c q) || mBlk B c (mRk N c q)))), (5, .int (bI (mOwn B c (mRk N c q)))), (4, .int (nI (mRk N c q))), (3, .int (nI q)), (0, .ref hm), (1, .int (nI c))]) hx hb dX2_delivered_133 rfl hl (by decide) rfl (fun ls hl => ?_)
                refine lv_iinc (k := 3) (v := nI (q + 1)) (lv' := [(3, .int (nI (q + 1))), (2, .int (bI (mB1 B c (mRk N c q) || mBlk B c (mRk N c q)))), (5, .int (bI (mOwn B c (mRk N c q)))), (4, .int (nI (mRk N c q))), (0, .ref hm), (1, .int (nI c))]) hx hb dX2_delivered_134 hl rfl (nI_1 _) (by decide) rfl (fun ls hl => ?_)
                refine lv_goto (tgt := 17) hx hb dX2_delivered_137 (by decide) ?_
                refine ih (q + 1) (mB1 B c (mRk N c q) || mBlk B c (mRk N c q)) (by omega) ?_ ls (lv_sub hl [0, 1, 4, 5] rfl)
                rw [← hF, mDlF, if_neg (by rw [h1]; decide), if_neg (by rw [hno]; decide)]
              · refine lv_iload_n hx hb dX2_delivered_114 rfl (lv_at hl 0 rfl) ?_
                refine xb_if_ne (b := mB1 B c (mRk N c q)) (tgt := 128) hx hb dX2_delivered_115 (by decide) (fun h2 => ?_) (fun h2 => ?_)
                · refine lv_iconst (v := nI 1) hx hb dX2_delivered_128 (by decide) ?_
                  refine lv_goto (tgt := 133) hx hb dX2_delivered_129 (by decide) ?_
                  exact J133 (bI true) (congrArg bI (show true = (mB1 B c (mRk N c q) || mBlk B c (mRk N c q)) from (by first | rfl | (simp only [h1, hno, h2, Bool.true_and, Bool.false_and, Bool.and_true, Bool.and_false, Bool.true_or, Bool.or_true, Bool.false_or, Bool.or_false, Bool.not_true, Bool.not_false, decide_true, decide_false, Option.isSome, not_true_eq_false, not_false_eq_true, if_true, if_false, reduceCtorEq, ↓reduceIte]; done) | (simp only [mOwn, h1, hno, h2, Bool.true_and, Bool.false_and, Bool.and_true, Bool.and_false, Bool.true_or, Bool.or_true, Bool.false_or, Bool.or_false, Bool.not_true, Bool.not_false, decide_true, decide_false, Option.isSome, not_true_eq_false, not_false_eq_true, if_true, if_false, reduceCtorEq, ↓reduceIte]; done) | (simp only [mB1, h1, hno, h2, Bool.true_and, Bool.false_and, Bool.and_true, Bool.and_false, Bool.true_or, Bool.or_true, Bool.false_or, Bool.or_false, Bool.not_true, Bool.not_false, decide_true, decide_false, Option.isSome, not_true_eq_false, not_false_eq_true, if_true, if_false, reduceCtorEq, ↓reduceIte]; done) | (simp only [mHit, h1, hno, h2, Bool.true_and, Bool.false_and, Bool.and_true, Bool.and_false, Bool.true_or, Bool.or_true, Bool.false_or, Bool.or_false, Bool.not_true, Bool.not_false, decide_true, decide_false, Option.isSome, not_true_eq_false, not_false_eq_true, if_true, if_false, reduceCtorEq, ↓reduceIte]; done) | (simp only [mOwn, mB1, mHit, h1, hno, h2, Bool.true_and, Bool.false_and, Bool.and_true, Bool.and_false, Bool.true_or, Bool.or_true, Bool.false_or, Bool.or_false, Bool.not_true, Bool.not_false, decide_true, decide_false, Option.isSome, not_true_eq_false, not_false_eq_true, if_true, if_false, reduceCtorEq, ↓reduceIte]; done) | (simp only [mOwn]; simp only [h1, hno, h2, Bool.true_and, Bool.false_and, Bool.and_true, Bool.and_false, Bool.true_or, Bool.or_true, Bool.false_or, Bool.or_false, Bool.not_true, Bool.not_false, decide_true, decide_false, Option.isSome, not_true_eq_false, not_false_eq_true, if_true, if_false, reduceCtorEq, ↓reduceIte]; done) | (simp only [mB1]; simp only [h1, hno, h2, Bool.true_and, Bool.false_and, Bool.and_true, Bool.and_false, Bool.true_or, Bool.or_true, Bool.false_or, Bool.or_false, Bool.not_true, Bool.not_false, decide_true, decide_false, Option.isSome, not_true_eq_false, not_false_eq_true, if_true, if_false, reduceCtorEq, ↓reduceIte]; done) | (simp only [mHit]; simp only [h1, hno, h2, Bool.true_and, Bool.false_and, Bool.and_true, Bool.and_false, Bool.true_or, Bool.or_true, Bool.false_or, Bool.or_false, Bool.not_true, Bool.not_false, decide_true, decide_false, Option.isSome, not_true_eq_false, not_false_eq_true, if_true, if_false, reduceCtorEq, ↓reduceIte]; done) | (simp only [mOwn, mB1, mHit]; simp only [h1, hno, h2, Bool.true_and, Bool.false_and, Bool.and_true, Bool.and_false, Bool.true_or, Bool.or_true, Bool.false_or, Bool.or_false, Bool.not_true, Bool.not_false, decide_true, decide_false, Option.isSome, not_true_eq_false, not_false_eq_true, if_true, if_false, reduceCtorEq, ↓reduceIte]; done) | (simp only [mOwn, mB1, mHit]; simp only [h1, hno, h2, Bool.true_and, Bool.false_and, Bool.and_true, Bool.and_false, Bool.true_or, Bool.or_true, Bool.false_or, Bool.or_false, Bool.not_true, Bool.not_false, decide_true, decide_false, Option.isSome, not_true_eq_false, not_false_eq_true, if_true, if_false, reduceCtorEq, ↓reduceIte]; rfl) | (simp only [h1, hno, h2, Bool.true_and, Bool.false_and, Bool.and_true, Bool.and_false, Bool.true_or, Bool.or_true, Bool.false_or, Bool.or_false, Bool.not_true, Bool.not_false, decide_true, decide_false, Option.isSome, not_true_eq_false, not_false_eq_true, if_true, if_false, reduceCtorEq, ↓reduceIte]; rfl) | (simp_all [mOwn, mB1, mHit]; done))))
                · refine lv_aload_n hx hb dX2_delivered_118 rfl (lv_at hl 4 rfl) ?_
                  refine lv_iload_n hx hb dX2_delivered_119 rfl (lv_at hl 5 rfl) ?_
                  refine lv_iload hx hb dX2_delivered_120 (lv_at hl 2 rfl) ?_
                  refine xr_call (st1 := [.int (bI (mBlk B c (mRk N c q)))]) (W.runV (As := [.int (nI c), .int (nI (mRk N c q))]) (rest := []) ⟨hx, hb, hml, hown, hts⟩ (c2_blocks l dC dI hm a cA B N c (mRk N c q) (by omega) (by omega)) (cwV 2 hts (gd_V wa_c k_ml_X2_53 k_im_X2_blocks k_se_X2_blocks k_in_X2 k_co_X2_blocks) rfl rfl rfl (by decide +kernel) ⟨Nat.le_of_ble_eq_true rfl, Nat.le_of_ble_eq_true rfl⟩) (xr_preV (q0 := 0) (C := RX2) hK hP xz_Z.nil rfl rfl) rfl rfl hl.1 rfl (lv_room (Nat.le_of_ble_eq_true rfl)) dX2_delivered_122 ⟨Nat.zero_le _, Nat.zero_le _⟩) rfl ?_
                  refine xb_if_eq (b := mBlk B c (mRk N c q)) (tgt := 132) hx hb dX2_delivered_125 (by decide) (fun h3 => ?_) (fun h3 => ?_)
                  · refine lv_iconst (v := nI 0) hx hb dX2_delivered_132 (by decide) ?_
                    exact J133 (bI false) (congrArg bI (show false = (mB1 B c (mRk N c q) || mBlk B c (mRk N c q)) from (by first | rfl | (simp only [h1, hno, h2, h3, Bool.true_and, Bool.false_and, Bool.and_true, Bool.and_false, Bool.true_or, Bool.or_true, Bool.false_or, Bool.or_false, Bool.not_true, Bool.not_false, decide_true, decide_false, Option.isSome, not_true_eq_false, not_false_eq_true, if_true, if_false, reduceCtorEq, ↓reduceIte]; done) | (simp only [mOwn, h1, hno, h2, h3, Bool.true_and, Bool.false_and, Bool.and_true, Bool.and_false, Bool.true_or, Bool.or_true, Bool.false_or, Bool.or_false, Bool.not_true, Bool.not_false, decide_true, decide_false, Option.isSome, not_true_eq_false, not_false_eq_true, if_true, if_false, reduceCtorEq, ↓reduceIte]; done) | (simp only [mB1, h1, hno, h2, h3, Bool.true_and, Bool.false_and, Bool.and_true, Bool.and_false, Bool.true_or, Bool.or_true, Bool.false_or, Bool.or_false, Bool.not_true, Bool.not_false, decide_true, decide_false, Option.isSome, not_true_eq_false, not_false_eq_true, if_true, if_false, reduceCtorEq, ↓reduceIte]; done) | (simp only [mHit, h1, hno, h2, h3, Bool.true_and, Bool.false_and, Bool.and_true, Bool.and_false, Bool.true_or, Bool.or_true, Bool.false_or, Bool.or_false, Bool.not_true, Bool.not_false, decide_true, decide_false, Option.isSome, not_true_eq_false, not_false_eq_true, if_true, if_false, reduceCtorEq, ↓reduceIte]; done) | (simp only [mOwn, mB1, mHit, h1, hno, h2, h3, Bool.true_and, Bool.false_and, Bool.and_true, Bool.and_false, Bool.true_or, Bool.or_true, Bool.false_or, Bool.or_false, Bool.not_true, Bool.not_false, decide_true, decide_false, Option.isSome, not_true_eq_false, not_false_eq_true, if_true, if_false, reduceCtorEq, ↓reduceIte]; done) | (simp only [mOwn]; simp only [h1, hno, h2, h3, Bool.true_and, Bool.false_and, Bool.and_true, Bool.and_false, Bool.true_or, Bool.or_true, Bool.false_or, Bool.or_false, Bool.not_true, Bool.not_false, decide_true, decide_false, Option.isSome, not_true_eq_false, not_false_eq_true, if_true, if_false, reduceCtorEq, ↓reduceIte]; done) | (simp only [mB1]; simp only [h1, hno, h2, h3, Bool.true_and, Bool.false_and, Bool.and_true, Bool.and_false, Bool.true_or, Bool.or_true, Bool.false_or, Bool.or_false, Bool.not_true, Bool.not_false, decide_true, decide_false, Option.isSome, not_true_eq_false, not_false_eq_true, if_true, if_false, reduceCtorEq, ↓reduceIte]; done) | (simp only [mHit]; simp only [h1, hno, h2, h3, Bool.true_and, Bool.false_and, Bool.and_true, Bool.and_false, Bool.true_or, Bool.or_true, Bool.false_or, Bool.or_false, Bool.not_true, Bool.not_false, decide_true, decide_false, Option.isSome, not_true_eq_false, not_false_eq_true, if_true, if_false, reduceCtorEq, ↓reduceIte]; done) | (simp only [mOwn, mB1, mHit]; simp only [h1, hno, h2, h3, Bool.true_and, Bool.false_and, Bool.and_true, Bool.and_false, Bool.true_or, Bool.or_true, Bool.false_or, Bool.or_false, Bool.not_true, Bool.not_false, decide_true, decide_false, Option.isSome, not_true_eq_false, not_false_eq_true, if_true, if_false, reduceCtorEq, ↓reduceIte]; done) | (simp only [mOwn, mB1, mHit]; simp only [h1, hno, h2, h3, Bool.true_and, Bool.false_and, Bool.and_true, Bool.and_false, Bool.true_or, Bool.or_true, Bool.false_or, Bool.or_false, Bool.not_true, Bool.not_false, decide_true, decide_false, Option.isSome, not_true_eq_false, not_false_eq_true, if_true, if_false, reduceCtorEq, ↓reduceIte]; rfl) | (simp only [h1, hno, h2, h3, Bool.true_and, Bool.false_and, Bool.and_true, Bool.and_false, Bool.true_or, Bool.or_true, Bool.false_or, Bool.or_false, Bool.not_true, Bool.not_false, decide_true, decide_false, Option.isSome, not_true_eq_false, not_false_eq_true, if_true, if_false, reduceCtorEq, ↓reduceIte]; rfl) | (simp_all [mOwn, mB1, mHit]; done))))
                  · refine lv_iconst (v := nI 1) hx hb dX2_delivered_128 (by decide) ?_
                    refine lv_goto (tgt := 133) hx hb dX2_delivered_129 (by decide) ?_
                    exact J133 (bI true) (congrArg bI (show true = (mB1 B c (mRk N c q) || mBlk B c (mRk N c q)) from (by first | rfl | (simp only [h1, hno, h2, h3, Bool.true_and, Bool.false_and, Bool.and_true, Bool.and_false, Bool.true_or, Bool.or_true, Bool.false_or, Bool.or_false, Bool.not_true, Bool.not_false, decide_true, decide_false, Option.isSome, not_true_eq_false, not_false_eq_true, if_true, if_false, reduceCtorEq, ↓reduceIte]; done) | (simp only [mOwn, h1, hno, h2, h3, Bool.true_and, Bool.false_and, Bool.and_true, Bool.and_false, Bool.true_or, Bool.or_true, Bool.false_or, Bool.or_false, Bool.not_true, Bool.not_false, decide_true, decide_false, Option.isSome, not_true_eq_false, not_false_eq_true, if_true, if_false, reduceCtorEq, ↓reduceIte]; done) | (simp only [mB1, h1, hno, h2, h3, Bool.true_and, Bool.false_and, Bool.and_true, Bool.and_false, Bool.true_or, Bool.or_true, Bool.false_or, Bool.or_false, Bool.not_true, Bool.not_false, decide_true, decide_false, Option.isSome, not_true_eq_false, not_false_eq_true, if_true, if_false, reduceCtorEq, ↓reduceIte]; done) | (simp only [mHit, h1, hno, h2, h3, Bool.true_and, Bool.false_and, Bool.and_true, Bool.and_false, Bool.true_or, Bool.or_true, Bool.false_or, Bool.or_false, Bool.not_true, Bool.not_false, decide_true, decide_false, Option.isSome, not_true_eq_false, not_false_eq_true, if_true, if_false, reduceCtorEq, ↓reduceIte]; done) | (simp only [mOwn, mB1, mHit, h1, hno, h2, h3, Bool.true_and, Bool.false_and, Bool.and_true, Bool.and_false, Bool.true_or, Bool.or_true, Bool.false_or, Bool.or_false, Bool.not_true, Bool.not_false, decide_true, decide_false, Option.isSome, not_true_eq_false, not_false_eq_true, if_true, if_false, reduceCtorEq, ↓reduceIte]; done) | (simp only [mOwn]; simp only [h1, hno, h2, h3, Bool.true_and, Bool.false_and, Bool.and_true, Bool.and_false, Bool.true_or, Bool.or_true, Bool.false_or, Bool.or_false, Bool.not_true, Bool.not_false, decide_true, decide_false, Option.isSome, not_true_eq_false, not_false_eq_true, if_true, if_false, reduceCtorEq, ↓reduceIte]; done) | (simp only [mB1]; simp only [h1, hno, h2, h3, Bool.true_and, Bool.false_and, Bool.and_true, Bool.and_false, Bool.true_or, Bool.or_true, Bool.false_or, Bool.or_false, Bool.not_true, Bool.not_false, decide_true, decide_false, Option.isSome, not_true_eq_false, not_false_eq_true, if_true, if_false, reduceCtorEq, ↓reduceIte]; done) | (simp only [mHit]; simp only [h1, hno, h2, h3, Bool.true_and, Bool.false_and, Bool.and_true, Bool.and_false, Bool.true_or, Bool.or_true, Bool.false_or, Bool.or_false, Bool.not_true, Bool.not_false, decide_true, decide_false, Option.isSome, not_true_eq_false, not_false_eq_true, if_true, if_false, reduceCtorEq, ↓reduceIte]; done) | (simp only [mOwn, mB1, mHit]; simp only [h1, hno, h2, h3, Bool.true_and, Bool.false_and, Bool.and_true, Bool.and_false, Bool.true_or, Bool.or_true, Bool.false_or, Bool.or_false, Bool.not_true, Bool.not_false, decide_true, decide_false, Option.isSome, not_true_eq_false, not_false_eq_true, if_true, if_false, reduceCtorEq, ↓reduceIte]; done) | (simp only [mOwn, mB1, mHit]; simp only [h1, hno, h2, h3, Bool.true_and, Bool.false_and, Bool.and_true, Bool.and_false, Bool.true_or, Bool.or_true, Bool.false_or, Bool.or_false, Bool.not_true, Bool.not_false, decide_true, decide_false, Option.isSome, not_true_eq_false, not_false_eq_true, if_true, if_false, reduceCtorEq, ↓reduceIte]; rfl) | (simp only [h1, hno, h2, h3, Bool.true_and, Bool.false_and, Bool.and_true, Bool.and_false, Bool.true_or, Bool.or_true, Bool.false_or, Bool.or_false, Bool.not_true, Bool.not_false, decide_true, decide_false, Option.isSome, not_true_eq_false, not_false_eq_true, if_true, if_false, reduceCtorEq, ↓reduceIte]; rfl) | (simp_all [mOwn, mB1, mHit]; done))))
            · refine lv_iload_n hx hb dX2_delivered_82 rfl (lv_at hl 0 rfl) ?_
              refine xb_if_ne (b := mB1 B c (mRk N c q)) (tgt := 114) hx hb dX2_delivered_83 (by decide) (fun h4 => ?_) (fun h4 => ?_)
              · exact J114 (by first | rfl | (simp only [h1, h4, Bool.true_and, Bool.false_and, Bool.and_true, Bool.and_false, Bool.true_or, Bool.or_true, Bool.false_or, Bool.or_false, Bool.not_true, Bool.not_false, decide_true, decide_false, Option.isSome, not_true_eq_false, not_false_eq_true, if_true, if_false, reduceCtorEq, ↓reduceIte]; done) | (simp only [mOwn, h1, h4, Bool.true_and, Bool.false_and, Bool.and_true, Bool.and_false, Bool.true_or, Bool.or_true, Bool.false_or, Bool.or_false, Bool.not_true, Bool.not_false, decide_true, decide_false, Option.isSome, not_true_eq_false, not_false_eq_true, if_true, if_false, reduceCtorEq, ↓reduceIte]; done) | (simp only [mB1, h1, h4, Bool.true_and, Bool.false_and, Bool.and_true, Bool.and_false, Bool.true_or, Bool.or_true, Bool.false_or, Bool.or_false, Bool.not_true, Bool.not_false, decide_true, decide_false, Option.isSome, not_true_eq_false, not_false_eq_true, if_true, if_false, reduceCtorEq, ↓reduceIte]; done) | (simp only [mHit, h1, h4, Bool.true_and, Bool.false_and, Bool.and_true, Bool.and_false, Bool.true_or, Bool.or_true, Bool.false_or, Bool.or_false, Bool.not_true, Bool.not_false, decide_true, decide_false, Option.isSome, not_true_eq_false, not_false_eq_true, if_true, if_false, reduceCtorEq, ↓reduceIte]; done) | (simp only [mOwn, mB1, mHit, h1, h4, Bool.true_and, Bool.false_and, Bool.and_true, Bool.and_false, Bool.true_or, Bool.or_true, Bool.false_or, Bool.or_false, Bool.not_true, Bool.not_false, decide_true, decide_false, Option.isSome, not_true_eq_false, not_false_eq_true, if_true, if_false, reduceCtorEq, ↓reduceIte]; done) | (simp only [mOwn]; simp only [h1, h4, Bool.true_and, Bool.false_and, Bool.and_true, Bool.and_false, Bool.true_or, Bool.or_true, Bool.false_or, Bool.or_false, Bool.not_true, Bool.not_false, decide_true, decide_false, Option.isSome, not_true_eq_false, not_false_eq_true, if_true, if_false, reduceCtorEq, ↓reduceIte]; done) | (simp only [mB1]; simp only [h1, h4, Bool.true_and, Bool.false_and, Bool.and_true, Bool.and_false, Bool.true_or, Bool.or_true, Bool.false_or, Bool.or_false, Bool.not_true, Bool.not_false, decide_true, decide_false, Option.isSome, not_true_eq_false, not_false_eq_true, if_true, if_false, reduceCtorEq, ↓reduceIte]; done) | (simp only [mHit]; simp only [h1, h4, Bool.true_and, Bool.false_and, Bool.and_true, Bool.and_false, Bool.true_or, Bool.or_true, Bool.false_or, Bool.or_false, Bool.not_true, Bool.not_false, decide_true, decide_false, Option.isSome, not_true_eq_false, not_false_eq_true, if_true, if_false, reduceCtorEq, ↓reduceIte]; done) | (simp only [mOwn, mB1, mHit]; simp only [h1, h4, Bool.true_and, Bool.false_and, Bool.and_true, Bool.and_false, Bool.true_or, Bool.or_true, Bool.false_or, Bool.or_false, Bool.not_true, Bool.not_false, decide_true, decide_false, Option.isSome, not_true_eq_false, not_false_eq_true, if_true, if_false, reduceCtorEq, ↓reduceIte]; done) | (simp only [mOwn, mB1, mHit]; simp only [h1, h4, Bool.true_and, Bool.false_and, Bool.and_true, Bool.and_false, Bool.true_or, Bool.or_true, Bool.false_or, Bool.or_false, Bool.not_true, Bool.not_false, decide_true, decide_false, Option.isSome, not_true_eq_false, not_false_eq_true, if_true, if_false, reduceCtorEq, ↓reduceIte]; rfl) | (simp only [h1, h4, Bool.true_and, Bool.false_and, Bool.and_true, Bool.and_false, Bool.true_or, Bool.or_true, Bool.false_or, Bool.or_false, Bool.not_true, Bool.not_false, decide_true, decide_false, Option.isSome, not_true_eq_false, not_false_eq_true, if_true, if_false, reduceCtorEq, ↓reduceIte]; rfl) | (simp_all [mOwn, mB1, mHit]; done))
              · refine lv_aload_n hx hb dX2_delivered_86 rfl (lv_at hl 4 rfl) ?_
                refine lv_iload_n hx hb dX2_delivered_87 rfl (lv_at hl 5 rfl) ?_
                refine lv_iload hx hb dX2_delivered_88 (lv_at hl 2 rfl) ?_
                refine xr_call (st1 := [.int (bI (mReq B c (mRk N c q)))]) (W.runV (As := [.int (nI c), .int (nI (mRk N c q))]) (rest := []) ⟨hx, hb, hml, hown, hts⟩ (c2_requested l dC dI hm a cA B N c (mRk N c q) (by omega) (by omega)) (cwV 2 hts (gd_V wa_c k_ml_X2_56 k_im_X2_requested k_se_X2_requested k_in_X2 k_co_X2_requested) rfl rfl rfl (by decide +kernel) ⟨Nat.le_of_ble_eq_true rfl, Nat.le_of_ble_eq_true rfl⟩) (xr_preV (q0 := 0) (C := RX2) hK hP xz_Z.nil rfl rfl) rfl rfl hl.1 rfl (lv_room (Nat.le_of_ble_eq_true rfl)) dX2_delivered_90 ⟨Nat.zero_le _, Nat.zero_le _⟩) rfl ?_
                refine xb_if_eq (b := mReq B c (mRk N c q)) (tgt := 114) hx hb dX2_delivered_93 (by decide) (fun h5 => ?_) (fun h5 => ?_)
                · exact J114 (by first | rfl | (simp only [h1, h4, h5, Bool.true_and, Bool.false_and, Bool.and_true, Bool.and_false, Bool.true_or, Bool.or_true, Bool.false_or, Bool.or_false, Bool.not_true, Bool.not_false, decide_true, decide_false, Option.isSome, not_true_eq_false, not_false_eq_true, if_true, if_false, reduceCtorEq, ↓reduceIte]; done) | (simp only [mOwn, h1, h4, h5, Bool.true_and, Bool.false_and, Bool.and_true, Bool.and_false, Bool.true_or, Bool.or_true, Bool.false_or, Bool.or_false, Bool.not_true, Bool.not_false, decide_true, decide_false, Option.isSome, not_true_eq_false, not_false_eq_true, if_true, if_false, reduceCtorEq, ↓reduceIte]; done) | (simp only [mB1, h1, h4, h5, Bool.true_and, Bool.false_and, Bool.and_true, Bool.and_false, Bool.true_or, Bool.or_true, Bool.false_or, Bool.or_false, Bool.not_true, Bool.not_false, decide_true, decide_false, Option.isSome, not_true_eq_false, not_false_eq_true, if_true, if_false, reduceCtorEq, ↓reduceIte]; done) | (simp only [mHit, h1, h4, h5, Bool.true_and, Bool.false_and, Bool.and_true, Bool.and_false, Bool.true_or, Bool.or_true, Bool.false_or, Bool.or_false, Bool.not_true, Bool.not_false, decide_true, decide_false, Option.isSome, not_true_eq_false, not_false_eq_true, if_true, if_false, reduceCtorEq, ↓reduceIte]; done) | (simp only [mOwn, mB1, mHit, h1, h4, h5, Bool.true_and, Bool.false_and, Bool.and_true, Bool.and_false, Bool.true_or, Bool.or_true, Bool.false_or, Bool.or_false, Bool.not_true, Bool.not_false, decide_true, decide_false, Option.isSome, not_true_eq_false, not_false_eq_true, if_true, if_false, reduceCtorEq, ↓reduceIte]; done) | (simp only [mOwn]; simp only [h1, h4, h5, Bool.true_and, Bool.false_and, Bool.and_true, Bool.and_false, Bool.true_or, Bool.or_true, Bool.false_or, Bool.or_false, Bool.not_true, Bool.not_false, decide_true, decide_false, Option.isSome, not_true_eq_false, not_false_eq_true, if_true, if_false, reduceCtorEq, ↓reduceIte]; done) | (simp only [mB1]; simp only [h1, h4, h5, Bool.true_and, Bool.false_and, Bool.and_true, Bool.and_false, Bool.true_or, Bool.or_true, Bool.false_or, Bool.or_false, Bool.not_true, Bool.not_false, decide_true, decide_false, Option.isSome, not_true_eq_false, not_false_eq_true, if_true, if_false, reduceCtorEq, ↓reduceIte]; done) | (simp only [mHit]; simp only [h1, h4, h5, Bool.true_and, Bool.false_and, Bool.and_true, Bool.and_false, Bool.true_or, Bool.or_true, Bool.false_or, Bool.or_false, Bool.not_true, Bool.not_false, decide_true, decide_false, Option.isSome, not_true_eq_false, not_false_eq_true, if_true, if_false, reduceCtorEq, ↓reduceIte]; done) | (simp only [mOwn, mB1, mHit]; simp only [h1, h4, h5, Bool.true_and, Bool.false_and, Bool.and_true, Bool.and_false, Bool.true_or, Bool.or_true, Bool.false_or, Bool.or_false, Bool.not_true, Bool.not_false, decide_true, decide_false, Option.isSome, not_true_eq_false, not_false_eq_true, if_true, if_false, reduceCtorEq, ↓reduceIte]; done) | (simp only [mOwn, mB1, mHit]; simp only [h1, h4, h5, Bool.true_and, Bool.false_and, Bool.and_true, Bool.and_false, Bool.true_or, Bool.or_true, Bool.false_or, Bool.or_false, Bool.not_true, Bool.not_false, decide_true, decide_false, Option.isSome, not_true_eq_false, not_false_eq_true, if_true, if_false, reduceCtorEq, ↓reduceIte]; rfl) | (simp only [h1, h4, h5, Bool.true_and, Bool.false_and, Bool.and_true, Bool.and_false, Bool.true_or, Bool.or_true, Bool.false_or, Bool.or_false, Bool.not_true, Bool.not_false, decide_true, decide_false, Option.isSome, not_true_eq_false, not_false_eq_true, if_true, if_false, reduceCtorEq, ↓reduceIte]; rfl) | (simp_all [mOwn, mB1, mHit]; done))
                · refine lv_aload_n hx hb dX2_delivered_96 rfl (lv_at hl 4 rfl) ?_
                  refine va_get (D := (dC, dI)) (ci := 2) (v := .ref (a 3)) (C := RX2) (T := TX2) (N := 14) hx hb hts hin_RX2 hown hK hP 0 rfl rfl 4 (by decide) hlk_19 (fun _ h9 => h9) rfl dX2_delivered_97 ?_
                  refine lv_bipush (v := nI 8) hx hb dX2_delivered_100 (by decide) ?_
                  refine lv_iload_n hx hb dX2_delivered_102 rfl (lv_at hl 5 rfl) ?_
                  refine lv_imul hx hb dX2_delivered_103 ?_
                  refine xi_eq (y := nI (8 * c)) (pk_mul _ _) ?_
                  refine lv_iload hx hb dX2_delivered_104 (lv_at hl 2 rfl) ?_
                  refine lv_iadd hx hb dX2_delivered_106 ?_
                  refine xi_eq (y := nI ((8 * c) + (mRk N c q))) (nI_add _ _) ?_
                  refine xz_ld (f := B 3) (j := ((8 * c) + (mRk N c q))) hx hb hK hP 4 3 rfl rfl (by omega) (by decide) dX2_delivered_107 ?_
                  refine xb_if_ne (b := B 3 ((8 * c) + (mRk N c q))) (tgt := 114) hx hb dX2_delivered_108 (by decide) (fun h6 => ?_) (fun h6 => ?_)
                  · exact J114 (by first | rfl | (simp only [h1, h4, h5, h6, Bool.true_and, Bool.false_and, Bool.and_true, Bool.and_false, Bool.true_or, Bool.or_true, Bool.false_or, Bool.or_false, Bool.not_true, Bool.not_false, decide_true, decide_false, Option.isSome, not_true_eq_false, not_false_eq_true, if_true, if_false, reduceCtorEq, ↓reduceIte]; done) | (simp only [mOwn, h1, h4, h5, h6, Bool.true_and, Bool.false_and, Bool.and_true, Bool.and_false, Bool.true_or, Bool.or_true, Bool.false_or, Bool.or_false, Bool.not_true, Bool.not_false, decide_true, decide_false, Option.isSome, not_true_eq_false, not_false_eq_true, if_true, if_false, reduceCtorEq, ↓reduceIte]; done) | (simp only [mB1, h1, h4, h5, h6, Bool.true_and, Bool.false_and, Bool.and_true, Bool.and_false, Bool.true_or, Bool.or_true, Bool.false_or, Bool.or_false, Bool.not_true, Bool.not_false, decide_true, decide_false, Option.isSome, not_true_eq_false, not_false_eq_true, if_true, if_false, reduceCtorEq, ↓reduceIte]; done) | (simp only [mHit, h1, h4, h5, h6, Bool.true_and, Bool.false_and, Bool.and_true, Bool.and_false, Bool.true_or, Bool.or_true, Bool.false_or, Bool.or_false, Bool.not_true, Bool.not_false, decide_true, decide_false, Option.isSome, not_true_eq_false, not_false_eq_true, if_true, if_false, reduceCtorEq, ↓reduceIte]; done) | (simp only [mOwn, mB1, mHit, h1, h4, h5, h6, Bool.true_and, Bool.false_and, Bool.and_true, Bool.and_false, Bool.true_or, Bool.or_true, Bool.false_or, Bool.or_false, Bool.not_true, Bool.not_false, decide_true, decide_false, Option.isSome, not_true_eq_false, not_false_eq_true, if_true, if_false, reduceCtorEq, ↓reduceIte]; done) | (simp only [mOwn]; simp only [h1, h4, h5, h6, Bool.true_and, Bool.false_and, Bool.and_true, Bool.and_false, Bool.true_or, Bool.or_true, Bool.false_or, Bool.or_false, Bool.not_true, Bool.not_false, decide_true, decide_false, Option.isSome, not_true_eq_false, not_false_eq_true, if_true, if_false, reduceCtorEq, ↓reduceIte]; done) | (simp only [mB1]; simp only [h1, h4, h5, h6, Bool.true_and, Bool.false_and, Bool.and_true, Bool.and_false, Bool.true_or, Bool.or_true, Bool.false_or, Bool.or_false, Bool.not_true, Bool.not_false, decide_true, decide_false, Option.isSome, not_true_eq_false, not_false_eq_true, if_true, if_false, reduceCtorEq, ↓reduceIte]; done) | (simp only [mHit]; simp only [h1, h4, h5, h6, Bool.true_and, Bool.false_and, Bool.and_true, Bool.and_false, Bool.true_or, Bool.or_true, Bool.false_or, Bool.or_false, Bool.not_true, Bool.not_false, decide_true, decide_false, Option.isSome, not_true_eq_false, not_false_eq_true, if_true, if_false, reduceCtorEq, ↓reduceIte]; done) | (simp only [mOwn, mB1, mHit]; simp only [h1, h4, h5, h6, Bool.true_and, Bool.false_and, Bool.and_true, Bool.and_false, Bool.true_or, Bool.or_true, Bool.false_or, Bool.or_false, Bool.not_true, Bool.not_false, decide_true, decide_false, Option.isSome, not_true_eq_false, not_false_eq_true, if_true, if_false, reduceCtorEq, ↓reduceIte]; done) | (simp only [mOwn, mB1, mHit]; simp only [h1, h4, h5, h6, Bool.true_and, Bool.false_and, Bool.and_true, Bool.and_false, Bool.true_or, Bool.or_true, Bool.false_or, Bool.or_false, Bool.not_true, Bool.not_false, decide_true, decide_false, Option.isSome, not_true_eq_false, not_false_eq_true, if_true, if_false, reduceCtorEq, ↓reduceIte]; rfl) | (simp only [h1, h4, h5, h6, Bool.true_and, Bool.false_and, Bool.and_true, Bool.and_false, Bool.true_or, Bool.or_true, Bool.false_or, Bool.or_false, Bool.not_true, Bool.not_false, decide_true, decide_false, Option.isSome, not_true_eq_false, not_false_eq_true, if_true, if_false, reduceCtorEq, ↓reduceIte]; rfl) | (simp_all [mOwn, mB1, mHit]; done))
                  · refine lv_iload hx hb dX2_delivered_111 (lv_at hl 2 rfl) ?_
                    exact xr_iret hx hb hr hlocks dX2_delivered_113  (congrArg oI (show some (mRk N c q) = mDel B N c from by rw [← hF, mDlF, if_neg (by rw [h1]; decide), if_pos (by first | rfl | (simp only [h1, h4, h5, h6, Bool.true_and, Bool.false_and, Bool.and_true, Bool.and_false, Bool.true_or, Bool.or_true, Bool.false_or, Bool.or_false, Bool.not_true, Bool.not_false, decide_true, decide_false, Option.isSome, not_true_eq_false, not_false_eq_true, if_true, if_false, reduceCtorEq, ↓reduceIte]; done) | (simp only [mOwn, h1, h4, h5, h6, Bool.true_and, Bool.false_and, Bool.and_true, Bool.and_false, Bool.true_or, Bool.or_true, Bool.false_or, Bool.or_false, Bool.not_true, Bool.not_false, decide_true, decide_false, Option.isSome, not_true_eq_false, not_false_eq_true, if_true, if_false, reduceCtorEq, ↓reduceIte]; done) | (simp only [mB1, h1, h4, h5, h6, Bool.true_and, Bool.false_and, Bool.and_true, Bool.and_false, Bool.true_or, Bool.or_true, Bool.false_or, Bool.or_false, Bool.not_true, Bool.not_false, decide_true, decide_false, Option.isSome, not_true_eq_false, not_false_eq_true, if_true, if_false, reduceCtorEq, ↓reduceIte]; done) | (simp only [mHit, h1, h4, h5, h6, Bool.true_and, Bool.false_and, Bool.and_true, Bool.and_false, Bool.true_or, Bool.or_true, Bool.false_or, Bool.or_false, Bool.not_true, Bool.not_false, decide_true, decide_false, Option.isSome, not_true_eq_false, not_false_eq_true, if_true, if_false, reduceCtorEq, ↓reduceIte]; done) | (simp only [mOwn, mB1, mHit, h1, h4, h5, h6, Bool.true_and, Bool.false_and, Bool.and_true, Bool.and_false, Bool.true_or, Bool.or_true, Bool.false_or, Bool.or_false, Bool.not_true, Bool.not_false, decide_true, decide_false, Option.isSome, not_true_eq_false, not_false_eq_true, if_true, if_false, reduceCtorEq, ↓reduceIte]; done) | (simp only [mOwn]; simp only [h1, h4, h5, h6, Bool.true_and, Bool.false_and, Bool.and_true, Bool.and_false, Bool.true_or, Bool.or_true, Bool.false_or, Bool.or_false, Bool.not_true, Bool.not_false, decide_true, decide_false, Option.isSome, not_true_eq_false, not_false_eq_true, if_true, if_false, reduceCtorEq, ↓reduceIte]; done) | (simp only [mB1]; simp only [h1, h4, h5, h6, Bool.true_and, Bool.false_and, Bool.and_true, Bool.and_false, Bool.true_or, Bool.or_true, Bool.false_or, Bool.or_false, Bool.not_true, Bool.not_false, decide_true, decide_false, Option.isSome, not_true_eq_false, not_false_eq_true, if_true, if_false, reduceCtorEq, ↓reduceIte]; done) | (simp only [mHit]; simp only [h1, h4, h5, h6, Bool.true_and, Bool.false_and, Bool.and_true, Bool.and_false, Bool.true_or, Bool.or_true, Bool.false_or, Bool.or_false, Bool.not_true, Bool.not_false, decide_true, decide_false, Option.isSome, not_true_eq_false, not_false_eq_true, if_true, if_false, reduceCtorEq, ↓reduceIte]; done) | (simp only [mOwn, mB1, mHit]; simp only [h1, h4, h5, h6, Bool.true_and, Bool.false_and, Bool.and_true, Bool.and_false, Bool.true_or, Bool.or_true, Bool.false_or, Bool.or_false, Bool.not_true, Bool.not_false, decide_true, decide_false, Option.isSome, not_true_eq_false, not_false_eq_true, if_true, if_false, reduceCtorEq, ↓reduceIte]; done) | (simp only [mOwn, mB1, mHit]; simp only [h1, h4, h5, h6, Bool.true_and, Bool.false_and, Bool.and_true, Bool.and_false, Bool.true_or, Bool.or_true, Bool.false_or, Bool.or_false, Bool.not_true, Bool.not_false, decide_true, decide_false, Option.isSome, not_true_eq_false, not_false_eq_true, if_true, if_false, reduceCtorEq, ↓reduceIte]; rfl) | (simp only [h1, h4, h5, h6, Bool.true_and, Bool.false_and, Bool.and_true, Bool.and_false, Bool.true_or, Bool.or_true, Bool.false_or, Bool.or_false, Bool.not_true, Bool.not_false, decide_true, decide_false, Option.isSome, not_true_eq_false, not_false_eq_true, if_true, if_false, reduceCtorEq, ↓reduceIte]; rfl) | (simp_all [mOwn, mB1, mHit]; done))]))
          · refine xb_if_eq (b := mBlk B c (mRk N c q)) (tgt := 80) hx hb dX2_delivered_68 (by decide) (fun h7 => ?_) (fun h7 => ?_)
            · refine lv_iconst (v := nI 0) hx hb dX2_delivered_80 (by decide) ?_
              exact J81 (bI false) (congrArg bI (show false = (mB1 B c (mRk N c q)) from (by first | rfl | (simp only [h1, h7, Bool.true_and, Bool.false_and, Bool.and_true, Bool.and_false, Bool.true_or, Bool.or_true, Bool.false_or, Bool.or_false, Bool.not_true, Bool.not_false, decide_true, decide_false, Option.isSome, not_true_eq_false, not_false_eq_true, if_true, if_false, reduceCtorEq, ↓reduceIte]; done) | (simp only [mOwn, h1, h7, Bool.true_and, Bool.false_and, Bool.and_true, Bool.and_false, Bool.true_or, Bool.or_true, Bool.false_or, Bool.or_false, Bool.not_true, Bool.not_false, decide_true, decide_false, Option.isSome, not_true_eq_false, not_false_eq_true, if_true, if_false, reduceCtorEq, ↓reduceIte]; done) | (simp only [mB1, h1, h7, Bool.true_and, Bool.false_and, Bool.and_true, Bool.and_false, Bool.true_or, Bool.or_true, Bool.false_or, Bool.or_false, Bool.not_true, Bool.not_false, decide_true, decide_false, Option.isSome, not_true_eq_false, not_false_eq_true, if_true, if_false, reduceCtorEq, ↓reduceIte]; done) | (simp only [mHit, h1, h7, Bool.true_and, Bool.false_and, Bool.and_true, Bool.and_false, Bool.true_or, Bool.or_true, Bool.false_or, Bool.or_false, Bool.not_true, Bool.not_false, decide_true, decide_false, Option.isSome, not_true_eq_false, not_false_eq_true, if_true, if_false, reduceCtorEq, ↓reduceIte]; done) | (simp only [mOwn, mB1, mHit, h1, h7, Bool.true_and, Bool.false_and, Bool.and_true, Bool.and_false, Bool.true_or, Bool.or_true, Bool.false_or, Bool.or_false, Bool.not_true, Bool.not_false, decide_true, decide_false, Option.isSome, not_true_eq_false, not_false_eq_true, if_true, if_false, reduceCtorEq, ↓reduceIte]; done) | (simp only [mOwn]; simp only [h1, h7, Bool.true_and, Bool.false_and, Bool.and_true, Bool.and_false, Bool.true_or, Bool.or_true, Bool.false_or, Bool.or_false, Bool.not_true, Bool.not_false, decide_true, decide_false, Option.isSome, not_true_eq_false, not_false_eq_true, if_true, if_false, reduceCtorEq, ↓reduceIte]; done) | (simp only [mB1]; simp only [h1, h7, Bool.true_and, Bool.false_and, Bool.and_true, Bool.and_false, Bool.true_or, Bool.or_true, Bool.false_or, Bool.or_false, Bool.not_true, Bool.not_false, decide_true, decide_false, Option.isSome, not_true_eq_false, not_false_eq_true, if_true, if_false, reduceCtorEq, ↓reduceIte]; done) | (simp only [mHit]; simp only [h1, h7, Bool.true_and, Bool.false_and, Bool.and_true, Bool.and_false, Bool.true_or, Bool.or_true, Bool.false_or, Bool.or_false, Bool.not_true, Bool.not_false, decide_true, decide_false, Option.isSome, not_true_eq_false, not_false_eq_true, if_true, if_false, reduceCtorEq, ↓reduceIte]; done) | (simp only [mOwn, mB1, mHit]; simp only [h1, h7, Bool.true_and, Bool.false_and, Bool.and_true, Bool.and_false, Bool.true_or, Bool.or_true, Bool.false_or, Bool.or_false, Bool.not_true, Bool.not_false, decide_true, decide_false, Option.isSome, not_true_eq_false, not_false_eq_true, if_true, if_false, reduceCtorEq, ↓reduceIte]; done) | (simp only [mOwn, mB1, mHit]; simp only [h1, h7, Bool.true_and, Bool.false_and, Bool.and_true, Bool.and_false, Bool.true_or, Bool.or_true, Bool.false_or, Bool.or_false, Bool.not_true, Bool.not_false, decide_true, decide_false, Option.isSome, not_true_eq_false, not_false_eq_true, if_true, if_false, reduceCtorEq, ↓reduceIte]; rfl) | (simp only [h1, h7, Bool.true_and, Bool.false_and, Bool.and_true, Bool.and_false, Bool.true_or, Bool.or_true, Bool.false_or, Bool.or_false, Bool.not_true, Bool.not_false, decide_true, decide_false, Option.isSome, not_true_eq_false, not_false_eq_true, if_true, if_false, reduceCtorEq, ↓reduceIte]; rfl) | (simp_all [mOwn, mB1, mHit]; done))))
            · refine lv_iload hx hb dX2_delivered_71 (lv_at hl 0 rfl) ?_
              refine xb_if_ne (b := mOwn B c (mRk N c q)) (tgt := 80) hx hb dX2_delivered_73 (by decide) (fun h8 => ?_) (fun h8 => ?_)
              · refine lv_iconst (v := nI 0) hx hb dX2_delivered_80 (by decide) ?_
                exact J81 (bI false) (congrArg bI (show false = (mB1 B c (mRk N c q)) from (by first | rfl | (simp only [h1, h7, h8, Bool.true_and, Bool.false_and, Bool.and_true, Bool.and_false, Bool.true_or, Bool.or_true, Bool.false_or, Bool.or_false, Bool.not_true, Bool.not_false, decide_true, decide_false, Option.isSome, not_true_eq_false, not_false_eq_true, if_true, if_false, reduceCtorEq, ↓reduceIte]; done) | (simp only [mOwn, h1, h7, h8, Bool.true_and, Bool.false_and, Bool.and_true, Bool.and_false, Bool.true_or, Bool.or_true, Bool.false_or, Bool.or_false, Bool.not_true, Bool.not_false, decide_true, decide_false, Option.isSome, not_true_eq_false, not_false_eq_true, if_true, if_false, reduceCtorEq, ↓reduceIte]; done) | (simp only [mB1, h1, h7, h8, Bool.true_and, Bool.false_and, Bool.and_true, Bool.and_false, Bool.true_or, Bool.or_true, Bool.false_or, Bool.or_false, Bool.not_true, Bool.not_false, decide_true, decide_false, Option.isSome, not_true_eq_false, not_false_eq_true, if_true, if_false, reduceCtorEq, ↓reduceIte]; done) | (simp only [mHit, h1, h7, h8, Bool.true_and, Bool.false_and, Bool.and_true, Bool.and_false, Bool.true_or, Bool.or_true, Bool.false_or, Bool.or_false, Bool.not_true, Bool.not_false, decide_true, decide_false, Option.isSome, not_true_eq_false, not_false_eq_true, if_true, if_false, reduceCtorEq, ↓reduceIte]; done) | (simp only [mOwn, mB1, mHit, h1, h7, h8, Bool.true_and, Bool.false_and, Bool.and_true, Bool.and_false, Bool.true_or, Bool.or_true, Bool.false_or, Bool.or_false, Bool.not_true, Bool.not_false, decide_true, decide_false, Option.isSome, not_true_eq_false, not_false_eq_true, if_true, if_false, reduceCtorEq, ↓reduceIte]; done) | (simp only [mOwn]; simp only [h1, h7, h8, Bool.true_and, Bool.false_and, Bool.and_true, Bool.and_false, Bool.true_or, Bool.or_true, Bool.false_or, Bool.or_false, Bool.not_true, Bool.not_false, decide_true, decide_false, Option.isSome, not_true_eq_false, not_false_eq_true, if_true, if_false, reduceCtorEq, ↓reduceIte]; done) | (simp only [mB1]; simp only [h1, h7, h8, Bool.true_and, Bool.false_and, Bool.and_true, Bool.and_false, Bool.true_or, Bool.or_true, Bool.false_or, Bool.or_false, Bool.not_true, Bool.not_false, decide_true, decide_false, Option.isSome, not_true_eq_false, not_false_eq_true, if_true, if_false, reduceCtorEq, ↓reduceIte]; done) | (simp only [mHit]; simp only [h1, h7, h8, Bool.true_and, Bool.false_and, Bool.and_true, Bool.and_false, Bool.true_or, Bool.or_true, Bool.false_or, Bool.or_false, Bool.not_true, Bool.not_false, decide_true, decide_false, Option.isSome, not_true_eq_false, not_false_eq_true, if_true, if_false, reduceCtorEq, ↓reduceIte]; done) | (simp only [mOwn, mB1, mHit]; simp only [h1, h7, h8, Bool.true_and, Bool.false_and, Bool.and_true, Bool.and_false, Bool.true_or, Bool.or_true, Bool.false_or, Bool.or_false, Bool.not_true, Bool.not_false, decide_true, decide_false, Option.isSome, not_true_eq_false, not_false_eq_true, if_true, if_false, reduceCtorEq, ↓reduceIte]; done) | (simp only [mOwn, mB1, mHit]; simp only [h1, h7, h8, Bool.true_and, Bool.false_and, Bool.and_true, Bool.and_false, Bool.true_or, Bool.or_true, Bool.false_or, Bool.or_false, Bool.not_true, Bool.not_false, decide_true, decide_false, Option.isSome, not_true_eq_false, not_false_eq_true, if_true, if_false, reduceCtorEq, ↓reduceIte]; rfl) | (simp only [h1, h7, h8, Bool.true_and, Bool.false_and, Bool.and_true, Bool.and_false, Bool.true_or, Bool.or_true, Bool.false_or, Bool.or_false, Bool.not_true, Bool.not_false, decide_true, decide_false, Option.isSome, not_true_eq_false, not_false_eq_true, if_true, if_false, reduceCtorEq, ↓reduceIte]; rfl) | (simp_all [mOwn, mB1, mHit]; done))))
              · refine lv_iconst (v := nI 1) hx hb dX2_delivered_76 (by decide) ?_
                refine lv_goto (tgt := 81) hx hb dX2_delivered_77 (by decide) ?_
                exact J81 (bI true) (congrArg bI (show true = (mB1 B c (mRk N c q)) from (by first | rfl | (simp only [h1, h7, h8, Bool.true_and, Bool.false_and, Bool.and_true, Bool.and_false, Bool.true_or, Bool.or_true, Bool.false_or, Bool.or_false, Bool.not_true, Bool.not_false, decide_true, decide_false, Option.isSome, not_true_eq_false, not_false_eq_true, if_true, if_false, reduceCtorEq, ↓reduceIte]; done) | (simp only [mOwn, h1, h7, h8, Bool.true_and, Bool.false_and, Bool.and_true, Bool.and_false, Bool.true_or, Bool.or_true, Bool.false_or, Bool.or_false, Bool.not_true, Bool.not_false, decide_true, decide_false, Option.isSome, not_true_eq_false, not_false_eq_true, if_true, if_false, reduceCtorEq, ↓reduceIte]; done) | (simp only [mB1, h1, h7, h8, Bool.true_and, Bool.false_and, Bool.and_true, Bool.and_false, Bool.true_or, Bool.or_true, Bool.false_or, Bool.or_false, Bool.not_true, Bool.not_false, decide_true, decide_false, Option.isSome, not_true_eq_false, not_false_eq_true, if_true, if_false, reduceCtorEq, ↓reduceIte]; done) | (simp only [mHit, h1, h7, h8, Bool.true_and, Bool.false_and, Bool.and_true, Bool.and_false, Bool.true_or, Bool.or_true, Bool.false_or, Bool.or_false, Bool.not_true, Bool.not_false, decide_true, decide_false, Option.isSome, not_true_eq_false, not_false_eq_true, if_true, if_false, reduceCtorEq, ↓reduceIte]; done) | (simp only [mOwn, mB1, mHit, h1, h7, h8, Bool.true_and, Bool.false_and, Bool.and_true, Bool.and_false, Bool.true_or, Bool.or_true, Bool.false_or, Bool.or_false, Bool.not_true, Bool.not_false, decide_true, decide_false, Option.isSome, not_true_eq_false, not_false_eq_true, if_true, if_false, reduceCtorEq, ↓reduceIte]; done) | (simp only [mOwn]; simp only [h1, h7, h8, Bool.true_and, Bool.false_and, Bool.and_true, Bool.and_false, Bool.true_or, Bool.or_true, Bool.false_or, Bool.or_false, Bool.not_true, Bool.not_false, decide_true, decide_false, Option.isSome, not_true_eq_false, not_false_eq_true, if_true, if_false, reduceCtorEq, ↓reduceIte]; done) | (simp only [mB1]; simp only [h1, h7, h8, Bool.true_and, Bool.false_and, Bool.and_true, Bool.and_false, Bool.true_or, Bool.or_true, Bool.false_or, Bool.or_false, Bool.not_true, Bool.not_false, decide_true, decide_false, Option.isSome, not_true_eq_false, not_false_eq_true, if_true, if_false, reduceCtorEq, ↓reduceIte]; done) | (simp only [mHit]; simp only [h1, h7, h8, Bool.true_and, Bool.false_and, Bool.and_true, Bool.and_false, Bool.true_or, Bool.or_true, Bool.false_or, Bool.or_false, Bool.not_true, Bool.not_false, decide_true, decide_false, Option.isSome, not_true_eq_false, not_false_eq_true, if_true, if_false, reduceCtorEq, ↓reduceIte]; done) | (simp only [mOwn, mB1, mHit]; simp only [h1, h7, h8, Bool.true_and, Bool.false_and, Bool.and_true, Bool.and_false, Bool.true_or, Bool.or_true, Bool.false_or, Bool.or_false, Bool.not_true, Bool.not_false, decide_true, decide_false, Option.isSome, not_true_eq_false, not_false_eq_true, if_true, if_false, reduceCtorEq, ↓reduceIte]; done) | (simp only [mOwn, mB1, mHit]; simp only [h1, h7, h8, Bool.true_and, Bool.false_and, Bool.and_true, Bool.and_false, Bool.true_or, Bool.or_true, Bool.false_or, Bool.or_false, Bool.not_true, Bool.not_false, decide_true, decide_false, Option.isSome, not_true_eq_false, not_false_eq_true, if_true, if_false, reduceCtorEq, ↓reduceIte]; rfl) | (simp only [h1, h7, h8, Bool.true_and, Bool.false_and, Bool.and_true, Bool.and_false, Bool.true_or, Bool.or_true, Bool.false_or, Bool.or_false, Bool.not_true, Bool.not_false, decide_true, decide_false, Option.isSome, not_true_eq_false, not_false_eq_true, if_true, if_false, reduceCtorEq, ↓reduceIte]; rfl) | (simp_all [mOwn, mB1, mHit]; done))))
        · refine lv_iload_n hx hb dX2_delivered_35 rfl (lv_at hl 4 rfl) ?_
          refine xn_if_ne (x := c) (tgt := 58) (by omega) hx hb dX2_delivered_36 (by decide) (fun h9 => ?_) (fun h9 => ?_)
          · refine lv_iconst (v := nI 0) hx hb dX2_delivered_58 (by decide) ?_
            exact J59 (bI false) (congrArg bI (show false = (mOwn B c (mRk N c q)) from (by first | rfl | (simp only [h1, if_neg h9, if_pos h9, decide_eq_false h9, Bool.true_and, Bool.false_and, Bool.and_true, Bool.and_false, Bool.true_or, Bool.or_true, Bool.false_or, Bool.or_false, Bool.not_true, Bool.not_false, decide_true, decide_false, Option.isSome, not_true_eq_false, not_false_eq_true, if_true, if_false, reduceCtorEq, ↓reduceIte]; done) | (simp only [mOwn, h1, if_neg h9, if_pos h9, decide_eq_false h9, Bool.true_and, Bool.false_and, Bool.and_true, Bool.and_false, Bool.true_or, Bool.or_true, Bool.false_or, Bool.or_false, Bool.not_true, Bool.not_false, decide_true, decide_false, Option.isSome, not_true_eq_false, not_false_eq_true, if_true, if_false, reduceCtorEq, ↓reduceIte]; done) | (simp only [mB1, h1, if_neg h9, if_pos h9, decide_eq_false h9, Bool.true_and, Bool.false_and, Bool.and_true, Bool.and_false, Bool.true_or, Bool.or_true, Bool.false_or, Bool.or_false, Bool.not_true, Bool.not_false, decide_true, decide_false, Option.isSome, not_true_eq_false, not_false_eq_true, if_true, if_false, reduceCtorEq, ↓reduceIte]; done) | (simp only [mHit, h1, if_neg h9, if_pos h9, decide_eq_false h9, Bool.true_and, Bool.false_and, Bool.and_true, Bool.and_false, Bool.true_or, Bool.or_true, Bool.false_or, Bool.or_false, Bool.not_true, Bool.not_false, decide_true, decide_false, Option.isSome, not_true_eq_false, not_false_eq_true, if_true, if_false, reduceCtorEq, ↓reduceIte]; done) | (simp only [mOwn, mB1, mHit, h1, if_neg h9, if_pos h9, decide_eq_false h9, Bool.true_and, Bool.false_and, Bool.and_true, Bool.and_false, Bool.true_or, Bool.or_true, Bool.false_or, Bool.or_false, Bool.not_true, Bool.not_false, decide_true, decide_false, Option.isSome, not_true_eq_false, not_false_eq_true, if_true, if_false, reduceCtorEq, ↓reduceIte]; done) | (simp only [mOwn]; simp only [h1, if_neg h9, if_pos h9, decide_eq_false h9, Bool.true_and, Bool.false_and, Bool.and_true, Bool.and_false, Bool.true_or, Bool.or_true, Bool.false_or, Bool.or_false, Bool.not_true, Bool.not_false, decide_true, decide_false, Option.isSome, not_true_eq_false, not_false_eq_true, if_true, if_false, reduceCtorEq, ↓reduceIte]; done) | (simp only [mB1]; simp only [h1, if_neg h9, if_pos h9, decide_eq_false h9, Bool.true_and, Bool.false_and, Bool.and_true, Bool.and_false, Bool.true_or, Bool.or_true, Bool.false_or, Bool.or_false, Bool.not_true, Bool.not_false, decide_true, decide_false, Option.isSome, not_true_eq_false, not_false_eq_true, if_true, if_false, reduceCtorEq, ↓reduceIte]; done) | (simp only [mHit]; simp only [h1, if_neg h9, if_pos h9, decide_eq_false h9, Bool.true_and, Bool.false_and, Bool.and_true, Bool.and_false, Bool.true_or, Bool.or_true, Bool.false_or, Bool.or_false, Bool.not_true, Bool.not_false, decide_true, decide_false, Option.isSome, not_true_eq_false, not_false_eq_true, if_true, if_false, reduceCtorEq, ↓reduceIte]; done) | (simp only [mOwn, mB1, mHit]; simp only [h1, if_neg h9, if_pos h9, decide_eq_false h9, Bool.true_and, Bool.false_and, Bool.and_true, Bool.and_false, Bool.true_or, Bool.or_true, Bool.false_or, Bool.or_false, Bool.not_true, Bool.not_false, decide_true, decide_false, Option.isSome, not_true_eq_false, not_false_eq_true, if_true, if_false, reduceCtorEq, ↓reduceIte]; done) | (simp only [mOwn, mB1, mHit]; simp only [h1, if_neg h9, if_pos h9, decide_eq_false h9, Bool.true_and, Bool.false_and, Bool.and_true, Bool.and_false, Bool.true_or, Bool.or_true, Bool.false_or, Bool.or_false, Bool.not_true, Bool.not_false, decide_true, decide_false, Option.isSome, not_true_eq_false, not_false_eq_true, if_true, if_false, reduceCtorEq, ↓reduceIte]; rfl) | (simp only [h1, if_neg h9, if_pos h9, decide_eq_false h9, Bool.true_and, Bool.false_and, Bool.and_true, Bool.and_false, Bool.true_or, Bool.or_true, Bool.false_or, Bool.or_false, Bool.not_true, Bool.not_false, decide_true, decide_false, Option.isSome, not_true_eq_false, not_false_eq_true, if_true, if_false, reduceCtorEq, ↓reduceIte]; rfl) | (simp_all [mOwn, mB1, mHit]; done))))
          · refine lv_iload hx hb dX2_delivered_39 (lv_at hl 0 rfl) ?_
            refine lv_iconst (v := nI 2) hx hb dX2_delivered_41 (by decide) ?_
            refine xn_icmp_ne (x := (mRk N c q)) (y := 2) (tgt := 58) (by omega) (by omega) hx hb dX2_delivered_42 (by decide) (fun h10 => ?_) (fun h10 => ?_)
            · refine lv_iconst (v := nI 0) hx hb dX2_delivered_58 (by decide) ?_
              exact J59 (bI false) (congrArg bI (show false = (mOwn B c (mRk N c q)) from (by first | rfl | (simp only [h1, if_pos h9, if_neg (not_not_intro h9), decide_eq_true h9, if_neg h10, if_pos h10, decide_eq_false h10, Bool.true_and, Bool.false_and, Bool.and_true, Bool.and_false, Bool.true_or, Bool.or_true, Bool.false_or, Bool.or_false, Bool.not_true, Bool.not_false, decide_true, decide_false, Option.isSome, not_true_eq_false, not_false_eq_true, if_true, if_false, reduceCtorEq, ↓reduceIte]; done) | (simp only [mOwn, h1, if_pos h9, if_neg (not_not_intro h9), decide_eq_true h9, if_neg h10, if_pos h10, decide_eq_false h10, Bool.true_and, Bool.false_and, Bool.and_true, Bool.and_false, Bool.true_or, Bool.or_true, Bool.false_or, Bool.or_false, Bool.not_true, Bool.not_false, decide_true, decide_false, Option.isSome, not_true_eq_false, not_false_eq_true, if_true, if_false, reduceCtorEq, ↓reduceIte]; done) | (simp only [mB1, h1, if_pos h9, if_neg (not_not_intro h9), decide_eq_true h9, if_neg h10, if_pos h10, decide_eq_false h10, Bool.true_and, Bool.false_and, Bool.and_true, Bool.and_false, Bool.true_or, Bool.or_true, Bool.false_or, Bool.or_false, Bool.not_true, Bool.not_false, decide_true, decide_false, Option.isSome, not_true_eq_false, not_false_eq_true, if_true, if_false, reduceCtorEq, ↓reduceIte]; done) | (simp only [mHit, h1, if_pos h9, if_neg (not_not_intro h9), decide_eq_true h9, if_neg h10, if_pos h10, decide_eq_false h10, Bool.true_and, Bool.false_and, Bool.and_true, Bool.and_false, Bool.true_or, Bool.or_true, Bool.false_or, Bool.or_false, Bool.not_true, Bool.not_false, decide_true, decide_false, Option.isSome, not_true_eq_false, not_false_eq_true, if_true, if_false, reduceCtorEq, ↓reduceIte]; done) | (simp only [mOwn, mB1, mHit, h1, if_pos h9, if_neg (not_not_intro h9), decide_eq_true h9, if_neg h10, if_pos h10, decide_eq_false h10, Bool.true_and, Bool.false_and, Bool.and_true, Bool.and_false, Bool.true_or, Bool.or_true, Bool.false_or, Bool.or_false, Bool.not_true, Bool.not_false, decide_true, decide_false, Option.isSome, not_true_eq_false, not_false_eq_true, if_true, if_false, reduceCtorEq, ↓reduceIte]; done) | (simp only [mOwn]; simp only [h1, if_pos h9, if_neg (not_not_intro h9), decide_eq_true h9, if_neg h10, if_pos h10, decide_eq_false h10, Bool.true_and, Bool.false_and, Bool.and_true, Bool.and_false, Bool.true_or, Bool.or_true, Bool.false_or, Bool.or_false, Bool.not_true, Bool.not_false, decide_true, decide_false, Option.isSome, not_true_eq_false, not_false_eq_true, if_true, if_false, reduceCtorEq, ↓reduceIte]; done) | (simp only [mB1]; simp only [h1, if_pos h9, if_neg (not_not_intro h9), decide_eq_true h9, if_neg h10, if_pos h10, decide_eq_false h10, Bool.true_and, Bool.false_and, Bool.and_true, Bool.and_false, Bool.true_or, Bool.or_true, Bool.false_or, Bool.or_false, Bool.not_true, Bool.not_false, decide_true, decide_false, Option.isSome, not_true_eq_false, not_false_eq_true, if_true, if_false, reduceCtorEq, ↓reduceIte]; done) | (simp only [mHit]; simp only [h1, if_pos h9, if_neg (not_not_intro h9), decide_eq_true h9, if_neg h10, if_pos h10, decide_eq_false h10, Bool.true_and, Bool.false_and, Bool.and_true, Bool.and_false, Bool.true_or, Bool.or_true, Bool.false_or, Bool.or_false, Bool.not_true, Bool.not_false, decide_true, decide_false, Option.isSome, not_true_eq_false, not_false_eq_true, if_true, if_false, reduceCtorEq, ↓reduceIte]; done) | (simp only [mOwn, mB1, mHit]; simp only [h1, if_pos h9, if_neg (not_not_intro h9), decide_eq_true h9, if_neg h10, if_pos h10, decide_eq_false h10, Bool.true_and, Bool.false_and, Bool.and_true, Bool.and_false, Bool.true_or, Bool.or_true, Bool.false_or, Bool.or_false, Bool.not_true, Bool.not_false, decide_true, decide_false, Option.isSome, not_true_eq_false, not_false_eq_true, if_true, if_false, reduceCtorEq, ↓reduceIte]; done) | (simp only [mOwn, mB1, mHit]; simp only [h1, if_pos h9, if_neg (not_not_intro h9), decide_eq_true h9, if_neg h10, if_pos h10, decide_eq_false h10, Bool.true_and, Bool.false_and, Bool.and_true, Bool.and_false, Bool.true_or, Bool.or_true, Bool.false_or, Bool.or_false, Bool.not_true, Bool.not_false, decide_true, decide_false, Option.isSome, not_true_eq_false, not_false_eq_true, if_true, if_false, reduceCtorEq, ↓reduceIte]; rfl) | (simp only [h1, if_pos h9, if_neg (not_not_intro h9), decide_eq_true h9, if_neg h10, if_pos h10, decide_eq_false h10, Bool.true_and, Bool.false_and, Bool.and_true, Bool.and_false, Bool.true_or, Bool.or_true, Bool.false_or, Bool.or_false, Bool.not_true, Bool.not_false, decide_true, decide_false, Option.isSome, not_true_eq_false, not_false_eq_true, if_true, if_false, reduceCtorEq, ↓reduceIte]; rfl) | (simp_all [mOwn, mB1, mHit]; done))))
            · refine lv_aload_n hx hb dX2_delivered_45 rfl (lv_at hl 3 rfl) ?_
              refine lv_iconst (v := nI 0) hx hb dX2_delivered_46 (by decide) ?_
              refine lv_iconst (v := nI 3) hx hb dX2_delivered_47 (by decide) ?_
              refine xr_call (st1 := [.int (bI (B 4 (7 * 0 + 3)))]) (W.runV (As := [.int (nI 0), .int (nI 3)]) (rest := []) ⟨hx, hb, hml, hown, hts⟩ (c2_is l dC dI hm a cA B N 0 3 (by omega)) (cwV 2 hts (gd_V wa_c k_ml_X2_45 k_im_X2_is k_se_X2_is k_in_X2 k_co_X2_is) rfl rfl rfl (by decide +kernel) ⟨Nat.le_of_ble_eq_true rfl, Nat.le_of_ble_eq_true rfl⟩) (xr_preV (q0 := 0) (C := RX2) hK hP xz_Z.nil rfl rfl) rfl rfl hl.1 rfl (lv_room (Nat.le_of_ble_eq_true rfl)) dX2_delivered_48 ⟨Nat.zero_le _, Nat.zero_le _⟩) rfl ?_
              refine xb_if_eq (b := B 4 (7 * 0 + 3)) (tgt := 58) hx hb dX2_delivered_51 (by decide) (fun h11 => ?_) (fun h11 => ?_)
              · refine lv_iconst (v := nI 0) hx hb dX2_delivered_58 (by decide) ?_
                exact J59 (bI false) (congrArg bI (show false = (mOwn B c (mRk N c q)) from (by first | rfl | (simp only [h1, if_pos h9, if_neg (not_not_intro h9), decide_eq_true h9, if_pos h10, if_neg (not_not_intro h10), decide_eq_true h10, h11, Bool.true_and, Bool.false_and, Bool.and_true, Bool.and_false, Bool.true_or, Bool.or_true, Bool.false_or, Bool.or_false, Bool.not_true, Bool.not_false, decide_true, decide_false, Option.isSome, not_true_eq_false, not_false_eq_true, if_true, if_false, reduceCtorEq, ↓reduceIte]; done) | (simp only [mOwn, h1, if_pos h9, if_neg (not_not_intro h9), decide_eq_true h9, if_pos h10, if_neg (not_not_intro h10), decide_eq_true h10, h11, Bool.true_and, Bool.false_and, Bool.and_true, Bool.and_false, Bool.true_or, Bool.or_true, Bool.false_or, Bool.or_false, Bool.not_true, Bool.not_false, decide_true, decide_false, Option.isSome, not_true_eq_false, not_false_eq_true, if_true, if_false, reduceCtorEq, ↓reduceIte]; done) | (simp only [mB1, h1, if_pos h9, if_neg (not_not_intro h9), decide_eq_true h9, if_pos h10, if_neg (not_not_intro h10), decide_eq_true h10, h11, Bool.true_and, Bool.false_and, Bool.and_true, Bool.and_false, Bool.true_or, Bool.or_true, Bool.false_or, Bool.or_false, Bool.not_true, Bool.not_false, decide_true, decide_false, Option.isSome, not_true_eq_false, not_false_eq_true, if_true, if_false, reduceCtorEq, ↓reduceIte]; done) | (simp only [mHit, h1, if_pos h9, if_neg (not_not_intro h9), decide_eq_true h9, if_pos h10, if_neg (not_not_intro h10), decide_eq_true h10, h11, Bool.true_and, Bool.false_and, Bool.and_true, Bool.and_false, Bool.true_or, Bool.or_true, Bool.false_or, Bool.or_false, Bool.not_true, Bool.not_false, decide_true, decide_false, Option.isSome, not_true_eq_false, not_false_eq_true, if_true, if_false, reduceCtorEq, ↓reduceIte]; done) | (simp only [mOwn, mB1, mHit, h1, if_pos h9, if_neg (not_not_intro h9), decide_eq_true h9, if_pos h10, if_neg (not_not_intro h10), decide_eq_true h10, h11, Bool.true_and, Bool.false_and, Bool.and_true, Bool.and_false, Bool.true_or, Bool.or_true, Bool.false_or, Bool.or_false, Bool.not_true, Bool.not_false, decide_true, decide_false, Option.isSome, not_true_eq_false, not_false_eq_true, if_true, if_false, reduceCtorEq, ↓reduceIte]; done) | (simp only [mOwn]; simp only [h1, if_pos h9, if_neg (not_not_intro h9), decide_eq_true h9, if_pos h10, if_neg (not_not_intro h10), decide_eq_true h10, h11, Bool.true_and, Bool.false_and, Bool.and_true, Bool.and_false, Bool.true_or, Bool.or_true, Bool.false_or, Bool.or_false, Bool.not_true, Bool.not_false, decide_true, decide_false, Option.isSome, not_true_eq_false, not_false_eq_true, if_true, if_false, reduceCtorEq, ↓reduceIte]; done) | (simp only [mB1]; simp only [h1, if_pos h9, if_neg (not_not_intro h9), decide_eq_true h9, if_pos h10, if_neg (not_not_intro h10), decide_eq_true h10, h11, Bool.true_and, Bool.false_and, Bool.and_true, Bool.and_false, Bool.true_or, Bool.or_true, Bool.false_or, Bool.or_false, Bool.not_true, Bool.not_false, decide_true, decide_false, Option.isSome, not_true_eq_false, not_false_eq_true, if_true, if_false, reduceCtorEq, ↓reduceIte]; done) | (simp only [mHit]; simp only [h1, if_pos h9, if_neg (not_not_intro h9), decide_eq_true h9, if_pos h10, if_neg (not_not_intro h10), decide_eq_true h10, h11, Bool.true_and, Bool.false_and, Bool.and_true, Bool.and_false, Bool.true_or, Bool.or_true, Bool.false_or, Bool.or_false, Bool.not_true, Bool.not_false, decide_true, decide_false, Option.isSome, not_true_eq_false, not_false_eq_true, if_true, if_false, reduceCtorEq, ↓reduceIte]; done) | (simp only [mOwn, mB1, mHit]; simp only [h1, if_pos h9, if_neg (not_not_intro h9), decide_eq_true h9, if_pos h10, if_neg (not_not_intro h10), decide_eq_true h10, h11, Bool.true_and, Bool.false_and, Bool.and_true, Bool.and_false, Bool.true_or, Bool.or_true, Bool.false_or, Bool.or_false, Bool.not_true, Bool.not_false, decide_true, decide_false, Option.isSome, not_true_eq_false, not_false_eq_true, if_true, if_false, reduceCtorEq, ↓reduceIte]; done) | (simp only [mOwn, mB1, mHit]; simp only [h1, if_pos h9, if_neg (not_not_intro h9), decide_eq_true h9, if_pos h10, if_neg (not_not_intro h10), decide_eq_true h10, h11, Bool.true_and, Bool.false_and, Bool.and_true, Bool.and_false, Bool.true_or, Bool.or_true, Bool.false_or, Bool.or_false, Bool.not_true, Bool.not_false, decide_true, decide_false, Option.isSome, not_true_eq_false, not_false_eq_true, if_true, if_false, reduceCtorEq, ↓reduceIte]; rfl) | (simp only [h1, if_pos h9, if_neg (not_not_intro h9), decide_eq_true h9, if_pos h10, if_neg (not_not_intro h10), decide_eq_true h10, h11, Bool.true_and, Bool.false_and, Bool.and_true, Bool.and_false, Bool.true_or, Bool.or_true, Bool.false_or, Bool.or_false, Bool.not_true, Bool.not_false, decide_true, decide_false, Option.isSome, not_true_eq_false, not_false_eq_true, if_true, if_false, reduceCtorEq, ↓reduceIte]; rfl) | (simp_all [mOwn, mB1, mHit]; done))))
              · refine lv_iconst (v := nI 1) hx hb dX2_delivered_54 (by decide) ?_
                refine lv_goto (tgt := 59) hx hb dX2_delivered_55 (by decide) ?_
                exact J59 (bI true) (congrArg bI (show true = (mOwn B c (mRk N c q)) from (by first | rfl | (simp only [h1, if_pos h9, if_neg (not_not_intro h9), decide_eq_true h9, if_pos h10, if_neg (not_not_intro h10), decide_eq_true h10, h11, Bool.true_and, Bool.false_and, Bool.and_true, Bool.and_false, Bool.true_or, Bool.or_true, Bool.false_or, Bool.or_false, Bool.not_true, Bool.not_false, decide_true, decide_false, Option.isSome, not_true_eq_false, not_false_eq_true, if_true, if_false, reduceCtorEq, ↓reduceIte]; done) | (simp only [mOwn, h1, if_pos h9, if_neg (not_not_intro h9), decide_eq_true h9, if_pos h10, if_neg (not_not_intro h10), decide_eq_true h10, h11, Bool.true_and, Bool.false_and, Bool.and_true, Bool.and_false, Bool.true_or, Bool.or_true, Bool.false_or, Bool.or_false, Bool.not_true, Bool.not_false, decide_true, decide_false, Option.isSome, not_true_eq_false, not_false_eq_true, if_true, if_false, reduceCtorEq, ↓reduceIte]; done) | (simp only [mB1, h1, if_pos h9, if_neg (not_not_intro h9), decide_eq_true h9, if_pos h10, if_neg (not_not_intro h10), decide_eq_true h10, h11, Bool.true_and, Bool.false_and, Bool.and_true, Bool.and_false, Bool.true_or, Bool.or_true, Bool.false_or, Bool.or_false, Bool.not_true, Bool.not_false, decide_true, decide_false, Option.isSome, not_true_eq_false, not_false_eq_true, if_true, if_false, reduceCtorEq, ↓reduceIte]; done) | (simp only [mHit, h1, if_pos h9, if_neg (not_not_intro h9), decide_eq_true h9, if_pos h10, if_neg (not_not_intro h10), decide_eq_true h10, h11, Bool.true_and, Bool.false_and, Bool.and_true, Bool.and_false, Bool.true_or, Bool.or_true, Bool.false_or, Bool.or_false, Bool.not_true, Bool.not_false, decide_true, decide_false, Option.isSome, not_true_eq_false, not_false_eq_true, if_true, if_false, reduceCtorEq, ↓reduceIte]; done) | (simp only [mOwn, mB1, mHit, h1, if_pos h9, if_neg (not_not_intro h9), decide_eq_true h9, if_pos h10, if_neg (not_not_intro h10), decide_eq_true h10, h11, Bool.true_and, Bool.false_and, Bool.and_true, Bool.and_false, Bool.true_or, Bool.or_true, Bool.false_or, Bool.or_false, Bool.not_true, Bool.not_false, decide_true, decide_false, Option.isSome, not_true_eq_false, not_false_eq_true, if_true, if_false, reduceCtorEq, ↓reduceIte]; done) | (simp only [mOwn]; simp only [h1, if_pos h9, if_neg (not_not_intro h9), decide_eq_true h9, if_pos h10, if_neg (not_not_intro h10), decide_eq_true h10, h11, Bool.true_and, Bool.false_and, Bool.and_true, Bool.and_false, Bool.true_or, Bool.or_true, Bool.false_or, Bool.or_false, Bool.not_true, Bool.not_false, decide_true, decide_false, Option.isSome, not_true_eq_false, not_false_eq_true, if_true, if_false, reduceCtorEq, ↓reduceIte]; done) | (simp only [mB1]; simp only [h1, if_pos h9, if_neg (not_not_intro h9), decide_eq_true h9, if_pos h10, if_neg (not_not_intro h10), decide_eq_true h10, h11, Bool.true_and, Bool.false_and, Bool.and_true, Bool.and_false, Bool.true_or, Bool.or_true, Bool.false_or, Bool.or_false, Bool.not_true, Bool.not_false, decide_true, decide_false, Option.isSome, not_true_eq_false, not_false_eq_true, if_true, if_false, reduceCtorEq, ↓reduceIte]; done) | (simp only [mHit]; simp only [h1, if_pos h9, if_neg (not_not_intro h9), decide_eq_true h9, if_pos h10, if_neg (not_not_intro h10), decide_eq_true h10, h11, Bool.true_and, Bool.false_and, Bool.and_true, Bool.and_false, Bool.true_or, Bool.or_true, Bool.false_or, Bool.or_false, Bool.not_true, Bool.not_false, decide_true, decide_false, Option.isSome, not_true_eq_false, not_false_eq_true, if_true, if_false, reduceCtorEq, ↓reduceIte]; done) | (simp only [mOwn, mB1, mHit]; simp only [h1, if_pos h9, if_neg (not_not_intro h9), decide_eq_true h9, if_pos h10, if_neg (not_not_intro h10), decide_eq_true h10, h11, Bool.true_and, Bool.false_and, Bool.and_true, Bool.and_false, Bool.true_or, Bool.or_true, Bool.false_or, Bool.or_false, Bool.not_true, Bool.not_false, decide_true, decide_false, Option.isSome, not_true_eq_false, not_false_eq_true, if_true, if_false, reduceCtorEq, ↓reduceIte]; done) | (simp only [mOwn, mB1, mHit]; simp only [h1, if_pos h9, if_neg (not_not_intro h9), decide_eq_true h9, if_pos h10, if_neg (not_not_intro h10), decide_eq_true h10, h11, Bool.true_and, Bool.false_and, Bool.and_true, Bool.and_false, Bool.true_or, Bool.or_true, Bool.false_or, Bool.or_false, Bool.not_true, Bool.not_false, decide_true, decide_false, Option.isSome, not_true_eq_false, not_false_eq_true, if_true, if_false, reduceCtorEq, ↓reduceIte]; rfl) | (simp only [h1, if_pos h9, if_neg (not_not_intro h9), decide_eq_true h9, if_pos h10, if_neg (not_not_intro h10), decide_eq_true h10, h11, Bool.true_and, Bool.false_and, Bool.and_true, Bool.and_false, Bool.true_or, Bool.or_true, Bool.false_or, Bool.or_false, Bool.not_true, Bool.not_false, decide_true, decide_false, Option.isSome, not_true_eq_false, not_false_eq_true, if_true, if_false, reduceCtorEq, ↓reduceIte]; rfl) | (simp_all [mOwn, mB1, mHit]; done))))
  refine lv_aload_n hx hb dX2_delivered_0 rfl (lv_at hl 0 rfl) ?_
  refine lv_iload_n hx hb dX2_delivered_1 rfl (lv_at hl 1 rfl) ?_
  refine lv_iconst (v := nI 0) hx hb dX2_delivered_2 (by decide) ?_
  refine xr_call (st1 := [.int (bI (B 4 (7 * c + 0)))]) (W.runV (As := [.int (nI c), .int (nI 0)]) (rest := []) ⟨hx, hb, hml, hown, hts⟩ (c2_is l dC dI hm a cA B N c 0 (by omega)) (cwV 2 hts (gd_V wa_c k_ml_X2_45 k_im_X2_is k_se_X2_is k_in_X2 k_co_X2_is) rfl rfl rfl (by decide +kernel) ⟨Nat.le_of_ble_eq_true rfl, Nat.le_of_ble_eq_true rfl⟩) (xr_preV (q0 := 0) (C := RX2) hK hP xz_Z.nil rfl rfl) rfl rfl hl.1 rfl (lv_room (Nat.le_of_ble_eq_true rfl)) dX2_delivered_3 ⟨Nat.zero_le _, Nat.zero_le _⟩) rfl ?_
  refine xj_meet (pcJ := 14) (stJ := fun y => .int y :: []) (bI (!(B 4 (7 * c + 0)))) ?_ (fun J14 => ?_)
  · refine lv_istore_n (lv' := [(2, .int (bI (!(B 4 (7 * c + 0))))), (0, .ref hm), (1, .int (nI c))]) hx hb dX2_delivered_14 rfl hl (by decide) rfl (fun ls hl => ?_)
    refine lv_iconst (v := nI 0) hx hb dX2_delivered_15 (by decide) ?_
    refine lv_istore_n (lv' := [(3, .int (nI 0)), (2, .int (bI (!(B 4 (7 * c + 0))))), (0, .ref hm), (1, .int (nI c))]) hx hb dX2_delivered_16 rfl hl (by decide) rfl (fun ls hl => ?_)
    exact loop 8 0 _ rfl rfl ls hl
  · refine xb_if_ne (b := B 4 (7 * c + 0)) (tgt := 13) hx hb dX2_delivered_6 (by decide) (fun h12 => ?_) (fun h12 => ?_)
    · refine lv_iconst (v := nI 0) hx hb dX2_delivered_13 (by decide) ?_
      exact J14 (bI false) (congrArg bI (show false = (!(B 4 (7 * c + 0))) from (by first | rfl | (simp only [h12, Bool.true_and, Bool.false_and, Bool.and_true, Bool.and_false, Bool.true_or, Bool.or_true, Bool.false_or, Bool.or_false, Bool.not_true, Bool.not_false, decide_true, decide_false, Option.isSome, not_true_eq_false, not_false_eq_true, if_true, if_false, reduceCtorEq, ↓reduceIte]; done) | (simp only [mOwn, h12, Bool.true_and, Bool.false_and, Bool.and_true, Bool.and_false, Bool.true_or, Bool.or_true, Bool.false_or, Bool.or_false, Bool.not_true, Bool.not_false, decide_true, decide_false, Option.isSome, not_true_eq_false, not_false_eq_true, if_true, if_false, reduceCtorEq, ↓reduceIte]; done) | (simp only [mB1, h12, Bool.true_and, Bool.false_and, Bool.and_true, Bool.and_false, Bool.true_or, Bool.or_true, Bool.false_or, Bool.or_false, Bool.not_true, Bool.not_false, decide_true, decide_false, Option.isSome, not_true_eq_false, not_false_eq_true, if_true, if_false, reduceCtorEq, ↓reduceIte]; done) | (simp only [mHit, h12, Bool.true_and, Bool.false_and, Bool.and_true, Bool.and_false, Bool.true_or, Bool.or_true, Bool.false_or, Bool.or_false, Bool.not_true, Bool.not_false, decide_true, decide_false, Option.isSome, not_true_eq_false, not_false_eq_true, if_true, if_false, reduceCtorEq, ↓reduceIte]; done) | (simp only [mOwn, mB1, mHit, h12, Bool.true_and, Bool.false_and, Bool.and_true, Bool.and_false, Bool.true_or, Bool.or_true, Bool.false_or, Bool.or_false, Bool.not_true, Bool.not_false, decide_true, decide_false, Option.isSome, not_true_eq_false, not_false_eq_true, if_true, if_false, reduceCtorEq, ↓reduceIte]; done) | (simp only [mOwn]; simp only [h12, Bool.true_and, Bool.false_and, Bool.and_true, Bool.and_false, Bool.true_or, Bool.or_true, Bool.false_or, Bool.or_false, Bool.not_true, Bool.not_false, decide_true, decide_false, Option.isSome, not_true_eq_false, not_false_eq_true, if_true, if_false, reduceCtorEq, ↓reduceIte]; done) | (simp only [mB1]; simp only [h12, Bool.true_and, Bool.false_and, Bool.and_true, Bool.and_false, Bool.true_or, Bool.or_true, Bool.false_or, Bool.or_false, Bool.not_true, Bool.not_false, decide_true, decide_false, Option.isSome, not_true_eq_false, not_false_eq_true, if_true, if_false, reduceCtorEq, ↓reduceIte]; done) | (simp only [mHit]; simp only [h12, Bool.true_and, Bool.false_and, Bool.and_true, Bool.and_false, Bool.true_or, Bool.or_true, Bool.false_or, Bool.or_false, Bool.not_true, Bool.not_false, decide_true, decide_false, Option.isSome, not_true_eq_false, not_false_eq_true, if_true, if_false, reduceCtorEq, ↓reduceIte]; done) | (simp only [mOwn, mB1, mHit]; simp only [h12, Bool.true_and, Bool.false_and, Bool.and_true, Bool.and_false, Bool.true_or, Bool.or_true, Bool.false_or, Bool.or_false, Bool.not_true, Bool.not_false, decide_true, decide_false, Option.isSome, not_true_eq_false, not_false_eq_true, if_true, if_false, reduceCtorEq, ↓reduceIte]; done) | (simp only [mOwn, mB1, mHit]; simp only [h12, Bool.true_and, Bool.false_and, Bool.and_true, Bool.and_false, Bool.true_or, Bool.or_true, Bool.false_or, Bool.or_false, Bool.not_true, Bool.not_false, decide_true, decide_false, Option.isSome, not_true_eq_false, not_false_eq_true, if_true, if_false, reduceCtorEq, ↓reduceIte]; rfl) | (simp only [h12, Bool.true_and, Bool.false_and, Bool.and_true, Bool.and_false, Bool.true_or, Bool.or_true, Bool.false_or, Bool.or_false, Bool.not_true, Bool.not_false, decide_true, decide_false, Option.isSome, not_true_eq_false, not_false_eq_true, if_true, if_false, reduceCtorEq, ↓reduceIte]; rfl) | (simp_all [mOwn, mB1, mHit]; done))))
    · refine lv_iconst (v := nI 1) hx hb dX2_delivered_9 (by decide) ?_
      refine lv_goto (tgt := 14) hx hb dX2_delivered_10 (by decide) ?_
      exact J14 (bI true) (congrArg bI (show true = (!(B 4 (7 * c + 0))) from (by first | rfl | (simp only [h12, Bool.true_and, Bool.false_and, Bool.and_true, Bool.and_false, Bool.true_or, Bool.or_true, Bool.false_or, Bool.or_false, Bool.not_true, Bool.not_false, decide_true, decide_false, Option.isSome, not_true_eq_false, not_false_eq_true, if_true, if_false, reduceCtorEq, ↓reduceIte]; done) | (simp only [mOwn, h12, Bool.true_and, Bool.false_and, Bool.and_true, Bool.and_false, Bool.true_or, Bool.or_true, Bool.false_or, Bool.or_false, Bool.not_true, Bool.not_false, decide_true, decide_false, Option.isSome, not_true_eq_false, not_false_eq_true, if_true, if_false, reduceCtorEq, ↓reduceIte]; done) | (simp only [mB1, h12, Bool.true_and, Bool.false_and, Bool.and_true, Bool.and_false, Bool.true_or, Bool.or_true, Bool.false_or, Bool.or_false, Bool.not_true, Bool.not_false, decide_true, decide_false, Option.isSome, not_true_eq_false, not_false_eq_true, if_true, if_false, reduceCtorEq, ↓reduceIte]; done) | (simp only [mHit, h12, Bool.true_and, Bool.false_and, Bool.and_true, Bool.and_false, Bool.true_or, Bool.or_true, Bool.false_or, Bool.or_false, Bool.not_true, Bool.not_false, decide_true, decide_false, Option.isSome, not_true_eq_false, not_false_eq_true, if_true, if_false, reduceCtorEq, ↓reduceIte]; done) | (simp only [mOwn, mB1, mHit, h12, Bool.true_and, Bool.false_and, Bool.and_true, Bool.and_false, Bool.true_or, Bool.or_true, Bool.false_or, Bool.or_false, Bool.not_true, Bool.not_false, decide_true, decide_false, Option.isSome, not_true_eq_false, not_false_eq_true, if_true, if_false, reduceCtorEq, ↓reduceIte]; done) | (simp only [mOwn]; simp only [h12, Bool.true_and, Bool.false_and, Bool.and_true, Bool.and_false, Bool.true_or, Bool.or_true, Bool.false_or, Bool.or_false, Bool.not_true, Bool.not_false, decide_true, decide_false, Option.isSome, not_true_eq_false, not_false_eq_true, if_true, if_false, reduceCtorEq, ↓reduceIte]; done) | (simp only [mB1]; simp only [h12, Bool.true_and, Bool.false_and, Bool.and_true, Bool.and_false, Bool.true_or, Bool.or_true, Bool.false_or, Bool.or_false, Bool.not_true, Bool.not_false, decide_true, decide_false, Option.isSome, not_true_eq_false, not_false_eq_true, if_true, if_false, reduceCtorEq, ↓reduceIte]; done) | (simp only [mHit]; simp only [h12, Bool.true_and, Bool.false_and, Bool.and_true, Bool.and_false, Bool.true_or, Bool.or_true, Bool.false_or, Bool.or_false, Bool.not_true, Bool.not_false, decide_true, decide_false, Option.isSome, not_true_eq_false, not_false_eq_true, if_true, if_false, reduceCtorEq, ↓reduceIte]; done) | (simp only [mOwn, mB1, mHit]; simp only [h12, Bool.true_and, Bool.false_and, Bool.and_true, Bool.and_false, Bool.true_or, Bool.or_true, Bool.false_or, Bool.or_false, Bool.not_true, Bool.not_false, decide_true, decide_false, Option.isSome, not_true_eq_false, not_false_eq_true, if_true, if_false, reduceCtorEq, ↓reduceIte]; done) | (simp only [mOwn, mB1, mHit]; simp only [h12, Bool.true_and, Bool.false_and, Bool.and_true, Bool.and_false, Bool.true_or, Bool.or_true, Bool.false_or, Bool.or_false, Bool.not_true, Bool.not_false, decide_true, decide_false, Option.isSome, not_true_eq_false, not_false_eq_true, if_true, if_false, reduceCtorEq, ↓reduceIte]; rfl) | (simp only [h12, Bool.true_and, Bool.false_and, Bool.and_true, Bool.and_false, Bool.true_or, Bool.or_true, Bool.false_or, Bool.or_false, Bool.not_true, Bool.not_false, decide_true, decide_false, Option.isSome, not_true_eq_false, not_false_eq_true, if_true, if_false, reduceCtorEq, ↓reduceIte]; rfl) | (simp_all [mOwn, mB1, mHit]; done))))
end
