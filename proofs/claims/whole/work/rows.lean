section
-- ===== PART A: goes FIRST, ahead of the names: the tables' words, and 'selects' of the private methods out of them =====
/-- a private method of a class that the tables say can be made, by its rows of tables_1 -/
def lw_okq (q : MethodName × Nat) : Prop := (q.1.cls ≠ "java/lang/invoke/MethodHandle" ∧ q.1.cls ≠ "java/lang/invoke/VarHandle") ∧ Cond.instantiable q.1.cls q.2 ∈ tables_1 ∧ Cond.privateMethod q.1 ∈ tables_1 ∧ Cond.instanceMethod q.1 ∈ tables_1
theorem lw_p0 : lw_okq (⟨"SwallowedInTurn$Page", "take", "(I)Z"⟩, 7) := ⟨⟨by decide +kernel, by decide +kernel⟩, List.mem_of_getElem? (i := 92) (by decide +kernel), List.mem_of_getElem? (i := 198) (by decide +kernel), List.mem_of_getElem? (i := 199) (by decide +kernel)⟩
theorem lw_p1 : lw_okq (⟨"SwallowedInTurn$Page", "takeFigure", "(I)Z"⟩, 7) := ⟨⟨by decide +kernel, by decide +kernel⟩, List.mem_of_getElem? (i := 92) (by decide +kernel), List.mem_of_getElem? (i := 202) (by decide +kernel), List.mem_of_getElem? (i := 203) (by decide +kernel)⟩
theorem lw_p2 : lw_okq (⟨"SwallowedInTurn$Page", "takeSign", "(I)Z"⟩, 7) := ⟨⟨by decide +kernel, by decide +kernel⟩, List.mem_of_getElem? (i := 92) (by decide +kernel), List.mem_of_getElem? (i := 206) (by decide +kernel), List.mem_of_getElem? (i := 207) (by decide +kernel)⟩
theorem lw_p3 : lw_okq (⟨"SwallowedInTurn$Nesting", "canSwallow", "(II)Z"⟩, 2) := ⟨⟨by decide +kernel, by decide +kernel⟩, List.mem_of_getElem? (i := 33) (by decide +kernel), List.mem_of_getElem? (i := 258) (by decide +kernel), List.mem_of_getElem? (i := 259) (by decide +kernel)⟩
theorem lw_p4 : lw_okq (⟨"SwallowedInTurn$Nesting", "comingOut", "(I)I"⟩, 2) := ⟨⟨by decide +kernel, by decide +kernel⟩, List.mem_of_getElem? (i := 33) (by decide +kernel), List.mem_of_getElem? (i := 281) (by decide +kernel), List.mem_of_getElem? (i := 282) (by decide +kernel)⟩
theorem lw_p5 : lw_okq (⟨"SwallowedInTurn$Nesting", "canTake", "(II)Z"⟩, 2) := ⟨⟨by decide +kernel, by decide +kernel⟩, List.mem_of_getElem? (i := 33) (by decide +kernel), List.mem_of_getElem? (i := 285) (by decide +kernel), List.mem_of_getElem? (i := 286) (by decide +kernel)⟩
theorem lw_p6 : lw_okq (⟨"SwallowedInTurn$Nesting", "put", "(II)V"⟩, 2) := ⟨⟨by decide +kernel, by decide +kernel⟩, List.mem_of_getElem? (i := 33) (by decide +kernel), List.mem_of_getElem? (i := 293) (by decide +kernel), List.mem_of_getElem? (i := 294) (by decide +kernel)⟩
theorem lw_p7 : lw_okq (⟨"SwallowedInTurn$Nesting", "hears", "(II)Z"⟩, 2) := ⟨⟨by decide +kernel, by decide +kernel⟩, List.mem_of_getElem? (i := 33) (by decide +kernel), List.mem_of_getElem? (i := 324) (by decide +kernel), List.mem_of_getElem? (i := 325) (by decide +kernel)⟩
theorem lw_p8 : lw_okq (⟨"SwallowedInTurn$Outlook", "reach", "(III)V"⟩, 11) := ⟨⟨by decide +kernel, by decide +kernel⟩, List.mem_of_getElem? (i := 49) (by decide +kernel), List.mem_of_getElem? (i := 368) (by decide +kernel), List.mem_of_getElem? (i := 369) (by decide +kernel)⟩
theorem lw_p9 : lw_okq (⟨"SwallowedInTurn$Outlook", "spread", "(I)V"⟩, 11) := ⟨⟨by decide +kernel, by decide +kernel⟩, List.mem_of_getElem? (i := 49) (by decide +kernel), List.mem_of_getElem? (i := 372) (by decide +kernel), List.mem_of_getElem? (i := 373) (by decide +kernel)⟩
theorem lw_p10 : lw_okq (⟨"SwallowedInTurn$Outlook", "reachedAt", "(I)I"⟩, 11) := ⟨⟨by decide +kernel, by decide +kernel⟩, List.mem_of_getElem? (i := 49) (by decide +kernel), List.mem_of_getElem? (i := 376) (by decide +kernel), List.mem_of_getElem? (i := 377) (by decide +kernel)⟩
theorem lw_p11 : lw_okq (⟨"SwallowedInTurn$Outlook", "mostLeft", "(ILSwallowedInTurn$Talk;)I"⟩, 11) := ⟨⟨by decide +kernel, by decide +kernel⟩, List.mem_of_getElem? (i := 49) (by decide +kernel), List.mem_of_getElem? (i := 491) (by decide +kernel), List.mem_of_getElem? (i := 492) (by decide +kernel)⟩
theorem lw_p12 : lw_okq (⟨"SwallowedInTurnModel", "faultOf", "()I"⟩, 24) := ⟨⟨by decide +kernel, by decide +kernel⟩, List.mem_of_getElem? (i := 552) (by decide +kernel), List.mem_of_getElem? (i := 647) (by decide +kernel), List.mem_of_getElem? (i := 648) (by decide +kernel)⟩
theorem lw_p13 : lw_okq (⟨"SwallowedInTurnModel", "go", "(I)Z"⟩, 24) := ⟨⟨by decide +kernel, by decide +kernel⟩, List.mem_of_getElem? (i := 552) (by decide +kernel), List.mem_of_getElem? (i := 651) (by decide +kernel), List.mem_of_getElem? (i := 652) (by decide +kernel)⟩
theorem lw_p14 : lw_okq (⟨"SwallowedInTurnModel", "goDigit", "(I)Z"⟩, 24) := ⟨⟨by decide +kernel, by decide +kernel⟩, List.mem_of_getElem? (i := 552) (by decide +kernel), List.mem_of_getElem? (i := 655) (by decide +kernel), List.mem_of_getElem? (i := 656) (by decide +kernel)⟩
theorem lw_p15 : lw_okq (⟨"SwallowedInTurnModel", "isDeed", "(I)Z"⟩, 24) := ⟨⟨by decide +kernel, by decide +kernel⟩, List.mem_of_getElem? (i := 552) (by decide +kernel), List.mem_of_getElem? (i := 671) (by decide +kernel), List.mem_of_getElem? (i := 672) (by decide +kernel)⟩
def lw_privs_1 : List (MethodName × Nat) := [(⟨"SwallowedInTurn$Page", "take", "(I)Z"⟩, 7), (⟨"SwallowedInTurn$Page", "takeFigure", "(I)Z"⟩, 7), (⟨"SwallowedInTurn$Page", "takeSign", "(I)Z"⟩, 7), (⟨"SwallowedInTurn$Nesting", "canSwallow", "(II)Z"⟩, 2), (⟨"SwallowedInTurn$Nesting", "comingOut", "(I)I"⟩, 2), (⟨"SwallowedInTurn$Nesting", "canTake", "(II)Z"⟩, 2), (⟨"SwallowedInTurn$Nesting", "put", "(II)V"⟩, 2), (⟨"SwallowedInTurn$Nesting", "hears", "(II)Z"⟩, 2), (⟨"SwallowedInTurn$Outlook", "reach", "(III)V"⟩, 11), (⟨"SwallowedInTurn$Outlook", "spread", "(I)V"⟩, 11), (⟨"SwallowedInTurn$Outlook", "reachedAt", "(I)I"⟩, 11), (⟨"SwallowedInTurn$Outlook", "mostLeft", "(ILSwallowedInTurn$Talk;)I"⟩, 11), (⟨"SwallowedInTurnModel", "faultOf", "()I"⟩, 24), (⟨"SwallowedInTurnModel", "go", "(I)Z"⟩, 24), (⟨"SwallowedInTurnModel", "goDigit", "(I)Z"⟩, 24), (⟨"SwallowedInTurnModel", "isDeed", "(I)Z"⟩, 24)]
theorem lw_r1 : ∀ q ∈ lw_privs_1, lw_okq q := List.forall_mem_cons.mpr ⟨lw_p0, List.forall_mem_cons.mpr ⟨lw_p1, List.forall_mem_cons.mpr ⟨lw_p2, List.forall_mem_cons.mpr ⟨lw_p3, List.forall_mem_cons.mpr ⟨lw_p4, List.forall_mem_cons.mpr ⟨lw_p5, List.forall_mem_cons.mpr ⟨lw_p6, List.forall_mem_cons.mpr ⟨lw_p7, List.forall_mem_cons.mpr ⟨lw_p8, List.forall_mem_cons.mpr ⟨lw_p9, List.forall_mem_cons.mpr ⟨lw_p10, List.forall_mem_cons.mpr ⟨lw_p11, List.forall_mem_cons.mpr ⟨lw_p12, List.forall_mem_cons.mpr ⟨lw_p13, List.forall_mem_cons.mpr ⟨lw_p14, List.forall_mem_cons.mpr ⟨lw_p15, fun _ h => absurd h List.not_mem_nil⟩⟩⟩⟩⟩⟩⟩⟩⟩⟩⟩⟩⟩⟩⟩⟩
theorem lw_p16 : lw_okq (⟨"SwallowedInTurnModel", "isBeing", "(I)Z"⟩, 24) := ⟨⟨by decide +kernel, by decide +kernel⟩, List.mem_of_getElem? (i := 552) (by decide +kernel), List.mem_of_getElem? (i := 676) (by decide +kernel), List.mem_of_getElem? (i := 677) (by decide +kernel)⟩
theorem lw_p17 : lw_okq (⟨"SwallowedInTurnModel", "done", "(II)I"⟩, 24) := ⟨⟨by decide +kernel, by decide +kernel⟩, List.mem_of_getElem? (i := 552) (by decide +kernel), List.mem_of_getElem? (i := 684) (by decide +kernel), List.mem_of_getElem? (i := 685) (by decide +kernel)⟩
theorem lw_p18 : lw_okq (⟨"SwallowedInTurnModel", "swallowed", "(III)I"⟩, 24) := ⟨⟨by decide +kernel, by decide +kernel⟩, List.mem_of_getElem? (i := 552) (by decide +kernel), List.mem_of_getElem? (i := 688) (by decide +kernel), List.mem_of_getElem? (i := 689) (by decide +kernel)⟩
theorem lw_p19 : lw_okq (⟨"SwallowedInTurnModel", "filled", "(II)I"⟩, 24) := ⟨⟨by decide +kernel, by decide +kernel⟩, List.mem_of_getElem? (i := 552) (by decide +kernel), List.mem_of_getElem? (i := 692) (by decide +kernel), List.mem_of_getElem? (i := 693) (by decide +kernel)⟩
theorem lw_p20 : lw_okq (⟨"SwallowedInTurnModel", "comeOut", "(III)I"⟩, 24) := ⟨⟨by decide +kernel, by decide +kernel⟩, List.mem_of_getElem? (i := 552) (by decide +kernel), List.mem_of_getElem? (i := 705) (by decide +kernel), List.mem_of_getElem? (i := 706) (by decide +kernel)⟩
theorem lw_p21 : lw_okq (⟨"SwallowedInTurnModel", "tell", "(II)I"⟩, 24) := ⟨⟨by decide +kernel, by decide +kernel⟩, List.mem_of_getElem? (i := 552) (by decide +kernel), List.mem_of_getElem? (i := 713) (by decide +kernel), List.mem_of_getElem? (i := 714) (by decide +kernel)⟩
theorem lw_p22 : lw_okq (⟨"SwallowedInTurnModel", "heardBy", "(II)I"⟩, 24) := ⟨⟨by decide +kernel, by decide +kernel⟩, List.mem_of_getElem? (i := 552) (by decide +kernel), List.mem_of_getElem? (i := 720) (by decide +kernel), List.mem_of_getElem? (i := 721) (by decide +kernel)⟩
theorem lw_p23 : lw_okq (⟨"SwallowedInTurnModel", "soonestOf", "(II)I"⟩, 24) := ⟨⟨by decide +kernel, by decide +kernel⟩, List.mem_of_getElem? (i := 552) (by decide +kernel), List.mem_of_getElem? (i := 747) (by decide +kernel), List.mem_of_getElem? (i := 748) (by decide +kernel)⟩
theorem lw_p24 : lw_okq (⟨"SwallowedInTurnModel", "lay", "()V"⟩, 24) := ⟨⟨by decide +kernel, by decide +kernel⟩, List.mem_of_getElem? (i := 552) (by decide +kernel), List.mem_of_getElem? (i := 751) (by decide +kernel), List.mem_of_getElem? (i := 752) (by decide +kernel)⟩
theorem lw_p25 : lw_okq (⟨"SwallowedInTurnModel", "deepest", "(I)I"⟩, 24) := ⟨⟨by decide +kernel, by decide +kernel⟩, List.mem_of_getElem? (i := 552) (by decide +kernel), List.mem_of_getElem? (i := 766) (by decide +kernel), List.mem_of_getElem? (i := 767) (by decide +kernel)⟩
theorem lw_p26 : lw_okq (⟨"SwallowedInTurnModel", "fitMany", "()I"⟩, 24) := ⟨⟨by decide +kernel, by decide +kernel⟩, List.mem_of_getElem? (i := 552) (by decide +kernel), List.mem_of_getElem? (i := 790) (by decide +kernel), List.mem_of_getElem? (i := 791) (by decide +kernel)⟩
theorem lw_p27 : lw_okq (⟨"SwallowedInTurnModel", "isToldSo", "(I)Z"⟩, 24) := ⟨⟨by decide +kernel, by decide +kernel⟩, List.mem_of_getElem? (i := 552) (by decide +kernel), List.mem_of_getElem? (i := 794) (by decide +kernel), List.mem_of_getElem? (i := 795) (by decide +kernel)⟩
theorem lw_p28 : lw_okq (⟨"SwallowedInTurnModel", "askOf", "()I"⟩, 24) := ⟨⟨by decide +kernel, by decide +kernel⟩, List.mem_of_getElem? (i := 552) (by decide +kernel), List.mem_of_getElem? (i := 806) (by decide +kernel), List.mem_of_getElem? (i := 807) (by decide +kernel)⟩
theorem lw_p29 : lw_okq (⟨"SwallowedInTurnModel", "worstOf", "(I)I"⟩, 24) := ⟨⟨by decide +kernel, by decide +kernel⟩, List.mem_of_getElem? (i := 552) (by decide +kernel), List.mem_of_getElem? (i := 810) (by decide +kernel), List.mem_of_getElem? (i := 811) (by decide +kernel)⟩
theorem lw_p30 : lw_okq (⟨"SwallowedInTurnModel", "mayMany", "(I)I"⟩, 24) := ⟨⟨by decide +kernel, by decide +kernel⟩, List.mem_of_getElem? (i := 552) (by decide +kernel), List.mem_of_getElem? (i := 820) (by decide +kernel), List.mem_of_getElem? (i := 821) (by decide +kernel)⟩
theorem lw_p31 : lw_okq (⟨"SwallowedInTurnModel", "draw", "(I)I"⟩, 24) := ⟨⟨by decide +kernel, by decide +kernel⟩, List.mem_of_getElem? (i := 552) (by decide +kernel), List.mem_of_getElem? (i := 824) (by decide +kernel), List.mem_of_getElem? (i := 825) (by decide +kernel)⟩
def lw_privs_2 : List (MethodName × Nat) := [(⟨"SwallowedInTurnModel", "isBeing", "(I)Z"⟩, 24), (⟨"SwallowedInTurnModel", "done", "(II)I"⟩, 24), (⟨"SwallowedInTurnModel", "swallowed", "(III)I"⟩, 24), (⟨"SwallowedInTurnModel", "filled", "(II)I"⟩, 24), (⟨"SwallowedInTurnModel", "comeOut", "(III)I"⟩, 24), (⟨"SwallowedInTurnModel", "tell", "(II)I"⟩, 24), (⟨"SwallowedInTurnModel", "heardBy", "(II)I"⟩, 24), (⟨"SwallowedInTurnModel", "soonestOf", "(II)I"⟩, 24), (⟨"SwallowedInTurnModel", "lay", "()V"⟩, 24), (⟨"SwallowedInTurnModel", "deepest", "(I)I"⟩, 24), (⟨"SwallowedInTurnModel", "fitMany", "()I"⟩, 24), (⟨"SwallowedInTurnModel", "isToldSo", "(I)Z"⟩, 24), (⟨"SwallowedInTurnModel", "askOf", "()I"⟩, 24), (⟨"SwallowedInTurnModel", "worstOf", "(I)I"⟩, 24), (⟨"SwallowedInTurnModel", "mayMany", "(I)I"⟩, 24), (⟨"SwallowedInTurnModel", "draw", "(I)I"⟩, 24)]
theorem lw_r2 : ∀ q ∈ lw_privs_2, lw_okq q := List.forall_mem_cons.mpr ⟨lw_p16, List.forall_mem_cons.mpr ⟨lw_p17, List.forall_mem_cons.mpr ⟨lw_p18, List.forall_mem_cons.mpr ⟨lw_p19, List.forall_mem_cons.mpr ⟨lw_p20, List.forall_mem_cons.mpr ⟨lw_p21, List.forall_mem_cons.mpr ⟨lw_p22, List.forall_mem_cons.mpr ⟨lw_p23, List.forall_mem_cons.mpr ⟨lw_p24, List.forall_mem_cons.mpr ⟨lw_p25, List.forall_mem_cons.mpr ⟨lw_p26, List.forall_mem_cons.mpr ⟨lw_p27, List.forall_mem_cons.mpr ⟨lw_p28, List.forall_mem_cons.mpr ⟨lw_p29, List.forall_mem_cons.mpr ⟨lw_p30, List.forall_mem_cons.mpr ⟨lw_p31, fun _ h => absurd h List.not_mem_nil⟩⟩⟩⟩⟩⟩⟩⟩⟩⟩⟩⟩⟩⟩⟩⟩
theorem lw_p32 : lw_okq (⟨"SwallowedInTurnModel", "countOf", "(I)I"⟩, 24) := ⟨⟨by decide +kernel, by decide +kernel⟩, List.mem_of_getElem? (i := 552) (by decide +kernel), List.mem_of_getElem? (i := 844) (by decide +kernel), List.mem_of_getElem? (i := 845) (by decide +kernel)⟩
theorem lw_p33 : lw_okq (⟨"SwallowedInTurnModel", "say", "(J)V"⟩, 24) := ⟨⟨by decide +kernel, by decide +kernel⟩, List.mem_of_getElem? (i := 552) (by decide +kernel), List.mem_of_getElem? (i := 853) (by decide +kernel), List.mem_of_getElem? (i := 854) (by decide +kernel)⟩
def lw_privs_3 : List (MethodName × Nat) := [(⟨"SwallowedInTurnModel", "countOf", "(I)I"⟩, 24), (⟨"SwallowedInTurnModel", "say", "(J)V"⟩, 24)]
theorem lw_r3 : ∀ q ∈ lw_privs_3, lw_okq q := List.forall_mem_cons.mpr ⟨lw_p32, List.forall_mem_cons.mpr ⟨lw_p33, fun _ h => absurd h List.not_mem_nil⟩⟩
def lw_privs : List (MethodName × Nat) := lw_privs_1 ++ (lw_privs_2 ++ (lw_privs_3))
def lw_tbl : List Cond := k2_sels lw_privs ++ tables_1
theorem lw_privs_ok : ∀ q ∈ lw_privs, lw_okq q := by
  show ∀ q ∈ lw_privs_1 ++ (lw_privs_2 ++ (lw_privs_3)), lw_okq q
  exact List.forall_mem_append.mpr ⟨lw_r1, List.forall_mem_append.mpr ⟨lw_r2, lw_r3⟩⟩
end
section
/-! ===== BEGIN words of one list among another's, by their places ===== -/
theorem goodIn_r {big : List Cond} (ws : List Cond) (ps : List Nat) (hp : ws = ps.filterMap (fun i => big[i]?)) (h : ws.all goodWord = true) : GoodIn big ws := by
  intro w hw
  have h1 := List.all_eq_true.mp h w hw
  rw [hp] at hw
  obtain ⟨i, -, hi⟩ := List.mem_filterMap.mp hw
  have hm : w ∈ big := by first | exact List.mem_of_getElem? hi | exact List.getElem?_mem hi
  exact ⟨hm, good_of_word h1⟩
theorem goodIn_app {big a b : List Cond} (ha : GoodIn big a) (hb : GoodIn big b) : GoodIn big (a ++ b) := fun w h => (List.mem_append.mp h).elim (ha w) (hb w)
theorem goodIn_ca {big a b : List Cond} {c : Cond} (ha : GoodIn big (c :: a)) (hb : GoodIn big b) : GoodIn big (c :: (a ++ b)) := fun w h => (List.mem_cons.mp h).elim (fun e => ha w (List.mem_cons.mpr (Or.inl e))) (fun h => (List.mem_append.mp h).elim (fun h => ha w (List.mem_cons.mpr (Or.inr h))) (hb w))
theorem goodIn_sub {big ws : List Cond} (hm : ∀ w ∈ ws, w ∈ big) (h : ws.all goodWord = true) : GoodIn big ws := fun w hw => ⟨hm w hw, good_of_word (List.all_eq_true.mp h w hw)⟩
/-! ===== END ===== -/

/-! ===== BEGIN printed: names, fields, word lists, decode rows ===== -/
def RX0 : String := "SwallowedInTurn$Crowd"
def TX0 : u_T := fun k => match k with
  | 0 => ("SwallowedInTurn$Crowd", "traits", "[I", true)
  | _ => ("SwallowedInTurn$Crowd", "total", "I", false)
def tyX0 : Nat → FieldType := fun k => match k with
  | 0 => .array .int
  | _ => .int
abbrev wsX00 : List Cond := u_ws RX0 TX0 2
theorem nmX0 : ∀ a, a < 2 → ∀ b, b < 2 → a ≠ b → (TX0 a).2.1 ≠ (TX0 b).2.1 := by decide +kernel
theorem tyX0_ok : ∀ k, k < 2 → parseFieldDescriptor (TX0 k).2.2.1 = some (tyX0 k) := by decide +kernel
abbrev cX0_init : ByteArray := prog_2_method_1_code
def yX0_init : MethodName := ⟨RX0, "<init>", "()V"⟩
abbrev cX0_total : ByteArray := prog_2_method_2_code
def yX0_total : MethodName := ⟨RX0, "total", "()I"⟩
abbrev cX0_all : ByteArray := prog_2_method_3_code
def yX0_all : MethodName := ⟨RX0, "all", "()I"⟩
abbrev cX0_has : ByteArray := prog_2_method_4_code
def yX0_has : MethodName := ⟨RX0, "has", "(I)Z"⟩
abbrev cX0_hasAll : ByteArray := prog_2_method_5_code
def yX0_hasAll : MethodName := ⟨RX0, "hasAll", "(I)Z"⟩
abbrev cX0_knows : ByteArray := prog_2_method_6_code
def yX0_knows : MethodName := ⟨RX0, "knows", "(I)Z"⟩
abbrev cX0_join : ByteArray := prog_2_method_7_code
def yX0_join : MethodName := ⟨RX0, "join", "(IIII)I"⟩
abbrev cX0_trait : ByteArray := prog_2_method_8_code
def yX0_trait : MethodName := ⟨RX0, "trait", "(II)I"⟩
abbrev cX0_isOf : ByteArray := prog_2_method_9_code
def yX0_isOf : MethodName := ⟨RX0, "isOf", "(II)Z"⟩
def RX1 : String := "SwallowedInTurn$Nesting"
def TX1 : u_T := fun k => match k with
  | 0 => ("SwallowedInTurn$Nesting", "crowd", "LSwallowedInTurn$Crowd;", true)
  | _ => ("SwallowedInTurn$Nesting", "holders", "[I", true)
def tyX1 : Nat → FieldType := fun k => match k with
  | 0 => .object "SwallowedInTurn$Crowd"
  | _ => .array .int
abbrev wsX10 : List Cond := u_ws RX1 TX1 2
theorem nmX1 : ∀ a, a < 2 → ∀ b, b < 2 → a ≠ b → (TX1 a).2.1 ≠ (TX1 b).2.1 := by decide +kernel
theorem tyX1_ok : ∀ k, k < 2 → parseFieldDescriptor (TX1 k).2.2.1 = some (tyX1 k) := by decide +kernel
abbrev cX1_init : ByteArray := prog_3_method_1_code
def yX1_init : MethodName := ⟨RX1, "<init>", "(LSwallowedInTurn$Crowd;)V"⟩
abbrev cX1_holder : ByteArray := prog_3_method_2_code
def yX1_holder : MethodName := ⟨RX1, "holder", "(I)I"⟩
abbrev cX1_put : ByteArray := prog_3_method_3_code
def yX1_put : MethodName := ⟨RX1, "put", "(II)V"⟩
abbrev cX1_copy : ByteArray := prog_3_method_4_code
def yX1_copy : MethodName := ⟨RX1, "copy", "(LSwallowedInTurn$Nesting;)V"⟩
abbrev cX1_toNumber : ByteArray := prog_3_method_5_code
def yX1_toNumber : MethodName := ⟨RX1, "toNumber", "()I"⟩
abbrev cX1_become : ByteArray := prog_3_method_6_code
def yX1_become : MethodName := ⟨RX1, "become", "(I)V"⟩
abbrev cX1_filled : ByteArray := prog_3_method_7_code
def yX1_filled : MethodName := ⟨RX1, "filled", "(I)I"⟩
abbrev cX1_outside : ByteArray := prog_3_method_8_code
def yX1_outside : MethodName := ⟨RX1, "outside", "()I"⟩
abbrev cX1_areOutside : ByteArray := prog_3_method_9_code
def yX1_areOutside : MethodName := ⟨RX1, "areOutside", "(I)Z"⟩
abbrev cX1_walls : ByteArray := prog_3_method_10_code
def yX1_walls : MethodName := ⟨RX1, "walls", "(I)I"⟩
abbrev cX1_heardBy : ByteArray := prog_3_method_11_code
def yX1_heardBy : MethodName := ⟨RX1, "heardBy", "(I)I"⟩
abbrev cX1_hears : ByteArray := prog_3_method_12_code
def yX1_hears : MethodName := ⟨RX1, "hears", "(II)Z"⟩
abbrev cX1_allows : ByteArray := prog_3_method_13_code
def yX1_allows : MethodName := ⟨RX1, "allows", "(I)Z"⟩
abbrev cX1_carryOut : ByteArray := prog_3_method_14_code
def yX1_carryOut : MethodName := ⟨RX1, "carryOut", "(I)V"⟩
abbrev cX1_canSwallow : ByteArray := prog_3_method_15_code
def yX1_canSwallow : MethodName := ⟨RX1, "canSwallow", "(II)Z"⟩
abbrev cX1_comingOut : ByteArray := prog_3_method_16_code
def yX1_comingOut : MethodName := ⟨RX1, "comingOut", "(I)I"⟩
abbrev cX1_canTake : ByteArray := prog_3_method_17_code
def yX1_canTake : MethodName := ⟨RX1, "canTake", "(II)Z"⟩
abbrev cX1_choices : ByteArray := prog_3_method_18_code
def yX1_choices : MethodName := ⟨RX1, "choices", "()I"⟩
abbrev cX1_choiceAt : ByteArray := prog_3_method_19_code
def yX1_choiceAt : MethodName := ⟨RX1, "choiceAt", "(I)I"⟩
def RX2 : String := "SwallowedInTurn$Outlook"
def TX2 : u_T := fun k => match k with
  | 0 => ("SwallowedInTurn$Outlook", "crowd", "LSwallowedInTurn$Crowd;", true)
  | 1 => ("SwallowedInTurn$Outlook", "here", "LSwallowedInTurn$Nesting;", true)
  | 2 => ("SwallowedInTurn$Outlook", "next", "LSwallowedInTurn$Nesting;", true)
  | 3 => ("SwallowedInTurn$Outlook", "reached", "[I", true)
  | 4 => ("SwallowedInTurn$Outlook", "steps", "[I", true)
  | 5 => ("SwallowedInTurn$Outlook", "firsts", "[I", true)
  | 6 => ("SwallowedInTurn$Outlook", "total", "I", false)
  | 7 => ("SwallowedInTurn$Outlook", "isReached", "[Z", true)
  | 8 => ("SwallowedInTurn$Outlook", "answers", "[I", true)
  | 9 => ("SwallowedInTurn$Outlook", "startNumber", "I", false)
  | _ => ("SwallowedInTurn$Outlook", "startTotal", "I", false)
def tyX2 : Nat → FieldType := fun k => match k with
  | 0 => .object "SwallowedInTurn$Crowd"
  | 1 => .object "SwallowedInTurn$Nesting"
  | 2 => .object "SwallowedInTurn$Nesting"
  | 3 => .array .int
  | 4 => .array .int
  | 5 => .array .int
  | 6 => .int
  | 7 => .array .boolean
  | 8 => .array .int
  | 9 => .int
  | _ => .int
abbrev wsX20 : List Cond := u_ws RX2 TX2 11
theorem nmX2 : ∀ a, a < 11 → ∀ b, b < 11 → a ≠ b → (TX2 a).2.1 ≠ (TX2 b).2.1 := by decide +kernel
theorem tyX2_ok : ∀ k, k < 11 → parseFieldDescriptor (TX2 k).2.2.1 = some (tyX2 k) := by decide +kernel
abbrev cX2_init : ByteArray := prog_4_method_1_code
def yX2_init : MethodName := ⟨RX2, "<init>", "(LSwallowedInTurn$Crowd;)V"⟩
abbrev cX2_lookFrom : ByteArray := prog_4_method_2_code
def yX2_lookFrom : MethodName := ⟨RX2, "lookFrom", "(LSwallowedInTurn$Nesting;)V"⟩
abbrev cX2_spread : ByteArray := prog_4_method_3_code
def yX2_spread : MethodName := ⟨RX2, "spread", "(I)V"⟩
abbrev cX2_reach : ByteArray := prog_4_method_4_code
def yX2_reach : MethodName := ⟨RX2, "reach", "(III)V"⟩
abbrev cX2_reachedAt : ByteArray := prog_4_method_5_code
def yX2_reachedAt : MethodName := ⟨RX2, "reachedAt", "(I)I"⟩
abbrev cX2_stepsAt : ByteArray := prog_4_method_6_code
def yX2_stepsAt : MethodName := ⟨RX2, "stepsAt", "(I)I"⟩
abbrev cX2_firstAt : ByteArray := prog_4_method_7_code
def yX2_firstAt : MethodName := ⟨RX2, "firstAt", "(I)I"⟩
abbrev cX2_total : ByteArray := prog_4_method_8_code
def yX2_total : MethodName := ⟨RX2, "total", "()I"⟩
abbrev cX2_numberAt : ByteArray := prog_4_method_9_code
def yX2_numberAt : MethodName := ⟨RX2, "numberAt", "(I)I"⟩
abbrev cX2_placeWhereOut : ByteArray := prog_4_method_10_code
def yX2_placeWhereOut : MethodName := ⟨RX2, "placeWhereOut", "(I)I"⟩
abbrev cX2_placeWhereTogether : ByteArray := prog_4_method_11_code
def yX2_placeWhereTogether : MethodName := ⟨RX2, "placeWhereTogether", "(II)I"⟩
abbrev cX2_mostWalls : ByteArray := prog_4_method_12_code
def yX2_mostWalls : MethodName := ⟨RX2, "mostWalls", "(I)I"⟩
abbrev cX2_fitting : ByteArray := prog_4_method_13_code
def yX2_fitting : MethodName := ⟨RX2, "fitting", "(LSwallowedInTurn$Talk;)I"⟩
abbrev cX2_sureHolder : ByteArray := prog_4_method_14_code
def yX2_sureHolder : MethodName := ⟨RX2, "sureHolder", "(ILSwallowedInTurn$Talk;)I"⟩
abbrev cX2_bestAsked : ByteArray := prog_4_method_15_code
def yX2_bestAsked : MethodName := ⟨RX2, "bestAsked", "(LSwallowedInTurn$Talk;)I"⟩
abbrev cX2_mostLeft : ByteArray := prog_4_method_16_code
def yX2_mostLeft : MethodName := ⟨RX2, "mostLeft", "(ILSwallowedInTurn$Talk;)I"⟩
def RX3 : String := "SwallowedInTurn$Page"
def TX3 : u_T := fun k => match k with
  | 0 => ("SwallowedInTurn$Page", "letters", "[I", true)
  | 1 => ("SwallowedInTurn$Page", "length", "I", false)
  | 2 => ("SwallowedInTurn$Page", "deeds", "[I", true)
  | 3 => ("SwallowedInTurn$Page", "read", "I", false)
  | 4 => ("SwallowedInTurn$Page", "begun", "I", false)
  | 5 => ("SwallowedInTurn$Page", "figuresDue", "I", false)
  | _ => ("SwallowedInTurn$Page", "whole", "Z", false)
def tyX3 : Nat → FieldType := fun k => match k with
  | 0 => .array .int
  | 1 => .int
  | 2 => .array .int
  | 3 => .int
  | 4 => .int
  | 5 => .int
  | _ => .boolean
abbrev wsX30 : List Cond := u_ws RX3 TX3 7
theorem nmX3 : ∀ a, a < 7 → ∀ b, b < 7 → a ≠ b → (TX3 a).2.1 ≠ (TX3 b).2.1 := by decide +kernel
theorem tyX3_ok : ∀ k, k < 7 → parseFieldDescriptor (TX3 k).2.2.1 = some (tyX3 k) := by decide +kernel
abbrev cX3_init : ByteArray := prog_5_method_1_code
def yX3_init : MethodName := ⟨RX3, "<init>", "()V"⟩
abbrev cX3_length : ByteArray := prog_5_method_2_code
def yX3_length : MethodName := ⟨RX3, "length", "()I"⟩
abbrev cX3_letterAt : ByteArray := prog_5_method_3_code
def yX3_letterAt : MethodName := ⟨RX3, "letterAt", "(I)I"⟩
abbrev cX3_write : ByteArray := prog_5_method_4_code
def yX3_write : MethodName := ⟨RX3, "write", "(I)Z"⟩
abbrev cX3_clear : ByteArray := prog_5_method_5_code
def yX3_clear : MethodName := ⟨RX3, "clear", "()I"⟩
abbrev cX3_deeds : ByteArray := prog_5_method_6_code
def yX3_deeds : MethodName := ⟨RX3, "deeds", "()I"⟩
abbrev cX3_deedAt : ByteArray := prog_5_method_7_code
def yX3_deedAt : MethodName := ⟨RX3, "deedAt", "(I)I"⟩
abbrev cX3_isWhole : ByteArray := prog_5_method_8_code
def yX3_isWhole : MethodName := ⟨RX3, "isWhole", "()Z"⟩
abbrev cX3_read : ByteArray := prog_5_method_9_code
def yX3_read : MethodName := ⟨RX3, "read", "()I"⟩
abbrev cX3_take : ByteArray := prog_5_method_10_code
def yX3_take : MethodName := ⟨RX3, "take", "(I)Z"⟩
abbrev cX3_takeSign : ByteArray := prog_5_method_11_code
def yX3_takeSign : MethodName := ⟨RX3, "takeSign", "(I)Z"⟩
abbrev cX3_takeFigure : ByteArray := prog_5_method_12_code
def yX3_takeFigure : MethodName := ⟨RX3, "takeFigure", "(I)Z"⟩
def RX4 : String := "SwallowedInTurn$Talk"
def TX4 : u_T := fun k => match k with
  | 0 => ("SwallowedInTurn$Talk", "tellers", "[I", true)
  | 1 => ("SwallowedInTurn$Talk", "heard", "[I", true)
  | _ => ("SwallowedInTurn$Talk", "length", "I", false)
def tyX4 : Nat → FieldType := fun k => match k with
  | 0 => .array .int
  | 1 => .array .int
  | _ => .int
abbrev wsX40 : List Cond := u_ws RX4 TX4 3
theorem nmX4 : ∀ a, a < 3 → ∀ b, b < 3 → a ≠ b → (TX4 a).2.1 ≠ (TX4 b).2.1 := by decide +kernel
theorem tyX4_ok : ∀ k, k < 3 → parseFieldDescriptor (TX4 k).2.2.1 = some (tyX4 k) := by decide +kernel
abbrev cX4_init : ByteArray := prog_6_method_1_code
def yX4_init : MethodName := ⟨RX4, "<init>", "()V"⟩
abbrev cX4_length : ByteArray := prog_6_method_2_code
def yX4_length : MethodName := ⟨RX4, "length", "()I"⟩
abbrev cX4_keep : ByteArray := prog_6_method_3_code
def yX4_keep : MethodName := ⟨RX4, "keep", "(II)Z"⟩
abbrev cX4_clear : ByteArray := prog_6_method_4_code
def yX4_clear : MethodName := ⟨RX4, "clear", "()I"⟩
abbrev cX4_copy : ByteArray := prog_6_method_5_code
def yX4_copy : MethodName := ⟨RX4, "copy", "(LSwallowedInTurn$Talk;)V"⟩
abbrev cX4_isSoIn : ByteArray := prog_6_method_6_code
def yX4_isSoIn : MethodName := ⟨RX4, "isSoIn", "(LSwallowedInTurn$Nesting;)Z"⟩
def RX5 : String := "SwallowedInTurn"
def TX5 : u_T := fun k => match k with
  | 0 => ("SwallowedInTurn", "crowd", "LSwallowedInTurn$Crowd;", true)
  | 1 => ("SwallowedInTurn", "now", "LSwallowedInTurn$Nesting;", true)
  | 2 => ("SwallowedInTurn", "trial", "LSwallowedInTurn$Nesting;", true)
  | 3 => ("SwallowedInTurn", "outlook", "LSwallowedInTurn$Outlook;", true)
  | 4 => ("SwallowedInTurn", "page", "LSwallowedInTurn$Page;", true)
  | 5 => ("SwallowedInTurn", "talk", "LSwallowedInTurn$Talk;", true)
  | 6 => ("SwallowedInTurn", "done", "I", false)
  | 7 => ("SwallowedInTurn", "keptTalk", "LSwallowedInTurn$Talk;", true)
  | 8 => ("SwallowedInTurn", "keptNumber", "I", false)
  | 9 => ("SwallowedInTurn", "keptDone", "I", false)
  | _ => ("SwallowedInTurn", "keptTotal", "I", false)
def tyX5 : Nat → FieldType := fun k => match k with
  | 0 => .object "SwallowedInTurn$Crowd"
  | 1 => .object "SwallowedInTurn$Nesting"
  | 2 => .object "SwallowedInTurn$Nesting"
  | 3 => .object "SwallowedInTurn$Outlook"
  | 4 => .object "SwallowedInTurn$Page"
  | 5 => .object "SwallowedInTurn$Talk"
  | 6 => .int
  | 7 => .object "SwallowedInTurn$Talk"
  | 8 => .int
  | 9 => .int
  | _ => .int
abbrev wsX50 : List Cond := u_ws RX5 TX5 11
theorem nmX5 : ∀ a, a < 11 → ∀ b, b < 11 → a ≠ b → (TX5 a).2.1 ≠ (TX5 b).2.1 := by decide +kernel
theorem tyX5_ok : ∀ k, k < 11 → parseFieldDescriptor (TX5 k).2.2.1 = some (tyX5 k) := by decide +kernel
abbrev cX5_init : ByteArray := prog_1_method_1_code
def yX5_init : MethodName := ⟨RX5, "<init>", "()V"⟩
abbrev cX5_letter : ByteArray := prog_1_method_2_code
def yX5_letter : MethodName := ⟨RX5, "letter", "(I)I"⟩
abbrev cX5_blank : ByteArray := prog_1_method_3_code
def yX5_blank : MethodName := ⟨RX5, "blank", "()I"⟩
abbrev cX5_fault : ByteArray := prog_1_method_4_code
def yX5_fault : MethodName := ⟨RX5, "fault", "()I"⟩
abbrev cX5_tale : ByteArray := prog_1_method_5_code
def yX5_tale : MethodName := ⟨RX5, "tale", "()I"⟩
abbrev cX5_being : ByteArray := prog_1_method_6_code
def yX5_being : MethodName := ⟨RX5, "being", "(IIII)I"⟩
abbrev cX5_about : ByteArray := prog_1_method_7_code
def yX5_about : MethodName := ⟨RX5, "about", "(II)I"⟩
abbrev cX5_as : ByteArray := prog_1_method_8_code
def yX5_as : MethodName := ⟨RX5, "as", "(II)I"⟩
abbrev cX5_may : ByteArray := prog_1_method_9_code
def yX5_may : MethodName := ⟨RX5, "may", "(I)I"⟩
abbrev cX5_deed : ByteArray := prog_1_method_10_code
def yX5_deed : MethodName := ⟨RX5, "deed", "(I)I"⟩
abbrev cX5_number : ByteArray := prog_1_method_11_code
def yX5_number : MethodName := ⟨RX5, "number", "()I"⟩
abbrev cX5_soonest : ByteArray := prog_1_method_12_code
def yX5_soonest : MethodName := ⟨RX5, "soonest", "(II)I"⟩
abbrev cX5_together : ByteArray := prog_1_method_13_code
def yX5_together : MethodName := ⟨RX5, "together", "(II)I"⟩
abbrev cX5_deep : ByteArray := prog_1_method_14_code
def yX5_deep : MethodName := ⟨RX5, "deep", "(I)I"⟩
abbrev cX5_many : ByteArray := prog_1_method_15_code
def yX5_many : MethodName := ⟨RX5, "many", "()I"⟩
abbrev cX5_nesting : ByteArray := prog_1_method_16_code
def yX5_nesting : MethodName := ⟨RX5, "nesting", "(I)I"⟩
abbrev cX5_told : ByteArray := prog_1_method_17_code
def yX5_told : MethodName := ⟨RX5, "told", "(II)I"⟩
abbrev cX5_forget : ByteArray := prog_1_method_18_code
def yX5_forget : MethodName := ⟨RX5, "forget", "()I"⟩
abbrev cX5_fits : ByteArray := prog_1_method_19_code
def yX5_fits : MethodName := ⟨RX5, "fits", "()I"⟩
abbrev cX5_sure : ByteArray := prog_1_method_20_code
def yX5_sure : MethodName := ⟨RX5, "sure", "(I)I"⟩
abbrev cX5_ask : ByteArray := prog_1_method_21_code
def yX5_ask : MethodName := ⟨RX5, "ask", "()I"⟩
abbrev cX5_days : ByteArray := prog_1_method_22_code
def yX5_days : MethodName := ⟨RX5, "days", "(III)I"⟩
abbrev cX5_image : ByteArray := prog_1_method_23_code
def yX5_image : MethodName := ⟨RX5, "image", "()I"⟩
abbrev cX5_restore : ByteArray := prog_1_method_24_code
def yX5_restore : MethodName := ⟨RX5, "restore", "()I"⟩
abbrev cX5_count : ByteArray := prog_1_method_25_code
def yX5_count : MethodName := ⟨RX5, "count", "(I)I"⟩
abbrev cX5_digest : ByteArray := prog_1_method_26_code
def yX5_digest : MethodName := ⟨RX5, "digest", "()J"⟩
abbrev cX5_isBetween : ByteArray := prog_1_method_27_code
def yX5_isBetween : MethodName := ⟨RX5, "isBetween", "(III)Z"⟩
abbrev cX5_nextSeed : ByteArray := prog_1_method_28_code
def yX5_nextSeed : MethodName := ⟨RX5, "nextSeed", "(I)I"⟩
abbrev cX5_isDeed : ByteArray := prog_1_method_29_code
def yX5_isDeed : MethodName := ⟨RX5, "isDeed", "(I)Z"⟩
abbrev cX5_doer : ByteArray := prog_1_method_30_code
def yX5_doer : MethodName := ⟨RX5, "doer", "(I)I"⟩
abbrev cX5_prey : ByteArray := prog_1_method_31_code
def yX5_prey : MethodName := ⟨RX5, "prey", "(I)I"⟩
def RX6 : String := "SwallowedInTurnModel"
def TX6 : u_T := fun k => match k with
  | 0 => ("SwallowedInTurnModel", "page", "[I", true)
  | 1 => ("SwallowedInTurnModel", "pageMany", "I", false)
  | 2 => ("SwallowedInTurnModel", "readDeeds", "[I", true)
  | 3 => ("SwallowedInTurnModel", "readMany", "I", false)
  | 4 => ("SwallowedInTurnModel", "readBase", "I", false)
  | 5 => ("SwallowedInTurnModel", "state", "I", false)
  | 6 => ("SwallowedInTurnModel", "beings", "I", false)
  | 7 => ("SwallowedInTurnModel", "number", "I", false)
  | 8 => ("SwallowedInTurnModel", "deedsDone", "I", false)
  | 9 => ("SwallowedInTurnModel", "rows", "[I", true)
  | 10 => ("SwallowedInTurnModel", "far", "[I", true)
  | 11 => ("SwallowedInTurnModel", "firsts", "[I", true)
  | 12 => ("SwallowedInTurnModel", "line", "[I", true)
  | 13 => ("SwallowedInTurnModel", "lined", "I", false)
  | 14 => ("SwallowedInTurnModel", "toldMany", "I", false)
  | 15 => ("SwallowedInTurnModel", "toldRows", "[I", true)
  | 16 => ("SwallowedInTurnModel", "parts", "[I", true)
  | 17 => ("SwallowedInTurnModel", "seedNow", "I", false)
  | 18 => ("SwallowedInTurnModel", "keptNumber", "I", false)
  | 19 => ("SwallowedInTurnModel", "keptBeings", "I", false)
  | 20 => ("SwallowedInTurnModel", "keptDeeds", "I", false)
  | 21 => ("SwallowedInTurnModel", "keptTold", "I", false)
  | 22 => ("SwallowedInTurnModel", "keptToldRows", "[I", true)
  | _ => ("SwallowedInTurnModel", "hash", "J", false)
def tyX6 : Nat → FieldType := fun k => match k with
  | 0 => .array .int
  | 1 => .int
  | 2 => .array .int
  | 3 => .int
  | 4 => .int
  | 5 => .int
  | 6 => .int
  | 7 => .int
  | 8 => .int
  | 9 => .array .int
  | 10 => .array .int
  | 11 => .array .int
  | 12 => .array .int
  | 13 => .int
  | 14 => .int
  | 15 => .array .int
  | 16 => .array .int
  | 17 => .int
  | 18 => .int
  | 19 => .int
  | 20 => .int
  | 21 => .int
  | 22 => .array .int
  | _ => .long
abbrev wsX60 : List Cond := u_ws RX6 TX6 24
theorem nmX6 : ∀ a, a < 24 → ∀ b, b < 24 → a ≠ b → (TX6 a).2.1 ≠ (TX6 b).2.1 := by decide +kernel
theorem tyX6_ok : ∀ k, k < 24 → parseFieldDescriptor (TX6 k).2.2.1 = some (tyX6 k) := by decide +kernel
abbrev cX6_init : ByteArray := prog_8_method_1_code
def yX6_init : MethodName := ⟨RX6, "<init>", "()V"⟩
abbrev cX6_in : ByteArray := prog_8_method_2_code
def yX6_in : MethodName := ⟨RX6, "in", "(JJJ)Z"⟩
abbrev cX6_letter : ByteArray := prog_8_method_3_code
def yX6_letter : MethodName := ⟨RX6, "letter", "(I)I"⟩
abbrev cX6_blank : ByteArray := prog_8_method_4_code
def yX6_blank : MethodName := ⟨RX6, "blank", "()I"⟩
abbrev cX6_goDigit : ByteArray := prog_8_method_5_code
def yX6_goDigit : MethodName := ⟨RX6, "goDigit", "(I)Z"⟩
abbrev cX6_go : ByteArray := prog_8_method_6_code
def yX6_go : MethodName := ⟨RX6, "go", "(I)Z"⟩
abbrev cX6_faultOf : ByteArray := prog_8_method_7_code
def yX6_faultOf : MethodName := ⟨RX6, "faultOf", "()I"⟩
abbrev cX6_fault : ByteArray := prog_8_method_8_code
def yX6_fault : MethodName := ⟨RX6, "fault", "()I"⟩
abbrev cX6_isBeing : ByteArray := prog_8_method_9_code
def yX6_isBeing : MethodName := ⟨RX6, "isBeing", "(I)Z"⟩
abbrev cX6_being : ByteArray := prog_8_method_10_code
def yX6_being : MethodName := ⟨RX6, "being", "(IIII)I"⟩
abbrev cX6_unit : ByteArray := prog_8_method_11_code
def yX6_unit : MethodName := ⟨RX6, "unit", "(I)I"⟩
abbrev cX6_holder : ByteArray := prog_8_method_12_code
def yX6_holder : MethodName := ⟨RX6, "holder", "(II)I"⟩
abbrev cX6_moved : ByteArray := prog_8_method_13_code
def yX6_moved : MethodName := ⟨RX6, "moved", "(III)I"⟩
abbrev cX6_filled : ByteArray := prog_8_method_14_code
def yX6_filled : MethodName := ⟨RX6, "filled", "(II)I"⟩
abbrev cX6_swallowed : ByteArray := prog_8_method_15_code
def yX6_swallowed : MethodName := ⟨RX6, "swallowed", "(III)I"⟩
abbrev cX6_comeOut : ByteArray := prog_8_method_16_code
def yX6_comeOut : MethodName := ⟨RX6, "comeOut", "(III)I"⟩
abbrev cX6_isDeed : ByteArray := prog_8_method_17_code
def yX6_isDeed : MethodName := ⟨RX6, "isDeed", "(I)Z"⟩
abbrev cX6_done : ByteArray := prog_8_method_18_code
def yX6_done : MethodName := ⟨RX6, "done", "(II)I"⟩
abbrev cX6_tale : ByteArray := prog_8_method_19_code
def yX6_tale : MethodName := ⟨RX6, "tale", "()I"⟩
abbrev cX6_walls : ByteArray := prog_8_method_20_code
def yX6_walls : MethodName := ⟨RX6, "walls", "(II)I"⟩
abbrev cX6_hearsOne : ByteArray := prog_8_method_21_code
def yX6_hearsOne : MethodName := ⟨RX6, "hearsOne", "(III)Z"⟩
abbrev cX6_heardBy : ByteArray := prog_8_method_22_code
def yX6_heardBy : MethodName := ⟨RX6, "heardBy", "(II)I"⟩
abbrev cX6_tell : ByteArray := prog_8_method_23_code
def yX6_tell : MethodName := ⟨RX6, "tell", "(II)I"⟩
abbrev cX6_about : ByteArray := prog_8_method_24_code
def yX6_about : MethodName := ⟨RX6, "about", "(II)I"⟩
abbrev cX6_as : ByteArray := prog_8_method_25_code
def yX6_as : MethodName := ⟨RX6, "as", "(II)I"⟩
abbrev cX6_may : ByteArray := prog_8_method_26_code
def yX6_may : MethodName := ⟨RX6, "may", "(I)I"⟩
abbrev cX6_deed : ByteArray := prog_8_method_27_code
def yX6_deed : MethodName := ⟨RX6, "deed", "(I)I"⟩
abbrev cX6_number : ByteArray := prog_8_method_28_code
def yX6_number : MethodName := ⟨RX6, "number", "()I"⟩
abbrev cX6_lay : ByteArray := prog_8_method_29_code
def yX6_lay : MethodName := ⟨RX6, "lay", "()V"⟩
abbrev cX6_areOut : ByteArray := prog_8_method_30_code
def yX6_areOut : MethodName := ⟨RX6, "areOut", "(II)Z"⟩
abbrev cX6_soonestOf : ByteArray := prog_8_method_31_code
def yX6_soonestOf : MethodName := ⟨RX6, "soonestOf", "(II)I"⟩
abbrev cX6_soonest : ByteArray := prog_8_method_32_code
def yX6_soonest : MethodName := ⟨RX6, "soonest", "(II)I"⟩
abbrev cX6_together : ByteArray := prog_8_method_33_code
def yX6_together : MethodName := ⟨RX6, "together", "(II)I"⟩
abbrev cX6_deepest : ByteArray := prog_8_method_34_code
def yX6_deepest : MethodName := ⟨RX6, "deepest", "(I)I"⟩
abbrev cX6_deep : ByteArray := prog_8_method_35_code
def yX6_deep : MethodName := ⟨RX6, "deep", "(I)I"⟩
abbrev cX6_many : ByteArray := prog_8_method_36_code
def yX6_many : MethodName := ⟨RX6, "many", "()I"⟩
abbrev cX6_nesting : ByteArray := prog_8_method_37_code
def yX6_nesting : MethodName := ⟨RX6, "nesting", "(I)I"⟩
abbrev cX6_told : ByteArray := prog_8_method_38_code
def yX6_told : MethodName := ⟨RX6, "told", "(II)I"⟩
abbrev cX6_forget : ByteArray := prog_8_method_39_code
def yX6_forget : MethodName := ⟨RX6, "forget", "()I"⟩
abbrev cX6_isToldSo : ByteArray := prog_8_method_40_code
def yX6_isToldSo : MethodName := ⟨RX6, "isToldSo", "(I)Z"⟩
abbrev cX6_fitMany : ByteArray := prog_8_method_41_code
def yX6_fitMany : MethodName := ⟨RX6, "fitMany", "()I"⟩
abbrev cX6_fits : ByteArray := prog_8_method_42_code
def yX6_fits : MethodName := ⟨RX6, "fits", "()I"⟩
abbrev cX6_sure : ByteArray := prog_8_method_43_code
def yX6_sure : MethodName := ⟨RX6, "sure", "(I)I"⟩
abbrev cX6_worstOf : ByteArray := prog_8_method_44_code
def yX6_worstOf : MethodName := ⟨RX6, "worstOf", "(I)I"⟩
abbrev cX6_askOf : ByteArray := prog_8_method_45_code
def yX6_askOf : MethodName := ⟨RX6, "askOf", "()I"⟩
abbrev cX6_ask : ByteArray := prog_8_method_46_code
def yX6_ask : MethodName := ⟨RX6, "ask", "()I"⟩
abbrev cX6_draw : ByteArray := prog_8_method_47_code
def yX6_draw : MethodName := ⟨RX6, "draw", "(I)I"⟩
abbrev cX6_mayMany : ByteArray := prog_8_method_48_code
def yX6_mayMany : MethodName := ⟨RX6, "mayMany", "(I)I"⟩
abbrev cX6_days : ByteArray := prog_8_method_49_code
def yX6_days : MethodName := ⟨RX6, "days", "(III)I"⟩
abbrev cX6_image : ByteArray := prog_8_method_50_code
def yX6_image : MethodName := ⟨RX6, "image", "()I"⟩
abbrev cX6_restore : ByteArray := prog_8_method_51_code
def yX6_restore : MethodName := ⟨RX6, "restore", "()I"⟩
abbrev cX6_countOf : ByteArray := prog_8_method_52_code
def yX6_countOf : MethodName := ⟨RX6, "countOf", "(I)I"⟩
abbrev cX6_count : ByteArray := prog_8_method_53_code
def yX6_count : MethodName := ⟨RX6, "count", "(I)I"⟩
abbrev cX6_say : ByteArray := prog_8_method_54_code
def yX6_say : MethodName := ⟨RX6, "say", "(J)V"⟩
abbrev cX6_digest : ByteArray := prog_8_method_55_code
def yX6_digest : MethodName := ⟨RX6, "digest", "()J"⟩
def RJ9 : String := "java/lang/Math"
def TJ9 : u_T := fun k => match k with
  | _ => ("", "", "", false)
def tyJ9 : Nat → FieldType := fun k => match k with
  | _ => .int
abbrev wsJ90 : List Cond := u_ws RJ9 TJ9 0
theorem nmJ9 : ∀ a, a < 0 → ∀ b, b < 0 → a ≠ b → (TJ9 a).2.1 ≠ (TJ9 b).2.1 := by decide +kernel
theorem tyJ9_ok : ∀ k, k < 0 → parseFieldDescriptor (TJ9 k).2.2.1 = some (tyJ9 k) := by decide +kernel
abbrev cJ9_max_7cf53 : ByteArray := prog_9_method_65_code
def yJ9_max_7cf53 : MethodName := ⟨RJ9, "max", "(II)I"⟩
def RJ7 : String := "java/util/Arrays"
def TJ7 : u_T := fun k => match k with
  | _ => ("", "", "", false)
def tyJ7 : Nat → FieldType := fun k => match k with
  | _ => .int
abbrev wsJ70 : List Cond := u_ws RJ7 TJ7 0
theorem nmJ7 : ∀ a, a < 0 → ∀ b, b < 0 → a ≠ b → (TJ7 a).2.1 ≠ (TJ7 b).2.1 := by decide +kernel
theorem tyJ7_ok : ∀ k, k < 0 → parseFieldDescriptor (TJ7 k).2.2.1 = some (tyJ7 k) := by decide +kernel
abbrev cJ7_fill_53178 : ByteArray := prog_10_method_103_code
def yJ7_fill_53178 : MethodName := ⟨RJ7, "fill", "([II)V"⟩
def RL : String := "SwallowedInTurnLaw"
abbrev cL_law : ByteArray := code
def yL_law : MethodName := ⟨RL, "law", "([I)Z"⟩
def wsX0_init : List Cond := .code yX0_init cX0_init 1 none :: ([.methodLink RX0 3 objectInit, .instanceMethod objectInit, .code objectInit ⟨#[0xb1]⟩ 1 none, .arrayClass .int, .fieldLink RX0 9 "SwallowedInTurn$Crowd" "traits" "[I"] ++ wsX00)
def wsX0_total : List Cond := .code yX0_total cX0_total 1 (some .int) :: ([.fieldLink RX0 15 "SwallowedInTurn$Crowd" "total" "I"] ++ wsX00)
def wsX0_all : List Cond := .code yX0_all cX0_all 1 (some .int) :: ([.fieldLink RX0 15 "SwallowedInTurn$Crowd" "total" "I"] ++ wsX00)
def wsX0_has : List Cond := .code yX0_has cX0_has 2 (some .boolean) :: ([.fieldLink RX0 15 "SwallowedInTurn$Crowd" "total" "I"] ++ wsX00)
def wsX0_hasAll : List Cond := .code yX0_hasAll cX0_hasAll 2 (some .boolean) :: ([.methodLink RX0 19 yX0_all, .instanceMethod yX0_all, .selects RX0 yX0_all yX0_all, .initialized RX0, .code yX0_all cX0_all 1 (some .int), .fieldLink RX0 15 "SwallowedInTurn$Crowd" "total" "I"] ++ wsX00)
def wsX5_isDeed : List Cond := .code yX5_isDeed cX5_isDeed 1 (some .boolean) :: ([])
def wsX5_doer : List Cond := .code yX5_doer cX5_doer 1 (some .int) :: ([])
def wsX5_prey : List Cond := .code yX5_prey cX5_prey 1 (some .int) :: ([.methodLink RX5 223 yX5_doer, .static yX5_doer, .initialized RX5, .code yX5_doer cX5_doer 1 (some .int)])
def wsX0_knows : List Cond := .code yX0_knows cX0_knows 2 (some .boolean) :: ([.static yX5_isDeed, .initialized RX5, .code yX5_isDeed cX5_isDeed 1 (some .boolean), .static yX5_doer, .code yX5_doer cX5_doer 1 (some .int), .methodLink RX0 31 yX0_has, .instanceMethod yX0_has, .selects RX0 yX0_has yX0_has, .initialized RX0, .code yX0_has cX0_has 2 (some .boolean), .fieldLink RX0 15 "SwallowedInTurn$Crowd" "total" "I", .static yX5_prey, .code yX5_prey cX5_prey 1 (some .int), .methodLink RX5 223 yX5_doer] ++ wsX00)
def wsX0_join : List Cond := .code yX0_join cX0_join 6 (some .int) :: ([.fieldLink RX0 15 "SwallowedInTurn$Crowd" "total" "I", .fieldLink RX0 9 "SwallowedInTurn$Crowd" "traits" "[I"] ++ wsX00)
def wsX0_trait : List Cond := .code yX0_trait cX0_trait 4 (some .int) :: ([.fieldLink RX0 9 "SwallowedInTurn$Crowd" "traits" "[I"] ++ wsX00)
def wsX0_isOf : List Cond := .code yX0_isOf cX0_isOf 4 (some .boolean) :: ([.fieldLink RX0 41 "SwallowedInTurn$Crowd" "KINDS_OF_ONE" "[I", .methodLink RX0 37 yX0_trait, .instanceMethod yX0_trait, .selects RX0 yX0_trait yX0_trait, .initialized RX0, .code yX0_trait cX0_trait 4 (some .int), .fieldLink RX0 9 "SwallowedInTurn$Crowd" "traits" "[I"] ++ wsX00)
def wsJ7_fill_53178 : List Cond := .code yJ7_fill_53178 cJ7_fill_53178 4 none :: ([])
def wsX1_init : List Cond := .code yX1_init cX1_init 2 none :: ([.methodLink RX1 3 objectInit, .instanceMethod objectInit, .code objectInit ⟨#[0xb1]⟩ 1 none, .arrayClass .int, .fieldLink RX1 9 "SwallowedInTurn$Nesting" "holders" "[I", .fieldLink RX1 15 "SwallowedInTurn$Nesting" "crowd" "LSwallowedInTurn$Crowd;", .methodLink RX1 19 yJ7_fill_53178, .static yJ7_fill_53178, .initialized RJ7, .code yJ7_fill_53178 cJ7_fill_53178 4 none] ++ wsX10)
def wsX1_holder : List Cond := .code yX1_holder cX1_holder 2 (some .int) :: ([.fieldLink RX1 9 "SwallowedInTurn$Nesting" "holders" "[I"] ++ wsX10)
def wsX1_put : List Cond := .code yX1_put cX1_put 3 none :: ([.fieldLink RX1 9 "SwallowedInTurn$Nesting" "holders" "[I"] ++ wsX10)
def wsX1_copy : List Cond := .code yX1_copy cX1_copy 3 none :: ([.fieldLink RX1 9 "SwallowedInTurn$Nesting" "holders" "[I", .methodLink RX1 25 yX1_holder, .instanceMethod yX1_holder, .selects RX1 yX1_holder yX1_holder, .initialized RX1, .code yX1_holder cX1_holder 2 (some .int)] ++ wsX10)
def wsX1_toNumber : List Cond := .code yX1_toNumber cX1_toNumber 3 (some .int) :: ([.fieldLink RX1 9 "SwallowedInTurn$Nesting" "holders" "[I"] ++ wsX10)
def wsX1_become : List Cond := .code yX1_become cX1_become 4 none :: ([.fieldLink RX1 9 "SwallowedInTurn$Nesting" "holders" "[I"] ++ wsX10)
def wsX1_filled : List Cond := .code yX1_filled cX1_filled 4 (some .int) :: ([.fieldLink RX1 15 "SwallowedInTurn$Nesting" "crowd" "LSwallowedInTurn$Crowd;", .methodLink RX1 29 yX0_total, .instanceMethod yX0_total, .selects RX0 yX0_total yX0_total, .initialized RX0, .code yX0_total cX0_total 1 (some .int), .fieldLink RX0 15 "SwallowedInTurn$Crowd" "total" "I", .methodLink RX1 25 yX1_holder, .instanceMethod yX1_holder, .selects RX1 yX1_holder yX1_holder, .initialized RX1, .code yX1_holder cX1_holder 2 (some .int), .fieldLink RX1 9 "SwallowedInTurn$Nesting" "holders" "[I", .methodLink RX1 35 yX0_trait, .instanceMethod yX0_trait, .selects RX0 yX0_trait yX0_trait, .code yX0_trait cX0_trait 4 (some .int), .fieldLink RX0 9 "SwallowedInTurn$Crowd" "traits" "[I"] ++ wsX10 ++ wsX00)
def wsX1_outside : List Cond := .code yX1_outside cX1_outside 3 (some .int) :: ([.fieldLink RX1 15 "SwallowedInTurn$Nesting" "crowd" "LSwallowedInTurn$Crowd;", .methodLink RX1 29 yX0_total, .instanceMethod yX0_total, .selects RX0 yX0_total yX0_total, .initialized RX0, .code yX0_total cX0_total 1 (some .int), .fieldLink RX0 15 "SwallowedInTurn$Crowd" "total" "I", .methodLink RX1 25 yX1_holder, .instanceMethod yX1_holder, .selects RX1 yX1_holder yX1_holder, .initialized RX1, .code yX1_holder cX1_holder 2 (some .int), .fieldLink RX1 9 "SwallowedInTurn$Nesting" "holders" "[I"] ++ wsX10 ++ wsX00)
def wsX1_areOutside : List Cond := .code yX1_areOutside cX1_areOutside 3 (some .boolean) :: ([.fieldLink RX1 9 "SwallowedInTurn$Nesting" "holders" "[I"] ++ wsX10)
def wsX1_walls : List Cond := .code yX1_walls cX1_walls 4 (some .int) :: ([.methodLink RX1 25 yX1_holder, .instanceMethod yX1_holder, .selects RX1 yX1_holder yX1_holder, .initialized RX1, .code yX1_holder cX1_holder 2 (some .int), .fieldLink RX1 9 "SwallowedInTurn$Nesting" "holders" "[I"] ++ wsX10)
def wsX1_hears : List Cond := .code yX1_hears cX1_hears 5 (some .boolean) :: ([.methodLink RX1 25 yX1_holder, .instanceMethod yX1_holder, .selects RX1 yX1_holder yX1_holder, .initialized RX1, .code yX1_holder cX1_holder 2 (some .int), .fieldLink RX1 9 "SwallowedInTurn$Nesting" "holders" "[I"] ++ wsX10)
def wsX1_heardBy : List Cond := .code yX1_heardBy cX1_heardBy 4 (some .int) :: ([.fieldLink RX1 15 "SwallowedInTurn$Nesting" "crowd" "LSwallowedInTurn$Crowd;", .methodLink RX1 29 yX0_total, .instanceMethod yX0_total, .selects RX0 yX0_total yX0_total, .initialized RX0, .code yX0_total cX0_total 1 (some .int), .fieldLink RX0 15 "SwallowedInTurn$Crowd" "total" "I", .methodLink RX1 39 yX1_hears, .instanceMethod yX1_hears, .selects RX1 yX1_hears yX1_hears, .initialized RX1, .code yX1_hears cX1_hears 5 (some .boolean), .methodLink RX1 25 yX1_holder, .instanceMethod yX1_holder, .selects RX1 yX1_holder yX1_holder, .code yX1_holder cX1_holder 2 (some .int), .fieldLink RX1 9 "SwallowedInTurn$Nesting" "holders" "[I"] ++ wsX10 ++ wsX00)
def wsX1_canSwallow_r1 : List Cond := [Cond.fieldLink RX1 15 "SwallowedInTurn$Nesting" "crowd" "LSwallowedInTurn$Crowd;", Cond.methodLink RX1 25 yX1_holder, Cond.instanceMethod yX1_holder, Cond.selects RX1 yX1_holder yX1_holder, Cond.initialized RX1, Cond.code yX1_holder cX1_holder 2 (some .int), Cond.fieldLink RX1 9 "SwallowedInTurn$Nesting" "holders" "[I", Cond.methodLink RX1 66 yX0_isOf, Cond.instanceMethod yX0_isOf, Cond.selects RX0 yX0_isOf yX0_isOf, Cond.initialized RX0, Cond.code yX0_isOf cX0_isOf 4 (some .boolean), Cond.fieldLink RX0 41 "SwallowedInTurn$Crowd" "KINDS_OF_ONE" "[I", Cond.methodLink RX0 37 yX0_trait, Cond.instanceMethod yX0_trait, Cond.selects RX0 yX0_trait yX0_trait, Cond.code yX0_trait cX0_trait 4 (some .int), Cond.fieldLink RX0 9 "SwallowedInTurn$Crowd" "traits" "[I", Cond.methodLink RX1 35 yX0_trait, Cond.methodLink RX1 69 yX1_filled, Cond.instanceMethod yX1_filled, Cond.selects RX1 yX1_filled yX1_filled, Cond.code yX1_filled cX1_filled 4 (some .int), Cond.methodLink RX1 29 yX0_total]
def wsX1_canSwallow_r2 : List Cond := [Cond.instanceMethod yX0_total, Cond.selects RX0 yX0_total yX0_total, Cond.code yX0_total cX0_total 1 (some .int), Cond.fieldLink RX0 15 "SwallowedInTurn$Crowd" "total" "I"]
def wsX1_canSwallow : List Cond := .code yX1_canSwallow cX1_canSwallow 5 (some .boolean) :: ((wsX1_canSwallow_r1 ++ wsX1_canSwallow_r2) ++ wsX10 ++ wsX00)
def wsX1_comingOut_r1 : List Cond := [Cond.fieldLink RX1 15 "SwallowedInTurn$Nesting" "crowd" "LSwallowedInTurn$Crowd;", Cond.static yX5_doer, Cond.initialized RX5, Cond.code yX5_doer cX5_doer 1 (some .int), Cond.methodLink RX1 66 yX0_isOf, Cond.instanceMethod yX0_isOf, Cond.selects RX0 yX0_isOf yX0_isOf, Cond.initialized RX0, Cond.code yX0_isOf cX0_isOf 4 (some .boolean), Cond.fieldLink RX0 41 "SwallowedInTurn$Crowd" "KINDS_OF_ONE" "[I", Cond.methodLink RX0 37 yX0_trait, Cond.instanceMethod yX0_trait, Cond.selects RX0 yX0_trait yX0_trait, Cond.code yX0_trait cX0_trait 4 (some .int), Cond.fieldLink RX0 9 "SwallowedInTurn$Crowd" "traits" "[I", Cond.methodLink RX1 29 yX0_total, Cond.instanceMethod yX0_total, Cond.selects RX0 yX0_total yX0_total, Cond.code yX0_total cX0_total 1 (some .int), Cond.fieldLink RX0 15 "SwallowedInTurn$Crowd" "total" "I", Cond.methodLink RX1 25 yX1_holder, Cond.instanceMethod yX1_holder, Cond.selects RX1 yX1_holder yX1_holder, Cond.initialized RX1]
def wsX1_comingOut_r2 : List Cond := [Cond.code yX1_holder cX1_holder 2 (some .int), Cond.fieldLink RX1 9 "SwallowedInTurn$Nesting" "holders" "[I"]
def wsX1_comingOut : List Cond := .code yX1_comingOut cX1_comingOut 7 (some .int) :: ((wsX1_comingOut_r1 ++ wsX1_comingOut_r2) ++ wsX10 ++ wsX00)
def wsX1_canTake : List Cond := .code yX1_canTake cX1_canTake 5 (some .boolean) :: ([.fieldLink RX1 15 "SwallowedInTurn$Nesting" "crowd" "LSwallowedInTurn$Crowd;", .methodLink RX1 69 yX1_filled, .instanceMethod yX1_filled, .selects RX1 yX1_filled yX1_filled, .initialized RX1, .code yX1_filled cX1_filled 4 (some .int), .methodLink RX1 29 yX0_total, .instanceMethod yX0_total, .selects RX0 yX0_total yX0_total, .initialized RX0, .code yX0_total cX0_total 1 (some .int), .fieldLink RX0 15 "SwallowedInTurn$Crowd" "total" "I", .methodLink RX1 25 yX1_holder, .instanceMethod yX1_holder, .selects RX1 yX1_holder yX1_holder, .code yX1_holder cX1_holder 2 (some .int), .fieldLink RX1 9 "SwallowedInTurn$Nesting" "holders" "[I", .methodLink RX1 35 yX0_trait, .instanceMethod yX0_trait, .selects RX0 yX0_trait yX0_trait, .code yX0_trait cX0_trait 4 (some .int), .fieldLink RX0 9 "SwallowedInTurn$Crowd" "traits" "[I"] ++ wsX10 ++ wsX00)
def wsX1_allows_r1 : List Cond := [Cond.fieldLink RX1 15 "SwallowedInTurn$Nesting" "crowd" "LSwallowedInTurn$Crowd;", Cond.methodLink RX1 43 yX0_knows, Cond.instanceMethod yX0_knows, Cond.selects RX0 yX0_knows yX0_knows, Cond.initialized RX0, Cond.code yX0_knows cX0_knows 2 (some .boolean), Cond.static yX5_isDeed, Cond.initialized RX5, Cond.code yX5_isDeed cX5_isDeed 1 (some .boolean), Cond.static yX5_doer, Cond.code yX5_doer cX5_doer 1 (some .int), Cond.methodLink RX0 31 yX0_has, Cond.instanceMethod yX0_has, Cond.selects RX0 yX0_has yX0_has, Cond.code yX0_has cX0_has 2 (some .boolean), Cond.fieldLink RX0 15 "SwallowedInTurn$Crowd" "total" "I", Cond.static yX5_prey, Cond.code yX5_prey cX5_prey 1 (some .int), Cond.methodLink RX5 223 yX5_doer, Cond.methodLink RX1 53 yX1_canSwallow, Cond.instanceMethod yX1_canSwallow, Cond.selects RX1 yX1_canSwallow yX1_canSwallow, Cond.initialized RX1, Cond.code yX1_canSwallow cX1_canSwallow 5 (some .boolean)]
def wsX1_allows_r2 : List Cond := [Cond.methodLink RX1 25 yX1_holder, Cond.instanceMethod yX1_holder, Cond.selects RX1 yX1_holder yX1_holder, Cond.code yX1_holder cX1_holder 2 (some .int), Cond.fieldLink RX1 9 "SwallowedInTurn$Nesting" "holders" "[I", Cond.methodLink RX1 66 yX0_isOf, Cond.instanceMethod yX0_isOf, Cond.selects RX0 yX0_isOf yX0_isOf, Cond.code yX0_isOf cX0_isOf 4 (some .boolean), Cond.fieldLink RX0 41 "SwallowedInTurn$Crowd" "KINDS_OF_ONE" "[I", Cond.methodLink RX0 37 yX0_trait, Cond.instanceMethod yX0_trait, Cond.selects RX0 yX0_trait yX0_trait, Cond.code yX0_trait cX0_trait 4 (some .int), Cond.fieldLink RX0 9 "SwallowedInTurn$Crowd" "traits" "[I", Cond.methodLink RX1 35 yX0_trait, Cond.methodLink RX1 69 yX1_filled, Cond.instanceMethod yX1_filled, Cond.selects RX1 yX1_filled yX1_filled, Cond.code yX1_filled cX1_filled 4 (some .int), Cond.methodLink RX1 29 yX0_total, Cond.instanceMethod yX0_total, Cond.selects RX0 yX0_total yX0_total, Cond.code yX0_total cX0_total 1 (some .int)]
def wsX1_allows_r3 : List Cond := [Cond.methodLink RX1 56 yX1_comingOut, Cond.instanceMethod yX1_comingOut, Cond.selects RX1 yX1_comingOut yX1_comingOut, Cond.code yX1_comingOut cX1_comingOut 7 (some .int), Cond.methodLink RX1 59 yX1_canTake, Cond.instanceMethod yX1_canTake, Cond.selects RX1 yX1_canTake yX1_canTake, Cond.code yX1_canTake cX1_canTake 5 (some .boolean)]
def wsX1_allows : List Cond := .code yX1_allows cX1_allows 4 (some .boolean) :: ((wsX1_allows_r1 ++ (wsX1_allows_r2 ++ wsX1_allows_r3)) ++ wsX10 ++ wsX00)
def wsX1_carryOut_r1 : List Cond := [Cond.fieldLink RX1 9 "SwallowedInTurn$Nesting" "holders" "[I", Cond.static yX5_doer, Cond.initialized RX5, Cond.code yX5_doer cX5_doer 1 (some .int), Cond.static yX5_prey, Cond.code yX5_prey cX5_prey 1 (some .int), Cond.methodLink RX5 223 yX5_doer, Cond.methodLink RX1 62 yX1_put, Cond.instanceMethod yX1_put, Cond.selects RX1 yX1_put yX1_put, Cond.initialized RX1, Cond.code yX1_put cX1_put 3 none, Cond.methodLink RX1 56 yX1_comingOut, Cond.instanceMethod yX1_comingOut, Cond.selects RX1 yX1_comingOut yX1_comingOut, Cond.code yX1_comingOut cX1_comingOut 7 (some .int), Cond.fieldLink RX1 15 "SwallowedInTurn$Nesting" "crowd" "LSwallowedInTurn$Crowd;", Cond.methodLink RX1 66 yX0_isOf, Cond.instanceMethod yX0_isOf, Cond.selects RX0 yX0_isOf yX0_isOf, Cond.initialized RX0, Cond.code yX0_isOf cX0_isOf 4 (some .boolean), Cond.fieldLink RX0 41 "SwallowedInTurn$Crowd" "KINDS_OF_ONE" "[I", Cond.methodLink RX0 37 yX0_trait]
def wsX1_carryOut_r2 : List Cond := [Cond.instanceMethod yX0_trait, Cond.selects RX0 yX0_trait yX0_trait, Cond.code yX0_trait cX0_trait 4 (some .int), Cond.fieldLink RX0 9 "SwallowedInTurn$Crowd" "traits" "[I", Cond.methodLink RX1 29 yX0_total, Cond.instanceMethod yX0_total, Cond.selects RX0 yX0_total yX0_total, Cond.code yX0_total cX0_total 1 (some .int), Cond.fieldLink RX0 15 "SwallowedInTurn$Crowd" "total" "I", Cond.methodLink RX1 25 yX1_holder, Cond.instanceMethod yX1_holder, Cond.selects RX1 yX1_holder yX1_holder, Cond.code yX1_holder cX1_holder 2 (some .int)]
def wsX1_carryOut : List Cond := .code yX1_carryOut cX1_carryOut 6 none :: ((wsX1_carryOut_r1 ++ wsX1_carryOut_r2) ++ wsX10 ++ wsX00)
def wsX1_choices_r1 : List Cond := [Cond.methodLink RX1 72 yX1_allows, Cond.instanceMethod yX1_allows, Cond.selects RX1 yX1_allows yX1_allows, Cond.initialized RX1, Cond.code yX1_allows cX1_allows 4 (some .boolean), Cond.fieldLink RX1 15 "SwallowedInTurn$Nesting" "crowd" "LSwallowedInTurn$Crowd;", Cond.methodLink RX1 43 yX0_knows, Cond.instanceMethod yX0_knows, Cond.selects RX0 yX0_knows yX0_knows, Cond.initialized RX0, Cond.code yX0_knows cX0_knows 2 (some .boolean), Cond.static yX5_isDeed, Cond.initialized RX5, Cond.code yX5_isDeed cX5_isDeed 1 (some .boolean), Cond.static yX5_doer, Cond.code yX5_doer cX5_doer 1 (some .int), Cond.methodLink RX0 31 yX0_has, Cond.instanceMethod yX0_has, Cond.selects RX0 yX0_has yX0_has, Cond.code yX0_has cX0_has 2 (some .boolean), Cond.fieldLink RX0 15 "SwallowedInTurn$Crowd" "total" "I", Cond.static yX5_prey, Cond.code yX5_prey cX5_prey 1 (some .int), Cond.methodLink RX5 223 yX5_doer]
def wsX1_choices_r2 : List Cond := [Cond.methodLink RX1 53 yX1_canSwallow, Cond.instanceMethod yX1_canSwallow, Cond.selects RX1 yX1_canSwallow yX1_canSwallow, Cond.code yX1_canSwallow cX1_canSwallow 5 (some .boolean), Cond.methodLink RX1 25 yX1_holder, Cond.instanceMethod yX1_holder, Cond.selects RX1 yX1_holder yX1_holder, Cond.code yX1_holder cX1_holder 2 (some .int), Cond.fieldLink RX1 9 "SwallowedInTurn$Nesting" "holders" "[I", Cond.methodLink RX1 66 yX0_isOf, Cond.instanceMethod yX0_isOf, Cond.selects RX0 yX0_isOf yX0_isOf, Cond.code yX0_isOf cX0_isOf 4 (some .boolean), Cond.fieldLink RX0 41 "SwallowedInTurn$Crowd" "KINDS_OF_ONE" "[I", Cond.methodLink RX0 37 yX0_trait, Cond.instanceMethod yX0_trait, Cond.selects RX0 yX0_trait yX0_trait, Cond.code yX0_trait cX0_trait 4 (some .int), Cond.fieldLink RX0 9 "SwallowedInTurn$Crowd" "traits" "[I", Cond.methodLink RX1 35 yX0_trait, Cond.methodLink RX1 69 yX1_filled, Cond.instanceMethod yX1_filled, Cond.selects RX1 yX1_filled yX1_filled, Cond.code yX1_filled cX1_filled 4 (some .int)]
def wsX1_choices_r3 : List Cond := [Cond.methodLink RX1 29 yX0_total, Cond.instanceMethod yX0_total, Cond.selects RX0 yX0_total yX0_total, Cond.code yX0_total cX0_total 1 (some .int), Cond.methodLink RX1 56 yX1_comingOut, Cond.instanceMethod yX1_comingOut, Cond.selects RX1 yX1_comingOut yX1_comingOut, Cond.code yX1_comingOut cX1_comingOut 7 (some .int), Cond.methodLink RX1 59 yX1_canTake, Cond.instanceMethod yX1_canTake, Cond.selects RX1 yX1_canTake yX1_canTake, Cond.code yX1_canTake cX1_canTake 5 (some .boolean)]
def wsX1_choices : List Cond := .code yX1_choices cX1_choices 3 (some .int) :: ((wsX1_choices_r1 ++ (wsX1_choices_r2 ++ wsX1_choices_r3)) ++ wsX10 ++ wsX00)
def wsX1_choiceAt_r1 : List Cond := [Cond.methodLink RX1 72 yX1_allows, Cond.instanceMethod yX1_allows, Cond.selects RX1 yX1_allows yX1_allows, Cond.initialized RX1, Cond.code yX1_allows cX1_allows 4 (some .boolean), Cond.fieldLink RX1 15 "SwallowedInTurn$Nesting" "crowd" "LSwallowedInTurn$Crowd;", Cond.methodLink RX1 43 yX0_knows, Cond.instanceMethod yX0_knows, Cond.selects RX0 yX0_knows yX0_knows, Cond.initialized RX0, Cond.code yX0_knows cX0_knows 2 (some .boolean), Cond.static yX5_isDeed, Cond.initialized RX5, Cond.code yX5_isDeed cX5_isDeed 1 (some .boolean), Cond.static yX5_doer, Cond.code yX5_doer cX5_doer 1 (some .int), Cond.methodLink RX0 31 yX0_has, Cond.instanceMethod yX0_has, Cond.selects RX0 yX0_has yX0_has, Cond.code yX0_has cX0_has 2 (some .boolean), Cond.fieldLink RX0 15 "SwallowedInTurn$Crowd" "total" "I", Cond.static yX5_prey, Cond.code yX5_prey cX5_prey 1 (some .int), Cond.methodLink RX5 223 yX5_doer]
def wsX1_choiceAt_r2 : List Cond := [Cond.methodLink RX1 53 yX1_canSwallow, Cond.instanceMethod yX1_canSwallow, Cond.selects RX1 yX1_canSwallow yX1_canSwallow, Cond.code yX1_canSwallow cX1_canSwallow 5 (some .boolean), Cond.methodLink RX1 25 yX1_holder, Cond.instanceMethod yX1_holder, Cond.selects RX1 yX1_holder yX1_holder, Cond.code yX1_holder cX1_holder 2 (some .int), Cond.fieldLink RX1 9 "SwallowedInTurn$Nesting" "holders" "[I", Cond.methodLink RX1 66 yX0_isOf, Cond.instanceMethod yX0_isOf, Cond.selects RX0 yX0_isOf yX0_isOf, Cond.code yX0_isOf cX0_isOf 4 (some .boolean), Cond.fieldLink RX0 41 "SwallowedInTurn$Crowd" "KINDS_OF_ONE" "[I", Cond.methodLink RX0 37 yX0_trait, Cond.instanceMethod yX0_trait, Cond.selects RX0 yX0_trait yX0_trait, Cond.code yX0_trait cX0_trait 4 (some .int), Cond.fieldLink RX0 9 "SwallowedInTurn$Crowd" "traits" "[I", Cond.methodLink RX1 35 yX0_trait, Cond.methodLink RX1 69 yX1_filled, Cond.instanceMethod yX1_filled, Cond.selects RX1 yX1_filled yX1_filled, Cond.code yX1_filled cX1_filled 4 (some .int)]
def wsX1_choiceAt_r3 : List Cond := [Cond.methodLink RX1 29 yX0_total, Cond.instanceMethod yX0_total, Cond.selects RX0 yX0_total yX0_total, Cond.code yX0_total cX0_total 1 (some .int), Cond.methodLink RX1 56 yX1_comingOut, Cond.instanceMethod yX1_comingOut, Cond.selects RX1 yX1_comingOut yX1_comingOut, Cond.code yX1_comingOut cX1_comingOut 7 (some .int), Cond.methodLink RX1 59 yX1_canTake, Cond.instanceMethod yX1_canTake, Cond.selects RX1 yX1_canTake yX1_canTake, Cond.code yX1_canTake cX1_canTake 5 (some .boolean)]
def wsX1_choiceAt : List Cond := .code yX1_choiceAt cX1_choiceAt 4 (some .int) :: ((wsX1_choiceAt_r1 ++ (wsX1_choiceAt_r2 ++ wsX1_choiceAt_r3)) ++ wsX10 ++ wsX00)
def wsX2_init_r1 : List Cond := [Cond.methodLink RX2 3 objectInit, Cond.instanceMethod objectInit, Cond.code objectInit ⟨#[0xb1]⟩ 1 none, Cond.arrayClass .int, Cond.fieldLink RX2 11 "SwallowedInTurn$Outlook" "reached" "[I", Cond.fieldLink RX2 15 "SwallowedInTurn$Outlook" "steps" "[I", Cond.fieldLink RX2 18 "SwallowedInTurn$Outlook" "firsts" "[I", Cond.arrayClass .boolean, Cond.fieldLink RX2 21 "SwallowedInTurn$Outlook" "isReached" "[Z", Cond.fieldLink RX2 25 "SwallowedInTurn$Outlook" "answers" "[I", Cond.fieldLink RX2 28 "SwallowedInTurn$Outlook" "startNumber" "I", Cond.fieldLink RX2 32 "SwallowedInTurn$Outlook" "startTotal" "I", Cond.fieldLink RX2 35 "SwallowedInTurn$Outlook" "crowd" "LSwallowedInTurn$Crowd;", Cond.classLink RX2 39 RX1, Cond.instantiable RX1 2, Cond.initialized RX1, Cond.fieldLink RX2 44 "SwallowedInTurn$Outlook" "here" "LSwallowedInTurn$Nesting;", Cond.fieldLink RX2 48 "SwallowedInTurn$Outlook" "next" "LSwallowedInTurn$Nesting;", Cond.methodLink RX2 41 yX1_init, Cond.instanceMethod yX1_init, Cond.code yX1_init cX1_init 2 none, Cond.methodLink RX1 3 objectInit, Cond.fieldLink RX1 9 "SwallowedInTurn$Nesting" "holders" "[I", Cond.fieldLink RX1 15 "SwallowedInTurn$Nesting" "crowd" "LSwallowedInTurn$Crowd;"]
def wsX2_init_r2 : List Cond := [Cond.methodLink RX1 19 yJ7_fill_53178, Cond.static yJ7_fill_53178, Cond.initialized RJ7, Cond.code yJ7_fill_53178 cJ7_fill_53178 4 none]
def wsX2_init : List Cond := .code yX2_init cX2_init 2 none :: ((wsX2_init_r1 ++ wsX2_init_r2) ++ wsX20 ++ wsX10)
def wsX2_reach : List Cond := .code yX2_reach cX2_reach 4 none :: ([.fieldLink RX2 21 "SwallowedInTurn$Outlook" "isReached" "[Z", .fieldLink RX2 60 "SwallowedInTurn$Outlook" "total" "I", .fieldLink RX2 11 "SwallowedInTurn$Outlook" "reached" "[I", .fieldLink RX2 15 "SwallowedInTurn$Outlook" "steps" "[I", .fieldLink RX2 18 "SwallowedInTurn$Outlook" "firsts" "[I"] ++ wsX20)
def wsX2_reachedAt : List Cond := .code yX2_reachedAt cX2_reachedAt 2 (some .int) :: ([.fieldLink RX2 11 "SwallowedInTurn$Outlook" "reached" "[I"] ++ wsX20)
def wsX2_stepsAt : List Cond := .code yX2_stepsAt cX2_stepsAt 2 (some .int) :: ([.fieldLink RX2 15 "SwallowedInTurn$Outlook" "steps" "[I"] ++ wsX20)
def wsX2_firstAt : List Cond := .code yX2_firstAt cX2_firstAt 2 (some .int) :: ([.fieldLink RX2 18 "SwallowedInTurn$Outlook" "firsts" "[I"] ++ wsX20)
def wsX2_spread_r1 : List Cond := [Cond.fieldLink RX2 44 "SwallowedInTurn$Outlook" "here" "LSwallowedInTurn$Nesting;", Cond.fieldLink RX2 48 "SwallowedInTurn$Outlook" "next" "LSwallowedInTurn$Nesting;", Cond.methodLink RX2 70 yX2_reachedAt, Cond.instanceMethod yX2_reachedAt, Cond.selects RX2 yX2_reachedAt yX2_reachedAt, Cond.initialized RX2, Cond.code yX2_reachedAt cX2_reachedAt 2 (some .int), Cond.fieldLink RX2 11 "SwallowedInTurn$Outlook" "reached" "[I", Cond.methodLink RX2 74 yX1_become, Cond.instanceMethod yX1_become, Cond.selects RX1 yX1_become yX1_become, Cond.initialized RX1, Cond.code yX1_become cX1_become 4 none, Cond.fieldLink RX1 9 "SwallowedInTurn$Nesting" "holders" "[I", Cond.methodLink RX2 77 yX2_stepsAt, Cond.instanceMethod yX2_stepsAt, Cond.selects RX2 yX2_stepsAt yX2_stepsAt, Cond.code yX2_stepsAt cX2_stepsAt 2 (some .int), Cond.fieldLink RX2 15 "SwallowedInTurn$Outlook" "steps" "[I", Cond.methodLink RX2 80 yX2_firstAt, Cond.instanceMethod yX2_firstAt, Cond.selects RX2 yX2_firstAt yX2_firstAt, Cond.code yX2_firstAt cX2_firstAt 2 (some .int), Cond.fieldLink RX2 18 "SwallowedInTurn$Outlook" "firsts" "[I"]
def wsX2_spread_r2 : List Cond := [Cond.methodLink RX2 83 yX1_allows, Cond.instanceMethod yX1_allows, Cond.selects RX1 yX1_allows yX1_allows, Cond.code yX1_allows cX1_allows 4 (some .boolean), Cond.fieldLink RX1 15 "SwallowedInTurn$Nesting" "crowd" "LSwallowedInTurn$Crowd;", Cond.methodLink RX1 43 yX0_knows, Cond.instanceMethod yX0_knows, Cond.selects RX0 yX0_knows yX0_knows, Cond.initialized RX0, Cond.code yX0_knows cX0_knows 2 (some .boolean), Cond.static yX5_isDeed, Cond.initialized RX5, Cond.code yX5_isDeed cX5_isDeed 1 (some .boolean), Cond.static yX5_doer, Cond.code yX5_doer cX5_doer 1 (some .int), Cond.methodLink RX0 31 yX0_has, Cond.instanceMethod yX0_has, Cond.selects RX0 yX0_has yX0_has, Cond.code yX0_has cX0_has 2 (some .boolean), Cond.fieldLink RX0 15 "SwallowedInTurn$Crowd" "total" "I", Cond.static yX5_prey, Cond.code yX5_prey cX5_prey 1 (some .int), Cond.methodLink RX5 223 yX5_doer, Cond.methodLink RX1 53 yX1_canSwallow]
def wsX2_spread_r3 : List Cond := [Cond.instanceMethod yX1_canSwallow, Cond.selects RX1 yX1_canSwallow yX1_canSwallow, Cond.code yX1_canSwallow cX1_canSwallow 5 (some .boolean), Cond.methodLink RX1 25 yX1_holder, Cond.instanceMethod yX1_holder, Cond.selects RX1 yX1_holder yX1_holder, Cond.code yX1_holder cX1_holder 2 (some .int), Cond.methodLink RX1 66 yX0_isOf, Cond.instanceMethod yX0_isOf, Cond.selects RX0 yX0_isOf yX0_isOf, Cond.code yX0_isOf cX0_isOf 4 (some .boolean), Cond.fieldLink RX0 41 "SwallowedInTurn$Crowd" "KINDS_OF_ONE" "[I", Cond.methodLink RX0 37 yX0_trait, Cond.instanceMethod yX0_trait, Cond.selects RX0 yX0_trait yX0_trait, Cond.code yX0_trait cX0_trait 4 (some .int), Cond.fieldLink RX0 9 "SwallowedInTurn$Crowd" "traits" "[I", Cond.methodLink RX1 35 yX0_trait, Cond.methodLink RX1 69 yX1_filled, Cond.instanceMethod yX1_filled, Cond.selects RX1 yX1_filled yX1_filled, Cond.code yX1_filled cX1_filled 4 (some .int), Cond.methodLink RX1 29 yX0_total, Cond.instanceMethod yX0_total]
def wsX2_spread_r4 : List Cond := [Cond.selects RX0 yX0_total yX0_total, Cond.code yX0_total cX0_total 1 (some .int), Cond.methodLink RX1 56 yX1_comingOut, Cond.instanceMethod yX1_comingOut, Cond.selects RX1 yX1_comingOut yX1_comingOut, Cond.code yX1_comingOut cX1_comingOut 7 (some .int), Cond.methodLink RX1 59 yX1_canTake, Cond.instanceMethod yX1_canTake, Cond.selects RX1 yX1_canTake yX1_canTake, Cond.code yX1_canTake cX1_canTake 5 (some .boolean), Cond.methodLink RX2 87 yX1_copy, Cond.instanceMethod yX1_copy, Cond.selects RX1 yX1_copy yX1_copy, Cond.code yX1_copy cX1_copy 3 none, Cond.methodLink RX2 91 yX1_carryOut, Cond.instanceMethod yX1_carryOut, Cond.selects RX1 yX1_carryOut yX1_carryOut, Cond.code yX1_carryOut cX1_carryOut 6 none, Cond.methodLink RX1 62 yX1_put, Cond.instanceMethod yX1_put, Cond.selects RX1 yX1_put yX1_put, Cond.code yX1_put cX1_put 3 none, Cond.methodLink RX2 51 yX1_toNumber, Cond.instanceMethod yX1_toNumber]
def wsX2_spread_r5 : List Cond := [Cond.selects RX1 yX1_toNumber yX1_toNumber, Cond.code yX1_toNumber cX1_toNumber 3 (some .int), Cond.methodLink RX2 62 yX2_reach, Cond.instanceMethod yX2_reach, Cond.selects RX2 yX2_reach yX2_reach, Cond.code yX2_reach cX2_reach 4 none, Cond.fieldLink RX2 21 "SwallowedInTurn$Outlook" "isReached" "[Z", Cond.fieldLink RX2 60 "SwallowedInTurn$Outlook" "total" "I"]
def wsX2_spread : List Cond := .code yX2_spread cX2_spread 5 none :: ((wsX2_spread_r1 ++ (wsX2_spread_r2 ++ (wsX2_spread_r3 ++ (wsX2_spread_r4 ++ wsX2_spread_r5)))) ++ wsX20 ++ wsX10 ++ wsX00)
def wsX2_lookFrom_r1 : List Cond := [Cond.fieldLink RX2 28 "SwallowedInTurn$Outlook" "startNumber" "I", Cond.fieldLink RX2 35 "SwallowedInTurn$Outlook" "crowd" "LSwallowedInTurn$Crowd;", Cond.fieldLink RX2 32 "SwallowedInTurn$Outlook" "startTotal" "I", Cond.fieldLink RX2 21 "SwallowedInTurn$Outlook" "isReached" "[Z", Cond.fieldLink RX2 60 "SwallowedInTurn$Outlook" "total" "I", Cond.fieldLink RX2 11 "SwallowedInTurn$Outlook" "reached" "[I", Cond.methodLink RX2 51 yX1_toNumber, Cond.instanceMethod yX1_toNumber, Cond.selects RX1 yX1_toNumber yX1_toNumber, Cond.initialized RX1, Cond.code yX1_toNumber cX1_toNumber 3 (some .int), Cond.fieldLink RX1 9 "SwallowedInTurn$Nesting" "holders" "[I", Cond.methodLink RX2 55 yX0_total, Cond.instanceMethod yX0_total, Cond.selects RX0 yX0_total yX0_total, Cond.initialized RX0, Cond.code yX0_total cX0_total 1 (some .int), Cond.fieldLink RX0 15 "SwallowedInTurn$Crowd" "total" "I", Cond.methodLink RX2 62 yX2_reach, Cond.instanceMethod yX2_reach, Cond.selects RX2 yX2_reach yX2_reach, Cond.initialized RX2, Cond.code yX2_reach cX2_reach 4 none, Cond.fieldLink RX2 15 "SwallowedInTurn$Outlook" "steps" "[I"]
def wsX2_lookFrom_r2 : List Cond := [Cond.fieldLink RX2 18 "SwallowedInTurn$Outlook" "firsts" "[I", Cond.methodLink RX2 66 yX2_spread, Cond.instanceMethod yX2_spread, Cond.selects RX2 yX2_spread yX2_spread, Cond.code yX2_spread cX2_spread 5 none, Cond.fieldLink RX2 44 "SwallowedInTurn$Outlook" "here" "LSwallowedInTurn$Nesting;", Cond.fieldLink RX2 48 "SwallowedInTurn$Outlook" "next" "LSwallowedInTurn$Nesting;", Cond.methodLink RX2 70 yX2_reachedAt, Cond.instanceMethod yX2_reachedAt, Cond.selects RX2 yX2_reachedAt yX2_reachedAt, Cond.code yX2_reachedAt cX2_reachedAt 2 (some .int), Cond.methodLink RX2 74 yX1_become, Cond.instanceMethod yX1_become, Cond.selects RX1 yX1_become yX1_become, Cond.code yX1_become cX1_become 4 none, Cond.methodLink RX2 77 yX2_stepsAt, Cond.instanceMethod yX2_stepsAt, Cond.selects RX2 yX2_stepsAt yX2_stepsAt, Cond.code yX2_stepsAt cX2_stepsAt 2 (some .int), Cond.methodLink RX2 80 yX2_firstAt, Cond.instanceMethod yX2_firstAt, Cond.selects RX2 yX2_firstAt yX2_firstAt, Cond.code yX2_firstAt cX2_firstAt 2 (some .int), Cond.methodLink RX2 83 yX1_allows]
def wsX2_lookFrom_r3 : List Cond := [Cond.instanceMethod yX1_allows, Cond.selects RX1 yX1_allows yX1_allows, Cond.code yX1_allows cX1_allows 4 (some .boolean), Cond.fieldLink RX1 15 "SwallowedInTurn$Nesting" "crowd" "LSwallowedInTurn$Crowd;", Cond.methodLink RX1 43 yX0_knows, Cond.instanceMethod yX0_knows, Cond.selects RX0 yX0_knows yX0_knows, Cond.code yX0_knows cX0_knows 2 (some .boolean), Cond.static yX5_isDeed, Cond.initialized RX5, Cond.code yX5_isDeed cX5_isDeed 1 (some .boolean), Cond.static yX5_doer, Cond.code yX5_doer cX5_doer 1 (some .int), Cond.methodLink RX0 31 yX0_has, Cond.instanceMethod yX0_has, Cond.selects RX0 yX0_has yX0_has, Cond.code yX0_has cX0_has 2 (some .boolean), Cond.static yX5_prey, Cond.code yX5_prey cX5_prey 1 (some .int), Cond.methodLink RX5 223 yX5_doer, Cond.methodLink RX1 53 yX1_canSwallow, Cond.instanceMethod yX1_canSwallow, Cond.selects RX1 yX1_canSwallow yX1_canSwallow, Cond.code yX1_canSwallow cX1_canSwallow 5 (some .boolean)]
def wsX2_lookFrom_r4 : List Cond := [Cond.methodLink RX1 25 yX1_holder, Cond.instanceMethod yX1_holder, Cond.selects RX1 yX1_holder yX1_holder, Cond.code yX1_holder cX1_holder 2 (some .int), Cond.methodLink RX1 66 yX0_isOf, Cond.instanceMethod yX0_isOf, Cond.selects RX0 yX0_isOf yX0_isOf, Cond.code yX0_isOf cX0_isOf 4 (some .boolean), Cond.fieldLink RX0 41 "SwallowedInTurn$Crowd" "KINDS_OF_ONE" "[I", Cond.methodLink RX0 37 yX0_trait, Cond.instanceMethod yX0_trait, Cond.selects RX0 yX0_trait yX0_trait, Cond.code yX0_trait cX0_trait 4 (some .int), Cond.fieldLink RX0 9 "SwallowedInTurn$Crowd" "traits" "[I", Cond.methodLink RX1 35 yX0_trait, Cond.methodLink RX1 69 yX1_filled, Cond.instanceMethod yX1_filled, Cond.selects RX1 yX1_filled yX1_filled, Cond.code yX1_filled cX1_filled 4 (some .int), Cond.methodLink RX1 29 yX0_total, Cond.methodLink RX1 56 yX1_comingOut, Cond.instanceMethod yX1_comingOut, Cond.selects RX1 yX1_comingOut yX1_comingOut, Cond.code yX1_comingOut cX1_comingOut 7 (some .int)]
def wsX2_lookFrom_r5 : List Cond := [Cond.methodLink RX1 59 yX1_canTake, Cond.instanceMethod yX1_canTake, Cond.selects RX1 yX1_canTake yX1_canTake, Cond.code yX1_canTake cX1_canTake 5 (some .boolean), Cond.methodLink RX2 87 yX1_copy, Cond.instanceMethod yX1_copy, Cond.selects RX1 yX1_copy yX1_copy, Cond.code yX1_copy cX1_copy 3 none, Cond.methodLink RX2 91 yX1_carryOut, Cond.instanceMethod yX1_carryOut, Cond.selects RX1 yX1_carryOut yX1_carryOut, Cond.code yX1_carryOut cX1_carryOut 6 none, Cond.methodLink RX1 62 yX1_put, Cond.instanceMethod yX1_put, Cond.selects RX1 yX1_put yX1_put, Cond.code yX1_put cX1_put 3 none]
def wsX2_lookFrom : List Cond := .code yX2_lookFrom cX2_lookFrom 4 none :: ((wsX2_lookFrom_r1 ++ (wsX2_lookFrom_r2 ++ (wsX2_lookFrom_r3 ++ (wsX2_lookFrom_r4 ++ wsX2_lookFrom_r5)))) ++ wsX20 ++ wsX10 ++ wsX00)
def wsX2_total : List Cond := .code yX2_total cX2_total 1 (some .int) :: ([.fieldLink RX2 60 "SwallowedInTurn$Outlook" "total" "I"] ++ wsX20)
def wsX2_numberAt : List Cond := .code yX2_numberAt cX2_numberAt 4 (some .int) :: ([.fieldLink RX2 21 "SwallowedInTurn$Outlook" "isReached" "[Z"] ++ wsX20)
def wsX2_placeWhereOut : List Cond := .code yX2_placeWhereOut cX2_placeWhereOut 3 (some .int) :: ([.fieldLink RX2 60 "SwallowedInTurn$Outlook" "total" "I", .fieldLink RX2 11 "SwallowedInTurn$Outlook" "reached" "[I", .fieldLink RX2 44 "SwallowedInTurn$Outlook" "here" "LSwallowedInTurn$Nesting;", .methodLink RX2 74 yX1_become, .instanceMethod yX1_become, .selects RX1 yX1_become yX1_become, .initialized RX1, .code yX1_become cX1_become 4 none, .fieldLink RX1 9 "SwallowedInTurn$Nesting" "holders" "[I", .methodLink RX2 94 yX1_areOutside, .instanceMethod yX1_areOutside, .selects RX1 yX1_areOutside yX1_areOutside, .code yX1_areOutside cX1_areOutside 3 (some .boolean)] ++ wsX20 ++ wsX10)
def wsX2_placeWhereTogether : List Cond := .code yX2_placeWhereTogether cX2_placeWhereTogether 4 (some .int) :: ([.fieldLink RX2 60 "SwallowedInTurn$Outlook" "total" "I", .fieldLink RX2 11 "SwallowedInTurn$Outlook" "reached" "[I", .fieldLink RX2 44 "SwallowedInTurn$Outlook" "here" "LSwallowedInTurn$Nesting;", .methodLink RX2 74 yX1_become, .instanceMethod yX1_become, .selects RX1 yX1_become yX1_become, .initialized RX1, .code yX1_become cX1_become 4 none, .fieldLink RX1 9 "SwallowedInTurn$Nesting" "holders" "[I", .methodLink RX2 97 yX1_holder, .instanceMethod yX1_holder, .selects RX1 yX1_holder yX1_holder, .code yX1_holder cX1_holder 2 (some .int)] ++ wsX20 ++ wsX10)
def wsX2_mostWalls : List Cond := .code yX2_mostWalls cX2_mostWalls 4 (some .int) :: ([.fieldLink RX2 60 "SwallowedInTurn$Outlook" "total" "I", .fieldLink RX2 11 "SwallowedInTurn$Outlook" "reached" "[I", .fieldLink RX2 44 "SwallowedInTurn$Outlook" "here" "LSwallowedInTurn$Nesting;", .methodLink RX2 103 Lib.Math.max.name, .static Lib.Math.max.name, .initialized "java/lang/Math", .code Lib.Math.max.name Lib.Math.max.code 2 (some .int), .methodLink RX2 74 yX1_become, .instanceMethod yX1_become, .selects RX1 yX1_become yX1_become, .initialized RX1, .code yX1_become cX1_become 4 none, .fieldLink RX1 9 "SwallowedInTurn$Nesting" "holders" "[I", .methodLink RX2 100 yX1_walls, .instanceMethod yX1_walls, .selects RX1 yX1_walls yX1_walls, .code yX1_walls cX1_walls 4 (some .int), .methodLink RX1 25 yX1_holder, .instanceMethod yX1_holder, .selects RX1 yX1_holder yX1_holder, .code yX1_holder cX1_holder 2 (some .int)] ++ wsX20 ++ wsX10)
def wsX4_isSoIn : List Cond := .code yX4_isSoIn cX4_isSoIn 3 (some .boolean) :: ([.fieldLink RX4 16 "SwallowedInTurn$Talk" "length" "I", .fieldLink RX4 7 "SwallowedInTurn$Talk" "tellers" "[I", .fieldLink RX4 13 "SwallowedInTurn$Talk" "heard" "[I", .methodLink RX4 20 yX1_heardBy, .instanceMethod yX1_heardBy, .selects RX1 yX1_heardBy yX1_heardBy, .initialized RX1, .code yX1_heardBy cX1_heardBy 4 (some .int), .fieldLink RX1 15 "SwallowedInTurn$Nesting" "crowd" "LSwallowedInTurn$Crowd;", .methodLink RX1 29 yX0_total, .instanceMethod yX0_total, .selects RX0 yX0_total yX0_total, .initialized RX0, .code yX0_total cX0_total 1 (some .int), .fieldLink RX0 15 "SwallowedInTurn$Crowd" "total" "I", .methodLink RX1 39 yX1_hears, .instanceMethod yX1_hears, .selects RX1 yX1_hears yX1_hears, .code yX1_hears cX1_hears 5 (some .boolean), .methodLink RX1 25 yX1_holder, .instanceMethod yX1_holder, .selects RX1 yX1_holder yX1_holder, .code yX1_holder cX1_holder 2 (some .int), .fieldLink RX1 9 "SwallowedInTurn$Nesting" "holders" "[I"] ++ wsX40 ++ wsX10 ++ wsX00)
def wsX2_fitting_r1 : List Cond := [Cond.fieldLink RX2 60 "SwallowedInTurn$Outlook" "total" "I", Cond.fieldLink RX2 11 "SwallowedInTurn$Outlook" "reached" "[I", Cond.fieldLink RX2 44 "SwallowedInTurn$Outlook" "here" "LSwallowedInTurn$Nesting;", Cond.methodLink RX2 74 yX1_become, Cond.instanceMethod yX1_become, Cond.selects RX1 yX1_become yX1_become, Cond.initialized RX1, Cond.code yX1_become cX1_become 4 none, Cond.fieldLink RX1 9 "SwallowedInTurn$Nesting" "holders" "[I", Cond.methodLink RX2 109 yX4_isSoIn, Cond.instanceMethod yX4_isSoIn, Cond.selects RX4 yX4_isSoIn yX4_isSoIn, Cond.initialized RX4, Cond.code yX4_isSoIn cX4_isSoIn 3 (some .boolean), Cond.fieldLink RX4 16 "SwallowedInTurn$Talk" "length" "I", Cond.fieldLink RX4 7 "SwallowedInTurn$Talk" "tellers" "[I", Cond.fieldLink RX4 13 "SwallowedInTurn$Talk" "heard" "[I", Cond.methodLink RX4 20 yX1_heardBy, Cond.instanceMethod yX1_heardBy, Cond.selects RX1 yX1_heardBy yX1_heardBy, Cond.code yX1_heardBy cX1_heardBy 4 (some .int), Cond.fieldLink RX1 15 "SwallowedInTurn$Nesting" "crowd" "LSwallowedInTurn$Crowd;", Cond.methodLink RX1 29 yX0_total, Cond.instanceMethod yX0_total]
def wsX2_fitting_r2 : List Cond := [Cond.selects RX0 yX0_total yX0_total, Cond.initialized RX0, Cond.code yX0_total cX0_total 1 (some .int), Cond.fieldLink RX0 15 "SwallowedInTurn$Crowd" "total" "I", Cond.methodLink RX1 39 yX1_hears, Cond.instanceMethod yX1_hears, Cond.selects RX1 yX1_hears yX1_hears, Cond.code yX1_hears cX1_hears 5 (some .boolean), Cond.methodLink RX1 25 yX1_holder, Cond.instanceMethod yX1_holder, Cond.selects RX1 yX1_holder yX1_holder, Cond.code yX1_holder cX1_holder 2 (some .int)]
def wsX2_fitting : List Cond := .code yX2_fitting cX2_fitting 4 (some .int) :: ((wsX2_fitting_r1 ++ wsX2_fitting_r2) ++ wsX20 ++ wsX10 ++ wsX40 ++ wsX00)
def wsX2_sureHolder_r1 : List Cond := [Cond.fieldLink RX2 60 "SwallowedInTurn$Outlook" "total" "I", Cond.fieldLink RX2 11 "SwallowedInTurn$Outlook" "reached" "[I", Cond.fieldLink RX2 44 "SwallowedInTurn$Outlook" "here" "LSwallowedInTurn$Nesting;", Cond.methodLink RX2 74 yX1_become, Cond.instanceMethod yX1_become, Cond.selects RX1 yX1_become yX1_become, Cond.initialized RX1, Cond.code yX1_become cX1_become 4 none, Cond.fieldLink RX1 9 "SwallowedInTurn$Nesting" "holders" "[I", Cond.methodLink RX2 109 yX4_isSoIn, Cond.instanceMethod yX4_isSoIn, Cond.selects RX4 yX4_isSoIn yX4_isSoIn, Cond.initialized RX4, Cond.code yX4_isSoIn cX4_isSoIn 3 (some .boolean), Cond.fieldLink RX4 16 "SwallowedInTurn$Talk" "length" "I", Cond.fieldLink RX4 7 "SwallowedInTurn$Talk" "tellers" "[I", Cond.fieldLink RX4 13 "SwallowedInTurn$Talk" "heard" "[I", Cond.methodLink RX4 20 yX1_heardBy, Cond.instanceMethod yX1_heardBy, Cond.selects RX1 yX1_heardBy yX1_heardBy, Cond.code yX1_heardBy cX1_heardBy 4 (some .int), Cond.fieldLink RX1 15 "SwallowedInTurn$Nesting" "crowd" "LSwallowedInTurn$Crowd;", Cond.methodLink RX1 29 yX0_total, Cond.instanceMethod yX0_total]
def wsX2_sureHolder_r2 : List Cond := [Cond.selects RX0 yX0_total yX0_total, Cond.initialized RX0, Cond.code yX0_total cX0_total 1 (some .int), Cond.fieldLink RX0 15 "SwallowedInTurn$Crowd" "total" "I", Cond.methodLink RX1 39 yX1_hears, Cond.instanceMethod yX1_hears, Cond.selects RX1 yX1_hears yX1_hears, Cond.code yX1_hears cX1_hears 5 (some .boolean), Cond.methodLink RX1 25 yX1_holder, Cond.instanceMethod yX1_holder, Cond.selects RX1 yX1_holder yX1_holder, Cond.code yX1_holder cX1_holder 2 (some .int), Cond.methodLink RX2 97 yX1_holder]
def wsX2_sureHolder : List Cond := .code yX2_sureHolder cX2_sureHolder 5 (some .int) :: ((wsX2_sureHolder_r1 ++ wsX2_sureHolder_r2) ++ wsX20 ++ wsX10 ++ wsX40 ++ wsX00)
def wsX2_mostLeft_r1 : List Cond := [Cond.fieldLink RX2 25 "SwallowedInTurn$Outlook" "answers" "[I", Cond.fieldLink RX2 60 "SwallowedInTurn$Outlook" "total" "I", Cond.fieldLink RX2 11 "SwallowedInTurn$Outlook" "reached" "[I", Cond.fieldLink RX2 44 "SwallowedInTurn$Outlook" "here" "LSwallowedInTurn$Nesting;", Cond.methodLink RX2 103 Lib.Math.max.name, Cond.static Lib.Math.max.name, Cond.initialized "java/lang/Math", Cond.code Lib.Math.max.name Lib.Math.max.code 2 (some .int), Cond.methodLink RX2 119 yJ7_fill_53178, Cond.static yJ7_fill_53178, Cond.initialized RJ7, Cond.code yJ7_fill_53178 cJ7_fill_53178 4 none, Cond.methodLink RX2 74 yX1_become, Cond.instanceMethod yX1_become, Cond.selects RX1 yX1_become yX1_become, Cond.initialized RX1, Cond.code yX1_become cX1_become 4 none, Cond.fieldLink RX1 9 "SwallowedInTurn$Nesting" "holders" "[I", Cond.methodLink RX2 125 yX1_heardBy, Cond.instanceMethod yX1_heardBy, Cond.selects RX1 yX1_heardBy yX1_heardBy, Cond.code yX1_heardBy cX1_heardBy 4 (some .int), Cond.fieldLink RX1 15 "SwallowedInTurn$Nesting" "crowd" "LSwallowedInTurn$Crowd;", Cond.methodLink RX1 29 yX0_total]
def wsX2_mostLeft_r2 : List Cond := [Cond.instanceMethod yX0_total, Cond.selects RX0 yX0_total yX0_total, Cond.initialized RX0, Cond.code yX0_total cX0_total 1 (some .int), Cond.fieldLink RX0 15 "SwallowedInTurn$Crowd" "total" "I", Cond.methodLink RX1 39 yX1_hears, Cond.instanceMethod yX1_hears, Cond.selects RX1 yX1_hears yX1_hears, Cond.code yX1_hears cX1_hears 5 (some .boolean), Cond.methodLink RX1 25 yX1_holder, Cond.instanceMethod yX1_holder, Cond.selects RX1 yX1_holder yX1_holder, Cond.code yX1_holder cX1_holder 2 (some .int), Cond.methodLink RX2 109 yX4_isSoIn, Cond.instanceMethod yX4_isSoIn, Cond.selects RX4 yX4_isSoIn yX4_isSoIn, Cond.initialized RX4, Cond.code yX4_isSoIn cX4_isSoIn 3 (some .boolean), Cond.fieldLink RX4 16 "SwallowedInTurn$Talk" "length" "I", Cond.fieldLink RX4 7 "SwallowedInTurn$Talk" "tellers" "[I", Cond.fieldLink RX4 13 "SwallowedInTurn$Talk" "heard" "[I", Cond.methodLink RX4 20 yX1_heardBy]
def wsX2_mostLeft : List Cond := .code yX2_mostLeft cX2_mostLeft 6 (some .int) :: ((wsX2_mostLeft_r1 ++ wsX2_mostLeft_r2) ++ wsX20 ++ wsX10 ++ wsX00 ++ wsX40)
def wsX2_bestAsked_r1 : List Cond := [Cond.fieldLink RX2 35 "SwallowedInTurn$Outlook" "crowd" "LSwallowedInTurn$Crowd;", Cond.methodLink RX2 55 yX0_total, Cond.instanceMethod yX0_total, Cond.selects RX0 yX0_total yX0_total, Cond.initialized RX0, Cond.code yX0_total cX0_total 1 (some .int), Cond.fieldLink RX0 15 "SwallowedInTurn$Crowd" "total" "I", Cond.methodLink RX2 115 yX2_mostLeft, Cond.instanceMethod yX2_mostLeft, Cond.selects RX2 yX2_mostLeft yX2_mostLeft, Cond.initialized RX2, Cond.code yX2_mostLeft cX2_mostLeft 6 (some .int), Cond.fieldLink RX2 25 "SwallowedInTurn$Outlook" "answers" "[I", Cond.fieldLink RX2 60 "SwallowedInTurn$Outlook" "total" "I", Cond.fieldLink RX2 11 "SwallowedInTurn$Outlook" "reached" "[I", Cond.fieldLink RX2 44 "SwallowedInTurn$Outlook" "here" "LSwallowedInTurn$Nesting;", Cond.methodLink RX2 103 Lib.Math.max.name, Cond.static Lib.Math.max.name, Cond.initialized "java/lang/Math", Cond.code Lib.Math.max.name Lib.Math.max.code 2 (some .int), Cond.methodLink RX2 119 yJ7_fill_53178, Cond.static yJ7_fill_53178, Cond.initialized RJ7, Cond.code yJ7_fill_53178 cJ7_fill_53178 4 none]
def wsX2_bestAsked_r2 : List Cond := [Cond.methodLink RX2 74 yX1_become, Cond.instanceMethod yX1_become, Cond.selects RX1 yX1_become yX1_become, Cond.initialized RX1, Cond.code yX1_become cX1_become 4 none, Cond.fieldLink RX1 9 "SwallowedInTurn$Nesting" "holders" "[I", Cond.methodLink RX2 125 yX1_heardBy, Cond.instanceMethod yX1_heardBy, Cond.selects RX1 yX1_heardBy yX1_heardBy, Cond.code yX1_heardBy cX1_heardBy 4 (some .int), Cond.fieldLink RX1 15 "SwallowedInTurn$Nesting" "crowd" "LSwallowedInTurn$Crowd;", Cond.methodLink RX1 29 yX0_total, Cond.methodLink RX1 39 yX1_hears, Cond.instanceMethod yX1_hears, Cond.selects RX1 yX1_hears yX1_hears, Cond.code yX1_hears cX1_hears 5 (some .boolean), Cond.methodLink RX1 25 yX1_holder, Cond.instanceMethod yX1_holder, Cond.selects RX1 yX1_holder yX1_holder, Cond.code yX1_holder cX1_holder 2 (some .int), Cond.methodLink RX2 109 yX4_isSoIn, Cond.instanceMethod yX4_isSoIn, Cond.selects RX4 yX4_isSoIn yX4_isSoIn, Cond.initialized RX4]
def wsX2_bestAsked_r3 : List Cond := [Cond.code yX4_isSoIn cX4_isSoIn 3 (some .boolean), Cond.fieldLink RX4 16 "SwallowedInTurn$Talk" "length" "I", Cond.fieldLink RX4 7 "SwallowedInTurn$Talk" "tellers" "[I", Cond.fieldLink RX4 13 "SwallowedInTurn$Talk" "heard" "[I", Cond.methodLink RX4 20 yX1_heardBy]
def wsX2_bestAsked : List Cond := .code yX2_bestAsked cX2_bestAsked 6 (some .int) :: ((wsX2_bestAsked_r1 ++ (wsX2_bestAsked_r2 ++ wsX2_bestAsked_r3)) ++ wsX20 ++ wsX00 ++ wsX10 ++ wsX40)
def wsX3_init : List Cond := .code yX3_init cX3_init 1 none :: ([.methodLink RX3 3 objectInit, .instanceMethod objectInit, .code objectInit ⟨#[0xb1]⟩ 1 none, .arrayClass .int, .fieldLink RX3 9 "SwallowedInTurn$Page" "letters" "[I", .fieldLink RX3 15 "SwallowedInTurn$Page" "deeds" "[I"] ++ wsX30)
def wsX3_length : List Cond := .code yX3_length cX3_length 1 (some .int) :: ([.fieldLink RX3 18 "SwallowedInTurn$Page" "length" "I"] ++ wsX30)
def wsX3_letterAt : List Cond := .code yX3_letterAt cX3_letterAt 2 (some .int) :: ([.fieldLink RX3 9 "SwallowedInTurn$Page" "letters" "[I"] ++ wsX30)
def wsX3_write : List Cond := .code yX3_write cX3_write 2 (some .boolean) :: ([.fieldLink RX3 18 "SwallowedInTurn$Page" "length" "I", .fieldLink RX3 9 "SwallowedInTurn$Page" "letters" "[I"] ++ wsX30)
def wsX3_clear : List Cond := .code yX3_clear cX3_clear 2 (some .int) :: ([.fieldLink RX3 18 "SwallowedInTurn$Page" "length" "I"] ++ wsX30)
def wsX3_deeds : List Cond := .code yX3_deeds cX3_deeds 1 (some .int) :: ([.fieldLink RX3 22 "SwallowedInTurn$Page" "read" "I"] ++ wsX30)
def wsX3_deedAt : List Cond := .code yX3_deedAt cX3_deedAt 2 (some .int) :: ([.fieldLink RX3 15 "SwallowedInTurn$Page" "deeds" "[I"] ++ wsX30)
def wsX3_isWhole : List Cond := .code yX3_isWhole cX3_isWhole 1 (some .boolean) :: ([.fieldLink RX3 25 "SwallowedInTurn$Page" "whole" "Z"] ++ wsX30)
def wsX3_takeFigure : List Cond := .code yX3_takeFigure cX3_takeFigure 2 (some .boolean) :: ([.fieldLink RX3 42 "SwallowedInTurn$Page" "begun" "I", .fieldLink RX3 29 "SwallowedInTurn$Page" "figuresDue" "I", .fieldLink RX3 22 "SwallowedInTurn$Page" "read" "I", .fieldLink RX3 15 "SwallowedInTurn$Page" "deeds" "[I", .fieldLink RX3 25 "SwallowedInTurn$Page" "whole" "Z"] ++ wsX30)
def wsX3_takeSign : List Cond := .code yX3_takeSign cX3_takeSign 2 (some .boolean) :: ([.fieldLink RX3 42 "SwallowedInTurn$Page" "begun" "I", .fieldLink RX3 29 "SwallowedInTurn$Page" "figuresDue" "I"] ++ wsX30)
def wsX3_take : List Cond := .code yX3_take cX3_take 2 (some .boolean) :: ([.fieldLink RX3 29 "SwallowedInTurn$Page" "figuresDue" "I", .fieldLink RX3 25 "SwallowedInTurn$Page" "whole" "Z", .fieldLink RX3 22 "SwallowedInTurn$Page" "read" "I", .methodLink RX3 36 yX3_takeFigure, .instanceMethod yX3_takeFigure, .selects RX3 yX3_takeFigure yX3_takeFigure, .initialized RX3, .code yX3_takeFigure cX3_takeFigure 2 (some .boolean), .fieldLink RX3 42 "SwallowedInTurn$Page" "begun" "I", .fieldLink RX3 15 "SwallowedInTurn$Page" "deeds" "[I", .methodLink RX3 39 yX3_takeSign, .instanceMethod yX3_takeSign, .selects RX3 yX3_takeSign yX3_takeSign, .code yX3_takeSign cX3_takeSign 2 (some .boolean)] ++ wsX30)
def wsX3_read : List Cond := .code yX3_read cX3_read 2 (some .int) :: ([.fieldLink RX3 22 "SwallowedInTurn$Page" "read" "I", .fieldLink RX3 29 "SwallowedInTurn$Page" "figuresDue" "I", .fieldLink RX3 25 "SwallowedInTurn$Page" "whole" "Z", .fieldLink RX3 18 "SwallowedInTurn$Page" "length" "I", .fieldLink RX3 9 "SwallowedInTurn$Page" "letters" "[I", .methodLink RX3 32 yX3_take, .instanceMethod yX3_take, .selects RX3 yX3_take yX3_take, .initialized RX3, .code yX3_take cX3_take 2 (some .boolean), .methodLink RX3 36 yX3_takeFigure, .instanceMethod yX3_takeFigure, .selects RX3 yX3_takeFigure yX3_takeFigure, .code yX3_takeFigure cX3_takeFigure 2 (some .boolean), .fieldLink RX3 42 "SwallowedInTurn$Page" "begun" "I", .fieldLink RX3 15 "SwallowedInTurn$Page" "deeds" "[I", .methodLink RX3 39 yX3_takeSign, .instanceMethod yX3_takeSign, .selects RX3 yX3_takeSign yX3_takeSign, .code yX3_takeSign cX3_takeSign 2 (some .boolean)] ++ wsX30)
def wsX4_init : List Cond := .code yX4_init cX4_init 1 none :: ([.methodLink RX4 1 objectInit, .instanceMethod objectInit, .code objectInit ⟨#[0xb1]⟩ 1 none, .arrayClass .int, .fieldLink RX4 7 "SwallowedInTurn$Talk" "tellers" "[I", .fieldLink RX4 13 "SwallowedInTurn$Talk" "heard" "[I"] ++ wsX40)
def wsX4_length : List Cond := .code yX4_length cX4_length 1 (some .int) :: ([.fieldLink RX4 16 "SwallowedInTurn$Talk" "length" "I"] ++ wsX40)
def wsX4_keep : List Cond := .code yX4_keep cX4_keep 3 (some .boolean) :: ([.fieldLink RX4 16 "SwallowedInTurn$Talk" "length" "I", .fieldLink RX4 7 "SwallowedInTurn$Talk" "tellers" "[I", .fieldLink RX4 13 "SwallowedInTurn$Talk" "heard" "[I"] ++ wsX40)
def wsX4_clear : List Cond := .code yX4_clear cX4_clear 2 (some .int) :: ([.fieldLink RX4 16 "SwallowedInTurn$Talk" "length" "I"] ++ wsX40)
def wsX4_copy : List Cond := .code yX4_copy cX4_copy 3 none :: ([.fieldLink RX4 7 "SwallowedInTurn$Talk" "tellers" "[I", .fieldLink RX4 13 "SwallowedInTurn$Talk" "heard" "[I", .fieldLink RX4 16 "SwallowedInTurn$Talk" "length" "I"] ++ wsX40)
def wsX5_init_r1 : List Cond := [Cond.methodLink RX5 3 objectInit, Cond.instanceMethod objectInit, Cond.code objectInit ⟨#[0xb1]⟩ 1 none, Cond.classLink RX5 9 RX0, Cond.instantiable RX0 2, Cond.initialized RX0, Cond.fieldLink RX5 12 "SwallowedInTurn" "crowd" "LSwallowedInTurn$Crowd;", Cond.classLink RX5 16 RX1, Cond.instantiable RX1 2, Cond.initialized RX1, Cond.fieldLink RX5 21 "SwallowedInTurn" "now" "LSwallowedInTurn$Nesting;", Cond.fieldLink RX5 25 "SwallowedInTurn" "trial" "LSwallowedInTurn$Nesting;", Cond.classLink RX5 28 RX2, Cond.instantiable RX2 11, Cond.initialized RX2, Cond.fieldLink RX5 31 "SwallowedInTurn" "outlook" "LSwallowedInTurn$Outlook;", Cond.classLink RX5 35 RX3, Cond.instantiable RX3 7, Cond.initialized RX3, Cond.fieldLink RX5 38 "SwallowedInTurn" "page" "LSwallowedInTurn$Page;", Cond.classLink RX5 42 RX4, Cond.instantiable RX4 3, Cond.initialized RX4, Cond.fieldLink RX5 45 "SwallowedInTurn" "talk" "LSwallowedInTurn$Talk;"]
def wsX5_init_r2 : List Cond := [Cond.fieldLink RX5 49 "SwallowedInTurn" "keptTalk" "LSwallowedInTurn$Talk;", Cond.fieldLink RX5 52 "SwallowedInTurn" "keptTotal" "I", Cond.instanceMethod yX0_init, Cond.code yX0_init cX0_init 1 none, Cond.methodLink RX0 3 objectInit, Cond.arrayClass .int, Cond.fieldLink RX0 9 "SwallowedInTurn$Crowd" "traits" "[I", Cond.methodLink RX5 18 yX1_init, Cond.instanceMethod yX1_init, Cond.code yX1_init cX1_init 2 none, Cond.methodLink RX1 3 objectInit, Cond.fieldLink RX1 9 "SwallowedInTurn$Nesting" "holders" "[I", Cond.fieldLink RX1 15 "SwallowedInTurn$Nesting" "crowd" "LSwallowedInTurn$Crowd;", Cond.methodLink RX1 19 yJ7_fill_53178, Cond.static yJ7_fill_53178, Cond.initialized RJ7, Cond.code yJ7_fill_53178 cJ7_fill_53178 4 none, Cond.methodLink RX5 30 yX2_init, Cond.instanceMethod yX2_init, Cond.code yX2_init cX2_init 2 none, Cond.methodLink RX2 3 objectInit, Cond.fieldLink RX2 11 "SwallowedInTurn$Outlook" "reached" "[I", Cond.fieldLink RX2 15 "SwallowedInTurn$Outlook" "steps" "[I", Cond.fieldLink RX2 18 "SwallowedInTurn$Outlook" "firsts" "[I"]
def wsX5_init_r3 : List Cond := [Cond.arrayClass .boolean, Cond.fieldLink RX2 21 "SwallowedInTurn$Outlook" "isReached" "[Z", Cond.fieldLink RX2 25 "SwallowedInTurn$Outlook" "answers" "[I", Cond.fieldLink RX2 28 "SwallowedInTurn$Outlook" "startNumber" "I", Cond.fieldLink RX2 32 "SwallowedInTurn$Outlook" "startTotal" "I", Cond.fieldLink RX2 35 "SwallowedInTurn$Outlook" "crowd" "LSwallowedInTurn$Crowd;", Cond.classLink RX2 39 RX1, Cond.fieldLink RX2 44 "SwallowedInTurn$Outlook" "here" "LSwallowedInTurn$Nesting;", Cond.fieldLink RX2 48 "SwallowedInTurn$Outlook" "next" "LSwallowedInTurn$Nesting;", Cond.methodLink RX2 41 yX1_init, Cond.instanceMethod yX3_init, Cond.code yX3_init cX3_init 1 none, Cond.methodLink RX3 3 objectInit, Cond.fieldLink RX3 9 "SwallowedInTurn$Page" "letters" "[I", Cond.fieldLink RX3 15 "SwallowedInTurn$Page" "deeds" "[I", Cond.instanceMethod yX4_init, Cond.code yX4_init cX4_init 1 none, Cond.methodLink RX4 1 objectInit, Cond.fieldLink RX4 7 "SwallowedInTurn$Talk" "tellers" "[I", Cond.fieldLink RX4 13 "SwallowedInTurn$Talk" "heard" "[I"]
def wsX5_init : List Cond := .code yX5_init cX5_init 1 none :: ((wsX5_init_r1 ++ (wsX5_init_r2 ++ wsX5_init_r3)) ++ wsX00 ++ wsX50 ++ wsX10 ++ wsX20 ++ wsX30 ++ wsX40)
def wsX5_letter : List Cond := .code yX5_letter cX5_letter 2 (some .int) :: ([.fieldLink RX5 38 "SwallowedInTurn" "page" "LSwallowedInTurn$Page;", .methodLink RX5 56 yX3_write, .instanceMethod yX3_write, .selects RX3 yX3_write yX3_write, .initialized RX3, .code yX3_write cX3_write 2 (some .boolean), .fieldLink RX3 18 "SwallowedInTurn$Page" "length" "I", .fieldLink RX3 9 "SwallowedInTurn$Page" "letters" "[I", .methodLink RX5 60 yX3_length, .instanceMethod yX3_length, .selects RX3 yX3_length yX3_length, .code yX3_length cX3_length 1 (some .int)] ++ wsX50 ++ wsX30)
def wsX5_blank : List Cond := .code yX5_blank cX5_blank 1 (some .int) :: ([.fieldLink RX5 38 "SwallowedInTurn" "page" "LSwallowedInTurn$Page;", .methodLink RX5 64 yX3_clear, .instanceMethod yX3_clear, .selects RX3 yX3_clear yX3_clear, .initialized RX3, .code yX3_clear cX3_clear 2 (some .int), .fieldLink RX3 18 "SwallowedInTurn$Page" "length" "I"] ++ wsX50 ++ wsX30)
def wsX5_fault_r1 : List Cond := [Cond.fieldLink RX5 38 "SwallowedInTurn" "page" "LSwallowedInTurn$Page;", Cond.methodLink RX5 67 yX3_read, Cond.instanceMethod yX3_read, Cond.selects RX3 yX3_read yX3_read, Cond.initialized RX3, Cond.code yX3_read cX3_read 2 (some .int), Cond.fieldLink RX3 22 "SwallowedInTurn$Page" "read" "I", Cond.fieldLink RX3 29 "SwallowedInTurn$Page" "figuresDue" "I", Cond.fieldLink RX3 25 "SwallowedInTurn$Page" "whole" "Z", Cond.fieldLink RX3 18 "SwallowedInTurn$Page" "length" "I", Cond.fieldLink RX3 9 "SwallowedInTurn$Page" "letters" "[I", Cond.methodLink RX3 32 yX3_take, Cond.instanceMethod yX3_take, Cond.selects RX3 yX3_take yX3_take, Cond.code yX3_take cX3_take 2 (some .boolean), Cond.methodLink RX3 36 yX3_takeFigure, Cond.instanceMethod yX3_takeFigure, Cond.selects RX3 yX3_takeFigure yX3_takeFigure, Cond.code yX3_takeFigure cX3_takeFigure 2 (some .boolean), Cond.fieldLink RX3 42 "SwallowedInTurn$Page" "begun" "I", Cond.fieldLink RX3 15 "SwallowedInTurn$Page" "deeds" "[I", Cond.methodLink RX3 39 yX3_takeSign, Cond.instanceMethod yX3_takeSign, Cond.selects RX3 yX3_takeSign yX3_takeSign]
def wsX5_fault_r2 : List Cond := [Cond.code yX3_takeSign cX3_takeSign 2 (some .boolean)]
def wsX5_fault : List Cond := .code yX5_fault cX5_fault 1 (some .int) :: ((wsX5_fault_r1 ++ wsX5_fault_r2) ++ wsX50 ++ wsX30)
def wsX5_tale_r1 : List Cond := [Cond.fieldLink RX5 38 "SwallowedInTurn" "page" "LSwallowedInTurn$Page;", Cond.fieldLink RX5 25 "SwallowedInTurn" "trial" "LSwallowedInTurn$Nesting;", Cond.fieldLink RX5 21 "SwallowedInTurn" "now" "LSwallowedInTurn$Nesting;", Cond.methodLink RX5 67 yX3_read, Cond.instanceMethod yX3_read, Cond.selects RX3 yX3_read yX3_read, Cond.initialized RX3, Cond.code yX3_read cX3_read 2 (some .int), Cond.fieldLink RX3 22 "SwallowedInTurn$Page" "read" "I", Cond.fieldLink RX3 29 "SwallowedInTurn$Page" "figuresDue" "I", Cond.fieldLink RX3 25 "SwallowedInTurn$Page" "whole" "Z", Cond.fieldLink RX3 18 "SwallowedInTurn$Page" "length" "I", Cond.fieldLink RX3 9 "SwallowedInTurn$Page" "letters" "[I", Cond.methodLink RX3 32 yX3_take, Cond.instanceMethod yX3_take, Cond.selects RX3 yX3_take yX3_take, Cond.code yX3_take cX3_take 2 (some .boolean), Cond.methodLink RX3 36 yX3_takeFigure, Cond.instanceMethod yX3_takeFigure, Cond.selects RX3 yX3_takeFigure yX3_takeFigure, Cond.code yX3_takeFigure cX3_takeFigure 2 (some .boolean), Cond.fieldLink RX3 42 "SwallowedInTurn$Page" "begun" "I", Cond.fieldLink RX3 15 "SwallowedInTurn$Page" "deeds" "[I", Cond.methodLink RX3 39 yX3_takeSign]
def wsX5_tale_r2 : List Cond := [Cond.instanceMethod yX3_takeSign, Cond.selects RX3 yX3_takeSign yX3_takeSign, Cond.code yX3_takeSign cX3_takeSign 2 (some .boolean), Cond.methodLink RX5 60 yX3_length, Cond.instanceMethod yX3_length, Cond.selects RX3 yX3_length yX3_length, Cond.code yX3_length cX3_length 1 (some .int), Cond.methodLink RX5 70 yX3_isWhole, Cond.instanceMethod yX3_isWhole, Cond.selects RX3 yX3_isWhole yX3_isWhole, Cond.code yX3_isWhole cX3_isWhole 1 (some .boolean), Cond.methodLink RX5 74 yX1_copy, Cond.instanceMethod yX1_copy, Cond.selects RX1 yX1_copy yX1_copy, Cond.initialized RX1, Cond.code yX1_copy cX1_copy 3 none, Cond.fieldLink RX1 9 "SwallowedInTurn$Nesting" "holders" "[I", Cond.methodLink RX1 25 yX1_holder, Cond.instanceMethod yX1_holder, Cond.selects RX1 yX1_holder yX1_holder, Cond.code yX1_holder cX1_holder 2 (some .int), Cond.methodLink RX5 78 yX3_deeds, Cond.instanceMethod yX3_deeds, Cond.selects RX3 yX3_deeds yX3_deeds]
def wsX5_tale_r3 : List Cond := [Cond.code yX3_deeds cX3_deeds 1 (some .int), Cond.methodLink RX5 81 yX3_deedAt, Cond.instanceMethod yX3_deedAt, Cond.selects RX3 yX3_deedAt yX3_deedAt, Cond.code yX3_deedAt cX3_deedAt 2 (some .int), Cond.methodLink RX5 85 yX1_allows, Cond.instanceMethod yX1_allows, Cond.selects RX1 yX1_allows yX1_allows, Cond.code yX1_allows cX1_allows 4 (some .boolean), Cond.fieldLink RX1 15 "SwallowedInTurn$Nesting" "crowd" "LSwallowedInTurn$Crowd;", Cond.methodLink RX1 43 yX0_knows, Cond.instanceMethod yX0_knows, Cond.selects RX0 yX0_knows yX0_knows, Cond.initialized RX0, Cond.code yX0_knows cX0_knows 2 (some .boolean), Cond.static yX5_isDeed, Cond.initialized RX5, Cond.code yX5_isDeed cX5_isDeed 1 (some .boolean), Cond.static yX5_doer, Cond.code yX5_doer cX5_doer 1 (some .int), Cond.methodLink RX0 31 yX0_has, Cond.instanceMethod yX0_has, Cond.selects RX0 yX0_has yX0_has, Cond.code yX0_has cX0_has 2 (some .boolean)]
def wsX5_tale_r4 : List Cond := [Cond.fieldLink RX0 15 "SwallowedInTurn$Crowd" "total" "I", Cond.static yX5_prey, Cond.code yX5_prey cX5_prey 1 (some .int), Cond.methodLink RX5 223 yX5_doer, Cond.methodLink RX1 53 yX1_canSwallow, Cond.instanceMethod yX1_canSwallow, Cond.selects RX1 yX1_canSwallow yX1_canSwallow, Cond.code yX1_canSwallow cX1_canSwallow 5 (some .boolean), Cond.methodLink RX1 66 yX0_isOf, Cond.instanceMethod yX0_isOf, Cond.selects RX0 yX0_isOf yX0_isOf, Cond.code yX0_isOf cX0_isOf 4 (some .boolean), Cond.fieldLink RX0 41 "SwallowedInTurn$Crowd" "KINDS_OF_ONE" "[I", Cond.methodLink RX0 37 yX0_trait, Cond.instanceMethod yX0_trait, Cond.selects RX0 yX0_trait yX0_trait, Cond.code yX0_trait cX0_trait 4 (some .int), Cond.fieldLink RX0 9 "SwallowedInTurn$Crowd" "traits" "[I", Cond.methodLink RX1 35 yX0_trait, Cond.methodLink RX1 69 yX1_filled, Cond.instanceMethod yX1_filled, Cond.selects RX1 yX1_filled yX1_filled, Cond.code yX1_filled cX1_filled 4 (some .int), Cond.methodLink RX1 29 yX0_total]
def wsX5_tale_r5 : List Cond := [Cond.instanceMethod yX0_total, Cond.selects RX0 yX0_total yX0_total, Cond.code yX0_total cX0_total 1 (some .int), Cond.methodLink RX1 56 yX1_comingOut, Cond.instanceMethod yX1_comingOut, Cond.selects RX1 yX1_comingOut yX1_comingOut, Cond.code yX1_comingOut cX1_comingOut 7 (some .int), Cond.methodLink RX1 59 yX1_canTake, Cond.instanceMethod yX1_canTake, Cond.selects RX1 yX1_canTake yX1_canTake, Cond.code yX1_canTake cX1_canTake 5 (some .boolean), Cond.methodLink RX5 88 yX1_carryOut, Cond.instanceMethod yX1_carryOut, Cond.selects RX1 yX1_carryOut yX1_carryOut, Cond.code yX1_carryOut cX1_carryOut 6 none, Cond.methodLink RX1 62 yX1_put, Cond.instanceMethod yX1_put, Cond.selects RX1 yX1_put yX1_put, Cond.code yX1_put cX1_put 3 none]
def wsX5_tale : List Cond := .code yX5_tale cX5_tale 2 (some .int) :: ((wsX5_tale_r1 ++ (wsX5_tale_r2 ++ (wsX5_tale_r3 ++ (wsX5_tale_r4 ++ wsX5_tale_r5)))) ++ wsX50 ++ wsX30 ++ wsX10 ++ wsX00)
def wsX5_isBetween : List Cond := .code yX5_isBetween cX5_isBetween 3 (some .boolean) :: ([])
def wsX5_being : List Cond := .code yX5_being cX5_being 6 (some .int) :: ([.fieldLink RX5 12 "SwallowedInTurn" "crowd" "LSwallowedInTurn$Crowd;", .methodLink RX5 92 yX5_isBetween, .static yX5_isBetween, .initialized RX5, .code yX5_isBetween cX5_isBetween 3 (some .boolean), .methodLink RX5 96 yX0_join, .instanceMethod yX0_join, .selects RX0 yX0_join yX0_join, .initialized RX0, .code yX0_join cX0_join 6 (some .int), .fieldLink RX0 15 "SwallowedInTurn$Crowd" "total" "I", .fieldLink RX0 9 "SwallowedInTurn$Crowd" "traits" "[I"] ++ wsX50 ++ wsX00)
def wsX5_about_r1 : List Cond := [Cond.fieldLink RX5 12 "SwallowedInTurn" "crowd" "LSwallowedInTurn$Crowd;", Cond.fieldLink RX5 21 "SwallowedInTurn" "now" "LSwallowedInTurn$Nesting;", Cond.methodLink RX5 100 yX0_has, Cond.instanceMethod yX0_has, Cond.selects RX0 yX0_has yX0_has, Cond.initialized RX0, Cond.code yX0_has cX0_has 2 (some .boolean), Cond.fieldLink RX0 15 "SwallowedInTurn$Crowd" "total" "I", Cond.methodLink RX5 103 yX0_trait, Cond.instanceMethod yX0_trait, Cond.selects RX0 yX0_trait yX0_trait, Cond.code yX0_trait cX0_trait 4 (some .int), Cond.fieldLink RX0 9 "SwallowedInTurn$Crowd" "traits" "[I", Cond.methodLink RX5 107 yX1_holder, Cond.instanceMethod yX1_holder, Cond.selects RX1 yX1_holder yX1_holder, Cond.initialized RX1, Cond.code yX1_holder cX1_holder 2 (some .int), Cond.fieldLink RX1 9 "SwallowedInTurn$Nesting" "holders" "[I", Cond.methodLink RX5 110 yX1_filled, Cond.instanceMethod yX1_filled, Cond.selects RX1 yX1_filled yX1_filled, Cond.code yX1_filled cX1_filled 4 (some .int), Cond.fieldLink RX1 15 "SwallowedInTurn$Nesting" "crowd" "LSwallowedInTurn$Crowd;"]
def wsX5_about_r2 : List Cond := [Cond.methodLink RX1 29 yX0_total, Cond.instanceMethod yX0_total, Cond.selects RX0 yX0_total yX0_total, Cond.code yX0_total cX0_total 1 (some .int), Cond.methodLink RX1 25 yX1_holder, Cond.methodLink RX1 35 yX0_trait, Cond.methodLink RX5 113 yX1_walls, Cond.instanceMethod yX1_walls, Cond.selects RX1 yX1_walls yX1_walls, Cond.code yX1_walls cX1_walls 4 (some .int), Cond.methodLink RX5 116 yX1_heardBy, Cond.instanceMethod yX1_heardBy, Cond.selects RX1 yX1_heardBy yX1_heardBy, Cond.code yX1_heardBy cX1_heardBy 4 (some .int), Cond.methodLink RX1 39 yX1_hears, Cond.instanceMethod yX1_hears, Cond.selects RX1 yX1_hears yX1_hears, Cond.code yX1_hears cX1_hears 5 (some .boolean)]
def wsX5_about : List Cond := .code yX5_about cX5_about 3 (some .int) :: ((wsX5_about_r1 ++ wsX5_about_r2) ++ wsX50 ++ wsX00 ++ wsX10)
def wsX5_as : List Cond := .code yX5_as cX5_as 3 (some .int) :: ([.fieldLink RX5 12 "SwallowedInTurn" "crowd" "LSwallowedInTurn$Crowd;", .methodLink RX5 100 yX0_has, .instanceMethod yX0_has, .selects RX0 yX0_has yX0_has, .initialized RX0, .code yX0_has cX0_has 2 (some .boolean), .fieldLink RX0 15 "SwallowedInTurn$Crowd" "total" "I", .methodLink RX5 92 yX5_isBetween, .static yX5_isBetween, .initialized RX5, .code yX5_isBetween cX5_isBetween 3 (some .boolean), .methodLink RX5 119 yX0_isOf, .instanceMethod yX0_isOf, .selects RX0 yX0_isOf yX0_isOf, .code yX0_isOf cX0_isOf 4 (some .boolean), .fieldLink RX0 41 "SwallowedInTurn$Crowd" "KINDS_OF_ONE" "[I", .methodLink RX0 37 yX0_trait, .instanceMethod yX0_trait, .selects RX0 yX0_trait yX0_trait, .code yX0_trait cX0_trait 4 (some .int), .fieldLink RX0 9 "SwallowedInTurn$Crowd" "traits" "[I"] ++ wsX50 ++ wsX00)
def wsX5_may_r1 : List Cond := [Cond.fieldLink RX5 12 "SwallowedInTurn" "crowd" "LSwallowedInTurn$Crowd;", Cond.fieldLink RX5 21 "SwallowedInTurn" "now" "LSwallowedInTurn$Nesting;", Cond.methodLink RX5 123 yX0_knows, Cond.instanceMethod yX0_knows, Cond.selects RX0 yX0_knows yX0_knows, Cond.initialized RX0, Cond.code yX0_knows cX0_knows 2 (some .boolean), Cond.static yX5_isDeed, Cond.initialized RX5, Cond.code yX5_isDeed cX5_isDeed 1 (some .boolean), Cond.static yX5_doer, Cond.code yX5_doer cX5_doer 1 (some .int), Cond.methodLink RX0 31 yX0_has, Cond.instanceMethod yX0_has, Cond.selects RX0 yX0_has yX0_has, Cond.code yX0_has cX0_has 2 (some .boolean), Cond.fieldLink RX0 15 "SwallowedInTurn$Crowd" "total" "I", Cond.static yX5_prey, Cond.code yX5_prey cX5_prey 1 (some .int), Cond.methodLink RX5 223 yX5_doer, Cond.methodLink RX5 85 yX1_allows, Cond.instanceMethod yX1_allows, Cond.selects RX1 yX1_allows yX1_allows, Cond.initialized RX1]
def wsX5_may_r2 : List Cond := [Cond.code yX1_allows cX1_allows 4 (some .boolean), Cond.fieldLink RX1 15 "SwallowedInTurn$Nesting" "crowd" "LSwallowedInTurn$Crowd;", Cond.methodLink RX1 43 yX0_knows, Cond.methodLink RX1 53 yX1_canSwallow, Cond.instanceMethod yX1_canSwallow, Cond.selects RX1 yX1_canSwallow yX1_canSwallow, Cond.code yX1_canSwallow cX1_canSwallow 5 (some .boolean), Cond.methodLink RX1 25 yX1_holder, Cond.instanceMethod yX1_holder, Cond.selects RX1 yX1_holder yX1_holder, Cond.code yX1_holder cX1_holder 2 (some .int), Cond.fieldLink RX1 9 "SwallowedInTurn$Nesting" "holders" "[I", Cond.methodLink RX1 66 yX0_isOf, Cond.instanceMethod yX0_isOf, Cond.selects RX0 yX0_isOf yX0_isOf, Cond.code yX0_isOf cX0_isOf 4 (some .boolean), Cond.fieldLink RX0 41 "SwallowedInTurn$Crowd" "KINDS_OF_ONE" "[I", Cond.methodLink RX0 37 yX0_trait, Cond.instanceMethod yX0_trait, Cond.selects RX0 yX0_trait yX0_trait, Cond.code yX0_trait cX0_trait 4 (some .int), Cond.fieldLink RX0 9 "SwallowedInTurn$Crowd" "traits" "[I", Cond.methodLink RX1 35 yX0_trait, Cond.methodLink RX1 69 yX1_filled]
def wsX5_may_r3 : List Cond := [Cond.instanceMethod yX1_filled, Cond.selects RX1 yX1_filled yX1_filled, Cond.code yX1_filled cX1_filled 4 (some .int), Cond.methodLink RX1 29 yX0_total, Cond.instanceMethod yX0_total, Cond.selects RX0 yX0_total yX0_total, Cond.code yX0_total cX0_total 1 (some .int), Cond.methodLink RX1 56 yX1_comingOut, Cond.instanceMethod yX1_comingOut, Cond.selects RX1 yX1_comingOut yX1_comingOut, Cond.code yX1_comingOut cX1_comingOut 7 (some .int), Cond.methodLink RX1 59 yX1_canTake, Cond.instanceMethod yX1_canTake, Cond.selects RX1 yX1_canTake yX1_canTake, Cond.code yX1_canTake cX1_canTake 5 (some .boolean)]
def wsX5_may : List Cond := .code yX5_may cX5_may 2 (some .int) :: ((wsX5_may_r1 ++ (wsX5_may_r2 ++ wsX5_may_r3)) ++ wsX50 ++ wsX00 ++ wsX10)
def wsX5_deed_r1 : List Cond := [Cond.fieldLink RX5 12 "SwallowedInTurn" "crowd" "LSwallowedInTurn$Crowd;", Cond.fieldLink RX5 21 "SwallowedInTurn" "now" "LSwallowedInTurn$Nesting;", Cond.fieldLink RX5 126 "SwallowedInTurn" "done" "I", Cond.methodLink RX5 123 yX0_knows, Cond.instanceMethod yX0_knows, Cond.selects RX0 yX0_knows yX0_knows, Cond.initialized RX0, Cond.code yX0_knows cX0_knows 2 (some .boolean), Cond.static yX5_isDeed, Cond.initialized RX5, Cond.code yX5_isDeed cX5_isDeed 1 (some .boolean), Cond.static yX5_doer, Cond.code yX5_doer cX5_doer 1 (some .int), Cond.methodLink RX0 31 yX0_has, Cond.instanceMethod yX0_has, Cond.selects RX0 yX0_has yX0_has, Cond.code yX0_has cX0_has 2 (some .boolean), Cond.fieldLink RX0 15 "SwallowedInTurn$Crowd" "total" "I", Cond.static yX5_prey, Cond.code yX5_prey cX5_prey 1 (some .int), Cond.methodLink RX5 223 yX5_doer, Cond.methodLink RX5 85 yX1_allows, Cond.instanceMethod yX1_allows, Cond.selects RX1 yX1_allows yX1_allows]
def wsX5_deed_r2 : List Cond := [Cond.initialized RX1, Cond.code yX1_allows cX1_allows 4 (some .boolean), Cond.fieldLink RX1 15 "SwallowedInTurn$Nesting" "crowd" "LSwallowedInTurn$Crowd;", Cond.methodLink RX1 43 yX0_knows, Cond.methodLink RX1 53 yX1_canSwallow, Cond.instanceMethod yX1_canSwallow, Cond.selects RX1 yX1_canSwallow yX1_canSwallow, Cond.code yX1_canSwallow cX1_canSwallow 5 (some .boolean), Cond.methodLink RX1 25 yX1_holder, Cond.instanceMethod yX1_holder, Cond.selects RX1 yX1_holder yX1_holder, Cond.code yX1_holder cX1_holder 2 (some .int), Cond.fieldLink RX1 9 "SwallowedInTurn$Nesting" "holders" "[I", Cond.methodLink RX1 66 yX0_isOf, Cond.instanceMethod yX0_isOf, Cond.selects RX0 yX0_isOf yX0_isOf, Cond.code yX0_isOf cX0_isOf 4 (some .boolean), Cond.fieldLink RX0 41 "SwallowedInTurn$Crowd" "KINDS_OF_ONE" "[I", Cond.methodLink RX0 37 yX0_trait, Cond.instanceMethod yX0_trait, Cond.selects RX0 yX0_trait yX0_trait, Cond.code yX0_trait cX0_trait 4 (some .int), Cond.fieldLink RX0 9 "SwallowedInTurn$Crowd" "traits" "[I", Cond.methodLink RX1 35 yX0_trait]
def wsX5_deed_r3 : List Cond := [Cond.methodLink RX1 69 yX1_filled, Cond.instanceMethod yX1_filled, Cond.selects RX1 yX1_filled yX1_filled, Cond.code yX1_filled cX1_filled 4 (some .int), Cond.methodLink RX1 29 yX0_total, Cond.instanceMethod yX0_total, Cond.selects RX0 yX0_total yX0_total, Cond.code yX0_total cX0_total 1 (some .int), Cond.methodLink RX1 56 yX1_comingOut, Cond.instanceMethod yX1_comingOut, Cond.selects RX1 yX1_comingOut yX1_comingOut, Cond.code yX1_comingOut cX1_comingOut 7 (some .int), Cond.methodLink RX1 59 yX1_canTake, Cond.instanceMethod yX1_canTake, Cond.selects RX1 yX1_canTake yX1_canTake, Cond.code yX1_canTake cX1_canTake 5 (some .boolean), Cond.methodLink RX5 88 yX1_carryOut, Cond.instanceMethod yX1_carryOut, Cond.selects RX1 yX1_carryOut yX1_carryOut, Cond.code yX1_carryOut cX1_carryOut 6 none, Cond.methodLink RX1 62 yX1_put, Cond.instanceMethod yX1_put, Cond.selects RX1 yX1_put yX1_put, Cond.code yX1_put cX1_put 3 none]
def wsX5_deed : List Cond := .code yX5_deed cX5_deed 2 (some .int) :: ((wsX5_deed_r1 ++ (wsX5_deed_r2 ++ wsX5_deed_r3)) ++ wsX50 ++ wsX00 ++ wsX10)
def wsX5_number : List Cond := .code yX5_number cX5_number 1 (some .int) :: ([.fieldLink RX5 21 "SwallowedInTurn" "now" "LSwallowedInTurn$Nesting;", .methodLink RX5 129 yX1_toNumber, .instanceMethod yX1_toNumber, .selects RX1 yX1_toNumber yX1_toNumber, .initialized RX1, .code yX1_toNumber cX1_toNumber 3 (some .int), .fieldLink RX1 9 "SwallowedInTurn$Nesting" "holders" "[I"] ++ wsX50 ++ wsX10)
def wsX5_soonest_r1 : List Cond := [Cond.fieldLink RX5 12 "SwallowedInTurn" "crowd" "LSwallowedInTurn$Crowd;", Cond.fieldLink RX5 31 "SwallowedInTurn" "outlook" "LSwallowedInTurn$Outlook;", Cond.fieldLink RX5 21 "SwallowedInTurn" "now" "LSwallowedInTurn$Nesting;", Cond.methodLink RX5 132 yX0_hasAll, Cond.instanceMethod yX0_hasAll, Cond.selects RX0 yX0_hasAll yX0_hasAll, Cond.initialized RX0, Cond.code yX0_hasAll cX0_hasAll 2 (some .boolean), Cond.methodLink RX0 19 yX0_all, Cond.instanceMethod yX0_all, Cond.selects RX0 yX0_all yX0_all, Cond.code yX0_all cX0_all 1 (some .int), Cond.fieldLink RX0 15 "SwallowedInTurn$Crowd" "total" "I", Cond.methodLink RX5 92 yX5_isBetween, Cond.static yX5_isBetween, Cond.initialized RX5, Cond.code yX5_isBetween cX5_isBetween 3 (some .boolean), Cond.methodLink RX5 135 yX2_lookFrom, Cond.instanceMethod yX2_lookFrom, Cond.selects RX2 yX2_lookFrom yX2_lookFrom, Cond.initialized RX2, Cond.code yX2_lookFrom cX2_lookFrom 4 none, Cond.fieldLink RX2 28 "SwallowedInTurn$Outlook" "startNumber" "I", Cond.fieldLink RX2 35 "SwallowedInTurn$Outlook" "crowd" "LSwallowedInTurn$Crowd;"]
def wsX5_soonest_r2 : List Cond := [Cond.fieldLink RX2 32 "SwallowedInTurn$Outlook" "startTotal" "I", Cond.fieldLink RX2 21 "SwallowedInTurn$Outlook" "isReached" "[Z", Cond.fieldLink RX2 60 "SwallowedInTurn$Outlook" "total" "I", Cond.fieldLink RX2 11 "SwallowedInTurn$Outlook" "reached" "[I", Cond.methodLink RX2 51 yX1_toNumber, Cond.instanceMethod yX1_toNumber, Cond.selects RX1 yX1_toNumber yX1_toNumber, Cond.initialized RX1, Cond.code yX1_toNumber cX1_toNumber 3 (some .int), Cond.fieldLink RX1 9 "SwallowedInTurn$Nesting" "holders" "[I", Cond.methodLink RX2 55 yX0_total, Cond.instanceMethod yX0_total, Cond.selects RX0 yX0_total yX0_total, Cond.code yX0_total cX0_total 1 (some .int), Cond.methodLink RX2 62 yX2_reach, Cond.instanceMethod yX2_reach, Cond.selects RX2 yX2_reach yX2_reach, Cond.code yX2_reach cX2_reach 4 none, Cond.fieldLink RX2 15 "SwallowedInTurn$Outlook" "steps" "[I", Cond.fieldLink RX2 18 "SwallowedInTurn$Outlook" "firsts" "[I", Cond.methodLink RX2 66 yX2_spread, Cond.instanceMethod yX2_spread, Cond.selects RX2 yX2_spread yX2_spread, Cond.code yX2_spread cX2_spread 5 none]
def wsX5_soonest_r3 : List Cond := [Cond.fieldLink RX2 44 "SwallowedInTurn$Outlook" "here" "LSwallowedInTurn$Nesting;", Cond.fieldLink RX2 48 "SwallowedInTurn$Outlook" "next" "LSwallowedInTurn$Nesting;", Cond.methodLink RX2 70 yX2_reachedAt, Cond.instanceMethod yX2_reachedAt, Cond.selects RX2 yX2_reachedAt yX2_reachedAt, Cond.code yX2_reachedAt cX2_reachedAt 2 (some .int), Cond.methodLink RX2 74 yX1_become, Cond.instanceMethod yX1_become, Cond.selects RX1 yX1_become yX1_become, Cond.code yX1_become cX1_become 4 none, Cond.methodLink RX2 77 yX2_stepsAt, Cond.instanceMethod yX2_stepsAt, Cond.selects RX2 yX2_stepsAt yX2_stepsAt, Cond.code yX2_stepsAt cX2_stepsAt 2 (some .int), Cond.methodLink RX2 80 yX2_firstAt, Cond.instanceMethod yX2_firstAt, Cond.selects RX2 yX2_firstAt yX2_firstAt, Cond.code yX2_firstAt cX2_firstAt 2 (some .int), Cond.methodLink RX2 83 yX1_allows, Cond.instanceMethod yX1_allows, Cond.selects RX1 yX1_allows yX1_allows, Cond.code yX1_allows cX1_allows 4 (some .boolean), Cond.fieldLink RX1 15 "SwallowedInTurn$Nesting" "crowd" "LSwallowedInTurn$Crowd;", Cond.methodLink RX1 43 yX0_knows]
def wsX5_soonest_r4 : List Cond := [Cond.instanceMethod yX0_knows, Cond.selects RX0 yX0_knows yX0_knows, Cond.code yX0_knows cX0_knows 2 (some .boolean), Cond.static yX5_isDeed, Cond.code yX5_isDeed cX5_isDeed 1 (some .boolean), Cond.static yX5_doer, Cond.code yX5_doer cX5_doer 1 (some .int), Cond.methodLink RX0 31 yX0_has, Cond.instanceMethod yX0_has, Cond.selects RX0 yX0_has yX0_has, Cond.code yX0_has cX0_has 2 (some .boolean), Cond.static yX5_prey, Cond.code yX5_prey cX5_prey 1 (some .int), Cond.methodLink RX5 223 yX5_doer, Cond.methodLink RX1 53 yX1_canSwallow, Cond.instanceMethod yX1_canSwallow, Cond.selects RX1 yX1_canSwallow yX1_canSwallow, Cond.code yX1_canSwallow cX1_canSwallow 5 (some .boolean), Cond.methodLink RX1 25 yX1_holder, Cond.instanceMethod yX1_holder, Cond.selects RX1 yX1_holder yX1_holder, Cond.code yX1_holder cX1_holder 2 (some .int), Cond.methodLink RX1 66 yX0_isOf, Cond.instanceMethod yX0_isOf]
def wsX5_soonest_r5 : List Cond := [Cond.selects RX0 yX0_isOf yX0_isOf, Cond.code yX0_isOf cX0_isOf 4 (some .boolean), Cond.fieldLink RX0 41 "SwallowedInTurn$Crowd" "KINDS_OF_ONE" "[I", Cond.methodLink RX0 37 yX0_trait, Cond.instanceMethod yX0_trait, Cond.selects RX0 yX0_trait yX0_trait, Cond.code yX0_trait cX0_trait 4 (some .int), Cond.fieldLink RX0 9 "SwallowedInTurn$Crowd" "traits" "[I", Cond.methodLink RX1 35 yX0_trait, Cond.methodLink RX1 69 yX1_filled, Cond.instanceMethod yX1_filled, Cond.selects RX1 yX1_filled yX1_filled, Cond.code yX1_filled cX1_filled 4 (some .int), Cond.methodLink RX1 29 yX0_total, Cond.methodLink RX1 56 yX1_comingOut, Cond.instanceMethod yX1_comingOut, Cond.selects RX1 yX1_comingOut yX1_comingOut, Cond.code yX1_comingOut cX1_comingOut 7 (some .int), Cond.methodLink RX1 59 yX1_canTake, Cond.instanceMethod yX1_canTake, Cond.selects RX1 yX1_canTake yX1_canTake, Cond.code yX1_canTake cX1_canTake 5 (some .boolean), Cond.methodLink RX2 87 yX1_copy, Cond.instanceMethod yX1_copy]
def wsX5_soonest_r6 : List Cond := [Cond.selects RX1 yX1_copy yX1_copy, Cond.code yX1_copy cX1_copy 3 none, Cond.methodLink RX2 91 yX1_carryOut, Cond.instanceMethod yX1_carryOut, Cond.selects RX1 yX1_carryOut yX1_carryOut, Cond.code yX1_carryOut cX1_carryOut 6 none, Cond.methodLink RX1 62 yX1_put, Cond.instanceMethod yX1_put, Cond.selects RX1 yX1_put yX1_put, Cond.code yX1_put cX1_put 3 none, Cond.methodLink RX5 138 yX2_placeWhereOut, Cond.instanceMethod yX2_placeWhereOut, Cond.selects RX2 yX2_placeWhereOut yX2_placeWhereOut, Cond.code yX2_placeWhereOut cX2_placeWhereOut 3 (some .int), Cond.methodLink RX2 94 yX1_areOutside, Cond.instanceMethod yX1_areOutside, Cond.selects RX1 yX1_areOutside yX1_areOutside, Cond.code yX1_areOutside cX1_areOutside 3 (some .boolean), Cond.methodLink RX5 141 yX2_stepsAt, Cond.methodLink RX5 144 yX2_firstAt]
def wsX5_soonest : List Cond := .code yX5_soonest cX5_soonest 4 (some .int) :: ((wsX5_soonest_r1 ++ (wsX5_soonest_r2 ++ (wsX5_soonest_r3 ++ (wsX5_soonest_r4 ++ (wsX5_soonest_r5 ++ wsX5_soonest_r6))))) ++ wsX50 ++ wsX00 ++ wsX20 ++ wsX10)
def wsX5_together_r1 : List Cond := [Cond.fieldLink RX5 12 "SwallowedInTurn" "crowd" "LSwallowedInTurn$Crowd;", Cond.fieldLink RX5 31 "SwallowedInTurn" "outlook" "LSwallowedInTurn$Outlook;", Cond.fieldLink RX5 21 "SwallowedInTurn" "now" "LSwallowedInTurn$Nesting;", Cond.methodLink RX5 100 yX0_has, Cond.instanceMethod yX0_has, Cond.selects RX0 yX0_has yX0_has, Cond.initialized RX0, Cond.code yX0_has cX0_has 2 (some .boolean), Cond.fieldLink RX0 15 "SwallowedInTurn$Crowd" "total" "I", Cond.methodLink RX5 135 yX2_lookFrom, Cond.instanceMethod yX2_lookFrom, Cond.selects RX2 yX2_lookFrom yX2_lookFrom, Cond.initialized RX2, Cond.code yX2_lookFrom cX2_lookFrom 4 none, Cond.fieldLink RX2 28 "SwallowedInTurn$Outlook" "startNumber" "I", Cond.fieldLink RX2 35 "SwallowedInTurn$Outlook" "crowd" "LSwallowedInTurn$Crowd;", Cond.fieldLink RX2 32 "SwallowedInTurn$Outlook" "startTotal" "I", Cond.fieldLink RX2 21 "SwallowedInTurn$Outlook" "isReached" "[Z", Cond.fieldLink RX2 60 "SwallowedInTurn$Outlook" "total" "I", Cond.fieldLink RX2 11 "SwallowedInTurn$Outlook" "reached" "[I", Cond.methodLink RX2 51 yX1_toNumber, Cond.instanceMethod yX1_toNumber, Cond.selects RX1 yX1_toNumber yX1_toNumber, Cond.initialized RX1]
def wsX5_together_r2 : List Cond := [Cond.code yX1_toNumber cX1_toNumber 3 (some .int), Cond.fieldLink RX1 9 "SwallowedInTurn$Nesting" "holders" "[I", Cond.methodLink RX2 55 yX0_total, Cond.instanceMethod yX0_total, Cond.selects RX0 yX0_total yX0_total, Cond.code yX0_total cX0_total 1 (some .int), Cond.methodLink RX2 62 yX2_reach, Cond.instanceMethod yX2_reach, Cond.selects RX2 yX2_reach yX2_reach, Cond.code yX2_reach cX2_reach 4 none, Cond.fieldLink RX2 15 "SwallowedInTurn$Outlook" "steps" "[I", Cond.fieldLink RX2 18 "SwallowedInTurn$Outlook" "firsts" "[I", Cond.methodLink RX2 66 yX2_spread, Cond.instanceMethod yX2_spread, Cond.selects RX2 yX2_spread yX2_spread, Cond.code yX2_spread cX2_spread 5 none, Cond.fieldLink RX2 44 "SwallowedInTurn$Outlook" "here" "LSwallowedInTurn$Nesting;", Cond.fieldLink RX2 48 "SwallowedInTurn$Outlook" "next" "LSwallowedInTurn$Nesting;", Cond.methodLink RX2 70 yX2_reachedAt, Cond.instanceMethod yX2_reachedAt, Cond.selects RX2 yX2_reachedAt yX2_reachedAt, Cond.code yX2_reachedAt cX2_reachedAt 2 (some .int), Cond.methodLink RX2 74 yX1_become, Cond.instanceMethod yX1_become]
def wsX5_together_r3 : List Cond := [Cond.selects RX1 yX1_become yX1_become, Cond.code yX1_become cX1_become 4 none, Cond.methodLink RX2 77 yX2_stepsAt, Cond.instanceMethod yX2_stepsAt, Cond.selects RX2 yX2_stepsAt yX2_stepsAt, Cond.code yX2_stepsAt cX2_stepsAt 2 (some .int), Cond.methodLink RX2 80 yX2_firstAt, Cond.instanceMethod yX2_firstAt, Cond.selects RX2 yX2_firstAt yX2_firstAt, Cond.code yX2_firstAt cX2_firstAt 2 (some .int), Cond.methodLink RX2 83 yX1_allows, Cond.instanceMethod yX1_allows, Cond.selects RX1 yX1_allows yX1_allows, Cond.code yX1_allows cX1_allows 4 (some .boolean), Cond.fieldLink RX1 15 "SwallowedInTurn$Nesting" "crowd" "LSwallowedInTurn$Crowd;", Cond.methodLink RX1 43 yX0_knows, Cond.instanceMethod yX0_knows, Cond.selects RX0 yX0_knows yX0_knows, Cond.code yX0_knows cX0_knows 2 (some .boolean), Cond.static yX5_isDeed, Cond.initialized RX5, Cond.code yX5_isDeed cX5_isDeed 1 (some .boolean), Cond.static yX5_doer, Cond.code yX5_doer cX5_doer 1 (some .int)]
def wsX5_together_r4 : List Cond := [Cond.methodLink RX0 31 yX0_has, Cond.static yX5_prey, Cond.code yX5_prey cX5_prey 1 (some .int), Cond.methodLink RX5 223 yX5_doer, Cond.methodLink RX1 53 yX1_canSwallow, Cond.instanceMethod yX1_canSwallow, Cond.selects RX1 yX1_canSwallow yX1_canSwallow, Cond.code yX1_canSwallow cX1_canSwallow 5 (some .boolean), Cond.methodLink RX1 25 yX1_holder, Cond.instanceMethod yX1_holder, Cond.selects RX1 yX1_holder yX1_holder, Cond.code yX1_holder cX1_holder 2 (some .int), Cond.methodLink RX1 66 yX0_isOf, Cond.instanceMethod yX0_isOf, Cond.selects RX0 yX0_isOf yX0_isOf, Cond.code yX0_isOf cX0_isOf 4 (some .boolean), Cond.fieldLink RX0 41 "SwallowedInTurn$Crowd" "KINDS_OF_ONE" "[I", Cond.methodLink RX0 37 yX0_trait, Cond.instanceMethod yX0_trait, Cond.selects RX0 yX0_trait yX0_trait, Cond.code yX0_trait cX0_trait 4 (some .int), Cond.fieldLink RX0 9 "SwallowedInTurn$Crowd" "traits" "[I", Cond.methodLink RX1 35 yX0_trait, Cond.methodLink RX1 69 yX1_filled]
def wsX5_together_r5 : List Cond := [Cond.instanceMethod yX1_filled, Cond.selects RX1 yX1_filled yX1_filled, Cond.code yX1_filled cX1_filled 4 (some .int), Cond.methodLink RX1 29 yX0_total, Cond.methodLink RX1 56 yX1_comingOut, Cond.instanceMethod yX1_comingOut, Cond.selects RX1 yX1_comingOut yX1_comingOut, Cond.code yX1_comingOut cX1_comingOut 7 (some .int), Cond.methodLink RX1 59 yX1_canTake, Cond.instanceMethod yX1_canTake, Cond.selects RX1 yX1_canTake yX1_canTake, Cond.code yX1_canTake cX1_canTake 5 (some .boolean), Cond.methodLink RX2 87 yX1_copy, Cond.instanceMethod yX1_copy, Cond.selects RX1 yX1_copy yX1_copy, Cond.code yX1_copy cX1_copy 3 none, Cond.methodLink RX2 91 yX1_carryOut, Cond.instanceMethod yX1_carryOut, Cond.selects RX1 yX1_carryOut yX1_carryOut, Cond.code yX1_carryOut cX1_carryOut 6 none, Cond.methodLink RX1 62 yX1_put, Cond.instanceMethod yX1_put, Cond.selects RX1 yX1_put yX1_put, Cond.code yX1_put cX1_put 3 none]
def wsX5_together_r6 : List Cond := [Cond.methodLink RX5 147 yX2_placeWhereTogether, Cond.instanceMethod yX2_placeWhereTogether, Cond.selects RX2 yX2_placeWhereTogether yX2_placeWhereTogether, Cond.code yX2_placeWhereTogether cX2_placeWhereTogether 4 (some .int), Cond.methodLink RX2 97 yX1_holder, Cond.methodLink RX5 141 yX2_stepsAt]
def wsX5_together : List Cond := .code yX5_together cX5_together 3 (some .int) :: ((wsX5_together_r1 ++ (wsX5_together_r2 ++ (wsX5_together_r3 ++ (wsX5_together_r4 ++ (wsX5_together_r5 ++ wsX5_together_r6))))) ++ wsX50 ++ wsX00 ++ wsX20 ++ wsX10)
def wsX5_deep_r1 : List Cond := [Cond.fieldLink RX5 12 "SwallowedInTurn" "crowd" "LSwallowedInTurn$Crowd;", Cond.fieldLink RX5 31 "SwallowedInTurn" "outlook" "LSwallowedInTurn$Outlook;", Cond.fieldLink RX5 21 "SwallowedInTurn" "now" "LSwallowedInTurn$Nesting;", Cond.methodLink RX5 100 yX0_has, Cond.instanceMethod yX0_has, Cond.selects RX0 yX0_has yX0_has, Cond.initialized RX0, Cond.code yX0_has cX0_has 2 (some .boolean), Cond.fieldLink RX0 15 "SwallowedInTurn$Crowd" "total" "I", Cond.methodLink RX5 135 yX2_lookFrom, Cond.instanceMethod yX2_lookFrom, Cond.selects RX2 yX2_lookFrom yX2_lookFrom, Cond.initialized RX2, Cond.code yX2_lookFrom cX2_lookFrom 4 none, Cond.fieldLink RX2 28 "SwallowedInTurn$Outlook" "startNumber" "I", Cond.fieldLink RX2 35 "SwallowedInTurn$Outlook" "crowd" "LSwallowedInTurn$Crowd;", Cond.fieldLink RX2 32 "SwallowedInTurn$Outlook" "startTotal" "I", Cond.fieldLink RX2 21 "SwallowedInTurn$Outlook" "isReached" "[Z", Cond.fieldLink RX2 60 "SwallowedInTurn$Outlook" "total" "I", Cond.fieldLink RX2 11 "SwallowedInTurn$Outlook" "reached" "[I", Cond.methodLink RX2 51 yX1_toNumber, Cond.instanceMethod yX1_toNumber, Cond.selects RX1 yX1_toNumber yX1_toNumber, Cond.initialized RX1]
def wsX5_deep_r2 : List Cond := [Cond.code yX1_toNumber cX1_toNumber 3 (some .int), Cond.fieldLink RX1 9 "SwallowedInTurn$Nesting" "holders" "[I", Cond.methodLink RX2 55 yX0_total, Cond.instanceMethod yX0_total, Cond.selects RX0 yX0_total yX0_total, Cond.code yX0_total cX0_total 1 (some .int), Cond.methodLink RX2 62 yX2_reach, Cond.instanceMethod yX2_reach, Cond.selects RX2 yX2_reach yX2_reach, Cond.code yX2_reach cX2_reach 4 none, Cond.fieldLink RX2 15 "SwallowedInTurn$Outlook" "steps" "[I", Cond.fieldLink RX2 18 "SwallowedInTurn$Outlook" "firsts" "[I", Cond.methodLink RX2 66 yX2_spread, Cond.instanceMethod yX2_spread, Cond.selects RX2 yX2_spread yX2_spread, Cond.code yX2_spread cX2_spread 5 none, Cond.fieldLink RX2 44 "SwallowedInTurn$Outlook" "here" "LSwallowedInTurn$Nesting;", Cond.fieldLink RX2 48 "SwallowedInTurn$Outlook" "next" "LSwallowedInTurn$Nesting;", Cond.methodLink RX2 70 yX2_reachedAt, Cond.instanceMethod yX2_reachedAt, Cond.selects RX2 yX2_reachedAt yX2_reachedAt, Cond.code yX2_reachedAt cX2_reachedAt 2 (some .int), Cond.methodLink RX2 74 yX1_become, Cond.instanceMethod yX1_become]
def wsX5_deep_r3 : List Cond := [Cond.selects RX1 yX1_become yX1_become, Cond.code yX1_become cX1_become 4 none, Cond.methodLink RX2 77 yX2_stepsAt, Cond.instanceMethod yX2_stepsAt, Cond.selects RX2 yX2_stepsAt yX2_stepsAt, Cond.code yX2_stepsAt cX2_stepsAt 2 (some .int), Cond.methodLink RX2 80 yX2_firstAt, Cond.instanceMethod yX2_firstAt, Cond.selects RX2 yX2_firstAt yX2_firstAt, Cond.code yX2_firstAt cX2_firstAt 2 (some .int), Cond.methodLink RX2 83 yX1_allows, Cond.instanceMethod yX1_allows, Cond.selects RX1 yX1_allows yX1_allows, Cond.code yX1_allows cX1_allows 4 (some .boolean), Cond.fieldLink RX1 15 "SwallowedInTurn$Nesting" "crowd" "LSwallowedInTurn$Crowd;", Cond.methodLink RX1 43 yX0_knows, Cond.instanceMethod yX0_knows, Cond.selects RX0 yX0_knows yX0_knows, Cond.code yX0_knows cX0_knows 2 (some .boolean), Cond.static yX5_isDeed, Cond.initialized RX5, Cond.code yX5_isDeed cX5_isDeed 1 (some .boolean), Cond.static yX5_doer, Cond.code yX5_doer cX5_doer 1 (some .int)]
def wsX5_deep_r4 : List Cond := [Cond.methodLink RX0 31 yX0_has, Cond.static yX5_prey, Cond.code yX5_prey cX5_prey 1 (some .int), Cond.methodLink RX5 223 yX5_doer, Cond.methodLink RX1 53 yX1_canSwallow, Cond.instanceMethod yX1_canSwallow, Cond.selects RX1 yX1_canSwallow yX1_canSwallow, Cond.code yX1_canSwallow cX1_canSwallow 5 (some .boolean), Cond.methodLink RX1 25 yX1_holder, Cond.instanceMethod yX1_holder, Cond.selects RX1 yX1_holder yX1_holder, Cond.code yX1_holder cX1_holder 2 (some .int), Cond.methodLink RX1 66 yX0_isOf, Cond.instanceMethod yX0_isOf, Cond.selects RX0 yX0_isOf yX0_isOf, Cond.code yX0_isOf cX0_isOf 4 (some .boolean), Cond.fieldLink RX0 41 "SwallowedInTurn$Crowd" "KINDS_OF_ONE" "[I", Cond.methodLink RX0 37 yX0_trait, Cond.instanceMethod yX0_trait, Cond.selects RX0 yX0_trait yX0_trait, Cond.code yX0_trait cX0_trait 4 (some .int), Cond.fieldLink RX0 9 "SwallowedInTurn$Crowd" "traits" "[I", Cond.methodLink RX1 35 yX0_trait, Cond.methodLink RX1 69 yX1_filled]
def wsX5_deep_r5 : List Cond := [Cond.instanceMethod yX1_filled, Cond.selects RX1 yX1_filled yX1_filled, Cond.code yX1_filled cX1_filled 4 (some .int), Cond.methodLink RX1 29 yX0_total, Cond.methodLink RX1 56 yX1_comingOut, Cond.instanceMethod yX1_comingOut, Cond.selects RX1 yX1_comingOut yX1_comingOut, Cond.code yX1_comingOut cX1_comingOut 7 (some .int), Cond.methodLink RX1 59 yX1_canTake, Cond.instanceMethod yX1_canTake, Cond.selects RX1 yX1_canTake yX1_canTake, Cond.code yX1_canTake cX1_canTake 5 (some .boolean), Cond.methodLink RX2 87 yX1_copy, Cond.instanceMethod yX1_copy, Cond.selects RX1 yX1_copy yX1_copy, Cond.code yX1_copy cX1_copy 3 none, Cond.methodLink RX2 91 yX1_carryOut, Cond.instanceMethod yX1_carryOut, Cond.selects RX1 yX1_carryOut yX1_carryOut, Cond.code yX1_carryOut cX1_carryOut 6 none, Cond.methodLink RX1 62 yX1_put, Cond.instanceMethod yX1_put, Cond.selects RX1 yX1_put yX1_put, Cond.code yX1_put cX1_put 3 none]
def wsX5_deep_r6 : List Cond := [Cond.methodLink RX5 150 yX2_mostWalls, Cond.instanceMethod yX2_mostWalls, Cond.selects RX2 yX2_mostWalls yX2_mostWalls, Cond.code yX2_mostWalls cX2_mostWalls 4 (some .int), Cond.methodLink RX2 103 Lib.Math.max.name, Cond.static Lib.Math.max.name, Cond.initialized "java/lang/Math", Cond.code Lib.Math.max.name Lib.Math.max.code 2 (some .int), Cond.methodLink RX2 100 yX1_walls, Cond.instanceMethod yX1_walls, Cond.selects RX1 yX1_walls yX1_walls, Cond.code yX1_walls cX1_walls 4 (some .int)]
def wsX5_deep : List Cond := .code yX5_deep cX5_deep 2 (some .int) :: ((wsX5_deep_r1 ++ (wsX5_deep_r2 ++ (wsX5_deep_r3 ++ (wsX5_deep_r4 ++ (wsX5_deep_r5 ++ wsX5_deep_r6))))) ++ wsX50 ++ wsX00 ++ wsX20 ++ wsX10)
def wsX5_many_r1 : List Cond := [Cond.fieldLink RX5 31 "SwallowedInTurn" "outlook" "LSwallowedInTurn$Outlook;", Cond.fieldLink RX5 21 "SwallowedInTurn" "now" "LSwallowedInTurn$Nesting;", Cond.methodLink RX5 135 yX2_lookFrom, Cond.instanceMethod yX2_lookFrom, Cond.selects RX2 yX2_lookFrom yX2_lookFrom, Cond.initialized RX2, Cond.code yX2_lookFrom cX2_lookFrom 4 none, Cond.fieldLink RX2 28 "SwallowedInTurn$Outlook" "startNumber" "I", Cond.fieldLink RX2 35 "SwallowedInTurn$Outlook" "crowd" "LSwallowedInTurn$Crowd;", Cond.fieldLink RX2 32 "SwallowedInTurn$Outlook" "startTotal" "I", Cond.fieldLink RX2 21 "SwallowedInTurn$Outlook" "isReached" "[Z", Cond.fieldLink RX2 60 "SwallowedInTurn$Outlook" "total" "I", Cond.fieldLink RX2 11 "SwallowedInTurn$Outlook" "reached" "[I", Cond.methodLink RX2 51 yX1_toNumber, Cond.instanceMethod yX1_toNumber, Cond.selects RX1 yX1_toNumber yX1_toNumber, Cond.initialized RX1, Cond.code yX1_toNumber cX1_toNumber 3 (some .int), Cond.fieldLink RX1 9 "SwallowedInTurn$Nesting" "holders" "[I", Cond.methodLink RX2 55 yX0_total, Cond.instanceMethod yX0_total, Cond.selects RX0 yX0_total yX0_total, Cond.initialized RX0, Cond.code yX0_total cX0_total 1 (some .int)]
def wsX5_many_r2 : List Cond := [Cond.fieldLink RX0 15 "SwallowedInTurn$Crowd" "total" "I", Cond.methodLink RX2 62 yX2_reach, Cond.instanceMethod yX2_reach, Cond.selects RX2 yX2_reach yX2_reach, Cond.code yX2_reach cX2_reach 4 none, Cond.fieldLink RX2 15 "SwallowedInTurn$Outlook" "steps" "[I", Cond.fieldLink RX2 18 "SwallowedInTurn$Outlook" "firsts" "[I", Cond.methodLink RX2 66 yX2_spread, Cond.instanceMethod yX2_spread, Cond.selects RX2 yX2_spread yX2_spread, Cond.code yX2_spread cX2_spread 5 none, Cond.fieldLink RX2 44 "SwallowedInTurn$Outlook" "here" "LSwallowedInTurn$Nesting;", Cond.fieldLink RX2 48 "SwallowedInTurn$Outlook" "next" "LSwallowedInTurn$Nesting;", Cond.methodLink RX2 70 yX2_reachedAt, Cond.instanceMethod yX2_reachedAt, Cond.selects RX2 yX2_reachedAt yX2_reachedAt, Cond.code yX2_reachedAt cX2_reachedAt 2 (some .int), Cond.methodLink RX2 74 yX1_become, Cond.instanceMethod yX1_become, Cond.selects RX1 yX1_become yX1_become, Cond.code yX1_become cX1_become 4 none, Cond.methodLink RX2 77 yX2_stepsAt, Cond.instanceMethod yX2_stepsAt, Cond.selects RX2 yX2_stepsAt yX2_stepsAt]
def wsX5_many_r3 : List Cond := [Cond.code yX2_stepsAt cX2_stepsAt 2 (some .int), Cond.methodLink RX2 80 yX2_firstAt, Cond.instanceMethod yX2_firstAt, Cond.selects RX2 yX2_firstAt yX2_firstAt, Cond.code yX2_firstAt cX2_firstAt 2 (some .int), Cond.methodLink RX2 83 yX1_allows, Cond.instanceMethod yX1_allows, Cond.selects RX1 yX1_allows yX1_allows, Cond.code yX1_allows cX1_allows 4 (some .boolean), Cond.fieldLink RX1 15 "SwallowedInTurn$Nesting" "crowd" "LSwallowedInTurn$Crowd;", Cond.methodLink RX1 43 yX0_knows, Cond.instanceMethod yX0_knows, Cond.selects RX0 yX0_knows yX0_knows, Cond.code yX0_knows cX0_knows 2 (some .boolean), Cond.static yX5_isDeed, Cond.initialized RX5, Cond.code yX5_isDeed cX5_isDeed 1 (some .boolean), Cond.static yX5_doer, Cond.code yX5_doer cX5_doer 1 (some .int), Cond.methodLink RX0 31 yX0_has, Cond.instanceMethod yX0_has, Cond.selects RX0 yX0_has yX0_has, Cond.code yX0_has cX0_has 2 (some .boolean), Cond.static yX5_prey]
def wsX5_many_r4 : List Cond := [Cond.code yX5_prey cX5_prey 1 (some .int), Cond.methodLink RX5 223 yX5_doer, Cond.methodLink RX1 53 yX1_canSwallow, Cond.instanceMethod yX1_canSwallow, Cond.selects RX1 yX1_canSwallow yX1_canSwallow, Cond.code yX1_canSwallow cX1_canSwallow 5 (some .boolean), Cond.methodLink RX1 25 yX1_holder, Cond.instanceMethod yX1_holder, Cond.selects RX1 yX1_holder yX1_holder, Cond.code yX1_holder cX1_holder 2 (some .int), Cond.methodLink RX1 66 yX0_isOf, Cond.instanceMethod yX0_isOf, Cond.selects RX0 yX0_isOf yX0_isOf, Cond.code yX0_isOf cX0_isOf 4 (some .boolean), Cond.fieldLink RX0 41 "SwallowedInTurn$Crowd" "KINDS_OF_ONE" "[I", Cond.methodLink RX0 37 yX0_trait, Cond.instanceMethod yX0_trait, Cond.selects RX0 yX0_trait yX0_trait, Cond.code yX0_trait cX0_trait 4 (some .int), Cond.fieldLink RX0 9 "SwallowedInTurn$Crowd" "traits" "[I", Cond.methodLink RX1 35 yX0_trait, Cond.methodLink RX1 69 yX1_filled, Cond.instanceMethod yX1_filled, Cond.selects RX1 yX1_filled yX1_filled]
def wsX5_many_r5 : List Cond := [Cond.code yX1_filled cX1_filled 4 (some .int), Cond.methodLink RX1 29 yX0_total, Cond.methodLink RX1 56 yX1_comingOut, Cond.instanceMethod yX1_comingOut, Cond.selects RX1 yX1_comingOut yX1_comingOut, Cond.code yX1_comingOut cX1_comingOut 7 (some .int), Cond.methodLink RX1 59 yX1_canTake, Cond.instanceMethod yX1_canTake, Cond.selects RX1 yX1_canTake yX1_canTake, Cond.code yX1_canTake cX1_canTake 5 (some .boolean), Cond.methodLink RX2 87 yX1_copy, Cond.instanceMethod yX1_copy, Cond.selects RX1 yX1_copy yX1_copy, Cond.code yX1_copy cX1_copy 3 none, Cond.methodLink RX2 91 yX1_carryOut, Cond.instanceMethod yX1_carryOut, Cond.selects RX1 yX1_carryOut yX1_carryOut, Cond.code yX1_carryOut cX1_carryOut 6 none, Cond.methodLink RX1 62 yX1_put, Cond.instanceMethod yX1_put, Cond.selects RX1 yX1_put yX1_put, Cond.code yX1_put cX1_put 3 none, Cond.methodLink RX5 153 yX2_total, Cond.instanceMethod yX2_total]
def wsX5_many_r6 : List Cond := [Cond.selects RX2 yX2_total yX2_total, Cond.code yX2_total cX2_total 1 (some .int)]
def wsX5_many : List Cond := .code yX5_many cX5_many 1 (some .int) :: ((wsX5_many_r1 ++ (wsX5_many_r2 ++ (wsX5_many_r3 ++ (wsX5_many_r4 ++ (wsX5_many_r5 ++ wsX5_many_r6))))) ++ wsX50 ++ wsX20 ++ wsX10 ++ wsX00)
def wsX5_nesting_r1 : List Cond := [Cond.fieldLink RX5 31 "SwallowedInTurn" "outlook" "LSwallowedInTurn$Outlook;", Cond.fieldLink RX5 21 "SwallowedInTurn" "now" "LSwallowedInTurn$Nesting;", Cond.methodLink RX5 135 yX2_lookFrom, Cond.instanceMethod yX2_lookFrom, Cond.selects RX2 yX2_lookFrom yX2_lookFrom, Cond.initialized RX2, Cond.code yX2_lookFrom cX2_lookFrom 4 none, Cond.fieldLink RX2 28 "SwallowedInTurn$Outlook" "startNumber" "I", Cond.fieldLink RX2 35 "SwallowedInTurn$Outlook" "crowd" "LSwallowedInTurn$Crowd;", Cond.fieldLink RX2 32 "SwallowedInTurn$Outlook" "startTotal" "I", Cond.fieldLink RX2 21 "SwallowedInTurn$Outlook" "isReached" "[Z", Cond.fieldLink RX2 60 "SwallowedInTurn$Outlook" "total" "I", Cond.fieldLink RX2 11 "SwallowedInTurn$Outlook" "reached" "[I", Cond.methodLink RX2 51 yX1_toNumber, Cond.instanceMethod yX1_toNumber, Cond.selects RX1 yX1_toNumber yX1_toNumber, Cond.initialized RX1, Cond.code yX1_toNumber cX1_toNumber 3 (some .int), Cond.fieldLink RX1 9 "SwallowedInTurn$Nesting" "holders" "[I", Cond.methodLink RX2 55 yX0_total, Cond.instanceMethod yX0_total, Cond.selects RX0 yX0_total yX0_total, Cond.initialized RX0, Cond.code yX0_total cX0_total 1 (some .int)]
def wsX5_nesting_r2 : List Cond := [Cond.fieldLink RX0 15 "SwallowedInTurn$Crowd" "total" "I", Cond.methodLink RX2 62 yX2_reach, Cond.instanceMethod yX2_reach, Cond.selects RX2 yX2_reach yX2_reach, Cond.code yX2_reach cX2_reach 4 none, Cond.fieldLink RX2 15 "SwallowedInTurn$Outlook" "steps" "[I", Cond.fieldLink RX2 18 "SwallowedInTurn$Outlook" "firsts" "[I", Cond.methodLink RX2 66 yX2_spread, Cond.instanceMethod yX2_spread, Cond.selects RX2 yX2_spread yX2_spread, Cond.code yX2_spread cX2_spread 5 none, Cond.fieldLink RX2 44 "SwallowedInTurn$Outlook" "here" "LSwallowedInTurn$Nesting;", Cond.fieldLink RX2 48 "SwallowedInTurn$Outlook" "next" "LSwallowedInTurn$Nesting;", Cond.methodLink RX2 70 yX2_reachedAt, Cond.instanceMethod yX2_reachedAt, Cond.selects RX2 yX2_reachedAt yX2_reachedAt, Cond.code yX2_reachedAt cX2_reachedAt 2 (some .int), Cond.methodLink RX2 74 yX1_become, Cond.instanceMethod yX1_become, Cond.selects RX1 yX1_become yX1_become, Cond.code yX1_become cX1_become 4 none, Cond.methodLink RX2 77 yX2_stepsAt, Cond.instanceMethod yX2_stepsAt, Cond.selects RX2 yX2_stepsAt yX2_stepsAt]
def wsX5_nesting_r3 : List Cond := [Cond.code yX2_stepsAt cX2_stepsAt 2 (some .int), Cond.methodLink RX2 80 yX2_firstAt, Cond.instanceMethod yX2_firstAt, Cond.selects RX2 yX2_firstAt yX2_firstAt, Cond.code yX2_firstAt cX2_firstAt 2 (some .int), Cond.methodLink RX2 83 yX1_allows, Cond.instanceMethod yX1_allows, Cond.selects RX1 yX1_allows yX1_allows, Cond.code yX1_allows cX1_allows 4 (some .boolean), Cond.fieldLink RX1 15 "SwallowedInTurn$Nesting" "crowd" "LSwallowedInTurn$Crowd;", Cond.methodLink RX1 43 yX0_knows, Cond.instanceMethod yX0_knows, Cond.selects RX0 yX0_knows yX0_knows, Cond.code yX0_knows cX0_knows 2 (some .boolean), Cond.static yX5_isDeed, Cond.initialized RX5, Cond.code yX5_isDeed cX5_isDeed 1 (some .boolean), Cond.static yX5_doer, Cond.code yX5_doer cX5_doer 1 (some .int), Cond.methodLink RX0 31 yX0_has, Cond.instanceMethod yX0_has, Cond.selects RX0 yX0_has yX0_has, Cond.code yX0_has cX0_has 2 (some .boolean), Cond.static yX5_prey]
def wsX5_nesting_r4 : List Cond := [Cond.code yX5_prey cX5_prey 1 (some .int), Cond.methodLink RX5 223 yX5_doer, Cond.methodLink RX1 53 yX1_canSwallow, Cond.instanceMethod yX1_canSwallow, Cond.selects RX1 yX1_canSwallow yX1_canSwallow, Cond.code yX1_canSwallow cX1_canSwallow 5 (some .boolean), Cond.methodLink RX1 25 yX1_holder, Cond.instanceMethod yX1_holder, Cond.selects RX1 yX1_holder yX1_holder, Cond.code yX1_holder cX1_holder 2 (some .int), Cond.methodLink RX1 66 yX0_isOf, Cond.instanceMethod yX0_isOf, Cond.selects RX0 yX0_isOf yX0_isOf, Cond.code yX0_isOf cX0_isOf 4 (some .boolean), Cond.fieldLink RX0 41 "SwallowedInTurn$Crowd" "KINDS_OF_ONE" "[I", Cond.methodLink RX0 37 yX0_trait, Cond.instanceMethod yX0_trait, Cond.selects RX0 yX0_trait yX0_trait, Cond.code yX0_trait cX0_trait 4 (some .int), Cond.fieldLink RX0 9 "SwallowedInTurn$Crowd" "traits" "[I", Cond.methodLink RX1 35 yX0_trait, Cond.methodLink RX1 69 yX1_filled, Cond.instanceMethod yX1_filled, Cond.selects RX1 yX1_filled yX1_filled]
def wsX5_nesting_r5 : List Cond := [Cond.code yX1_filled cX1_filled 4 (some .int), Cond.methodLink RX1 29 yX0_total, Cond.methodLink RX1 56 yX1_comingOut, Cond.instanceMethod yX1_comingOut, Cond.selects RX1 yX1_comingOut yX1_comingOut, Cond.code yX1_comingOut cX1_comingOut 7 (some .int), Cond.methodLink RX1 59 yX1_canTake, Cond.instanceMethod yX1_canTake, Cond.selects RX1 yX1_canTake yX1_canTake, Cond.code yX1_canTake cX1_canTake 5 (some .boolean), Cond.methodLink RX2 87 yX1_copy, Cond.instanceMethod yX1_copy, Cond.selects RX1 yX1_copy yX1_copy, Cond.code yX1_copy cX1_copy 3 none, Cond.methodLink RX2 91 yX1_carryOut, Cond.instanceMethod yX1_carryOut, Cond.selects RX1 yX1_carryOut yX1_carryOut, Cond.code yX1_carryOut cX1_carryOut 6 none, Cond.methodLink RX1 62 yX1_put, Cond.instanceMethod yX1_put, Cond.selects RX1 yX1_put yX1_put, Cond.code yX1_put cX1_put 3 none, Cond.methodLink RX5 156 yX2_numberAt, Cond.instanceMethod yX2_numberAt]
def wsX5_nesting_r6 : List Cond := [Cond.selects RX2 yX2_numberAt yX2_numberAt, Cond.code yX2_numberAt cX2_numberAt 4 (some .int)]
def wsX5_nesting : List Cond := .code yX5_nesting cX5_nesting 3 (some .int) :: ((wsX5_nesting_r1 ++ (wsX5_nesting_r2 ++ (wsX5_nesting_r3 ++ (wsX5_nesting_r4 ++ (wsX5_nesting_r5 ++ wsX5_nesting_r6))))) ++ wsX50 ++ wsX20 ++ wsX10 ++ wsX00)
def wsX5_told_r1 : List Cond := [Cond.fieldLink RX5 12 "SwallowedInTurn" "crowd" "LSwallowedInTurn$Crowd;", Cond.fieldLink RX5 45 "SwallowedInTurn" "talk" "LSwallowedInTurn$Talk;", Cond.methodLink RX5 100 yX0_has, Cond.instanceMethod yX0_has, Cond.selects RX0 yX0_has yX0_has, Cond.initialized RX0, Cond.code yX0_has cX0_has 2 (some .boolean), Cond.fieldLink RX0 15 "SwallowedInTurn$Crowd" "total" "I", Cond.methodLink RX5 132 yX0_hasAll, Cond.instanceMethod yX0_hasAll, Cond.selects RX0 yX0_hasAll yX0_hasAll, Cond.code yX0_hasAll cX0_hasAll 2 (some .boolean), Cond.methodLink RX0 19 yX0_all, Cond.instanceMethod yX0_all, Cond.selects RX0 yX0_all yX0_all, Cond.code yX0_all cX0_all 1 (some .int), Cond.methodLink RX5 159 yX4_keep, Cond.instanceMethod yX4_keep, Cond.selects RX4 yX4_keep yX4_keep, Cond.initialized RX4, Cond.code yX4_keep cX4_keep 3 (some .boolean), Cond.fieldLink RX4 16 "SwallowedInTurn$Talk" "length" "I", Cond.fieldLink RX4 7 "SwallowedInTurn$Talk" "tellers" "[I", Cond.fieldLink RX4 13 "SwallowedInTurn$Talk" "heard" "[I"]
def wsX5_told_r2 : List Cond := [Cond.methodLink RX5 162 yX4_length, Cond.instanceMethod yX4_length, Cond.selects RX4 yX4_length yX4_length, Cond.code yX4_length cX4_length 1 (some .int)]
def wsX5_told : List Cond := .code yX5_told cX5_told 3 (some .int) :: ((wsX5_told_r1 ++ wsX5_told_r2) ++ wsX50 ++ wsX00 ++ wsX40)
def wsX5_forget : List Cond := .code yX5_forget cX5_forget 1 (some .int) :: ([.fieldLink RX5 45 "SwallowedInTurn" "talk" "LSwallowedInTurn$Talk;", .methodLink RX5 163 yX4_clear, .instanceMethod yX4_clear, .selects RX4 yX4_clear yX4_clear, .initialized RX4, .code yX4_clear cX4_clear 2 (some .int), .fieldLink RX4 16 "SwallowedInTurn$Talk" "length" "I"] ++ wsX50 ++ wsX40)
def wsX5_fits_r1 : List Cond := [Cond.fieldLink RX5 31 "SwallowedInTurn" "outlook" "LSwallowedInTurn$Outlook;", Cond.fieldLink RX5 21 "SwallowedInTurn" "now" "LSwallowedInTurn$Nesting;", Cond.fieldLink RX5 45 "SwallowedInTurn" "talk" "LSwallowedInTurn$Talk;", Cond.methodLink RX5 135 yX2_lookFrom, Cond.instanceMethod yX2_lookFrom, Cond.selects RX2 yX2_lookFrom yX2_lookFrom, Cond.initialized RX2, Cond.code yX2_lookFrom cX2_lookFrom 4 none, Cond.fieldLink RX2 28 "SwallowedInTurn$Outlook" "startNumber" "I", Cond.fieldLink RX2 35 "SwallowedInTurn$Outlook" "crowd" "LSwallowedInTurn$Crowd;", Cond.fieldLink RX2 32 "SwallowedInTurn$Outlook" "startTotal" "I", Cond.fieldLink RX2 21 "SwallowedInTurn$Outlook" "isReached" "[Z", Cond.fieldLink RX2 60 "SwallowedInTurn$Outlook" "total" "I", Cond.fieldLink RX2 11 "SwallowedInTurn$Outlook" "reached" "[I", Cond.methodLink RX2 51 yX1_toNumber, Cond.instanceMethod yX1_toNumber, Cond.selects RX1 yX1_toNumber yX1_toNumber, Cond.initialized RX1, Cond.code yX1_toNumber cX1_toNumber 3 (some .int), Cond.fieldLink RX1 9 "SwallowedInTurn$Nesting" "holders" "[I", Cond.methodLink RX2 55 yX0_total, Cond.instanceMethod yX0_total, Cond.selects RX0 yX0_total yX0_total, Cond.initialized RX0]
def wsX5_fits_r2 : List Cond := [Cond.code yX0_total cX0_total 1 (some .int), Cond.fieldLink RX0 15 "SwallowedInTurn$Crowd" "total" "I", Cond.methodLink RX2 62 yX2_reach, Cond.instanceMethod yX2_reach, Cond.selects RX2 yX2_reach yX2_reach, Cond.code yX2_reach cX2_reach 4 none, Cond.fieldLink RX2 15 "SwallowedInTurn$Outlook" "steps" "[I", Cond.fieldLink RX2 18 "SwallowedInTurn$Outlook" "firsts" "[I", Cond.methodLink RX2 66 yX2_spread, Cond.instanceMethod yX2_spread, Cond.selects RX2 yX2_spread yX2_spread, Cond.code yX2_spread cX2_spread 5 none, Cond.fieldLink RX2 44 "SwallowedInTurn$Outlook" "here" "LSwallowedInTurn$Nesting;", Cond.fieldLink RX2 48 "SwallowedInTurn$Outlook" "next" "LSwallowedInTurn$Nesting;", Cond.methodLink RX2 70 yX2_reachedAt, Cond.instanceMethod yX2_reachedAt, Cond.selects RX2 yX2_reachedAt yX2_reachedAt, Cond.code yX2_reachedAt cX2_reachedAt 2 (some .int), Cond.methodLink RX2 74 yX1_become, Cond.instanceMethod yX1_become, Cond.selects RX1 yX1_become yX1_become, Cond.code yX1_become cX1_become 4 none, Cond.methodLink RX2 77 yX2_stepsAt, Cond.instanceMethod yX2_stepsAt]
def wsX5_fits_r3 : List Cond := [Cond.selects RX2 yX2_stepsAt yX2_stepsAt, Cond.code yX2_stepsAt cX2_stepsAt 2 (some .int), Cond.methodLink RX2 80 yX2_firstAt, Cond.instanceMethod yX2_firstAt, Cond.selects RX2 yX2_firstAt yX2_firstAt, Cond.code yX2_firstAt cX2_firstAt 2 (some .int), Cond.methodLink RX2 83 yX1_allows, Cond.instanceMethod yX1_allows, Cond.selects RX1 yX1_allows yX1_allows, Cond.code yX1_allows cX1_allows 4 (some .boolean), Cond.fieldLink RX1 15 "SwallowedInTurn$Nesting" "crowd" "LSwallowedInTurn$Crowd;", Cond.methodLink RX1 43 yX0_knows, Cond.instanceMethod yX0_knows, Cond.selects RX0 yX0_knows yX0_knows, Cond.code yX0_knows cX0_knows 2 (some .boolean), Cond.static yX5_isDeed, Cond.initialized RX5, Cond.code yX5_isDeed cX5_isDeed 1 (some .boolean), Cond.static yX5_doer, Cond.code yX5_doer cX5_doer 1 (some .int), Cond.methodLink RX0 31 yX0_has, Cond.instanceMethod yX0_has, Cond.selects RX0 yX0_has yX0_has, Cond.code yX0_has cX0_has 2 (some .boolean)]
def wsX5_fits_r4 : List Cond := [Cond.static yX5_prey, Cond.code yX5_prey cX5_prey 1 (some .int), Cond.methodLink RX5 223 yX5_doer, Cond.methodLink RX1 53 yX1_canSwallow, Cond.instanceMethod yX1_canSwallow, Cond.selects RX1 yX1_canSwallow yX1_canSwallow, Cond.code yX1_canSwallow cX1_canSwallow 5 (some .boolean), Cond.methodLink RX1 25 yX1_holder, Cond.instanceMethod yX1_holder, Cond.selects RX1 yX1_holder yX1_holder, Cond.code yX1_holder cX1_holder 2 (some .int), Cond.methodLink RX1 66 yX0_isOf, Cond.instanceMethod yX0_isOf, Cond.selects RX0 yX0_isOf yX0_isOf, Cond.code yX0_isOf cX0_isOf 4 (some .boolean), Cond.fieldLink RX0 41 "SwallowedInTurn$Crowd" "KINDS_OF_ONE" "[I", Cond.methodLink RX0 37 yX0_trait, Cond.instanceMethod yX0_trait, Cond.selects RX0 yX0_trait yX0_trait, Cond.code yX0_trait cX0_trait 4 (some .int), Cond.fieldLink RX0 9 "SwallowedInTurn$Crowd" "traits" "[I", Cond.methodLink RX1 35 yX0_trait, Cond.methodLink RX1 69 yX1_filled, Cond.instanceMethod yX1_filled]
def wsX5_fits_r5 : List Cond := [Cond.selects RX1 yX1_filled yX1_filled, Cond.code yX1_filled cX1_filled 4 (some .int), Cond.methodLink RX1 29 yX0_total, Cond.methodLink RX1 56 yX1_comingOut, Cond.instanceMethod yX1_comingOut, Cond.selects RX1 yX1_comingOut yX1_comingOut, Cond.code yX1_comingOut cX1_comingOut 7 (some .int), Cond.methodLink RX1 59 yX1_canTake, Cond.instanceMethod yX1_canTake, Cond.selects RX1 yX1_canTake yX1_canTake, Cond.code yX1_canTake cX1_canTake 5 (some .boolean), Cond.methodLink RX2 87 yX1_copy, Cond.instanceMethod yX1_copy, Cond.selects RX1 yX1_copy yX1_copy, Cond.code yX1_copy cX1_copy 3 none, Cond.methodLink RX2 91 yX1_carryOut, Cond.instanceMethod yX1_carryOut, Cond.selects RX1 yX1_carryOut yX1_carryOut, Cond.code yX1_carryOut cX1_carryOut 6 none, Cond.methodLink RX1 62 yX1_put, Cond.instanceMethod yX1_put, Cond.selects RX1 yX1_put yX1_put, Cond.code yX1_put cX1_put 3 none, Cond.methodLink RX5 164 yX2_fitting]
def wsX5_fits_r6 : List Cond := [Cond.instanceMethod yX2_fitting, Cond.selects RX2 yX2_fitting yX2_fitting, Cond.code yX2_fitting cX2_fitting 4 (some .int), Cond.methodLink RX2 109 yX4_isSoIn, Cond.instanceMethod yX4_isSoIn, Cond.selects RX4 yX4_isSoIn yX4_isSoIn, Cond.initialized RX4, Cond.code yX4_isSoIn cX4_isSoIn 3 (some .boolean), Cond.fieldLink RX4 16 "SwallowedInTurn$Talk" "length" "I", Cond.fieldLink RX4 7 "SwallowedInTurn$Talk" "tellers" "[I", Cond.fieldLink RX4 13 "SwallowedInTurn$Talk" "heard" "[I", Cond.methodLink RX4 20 yX1_heardBy, Cond.instanceMethod yX1_heardBy, Cond.selects RX1 yX1_heardBy yX1_heardBy, Cond.code yX1_heardBy cX1_heardBy 4 (some .int), Cond.methodLink RX1 39 yX1_hears, Cond.instanceMethod yX1_hears, Cond.selects RX1 yX1_hears yX1_hears, Cond.code yX1_hears cX1_hears 5 (some .boolean)]
def wsX5_fits : List Cond := .code yX5_fits cX5_fits 1 (some .int) :: ((wsX5_fits_r1 ++ (wsX5_fits_r2 ++ (wsX5_fits_r3 ++ (wsX5_fits_r4 ++ (wsX5_fits_r5 ++ wsX5_fits_r6))))) ++ wsX50 ++ wsX20 ++ wsX10 ++ wsX00 ++ wsX40)
def wsX5_sure_r1 : List Cond := [Cond.fieldLink RX5 12 "SwallowedInTurn" "crowd" "LSwallowedInTurn$Crowd;", Cond.fieldLink RX5 31 "SwallowedInTurn" "outlook" "LSwallowedInTurn$Outlook;", Cond.fieldLink RX5 21 "SwallowedInTurn" "now" "LSwallowedInTurn$Nesting;", Cond.fieldLink RX5 45 "SwallowedInTurn" "talk" "LSwallowedInTurn$Talk;", Cond.methodLink RX5 100 yX0_has, Cond.instanceMethod yX0_has, Cond.selects RX0 yX0_has yX0_has, Cond.initialized RX0, Cond.code yX0_has cX0_has 2 (some .boolean), Cond.fieldLink RX0 15 "SwallowedInTurn$Crowd" "total" "I", Cond.methodLink RX5 135 yX2_lookFrom, Cond.instanceMethod yX2_lookFrom, Cond.selects RX2 yX2_lookFrom yX2_lookFrom, Cond.initialized RX2, Cond.code yX2_lookFrom cX2_lookFrom 4 none, Cond.fieldLink RX2 28 "SwallowedInTurn$Outlook" "startNumber" "I", Cond.fieldLink RX2 35 "SwallowedInTurn$Outlook" "crowd" "LSwallowedInTurn$Crowd;", Cond.fieldLink RX2 32 "SwallowedInTurn$Outlook" "startTotal" "I", Cond.fieldLink RX2 21 "SwallowedInTurn$Outlook" "isReached" "[Z", Cond.fieldLink RX2 60 "SwallowedInTurn$Outlook" "total" "I", Cond.fieldLink RX2 11 "SwallowedInTurn$Outlook" "reached" "[I", Cond.methodLink RX2 51 yX1_toNumber, Cond.instanceMethod yX1_toNumber, Cond.selects RX1 yX1_toNumber yX1_toNumber]
def wsX5_sure_r2 : List Cond := [Cond.initialized RX1, Cond.code yX1_toNumber cX1_toNumber 3 (some .int), Cond.fieldLink RX1 9 "SwallowedInTurn$Nesting" "holders" "[I", Cond.methodLink RX2 55 yX0_total, Cond.instanceMethod yX0_total, Cond.selects RX0 yX0_total yX0_total, Cond.code yX0_total cX0_total 1 (some .int), Cond.methodLink RX2 62 yX2_reach, Cond.instanceMethod yX2_reach, Cond.selects RX2 yX2_reach yX2_reach, Cond.code yX2_reach cX2_reach 4 none, Cond.fieldLink RX2 15 "SwallowedInTurn$Outlook" "steps" "[I", Cond.fieldLink RX2 18 "SwallowedInTurn$Outlook" "firsts" "[I", Cond.methodLink RX2 66 yX2_spread, Cond.instanceMethod yX2_spread, Cond.selects RX2 yX2_spread yX2_spread, Cond.code yX2_spread cX2_spread 5 none, Cond.fieldLink RX2 44 "SwallowedInTurn$Outlook" "here" "LSwallowedInTurn$Nesting;", Cond.fieldLink RX2 48 "SwallowedInTurn$Outlook" "next" "LSwallowedInTurn$Nesting;", Cond.methodLink RX2 70 yX2_reachedAt, Cond.instanceMethod yX2_reachedAt, Cond.selects RX2 yX2_reachedAt yX2_reachedAt, Cond.code yX2_reachedAt cX2_reachedAt 2 (some .int), Cond.methodLink RX2 74 yX1_become]
def wsX5_sure_r3 : List Cond := [Cond.instanceMethod yX1_become, Cond.selects RX1 yX1_become yX1_become, Cond.code yX1_become cX1_become 4 none, Cond.methodLink RX2 77 yX2_stepsAt, Cond.instanceMethod yX2_stepsAt, Cond.selects RX2 yX2_stepsAt yX2_stepsAt, Cond.code yX2_stepsAt cX2_stepsAt 2 (some .int), Cond.methodLink RX2 80 yX2_firstAt, Cond.instanceMethod yX2_firstAt, Cond.selects RX2 yX2_firstAt yX2_firstAt, Cond.code yX2_firstAt cX2_firstAt 2 (some .int), Cond.methodLink RX2 83 yX1_allows, Cond.instanceMethod yX1_allows, Cond.selects RX1 yX1_allows yX1_allows, Cond.code yX1_allows cX1_allows 4 (some .boolean), Cond.fieldLink RX1 15 "SwallowedInTurn$Nesting" "crowd" "LSwallowedInTurn$Crowd;", Cond.methodLink RX1 43 yX0_knows, Cond.instanceMethod yX0_knows, Cond.selects RX0 yX0_knows yX0_knows, Cond.code yX0_knows cX0_knows 2 (some .boolean), Cond.static yX5_isDeed, Cond.initialized RX5, Cond.code yX5_isDeed cX5_isDeed 1 (some .boolean), Cond.static yX5_doer]
def wsX5_sure_r4 : List Cond := [Cond.code yX5_doer cX5_doer 1 (some .int), Cond.methodLink RX0 31 yX0_has, Cond.static yX5_prey, Cond.code yX5_prey cX5_prey 1 (some .int), Cond.methodLink RX5 223 yX5_doer, Cond.methodLink RX1 53 yX1_canSwallow, Cond.instanceMethod yX1_canSwallow, Cond.selects RX1 yX1_canSwallow yX1_canSwallow, Cond.code yX1_canSwallow cX1_canSwallow 5 (some .boolean), Cond.methodLink RX1 25 yX1_holder, Cond.instanceMethod yX1_holder, Cond.selects RX1 yX1_holder yX1_holder, Cond.code yX1_holder cX1_holder 2 (some .int), Cond.methodLink RX1 66 yX0_isOf, Cond.instanceMethod yX0_isOf, Cond.selects RX0 yX0_isOf yX0_isOf, Cond.code yX0_isOf cX0_isOf 4 (some .boolean), Cond.fieldLink RX0 41 "SwallowedInTurn$Crowd" "KINDS_OF_ONE" "[I", Cond.methodLink RX0 37 yX0_trait, Cond.instanceMethod yX0_trait, Cond.selects RX0 yX0_trait yX0_trait, Cond.code yX0_trait cX0_trait 4 (some .int), Cond.fieldLink RX0 9 "SwallowedInTurn$Crowd" "traits" "[I", Cond.methodLink RX1 35 yX0_trait]
def wsX5_sure_r5 : List Cond := [Cond.methodLink RX1 69 yX1_filled, Cond.instanceMethod yX1_filled, Cond.selects RX1 yX1_filled yX1_filled, Cond.code yX1_filled cX1_filled 4 (some .int), Cond.methodLink RX1 29 yX0_total, Cond.methodLink RX1 56 yX1_comingOut, Cond.instanceMethod yX1_comingOut, Cond.selects RX1 yX1_comingOut yX1_comingOut, Cond.code yX1_comingOut cX1_comingOut 7 (some .int), Cond.methodLink RX1 59 yX1_canTake, Cond.instanceMethod yX1_canTake, Cond.selects RX1 yX1_canTake yX1_canTake, Cond.code yX1_canTake cX1_canTake 5 (some .boolean), Cond.methodLink RX2 87 yX1_copy, Cond.instanceMethod yX1_copy, Cond.selects RX1 yX1_copy yX1_copy, Cond.code yX1_copy cX1_copy 3 none, Cond.methodLink RX2 91 yX1_carryOut, Cond.instanceMethod yX1_carryOut, Cond.selects RX1 yX1_carryOut yX1_carryOut, Cond.code yX1_carryOut cX1_carryOut 6 none, Cond.methodLink RX1 62 yX1_put, Cond.instanceMethod yX1_put, Cond.selects RX1 yX1_put yX1_put]
def wsX5_sure_r6 : List Cond := [Cond.code yX1_put cX1_put 3 none, Cond.methodLink RX5 168 yX2_sureHolder, Cond.instanceMethod yX2_sureHolder, Cond.selects RX2 yX2_sureHolder yX2_sureHolder, Cond.code yX2_sureHolder cX2_sureHolder 5 (some .int), Cond.methodLink RX2 109 yX4_isSoIn, Cond.instanceMethod yX4_isSoIn, Cond.selects RX4 yX4_isSoIn yX4_isSoIn, Cond.initialized RX4, Cond.code yX4_isSoIn cX4_isSoIn 3 (some .boolean), Cond.fieldLink RX4 16 "SwallowedInTurn$Talk" "length" "I", Cond.fieldLink RX4 7 "SwallowedInTurn$Talk" "tellers" "[I", Cond.fieldLink RX4 13 "SwallowedInTurn$Talk" "heard" "[I", Cond.methodLink RX4 20 yX1_heardBy, Cond.instanceMethod yX1_heardBy, Cond.selects RX1 yX1_heardBy yX1_heardBy, Cond.code yX1_heardBy cX1_heardBy 4 (some .int), Cond.methodLink RX1 39 yX1_hears, Cond.instanceMethod yX1_hears, Cond.selects RX1 yX1_hears yX1_hears, Cond.code yX1_hears cX1_hears 5 (some .boolean), Cond.methodLink RX2 97 yX1_holder]
def wsX5_sure : List Cond := .code yX5_sure cX5_sure 2 (some .int) :: ((wsX5_sure_r1 ++ (wsX5_sure_r2 ++ (wsX5_sure_r3 ++ (wsX5_sure_r4 ++ (wsX5_sure_r5 ++ wsX5_sure_r6))))) ++ wsX50 ++ wsX00 ++ wsX20 ++ wsX10 ++ wsX40)
def wsX5_ask_r1 : List Cond := [Cond.fieldLink RX5 31 "SwallowedInTurn" "outlook" "LSwallowedInTurn$Outlook;", Cond.fieldLink RX5 21 "SwallowedInTurn" "now" "LSwallowedInTurn$Nesting;", Cond.fieldLink RX5 45 "SwallowedInTurn" "talk" "LSwallowedInTurn$Talk;", Cond.methodLink RX5 135 yX2_lookFrom, Cond.instanceMethod yX2_lookFrom, Cond.selects RX2 yX2_lookFrom yX2_lookFrom, Cond.initialized RX2, Cond.code yX2_lookFrom cX2_lookFrom 4 none, Cond.fieldLink RX2 28 "SwallowedInTurn$Outlook" "startNumber" "I", Cond.fieldLink RX2 35 "SwallowedInTurn$Outlook" "crowd" "LSwallowedInTurn$Crowd;", Cond.fieldLink RX2 32 "SwallowedInTurn$Outlook" "startTotal" "I", Cond.fieldLink RX2 21 "SwallowedInTurn$Outlook" "isReached" "[Z", Cond.fieldLink RX2 60 "SwallowedInTurn$Outlook" "total" "I", Cond.fieldLink RX2 11 "SwallowedInTurn$Outlook" "reached" "[I", Cond.methodLink RX2 51 yX1_toNumber, Cond.instanceMethod yX1_toNumber, Cond.selects RX1 yX1_toNumber yX1_toNumber, Cond.initialized RX1, Cond.code yX1_toNumber cX1_toNumber 3 (some .int), Cond.fieldLink RX1 9 "SwallowedInTurn$Nesting" "holders" "[I", Cond.methodLink RX2 55 yX0_total, Cond.instanceMethod yX0_total, Cond.selects RX0 yX0_total yX0_total, Cond.initialized RX0]
def wsX5_ask_r2 : List Cond := [Cond.code yX0_total cX0_total 1 (some .int), Cond.fieldLink RX0 15 "SwallowedInTurn$Crowd" "total" "I", Cond.methodLink RX2 62 yX2_reach, Cond.instanceMethod yX2_reach, Cond.selects RX2 yX2_reach yX2_reach, Cond.code yX2_reach cX2_reach 4 none, Cond.fieldLink RX2 15 "SwallowedInTurn$Outlook" "steps" "[I", Cond.fieldLink RX2 18 "SwallowedInTurn$Outlook" "firsts" "[I", Cond.methodLink RX2 66 yX2_spread, Cond.instanceMethod yX2_spread, Cond.selects RX2 yX2_spread yX2_spread, Cond.code yX2_spread cX2_spread 5 none, Cond.fieldLink RX2 44 "SwallowedInTurn$Outlook" "here" "LSwallowedInTurn$Nesting;", Cond.fieldLink RX2 48 "SwallowedInTurn$Outlook" "next" "LSwallowedInTurn$Nesting;", Cond.methodLink RX2 70 yX2_reachedAt, Cond.instanceMethod yX2_reachedAt, Cond.selects RX2 yX2_reachedAt yX2_reachedAt, Cond.code yX2_reachedAt cX2_reachedAt 2 (some .int), Cond.methodLink RX2 74 yX1_become, Cond.instanceMethod yX1_become, Cond.selects RX1 yX1_become yX1_become, Cond.code yX1_become cX1_become 4 none, Cond.methodLink RX2 77 yX2_stepsAt, Cond.instanceMethod yX2_stepsAt]
def wsX5_ask_r3 : List Cond := [Cond.selects RX2 yX2_stepsAt yX2_stepsAt, Cond.code yX2_stepsAt cX2_stepsAt 2 (some .int), Cond.methodLink RX2 80 yX2_firstAt, Cond.instanceMethod yX2_firstAt, Cond.selects RX2 yX2_firstAt yX2_firstAt, Cond.code yX2_firstAt cX2_firstAt 2 (some .int), Cond.methodLink RX2 83 yX1_allows, Cond.instanceMethod yX1_allows, Cond.selects RX1 yX1_allows yX1_allows, Cond.code yX1_allows cX1_allows 4 (some .boolean), Cond.fieldLink RX1 15 "SwallowedInTurn$Nesting" "crowd" "LSwallowedInTurn$Crowd;", Cond.methodLink RX1 43 yX0_knows, Cond.instanceMethod yX0_knows, Cond.selects RX0 yX0_knows yX0_knows, Cond.code yX0_knows cX0_knows 2 (some .boolean), Cond.static yX5_isDeed, Cond.initialized RX5, Cond.code yX5_isDeed cX5_isDeed 1 (some .boolean), Cond.static yX5_doer, Cond.code yX5_doer cX5_doer 1 (some .int), Cond.methodLink RX0 31 yX0_has, Cond.instanceMethod yX0_has, Cond.selects RX0 yX0_has yX0_has, Cond.code yX0_has cX0_has 2 (some .boolean)]
def wsX5_ask_r4 : List Cond := [Cond.static yX5_prey, Cond.code yX5_prey cX5_prey 1 (some .int), Cond.methodLink RX5 223 yX5_doer, Cond.methodLink RX1 53 yX1_canSwallow, Cond.instanceMethod yX1_canSwallow, Cond.selects RX1 yX1_canSwallow yX1_canSwallow, Cond.code yX1_canSwallow cX1_canSwallow 5 (some .boolean), Cond.methodLink RX1 25 yX1_holder, Cond.instanceMethod yX1_holder, Cond.selects RX1 yX1_holder yX1_holder, Cond.code yX1_holder cX1_holder 2 (some .int), Cond.methodLink RX1 66 yX0_isOf, Cond.instanceMethod yX0_isOf, Cond.selects RX0 yX0_isOf yX0_isOf, Cond.code yX0_isOf cX0_isOf 4 (some .boolean), Cond.fieldLink RX0 41 "SwallowedInTurn$Crowd" "KINDS_OF_ONE" "[I", Cond.methodLink RX0 37 yX0_trait, Cond.instanceMethod yX0_trait, Cond.selects RX0 yX0_trait yX0_trait, Cond.code yX0_trait cX0_trait 4 (some .int), Cond.fieldLink RX0 9 "SwallowedInTurn$Crowd" "traits" "[I", Cond.methodLink RX1 35 yX0_trait, Cond.methodLink RX1 69 yX1_filled, Cond.instanceMethod yX1_filled]
def wsX5_ask_r5 : List Cond := [Cond.selects RX1 yX1_filled yX1_filled, Cond.code yX1_filled cX1_filled 4 (some .int), Cond.methodLink RX1 29 yX0_total, Cond.methodLink RX1 56 yX1_comingOut, Cond.instanceMethod yX1_comingOut, Cond.selects RX1 yX1_comingOut yX1_comingOut, Cond.code yX1_comingOut cX1_comingOut 7 (some .int), Cond.methodLink RX1 59 yX1_canTake, Cond.instanceMethod yX1_canTake, Cond.selects RX1 yX1_canTake yX1_canTake, Cond.code yX1_canTake cX1_canTake 5 (some .boolean), Cond.methodLink RX2 87 yX1_copy, Cond.instanceMethod yX1_copy, Cond.selects RX1 yX1_copy yX1_copy, Cond.code yX1_copy cX1_copy 3 none, Cond.methodLink RX2 91 yX1_carryOut, Cond.instanceMethod yX1_carryOut, Cond.selects RX1 yX1_carryOut yX1_carryOut, Cond.code yX1_carryOut cX1_carryOut 6 none, Cond.methodLink RX1 62 yX1_put, Cond.instanceMethod yX1_put, Cond.selects RX1 yX1_put yX1_put, Cond.code yX1_put cX1_put 3 none, Cond.methodLink RX5 172 yX2_bestAsked]
def wsX5_ask_r6 : List Cond := [Cond.instanceMethod yX2_bestAsked, Cond.selects RX2 yX2_bestAsked yX2_bestAsked, Cond.code yX2_bestAsked cX2_bestAsked 6 (some .int), Cond.methodLink RX2 115 yX2_mostLeft, Cond.instanceMethod yX2_mostLeft, Cond.selects RX2 yX2_mostLeft yX2_mostLeft, Cond.code yX2_mostLeft cX2_mostLeft 6 (some .int), Cond.fieldLink RX2 25 "SwallowedInTurn$Outlook" "answers" "[I", Cond.methodLink RX2 103 Lib.Math.max.name, Cond.static Lib.Math.max.name, Cond.initialized "java/lang/Math", Cond.code Lib.Math.max.name Lib.Math.max.code 2 (some .int), Cond.methodLink RX2 119 yJ7_fill_53178, Cond.static yJ7_fill_53178, Cond.initialized RJ7, Cond.code yJ7_fill_53178 cJ7_fill_53178 4 none, Cond.methodLink RX2 125 yX1_heardBy, Cond.instanceMethod yX1_heardBy, Cond.selects RX1 yX1_heardBy yX1_heardBy, Cond.code yX1_heardBy cX1_heardBy 4 (some .int), Cond.methodLink RX1 39 yX1_hears, Cond.instanceMethod yX1_hears, Cond.selects RX1 yX1_hears yX1_hears, Cond.code yX1_hears cX1_hears 5 (some .boolean)]
def wsX5_ask_r7 : List Cond := [Cond.methodLink RX2 109 yX4_isSoIn, Cond.instanceMethod yX4_isSoIn, Cond.selects RX4 yX4_isSoIn yX4_isSoIn, Cond.initialized RX4, Cond.code yX4_isSoIn cX4_isSoIn 3 (some .boolean), Cond.fieldLink RX4 16 "SwallowedInTurn$Talk" "length" "I", Cond.fieldLink RX4 7 "SwallowedInTurn$Talk" "tellers" "[I", Cond.fieldLink RX4 13 "SwallowedInTurn$Talk" "heard" "[I", Cond.methodLink RX4 20 yX1_heardBy]
def wsX5_ask : List Cond := .code yX5_ask cX5_ask 1 (some .int) :: ((wsX5_ask_r1 ++ (wsX5_ask_r2 ++ (wsX5_ask_r3 ++ (wsX5_ask_r4 ++ (wsX5_ask_r5 ++ (wsX5_ask_r6 ++ wsX5_ask_r7)))))) ++ wsX50 ++ wsX20 ++ wsX10 ++ wsX00 ++ wsX40)
def wsX5_nextSeed : List Cond := .code yX5_nextSeed cX5_nextSeed 1 (some .int) :: ([.constantLong RX5 217 (1103515245), .constantLong RX5 219 (12345), .constantLong RX5 221 (2147483648)])
def wsX5_days_r1 : List Cond := [Cond.fieldLink RX5 25 "SwallowedInTurn" "trial" "LSwallowedInTurn$Nesting;", Cond.fieldLink RX5 21 "SwallowedInTurn" "now" "LSwallowedInTurn$Nesting;", Cond.constant RX5 181 (65536), Cond.methodLink RX5 92 yX5_isBetween, Cond.static yX5_isBetween, Cond.initialized RX5, Cond.code yX5_isBetween cX5_isBetween 3 (some .boolean), Cond.methodLink RX5 74 yX1_copy, Cond.instanceMethod yX1_copy, Cond.selects RX1 yX1_copy yX1_copy, Cond.initialized RX1, Cond.code yX1_copy cX1_copy 3 none, Cond.fieldLink RX1 9 "SwallowedInTurn$Nesting" "holders" "[I", Cond.methodLink RX1 25 yX1_holder, Cond.instanceMethod yX1_holder, Cond.selects RX1 yX1_holder yX1_holder, Cond.code yX1_holder cX1_holder 2 (some .int), Cond.methodLink RX5 175 yX1_choices, Cond.instanceMethod yX1_choices, Cond.selects RX1 yX1_choices yX1_choices, Cond.code yX1_choices cX1_choices 3 (some .int), Cond.methodLink RX1 72 yX1_allows, Cond.instanceMethod yX1_allows, Cond.selects RX1 yX1_allows yX1_allows]
def wsX5_days_r2 : List Cond := [Cond.code yX1_allows cX1_allows 4 (some .boolean), Cond.fieldLink RX1 15 "SwallowedInTurn$Nesting" "crowd" "LSwallowedInTurn$Crowd;", Cond.methodLink RX1 43 yX0_knows, Cond.instanceMethod yX0_knows, Cond.selects RX0 yX0_knows yX0_knows, Cond.initialized RX0, Cond.code yX0_knows cX0_knows 2 (some .boolean), Cond.static yX5_isDeed, Cond.code yX5_isDeed cX5_isDeed 1 (some .boolean), Cond.static yX5_doer, Cond.code yX5_doer cX5_doer 1 (some .int), Cond.methodLink RX0 31 yX0_has, Cond.instanceMethod yX0_has, Cond.selects RX0 yX0_has yX0_has, Cond.code yX0_has cX0_has 2 (some .boolean), Cond.fieldLink RX0 15 "SwallowedInTurn$Crowd" "total" "I", Cond.static yX5_prey, Cond.code yX5_prey cX5_prey 1 (some .int), Cond.methodLink RX5 223 yX5_doer, Cond.methodLink RX1 53 yX1_canSwallow, Cond.instanceMethod yX1_canSwallow, Cond.selects RX1 yX1_canSwallow yX1_canSwallow, Cond.code yX1_canSwallow cX1_canSwallow 5 (some .boolean), Cond.methodLink RX1 66 yX0_isOf]
def wsX5_days_r3 : List Cond := [Cond.instanceMethod yX0_isOf, Cond.selects RX0 yX0_isOf yX0_isOf, Cond.code yX0_isOf cX0_isOf 4 (some .boolean), Cond.fieldLink RX0 41 "SwallowedInTurn$Crowd" "KINDS_OF_ONE" "[I", Cond.methodLink RX0 37 yX0_trait, Cond.instanceMethod yX0_trait, Cond.selects RX0 yX0_trait yX0_trait, Cond.code yX0_trait cX0_trait 4 (some .int), Cond.fieldLink RX0 9 "SwallowedInTurn$Crowd" "traits" "[I", Cond.methodLink RX1 35 yX0_trait, Cond.methodLink RX1 69 yX1_filled, Cond.instanceMethod yX1_filled, Cond.selects RX1 yX1_filled yX1_filled, Cond.code yX1_filled cX1_filled 4 (some .int), Cond.methodLink RX1 29 yX0_total, Cond.instanceMethod yX0_total, Cond.selects RX0 yX0_total yX0_total, Cond.code yX0_total cX0_total 1 (some .int), Cond.methodLink RX1 56 yX1_comingOut, Cond.instanceMethod yX1_comingOut, Cond.selects RX1 yX1_comingOut yX1_comingOut, Cond.code yX1_comingOut cX1_comingOut 7 (some .int), Cond.methodLink RX1 59 yX1_canTake, Cond.instanceMethod yX1_canTake]
def wsX5_days_r4 : List Cond := [Cond.selects RX1 yX1_canTake yX1_canTake, Cond.code yX1_canTake cX1_canTake 5 (some .boolean), Cond.methodLink RX5 178 yX5_nextSeed, Cond.static yX5_nextSeed, Cond.code yX5_nextSeed cX5_nextSeed 1 (some .int), Cond.constantLong RX5 217 (1103515245), Cond.constantLong RX5 219 (12345), Cond.constantLong RX5 221 (2147483648), Cond.methodLink RX5 182 yX1_choiceAt, Cond.instanceMethod yX1_choiceAt, Cond.selects RX1 yX1_choiceAt yX1_choiceAt, Cond.code yX1_choiceAt cX1_choiceAt 4 (some .int), Cond.methodLink RX5 88 yX1_carryOut, Cond.instanceMethod yX1_carryOut, Cond.selects RX1 yX1_carryOut yX1_carryOut, Cond.code yX1_carryOut cX1_carryOut 6 none, Cond.methodLink RX1 62 yX1_put, Cond.instanceMethod yX1_put, Cond.selects RX1 yX1_put yX1_put, Cond.code yX1_put cX1_put 3 none, Cond.methodLink RX5 129 yX1_toNumber, Cond.instanceMethod yX1_toNumber, Cond.selects RX1 yX1_toNumber yX1_toNumber, Cond.code yX1_toNumber cX1_toNumber 3 (some .int)]
def wsX5_days : List Cond := .code yX5_days cX5_days 7 (some .int) :: ((wsX5_days_r1 ++ (wsX5_days_r2 ++ (wsX5_days_r3 ++ wsX5_days_r4))) ++ wsX50 ++ wsX10 ++ wsX00)
def wsX5_image_r1 : List Cond := [Cond.fieldLink RX5 21 "SwallowedInTurn" "now" "LSwallowedInTurn$Nesting;", Cond.fieldLink RX5 185 "SwallowedInTurn" "keptNumber" "I", Cond.fieldLink RX5 49 "SwallowedInTurn" "keptTalk" "LSwallowedInTurn$Talk;", Cond.fieldLink RX5 45 "SwallowedInTurn" "talk" "LSwallowedInTurn$Talk;", Cond.fieldLink RX5 126 "SwallowedInTurn" "done" "I", Cond.fieldLink RX5 191 "SwallowedInTurn" "keptDone" "I", Cond.fieldLink RX5 12 "SwallowedInTurn" "crowd" "LSwallowedInTurn$Crowd;", Cond.fieldLink RX5 52 "SwallowedInTurn" "keptTotal" "I", Cond.methodLink RX5 129 yX1_toNumber, Cond.instanceMethod yX1_toNumber, Cond.selects RX1 yX1_toNumber yX1_toNumber, Cond.initialized RX1, Cond.code yX1_toNumber cX1_toNumber 3 (some .int), Cond.fieldLink RX1 9 "SwallowedInTurn$Nesting" "holders" "[I", Cond.methodLink RX5 188 yX4_copy, Cond.instanceMethod yX4_copy, Cond.selects RX4 yX4_copy yX4_copy, Cond.initialized RX4, Cond.code yX4_copy cX4_copy 3 none, Cond.fieldLink RX4 7 "SwallowedInTurn$Talk" "tellers" "[I", Cond.fieldLink RX4 13 "SwallowedInTurn$Talk" "heard" "[I", Cond.fieldLink RX4 16 "SwallowedInTurn$Talk" "length" "I", Cond.methodLink RX5 194 yX0_total, Cond.instanceMethod yX0_total]
def wsX5_image_r2 : List Cond := [Cond.selects RX0 yX0_total yX0_total, Cond.initialized RX0, Cond.code yX0_total cX0_total 1 (some .int), Cond.fieldLink RX0 15 "SwallowedInTurn$Crowd" "total" "I"]
def wsX5_image : List Cond := .code yX5_image cX5_image 1 (some .int) :: ((wsX5_image_r1 ++ wsX5_image_r2) ++ wsX50 ++ wsX10 ++ wsX40 ++ wsX00)
def wsX5_restore_r1 : List Cond := [Cond.fieldLink RX5 52 "SwallowedInTurn" "keptTotal" "I", Cond.fieldLink RX5 12 "SwallowedInTurn" "crowd" "LSwallowedInTurn$Crowd;", Cond.fieldLink RX5 21 "SwallowedInTurn" "now" "LSwallowedInTurn$Nesting;", Cond.fieldLink RX5 185 "SwallowedInTurn" "keptNumber" "I", Cond.fieldLink RX5 45 "SwallowedInTurn" "talk" "LSwallowedInTurn$Talk;", Cond.fieldLink RX5 49 "SwallowedInTurn" "keptTalk" "LSwallowedInTurn$Talk;", Cond.fieldLink RX5 191 "SwallowedInTurn" "keptDone" "I", Cond.fieldLink RX5 126 "SwallowedInTurn" "done" "I", Cond.methodLink RX5 194 yX0_total, Cond.instanceMethod yX0_total, Cond.selects RX0 yX0_total yX0_total, Cond.initialized RX0, Cond.code yX0_total cX0_total 1 (some .int), Cond.fieldLink RX0 15 "SwallowedInTurn$Crowd" "total" "I", Cond.methodLink RX5 195 yX1_become, Cond.instanceMethod yX1_become, Cond.selects RX1 yX1_become yX1_become, Cond.initialized RX1, Cond.code yX1_become cX1_become 4 none, Cond.fieldLink RX1 9 "SwallowedInTurn$Nesting" "holders" "[I", Cond.methodLink RX5 188 yX4_copy, Cond.instanceMethod yX4_copy, Cond.selects RX4 yX4_copy yX4_copy, Cond.initialized RX4]
def wsX5_restore_r2 : List Cond := [Cond.code yX4_copy cX4_copy 3 none, Cond.fieldLink RX4 7 "SwallowedInTurn$Talk" "tellers" "[I", Cond.fieldLink RX4 13 "SwallowedInTurn$Talk" "heard" "[I", Cond.fieldLink RX4 16 "SwallowedInTurn$Talk" "length" "I"]
def wsX5_restore : List Cond := .code yX5_restore cX5_restore 1 (some .int) :: ((wsX5_restore_r1 ++ wsX5_restore_r2) ++ wsX50 ++ wsX00 ++ wsX10 ++ wsX40)
def wsX5_count_r1 : List Cond := [Cond.fieldLink RX5 12 "SwallowedInTurn" "crowd" "LSwallowedInTurn$Crowd;", Cond.fieldLink RX5 21 "SwallowedInTurn" "now" "LSwallowedInTurn$Nesting;", Cond.fieldLink RX5 126 "SwallowedInTurn" "done" "I", Cond.fieldLink RX5 45 "SwallowedInTurn" "talk" "LSwallowedInTurn$Talk;", Cond.fieldLink RX5 38 "SwallowedInTurn" "page" "LSwallowedInTurn$Page;", Cond.methodLink RX5 194 yX0_total, Cond.instanceMethod yX0_total, Cond.selects RX0 yX0_total yX0_total, Cond.initialized RX0, Cond.code yX0_total cX0_total 1 (some .int), Cond.fieldLink RX0 15 "SwallowedInTurn$Crowd" "total" "I", Cond.methodLink RX5 198 yX1_outside, Cond.instanceMethod yX1_outside, Cond.selects RX1 yX1_outside yX1_outside, Cond.initialized RX1, Cond.code yX1_outside cX1_outside 3 (some .int), Cond.fieldLink RX1 15 "SwallowedInTurn$Nesting" "crowd" "LSwallowedInTurn$Crowd;", Cond.methodLink RX1 29 yX0_total, Cond.methodLink RX1 25 yX1_holder, Cond.instanceMethod yX1_holder, Cond.selects RX1 yX1_holder yX1_holder, Cond.code yX1_holder cX1_holder 2 (some .int), Cond.fieldLink RX1 9 "SwallowedInTurn$Nesting" "holders" "[I", Cond.methodLink RX5 162 yX4_length]
def wsX5_count_r2 : List Cond := [Cond.instanceMethod yX4_length, Cond.selects RX4 yX4_length yX4_length, Cond.initialized RX4, Cond.code yX4_length cX4_length 1 (some .int), Cond.fieldLink RX4 16 "SwallowedInTurn$Talk" "length" "I", Cond.methodLink RX5 60 yX3_length, Cond.instanceMethod yX3_length, Cond.selects RX3 yX3_length yX3_length, Cond.initialized RX3, Cond.code yX3_length cX3_length 1 (some .int), Cond.fieldLink RX3 18 "SwallowedInTurn$Page" "length" "I", Cond.methodLink RX5 175 yX1_choices, Cond.instanceMethod yX1_choices, Cond.selects RX1 yX1_choices yX1_choices, Cond.code yX1_choices cX1_choices 3 (some .int), Cond.methodLink RX1 72 yX1_allows, Cond.instanceMethod yX1_allows, Cond.selects RX1 yX1_allows yX1_allows, Cond.code yX1_allows cX1_allows 4 (some .boolean), Cond.methodLink RX1 43 yX0_knows, Cond.instanceMethod yX0_knows, Cond.selects RX0 yX0_knows yX0_knows, Cond.code yX0_knows cX0_knows 2 (some .boolean), Cond.static yX5_isDeed]
def wsX5_count_r3 : List Cond := [Cond.initialized RX5, Cond.code yX5_isDeed cX5_isDeed 1 (some .boolean), Cond.static yX5_doer, Cond.code yX5_doer cX5_doer 1 (some .int), Cond.methodLink RX0 31 yX0_has, Cond.instanceMethod yX0_has, Cond.selects RX0 yX0_has yX0_has, Cond.code yX0_has cX0_has 2 (some .boolean), Cond.static yX5_prey, Cond.code yX5_prey cX5_prey 1 (some .int), Cond.methodLink RX5 223 yX5_doer, Cond.methodLink RX1 53 yX1_canSwallow, Cond.instanceMethod yX1_canSwallow, Cond.selects RX1 yX1_canSwallow yX1_canSwallow, Cond.code yX1_canSwallow cX1_canSwallow 5 (some .boolean), Cond.methodLink RX1 66 yX0_isOf, Cond.instanceMethod yX0_isOf, Cond.selects RX0 yX0_isOf yX0_isOf, Cond.code yX0_isOf cX0_isOf 4 (some .boolean), Cond.fieldLink RX0 41 "SwallowedInTurn$Crowd" "KINDS_OF_ONE" "[I", Cond.methodLink RX0 37 yX0_trait, Cond.instanceMethod yX0_trait, Cond.selects RX0 yX0_trait yX0_trait, Cond.code yX0_trait cX0_trait 4 (some .int)]
def wsX5_count_r4 : List Cond := [Cond.fieldLink RX0 9 "SwallowedInTurn$Crowd" "traits" "[I", Cond.methodLink RX1 35 yX0_trait, Cond.methodLink RX1 69 yX1_filled, Cond.instanceMethod yX1_filled, Cond.selects RX1 yX1_filled yX1_filled, Cond.code yX1_filled cX1_filled 4 (some .int), Cond.methodLink RX1 56 yX1_comingOut, Cond.instanceMethod yX1_comingOut, Cond.selects RX1 yX1_comingOut yX1_comingOut, Cond.code yX1_comingOut cX1_comingOut 7 (some .int), Cond.methodLink RX1 59 yX1_canTake, Cond.instanceMethod yX1_canTake, Cond.selects RX1 yX1_canTake yX1_canTake, Cond.code yX1_canTake cX1_canTake 5 (some .boolean)]
def wsX5_count : List Cond := .code yX5_count cX5_count 2 (some .int) :: ((wsX5_count_r1 ++ (wsX5_count_r2 ++ (wsX5_count_r3 ++ wsX5_count_r4))) ++ wsX50 ++ wsX00 ++ wsX10 ++ wsX40 ++ wsX30)
def wsX5_digest_r1 : List Cond := [Cond.fieldLink RX5 31 "SwallowedInTurn" "outlook" "LSwallowedInTurn$Outlook;", Cond.fieldLink RX5 21 "SwallowedInTurn" "now" "LSwallowedInTurn$Nesting;", Cond.constantLong RX5 201 (709), Cond.fieldLink RX5 12 "SwallowedInTurn" "crowd" "LSwallowedInTurn$Crowd;", Cond.constantLong RX5 203 (31), Cond.fieldLink RX5 45 "SwallowedInTurn" "talk" "LSwallowedInTurn$Talk;", Cond.fieldLink RX5 38 "SwallowedInTurn" "page" "LSwallowedInTurn$Page;", Cond.methodLink RX5 135 yX2_lookFrom, Cond.instanceMethod yX2_lookFrom, Cond.selects RX2 yX2_lookFrom yX2_lookFrom, Cond.initialized RX2, Cond.code yX2_lookFrom cX2_lookFrom 4 none, Cond.fieldLink RX2 28 "SwallowedInTurn$Outlook" "startNumber" "I", Cond.fieldLink RX2 35 "SwallowedInTurn$Outlook" "crowd" "LSwallowedInTurn$Crowd;", Cond.fieldLink RX2 32 "SwallowedInTurn$Outlook" "startTotal" "I", Cond.fieldLink RX2 21 "SwallowedInTurn$Outlook" "isReached" "[Z", Cond.fieldLink RX2 60 "SwallowedInTurn$Outlook" "total" "I", Cond.fieldLink RX2 11 "SwallowedInTurn$Outlook" "reached" "[I", Cond.methodLink RX2 51 yX1_toNumber, Cond.instanceMethod yX1_toNumber, Cond.selects RX1 yX1_toNumber yX1_toNumber, Cond.initialized RX1, Cond.code yX1_toNumber cX1_toNumber 3 (some .int), Cond.fieldLink RX1 9 "SwallowedInTurn$Nesting" "holders" "[I"]
def wsX5_digest_r2 : List Cond := [Cond.methodLink RX2 55 yX0_total, Cond.instanceMethod yX0_total, Cond.selects RX0 yX0_total yX0_total, Cond.initialized RX0, Cond.code yX0_total cX0_total 1 (some .int), Cond.fieldLink RX0 15 "SwallowedInTurn$Crowd" "total" "I", Cond.methodLink RX2 62 yX2_reach, Cond.instanceMethod yX2_reach, Cond.selects RX2 yX2_reach yX2_reach, Cond.code yX2_reach cX2_reach 4 none, Cond.fieldLink RX2 15 "SwallowedInTurn$Outlook" "steps" "[I", Cond.fieldLink RX2 18 "SwallowedInTurn$Outlook" "firsts" "[I", Cond.methodLink RX2 66 yX2_spread, Cond.instanceMethod yX2_spread, Cond.selects RX2 yX2_spread yX2_spread, Cond.code yX2_spread cX2_spread 5 none, Cond.fieldLink RX2 44 "SwallowedInTurn$Outlook" "here" "LSwallowedInTurn$Nesting;", Cond.fieldLink RX2 48 "SwallowedInTurn$Outlook" "next" "LSwallowedInTurn$Nesting;", Cond.methodLink RX2 70 yX2_reachedAt, Cond.instanceMethod yX2_reachedAt, Cond.selects RX2 yX2_reachedAt yX2_reachedAt, Cond.code yX2_reachedAt cX2_reachedAt 2 (some .int), Cond.methodLink RX2 74 yX1_become, Cond.instanceMethod yX1_become]
def wsX5_digest_r3 : List Cond := [Cond.selects RX1 yX1_become yX1_become, Cond.code yX1_become cX1_become 4 none, Cond.methodLink RX2 77 yX2_stepsAt, Cond.instanceMethod yX2_stepsAt, Cond.selects RX2 yX2_stepsAt yX2_stepsAt, Cond.code yX2_stepsAt cX2_stepsAt 2 (some .int), Cond.methodLink RX2 80 yX2_firstAt, Cond.instanceMethod yX2_firstAt, Cond.selects RX2 yX2_firstAt yX2_firstAt, Cond.code yX2_firstAt cX2_firstAt 2 (some .int), Cond.methodLink RX2 83 yX1_allows, Cond.instanceMethod yX1_allows, Cond.selects RX1 yX1_allows yX1_allows, Cond.code yX1_allows cX1_allows 4 (some .boolean), Cond.fieldLink RX1 15 "SwallowedInTurn$Nesting" "crowd" "LSwallowedInTurn$Crowd;", Cond.methodLink RX1 43 yX0_knows, Cond.instanceMethod yX0_knows, Cond.selects RX0 yX0_knows yX0_knows, Cond.code yX0_knows cX0_knows 2 (some .boolean), Cond.static yX5_isDeed, Cond.initialized RX5, Cond.code yX5_isDeed cX5_isDeed 1 (some .boolean), Cond.static yX5_doer, Cond.code yX5_doer cX5_doer 1 (some .int)]
def wsX5_digest_r4 : List Cond := [Cond.methodLink RX0 31 yX0_has, Cond.instanceMethod yX0_has, Cond.selects RX0 yX0_has yX0_has, Cond.code yX0_has cX0_has 2 (some .boolean), Cond.static yX5_prey, Cond.code yX5_prey cX5_prey 1 (some .int), Cond.methodLink RX5 223 yX5_doer, Cond.methodLink RX1 53 yX1_canSwallow, Cond.instanceMethod yX1_canSwallow, Cond.selects RX1 yX1_canSwallow yX1_canSwallow, Cond.code yX1_canSwallow cX1_canSwallow 5 (some .boolean), Cond.methodLink RX1 25 yX1_holder, Cond.instanceMethod yX1_holder, Cond.selects RX1 yX1_holder yX1_holder, Cond.code yX1_holder cX1_holder 2 (some .int), Cond.methodLink RX1 66 yX0_isOf, Cond.instanceMethod yX0_isOf, Cond.selects RX0 yX0_isOf yX0_isOf, Cond.code yX0_isOf cX0_isOf 4 (some .boolean), Cond.fieldLink RX0 41 "SwallowedInTurn$Crowd" "KINDS_OF_ONE" "[I", Cond.methodLink RX0 37 yX0_trait, Cond.instanceMethod yX0_trait, Cond.selects RX0 yX0_trait yX0_trait, Cond.code yX0_trait cX0_trait 4 (some .int)]
def wsX5_digest_r5 : List Cond := [Cond.fieldLink RX0 9 "SwallowedInTurn$Crowd" "traits" "[I", Cond.methodLink RX1 35 yX0_trait, Cond.methodLink RX1 69 yX1_filled, Cond.instanceMethod yX1_filled, Cond.selects RX1 yX1_filled yX1_filled, Cond.code yX1_filled cX1_filled 4 (some .int), Cond.methodLink RX1 29 yX0_total, Cond.methodLink RX1 56 yX1_comingOut, Cond.instanceMethod yX1_comingOut, Cond.selects RX1 yX1_comingOut yX1_comingOut, Cond.code yX1_comingOut cX1_comingOut 7 (some .int), Cond.methodLink RX1 59 yX1_canTake, Cond.instanceMethod yX1_canTake, Cond.selects RX1 yX1_canTake yX1_canTake, Cond.code yX1_canTake cX1_canTake 5 (some .boolean), Cond.methodLink RX2 87 yX1_copy, Cond.instanceMethod yX1_copy, Cond.selects RX1 yX1_copy yX1_copy, Cond.code yX1_copy cX1_copy 3 none, Cond.methodLink RX2 91 yX1_carryOut, Cond.instanceMethod yX1_carryOut, Cond.selects RX1 yX1_carryOut yX1_carryOut, Cond.code yX1_carryOut cX1_carryOut 6 none, Cond.methodLink RX1 62 yX1_put]
def wsX5_digest_r6 : List Cond := [Cond.instanceMethod yX1_put, Cond.selects RX1 yX1_put yX1_put, Cond.code yX1_put cX1_put 3 none, Cond.methodLink RX5 194 yX0_total, Cond.methodLink RX5 205 yX5_about, Cond.instanceMethod yX5_about, Cond.selects RX5 yX5_about yX5_about, Cond.code yX5_about cX5_about 3 (some .int), Cond.methodLink RX5 100 yX0_has, Cond.methodLink RX5 103 yX0_trait, Cond.methodLink RX5 107 yX1_holder, Cond.methodLink RX5 110 yX1_filled, Cond.methodLink RX5 113 yX1_walls, Cond.instanceMethod yX1_walls, Cond.selects RX1 yX1_walls yX1_walls, Cond.code yX1_walls cX1_walls 4 (some .int), Cond.methodLink RX5 116 yX1_heardBy, Cond.instanceMethod yX1_heardBy, Cond.selects RX1 yX1_heardBy yX1_heardBy, Cond.code yX1_heardBy cX1_heardBy 4 (some .int), Cond.methodLink RX1 39 yX1_hears, Cond.instanceMethod yX1_hears, Cond.selects RX1 yX1_hears yX1_hears, Cond.code yX1_hears cX1_hears 5 (some .boolean)]
def wsX5_digest_r7 : List Cond := [Cond.methodLink RX5 150 yX2_mostWalls, Cond.instanceMethod yX2_mostWalls, Cond.selects RX2 yX2_mostWalls yX2_mostWalls, Cond.code yX2_mostWalls cX2_mostWalls 4 (some .int), Cond.methodLink RX2 103 Lib.Math.max.name, Cond.static Lib.Math.max.name, Cond.initialized "java/lang/Math", Cond.code Lib.Math.max.name Lib.Math.max.code 2 (some .int), Cond.methodLink RX2 100 yX1_walls, Cond.methodLink RX5 208 yX0_all, Cond.instanceMethod yX0_all, Cond.selects RX0 yX0_all yX0_all, Cond.code yX0_all cX0_all 1 (some .int), Cond.methodLink RX5 138 yX2_placeWhereOut, Cond.instanceMethod yX2_placeWhereOut, Cond.selects RX2 yX2_placeWhereOut yX2_placeWhereOut, Cond.code yX2_placeWhereOut cX2_placeWhereOut 3 (some .int), Cond.methodLink RX2 94 yX1_areOutside, Cond.instanceMethod yX1_areOutside, Cond.selects RX1 yX1_areOutside yX1_areOutside, Cond.code yX1_areOutside cX1_areOutside 3 (some .boolean), Cond.methodLink RX5 129 yX1_toNumber, Cond.methodLink RX5 153 yX2_total, Cond.instanceMethod yX2_total]
def wsX5_digest_r8 : List Cond := [Cond.selects RX2 yX2_total yX2_total, Cond.code yX2_total cX2_total 1 (some .int), Cond.methodLink RX5 164 yX2_fitting, Cond.instanceMethod yX2_fitting, Cond.selects RX2 yX2_fitting yX2_fitting, Cond.code yX2_fitting cX2_fitting 4 (some .int), Cond.methodLink RX2 109 yX4_isSoIn, Cond.instanceMethod yX4_isSoIn, Cond.selects RX4 yX4_isSoIn yX4_isSoIn, Cond.initialized RX4, Cond.code yX4_isSoIn cX4_isSoIn 3 (some .boolean), Cond.fieldLink RX4 16 "SwallowedInTurn$Talk" "length" "I", Cond.fieldLink RX4 7 "SwallowedInTurn$Talk" "tellers" "[I", Cond.fieldLink RX4 13 "SwallowedInTurn$Talk" "heard" "[I", Cond.methodLink RX4 20 yX1_heardBy, Cond.methodLink RX5 172 yX2_bestAsked, Cond.instanceMethod yX2_bestAsked, Cond.selects RX2 yX2_bestAsked yX2_bestAsked, Cond.code yX2_bestAsked cX2_bestAsked 6 (some .int), Cond.methodLink RX2 115 yX2_mostLeft, Cond.instanceMethod yX2_mostLeft, Cond.selects RX2 yX2_mostLeft yX2_mostLeft, Cond.code yX2_mostLeft cX2_mostLeft 6 (some .int), Cond.fieldLink RX2 25 "SwallowedInTurn$Outlook" "answers" "[I"]
def wsX5_digest_r9 : List Cond := [Cond.methodLink RX2 119 yJ7_fill_53178, Cond.static yJ7_fill_53178, Cond.initialized RJ7, Cond.code yJ7_fill_53178 cJ7_fill_53178 4 none, Cond.methodLink RX2 125 yX1_heardBy, Cond.methodLink RX5 141 yX2_stepsAt, Cond.methodLink RX5 144 yX2_firstAt, Cond.methodLink RX5 60 yX3_length, Cond.instanceMethod yX3_length, Cond.selects RX3 yX3_length yX3_length, Cond.initialized RX3, Cond.code yX3_length cX3_length 1 (some .int), Cond.fieldLink RX3 18 "SwallowedInTurn$Page" "length" "I", Cond.methodLink RX5 211 yX3_letterAt, Cond.instanceMethod yX3_letterAt, Cond.selects RX3 yX3_letterAt yX3_letterAt, Cond.code yX3_letterAt cX3_letterAt 2 (some .int), Cond.fieldLink RX3 9 "SwallowedInTurn$Page" "letters" "[I", Cond.methodLink RX5 214 yX5_count, Cond.instanceMethod yX5_count, Cond.selects RX5 yX5_count yX5_count, Cond.code yX5_count cX5_count 2 (some .int), Cond.fieldLink RX5 126 "SwallowedInTurn" "done" "I", Cond.methodLink RX5 198 yX1_outside]
def wsX5_digest_r10 : List Cond := [Cond.instanceMethod yX1_outside, Cond.selects RX1 yX1_outside yX1_outside, Cond.code yX1_outside cX1_outside 3 (some .int), Cond.methodLink RX5 162 yX4_length, Cond.instanceMethod yX4_length, Cond.selects RX4 yX4_length yX4_length, Cond.code yX4_length cX4_length 1 (some .int), Cond.methodLink RX5 175 yX1_choices, Cond.instanceMethod yX1_choices, Cond.selects RX1 yX1_choices yX1_choices, Cond.code yX1_choices cX1_choices 3 (some .int), Cond.methodLink RX1 72 yX1_allows]
def wsX5_digest : List Cond := .code yX5_digest cX5_digest 5 (some .long) :: ((wsX5_digest_r1 ++ (wsX5_digest_r2 ++ (wsX5_digest_r3 ++ (wsX5_digest_r4 ++ (wsX5_digest_r5 ++ (wsX5_digest_r6 ++ (wsX5_digest_r7 ++ (wsX5_digest_r8 ++ (wsX5_digest_r9 ++ wsX5_digest_r10))))))))) ++ wsX50 ++ wsX20 ++ wsX10 ++ wsX00 ++ wsX40 ++ wsX30)
def wsX6_init : List Cond := .code yX6_init cX6_init 1 none :: ([.methodLink RX6 1 objectInit, .instanceMethod objectInit, .code objectInit ⟨#[0xb1]⟩ 1 none, .arrayClass .int, .fieldLink RX6 7 "SwallowedInTurnModel" "page" "[I", .fieldLink RX6 13 "SwallowedInTurnModel" "readDeeds" "[I", .fieldLink RX6 16 "SwallowedInTurnModel" "rows" "[I", .fieldLink RX6 19 "SwallowedInTurnModel" "far" "[I", .fieldLink RX6 22 "SwallowedInTurnModel" "firsts" "[I", .fieldLink RX6 25 "SwallowedInTurnModel" "line" "[I", .fieldLink RX6 28 "SwallowedInTurnModel" "toldRows" "[I", .fieldLink RX6 31 "SwallowedInTurnModel" "parts" "[I", .fieldLink RX6 34 "SwallowedInTurnModel" "keptToldRows" "[I", .fieldLink RX6 37 "SwallowedInTurnModel" "keptNumber" "I"] ++ wsX60)
def wsX6_in : List Cond := .code yX6_in cX6_in 6 (some .boolean) :: ([])
def wsX6_letter : List Cond := .code yX6_letter cX6_letter 2 (some .int) :: ([.constantLong RX6 41 (126), .fieldLink RX6 47 "SwallowedInTurnModel" "pageMany" "I", .fieldLink RX6 7 "SwallowedInTurnModel" "page" "[I", .methodLink RX6 43 yX6_in, .static yX6_in, .initialized RX6, .code yX6_in cX6_in 6 (some .boolean)] ++ wsX60)
def wsX6_blank : List Cond := .code yX6_blank cX6_blank 2 (some .int) :: ([.fieldLink RX6 47 "SwallowedInTurnModel" "pageMany" "I"] ++ wsX60)
def wsX6_goDigit : List Cond := .code yX6_goDigit cX6_goDigit 2 (some .boolean) :: ([.constantLong RX6 50 (4), .fieldLink RX6 52 "SwallowedInTurnModel" "readBase" "I", .fieldLink RX6 55 "SwallowedInTurnModel" "state" "I", .fieldLink RX6 13 "SwallowedInTurnModel" "readDeeds" "[I", .fieldLink RX6 58 "SwallowedInTurnModel" "readMany" "I", .methodLink RX6 43 yX6_in, .static yX6_in, .initialized RX6, .code yX6_in cX6_in 6 (some .boolean)] ++ wsX60)
def wsX6_go : List Cond := .code yX6_go cX6_go 2 (some .boolean) :: ([.fieldLink RX6 55 "SwallowedInTurnModel" "state" "I", .fieldLink RX6 52 "SwallowedInTurnModel" "readBase" "I", .fieldLink RX6 58 "SwallowedInTurnModel" "readMany" "I", .methodLink RX6 61 yX6_goDigit, .instanceMethod yX6_goDigit, .selects RX6 yX6_goDigit yX6_goDigit, .initialized RX6, .code yX6_goDigit cX6_goDigit 2 (some .boolean), .constantLong RX6 50 (4), .fieldLink RX6 13 "SwallowedInTurnModel" "readDeeds" "[I", .methodLink RX6 43 yX6_in, .static yX6_in, .code yX6_in cX6_in 6 (some .boolean)] ++ wsX60)
def wsX6_faultOf : List Cond := .code yX6_faultOf cX6_faultOf 2 (some .int) :: ([.fieldLink RX6 58 "SwallowedInTurnModel" "readMany" "I", .fieldLink RX6 55 "SwallowedInTurnModel" "state" "I", .fieldLink RX6 47 "SwallowedInTurnModel" "pageMany" "I", .fieldLink RX6 7 "SwallowedInTurnModel" "page" "[I", .methodLink RX6 65 yX6_go, .instanceMethod yX6_go, .selects RX6 yX6_go yX6_go, .initialized RX6, .code yX6_go cX6_go 2 (some .boolean), .fieldLink RX6 52 "SwallowedInTurnModel" "readBase" "I", .methodLink RX6 61 yX6_goDigit, .instanceMethod yX6_goDigit, .selects RX6 yX6_goDigit yX6_goDigit, .code yX6_goDigit cX6_goDigit 2 (some .boolean), .constantLong RX6 50 (4), .fieldLink RX6 13 "SwallowedInTurnModel" "readDeeds" "[I", .methodLink RX6 43 yX6_in, .static yX6_in, .code yX6_in cX6_in 6 (some .boolean)] ++ wsX60)
def wsX6_fault : List Cond := .code yX6_fault cX6_fault 1 (some .int) :: ([.methodLink RX6 68 yX6_faultOf, .instanceMethod yX6_faultOf, .selects RX6 yX6_faultOf yX6_faultOf, .initialized RX6, .code yX6_faultOf cX6_faultOf 2 (some .int), .fieldLink RX6 58 "SwallowedInTurnModel" "readMany" "I", .fieldLink RX6 55 "SwallowedInTurnModel" "state" "I", .fieldLink RX6 47 "SwallowedInTurnModel" "pageMany" "I", .fieldLink RX6 7 "SwallowedInTurnModel" "page" "[I", .methodLink RX6 65 yX6_go, .instanceMethod yX6_go, .selects RX6 yX6_go yX6_go, .code yX6_go cX6_go 2 (some .boolean), .fieldLink RX6 52 "SwallowedInTurnModel" "readBase" "I", .methodLink RX6 61 yX6_goDigit, .instanceMethod yX6_goDigit, .selects RX6 yX6_goDigit yX6_goDigit, .code yX6_goDigit cX6_goDigit 2 (some .boolean), .constantLong RX6 50 (4), .fieldLink RX6 13 "SwallowedInTurnModel" "readDeeds" "[I", .methodLink RX6 43 yX6_in, .static yX6_in, .code yX6_in cX6_in 6 (some .boolean)] ++ wsX60)
def wsX6_isBeing : List Cond := .code yX6_isBeing cX6_isBeing 2 (some .boolean) :: ([.fieldLink RX6 72 "SwallowedInTurnModel" "beings" "I", .methodLink RX6 43 yX6_in, .static yX6_in, .initialized RX6, .code yX6_in cX6_in 6 (some .boolean)] ++ wsX60)
def wsX6_being : List Cond := .code yX6_being cX6_being 5 (some .int) :: ([.constantLong RX6 50 (4), .constantLong RX6 75 (9), .constantLong RX6 77 (20), .constantLong RX6 79 (31), .fieldLink RX6 72 "SwallowedInTurnModel" "beings" "I", .fieldLink RX6 16 "SwallowedInTurnModel" "rows" "[I", .methodLink RX6 43 yX6_in, .static yX6_in, .initialized RX6, .code yX6_in cX6_in 6 (some .boolean)] ++ wsX60)
def wsX6_unit : List Cond := .code yX6_unit cX6_unit 3 (some .int) :: ([])
def wsX6_holder : List Cond := .code yX6_holder cX6_holder 2 (some .int) :: ([.methodLink RX6 81 yX6_unit, .static yX6_unit, .initialized RX6, .code yX6_unit cX6_unit 3 (some .int)])
def wsX6_moved : List Cond := .code yX6_moved cX6_moved 3 (some .int) :: ([.methodLink RX6 85 yX6_holder, .static yX6_holder, .initialized RX6, .code yX6_holder cX6_holder 2 (some .int), .methodLink RX6 81 yX6_unit, .static yX6_unit, .code yX6_unit cX6_unit 3 (some .int)])
def wsX6_filled : List Cond := .code yX6_filled cX6_filled 5 (some .int) :: ([.fieldLink RX6 72 "SwallowedInTurnModel" "beings" "I", .fieldLink RX6 16 "SwallowedInTurnModel" "rows" "[I", .methodLink RX6 85 yX6_holder, .static yX6_holder, .initialized RX6, .code yX6_holder cX6_holder 2 (some .int), .methodLink RX6 81 yX6_unit, .static yX6_unit, .code yX6_unit cX6_unit 3 (some .int)] ++ wsX60)
def wsX6_swallowed : List Cond := .code yX6_swallowed cX6_swallowed 7 (some .int) :: ([.fieldLink RX6 16 "SwallowedInTurnModel" "rows" "[I", .methodLink RX6 89 yX6_filled, .instanceMethod yX6_filled, .selects RX6 yX6_filled yX6_filled, .initialized RX6, .code yX6_filled cX6_filled 5 (some .int), .fieldLink RX6 72 "SwallowedInTurnModel" "beings" "I", .methodLink RX6 85 yX6_holder, .static yX6_holder, .code yX6_holder cX6_holder 2 (some .int), .methodLink RX6 81 yX6_unit, .static yX6_unit, .code yX6_unit cX6_unit 3 (some .int), .methodLink RX6 92 yX6_moved, .static yX6_moved, .code yX6_moved cX6_moved 3 (some .int)] ++ wsX60)
def wsX6_comeOut : List Cond := .code yX6_comeOut cX6_comeOut 9 (some .int) :: ([.fieldLink RX6 72 "SwallowedInTurnModel" "beings" "I", .fieldLink RX6 16 "SwallowedInTurnModel" "rows" "[I", .methodLink RX6 85 yX6_holder, .static yX6_holder, .initialized RX6, .code yX6_holder cX6_holder 2 (some .int), .methodLink RX6 81 yX6_unit, .static yX6_unit, .code yX6_unit cX6_unit 3 (some .int), .methodLink RX6 92 yX6_moved, .static yX6_moved, .code yX6_moved cX6_moved 3 (some .int), .methodLink RX6 89 yX6_filled, .instanceMethod yX6_filled, .selects RX6 yX6_filled yX6_filled, .code yX6_filled cX6_filled 5 (some .int)] ++ wsX60)
def wsX6_isDeed : List Cond := .code yX6_isDeed cX6_isDeed 2 (some .boolean) :: ([.constantLong RX6 96 (24), .constantLong RX6 101 (30), .constantLong RX6 103 (34), .constantLong RX6 105 (40), .constantLong RX6 107 (44), .methodLink RX6 43 yX6_in, .static yX6_in, .initialized RX6, .code yX6_in cX6_in 6 (some .boolean), .methodLink RX6 98 yX6_isBeing, .instanceMethod yX6_isBeing, .selects RX6 yX6_isBeing yX6_isBeing, .code yX6_isBeing cX6_isBeing 2 (some .boolean), .fieldLink RX6 72 "SwallowedInTurnModel" "beings" "I"] ++ wsX60)
def wsX6_done : List Cond := .code yX6_done cX6_done 5 (some .int) :: ([.fieldLink RX6 16 "SwallowedInTurnModel" "rows" "[I", .methodLink RX6 109 yX6_swallowed, .instanceMethod yX6_swallowed, .selects RX6 yX6_swallowed yX6_swallowed, .initialized RX6, .code yX6_swallowed cX6_swallowed 7 (some .int), .methodLink RX6 89 yX6_filled, .instanceMethod yX6_filled, .selects RX6 yX6_filled yX6_filled, .code yX6_filled cX6_filled 5 (some .int), .fieldLink RX6 72 "SwallowedInTurnModel" "beings" "I", .methodLink RX6 85 yX6_holder, .static yX6_holder, .code yX6_holder cX6_holder 2 (some .int), .methodLink RX6 81 yX6_unit, .static yX6_unit, .code yX6_unit cX6_unit 3 (some .int), .methodLink RX6 92 yX6_moved, .static yX6_moved, .code yX6_moved cX6_moved 3 (some .int), .methodLink RX6 112 yX6_comeOut, .instanceMethod yX6_comeOut, .selects RX6 yX6_comeOut yX6_comeOut, .code yX6_comeOut cX6_comeOut 9 (some .int)] ++ wsX60)
def wsX6_tale_r1 : List Cond := [Cond.fieldLink RX6 47 "SwallowedInTurnModel" "pageMany" "I", Cond.fieldLink RX6 55 "SwallowedInTurnModel" "state" "I", Cond.fieldLink RX6 115 "SwallowedInTurnModel" "number" "I", Cond.fieldLink RX6 58 "SwallowedInTurnModel" "readMany" "I", Cond.fieldLink RX6 13 "SwallowedInTurnModel" "readDeeds" "[I", Cond.methodLink RX6 68 yX6_faultOf, Cond.instanceMethod yX6_faultOf, Cond.selects RX6 yX6_faultOf yX6_faultOf, Cond.initialized RX6, Cond.code yX6_faultOf cX6_faultOf 2 (some .int), Cond.fieldLink RX6 7 "SwallowedInTurnModel" "page" "[I", Cond.methodLink RX6 65 yX6_go, Cond.instanceMethod yX6_go, Cond.selects RX6 yX6_go yX6_go, Cond.code yX6_go cX6_go 2 (some .boolean), Cond.fieldLink RX6 52 "SwallowedInTurnModel" "readBase" "I", Cond.methodLink RX6 61 yX6_goDigit, Cond.instanceMethod yX6_goDigit, Cond.selects RX6 yX6_goDigit yX6_goDigit, Cond.code yX6_goDigit cX6_goDigit 2 (some .boolean), Cond.constantLong RX6 50 (4), Cond.methodLink RX6 43 yX6_in, Cond.static yX6_in, Cond.code yX6_in cX6_in 6 (some .boolean)]
def wsX6_tale_r2 : List Cond := [Cond.methodLink RX6 118 yX6_isDeed, Cond.instanceMethod yX6_isDeed, Cond.selects RX6 yX6_isDeed yX6_isDeed, Cond.code yX6_isDeed cX6_isDeed 2 (some .boolean), Cond.constantLong RX6 96 (24), Cond.constantLong RX6 101 (30), Cond.constantLong RX6 103 (34), Cond.constantLong RX6 105 (40), Cond.constantLong RX6 107 (44), Cond.methodLink RX6 98 yX6_isBeing, Cond.instanceMethod yX6_isBeing, Cond.selects RX6 yX6_isBeing yX6_isBeing, Cond.code yX6_isBeing cX6_isBeing 2 (some .boolean), Cond.fieldLink RX6 72 "SwallowedInTurnModel" "beings" "I", Cond.methodLink RX6 121 yX6_done, Cond.instanceMethod yX6_done, Cond.selects RX6 yX6_done yX6_done, Cond.code yX6_done cX6_done 5 (some .int), Cond.fieldLink RX6 16 "SwallowedInTurnModel" "rows" "[I", Cond.methodLink RX6 109 yX6_swallowed, Cond.instanceMethod yX6_swallowed, Cond.selects RX6 yX6_swallowed yX6_swallowed, Cond.code yX6_swallowed cX6_swallowed 7 (some .int), Cond.methodLink RX6 89 yX6_filled]
def wsX6_tale_r3 : List Cond := [Cond.instanceMethod yX6_filled, Cond.selects RX6 yX6_filled yX6_filled, Cond.code yX6_filled cX6_filled 5 (some .int), Cond.methodLink RX6 85 yX6_holder, Cond.static yX6_holder, Cond.code yX6_holder cX6_holder 2 (some .int), Cond.methodLink RX6 81 yX6_unit, Cond.static yX6_unit, Cond.code yX6_unit cX6_unit 3 (some .int), Cond.methodLink RX6 92 yX6_moved, Cond.static yX6_moved, Cond.code yX6_moved cX6_moved 3 (some .int), Cond.methodLink RX6 112 yX6_comeOut, Cond.instanceMethod yX6_comeOut, Cond.selects RX6 yX6_comeOut yX6_comeOut, Cond.code yX6_comeOut cX6_comeOut 9 (some .int)]
def wsX6_tale : List Cond := .code yX6_tale cX6_tale 4 (some .int) :: ((wsX6_tale_r1 ++ (wsX6_tale_r2 ++ wsX6_tale_r3)) ++ wsX60)
def wsX6_walls : List Cond := .code yX6_walls cX6_walls 4 (some .int) :: ([.methodLink RX6 85 yX6_holder, .static yX6_holder, .initialized RX6, .code yX6_holder cX6_holder 2 (some .int), .methodLink RX6 81 yX6_unit, .static yX6_unit, .code yX6_unit cX6_unit 3 (some .int)])
def wsX6_hearsOne : List Cond := .code yX6_hearsOne cX6_hearsOne 6 (some .boolean) :: ([.methodLink RX6 85 yX6_holder, .static yX6_holder, .initialized RX6, .code yX6_holder cX6_holder 2 (some .int), .methodLink RX6 81 yX6_unit, .static yX6_unit, .code yX6_unit cX6_unit 3 (some .int)])
def wsX6_heardBy : List Cond := .code yX6_heardBy cX6_heardBy 5 (some .int) :: ([.fieldLink RX6 72 "SwallowedInTurnModel" "beings" "I", .methodLink RX6 124 yX6_hearsOne, .static yX6_hearsOne, .initialized RX6, .code yX6_hearsOne cX6_hearsOne 6 (some .boolean), .methodLink RX6 85 yX6_holder, .static yX6_holder, .code yX6_holder cX6_holder 2 (some .int), .methodLink RX6 81 yX6_unit, .static yX6_unit, .code yX6_unit cX6_unit 3 (some .int)] ++ wsX60)
def wsX6_tell : List Cond := .code yX6_tell cX6_tell 3 (some .int) :: ([.fieldLink RX6 16 "SwallowedInTurnModel" "rows" "[I", .fieldLink RX6 115 "SwallowedInTurnModel" "number" "I", .methodLink RX6 85 yX6_holder, .static yX6_holder, .initialized RX6, .code yX6_holder cX6_holder 2 (some .int), .methodLink RX6 81 yX6_unit, .static yX6_unit, .code yX6_unit cX6_unit 3 (some .int), .methodLink RX6 89 yX6_filled, .instanceMethod yX6_filled, .selects RX6 yX6_filled yX6_filled, .code yX6_filled cX6_filled 5 (some .int), .fieldLink RX6 72 "SwallowedInTurnModel" "beings" "I", .methodLink RX6 128 yX6_walls, .static yX6_walls, .code yX6_walls cX6_walls 4 (some .int), .methodLink RX6 131 yX6_heardBy, .instanceMethod yX6_heardBy, .selects RX6 yX6_heardBy yX6_heardBy, .code yX6_heardBy cX6_heardBy 5 (some .int), .methodLink RX6 124 yX6_hearsOne, .static yX6_hearsOne, .code yX6_hearsOne cX6_hearsOne 6 (some .boolean)] ++ wsX60)
def wsX6_about_r1 : List Cond := [Cond.methodLink RX6 98 yX6_isBeing, Cond.instanceMethod yX6_isBeing, Cond.selects RX6 yX6_isBeing yX6_isBeing, Cond.initialized RX6, Cond.code yX6_isBeing cX6_isBeing 2 (some .boolean), Cond.fieldLink RX6 72 "SwallowedInTurnModel" "beings" "I", Cond.methodLink RX6 43 yX6_in, Cond.static yX6_in, Cond.code yX6_in cX6_in 6 (some .boolean), Cond.methodLink RX6 134 yX6_tell, Cond.instanceMethod yX6_tell, Cond.selects RX6 yX6_tell yX6_tell, Cond.code yX6_tell cX6_tell 3 (some .int), Cond.fieldLink RX6 16 "SwallowedInTurnModel" "rows" "[I", Cond.fieldLink RX6 115 "SwallowedInTurnModel" "number" "I", Cond.methodLink RX6 85 yX6_holder, Cond.static yX6_holder, Cond.code yX6_holder cX6_holder 2 (some .int), Cond.methodLink RX6 81 yX6_unit, Cond.static yX6_unit, Cond.code yX6_unit cX6_unit 3 (some .int), Cond.methodLink RX6 89 yX6_filled, Cond.instanceMethod yX6_filled, Cond.selects RX6 yX6_filled yX6_filled]
def wsX6_about_r2 : List Cond := [Cond.code yX6_filled cX6_filled 5 (some .int), Cond.methodLink RX6 128 yX6_walls, Cond.static yX6_walls, Cond.code yX6_walls cX6_walls 4 (some .int), Cond.methodLink RX6 131 yX6_heardBy, Cond.instanceMethod yX6_heardBy, Cond.selects RX6 yX6_heardBy yX6_heardBy, Cond.code yX6_heardBy cX6_heardBy 5 (some .int), Cond.methodLink RX6 124 yX6_hearsOne, Cond.static yX6_hearsOne, Cond.code yX6_hearsOne cX6_hearsOne 6 (some .boolean)]
def wsX6_about : List Cond := .code yX6_about cX6_about 3 (some .int) :: ((wsX6_about_r1 ++ wsX6_about_r2) ++ wsX60)
def wsX6_as : List Cond := .code yX6_as cX6_as 5 (some .int) :: ([.constantLong RX6 50 (4), .fieldLink RX6 16 "SwallowedInTurnModel" "rows" "[I", .methodLink RX6 98 yX6_isBeing, .instanceMethod yX6_isBeing, .selects RX6 yX6_isBeing yX6_isBeing, .initialized RX6, .code yX6_isBeing cX6_isBeing 2 (some .boolean), .fieldLink RX6 72 "SwallowedInTurnModel" "beings" "I", .methodLink RX6 43 yX6_in, .static yX6_in, .code yX6_in cX6_in 6 (some .boolean)] ++ wsX60)
def wsX6_may_r1 : List Cond := [Cond.fieldLink RX6 115 "SwallowedInTurnModel" "number" "I", Cond.methodLink RX6 118 yX6_isDeed, Cond.instanceMethod yX6_isDeed, Cond.selects RX6 yX6_isDeed yX6_isDeed, Cond.initialized RX6, Cond.code yX6_isDeed cX6_isDeed 2 (some .boolean), Cond.constantLong RX6 96 (24), Cond.constantLong RX6 101 (30), Cond.constantLong RX6 103 (34), Cond.constantLong RX6 105 (40), Cond.constantLong RX6 107 (44), Cond.methodLink RX6 43 yX6_in, Cond.static yX6_in, Cond.code yX6_in cX6_in 6 (some .boolean), Cond.methodLink RX6 98 yX6_isBeing, Cond.instanceMethod yX6_isBeing, Cond.selects RX6 yX6_isBeing yX6_isBeing, Cond.code yX6_isBeing cX6_isBeing 2 (some .boolean), Cond.fieldLink RX6 72 "SwallowedInTurnModel" "beings" "I", Cond.methodLink RX6 121 yX6_done, Cond.instanceMethod yX6_done, Cond.selects RX6 yX6_done yX6_done, Cond.code yX6_done cX6_done 5 (some .int), Cond.fieldLink RX6 16 "SwallowedInTurnModel" "rows" "[I"]
def wsX6_may_r2 : List Cond := [Cond.methodLink RX6 109 yX6_swallowed, Cond.instanceMethod yX6_swallowed, Cond.selects RX6 yX6_swallowed yX6_swallowed, Cond.code yX6_swallowed cX6_swallowed 7 (some .int), Cond.methodLink RX6 89 yX6_filled, Cond.instanceMethod yX6_filled, Cond.selects RX6 yX6_filled yX6_filled, Cond.code yX6_filled cX6_filled 5 (some .int), Cond.methodLink RX6 85 yX6_holder, Cond.static yX6_holder, Cond.code yX6_holder cX6_holder 2 (some .int), Cond.methodLink RX6 81 yX6_unit, Cond.static yX6_unit, Cond.code yX6_unit cX6_unit 3 (some .int), Cond.methodLink RX6 92 yX6_moved, Cond.static yX6_moved, Cond.code yX6_moved cX6_moved 3 (some .int), Cond.methodLink RX6 112 yX6_comeOut, Cond.instanceMethod yX6_comeOut, Cond.selects RX6 yX6_comeOut yX6_comeOut, Cond.code yX6_comeOut cX6_comeOut 9 (some .int)]
def wsX6_may : List Cond := .code yX6_may cX6_may 2 (some .int) :: ((wsX6_may_r1 ++ wsX6_may_r2) ++ wsX60)
def wsX6_deed_r1 : List Cond := [Cond.fieldLink RX6 115 "SwallowedInTurnModel" "number" "I", Cond.fieldLink RX6 137 "SwallowedInTurnModel" "deedsDone" "I", Cond.methodLink RX6 118 yX6_isDeed, Cond.instanceMethod yX6_isDeed, Cond.selects RX6 yX6_isDeed yX6_isDeed, Cond.initialized RX6, Cond.code yX6_isDeed cX6_isDeed 2 (some .boolean), Cond.constantLong RX6 96 (24), Cond.constantLong RX6 101 (30), Cond.constantLong RX6 103 (34), Cond.constantLong RX6 105 (40), Cond.constantLong RX6 107 (44), Cond.methodLink RX6 43 yX6_in, Cond.static yX6_in, Cond.code yX6_in cX6_in 6 (some .boolean), Cond.methodLink RX6 98 yX6_isBeing, Cond.instanceMethod yX6_isBeing, Cond.selects RX6 yX6_isBeing yX6_isBeing, Cond.code yX6_isBeing cX6_isBeing 2 (some .boolean), Cond.fieldLink RX6 72 "SwallowedInTurnModel" "beings" "I", Cond.methodLink RX6 121 yX6_done, Cond.instanceMethod yX6_done, Cond.selects RX6 yX6_done yX6_done, Cond.code yX6_done cX6_done 5 (some .int)]
def wsX6_deed_r2 : List Cond := [Cond.fieldLink RX6 16 "SwallowedInTurnModel" "rows" "[I", Cond.methodLink RX6 109 yX6_swallowed, Cond.instanceMethod yX6_swallowed, Cond.selects RX6 yX6_swallowed yX6_swallowed, Cond.code yX6_swallowed cX6_swallowed 7 (some .int), Cond.methodLink RX6 89 yX6_filled, Cond.instanceMethod yX6_filled, Cond.selects RX6 yX6_filled yX6_filled, Cond.code yX6_filled cX6_filled 5 (some .int), Cond.methodLink RX6 85 yX6_holder, Cond.static yX6_holder, Cond.code yX6_holder cX6_holder 2 (some .int), Cond.methodLink RX6 81 yX6_unit, Cond.static yX6_unit, Cond.code yX6_unit cX6_unit 3 (some .int), Cond.methodLink RX6 92 yX6_moved, Cond.static yX6_moved, Cond.code yX6_moved cX6_moved 3 (some .int), Cond.methodLink RX6 112 yX6_comeOut, Cond.instanceMethod yX6_comeOut, Cond.selects RX6 yX6_comeOut yX6_comeOut, Cond.code yX6_comeOut cX6_comeOut 9 (some .int)]
def wsX6_deed : List Cond := .code yX6_deed cX6_deed 3 (some .int) :: ((wsX6_deed_r1 ++ wsX6_deed_r2) ++ wsX60)
def wsX6_number : List Cond := .code yX6_number cX6_number 1 (some .int) :: ([.fieldLink RX6 115 "SwallowedInTurnModel" "number" "I"] ++ wsX60)
def wsX6_lay_r1 : List Cond := [Cond.fieldLink RX6 19 "SwallowedInTurnModel" "far" "[I", Cond.fieldLink RX6 115 "SwallowedInTurnModel" "number" "I", Cond.fieldLink RX6 22 "SwallowedInTurnModel" "firsts" "[I", Cond.fieldLink RX6 25 "SwallowedInTurnModel" "line" "[I", Cond.fieldLink RX6 140 "SwallowedInTurnModel" "lined" "I", Cond.methodLink RX6 118 yX6_isDeed, Cond.instanceMethod yX6_isDeed, Cond.selects RX6 yX6_isDeed yX6_isDeed, Cond.initialized RX6, Cond.code yX6_isDeed cX6_isDeed 2 (some .boolean), Cond.constantLong RX6 96 (24), Cond.constantLong RX6 101 (30), Cond.constantLong RX6 103 (34), Cond.constantLong RX6 105 (40), Cond.constantLong RX6 107 (44), Cond.methodLink RX6 43 yX6_in, Cond.static yX6_in, Cond.code yX6_in cX6_in 6 (some .boolean), Cond.methodLink RX6 98 yX6_isBeing, Cond.instanceMethod yX6_isBeing, Cond.selects RX6 yX6_isBeing yX6_isBeing, Cond.code yX6_isBeing cX6_isBeing 2 (some .boolean), Cond.fieldLink RX6 72 "SwallowedInTurnModel" "beings" "I", Cond.methodLink RX6 121 yX6_done]
def wsX6_lay_r2 : List Cond := [Cond.instanceMethod yX6_done, Cond.selects RX6 yX6_done yX6_done, Cond.code yX6_done cX6_done 5 (some .int), Cond.fieldLink RX6 16 "SwallowedInTurnModel" "rows" "[I", Cond.methodLink RX6 109 yX6_swallowed, Cond.instanceMethod yX6_swallowed, Cond.selects RX6 yX6_swallowed yX6_swallowed, Cond.code yX6_swallowed cX6_swallowed 7 (some .int), Cond.methodLink RX6 89 yX6_filled, Cond.instanceMethod yX6_filled, Cond.selects RX6 yX6_filled yX6_filled, Cond.code yX6_filled cX6_filled 5 (some .int), Cond.methodLink RX6 85 yX6_holder, Cond.static yX6_holder, Cond.code yX6_holder cX6_holder 2 (some .int), Cond.methodLink RX6 81 yX6_unit, Cond.static yX6_unit, Cond.code yX6_unit cX6_unit 3 (some .int), Cond.methodLink RX6 92 yX6_moved, Cond.static yX6_moved, Cond.code yX6_moved cX6_moved 3 (some .int), Cond.methodLink RX6 112 yX6_comeOut, Cond.instanceMethod yX6_comeOut, Cond.selects RX6 yX6_comeOut yX6_comeOut]
def wsX6_lay_r3 : List Cond := [Cond.code yX6_comeOut cX6_comeOut 9 (some .int)]
def wsX6_lay : List Cond := .code yX6_lay cX6_lay 5 none :: ((wsX6_lay_r1 ++ (wsX6_lay_r2 ++ wsX6_lay_r3)) ++ wsX60)
def wsX6_areOut : List Cond := .code yX6_areOut cX6_areOut 4 (some .boolean) :: ([.methodLink RX6 85 yX6_holder, .static yX6_holder, .initialized RX6, .code yX6_holder cX6_holder 2 (some .int), .methodLink RX6 81 yX6_unit, .static yX6_unit, .code yX6_unit cX6_unit 3 (some .int)])
def wsX6_soonestOf_r1 : List Cond := [Cond.fieldLink RX6 140 "SwallowedInTurnModel" "lined" "I", Cond.fieldLink RX6 25 "SwallowedInTurnModel" "line" "[I", Cond.fieldLink RX6 19 "SwallowedInTurnModel" "far" "[I", Cond.fieldLink RX6 22 "SwallowedInTurnModel" "firsts" "[I", Cond.methodLink RX6 143 yX6_lay, Cond.instanceMethod yX6_lay, Cond.selects RX6 yX6_lay yX6_lay, Cond.initialized RX6, Cond.code yX6_lay cX6_lay 5 none, Cond.fieldLink RX6 115 "SwallowedInTurnModel" "number" "I", Cond.methodLink RX6 118 yX6_isDeed, Cond.instanceMethod yX6_isDeed, Cond.selects RX6 yX6_isDeed yX6_isDeed, Cond.code yX6_isDeed cX6_isDeed 2 (some .boolean), Cond.constantLong RX6 96 (24), Cond.constantLong RX6 101 (30), Cond.constantLong RX6 103 (34), Cond.constantLong RX6 105 (40), Cond.constantLong RX6 107 (44), Cond.methodLink RX6 43 yX6_in, Cond.static yX6_in, Cond.code yX6_in cX6_in 6 (some .boolean), Cond.methodLink RX6 98 yX6_isBeing, Cond.instanceMethod yX6_isBeing]
def wsX6_soonestOf_r2 : List Cond := [Cond.selects RX6 yX6_isBeing yX6_isBeing, Cond.code yX6_isBeing cX6_isBeing 2 (some .boolean), Cond.fieldLink RX6 72 "SwallowedInTurnModel" "beings" "I", Cond.methodLink RX6 121 yX6_done, Cond.instanceMethod yX6_done, Cond.selects RX6 yX6_done yX6_done, Cond.code yX6_done cX6_done 5 (some .int), Cond.fieldLink RX6 16 "SwallowedInTurnModel" "rows" "[I", Cond.methodLink RX6 109 yX6_swallowed, Cond.instanceMethod yX6_swallowed, Cond.selects RX6 yX6_swallowed yX6_swallowed, Cond.code yX6_swallowed cX6_swallowed 7 (some .int), Cond.methodLink RX6 89 yX6_filled, Cond.instanceMethod yX6_filled, Cond.selects RX6 yX6_filled yX6_filled, Cond.code yX6_filled cX6_filled 5 (some .int), Cond.methodLink RX6 85 yX6_holder, Cond.static yX6_holder, Cond.code yX6_holder cX6_holder 2 (some .int), Cond.methodLink RX6 81 yX6_unit, Cond.static yX6_unit, Cond.code yX6_unit cX6_unit 3 (some .int), Cond.methodLink RX6 92 yX6_moved, Cond.static yX6_moved]
def wsX6_soonestOf_r3 : List Cond := [Cond.code yX6_moved cX6_moved 3 (some .int), Cond.methodLink RX6 112 yX6_comeOut, Cond.instanceMethod yX6_comeOut, Cond.selects RX6 yX6_comeOut yX6_comeOut, Cond.code yX6_comeOut cX6_comeOut 9 (some .int), Cond.methodLink RX6 146 yX6_areOut, Cond.static yX6_areOut, Cond.code yX6_areOut cX6_areOut 4 (some .boolean)]
def wsX6_soonestOf : List Cond := .code yX6_soonestOf cX6_soonestOf 4 (some .int) :: ((wsX6_soonestOf_r1 ++ (wsX6_soonestOf_r2 ++ wsX6_soonestOf_r3)) ++ wsX60)
def wsX6_soonest_r1 : List Cond := [Cond.fieldLink RX6 72 "SwallowedInTurnModel" "beings" "I", Cond.methodLink RX6 43 yX6_in, Cond.static yX6_in, Cond.initialized RX6, Cond.code yX6_in cX6_in 6 (some .boolean), Cond.methodLink RX6 150 yX6_soonestOf, Cond.instanceMethod yX6_soonestOf, Cond.selects RX6 yX6_soonestOf yX6_soonestOf, Cond.code yX6_soonestOf cX6_soonestOf 4 (some .int), Cond.fieldLink RX6 140 "SwallowedInTurnModel" "lined" "I", Cond.fieldLink RX6 25 "SwallowedInTurnModel" "line" "[I", Cond.fieldLink RX6 19 "SwallowedInTurnModel" "far" "[I", Cond.fieldLink RX6 22 "SwallowedInTurnModel" "firsts" "[I", Cond.methodLink RX6 143 yX6_lay, Cond.instanceMethod yX6_lay, Cond.selects RX6 yX6_lay yX6_lay, Cond.code yX6_lay cX6_lay 5 none, Cond.fieldLink RX6 115 "SwallowedInTurnModel" "number" "I", Cond.methodLink RX6 118 yX6_isDeed, Cond.instanceMethod yX6_isDeed, Cond.selects RX6 yX6_isDeed yX6_isDeed, Cond.code yX6_isDeed cX6_isDeed 2 (some .boolean), Cond.constantLong RX6 96 (24), Cond.constantLong RX6 101 (30)]
def wsX6_soonest_r2 : List Cond := [Cond.constantLong RX6 103 (34), Cond.constantLong RX6 105 (40), Cond.constantLong RX6 107 (44), Cond.methodLink RX6 98 yX6_isBeing, Cond.instanceMethod yX6_isBeing, Cond.selects RX6 yX6_isBeing yX6_isBeing, Cond.code yX6_isBeing cX6_isBeing 2 (some .boolean), Cond.methodLink RX6 121 yX6_done, Cond.instanceMethod yX6_done, Cond.selects RX6 yX6_done yX6_done, Cond.code yX6_done cX6_done 5 (some .int), Cond.fieldLink RX6 16 "SwallowedInTurnModel" "rows" "[I", Cond.methodLink RX6 109 yX6_swallowed, Cond.instanceMethod yX6_swallowed, Cond.selects RX6 yX6_swallowed yX6_swallowed, Cond.code yX6_swallowed cX6_swallowed 7 (some .int), Cond.methodLink RX6 89 yX6_filled, Cond.instanceMethod yX6_filled, Cond.selects RX6 yX6_filled yX6_filled, Cond.code yX6_filled cX6_filled 5 (some .int), Cond.methodLink RX6 85 yX6_holder, Cond.static yX6_holder, Cond.code yX6_holder cX6_holder 2 (some .int), Cond.methodLink RX6 81 yX6_unit]
def wsX6_soonest_r3 : List Cond := [Cond.static yX6_unit, Cond.code yX6_unit cX6_unit 3 (some .int), Cond.methodLink RX6 92 yX6_moved, Cond.static yX6_moved, Cond.code yX6_moved cX6_moved 3 (some .int), Cond.methodLink RX6 112 yX6_comeOut, Cond.instanceMethod yX6_comeOut, Cond.selects RX6 yX6_comeOut yX6_comeOut, Cond.code yX6_comeOut cX6_comeOut 9 (some .int), Cond.methodLink RX6 146 yX6_areOut, Cond.static yX6_areOut, Cond.code yX6_areOut cX6_areOut 4 (some .boolean)]
def wsX6_soonest : List Cond := .code yX6_soonest cX6_soonest 3 (some .int) :: ((wsX6_soonest_r1 ++ (wsX6_soonest_r2 ++ wsX6_soonest_r3)) ++ wsX60)
def wsX6_together_r1 : List Cond := [Cond.fieldLink RX6 140 "SwallowedInTurnModel" "lined" "I", Cond.fieldLink RX6 25 "SwallowedInTurnModel" "line" "[I", Cond.fieldLink RX6 19 "SwallowedInTurnModel" "far" "[I", Cond.methodLink RX6 98 yX6_isBeing, Cond.instanceMethod yX6_isBeing, Cond.selects RX6 yX6_isBeing yX6_isBeing, Cond.initialized RX6, Cond.code yX6_isBeing cX6_isBeing 2 (some .boolean), Cond.fieldLink RX6 72 "SwallowedInTurnModel" "beings" "I", Cond.methodLink RX6 43 yX6_in, Cond.static yX6_in, Cond.code yX6_in cX6_in 6 (some .boolean), Cond.methodLink RX6 143 yX6_lay, Cond.instanceMethod yX6_lay, Cond.selects RX6 yX6_lay yX6_lay, Cond.code yX6_lay cX6_lay 5 none, Cond.fieldLink RX6 115 "SwallowedInTurnModel" "number" "I", Cond.fieldLink RX6 22 "SwallowedInTurnModel" "firsts" "[I", Cond.methodLink RX6 118 yX6_isDeed, Cond.instanceMethod yX6_isDeed, Cond.selects RX6 yX6_isDeed yX6_isDeed, Cond.code yX6_isDeed cX6_isDeed 2 (some .boolean), Cond.constantLong RX6 96 (24), Cond.constantLong RX6 101 (30)]
def wsX6_together_r2 : List Cond := [Cond.constantLong RX6 103 (34), Cond.constantLong RX6 105 (40), Cond.constantLong RX6 107 (44), Cond.methodLink RX6 121 yX6_done, Cond.instanceMethod yX6_done, Cond.selects RX6 yX6_done yX6_done, Cond.code yX6_done cX6_done 5 (some .int), Cond.fieldLink RX6 16 "SwallowedInTurnModel" "rows" "[I", Cond.methodLink RX6 109 yX6_swallowed, Cond.instanceMethod yX6_swallowed, Cond.selects RX6 yX6_swallowed yX6_swallowed, Cond.code yX6_swallowed cX6_swallowed 7 (some .int), Cond.methodLink RX6 89 yX6_filled, Cond.instanceMethod yX6_filled, Cond.selects RX6 yX6_filled yX6_filled, Cond.code yX6_filled cX6_filled 5 (some .int), Cond.methodLink RX6 85 yX6_holder, Cond.static yX6_holder, Cond.code yX6_holder cX6_holder 2 (some .int), Cond.methodLink RX6 81 yX6_unit, Cond.static yX6_unit, Cond.code yX6_unit cX6_unit 3 (some .int), Cond.methodLink RX6 92 yX6_moved, Cond.static yX6_moved]
def wsX6_together_r3 : List Cond := [Cond.code yX6_moved cX6_moved 3 (some .int), Cond.methodLink RX6 112 yX6_comeOut, Cond.instanceMethod yX6_comeOut, Cond.selects RX6 yX6_comeOut yX6_comeOut, Cond.code yX6_comeOut cX6_comeOut 9 (some .int)]
def wsX6_together : List Cond := .code yX6_together cX6_together 4 (some .int) :: ((wsX6_together_r1 ++ (wsX6_together_r2 ++ wsX6_together_r3)) ++ wsX60)
def wsX6_deepest : List Cond := .code yX6_deepest cX6_deepest 5 (some .int) :: ([.fieldLink RX6 140 "SwallowedInTurnModel" "lined" "I", .fieldLink RX6 25 "SwallowedInTurnModel" "line" "[I", .methodLink RX6 128 yX6_walls, .static yX6_walls, .initialized RX6, .code yX6_walls cX6_walls 4 (some .int), .methodLink RX6 85 yX6_holder, .static yX6_holder, .code yX6_holder cX6_holder 2 (some .int), .methodLink RX6 81 yX6_unit, .static yX6_unit, .code yX6_unit cX6_unit 3 (some .int)] ++ wsX60)
def wsX6_deep_r1 : List Cond := [Cond.methodLink RX6 98 yX6_isBeing, Cond.instanceMethod yX6_isBeing, Cond.selects RX6 yX6_isBeing yX6_isBeing, Cond.initialized RX6, Cond.code yX6_isBeing cX6_isBeing 2 (some .boolean), Cond.fieldLink RX6 72 "SwallowedInTurnModel" "beings" "I", Cond.methodLink RX6 43 yX6_in, Cond.static yX6_in, Cond.code yX6_in cX6_in 6 (some .boolean), Cond.methodLink RX6 143 yX6_lay, Cond.instanceMethod yX6_lay, Cond.selects RX6 yX6_lay yX6_lay, Cond.code yX6_lay cX6_lay 5 none, Cond.fieldLink RX6 19 "SwallowedInTurnModel" "far" "[I", Cond.fieldLink RX6 115 "SwallowedInTurnModel" "number" "I", Cond.fieldLink RX6 22 "SwallowedInTurnModel" "firsts" "[I", Cond.fieldLink RX6 25 "SwallowedInTurnModel" "line" "[I", Cond.fieldLink RX6 140 "SwallowedInTurnModel" "lined" "I", Cond.methodLink RX6 118 yX6_isDeed, Cond.instanceMethod yX6_isDeed, Cond.selects RX6 yX6_isDeed yX6_isDeed, Cond.code yX6_isDeed cX6_isDeed 2 (some .boolean), Cond.constantLong RX6 96 (24), Cond.constantLong RX6 101 (30)]
def wsX6_deep_r2 : List Cond := [Cond.constantLong RX6 103 (34), Cond.constantLong RX6 105 (40), Cond.constantLong RX6 107 (44), Cond.methodLink RX6 121 yX6_done, Cond.instanceMethod yX6_done, Cond.selects RX6 yX6_done yX6_done, Cond.code yX6_done cX6_done 5 (some .int), Cond.fieldLink RX6 16 "SwallowedInTurnModel" "rows" "[I", Cond.methodLink RX6 109 yX6_swallowed, Cond.instanceMethod yX6_swallowed, Cond.selects RX6 yX6_swallowed yX6_swallowed, Cond.code yX6_swallowed cX6_swallowed 7 (some .int), Cond.methodLink RX6 89 yX6_filled, Cond.instanceMethod yX6_filled, Cond.selects RX6 yX6_filled yX6_filled, Cond.code yX6_filled cX6_filled 5 (some .int), Cond.methodLink RX6 85 yX6_holder, Cond.static yX6_holder, Cond.code yX6_holder cX6_holder 2 (some .int), Cond.methodLink RX6 81 yX6_unit, Cond.static yX6_unit, Cond.code yX6_unit cX6_unit 3 (some .int), Cond.methodLink RX6 92 yX6_moved, Cond.static yX6_moved]
def wsX6_deep_r3 : List Cond := [Cond.code yX6_moved cX6_moved 3 (some .int), Cond.methodLink RX6 112 yX6_comeOut, Cond.instanceMethod yX6_comeOut, Cond.selects RX6 yX6_comeOut yX6_comeOut, Cond.code yX6_comeOut cX6_comeOut 9 (some .int), Cond.methodLink RX6 153 yX6_deepest, Cond.instanceMethod yX6_deepest, Cond.selects RX6 yX6_deepest yX6_deepest, Cond.code yX6_deepest cX6_deepest 5 (some .int), Cond.methodLink RX6 128 yX6_walls, Cond.static yX6_walls, Cond.code yX6_walls cX6_walls 4 (some .int)]
def wsX6_deep : List Cond := .code yX6_deep cX6_deep 2 (some .int) :: ((wsX6_deep_r1 ++ (wsX6_deep_r2 ++ wsX6_deep_r3)) ++ wsX60)
def wsX6_many_r1 : List Cond := [Cond.fieldLink RX6 140 "SwallowedInTurnModel" "lined" "I", Cond.methodLink RX6 143 yX6_lay, Cond.instanceMethod yX6_lay, Cond.selects RX6 yX6_lay yX6_lay, Cond.initialized RX6, Cond.code yX6_lay cX6_lay 5 none, Cond.fieldLink RX6 19 "SwallowedInTurnModel" "far" "[I", Cond.fieldLink RX6 115 "SwallowedInTurnModel" "number" "I", Cond.fieldLink RX6 22 "SwallowedInTurnModel" "firsts" "[I", Cond.fieldLink RX6 25 "SwallowedInTurnModel" "line" "[I", Cond.methodLink RX6 118 yX6_isDeed, Cond.instanceMethod yX6_isDeed, Cond.selects RX6 yX6_isDeed yX6_isDeed, Cond.code yX6_isDeed cX6_isDeed 2 (some .boolean), Cond.constantLong RX6 96 (24), Cond.constantLong RX6 101 (30), Cond.constantLong RX6 103 (34), Cond.constantLong RX6 105 (40), Cond.constantLong RX6 107 (44), Cond.methodLink RX6 43 yX6_in, Cond.static yX6_in, Cond.code yX6_in cX6_in 6 (some .boolean), Cond.methodLink RX6 98 yX6_isBeing, Cond.instanceMethod yX6_isBeing]
def wsX6_many_r2 : List Cond := [Cond.selects RX6 yX6_isBeing yX6_isBeing, Cond.code yX6_isBeing cX6_isBeing 2 (some .boolean), Cond.fieldLink RX6 72 "SwallowedInTurnModel" "beings" "I", Cond.methodLink RX6 121 yX6_done, Cond.instanceMethod yX6_done, Cond.selects RX6 yX6_done yX6_done, Cond.code yX6_done cX6_done 5 (some .int), Cond.fieldLink RX6 16 "SwallowedInTurnModel" "rows" "[I", Cond.methodLink RX6 109 yX6_swallowed, Cond.instanceMethod yX6_swallowed, Cond.selects RX6 yX6_swallowed yX6_swallowed, Cond.code yX6_swallowed cX6_swallowed 7 (some .int), Cond.methodLink RX6 89 yX6_filled, Cond.instanceMethod yX6_filled, Cond.selects RX6 yX6_filled yX6_filled, Cond.code yX6_filled cX6_filled 5 (some .int), Cond.methodLink RX6 85 yX6_holder, Cond.static yX6_holder, Cond.code yX6_holder cX6_holder 2 (some .int), Cond.methodLink RX6 81 yX6_unit, Cond.static yX6_unit, Cond.code yX6_unit cX6_unit 3 (some .int), Cond.methodLink RX6 92 yX6_moved, Cond.static yX6_moved]
def wsX6_many_r3 : List Cond := [Cond.code yX6_moved cX6_moved 3 (some .int), Cond.methodLink RX6 112 yX6_comeOut, Cond.instanceMethod yX6_comeOut, Cond.selects RX6 yX6_comeOut yX6_comeOut, Cond.code yX6_comeOut cX6_comeOut 9 (some .int)]
def wsX6_many : List Cond := .code yX6_many cX6_many 1 (some .int) :: ((wsX6_many_r1 ++ (wsX6_many_r2 ++ wsX6_many_r3)) ++ wsX60)
def wsX6_nesting_r1 : List Cond := [Cond.fieldLink RX6 19 "SwallowedInTurnModel" "far" "[I", Cond.methodLink RX6 143 yX6_lay, Cond.instanceMethod yX6_lay, Cond.selects RX6 yX6_lay yX6_lay, Cond.initialized RX6, Cond.code yX6_lay cX6_lay 5 none, Cond.fieldLink RX6 115 "SwallowedInTurnModel" "number" "I", Cond.fieldLink RX6 22 "SwallowedInTurnModel" "firsts" "[I", Cond.fieldLink RX6 25 "SwallowedInTurnModel" "line" "[I", Cond.fieldLink RX6 140 "SwallowedInTurnModel" "lined" "I", Cond.methodLink RX6 118 yX6_isDeed, Cond.instanceMethod yX6_isDeed, Cond.selects RX6 yX6_isDeed yX6_isDeed, Cond.code yX6_isDeed cX6_isDeed 2 (some .boolean), Cond.constantLong RX6 96 (24), Cond.constantLong RX6 101 (30), Cond.constantLong RX6 103 (34), Cond.constantLong RX6 105 (40), Cond.constantLong RX6 107 (44), Cond.methodLink RX6 43 yX6_in, Cond.static yX6_in, Cond.code yX6_in cX6_in 6 (some .boolean), Cond.methodLink RX6 98 yX6_isBeing, Cond.instanceMethod yX6_isBeing]
def wsX6_nesting_r2 : List Cond := [Cond.selects RX6 yX6_isBeing yX6_isBeing, Cond.code yX6_isBeing cX6_isBeing 2 (some .boolean), Cond.fieldLink RX6 72 "SwallowedInTurnModel" "beings" "I", Cond.methodLink RX6 121 yX6_done, Cond.instanceMethod yX6_done, Cond.selects RX6 yX6_done yX6_done, Cond.code yX6_done cX6_done 5 (some .int), Cond.fieldLink RX6 16 "SwallowedInTurnModel" "rows" "[I", Cond.methodLink RX6 109 yX6_swallowed, Cond.instanceMethod yX6_swallowed, Cond.selects RX6 yX6_swallowed yX6_swallowed, Cond.code yX6_swallowed cX6_swallowed 7 (some .int), Cond.methodLink RX6 89 yX6_filled, Cond.instanceMethod yX6_filled, Cond.selects RX6 yX6_filled yX6_filled, Cond.code yX6_filled cX6_filled 5 (some .int), Cond.methodLink RX6 85 yX6_holder, Cond.static yX6_holder, Cond.code yX6_holder cX6_holder 2 (some .int), Cond.methodLink RX6 81 yX6_unit, Cond.static yX6_unit, Cond.code yX6_unit cX6_unit 3 (some .int), Cond.methodLink RX6 92 yX6_moved, Cond.static yX6_moved]
def wsX6_nesting_r3 : List Cond := [Cond.code yX6_moved cX6_moved 3 (some .int), Cond.methodLink RX6 112 yX6_comeOut, Cond.instanceMethod yX6_comeOut, Cond.selects RX6 yX6_comeOut yX6_comeOut, Cond.code yX6_comeOut cX6_comeOut 9 (some .int)]
def wsX6_nesting : List Cond := .code yX6_nesting cX6_nesting 4 (some .int) :: ((wsX6_nesting_r1 ++ (wsX6_nesting_r2 ++ wsX6_nesting_r3)) ++ wsX60)
def wsX6_told : List Cond := .code yX6_told cX6_told 3 (some .int) :: ([.fieldLink RX6 72 "SwallowedInTurnModel" "beings" "I", .fieldLink RX6 156 "SwallowedInTurnModel" "toldMany" "I", .fieldLink RX6 28 "SwallowedInTurnModel" "toldRows" "[I", .methodLink RX6 98 yX6_isBeing, .instanceMethod yX6_isBeing, .selects RX6 yX6_isBeing yX6_isBeing, .initialized RX6, .code yX6_isBeing cX6_isBeing 2 (some .boolean), .methodLink RX6 43 yX6_in, .static yX6_in, .code yX6_in cX6_in 6 (some .boolean)] ++ wsX60)
def wsX6_forget : List Cond := .code yX6_forget cX6_forget 2 (some .int) :: ([.fieldLink RX6 156 "SwallowedInTurnModel" "toldMany" "I"] ++ wsX60)
def wsX6_isToldSo : List Cond := .code yX6_isToldSo cX6_isToldSo 4 (some .boolean) :: ([.fieldLink RX6 156 "SwallowedInTurnModel" "toldMany" "I", .fieldLink RX6 28 "SwallowedInTurnModel" "toldRows" "[I", .methodLink RX6 131 yX6_heardBy, .instanceMethod yX6_heardBy, .selects RX6 yX6_heardBy yX6_heardBy, .initialized RX6, .code yX6_heardBy cX6_heardBy 5 (some .int), .fieldLink RX6 72 "SwallowedInTurnModel" "beings" "I", .methodLink RX6 124 yX6_hearsOne, .static yX6_hearsOne, .code yX6_hearsOne cX6_hearsOne 6 (some .boolean), .methodLink RX6 85 yX6_holder, .static yX6_holder, .code yX6_holder cX6_holder 2 (some .int), .methodLink RX6 81 yX6_unit, .static yX6_unit, .code yX6_unit cX6_unit 3 (some .int)] ++ wsX60)
def wsX6_fitMany : List Cond := .code yX6_fitMany cX6_fitMany 3 (some .int) :: ([.fieldLink RX6 140 "SwallowedInTurnModel" "lined" "I", .fieldLink RX6 25 "SwallowedInTurnModel" "line" "[I", .methodLink RX6 159 yX6_isToldSo, .instanceMethod yX6_isToldSo, .selects RX6 yX6_isToldSo yX6_isToldSo, .initialized RX6, .code yX6_isToldSo cX6_isToldSo 4 (some .boolean), .fieldLink RX6 156 "SwallowedInTurnModel" "toldMany" "I", .fieldLink RX6 28 "SwallowedInTurnModel" "toldRows" "[I", .methodLink RX6 131 yX6_heardBy, .instanceMethod yX6_heardBy, .selects RX6 yX6_heardBy yX6_heardBy, .code yX6_heardBy cX6_heardBy 5 (some .int), .fieldLink RX6 72 "SwallowedInTurnModel" "beings" "I", .methodLink RX6 124 yX6_hearsOne, .static yX6_hearsOne, .code yX6_hearsOne cX6_hearsOne 6 (some .boolean), .methodLink RX6 85 yX6_holder, .static yX6_holder, .code yX6_holder cX6_holder 2 (some .int), .methodLink RX6 81 yX6_unit, .static yX6_unit, .code yX6_unit cX6_unit 3 (some .int)] ++ wsX60)
def wsX6_fits_r1 : List Cond := [Cond.methodLink RX6 143 yX6_lay, Cond.instanceMethod yX6_lay, Cond.selects RX6 yX6_lay yX6_lay, Cond.initialized RX6, Cond.code yX6_lay cX6_lay 5 none, Cond.fieldLink RX6 19 "SwallowedInTurnModel" "far" "[I", Cond.fieldLink RX6 115 "SwallowedInTurnModel" "number" "I", Cond.fieldLink RX6 22 "SwallowedInTurnModel" "firsts" "[I", Cond.fieldLink RX6 25 "SwallowedInTurnModel" "line" "[I", Cond.fieldLink RX6 140 "SwallowedInTurnModel" "lined" "I", Cond.methodLink RX6 118 yX6_isDeed, Cond.instanceMethod yX6_isDeed, Cond.selects RX6 yX6_isDeed yX6_isDeed, Cond.code yX6_isDeed cX6_isDeed 2 (some .boolean), Cond.constantLong RX6 96 (24), Cond.constantLong RX6 101 (30), Cond.constantLong RX6 103 (34), Cond.constantLong RX6 105 (40), Cond.constantLong RX6 107 (44), Cond.methodLink RX6 43 yX6_in, Cond.static yX6_in, Cond.code yX6_in cX6_in 6 (some .boolean), Cond.methodLink RX6 98 yX6_isBeing, Cond.instanceMethod yX6_isBeing]
def wsX6_fits_r2 : List Cond := [Cond.selects RX6 yX6_isBeing yX6_isBeing, Cond.code yX6_isBeing cX6_isBeing 2 (some .boolean), Cond.fieldLink RX6 72 "SwallowedInTurnModel" "beings" "I", Cond.methodLink RX6 121 yX6_done, Cond.instanceMethod yX6_done, Cond.selects RX6 yX6_done yX6_done, Cond.code yX6_done cX6_done 5 (some .int), Cond.fieldLink RX6 16 "SwallowedInTurnModel" "rows" "[I", Cond.methodLink RX6 109 yX6_swallowed, Cond.instanceMethod yX6_swallowed, Cond.selects RX6 yX6_swallowed yX6_swallowed, Cond.code yX6_swallowed cX6_swallowed 7 (some .int), Cond.methodLink RX6 89 yX6_filled, Cond.instanceMethod yX6_filled, Cond.selects RX6 yX6_filled yX6_filled, Cond.code yX6_filled cX6_filled 5 (some .int), Cond.methodLink RX6 85 yX6_holder, Cond.static yX6_holder, Cond.code yX6_holder cX6_holder 2 (some .int), Cond.methodLink RX6 81 yX6_unit, Cond.static yX6_unit, Cond.code yX6_unit cX6_unit 3 (some .int), Cond.methodLink RX6 92 yX6_moved, Cond.static yX6_moved]
def wsX6_fits_r3 : List Cond := [Cond.code yX6_moved cX6_moved 3 (some .int), Cond.methodLink RX6 112 yX6_comeOut, Cond.instanceMethod yX6_comeOut, Cond.selects RX6 yX6_comeOut yX6_comeOut, Cond.code yX6_comeOut cX6_comeOut 9 (some .int), Cond.methodLink RX6 162 yX6_fitMany, Cond.instanceMethod yX6_fitMany, Cond.selects RX6 yX6_fitMany yX6_fitMany, Cond.code yX6_fitMany cX6_fitMany 3 (some .int), Cond.methodLink RX6 159 yX6_isToldSo, Cond.instanceMethod yX6_isToldSo, Cond.selects RX6 yX6_isToldSo yX6_isToldSo, Cond.code yX6_isToldSo cX6_isToldSo 4 (some .boolean), Cond.fieldLink RX6 156 "SwallowedInTurnModel" "toldMany" "I", Cond.fieldLink RX6 28 "SwallowedInTurnModel" "toldRows" "[I", Cond.methodLink RX6 131 yX6_heardBy, Cond.instanceMethod yX6_heardBy, Cond.selects RX6 yX6_heardBy yX6_heardBy, Cond.code yX6_heardBy cX6_heardBy 5 (some .int), Cond.methodLink RX6 124 yX6_hearsOne, Cond.static yX6_hearsOne, Cond.code yX6_hearsOne cX6_hearsOne 6 (some .boolean)]
def wsX6_fits : List Cond := .code yX6_fits cX6_fits 1 (some .int) :: ((wsX6_fits_r1 ++ (wsX6_fits_r2 ++ wsX6_fits_r3)) ++ wsX60)
def wsX6_sure_r1 : List Cond := [Cond.fieldLink RX6 140 "SwallowedInTurnModel" "lined" "I", Cond.fieldLink RX6 25 "SwallowedInTurnModel" "line" "[I", Cond.methodLink RX6 98 yX6_isBeing, Cond.instanceMethod yX6_isBeing, Cond.selects RX6 yX6_isBeing yX6_isBeing, Cond.initialized RX6, Cond.code yX6_isBeing cX6_isBeing 2 (some .boolean), Cond.fieldLink RX6 72 "SwallowedInTurnModel" "beings" "I", Cond.methodLink RX6 43 yX6_in, Cond.static yX6_in, Cond.code yX6_in cX6_in 6 (some .boolean), Cond.methodLink RX6 143 yX6_lay, Cond.instanceMethod yX6_lay, Cond.selects RX6 yX6_lay yX6_lay, Cond.code yX6_lay cX6_lay 5 none, Cond.fieldLink RX6 19 "SwallowedInTurnModel" "far" "[I", Cond.fieldLink RX6 115 "SwallowedInTurnModel" "number" "I", Cond.fieldLink RX6 22 "SwallowedInTurnModel" "firsts" "[I", Cond.methodLink RX6 118 yX6_isDeed, Cond.instanceMethod yX6_isDeed, Cond.selects RX6 yX6_isDeed yX6_isDeed, Cond.code yX6_isDeed cX6_isDeed 2 (some .boolean), Cond.constantLong RX6 96 (24), Cond.constantLong RX6 101 (30)]
def wsX6_sure_r2 : List Cond := [Cond.constantLong RX6 103 (34), Cond.constantLong RX6 105 (40), Cond.constantLong RX6 107 (44), Cond.methodLink RX6 121 yX6_done, Cond.instanceMethod yX6_done, Cond.selects RX6 yX6_done yX6_done, Cond.code yX6_done cX6_done 5 (some .int), Cond.fieldLink RX6 16 "SwallowedInTurnModel" "rows" "[I", Cond.methodLink RX6 109 yX6_swallowed, Cond.instanceMethod yX6_swallowed, Cond.selects RX6 yX6_swallowed yX6_swallowed, Cond.code yX6_swallowed cX6_swallowed 7 (some .int), Cond.methodLink RX6 89 yX6_filled, Cond.instanceMethod yX6_filled, Cond.selects RX6 yX6_filled yX6_filled, Cond.code yX6_filled cX6_filled 5 (some .int), Cond.methodLink RX6 85 yX6_holder, Cond.static yX6_holder, Cond.code yX6_holder cX6_holder 2 (some .int), Cond.methodLink RX6 81 yX6_unit, Cond.static yX6_unit, Cond.code yX6_unit cX6_unit 3 (some .int), Cond.methodLink RX6 92 yX6_moved, Cond.static yX6_moved]
def wsX6_sure_r3 : List Cond := [Cond.code yX6_moved cX6_moved 3 (some .int), Cond.methodLink RX6 112 yX6_comeOut, Cond.instanceMethod yX6_comeOut, Cond.selects RX6 yX6_comeOut yX6_comeOut, Cond.code yX6_comeOut cX6_comeOut 9 (some .int), Cond.methodLink RX6 159 yX6_isToldSo, Cond.instanceMethod yX6_isToldSo, Cond.selects RX6 yX6_isToldSo yX6_isToldSo, Cond.code yX6_isToldSo cX6_isToldSo 4 (some .boolean), Cond.fieldLink RX6 156 "SwallowedInTurnModel" "toldMany" "I", Cond.fieldLink RX6 28 "SwallowedInTurnModel" "toldRows" "[I", Cond.methodLink RX6 131 yX6_heardBy, Cond.instanceMethod yX6_heardBy, Cond.selects RX6 yX6_heardBy yX6_heardBy, Cond.code yX6_heardBy cX6_heardBy 5 (some .int), Cond.methodLink RX6 124 yX6_hearsOne, Cond.static yX6_hearsOne, Cond.code yX6_hearsOne cX6_hearsOne 6 (some .boolean)]
def wsX6_sure : List Cond := .code yX6_sure cX6_sure 4 (some .int) :: ((wsX6_sure_r1 ++ (wsX6_sure_r2 ++ wsX6_sure_r3)) ++ wsX60)
def wsX6_worstOf : List Cond := .code yX6_worstOf cX6_worstOf 5 (some .int) :: ([.fieldLink RX6 31 "SwallowedInTurnModel" "parts" "[I", .fieldLink RX6 140 "SwallowedInTurnModel" "lined" "I", .fieldLink RX6 25 "SwallowedInTurnModel" "line" "[I", .methodLink RX6 159 yX6_isToldSo, .instanceMethod yX6_isToldSo, .selects RX6 yX6_isToldSo yX6_isToldSo, .initialized RX6, .code yX6_isToldSo cX6_isToldSo 4 (some .boolean), .fieldLink RX6 156 "SwallowedInTurnModel" "toldMany" "I", .fieldLink RX6 28 "SwallowedInTurnModel" "toldRows" "[I", .methodLink RX6 131 yX6_heardBy, .instanceMethod yX6_heardBy, .selects RX6 yX6_heardBy yX6_heardBy, .code yX6_heardBy cX6_heardBy 5 (some .int), .fieldLink RX6 72 "SwallowedInTurnModel" "beings" "I", .methodLink RX6 124 yX6_hearsOne, .static yX6_hearsOne, .code yX6_hearsOne cX6_hearsOne 6 (some .boolean), .methodLink RX6 85 yX6_holder, .static yX6_holder, .code yX6_holder cX6_holder 2 (some .int), .methodLink RX6 81 yX6_unit, .static yX6_unit, .code yX6_unit cX6_unit 3 (some .int)] ++ wsX60)
def wsX6_askOf_r1 : List Cond := [Cond.fieldLink RX6 72 "SwallowedInTurnModel" "beings" "I", Cond.methodLink RX6 162 yX6_fitMany, Cond.instanceMethod yX6_fitMany, Cond.selects RX6 yX6_fitMany yX6_fitMany, Cond.initialized RX6, Cond.code yX6_fitMany cX6_fitMany 3 (some .int), Cond.fieldLink RX6 140 "SwallowedInTurnModel" "lined" "I", Cond.fieldLink RX6 25 "SwallowedInTurnModel" "line" "[I", Cond.methodLink RX6 159 yX6_isToldSo, Cond.instanceMethod yX6_isToldSo, Cond.selects RX6 yX6_isToldSo yX6_isToldSo, Cond.code yX6_isToldSo cX6_isToldSo 4 (some .boolean), Cond.fieldLink RX6 156 "SwallowedInTurnModel" "toldMany" "I", Cond.fieldLink RX6 28 "SwallowedInTurnModel" "toldRows" "[I", Cond.methodLink RX6 131 yX6_heardBy, Cond.instanceMethod yX6_heardBy, Cond.selects RX6 yX6_heardBy yX6_heardBy, Cond.code yX6_heardBy cX6_heardBy 5 (some .int), Cond.methodLink RX6 124 yX6_hearsOne, Cond.static yX6_hearsOne, Cond.code yX6_hearsOne cX6_hearsOne 6 (some .boolean), Cond.methodLink RX6 85 yX6_holder, Cond.static yX6_holder, Cond.code yX6_holder cX6_holder 2 (some .int)]
def wsX6_askOf_r2 : List Cond := [Cond.methodLink RX6 81 yX6_unit, Cond.static yX6_unit, Cond.code yX6_unit cX6_unit 3 (some .int), Cond.methodLink RX6 165 yX6_worstOf, Cond.instanceMethod yX6_worstOf, Cond.selects RX6 yX6_worstOf yX6_worstOf, Cond.code yX6_worstOf cX6_worstOf 5 (some .int), Cond.fieldLink RX6 31 "SwallowedInTurnModel" "parts" "[I"]
def wsX6_askOf : List Cond := .code yX6_askOf cX6_askOf 6 (some .int) :: ((wsX6_askOf_r1 ++ wsX6_askOf_r2) ++ wsX60)
def wsX6_ask_r1 : List Cond := [Cond.methodLink RX6 143 yX6_lay, Cond.instanceMethod yX6_lay, Cond.selects RX6 yX6_lay yX6_lay, Cond.initialized RX6, Cond.code yX6_lay cX6_lay 5 none, Cond.fieldLink RX6 19 "SwallowedInTurnModel" "far" "[I", Cond.fieldLink RX6 115 "SwallowedInTurnModel" "number" "I", Cond.fieldLink RX6 22 "SwallowedInTurnModel" "firsts" "[I", Cond.fieldLink RX6 25 "SwallowedInTurnModel" "line" "[I", Cond.fieldLink RX6 140 "SwallowedInTurnModel" "lined" "I", Cond.methodLink RX6 118 yX6_isDeed, Cond.instanceMethod yX6_isDeed, Cond.selects RX6 yX6_isDeed yX6_isDeed, Cond.code yX6_isDeed cX6_isDeed 2 (some .boolean), Cond.constantLong RX6 96 (24), Cond.constantLong RX6 101 (30), Cond.constantLong RX6 103 (34), Cond.constantLong RX6 105 (40), Cond.constantLong RX6 107 (44), Cond.methodLink RX6 43 yX6_in, Cond.static yX6_in, Cond.code yX6_in cX6_in 6 (some .boolean), Cond.methodLink RX6 98 yX6_isBeing, Cond.instanceMethod yX6_isBeing]
def wsX6_ask_r2 : List Cond := [Cond.selects RX6 yX6_isBeing yX6_isBeing, Cond.code yX6_isBeing cX6_isBeing 2 (some .boolean), Cond.fieldLink RX6 72 "SwallowedInTurnModel" "beings" "I", Cond.methodLink RX6 121 yX6_done, Cond.instanceMethod yX6_done, Cond.selects RX6 yX6_done yX6_done, Cond.code yX6_done cX6_done 5 (some .int), Cond.fieldLink RX6 16 "SwallowedInTurnModel" "rows" "[I", Cond.methodLink RX6 109 yX6_swallowed, Cond.instanceMethod yX6_swallowed, Cond.selects RX6 yX6_swallowed yX6_swallowed, Cond.code yX6_swallowed cX6_swallowed 7 (some .int), Cond.methodLink RX6 89 yX6_filled, Cond.instanceMethod yX6_filled, Cond.selects RX6 yX6_filled yX6_filled, Cond.code yX6_filled cX6_filled 5 (some .int), Cond.methodLink RX6 85 yX6_holder, Cond.static yX6_holder, Cond.code yX6_holder cX6_holder 2 (some .int), Cond.methodLink RX6 81 yX6_unit, Cond.static yX6_unit, Cond.code yX6_unit cX6_unit 3 (some .int), Cond.methodLink RX6 92 yX6_moved, Cond.static yX6_moved]
def wsX6_ask_r3 : List Cond := [Cond.code yX6_moved cX6_moved 3 (some .int), Cond.methodLink RX6 112 yX6_comeOut, Cond.instanceMethod yX6_comeOut, Cond.selects RX6 yX6_comeOut yX6_comeOut, Cond.code yX6_comeOut cX6_comeOut 9 (some .int), Cond.methodLink RX6 168 yX6_askOf, Cond.instanceMethod yX6_askOf, Cond.selects RX6 yX6_askOf yX6_askOf, Cond.code yX6_askOf cX6_askOf 6 (some .int), Cond.methodLink RX6 162 yX6_fitMany, Cond.instanceMethod yX6_fitMany, Cond.selects RX6 yX6_fitMany yX6_fitMany, Cond.code yX6_fitMany cX6_fitMany 3 (some .int), Cond.methodLink RX6 159 yX6_isToldSo, Cond.instanceMethod yX6_isToldSo, Cond.selects RX6 yX6_isToldSo yX6_isToldSo, Cond.code yX6_isToldSo cX6_isToldSo 4 (some .boolean), Cond.fieldLink RX6 156 "SwallowedInTurnModel" "toldMany" "I", Cond.fieldLink RX6 28 "SwallowedInTurnModel" "toldRows" "[I", Cond.methodLink RX6 131 yX6_heardBy, Cond.instanceMethod yX6_heardBy, Cond.selects RX6 yX6_heardBy yX6_heardBy, Cond.code yX6_heardBy cX6_heardBy 5 (some .int), Cond.methodLink RX6 124 yX6_hearsOne]
def wsX6_ask_r4 : List Cond := [Cond.static yX6_hearsOne, Cond.code yX6_hearsOne cX6_hearsOne 6 (some .boolean), Cond.methodLink RX6 165 yX6_worstOf, Cond.instanceMethod yX6_worstOf, Cond.selects RX6 yX6_worstOf yX6_worstOf, Cond.code yX6_worstOf cX6_worstOf 5 (some .int), Cond.fieldLink RX6 31 "SwallowedInTurnModel" "parts" "[I"]
def wsX6_ask : List Cond := .code yX6_ask cX6_ask 1 (some .int) :: ((wsX6_ask_r1 ++ (wsX6_ask_r2 ++ (wsX6_ask_r3 ++ wsX6_ask_r4))) ++ wsX60)
def wsX6_draw : List Cond := .code yX6_draw cX6_draw 2 (some .int) :: ([.constantLong RX6 171 (1103515245), .fieldLink RX6 173 "SwallowedInTurnModel" "seedNow" "I", .constantLong RX6 176 (12345), .constantLong RX6 178 (2147483647), .constant RX6 180 (65536)] ++ wsX60)
def wsX6_mayMany_r1 : List Cond := [Cond.methodLink RX6 118 yX6_isDeed, Cond.instanceMethod yX6_isDeed, Cond.selects RX6 yX6_isDeed yX6_isDeed, Cond.initialized RX6, Cond.code yX6_isDeed cX6_isDeed 2 (some .boolean), Cond.constantLong RX6 96 (24), Cond.constantLong RX6 101 (30), Cond.constantLong RX6 103 (34), Cond.constantLong RX6 105 (40), Cond.constantLong RX6 107 (44), Cond.methodLink RX6 43 yX6_in, Cond.static yX6_in, Cond.code yX6_in cX6_in 6 (some .boolean), Cond.methodLink RX6 98 yX6_isBeing, Cond.instanceMethod yX6_isBeing, Cond.selects RX6 yX6_isBeing yX6_isBeing, Cond.code yX6_isBeing cX6_isBeing 2 (some .boolean), Cond.fieldLink RX6 72 "SwallowedInTurnModel" "beings" "I", Cond.methodLink RX6 121 yX6_done, Cond.instanceMethod yX6_done, Cond.selects RX6 yX6_done yX6_done, Cond.code yX6_done cX6_done 5 (some .int), Cond.fieldLink RX6 16 "SwallowedInTurnModel" "rows" "[I", Cond.methodLink RX6 109 yX6_swallowed]
def wsX6_mayMany_r2 : List Cond := [Cond.instanceMethod yX6_swallowed, Cond.selects RX6 yX6_swallowed yX6_swallowed, Cond.code yX6_swallowed cX6_swallowed 7 (some .int), Cond.methodLink RX6 89 yX6_filled, Cond.instanceMethod yX6_filled, Cond.selects RX6 yX6_filled yX6_filled, Cond.code yX6_filled cX6_filled 5 (some .int), Cond.methodLink RX6 85 yX6_holder, Cond.static yX6_holder, Cond.code yX6_holder cX6_holder 2 (some .int), Cond.methodLink RX6 81 yX6_unit, Cond.static yX6_unit, Cond.code yX6_unit cX6_unit 3 (some .int), Cond.methodLink RX6 92 yX6_moved, Cond.static yX6_moved, Cond.code yX6_moved cX6_moved 3 (some .int), Cond.methodLink RX6 112 yX6_comeOut, Cond.instanceMethod yX6_comeOut, Cond.selects RX6 yX6_comeOut yX6_comeOut, Cond.code yX6_comeOut cX6_comeOut 9 (some .int)]
def wsX6_mayMany : List Cond := .code yX6_mayMany cX6_mayMany 4 (some .int) :: ((wsX6_mayMany_r1 ++ wsX6_mayMany_r2) ++ wsX60)
def wsX6_days_r1 : List Cond := [Cond.constantLong RX6 181 (60), Cond.constantLong RX6 183 (2), Cond.fieldLink RX6 173 "SwallowedInTurnModel" "seedNow" "I", Cond.fieldLink RX6 115 "SwallowedInTurnModel" "number" "I", Cond.methodLink RX6 43 yX6_in, Cond.static yX6_in, Cond.initialized RX6, Cond.code yX6_in cX6_in 6 (some .boolean), Cond.methodLink RX6 185 yX6_mayMany, Cond.instanceMethod yX6_mayMany, Cond.selects RX6 yX6_mayMany yX6_mayMany, Cond.code yX6_mayMany cX6_mayMany 4 (some .int), Cond.methodLink RX6 118 yX6_isDeed, Cond.instanceMethod yX6_isDeed, Cond.selects RX6 yX6_isDeed yX6_isDeed, Cond.code yX6_isDeed cX6_isDeed 2 (some .boolean), Cond.constantLong RX6 96 (24), Cond.constantLong RX6 101 (30), Cond.constantLong RX6 103 (34), Cond.constantLong RX6 105 (40), Cond.constantLong RX6 107 (44), Cond.methodLink RX6 98 yX6_isBeing, Cond.instanceMethod yX6_isBeing, Cond.selects RX6 yX6_isBeing yX6_isBeing]
def wsX6_days_r2 : List Cond := [Cond.code yX6_isBeing cX6_isBeing 2 (some .boolean), Cond.fieldLink RX6 72 "SwallowedInTurnModel" "beings" "I", Cond.methodLink RX6 121 yX6_done, Cond.instanceMethod yX6_done, Cond.selects RX6 yX6_done yX6_done, Cond.code yX6_done cX6_done 5 (some .int), Cond.fieldLink RX6 16 "SwallowedInTurnModel" "rows" "[I", Cond.methodLink RX6 109 yX6_swallowed, Cond.instanceMethod yX6_swallowed, Cond.selects RX6 yX6_swallowed yX6_swallowed, Cond.code yX6_swallowed cX6_swallowed 7 (some .int), Cond.methodLink RX6 89 yX6_filled, Cond.instanceMethod yX6_filled, Cond.selects RX6 yX6_filled yX6_filled, Cond.code yX6_filled cX6_filled 5 (some .int), Cond.methodLink RX6 85 yX6_holder, Cond.static yX6_holder, Cond.code yX6_holder cX6_holder 2 (some .int), Cond.methodLink RX6 81 yX6_unit, Cond.static yX6_unit, Cond.code yX6_unit cX6_unit 3 (some .int), Cond.methodLink RX6 92 yX6_moved, Cond.static yX6_moved, Cond.code yX6_moved cX6_moved 3 (some .int)]
def wsX6_days_r3 : List Cond := [Cond.methodLink RX6 112 yX6_comeOut, Cond.instanceMethod yX6_comeOut, Cond.selects RX6 yX6_comeOut yX6_comeOut, Cond.code yX6_comeOut cX6_comeOut 9 (some .int), Cond.methodLink RX6 188 yX6_draw, Cond.instanceMethod yX6_draw, Cond.selects RX6 yX6_draw yX6_draw, Cond.code yX6_draw cX6_draw 2 (some .int), Cond.constantLong RX6 171 (1103515245), Cond.constantLong RX6 176 (12345), Cond.constantLong RX6 178 (2147483647), Cond.constant RX6 180 (65536)]
def wsX6_days : List Cond := .code yX6_days cX6_days 11 (some .int) :: ((wsX6_days_r1 ++ (wsX6_days_r2 ++ wsX6_days_r3)) ++ wsX60)
def wsX6_image : List Cond := .code yX6_image cX6_image 2 (some .int) :: ([.fieldLink RX6 34 "SwallowedInTurnModel" "keptToldRows" "[I", .fieldLink RX6 28 "SwallowedInTurnModel" "toldRows" "[I", .fieldLink RX6 72 "SwallowedInTurnModel" "beings" "I", .fieldLink RX6 191 "SwallowedInTurnModel" "keptBeings" "I", .fieldLink RX6 137 "SwallowedInTurnModel" "deedsDone" "I", .fieldLink RX6 194 "SwallowedInTurnModel" "keptDeeds" "I", .fieldLink RX6 156 "SwallowedInTurnModel" "toldMany" "I", .fieldLink RX6 197 "SwallowedInTurnModel" "keptTold" "I", .fieldLink RX6 115 "SwallowedInTurnModel" "number" "I", .fieldLink RX6 37 "SwallowedInTurnModel" "keptNumber" "I"] ++ wsX60)
def wsX6_restore : List Cond := .code yX6_restore cX6_restore 2 (some .int) :: ([.fieldLink RX6 37 "SwallowedInTurnModel" "keptNumber" "I", .fieldLink RX6 191 "SwallowedInTurnModel" "keptBeings" "I", .fieldLink RX6 72 "SwallowedInTurnModel" "beings" "I", .fieldLink RX6 28 "SwallowedInTurnModel" "toldRows" "[I", .fieldLink RX6 34 "SwallowedInTurnModel" "keptToldRows" "[I", .fieldLink RX6 194 "SwallowedInTurnModel" "keptDeeds" "I", .fieldLink RX6 137 "SwallowedInTurnModel" "deedsDone" "I", .fieldLink RX6 197 "SwallowedInTurnModel" "keptTold" "I", .fieldLink RX6 156 "SwallowedInTurnModel" "toldMany" "I", .fieldLink RX6 115 "SwallowedInTurnModel" "number" "I"] ++ wsX60)
def wsX6_countOf_r1 : List Cond := [Cond.fieldLink RX6 72 "SwallowedInTurnModel" "beings" "I", Cond.fieldLink RX6 115 "SwallowedInTurnModel" "number" "I", Cond.fieldLink RX6 137 "SwallowedInTurnModel" "deedsDone" "I", Cond.fieldLink RX6 156 "SwallowedInTurnModel" "toldMany" "I", Cond.fieldLink RX6 47 "SwallowedInTurnModel" "pageMany" "I", Cond.methodLink RX6 85 yX6_holder, Cond.static yX6_holder, Cond.initialized RX6, Cond.code yX6_holder cX6_holder 2 (some .int), Cond.methodLink RX6 81 yX6_unit, Cond.static yX6_unit, Cond.code yX6_unit cX6_unit 3 (some .int), Cond.methodLink RX6 185 yX6_mayMany, Cond.instanceMethod yX6_mayMany, Cond.selects RX6 yX6_mayMany yX6_mayMany, Cond.code yX6_mayMany cX6_mayMany 4 (some .int), Cond.methodLink RX6 118 yX6_isDeed, Cond.instanceMethod yX6_isDeed, Cond.selects RX6 yX6_isDeed yX6_isDeed, Cond.code yX6_isDeed cX6_isDeed 2 (some .boolean), Cond.constantLong RX6 96 (24), Cond.constantLong RX6 101 (30), Cond.constantLong RX6 103 (34), Cond.constantLong RX6 105 (40)]
def wsX6_countOf_r2 : List Cond := [Cond.constantLong RX6 107 (44), Cond.methodLink RX6 43 yX6_in, Cond.static yX6_in, Cond.code yX6_in cX6_in 6 (some .boolean), Cond.methodLink RX6 98 yX6_isBeing, Cond.instanceMethod yX6_isBeing, Cond.selects RX6 yX6_isBeing yX6_isBeing, Cond.code yX6_isBeing cX6_isBeing 2 (some .boolean), Cond.methodLink RX6 121 yX6_done, Cond.instanceMethod yX6_done, Cond.selects RX6 yX6_done yX6_done, Cond.code yX6_done cX6_done 5 (some .int), Cond.fieldLink RX6 16 "SwallowedInTurnModel" "rows" "[I", Cond.methodLink RX6 109 yX6_swallowed, Cond.instanceMethod yX6_swallowed, Cond.selects RX6 yX6_swallowed yX6_swallowed, Cond.code yX6_swallowed cX6_swallowed 7 (some .int), Cond.methodLink RX6 89 yX6_filled, Cond.instanceMethod yX6_filled, Cond.selects RX6 yX6_filled yX6_filled, Cond.code yX6_filled cX6_filled 5 (some .int), Cond.methodLink RX6 92 yX6_moved, Cond.static yX6_moved, Cond.code yX6_moved cX6_moved 3 (some .int)]
def wsX6_countOf_r3 : List Cond := [Cond.methodLink RX6 112 yX6_comeOut, Cond.instanceMethod yX6_comeOut, Cond.selects RX6 yX6_comeOut yX6_comeOut, Cond.code yX6_comeOut cX6_comeOut 9 (some .int)]
def wsX6_countOf : List Cond := .code yX6_countOf cX6_countOf 4 (some .int) :: ((wsX6_countOf_r1 ++ (wsX6_countOf_r2 ++ wsX6_countOf_r3)) ++ wsX60)
def wsX6_count_r1 : List Cond := [Cond.methodLink RX6 200 yX6_countOf, Cond.instanceMethod yX6_countOf, Cond.selects RX6 yX6_countOf yX6_countOf, Cond.initialized RX6, Cond.code yX6_countOf cX6_countOf 4 (some .int), Cond.fieldLink RX6 72 "SwallowedInTurnModel" "beings" "I", Cond.fieldLink RX6 115 "SwallowedInTurnModel" "number" "I", Cond.fieldLink RX6 137 "SwallowedInTurnModel" "deedsDone" "I", Cond.fieldLink RX6 156 "SwallowedInTurnModel" "toldMany" "I", Cond.fieldLink RX6 47 "SwallowedInTurnModel" "pageMany" "I", Cond.methodLink RX6 85 yX6_holder, Cond.static yX6_holder, Cond.code yX6_holder cX6_holder 2 (some .int), Cond.methodLink RX6 81 yX6_unit, Cond.static yX6_unit, Cond.code yX6_unit cX6_unit 3 (some .int), Cond.methodLink RX6 185 yX6_mayMany, Cond.instanceMethod yX6_mayMany, Cond.selects RX6 yX6_mayMany yX6_mayMany, Cond.code yX6_mayMany cX6_mayMany 4 (some .int), Cond.methodLink RX6 118 yX6_isDeed, Cond.instanceMethod yX6_isDeed, Cond.selects RX6 yX6_isDeed yX6_isDeed, Cond.code yX6_isDeed cX6_isDeed 2 (some .boolean)]
def wsX6_count_r2 : List Cond := [Cond.constantLong RX6 96 (24), Cond.constantLong RX6 101 (30), Cond.constantLong RX6 103 (34), Cond.constantLong RX6 105 (40), Cond.constantLong RX6 107 (44), Cond.methodLink RX6 43 yX6_in, Cond.static yX6_in, Cond.code yX6_in cX6_in 6 (some .boolean), Cond.methodLink RX6 98 yX6_isBeing, Cond.instanceMethod yX6_isBeing, Cond.selects RX6 yX6_isBeing yX6_isBeing, Cond.code yX6_isBeing cX6_isBeing 2 (some .boolean), Cond.methodLink RX6 121 yX6_done, Cond.instanceMethod yX6_done, Cond.selects RX6 yX6_done yX6_done, Cond.code yX6_done cX6_done 5 (some .int), Cond.fieldLink RX6 16 "SwallowedInTurnModel" "rows" "[I", Cond.methodLink RX6 109 yX6_swallowed, Cond.instanceMethod yX6_swallowed, Cond.selects RX6 yX6_swallowed yX6_swallowed, Cond.code yX6_swallowed cX6_swallowed 7 (some .int), Cond.methodLink RX6 89 yX6_filled, Cond.instanceMethod yX6_filled, Cond.selects RX6 yX6_filled yX6_filled]
def wsX6_count_r3 : List Cond := [Cond.code yX6_filled cX6_filled 5 (some .int), Cond.methodLink RX6 92 yX6_moved, Cond.static yX6_moved, Cond.code yX6_moved cX6_moved 3 (some .int), Cond.methodLink RX6 112 yX6_comeOut, Cond.instanceMethod yX6_comeOut, Cond.selects RX6 yX6_comeOut yX6_comeOut, Cond.code yX6_comeOut cX6_comeOut 9 (some .int)]
def wsX6_count : List Cond := .code yX6_count cX6_count 2 (some .int) :: ((wsX6_count_r1 ++ (wsX6_count_r2 ++ wsX6_count_r3)) ++ wsX60)
def wsX6_say : List Cond := .code yX6_say cX6_say 3 none :: ([.constantLong RX6 79 (31), .fieldLink RX6 203 "SwallowedInTurnModel" "hash" "J"] ++ wsX60)
def wsX6_digest_r1 : List Cond := [Cond.constantLong RX6 207 (709), Cond.fieldLink RX6 203 "SwallowedInTurnModel" "hash" "J", Cond.fieldLink RX6 72 "SwallowedInTurnModel" "beings" "I", Cond.fieldLink RX6 115 "SwallowedInTurnModel" "number" "I", Cond.fieldLink RX6 140 "SwallowedInTurnModel" "lined" "I", Cond.fieldLink RX6 47 "SwallowedInTurnModel" "pageMany" "I", Cond.fieldLink RX6 7 "SwallowedInTurnModel" "page" "[I", Cond.methodLink RX6 143 yX6_lay, Cond.instanceMethod yX6_lay, Cond.selects RX6 yX6_lay yX6_lay, Cond.initialized RX6, Cond.code yX6_lay cX6_lay 5 none, Cond.fieldLink RX6 19 "SwallowedInTurnModel" "far" "[I", Cond.fieldLink RX6 22 "SwallowedInTurnModel" "firsts" "[I", Cond.fieldLink RX6 25 "SwallowedInTurnModel" "line" "[I", Cond.methodLink RX6 118 yX6_isDeed, Cond.instanceMethod yX6_isDeed, Cond.selects RX6 yX6_isDeed yX6_isDeed, Cond.code yX6_isDeed cX6_isDeed 2 (some .boolean), Cond.constantLong RX6 96 (24), Cond.constantLong RX6 101 (30), Cond.constantLong RX6 103 (34), Cond.constantLong RX6 105 (40), Cond.constantLong RX6 107 (44)]
def wsX6_digest_r2 : List Cond := [Cond.methodLink RX6 43 yX6_in, Cond.static yX6_in, Cond.code yX6_in cX6_in 6 (some .boolean), Cond.methodLink RX6 98 yX6_isBeing, Cond.instanceMethod yX6_isBeing, Cond.selects RX6 yX6_isBeing yX6_isBeing, Cond.code yX6_isBeing cX6_isBeing 2 (some .boolean), Cond.methodLink RX6 121 yX6_done, Cond.instanceMethod yX6_done, Cond.selects RX6 yX6_done yX6_done, Cond.code yX6_done cX6_done 5 (some .int), Cond.fieldLink RX6 16 "SwallowedInTurnModel" "rows" "[I", Cond.methodLink RX6 109 yX6_swallowed, Cond.instanceMethod yX6_swallowed, Cond.selects RX6 yX6_swallowed yX6_swallowed, Cond.code yX6_swallowed cX6_swallowed 7 (some .int), Cond.methodLink RX6 89 yX6_filled, Cond.instanceMethod yX6_filled, Cond.selects RX6 yX6_filled yX6_filled, Cond.code yX6_filled cX6_filled 5 (some .int), Cond.methodLink RX6 85 yX6_holder, Cond.static yX6_holder, Cond.code yX6_holder cX6_holder 2 (some .int), Cond.methodLink RX6 81 yX6_unit]
def wsX6_digest_r3 : List Cond := [Cond.static yX6_unit, Cond.code yX6_unit cX6_unit 3 (some .int), Cond.methodLink RX6 92 yX6_moved, Cond.static yX6_moved, Cond.code yX6_moved cX6_moved 3 (some .int), Cond.methodLink RX6 112 yX6_comeOut, Cond.instanceMethod yX6_comeOut, Cond.selects RX6 yX6_comeOut yX6_comeOut, Cond.code yX6_comeOut cX6_comeOut 9 (some .int), Cond.methodLink RX6 134 yX6_tell, Cond.instanceMethod yX6_tell, Cond.selects RX6 yX6_tell yX6_tell, Cond.code yX6_tell cX6_tell 3 (some .int), Cond.methodLink RX6 128 yX6_walls, Cond.static yX6_walls, Cond.code yX6_walls cX6_walls 4 (some .int), Cond.methodLink RX6 131 yX6_heardBy, Cond.instanceMethod yX6_heardBy, Cond.selects RX6 yX6_heardBy yX6_heardBy, Cond.code yX6_heardBy cX6_heardBy 5 (some .int), Cond.methodLink RX6 124 yX6_hearsOne, Cond.static yX6_hearsOne, Cond.code yX6_hearsOne cX6_hearsOne 6 (some .boolean), Cond.methodLink RX6 209 yX6_say]
def wsX6_digest_r4 : List Cond := [Cond.instanceMethod yX6_say, Cond.selects RX6 yX6_say yX6_say, Cond.code yX6_say cX6_say 3 none, Cond.constantLong RX6 79 (31), Cond.methodLink RX6 153 yX6_deepest, Cond.instanceMethod yX6_deepest, Cond.selects RX6 yX6_deepest yX6_deepest, Cond.code yX6_deepest cX6_deepest 5 (some .int), Cond.methodLink RX6 162 yX6_fitMany, Cond.instanceMethod yX6_fitMany, Cond.selects RX6 yX6_fitMany yX6_fitMany, Cond.code yX6_fitMany cX6_fitMany 3 (some .int), Cond.methodLink RX6 159 yX6_isToldSo, Cond.instanceMethod yX6_isToldSo, Cond.selects RX6 yX6_isToldSo yX6_isToldSo, Cond.code yX6_isToldSo cX6_isToldSo 4 (some .boolean), Cond.fieldLink RX6 156 "SwallowedInTurnModel" "toldMany" "I", Cond.fieldLink RX6 28 "SwallowedInTurnModel" "toldRows" "[I", Cond.methodLink RX6 168 yX6_askOf, Cond.instanceMethod yX6_askOf, Cond.selects RX6 yX6_askOf yX6_askOf, Cond.code yX6_askOf cX6_askOf 6 (some .int), Cond.methodLink RX6 165 yX6_worstOf, Cond.instanceMethod yX6_worstOf]
def wsX6_digest_r5 : List Cond := [Cond.selects RX6 yX6_worstOf yX6_worstOf, Cond.code yX6_worstOf cX6_worstOf 5 (some .int), Cond.fieldLink RX6 31 "SwallowedInTurnModel" "parts" "[I", Cond.methodLink RX6 150 yX6_soonestOf, Cond.instanceMethod yX6_soonestOf, Cond.selects RX6 yX6_soonestOf yX6_soonestOf, Cond.code yX6_soonestOf cX6_soonestOf 4 (some .int), Cond.methodLink RX6 146 yX6_areOut, Cond.static yX6_areOut, Cond.code yX6_areOut cX6_areOut 4 (some .boolean), Cond.methodLink RX6 200 yX6_countOf, Cond.instanceMethod yX6_countOf, Cond.selects RX6 yX6_countOf yX6_countOf, Cond.code yX6_countOf cX6_countOf 4 (some .int), Cond.fieldLink RX6 137 "SwallowedInTurnModel" "deedsDone" "I", Cond.methodLink RX6 185 yX6_mayMany, Cond.instanceMethod yX6_mayMany, Cond.selects RX6 yX6_mayMany yX6_mayMany, Cond.code yX6_mayMany cX6_mayMany 4 (some .int)]
def wsX6_digest : List Cond := .code yX6_digest cX6_digest 3 (some .long) :: ((wsX6_digest_r1 ++ (wsX6_digest_r2 ++ (wsX6_digest_r3 ++ (wsX6_digest_r4 ++ wsX6_digest_r5)))) ++ wsX60)
def wsJ9_max_7cf53 : List Cond := .code yJ9_max_7cf53 cJ9_max_7cf53 2 (some .int) :: ([])
def wsL_law_r1 : List Cond := [Cond.classLink RL 7 RX5, Cond.instantiable RX5 11, Cond.initialized RX5, Cond.classLink RL 10 RX6, Cond.instantiable RX6 24, Cond.initialized RX6, Cond.methodLink RL 9 yX5_init, Cond.instanceMethod yX5_init, Cond.code yX5_init cX5_init 1 none, Cond.methodLink RX5 3 objectInit, Cond.instanceMethod objectInit, Cond.code objectInit ⟨#[0xb1]⟩ 1 none, Cond.classLink RX5 9 RX0, Cond.instantiable RX0 2, Cond.initialized RX0, Cond.fieldLink RX5 12 "SwallowedInTurn" "crowd" "LSwallowedInTurn$Crowd;", Cond.classLink RX5 16 RX1, Cond.instantiable RX1 2, Cond.initialized RX1, Cond.fieldLink RX5 21 "SwallowedInTurn" "now" "LSwallowedInTurn$Nesting;", Cond.fieldLink RX5 25 "SwallowedInTurn" "trial" "LSwallowedInTurn$Nesting;", Cond.classLink RX5 28 RX2, Cond.instantiable RX2 11, Cond.initialized RX2]
def wsL_law_r2 : List Cond := [Cond.fieldLink RX5 31 "SwallowedInTurn" "outlook" "LSwallowedInTurn$Outlook;", Cond.classLink RX5 35 RX3, Cond.instantiable RX3 7, Cond.initialized RX3, Cond.fieldLink RX5 38 "SwallowedInTurn" "page" "LSwallowedInTurn$Page;", Cond.classLink RX5 42 RX4, Cond.instantiable RX4 3, Cond.initialized RX4, Cond.fieldLink RX5 45 "SwallowedInTurn" "talk" "LSwallowedInTurn$Talk;", Cond.fieldLink RX5 49 "SwallowedInTurn" "keptTalk" "LSwallowedInTurn$Talk;", Cond.fieldLink RX5 52 "SwallowedInTurn" "keptTotal" "I", Cond.instanceMethod yX0_init, Cond.code yX0_init cX0_init 1 none, Cond.methodLink RX0 3 objectInit, Cond.arrayClass .int, Cond.fieldLink RX0 9 "SwallowedInTurn$Crowd" "traits" "[I", Cond.methodLink RX5 18 yX1_init, Cond.instanceMethod yX1_init, Cond.code yX1_init cX1_init 2 none, Cond.methodLink RX1 3 objectInit, Cond.fieldLink RX1 9 "SwallowedInTurn$Nesting" "holders" "[I", Cond.fieldLink RX1 15 "SwallowedInTurn$Nesting" "crowd" "LSwallowedInTurn$Crowd;", Cond.methodLink RX1 19 yJ7_fill_53178, Cond.static yJ7_fill_53178]
def wsL_law_r3 : List Cond := [Cond.initialized RJ7, Cond.code yJ7_fill_53178 cJ7_fill_53178 4 none, Cond.methodLink RX5 30 yX2_init, Cond.instanceMethod yX2_init, Cond.code yX2_init cX2_init 2 none, Cond.methodLink RX2 3 objectInit, Cond.fieldLink RX2 11 "SwallowedInTurn$Outlook" "reached" "[I", Cond.fieldLink RX2 15 "SwallowedInTurn$Outlook" "steps" "[I", Cond.fieldLink RX2 18 "SwallowedInTurn$Outlook" "firsts" "[I", Cond.arrayClass .boolean, Cond.fieldLink RX2 21 "SwallowedInTurn$Outlook" "isReached" "[Z", Cond.fieldLink RX2 25 "SwallowedInTurn$Outlook" "answers" "[I", Cond.fieldLink RX2 28 "SwallowedInTurn$Outlook" "startNumber" "I", Cond.fieldLink RX2 32 "SwallowedInTurn$Outlook" "startTotal" "I", Cond.fieldLink RX2 35 "SwallowedInTurn$Outlook" "crowd" "LSwallowedInTurn$Crowd;", Cond.classLink RX2 39 RX1, Cond.fieldLink RX2 44 "SwallowedInTurn$Outlook" "here" "LSwallowedInTurn$Nesting;", Cond.fieldLink RX2 48 "SwallowedInTurn$Outlook" "next" "LSwallowedInTurn$Nesting;", Cond.methodLink RX2 41 yX1_init, Cond.instanceMethod yX3_init, Cond.code yX3_init cX3_init 1 none, Cond.methodLink RX3 3 objectInit, Cond.fieldLink RX3 9 "SwallowedInTurn$Page" "letters" "[I", Cond.fieldLink RX3 15 "SwallowedInTurn$Page" "deeds" "[I"]
def wsL_law_r4 : List Cond := [Cond.instanceMethod yX4_init, Cond.code yX4_init cX4_init 1 none, Cond.methodLink RX4 1 objectInit, Cond.fieldLink RX4 7 "SwallowedInTurn$Talk" "tellers" "[I", Cond.fieldLink RX4 13 "SwallowedInTurn$Talk" "heard" "[I", Cond.methodLink RL 12 yX6_init, Cond.instanceMethod yX6_init, Cond.code yX6_init cX6_init 1 none, Cond.methodLink RX6 1 objectInit, Cond.fieldLink RX6 7 "SwallowedInTurnModel" "page" "[I", Cond.fieldLink RX6 13 "SwallowedInTurnModel" "readDeeds" "[I", Cond.fieldLink RX6 16 "SwallowedInTurnModel" "rows" "[I", Cond.fieldLink RX6 19 "SwallowedInTurnModel" "far" "[I", Cond.fieldLink RX6 22 "SwallowedInTurnModel" "firsts" "[I", Cond.fieldLink RX6 25 "SwallowedInTurnModel" "line" "[I", Cond.fieldLink RX6 28 "SwallowedInTurnModel" "toldRows" "[I", Cond.fieldLink RX6 31 "SwallowedInTurnModel" "parts" "[I", Cond.fieldLink RX6 34 "SwallowedInTurnModel" "keptToldRows" "[I", Cond.fieldLink RX6 37 "SwallowedInTurnModel" "keptNumber" "I", Cond.methodLink RL 13 yX5_letter, Cond.instanceMethod yX5_letter, Cond.selects RX5 yX5_letter yX5_letter, Cond.code yX5_letter cX5_letter 2 (some .int), Cond.methodLink RX5 56 yX3_write]
def wsL_law_r5 : List Cond := [Cond.instanceMethod yX3_write, Cond.selects RX3 yX3_write yX3_write, Cond.code yX3_write cX3_write 2 (some .boolean), Cond.fieldLink RX3 18 "SwallowedInTurn$Page" "length" "I", Cond.methodLink RX5 60 yX3_length, Cond.instanceMethod yX3_length, Cond.selects RX3 yX3_length yX3_length, Cond.code yX3_length cX3_length 1 (some .int), Cond.methodLink RL 17 yX6_letter, Cond.instanceMethod yX6_letter, Cond.selects RX6 yX6_letter yX6_letter, Cond.code yX6_letter cX6_letter 2 (some .int), Cond.constantLong RX6 41 (126), Cond.fieldLink RX6 47 "SwallowedInTurnModel" "pageMany" "I", Cond.methodLink RX6 43 yX6_in, Cond.static yX6_in, Cond.code yX6_in cX6_in 6 (some .boolean), Cond.methodLink RL 18 yX5_blank, Cond.instanceMethod yX5_blank, Cond.selects RX5 yX5_blank yX5_blank, Cond.code yX5_blank cX5_blank 1 (some .int), Cond.methodLink RX5 64 yX3_clear, Cond.instanceMethod yX3_clear, Cond.selects RX3 yX3_clear yX3_clear]
def wsL_law_r6 : List Cond := [Cond.code yX3_clear cX3_clear 2 (some .int), Cond.methodLink RL 22 yX6_blank, Cond.instanceMethod yX6_blank, Cond.selects RX6 yX6_blank yX6_blank, Cond.code yX6_blank cX6_blank 2 (some .int), Cond.methodLink RL 23 yX5_fault, Cond.instanceMethod yX5_fault, Cond.selects RX5 yX5_fault yX5_fault, Cond.code yX5_fault cX5_fault 1 (some .int), Cond.methodLink RX5 67 yX3_read, Cond.instanceMethod yX3_read, Cond.selects RX3 yX3_read yX3_read, Cond.code yX3_read cX3_read 2 (some .int), Cond.fieldLink RX3 22 "SwallowedInTurn$Page" "read" "I", Cond.fieldLink RX3 29 "SwallowedInTurn$Page" "figuresDue" "I", Cond.fieldLink RX3 25 "SwallowedInTurn$Page" "whole" "Z", Cond.methodLink RX3 32 yX3_take, Cond.instanceMethod yX3_take, Cond.selects RX3 yX3_take yX3_take, Cond.code yX3_take cX3_take 2 (some .boolean), Cond.methodLink RX3 36 yX3_takeFigure, Cond.instanceMethod yX3_takeFigure, Cond.selects RX3 yX3_takeFigure yX3_takeFigure, Cond.code yX3_takeFigure cX3_takeFigure 2 (some .boolean)]
def wsL_law_r7 : List Cond := [Cond.fieldLink RX3 42 "SwallowedInTurn$Page" "begun" "I", Cond.methodLink RX3 39 yX3_takeSign, Cond.instanceMethod yX3_takeSign, Cond.selects RX3 yX3_takeSign yX3_takeSign, Cond.code yX3_takeSign cX3_takeSign 2 (some .boolean), Cond.methodLink RL 26 yX6_fault, Cond.instanceMethod yX6_fault, Cond.selects RX6 yX6_fault yX6_fault, Cond.code yX6_fault cX6_fault 1 (some .int), Cond.methodLink RX6 68 yX6_faultOf, Cond.instanceMethod yX6_faultOf, Cond.selects RX6 yX6_faultOf yX6_faultOf, Cond.code yX6_faultOf cX6_faultOf 2 (some .int), Cond.fieldLink RX6 58 "SwallowedInTurnModel" "readMany" "I", Cond.fieldLink RX6 55 "SwallowedInTurnModel" "state" "I", Cond.methodLink RX6 65 yX6_go, Cond.instanceMethod yX6_go, Cond.selects RX6 yX6_go yX6_go, Cond.code yX6_go cX6_go 2 (some .boolean), Cond.fieldLink RX6 52 "SwallowedInTurnModel" "readBase" "I", Cond.methodLink RX6 61 yX6_goDigit, Cond.instanceMethod yX6_goDigit, Cond.selects RX6 yX6_goDigit yX6_goDigit, Cond.code yX6_goDigit cX6_goDigit 2 (some .boolean)]
def wsL_law_r8 : List Cond := [Cond.constantLong RX6 50 (4), Cond.methodLink RL 27 yX5_tale, Cond.instanceMethod yX5_tale, Cond.selects RX5 yX5_tale yX5_tale, Cond.code yX5_tale cX5_tale 2 (some .int), Cond.methodLink RX5 70 yX3_isWhole, Cond.instanceMethod yX3_isWhole, Cond.selects RX3 yX3_isWhole yX3_isWhole, Cond.code yX3_isWhole cX3_isWhole 1 (some .boolean), Cond.methodLink RX5 74 yX1_copy, Cond.instanceMethod yX1_copy, Cond.selects RX1 yX1_copy yX1_copy, Cond.code yX1_copy cX1_copy 3 none, Cond.methodLink RX1 25 yX1_holder, Cond.instanceMethod yX1_holder, Cond.selects RX1 yX1_holder yX1_holder, Cond.code yX1_holder cX1_holder 2 (some .int), Cond.methodLink RX5 78 yX3_deeds, Cond.instanceMethod yX3_deeds, Cond.selects RX3 yX3_deeds yX3_deeds, Cond.code yX3_deeds cX3_deeds 1 (some .int), Cond.methodLink RX5 81 yX3_deedAt, Cond.instanceMethod yX3_deedAt, Cond.selects RX3 yX3_deedAt yX3_deedAt]
def wsL_law_r9 : List Cond := [Cond.code yX3_deedAt cX3_deedAt 2 (some .int), Cond.methodLink RX5 85 yX1_allows, Cond.instanceMethod yX1_allows, Cond.selects RX1 yX1_allows yX1_allows, Cond.code yX1_allows cX1_allows 4 (some .boolean), Cond.methodLink RX1 43 yX0_knows, Cond.instanceMethod yX0_knows, Cond.selects RX0 yX0_knows yX0_knows, Cond.code yX0_knows cX0_knows 2 (some .boolean), Cond.static yX5_isDeed, Cond.code yX5_isDeed cX5_isDeed 1 (some .boolean), Cond.static yX5_doer, Cond.code yX5_doer cX5_doer 1 (some .int), Cond.methodLink RX0 31 yX0_has, Cond.instanceMethod yX0_has, Cond.selects RX0 yX0_has yX0_has, Cond.code yX0_has cX0_has 2 (some .boolean), Cond.fieldLink RX0 15 "SwallowedInTurn$Crowd" "total" "I", Cond.static yX5_prey, Cond.code yX5_prey cX5_prey 1 (some .int), Cond.methodLink RX5 223 yX5_doer, Cond.methodLink RX1 53 yX1_canSwallow, Cond.instanceMethod yX1_canSwallow, Cond.selects RX1 yX1_canSwallow yX1_canSwallow]
def wsL_law_r10 : List Cond := [Cond.code yX1_canSwallow cX1_canSwallow 5 (some .boolean), Cond.methodLink RX1 66 yX0_isOf, Cond.instanceMethod yX0_isOf, Cond.selects RX0 yX0_isOf yX0_isOf, Cond.code yX0_isOf cX0_isOf 4 (some .boolean), Cond.fieldLink RX0 41 "SwallowedInTurn$Crowd" "KINDS_OF_ONE" "[I", Cond.methodLink RX0 37 yX0_trait, Cond.instanceMethod yX0_trait, Cond.selects RX0 yX0_trait yX0_trait, Cond.code yX0_trait cX0_trait 4 (some .int), Cond.methodLink RX1 35 yX0_trait, Cond.methodLink RX1 69 yX1_filled, Cond.instanceMethod yX1_filled, Cond.selects RX1 yX1_filled yX1_filled, Cond.code yX1_filled cX1_filled 4 (some .int), Cond.methodLink RX1 29 yX0_total, Cond.instanceMethod yX0_total, Cond.selects RX0 yX0_total yX0_total, Cond.code yX0_total cX0_total 1 (some .int), Cond.methodLink RX1 56 yX1_comingOut, Cond.instanceMethod yX1_comingOut, Cond.selects RX1 yX1_comingOut yX1_comingOut, Cond.code yX1_comingOut cX1_comingOut 7 (some .int), Cond.methodLink RX1 59 yX1_canTake]
def wsL_law_r11 : List Cond := [Cond.instanceMethod yX1_canTake, Cond.selects RX1 yX1_canTake yX1_canTake, Cond.code yX1_canTake cX1_canTake 5 (some .boolean), Cond.methodLink RX5 88 yX1_carryOut, Cond.instanceMethod yX1_carryOut, Cond.selects RX1 yX1_carryOut yX1_carryOut, Cond.code yX1_carryOut cX1_carryOut 6 none, Cond.methodLink RX1 62 yX1_put, Cond.instanceMethod yX1_put, Cond.selects RX1 yX1_put yX1_put, Cond.code yX1_put cX1_put 3 none, Cond.methodLink RL 30 yX6_tale, Cond.instanceMethod yX6_tale, Cond.selects RX6 yX6_tale yX6_tale, Cond.code yX6_tale cX6_tale 4 (some .int), Cond.fieldLink RX6 115 "SwallowedInTurnModel" "number" "I", Cond.methodLink RX6 118 yX6_isDeed, Cond.instanceMethod yX6_isDeed, Cond.selects RX6 yX6_isDeed yX6_isDeed, Cond.code yX6_isDeed cX6_isDeed 2 (some .boolean), Cond.constantLong RX6 96 (24), Cond.constantLong RX6 101 (30), Cond.constantLong RX6 103 (34), Cond.constantLong RX6 105 (40)]
def wsL_law_r12 : List Cond := [Cond.constantLong RX6 107 (44), Cond.methodLink RX6 98 yX6_isBeing, Cond.instanceMethod yX6_isBeing, Cond.selects RX6 yX6_isBeing yX6_isBeing, Cond.code yX6_isBeing cX6_isBeing 2 (some .boolean), Cond.fieldLink RX6 72 "SwallowedInTurnModel" "beings" "I", Cond.methodLink RX6 121 yX6_done, Cond.instanceMethod yX6_done, Cond.selects RX6 yX6_done yX6_done, Cond.code yX6_done cX6_done 5 (some .int), Cond.methodLink RX6 109 yX6_swallowed, Cond.instanceMethod yX6_swallowed, Cond.selects RX6 yX6_swallowed yX6_swallowed, Cond.code yX6_swallowed cX6_swallowed 7 (some .int), Cond.methodLink RX6 89 yX6_filled, Cond.instanceMethod yX6_filled, Cond.selects RX6 yX6_filled yX6_filled, Cond.code yX6_filled cX6_filled 5 (some .int), Cond.methodLink RX6 85 yX6_holder, Cond.static yX6_holder, Cond.code yX6_holder cX6_holder 2 (some .int), Cond.methodLink RX6 81 yX6_unit, Cond.static yX6_unit, Cond.code yX6_unit cX6_unit 3 (some .int)]
def wsL_law_r13 : List Cond := [Cond.methodLink RX6 92 yX6_moved, Cond.static yX6_moved, Cond.code yX6_moved cX6_moved 3 (some .int), Cond.methodLink RX6 112 yX6_comeOut, Cond.instanceMethod yX6_comeOut, Cond.selects RX6 yX6_comeOut yX6_comeOut, Cond.code yX6_comeOut cX6_comeOut 9 (some .int), Cond.methodLink RL 31 yX5_being, Cond.instanceMethod yX5_being, Cond.selects RX5 yX5_being yX5_being, Cond.code yX5_being cX5_being 6 (some .int), Cond.methodLink RX5 92 yX5_isBetween, Cond.static yX5_isBetween, Cond.code yX5_isBetween cX5_isBetween 3 (some .boolean), Cond.methodLink RX5 96 yX0_join, Cond.instanceMethod yX0_join, Cond.selects RX0 yX0_join yX0_join, Cond.code yX0_join cX0_join 6 (some .int), Cond.methodLink RL 35 yX6_being, Cond.instanceMethod yX6_being, Cond.selects RX6 yX6_being yX6_being, Cond.code yX6_being cX6_being 5 (some .int), Cond.constantLong RX6 75 (9), Cond.constantLong RX6 77 (20)]
def wsL_law_r14 : List Cond := [Cond.constantLong RX6 79 (31), Cond.methodLink RL 36 yX5_about, Cond.instanceMethod yX5_about, Cond.selects RX5 yX5_about yX5_about, Cond.code yX5_about cX5_about 3 (some .int), Cond.methodLink RX5 100 yX0_has, Cond.methodLink RX5 103 yX0_trait, Cond.methodLink RX5 107 yX1_holder, Cond.methodLink RX5 110 yX1_filled, Cond.methodLink RX5 113 yX1_walls, Cond.instanceMethod yX1_walls, Cond.selects RX1 yX1_walls yX1_walls, Cond.code yX1_walls cX1_walls 4 (some .int), Cond.methodLink RX5 116 yX1_heardBy, Cond.instanceMethod yX1_heardBy, Cond.selects RX1 yX1_heardBy yX1_heardBy, Cond.code yX1_heardBy cX1_heardBy 4 (some .int), Cond.methodLink RX1 39 yX1_hears, Cond.instanceMethod yX1_hears, Cond.selects RX1 yX1_hears yX1_hears, Cond.code yX1_hears cX1_hears 5 (some .boolean), Cond.methodLink RL 40 yX6_about, Cond.instanceMethod yX6_about, Cond.selects RX6 yX6_about yX6_about]
def wsL_law_r15 : List Cond := [Cond.code yX6_about cX6_about 3 (some .int), Cond.methodLink RX6 134 yX6_tell, Cond.instanceMethod yX6_tell, Cond.selects RX6 yX6_tell yX6_tell, Cond.code yX6_tell cX6_tell 3 (some .int), Cond.methodLink RX6 128 yX6_walls, Cond.static yX6_walls, Cond.code yX6_walls cX6_walls 4 (some .int), Cond.methodLink RX6 131 yX6_heardBy, Cond.instanceMethod yX6_heardBy, Cond.selects RX6 yX6_heardBy yX6_heardBy, Cond.code yX6_heardBy cX6_heardBy 5 (some .int), Cond.methodLink RX6 124 yX6_hearsOne, Cond.static yX6_hearsOne, Cond.code yX6_hearsOne cX6_hearsOne 6 (some .boolean), Cond.methodLink RL 41 yX5_as, Cond.instanceMethod yX5_as, Cond.selects RX5 yX5_as yX5_as, Cond.code yX5_as cX5_as 3 (some .int), Cond.methodLink RX5 119 yX0_isOf, Cond.methodLink RL 44 yX6_as, Cond.instanceMethod yX6_as, Cond.selects RX6 yX6_as yX6_as, Cond.code yX6_as cX6_as 5 (some .int)]
def wsL_law_r16 : List Cond := [Cond.methodLink RL 45 yX5_may, Cond.instanceMethod yX5_may, Cond.selects RX5 yX5_may yX5_may, Cond.code yX5_may cX5_may 2 (some .int), Cond.methodLink RX5 123 yX0_knows, Cond.methodLink RL 48 yX6_may, Cond.instanceMethod yX6_may, Cond.selects RX6 yX6_may yX6_may, Cond.code yX6_may cX6_may 2 (some .int), Cond.methodLink RL 49 yX5_deed, Cond.instanceMethod yX5_deed, Cond.selects RX5 yX5_deed yX5_deed, Cond.code yX5_deed cX5_deed 2 (some .int), Cond.fieldLink RX5 126 "SwallowedInTurn" "done" "I", Cond.methodLink RL 52 yX6_deed, Cond.instanceMethod yX6_deed, Cond.selects RX6 yX6_deed yX6_deed, Cond.code yX6_deed cX6_deed 3 (some .int), Cond.fieldLink RX6 137 "SwallowedInTurnModel" "deedsDone" "I", Cond.methodLink RL 53 yX5_number, Cond.instanceMethod yX5_number, Cond.selects RX5 yX5_number yX5_number, Cond.code yX5_number cX5_number 1 (some .int), Cond.methodLink RX5 129 yX1_toNumber]
def wsL_law_r17 : List Cond := [Cond.instanceMethod yX1_toNumber, Cond.selects RX1 yX1_toNumber yX1_toNumber, Cond.code yX1_toNumber cX1_toNumber 3 (some .int), Cond.methodLink RL 56 yX6_number, Cond.instanceMethod yX6_number, Cond.selects RX6 yX6_number yX6_number, Cond.code yX6_number cX6_number 1 (some .int), Cond.methodLink RL 57 yX5_soonest, Cond.instanceMethod yX5_soonest, Cond.selects RX5 yX5_soonest yX5_soonest, Cond.code yX5_soonest cX5_soonest 4 (some .int), Cond.methodLink RX5 132 yX0_hasAll, Cond.instanceMethod yX0_hasAll, Cond.selects RX0 yX0_hasAll yX0_hasAll, Cond.code yX0_hasAll cX0_hasAll 2 (some .boolean), Cond.methodLink RX0 19 yX0_all, Cond.instanceMethod yX0_all, Cond.selects RX0 yX0_all yX0_all, Cond.code yX0_all cX0_all 1 (some .int), Cond.methodLink RX5 135 yX2_lookFrom, Cond.instanceMethod yX2_lookFrom, Cond.selects RX2 yX2_lookFrom yX2_lookFrom, Cond.code yX2_lookFrom cX2_lookFrom 4 none, Cond.fieldLink RX2 60 "SwallowedInTurn$Outlook" "total" "I"]
def wsL_law_r18 : List Cond := [Cond.methodLink RX2 51 yX1_toNumber, Cond.methodLink RX2 55 yX0_total, Cond.methodLink RX2 62 yX2_reach, Cond.instanceMethod yX2_reach, Cond.selects RX2 yX2_reach yX2_reach, Cond.code yX2_reach cX2_reach 4 none, Cond.methodLink RX2 66 yX2_spread, Cond.instanceMethod yX2_spread, Cond.selects RX2 yX2_spread yX2_spread, Cond.code yX2_spread cX2_spread 5 none, Cond.methodLink RX2 70 yX2_reachedAt, Cond.instanceMethod yX2_reachedAt, Cond.selects RX2 yX2_reachedAt yX2_reachedAt, Cond.code yX2_reachedAt cX2_reachedAt 2 (some .int), Cond.methodLink RX2 74 yX1_become, Cond.instanceMethod yX1_become, Cond.selects RX1 yX1_become yX1_become, Cond.code yX1_become cX1_become 4 none, Cond.methodLink RX2 77 yX2_stepsAt, Cond.instanceMethod yX2_stepsAt, Cond.selects RX2 yX2_stepsAt yX2_stepsAt, Cond.code yX2_stepsAt cX2_stepsAt 2 (some .int), Cond.methodLink RX2 80 yX2_firstAt, Cond.instanceMethod yX2_firstAt]
def wsL_law_r19 : List Cond := [Cond.selects RX2 yX2_firstAt yX2_firstAt, Cond.code yX2_firstAt cX2_firstAt 2 (some .int), Cond.methodLink RX2 83 yX1_allows, Cond.methodLink RX2 87 yX1_copy, Cond.methodLink RX2 91 yX1_carryOut, Cond.methodLink RX5 138 yX2_placeWhereOut, Cond.instanceMethod yX2_placeWhereOut, Cond.selects RX2 yX2_placeWhereOut yX2_placeWhereOut, Cond.code yX2_placeWhereOut cX2_placeWhereOut 3 (some .int), Cond.methodLink RX2 94 yX1_areOutside, Cond.instanceMethod yX1_areOutside, Cond.selects RX1 yX1_areOutside yX1_areOutside, Cond.code yX1_areOutside cX1_areOutside 3 (some .boolean), Cond.methodLink RX5 141 yX2_stepsAt, Cond.methodLink RX5 144 yX2_firstAt, Cond.methodLink RL 60 yX6_soonest, Cond.instanceMethod yX6_soonest, Cond.selects RX6 yX6_soonest yX6_soonest, Cond.code yX6_soonest cX6_soonest 3 (some .int), Cond.methodLink RX6 150 yX6_soonestOf, Cond.instanceMethod yX6_soonestOf, Cond.selects RX6 yX6_soonestOf yX6_soonestOf, Cond.code yX6_soonestOf cX6_soonestOf 4 (some .int), Cond.fieldLink RX6 140 "SwallowedInTurnModel" "lined" "I"]
def wsL_law_r20 : List Cond := [Cond.methodLink RX6 143 yX6_lay, Cond.instanceMethod yX6_lay, Cond.selects RX6 yX6_lay yX6_lay, Cond.code yX6_lay cX6_lay 5 none, Cond.methodLink RX6 146 yX6_areOut, Cond.static yX6_areOut, Cond.code yX6_areOut cX6_areOut 4 (some .boolean), Cond.methodLink RL 61 yX5_together, Cond.instanceMethod yX5_together, Cond.selects RX5 yX5_together yX5_together, Cond.code yX5_together cX5_together 3 (some .int), Cond.methodLink RX5 147 yX2_placeWhereTogether, Cond.instanceMethod yX2_placeWhereTogether, Cond.selects RX2 yX2_placeWhereTogether yX2_placeWhereTogether, Cond.code yX2_placeWhereTogether cX2_placeWhereTogether 4 (some .int), Cond.methodLink RX2 97 yX1_holder, Cond.methodLink RL 64 yX6_together, Cond.instanceMethod yX6_together, Cond.selects RX6 yX6_together yX6_together, Cond.code yX6_together cX6_together 4 (some .int), Cond.methodLink RL 65 yX5_deep, Cond.instanceMethod yX5_deep, Cond.selects RX5 yX5_deep yX5_deep, Cond.code yX5_deep cX5_deep 2 (some .int)]
def wsL_law_r21 : List Cond := [Cond.methodLink RX5 150 yX2_mostWalls, Cond.instanceMethod yX2_mostWalls, Cond.selects RX2 yX2_mostWalls yX2_mostWalls, Cond.code yX2_mostWalls cX2_mostWalls 4 (some .int), Cond.methodLink RX2 103 Lib.Math.max.name, Cond.static Lib.Math.max.name, Cond.initialized "java/lang/Math", Cond.code Lib.Math.max.name Lib.Math.max.code 2 (some .int), Cond.methodLink RX2 100 yX1_walls, Cond.methodLink RL 68 yX6_deep, Cond.instanceMethod yX6_deep, Cond.selects RX6 yX6_deep yX6_deep, Cond.code yX6_deep cX6_deep 2 (some .int), Cond.methodLink RX6 153 yX6_deepest, Cond.instanceMethod yX6_deepest, Cond.selects RX6 yX6_deepest yX6_deepest, Cond.code yX6_deepest cX6_deepest 5 (some .int), Cond.methodLink RL 69 yX5_many, Cond.instanceMethod yX5_many, Cond.selects RX5 yX5_many yX5_many, Cond.code yX5_many cX5_many 1 (some .int), Cond.methodLink RX5 153 yX2_total, Cond.instanceMethod yX2_total, Cond.selects RX2 yX2_total yX2_total]
def wsL_law_r22 : List Cond := [Cond.code yX2_total cX2_total 1 (some .int), Cond.methodLink RL 72 yX6_many, Cond.instanceMethod yX6_many, Cond.selects RX6 yX6_many yX6_many, Cond.code yX6_many cX6_many 1 (some .int), Cond.methodLink RL 73 yX5_nesting, Cond.instanceMethod yX5_nesting, Cond.selects RX5 yX5_nesting yX5_nesting, Cond.code yX5_nesting cX5_nesting 3 (some .int), Cond.methodLink RX5 156 yX2_numberAt, Cond.instanceMethod yX2_numberAt, Cond.selects RX2 yX2_numberAt yX2_numberAt, Cond.code yX2_numberAt cX2_numberAt 4 (some .int), Cond.methodLink RL 76 yX6_nesting, Cond.instanceMethod yX6_nesting, Cond.selects RX6 yX6_nesting yX6_nesting, Cond.code yX6_nesting cX6_nesting 4 (some .int), Cond.methodLink RL 77 yX5_told, Cond.instanceMethod yX5_told, Cond.selects RX5 yX5_told yX5_told, Cond.code yX5_told cX5_told 3 (some .int), Cond.methodLink RX5 159 yX4_keep, Cond.instanceMethod yX4_keep, Cond.selects RX4 yX4_keep yX4_keep]
def wsL_law_r23 : List Cond := [Cond.code yX4_keep cX4_keep 3 (some .boolean), Cond.fieldLink RX4 16 "SwallowedInTurn$Talk" "length" "I", Cond.methodLink RX5 162 yX4_length, Cond.instanceMethod yX4_length, Cond.selects RX4 yX4_length yX4_length, Cond.code yX4_length cX4_length 1 (some .int), Cond.methodLink RL 80 yX6_told, Cond.instanceMethod yX6_told, Cond.selects RX6 yX6_told yX6_told, Cond.code yX6_told cX6_told 3 (some .int), Cond.fieldLink RX6 156 "SwallowedInTurnModel" "toldMany" "I", Cond.methodLink RL 81 yX5_forget, Cond.instanceMethod yX5_forget, Cond.selects RX5 yX5_forget yX5_forget, Cond.code yX5_forget cX5_forget 1 (some .int), Cond.methodLink RX5 163 yX4_clear, Cond.instanceMethod yX4_clear, Cond.selects RX4 yX4_clear yX4_clear, Cond.code yX4_clear cX4_clear 2 (some .int), Cond.methodLink RL 84 yX6_forget, Cond.instanceMethod yX6_forget, Cond.selects RX6 yX6_forget yX6_forget, Cond.code yX6_forget cX6_forget 2 (some .int), Cond.methodLink RL 85 yX5_fits]
def wsL_law_r24 : List Cond := [Cond.instanceMethod yX5_fits, Cond.selects RX5 yX5_fits yX5_fits, Cond.code yX5_fits cX5_fits 1 (some .int), Cond.methodLink RX5 164 yX2_fitting, Cond.instanceMethod yX2_fitting, Cond.selects RX2 yX2_fitting yX2_fitting, Cond.code yX2_fitting cX2_fitting 4 (some .int), Cond.methodLink RX2 109 yX4_isSoIn, Cond.instanceMethod yX4_isSoIn, Cond.selects RX4 yX4_isSoIn yX4_isSoIn, Cond.code yX4_isSoIn cX4_isSoIn 3 (some .boolean), Cond.methodLink RX4 20 yX1_heardBy, Cond.methodLink RL 88 yX6_fits, Cond.instanceMethod yX6_fits, Cond.selects RX6 yX6_fits yX6_fits, Cond.code yX6_fits cX6_fits 1 (some .int), Cond.methodLink RX6 162 yX6_fitMany, Cond.instanceMethod yX6_fitMany, Cond.selects RX6 yX6_fitMany yX6_fitMany, Cond.code yX6_fitMany cX6_fitMany 3 (some .int), Cond.methodLink RX6 159 yX6_isToldSo, Cond.instanceMethod yX6_isToldSo, Cond.selects RX6 yX6_isToldSo yX6_isToldSo, Cond.code yX6_isToldSo cX6_isToldSo 4 (some .boolean)]
def wsL_law_r25 : List Cond := [Cond.methodLink RL 89 yX5_sure, Cond.instanceMethod yX5_sure, Cond.selects RX5 yX5_sure yX5_sure, Cond.code yX5_sure cX5_sure 2 (some .int), Cond.methodLink RX5 168 yX2_sureHolder, Cond.instanceMethod yX2_sureHolder, Cond.selects RX2 yX2_sureHolder yX2_sureHolder, Cond.code yX2_sureHolder cX2_sureHolder 5 (some .int), Cond.methodLink RL 92 yX6_sure, Cond.instanceMethod yX6_sure, Cond.selects RX6 yX6_sure yX6_sure, Cond.code yX6_sure cX6_sure 4 (some .int), Cond.methodLink RL 93 yX5_ask, Cond.instanceMethod yX5_ask, Cond.selects RX5 yX5_ask yX5_ask, Cond.code yX5_ask cX5_ask 1 (some .int), Cond.methodLink RX5 172 yX2_bestAsked, Cond.instanceMethod yX2_bestAsked, Cond.selects RX2 yX2_bestAsked yX2_bestAsked, Cond.code yX2_bestAsked cX2_bestAsked 6 (some .int), Cond.methodLink RX2 115 yX2_mostLeft, Cond.instanceMethod yX2_mostLeft, Cond.selects RX2 yX2_mostLeft yX2_mostLeft, Cond.code yX2_mostLeft cX2_mostLeft 6 (some .int)]
def wsL_law_r26 : List Cond := [Cond.methodLink RX2 119 yJ7_fill_53178, Cond.methodLink RX2 125 yX1_heardBy, Cond.methodLink RL 96 yX6_ask, Cond.instanceMethod yX6_ask, Cond.selects RX6 yX6_ask yX6_ask, Cond.code yX6_ask cX6_ask 1 (some .int), Cond.methodLink RX6 168 yX6_askOf, Cond.instanceMethod yX6_askOf, Cond.selects RX6 yX6_askOf yX6_askOf, Cond.code yX6_askOf cX6_askOf 6 (some .int), Cond.methodLink RX6 165 yX6_worstOf, Cond.instanceMethod yX6_worstOf, Cond.selects RX6 yX6_worstOf yX6_worstOf, Cond.code yX6_worstOf cX6_worstOf 5 (some .int), Cond.methodLink RL 97 yX5_days, Cond.instanceMethod yX5_days, Cond.selects RX5 yX5_days yX5_days, Cond.code yX5_days cX5_days 7 (some .int), Cond.constant RX5 181 (65536), Cond.methodLink RX5 175 yX1_choices, Cond.instanceMethod yX1_choices, Cond.selects RX1 yX1_choices yX1_choices, Cond.code yX1_choices cX1_choices 3 (some .int), Cond.methodLink RX1 72 yX1_allows]
def wsL_law_r27 : List Cond := [Cond.methodLink RX5 178 yX5_nextSeed, Cond.static yX5_nextSeed, Cond.code yX5_nextSeed cX5_nextSeed 1 (some .int), Cond.constantLong RX5 217 (1103515245), Cond.constantLong RX5 219 (12345), Cond.constantLong RX5 221 (2147483648), Cond.methodLink RX5 182 yX1_choiceAt, Cond.instanceMethod yX1_choiceAt, Cond.selects RX1 yX1_choiceAt yX1_choiceAt, Cond.code yX1_choiceAt cX1_choiceAt 4 (some .int), Cond.methodLink RL 101 yX6_days, Cond.instanceMethod yX6_days, Cond.selects RX6 yX6_days yX6_days, Cond.code yX6_days cX6_days 11 (some .int), Cond.constantLong RX6 181 (60), Cond.constantLong RX6 183 (2), Cond.fieldLink RX6 173 "SwallowedInTurnModel" "seedNow" "I", Cond.methodLink RX6 185 yX6_mayMany, Cond.instanceMethod yX6_mayMany, Cond.selects RX6 yX6_mayMany yX6_mayMany, Cond.code yX6_mayMany cX6_mayMany 4 (some .int), Cond.methodLink RX6 188 yX6_draw, Cond.instanceMethod yX6_draw, Cond.selects RX6 yX6_draw yX6_draw]
def wsL_law_r28 : List Cond := [Cond.code yX6_draw cX6_draw 2 (some .int), Cond.constantLong RX6 171 (1103515245), Cond.constantLong RX6 176 (12345), Cond.constantLong RX6 178 (2147483647), Cond.constant RX6 180 (65536), Cond.methodLink RL 102 yX5_image, Cond.instanceMethod yX5_image, Cond.selects RX5 yX5_image yX5_image, Cond.code yX5_image cX5_image 1 (some .int), Cond.fieldLink RX5 185 "SwallowedInTurn" "keptNumber" "I", Cond.fieldLink RX5 191 "SwallowedInTurn" "keptDone" "I", Cond.methodLink RX5 188 yX4_copy, Cond.instanceMethod yX4_copy, Cond.selects RX4 yX4_copy yX4_copy, Cond.code yX4_copy cX4_copy 3 none, Cond.methodLink RX5 194 yX0_total, Cond.methodLink RL 105 yX6_image, Cond.instanceMethod yX6_image, Cond.selects RX6 yX6_image yX6_image, Cond.code yX6_image cX6_image 2 (some .int), Cond.fieldLink RX6 191 "SwallowedInTurnModel" "keptBeings" "I", Cond.fieldLink RX6 194 "SwallowedInTurnModel" "keptDeeds" "I", Cond.fieldLink RX6 197 "SwallowedInTurnModel" "keptTold" "I", Cond.methodLink RL 106 yX5_restore]
def wsL_law_r29 : List Cond := [Cond.instanceMethod yX5_restore, Cond.selects RX5 yX5_restore yX5_restore, Cond.code yX5_restore cX5_restore 1 (some .int), Cond.methodLink RX5 195 yX1_become, Cond.methodLink RL 109 yX6_restore, Cond.instanceMethod yX6_restore, Cond.selects RX6 yX6_restore yX6_restore, Cond.code yX6_restore cX6_restore 2 (some .int), Cond.methodLink RL 110 yX5_count, Cond.instanceMethod yX5_count, Cond.selects RX5 yX5_count yX5_count, Cond.code yX5_count cX5_count 2 (some .int), Cond.methodLink RX5 198 yX1_outside, Cond.instanceMethod yX1_outside, Cond.selects RX1 yX1_outside yX1_outside, Cond.code yX1_outside cX1_outside 3 (some .int), Cond.methodLink RL 113 yX6_count, Cond.instanceMethod yX6_count, Cond.selects RX6 yX6_count yX6_count, Cond.code yX6_count cX6_count 2 (some .int), Cond.methodLink RX6 200 yX6_countOf, Cond.instanceMethod yX6_countOf, Cond.selects RX6 yX6_countOf yX6_countOf, Cond.code yX6_countOf cX6_countOf 4 (some .int)]
def wsL_law_r30 : List Cond := [Cond.methodLink RL 114 yX5_digest, Cond.instanceMethod yX5_digest, Cond.selects RX5 yX5_digest yX5_digest, Cond.code yX5_digest cX5_digest 5 (some .long), Cond.constantLong RX5 201 (709), Cond.constantLong RX5 203 (31), Cond.methodLink RX5 205 yX5_about, Cond.methodLink RX5 208 yX0_all, Cond.methodLink RX5 211 yX3_letterAt, Cond.instanceMethod yX3_letterAt, Cond.selects RX3 yX3_letterAt yX3_letterAt, Cond.code yX3_letterAt cX3_letterAt 2 (some .int), Cond.methodLink RX5 214 yX5_count, Cond.methodLink RL 118 yX6_digest, Cond.instanceMethod yX6_digest, Cond.selects RX6 yX6_digest yX6_digest, Cond.code yX6_digest cX6_digest 3 (some .long), Cond.constantLong RX6 207 (709), Cond.fieldLink RX6 203 "SwallowedInTurnModel" "hash" "J", Cond.methodLink RX6 209 yX6_say, Cond.instanceMethod yX6_say, Cond.selects RX6 yX6_say yX6_say, Cond.code yX6_say cX6_say 3 none]
def wsL_law : List Cond := (wsL_law_r1 ++ (wsL_law_r2 ++ (wsL_law_r3 ++ (wsL_law_r4 ++ (wsL_law_r5 ++ (wsL_law_r6 ++ (wsL_law_r7 ++ (wsL_law_r8 ++ (wsL_law_r9 ++ (wsL_law_r10 ++ (wsL_law_r11 ++ (wsL_law_r12 ++ (wsL_law_r13 ++ (wsL_law_r14 ++ (wsL_law_r15 ++ (wsL_law_r16 ++ (wsL_law_r17 ++ (wsL_law_r18 ++ (wsL_law_r19 ++ (wsL_law_r20 ++ (wsL_law_r21 ++ (wsL_law_r22 ++ (wsL_law_r23 ++ (wsL_law_r24 ++ (wsL_law_r25 ++ (wsL_law_r26 ++ (wsL_law_r27 ++ (wsL_law_r28 ++ (wsL_law_r29 ++ wsL_law_r30))))))))))))))))))))))))))))) ++ wsX50 ++ wsX60 ++ wsX00 ++ wsX10 ++ wsX20 ++ wsX30 ++ wsX40 ++ ([] : List Cond)
theorem wsL_law_r1_i : ∀ w ∈ wsL_law_r1, w ∈ lw_tbl := List.forall_mem_cons.mpr ⟨List.mem_of_getElem? (i := 44) (by decide +kernel), List.forall_mem_cons.mpr ⟨List.mem_of_getElem? (i := 45) (by decide +kernel), List.forall_mem_cons.mpr ⟨List.mem_of_getElem? (i := 35) (by decide +kernel), List.forall_mem_cons.mpr ⟨List.mem_of_getElem? (i := 585) (by decide +kernel), List.forall_mem_cons.mpr ⟨List.mem_of_getElem? (i := 586) (by decide +kernel), List.forall_mem_cons.mpr ⟨List.mem_of_getElem? (i := 42) (by decide +kernel), List.forall_mem_cons.mpr ⟨List.mem_of_getElem? (i := 46) (by decide +kernel), List.forall_mem_cons.mpr ⟨List.mem_of_getElem? (i := 47) (by decide +kernel), List.forall_mem_cons.mpr ⟨List.mem_of_getElem? (i := 48) (by decide +kernel), List.forall_mem_cons.mpr ⟨List.mem_of_getElem? (i := 49) (by decide +kernel), List.forall_mem_cons.mpr ⟨List.mem_of_getElem? (i := 50) (by decide +kernel), List.forall_mem_cons.mpr ⟨List.mem_of_getElem? (i := 51) (by decide +kernel), List.forall_mem_cons.mpr ⟨List.mem_of_getElem? (i := 52) (by decide +kernel), List.forall_mem_cons.mpr ⟨List.mem_of_getElem? (i := 53) (by decide +kernel), List.forall_mem_cons.mpr ⟨List.mem_of_getElem? (i := 36) (by decide +kernel), List.forall_mem_cons.mpr ⟨List.mem_of_getElem? (i := 169) (by decide +kernel), List.forall_mem_cons.mpr ⟨List.mem_of_getElem? (i := 66) (by decide +kernel), List.forall_mem_cons.mpr ⟨List.mem_of_getElem? (i := 67) (by decide +kernel), List.forall_mem_cons.mpr ⟨List.mem_of_getElem? (i := 37) (by decide +kernel), List.forall_mem_cons.mpr ⟨List.mem_of_getElem? (i := 170) (by decide +kernel), List.forall_mem_cons.mpr ⟨List.mem_of_getElem? (i := 171) (by decide +kernel), List.forall_mem_cons.mpr ⟨List.mem_of_getElem? (i := 82) (by decide +kernel), List.forall_mem_cons.mpr ⟨List.mem_of_getElem? (i := 83) (by decide +kernel), List.forall_mem_cons.mpr ⟨List.mem_of_getElem? (i := 39) (by decide +kernel), fun _ h => absurd h List.not_mem_nil⟩⟩⟩⟩⟩⟩⟩⟩⟩⟩⟩⟩⟩⟩⟩⟩⟩⟩⟩⟩⟩⟩⟩⟩
theorem wsL_law_r2_i : ∀ w ∈ wsL_law_r2, w ∈ lw_tbl := List.forall_mem_cons.mpr ⟨List.mem_of_getElem? (i := 172) (by decide +kernel), List.forall_mem_cons.mpr ⟨List.mem_of_getElem? (i := 125) (by decide +kernel), List.forall_mem_cons.mpr ⟨List.mem_of_getElem? (i := 126) (by decide +kernel), List.forall_mem_cons.mpr ⟨List.mem_of_getElem? (i := 40) (by decide +kernel), List.forall_mem_cons.mpr ⟨List.mem_of_getElem? (i := 173) (by decide +kernel), List.forall_mem_cons.mpr ⟨List.mem_of_getElem? (i := 153) (by decide +kernel), List.forall_mem_cons.mpr ⟨List.mem_of_getElem? (i := 154) (by decide +kernel), List.forall_mem_cons.mpr ⟨List.mem_of_getElem? (i := 41) (by decide +kernel), List.forall_mem_cons.mpr ⟨List.mem_of_getElem? (i := 174) (by decide +kernel), List.forall_mem_cons.mpr ⟨List.mem_of_getElem? (i := 176) (by decide +kernel), List.forall_mem_cons.mpr ⟨List.mem_of_getElem? (i := 179) (by decide +kernel), List.forall_mem_cons.mpr ⟨List.mem_of_getElem? (i := 55) (by decide +kernel), List.forall_mem_cons.mpr ⟨List.mem_of_getElem? (i := 56) (by decide +kernel), List.forall_mem_cons.mpr ⟨List.mem_of_getElem? (i := 57) (by decide +kernel), List.forall_mem_cons.mpr ⟨List.mem_of_getElem? (i := 65) (by decide +kernel), List.forall_mem_cons.mpr ⟨List.mem_of_getElem? (i := 58) (by decide +kernel), List.forall_mem_cons.mpr ⟨List.mem_of_getElem? (i := 68) (by decide +kernel), List.forall_mem_cons.mpr ⟨List.mem_of_getElem? (i := 69) (by decide +kernel), List.forall_mem_cons.mpr ⟨List.mem_of_getElem? (i := 70) (by decide +kernel), List.forall_mem_cons.mpr ⟨List.mem_of_getElem? (i := 71) (by decide +kernel), List.forall_mem_cons.mpr ⟨List.mem_of_getElem? (i := 76) (by decide +kernel), List.forall_mem_cons.mpr ⟨List.mem_of_getElem? (i := 75) (by decide +kernel), List.forall_mem_cons.mpr ⟨List.mem_of_getElem? (i := 72) (by decide +kernel), List.forall_mem_cons.mpr ⟨List.mem_of_getElem? (i := 73) (by decide +kernel), fun _ h => absurd h List.not_mem_nil⟩⟩⟩⟩⟩⟩⟩⟩⟩⟩⟩⟩⟩⟩⟩⟩⟩⟩⟩⟩⟩⟩⟩⟩
theorem wsL_law_r3_i : ∀ w ∈ wsL_law_r3, w ∈ lw_tbl := List.forall_mem_cons.mpr ⟨List.mem_of_getElem? (i := 38) (by decide +kernel), List.forall_mem_cons.mpr ⟨List.mem_of_getElem? (i := 74) (by decide +kernel), List.forall_mem_cons.mpr ⟨List.mem_of_getElem? (i := 84) (by decide +kernel), List.forall_mem_cons.mpr ⟨List.mem_of_getElem? (i := 85) (by decide +kernel), List.forall_mem_cons.mpr ⟨List.mem_of_getElem? (i := 86) (by decide +kernel), List.forall_mem_cons.mpr ⟨List.mem_of_getElem? (i := 87) (by decide +kernel), List.forall_mem_cons.mpr ⟨List.mem_of_getElem? (i := 93) (by decide +kernel), List.forall_mem_cons.mpr ⟨List.mem_of_getElem? (i := 94) (by decide +kernel), List.forall_mem_cons.mpr ⟨List.mem_of_getElem? (i := 95) (by decide +kernel), List.forall_mem_cons.mpr ⟨List.mem_of_getElem? (i := 124) (by decide +kernel), List.forall_mem_cons.mpr ⟨List.mem_of_getElem? (i := 97) (by decide +kernel), List.forall_mem_cons.mpr ⟨List.mem_of_getElem? (i := 98) (by decide +kernel), List.forall_mem_cons.mpr ⟨List.mem_of_getElem? (i := 99) (by decide +kernel), List.forall_mem_cons.mpr ⟨List.mem_of_getElem? (i := 100) (by decide +kernel), List.forall_mem_cons.mpr ⟨List.mem_of_getElem? (i := 90) (by decide +kernel), List.forall_mem_cons.mpr ⟨List.mem_of_getElem? (i := 88) (by decide +kernel), List.forall_mem_cons.mpr ⟨List.mem_of_getElem? (i := 91) (by decide +kernel), List.forall_mem_cons.mpr ⟨List.mem_of_getElem? (i := 92) (by decide +kernel), List.forall_mem_cons.mpr ⟨List.mem_of_getElem? (i := 89) (by decide +kernel), List.forall_mem_cons.mpr ⟨List.mem_of_getElem? (i := 128) (by decide +kernel), List.forall_mem_cons.mpr ⟨List.mem_of_getElem? (i := 129) (by decide +kernel), List.forall_mem_cons.mpr ⟨List.mem_of_getElem? (i := 130) (by decide +kernel), List.forall_mem_cons.mpr ⟨List.mem_of_getElem? (i := 131) (by decide +kernel), List.forall_mem_cons.mpr ⟨List.mem_of_getElem? (i := 133) (by decide +kernel), fun _ h => absurd h List.not_mem_nil⟩⟩⟩⟩⟩⟩⟩⟩⟩⟩⟩⟩⟩⟩⟩⟩⟩⟩⟩⟩⟩⟩⟩⟩
theorem wsL_law_r4_i : ∀ w ∈ wsL_law_r4, w ∈ lw_tbl := List.forall_mem_cons.mpr ⟨List.mem_of_getElem? (i := 156) (by decide +kernel), List.forall_mem_cons.mpr ⟨List.mem_of_getElem? (i := 157) (by decide +kernel), List.forall_mem_cons.mpr ⟨List.mem_of_getElem? (i := 158) (by decide +kernel), List.forall_mem_cons.mpr ⟨List.mem_of_getElem? (i := 159) (by decide +kernel), List.forall_mem_cons.mpr ⟨List.mem_of_getElem? (i := 160) (by decide +kernel), List.forall_mem_cons.mpr ⟨List.mem_of_getElem? (i := 587) (by decide +kernel), List.forall_mem_cons.mpr ⟨List.mem_of_getElem? (i := 588) (by decide +kernel), List.forall_mem_cons.mpr ⟨List.mem_of_getElem? (i := 589) (by decide +kernel), List.forall_mem_cons.mpr ⟨List.mem_of_getElem? (i := 590) (by decide +kernel), List.forall_mem_cons.mpr ⟨List.mem_of_getElem? (i := 591) (by decide +kernel), List.forall_mem_cons.mpr ⟨List.mem_of_getElem? (i := 593) (by decide +kernel), List.forall_mem_cons.mpr ⟨List.mem_of_getElem? (i := 600) (by decide +kernel), List.forall_mem_cons.mpr ⟨List.mem_of_getElem? (i := 601) (by decide +kernel), List.forall_mem_cons.mpr ⟨List.mem_of_getElem? (i := 602) (by decide +kernel), List.forall_mem_cons.mpr ⟨List.mem_of_getElem? (i := 603) (by decide +kernel), List.forall_mem_cons.mpr ⟨List.mem_of_getElem? (i := 606) (by decide +kernel), List.forall_mem_cons.mpr ⟨List.mem_of_getElem? (i := 607) (by decide +kernel), List.forall_mem_cons.mpr ⟨List.mem_of_getElem? (i := 613) (by decide +kernel), List.forall_mem_cons.mpr ⟨List.mem_of_getElem? (i := 609) (by decide +kernel), List.forall_mem_cons.mpr ⟨List.mem_of_getElem? (i := 203) (by decide +kernel), List.forall_mem_cons.mpr ⟨List.mem_of_getElem? (i := 204) (by decide +kernel), List.forall_mem_cons.mpr ⟨List.mem_of_getElem? (i := 205) (by decide +kernel), List.forall_mem_cons.mpr ⟨List.mem_of_getElem? (i := 206) (by decide +kernel), List.forall_mem_cons.mpr ⟨List.mem_of_getElem? (i := 207) (by decide +kernel), fun _ h => absurd h List.not_mem_nil⟩⟩⟩⟩⟩⟩⟩⟩⟩⟩⟩⟩⟩⟩⟩⟩⟩⟩⟩⟩⟩⟩⟩⟩
theorem wsL_law_r5_i : ∀ w ∈ wsL_law_r5, w ∈ lw_tbl := List.forall_mem_cons.mpr ⟨List.mem_of_getElem? (i := 208) (by decide +kernel), List.forall_mem_cons.mpr ⟨List.mem_of_getElem? (i := 209) (by decide +kernel), List.forall_mem_cons.mpr ⟨List.mem_of_getElem? (i := 210) (by decide +kernel), List.forall_mem_cons.mpr ⟨List.mem_of_getElem? (i := 132) (by decide +kernel), List.forall_mem_cons.mpr ⟨List.mem_of_getElem? (i := 211) (by decide +kernel), List.forall_mem_cons.mpr ⟨List.mem_of_getElem? (i := 212) (by decide +kernel), List.forall_mem_cons.mpr ⟨List.mem_of_getElem? (i := 213) (by decide +kernel), List.forall_mem_cons.mpr ⟨List.mem_of_getElem? (i := 214) (by decide +kernel), List.forall_mem_cons.mpr ⟨List.mem_of_getElem? (i := 664) (by decide +kernel), List.forall_mem_cons.mpr ⟨List.mem_of_getElem? (i := 665) (by decide +kernel), List.forall_mem_cons.mpr ⟨List.mem_of_getElem? (i := 666) (by decide +kernel), List.forall_mem_cons.mpr ⟨List.mem_of_getElem? (i := 667) (by decide +kernel), List.forall_mem_cons.mpr ⟨List.mem_of_getElem? (i := 668) (by decide +kernel), List.forall_mem_cons.mpr ⟨List.mem_of_getElem? (i := 592) (by decide +kernel), List.forall_mem_cons.mpr ⟨List.mem_of_getElem? (i := 669) (by decide +kernel), List.forall_mem_cons.mpr ⟨List.mem_of_getElem? (i := 670) (by decide +kernel), List.forall_mem_cons.mpr ⟨List.mem_of_getElem? (i := 671) (by decide +kernel), List.forall_mem_cons.mpr ⟨List.mem_of_getElem? (i := 215) (by decide +kernel), List.forall_mem_cons.mpr ⟨List.mem_of_getElem? (i := 216) (by decide +kernel), List.forall_mem_cons.mpr ⟨List.mem_of_getElem? (i := 217) (by decide +kernel), List.forall_mem_cons.mpr ⟨List.mem_of_getElem? (i := 218) (by decide +kernel), List.forall_mem_cons.mpr ⟨List.mem_of_getElem? (i := 219) (by decide +kernel), List.forall_mem_cons.mpr ⟨List.mem_of_getElem? (i := 220) (by decide +kernel), List.forall_mem_cons.mpr ⟨List.mem_of_getElem? (i := 221) (by decide +kernel), fun _ h => absurd h List.not_mem_nil⟩⟩⟩⟩⟩⟩⟩⟩⟩⟩⟩⟩⟩⟩⟩⟩⟩⟩⟩⟩⟩⟩⟩⟩
theorem wsL_law_r6_i : ∀ w ∈ wsL_law_r6, w ∈ lw_tbl := List.forall_mem_cons.mpr ⟨List.mem_of_getElem? (i := 222) (by decide +kernel), List.forall_mem_cons.mpr ⟨List.mem_of_getElem? (i := 672) (by decide +kernel), List.forall_mem_cons.mpr ⟨List.mem_of_getElem? (i := 673) (by decide +kernel), List.forall_mem_cons.mpr ⟨List.mem_of_getElem? (i := 674) (by decide +kernel), List.forall_mem_cons.mpr ⟨List.mem_of_getElem? (i := 675) (by decide +kernel), List.forall_mem_cons.mpr ⟨List.mem_of_getElem? (i := 223) (by decide +kernel), List.forall_mem_cons.mpr ⟨List.mem_of_getElem? (i := 224) (by decide +kernel), List.forall_mem_cons.mpr ⟨List.mem_of_getElem? (i := 225) (by decide +kernel), List.forall_mem_cons.mpr ⟨List.mem_of_getElem? (i := 226) (by decide +kernel), List.forall_mem_cons.mpr ⟨List.mem_of_getElem? (i := 227) (by decide +kernel), List.forall_mem_cons.mpr ⟨List.mem_of_getElem? (i := 228) (by decide +kernel), List.forall_mem_cons.mpr ⟨List.mem_of_getElem? (i := 229) (by decide +kernel), List.forall_mem_cons.mpr ⟨List.mem_of_getElem? (i := 230) (by decide +kernel), List.forall_mem_cons.mpr ⟨List.mem_of_getElem? (i := 134) (by decide +kernel), List.forall_mem_cons.mpr ⟨List.mem_of_getElem? (i := 136) (by decide +kernel), List.forall_mem_cons.mpr ⟨List.mem_of_getElem? (i := 137) (by decide +kernel), List.forall_mem_cons.mpr ⟨List.mem_of_getElem? (i := 231) (by decide +kernel), List.forall_mem_cons.mpr ⟨List.mem_of_getElem? (i := 233) (by decide +kernel), List.forall_mem_cons.mpr ⟨List.mem_of_getElem? (i := 0) (by decide +kernel), List.forall_mem_cons.mpr ⟨List.mem_of_getElem? (i := 234) (by decide +kernel), List.forall_mem_cons.mpr ⟨List.mem_of_getElem? (i := 235) (by decide +kernel), List.forall_mem_cons.mpr ⟨List.mem_of_getElem? (i := 237) (by decide +kernel), List.forall_mem_cons.mpr ⟨List.mem_of_getElem? (i := 1) (by decide +kernel), List.forall_mem_cons.mpr ⟨List.mem_of_getElem? (i := 238) (by decide +kernel), fun _ h => absurd h List.not_mem_nil⟩⟩⟩⟩⟩⟩⟩⟩⟩⟩⟩⟩⟩⟩⟩⟩⟩⟩⟩⟩⟩⟩⟩⟩
theorem wsL_law_r7_i : ∀ w ∈ wsL_law_r7, w ∈ lw_tbl := List.forall_mem_cons.mpr ⟨List.mem_of_getElem? (i := 135) (by decide +kernel), List.forall_mem_cons.mpr ⟨List.mem_of_getElem? (i := 239) (by decide +kernel), List.forall_mem_cons.mpr ⟨List.mem_of_getElem? (i := 241) (by decide +kernel), List.forall_mem_cons.mpr ⟨List.mem_of_getElem? (i := 2) (by decide +kernel), List.forall_mem_cons.mpr ⟨List.mem_of_getElem? (i := 242) (by decide +kernel), List.forall_mem_cons.mpr ⟨List.mem_of_getElem? (i := 676) (by decide +kernel), List.forall_mem_cons.mpr ⟨List.mem_of_getElem? (i := 677) (by decide +kernel), List.forall_mem_cons.mpr ⟨List.mem_of_getElem? (i := 678) (by decide +kernel), List.forall_mem_cons.mpr ⟨List.mem_of_getElem? (i := 679) (by decide +kernel), List.forall_mem_cons.mpr ⟨List.mem_of_getElem? (i := 680) (by decide +kernel), List.forall_mem_cons.mpr ⟨List.mem_of_getElem? (i := 682) (by decide +kernel), List.forall_mem_cons.mpr ⟨List.mem_of_getElem? (i := 12) (by decide +kernel), List.forall_mem_cons.mpr ⟨List.mem_of_getElem? (i := 683) (by decide +kernel), List.forall_mem_cons.mpr ⟨List.mem_of_getElem? (i := 594) (by decide +kernel), List.forall_mem_cons.mpr ⟨List.mem_of_getElem? (i := 596) (by decide +kernel), List.forall_mem_cons.mpr ⟨List.mem_of_getElem? (i := 684) (by decide +kernel), List.forall_mem_cons.mpr ⟨List.mem_of_getElem? (i := 686) (by decide +kernel), List.forall_mem_cons.mpr ⟨List.mem_of_getElem? (i := 13) (by decide +kernel), List.forall_mem_cons.mpr ⟨List.mem_of_getElem? (i := 687) (by decide +kernel), List.forall_mem_cons.mpr ⟨List.mem_of_getElem? (i := 595) (by decide +kernel), List.forall_mem_cons.mpr ⟨List.mem_of_getElem? (i := 688) (by decide +kernel), List.forall_mem_cons.mpr ⟨List.mem_of_getElem? (i := 690) (by decide +kernel), List.forall_mem_cons.mpr ⟨List.mem_of_getElem? (i := 14) (by decide +kernel), List.forall_mem_cons.mpr ⟨List.mem_of_getElem? (i := 691) (by decide +kernel), fun _ h => absurd h List.not_mem_nil⟩⟩⟩⟩⟩⟩⟩⟩⟩⟩⟩⟩⟩⟩⟩⟩⟩⟩⟩⟩⟩⟩⟩⟩
theorem wsL_law_r8_i : ∀ w ∈ wsL_law_r8, w ∈ lw_tbl := List.forall_mem_cons.mpr ⟨List.mem_of_getElem? (i := 692) (by decide +kernel), List.forall_mem_cons.mpr ⟨List.mem_of_getElem? (i := 243) (by decide +kernel), List.forall_mem_cons.mpr ⟨List.mem_of_getElem? (i := 244) (by decide +kernel), List.forall_mem_cons.mpr ⟨List.mem_of_getElem? (i := 245) (by decide +kernel), List.forall_mem_cons.mpr ⟨List.mem_of_getElem? (i := 246) (by decide +kernel), List.forall_mem_cons.mpr ⟨List.mem_of_getElem? (i := 247) (by decide +kernel), List.forall_mem_cons.mpr ⟨List.mem_of_getElem? (i := 248) (by decide +kernel), List.forall_mem_cons.mpr ⟨List.mem_of_getElem? (i := 249) (by decide +kernel), List.forall_mem_cons.mpr ⟨List.mem_of_getElem? (i := 250) (by decide +kernel), List.forall_mem_cons.mpr ⟨List.mem_of_getElem? (i := 251) (by decide +kernel), List.forall_mem_cons.mpr ⟨List.mem_of_getElem? (i := 252) (by decide +kernel), List.forall_mem_cons.mpr ⟨List.mem_of_getElem? (i := 253) (by decide +kernel), List.forall_mem_cons.mpr ⟨List.mem_of_getElem? (i := 254) (by decide +kernel), List.forall_mem_cons.mpr ⟨List.mem_of_getElem? (i := 255) (by decide +kernel), List.forall_mem_cons.mpr ⟨List.mem_of_getElem? (i := 256) (by decide +kernel), List.forall_mem_cons.mpr ⟨List.mem_of_getElem? (i := 257) (by decide +kernel), List.forall_mem_cons.mpr ⟨List.mem_of_getElem? (i := 258) (by decide +kernel), List.forall_mem_cons.mpr ⟨List.mem_of_getElem? (i := 259) (by decide +kernel), List.forall_mem_cons.mpr ⟨List.mem_of_getElem? (i := 260) (by decide +kernel), List.forall_mem_cons.mpr ⟨List.mem_of_getElem? (i := 261) (by decide +kernel), List.forall_mem_cons.mpr ⟨List.mem_of_getElem? (i := 262) (by decide +kernel), List.forall_mem_cons.mpr ⟨List.mem_of_getElem? (i := 263) (by decide +kernel), List.forall_mem_cons.mpr ⟨List.mem_of_getElem? (i := 264) (by decide +kernel), List.forall_mem_cons.mpr ⟨List.mem_of_getElem? (i := 265) (by decide +kernel), fun _ h => absurd h List.not_mem_nil⟩⟩⟩⟩⟩⟩⟩⟩⟩⟩⟩⟩⟩⟩⟩⟩⟩⟩⟩⟩⟩⟩⟩⟩
theorem wsL_law_r9_i : ∀ w ∈ wsL_law_r9, w ∈ lw_tbl := List.forall_mem_cons.mpr ⟨List.mem_of_getElem? (i := 266) (by decide +kernel), List.forall_mem_cons.mpr ⟨List.mem_of_getElem? (i := 267) (by decide +kernel), List.forall_mem_cons.mpr ⟨List.mem_of_getElem? (i := 268) (by decide +kernel), List.forall_mem_cons.mpr ⟨List.mem_of_getElem? (i := 269) (by decide +kernel), List.forall_mem_cons.mpr ⟨List.mem_of_getElem? (i := 270) (by decide +kernel), List.forall_mem_cons.mpr ⟨List.mem_of_getElem? (i := 271) (by decide +kernel), List.forall_mem_cons.mpr ⟨List.mem_of_getElem? (i := 272) (by decide +kernel), List.forall_mem_cons.mpr ⟨List.mem_of_getElem? (i := 273) (by decide +kernel), List.forall_mem_cons.mpr ⟨List.mem_of_getElem? (i := 274) (by decide +kernel), List.forall_mem_cons.mpr ⟨List.mem_of_getElem? (i := 276) (by decide +kernel), List.forall_mem_cons.mpr ⟨List.mem_of_getElem? (i := 277) (by decide +kernel), List.forall_mem_cons.mpr ⟨List.mem_of_getElem? (i := 279) (by decide +kernel), List.forall_mem_cons.mpr ⟨List.mem_of_getElem? (i := 280) (by decide +kernel), List.forall_mem_cons.mpr ⟨List.mem_of_getElem? (i := 281) (by decide +kernel), List.forall_mem_cons.mpr ⟨List.mem_of_getElem? (i := 282) (by decide +kernel), List.forall_mem_cons.mpr ⟨List.mem_of_getElem? (i := 283) (by decide +kernel), List.forall_mem_cons.mpr ⟨List.mem_of_getElem? (i := 284) (by decide +kernel), List.forall_mem_cons.mpr ⟨List.mem_of_getElem? (i := 59) (by decide +kernel), List.forall_mem_cons.mpr ⟨List.mem_of_getElem? (i := 286) (by decide +kernel), List.forall_mem_cons.mpr ⟨List.mem_of_getElem? (i := 287) (by decide +kernel), List.forall_mem_cons.mpr ⟨List.mem_of_getElem? (i := 288) (by decide +kernel), List.forall_mem_cons.mpr ⟨List.mem_of_getElem? (i := 291) (by decide +kernel), List.forall_mem_cons.mpr ⟨List.mem_of_getElem? (i := 293) (by decide +kernel), List.forall_mem_cons.mpr ⟨List.mem_of_getElem? (i := 3) (by decide +kernel), fun _ h => absurd h List.not_mem_nil⟩⟩⟩⟩⟩⟩⟩⟩⟩⟩⟩⟩⟩⟩⟩⟩⟩⟩⟩⟩⟩⟩⟩⟩
theorem wsL_law_r10_i : ∀ w ∈ wsL_law_r10, w ∈ lw_tbl := List.forall_mem_cons.mpr ⟨List.mem_of_getElem? (i := 294) (by decide +kernel), List.forall_mem_cons.mpr ⟨List.mem_of_getElem? (i := 295) (by decide +kernel), List.forall_mem_cons.mpr ⟨List.mem_of_getElem? (i := 296) (by decide +kernel), List.forall_mem_cons.mpr ⟨List.mem_of_getElem? (i := 297) (by decide +kernel), List.forall_mem_cons.mpr ⟨List.mem_of_getElem? (i := 298) (by decide +kernel), List.forall_mem_cons.mpr ⟨List.mem_of_getElem? (i := 303) (by decide +kernel), List.forall_mem_cons.mpr ⟨List.mem_of_getElem? (i := 299) (by decide +kernel), List.forall_mem_cons.mpr ⟨List.mem_of_getElem? (i := 300) (by decide +kernel), List.forall_mem_cons.mpr ⟨List.mem_of_getElem? (i := 301) (by decide +kernel), List.forall_mem_cons.mpr ⟨List.mem_of_getElem? (i := 302) (by decide +kernel), List.forall_mem_cons.mpr ⟨List.mem_of_getElem? (i := 305) (by decide +kernel), List.forall_mem_cons.mpr ⟨List.mem_of_getElem? (i := 306) (by decide +kernel), List.forall_mem_cons.mpr ⟨List.mem_of_getElem? (i := 307) (by decide +kernel), List.forall_mem_cons.mpr ⟨List.mem_of_getElem? (i := 308) (by decide +kernel), List.forall_mem_cons.mpr ⟨List.mem_of_getElem? (i := 309) (by decide +kernel), List.forall_mem_cons.mpr ⟨List.mem_of_getElem? (i := 310) (by decide +kernel), List.forall_mem_cons.mpr ⟨List.mem_of_getElem? (i := 311) (by decide +kernel), List.forall_mem_cons.mpr ⟨List.mem_of_getElem? (i := 312) (by decide +kernel), List.forall_mem_cons.mpr ⟨List.mem_of_getElem? (i := 313) (by decide +kernel), List.forall_mem_cons.mpr ⟨List.mem_of_getElem? (i := 314) (by decide +kernel), List.forall_mem_cons.mpr ⟨List.mem_of_getElem? (i := 316) (by decide +kernel), List.forall_mem_cons.mpr ⟨List.mem_of_getElem? (i := 4) (by decide +kernel), List.forall_mem_cons.mpr ⟨List.mem_of_getElem? (i := 317) (by decide +kernel), List.forall_mem_cons.mpr ⟨List.mem_of_getElem? (i := 318) (by decide +kernel), fun _ h => absurd h List.not_mem_nil⟩⟩⟩⟩⟩⟩⟩⟩⟩⟩⟩⟩⟩⟩⟩⟩⟩⟩⟩⟩⟩⟩⟩⟩
theorem wsL_law_r11_i : ∀ w ∈ wsL_law_r11, w ∈ lw_tbl := List.forall_mem_cons.mpr ⟨List.mem_of_getElem? (i := 320) (by decide +kernel), List.forall_mem_cons.mpr ⟨List.mem_of_getElem? (i := 5) (by decide +kernel), List.forall_mem_cons.mpr ⟨List.mem_of_getElem? (i := 321) (by decide +kernel), List.forall_mem_cons.mpr ⟨List.mem_of_getElem? (i := 322) (by decide +kernel), List.forall_mem_cons.mpr ⟨List.mem_of_getElem? (i := 323) (by decide +kernel), List.forall_mem_cons.mpr ⟨List.mem_of_getElem? (i := 324) (by decide +kernel), List.forall_mem_cons.mpr ⟨List.mem_of_getElem? (i := 325) (by decide +kernel), List.forall_mem_cons.mpr ⟨List.mem_of_getElem? (i := 326) (by decide +kernel), List.forall_mem_cons.mpr ⟨List.mem_of_getElem? (i := 328) (by decide +kernel), List.forall_mem_cons.mpr ⟨List.mem_of_getElem? (i := 6) (by decide +kernel), List.forall_mem_cons.mpr ⟨List.mem_of_getElem? (i := 329) (by decide +kernel), List.forall_mem_cons.mpr ⟨List.mem_of_getElem? (i := 700) (by decide +kernel), List.forall_mem_cons.mpr ⟨List.mem_of_getElem? (i := 701) (by decide +kernel), List.forall_mem_cons.mpr ⟨List.mem_of_getElem? (i := 702) (by decide +kernel), List.forall_mem_cons.mpr ⟨List.mem_of_getElem? (i := 703) (by decide +kernel), List.forall_mem_cons.mpr ⟨List.mem_of_getElem? (i := 598) (by decide +kernel), List.forall_mem_cons.mpr ⟨List.mem_of_getElem? (i := 704) (by decide +kernel), List.forall_mem_cons.mpr ⟨List.mem_of_getElem? (i := 706) (by decide +kernel), List.forall_mem_cons.mpr ⟨List.mem_of_getElem? (i := 15) (by decide +kernel), List.forall_mem_cons.mpr ⟨List.mem_of_getElem? (i := 707) (by decide +kernel), List.forall_mem_cons.mpr ⟨List.mem_of_getElem? (i := 708) (by decide +kernel), List.forall_mem_cons.mpr ⟨List.mem_of_getElem? (i := 713) (by decide +kernel), List.forall_mem_cons.mpr ⟨List.mem_of_getElem? (i := 714) (by decide +kernel), List.forall_mem_cons.mpr ⟨List.mem_of_getElem? (i := 715) (by decide +kernel), fun _ h => absurd h List.not_mem_nil⟩⟩⟩⟩⟩⟩⟩⟩⟩⟩⟩⟩⟩⟩⟩⟩⟩⟩⟩⟩⟩⟩⟩⟩
theorem wsL_law_r12_i : ∀ w ∈ wsL_law_r12, w ∈ lw_tbl := List.forall_mem_cons.mpr ⟨List.mem_of_getElem? (i := 716) (by decide +kernel), List.forall_mem_cons.mpr ⟨List.mem_of_getElem? (i := 709) (by decide +kernel), List.forall_mem_cons.mpr ⟨List.mem_of_getElem? (i := 711) (by decide +kernel), List.forall_mem_cons.mpr ⟨List.mem_of_getElem? (i := 16) (by decide +kernel), List.forall_mem_cons.mpr ⟨List.mem_of_getElem? (i := 712) (by decide +kernel), List.forall_mem_cons.mpr ⟨List.mem_of_getElem? (i := 597) (by decide +kernel), List.forall_mem_cons.mpr ⟨List.mem_of_getElem? (i := 717) (by decide +kernel), List.forall_mem_cons.mpr ⟨List.mem_of_getElem? (i := 719) (by decide +kernel), List.forall_mem_cons.mpr ⟨List.mem_of_getElem? (i := 17) (by decide +kernel), List.forall_mem_cons.mpr ⟨List.mem_of_getElem? (i := 720) (by decide +kernel), List.forall_mem_cons.mpr ⟨List.mem_of_getElem? (i := 721) (by decide +kernel), List.forall_mem_cons.mpr ⟨List.mem_of_getElem? (i := 723) (by decide +kernel), List.forall_mem_cons.mpr ⟨List.mem_of_getElem? (i := 18) (by decide +kernel), List.forall_mem_cons.mpr ⟨List.mem_of_getElem? (i := 724) (by decide +kernel), List.forall_mem_cons.mpr ⟨List.mem_of_getElem? (i := 725) (by decide +kernel), List.forall_mem_cons.mpr ⟨List.mem_of_getElem? (i := 727) (by decide +kernel), List.forall_mem_cons.mpr ⟨List.mem_of_getElem? (i := 19) (by decide +kernel), List.forall_mem_cons.mpr ⟨List.mem_of_getElem? (i := 728) (by decide +kernel), List.forall_mem_cons.mpr ⟨List.mem_of_getElem? (i := 729) (by decide +kernel), List.forall_mem_cons.mpr ⟨List.mem_of_getElem? (i := 730) (by decide +kernel), List.forall_mem_cons.mpr ⟨List.mem_of_getElem? (i := 731) (by decide +kernel), List.forall_mem_cons.mpr ⟨List.mem_of_getElem? (i := 732) (by decide +kernel), List.forall_mem_cons.mpr ⟨List.mem_of_getElem? (i := 733) (by decide +kernel), List.forall_mem_cons.mpr ⟨List.mem_of_getElem? (i := 734) (by decide +kernel), fun _ h => absurd h List.not_mem_nil⟩⟩⟩⟩⟩⟩⟩⟩⟩⟩⟩⟩⟩⟩⟩⟩⟩⟩⟩⟩⟩⟩⟩⟩
theorem wsL_law_r13_i : ∀ w ∈ wsL_law_r13, w ∈ lw_tbl := List.forall_mem_cons.mpr ⟨List.mem_of_getElem? (i := 735) (by decide +kernel), List.forall_mem_cons.mpr ⟨List.mem_of_getElem? (i := 736) (by decide +kernel), List.forall_mem_cons.mpr ⟨List.mem_of_getElem? (i := 737) (by decide +kernel), List.forall_mem_cons.mpr ⟨List.mem_of_getElem? (i := 738) (by decide +kernel), List.forall_mem_cons.mpr ⟨List.mem_of_getElem? (i := 740) (by decide +kernel), List.forall_mem_cons.mpr ⟨List.mem_of_getElem? (i := 20) (by decide +kernel), List.forall_mem_cons.mpr ⟨List.mem_of_getElem? (i := 741) (by decide +kernel), List.forall_mem_cons.mpr ⟨List.mem_of_getElem? (i := 330) (by decide +kernel), List.forall_mem_cons.mpr ⟨List.mem_of_getElem? (i := 331) (by decide +kernel), List.forall_mem_cons.mpr ⟨List.mem_of_getElem? (i := 332) (by decide +kernel), List.forall_mem_cons.mpr ⟨List.mem_of_getElem? (i := 333) (by decide +kernel), List.forall_mem_cons.mpr ⟨List.mem_of_getElem? (i := 334) (by decide +kernel), List.forall_mem_cons.mpr ⟨List.mem_of_getElem? (i := 335) (by decide +kernel), List.forall_mem_cons.mpr ⟨List.mem_of_getElem? (i := 336) (by decide +kernel), List.forall_mem_cons.mpr ⟨List.mem_of_getElem? (i := 337) (by decide +kernel), List.forall_mem_cons.mpr ⟨List.mem_of_getElem? (i := 338) (by decide +kernel), List.forall_mem_cons.mpr ⟨List.mem_of_getElem? (i := 339) (by decide +kernel), List.forall_mem_cons.mpr ⟨List.mem_of_getElem? (i := 340) (by decide +kernel), List.forall_mem_cons.mpr ⟨List.mem_of_getElem? (i := 693) (by decide +kernel), List.forall_mem_cons.mpr ⟨List.mem_of_getElem? (i := 694) (by decide +kernel), List.forall_mem_cons.mpr ⟨List.mem_of_getElem? (i := 695) (by decide +kernel), List.forall_mem_cons.mpr ⟨List.mem_of_getElem? (i := 696) (by decide +kernel), List.forall_mem_cons.mpr ⟨List.mem_of_getElem? (i := 697) (by decide +kernel), List.forall_mem_cons.mpr ⟨List.mem_of_getElem? (i := 698) (by decide +kernel), fun _ h => absurd h List.not_mem_nil⟩⟩⟩⟩⟩⟩⟩⟩⟩⟩⟩⟩⟩⟩⟩⟩⟩⟩⟩⟩⟩⟩⟩⟩
theorem wsL_law_r14_i : ∀ w ∈ wsL_law_r14, w ∈ lw_tbl := List.forall_mem_cons.mpr ⟨List.mem_of_getElem? (i := 699) (by decide +kernel), List.forall_mem_cons.mpr ⟨List.mem_of_getElem? (i := 341) (by decide +kernel), List.forall_mem_cons.mpr ⟨List.mem_of_getElem? (i := 342) (by decide +kernel), List.forall_mem_cons.mpr ⟨List.mem_of_getElem? (i := 343) (by decide +kernel), List.forall_mem_cons.mpr ⟨List.mem_of_getElem? (i := 344) (by decide +kernel), List.forall_mem_cons.mpr ⟨List.mem_of_getElem? (i := 345) (by decide +kernel), List.forall_mem_cons.mpr ⟨List.mem_of_getElem? (i := 346) (by decide +kernel), List.forall_mem_cons.mpr ⟨List.mem_of_getElem? (i := 347) (by decide +kernel), List.forall_mem_cons.mpr ⟨List.mem_of_getElem? (i := 348) (by decide +kernel), List.forall_mem_cons.mpr ⟨List.mem_of_getElem? (i := 349) (by decide +kernel), List.forall_mem_cons.mpr ⟨List.mem_of_getElem? (i := 350) (by decide +kernel), List.forall_mem_cons.mpr ⟨List.mem_of_getElem? (i := 351) (by decide +kernel), List.forall_mem_cons.mpr ⟨List.mem_of_getElem? (i := 352) (by decide +kernel), List.forall_mem_cons.mpr ⟨List.mem_of_getElem? (i := 353) (by decide +kernel), List.forall_mem_cons.mpr ⟨List.mem_of_getElem? (i := 354) (by decide +kernel), List.forall_mem_cons.mpr ⟨List.mem_of_getElem? (i := 355) (by decide +kernel), List.forall_mem_cons.mpr ⟨List.mem_of_getElem? (i := 356) (by decide +kernel), List.forall_mem_cons.mpr ⟨List.mem_of_getElem? (i := 357) (by decide +kernel), List.forall_mem_cons.mpr ⟨List.mem_of_getElem? (i := 359) (by decide +kernel), List.forall_mem_cons.mpr ⟨List.mem_of_getElem? (i := 7) (by decide +kernel), List.forall_mem_cons.mpr ⟨List.mem_of_getElem? (i := 360) (by decide +kernel), List.forall_mem_cons.mpr ⟨List.mem_of_getElem? (i := 742) (by decide +kernel), List.forall_mem_cons.mpr ⟨List.mem_of_getElem? (i := 743) (by decide +kernel), List.forall_mem_cons.mpr ⟨List.mem_of_getElem? (i := 744) (by decide +kernel), fun _ h => absurd h List.not_mem_nil⟩⟩⟩⟩⟩⟩⟩⟩⟩⟩⟩⟩⟩⟩⟩⟩⟩⟩⟩⟩⟩⟩⟩⟩
theorem wsL_law_r15_i : ∀ w ∈ wsL_law_r15, w ∈ lw_tbl := List.forall_mem_cons.mpr ⟨List.mem_of_getElem? (i := 745) (by decide +kernel), List.forall_mem_cons.mpr ⟨List.mem_of_getElem? (i := 746) (by decide +kernel), List.forall_mem_cons.mpr ⟨List.mem_of_getElem? (i := 748) (by decide +kernel), List.forall_mem_cons.mpr ⟨List.mem_of_getElem? (i := 21) (by decide +kernel), List.forall_mem_cons.mpr ⟨List.mem_of_getElem? (i := 749) (by decide +kernel), List.forall_mem_cons.mpr ⟨List.mem_of_getElem? (i := 750) (by decide +kernel), List.forall_mem_cons.mpr ⟨List.mem_of_getElem? (i := 751) (by decide +kernel), List.forall_mem_cons.mpr ⟨List.mem_of_getElem? (i := 752) (by decide +kernel), List.forall_mem_cons.mpr ⟨List.mem_of_getElem? (i := 753) (by decide +kernel), List.forall_mem_cons.mpr ⟨List.mem_of_getElem? (i := 755) (by decide +kernel), List.forall_mem_cons.mpr ⟨List.mem_of_getElem? (i := 22) (by decide +kernel), List.forall_mem_cons.mpr ⟨List.mem_of_getElem? (i := 756) (by decide +kernel), List.forall_mem_cons.mpr ⟨List.mem_of_getElem? (i := 757) (by decide +kernel), List.forall_mem_cons.mpr ⟨List.mem_of_getElem? (i := 758) (by decide +kernel), List.forall_mem_cons.mpr ⟨List.mem_of_getElem? (i := 759) (by decide +kernel), List.forall_mem_cons.mpr ⟨List.mem_of_getElem? (i := 361) (by decide +kernel), List.forall_mem_cons.mpr ⟨List.mem_of_getElem? (i := 362) (by decide +kernel), List.forall_mem_cons.mpr ⟨List.mem_of_getElem? (i := 363) (by decide +kernel), List.forall_mem_cons.mpr ⟨List.mem_of_getElem? (i := 364) (by decide +kernel), List.forall_mem_cons.mpr ⟨List.mem_of_getElem? (i := 365) (by decide +kernel), List.forall_mem_cons.mpr ⟨List.mem_of_getElem? (i := 760) (by decide +kernel), List.forall_mem_cons.mpr ⟨List.mem_of_getElem? (i := 761) (by decide +kernel), List.forall_mem_cons.mpr ⟨List.mem_of_getElem? (i := 762) (by decide +kernel), List.forall_mem_cons.mpr ⟨List.mem_of_getElem? (i := 763) (by decide +kernel), fun _ h => absurd h List.not_mem_nil⟩⟩⟩⟩⟩⟩⟩⟩⟩⟩⟩⟩⟩⟩⟩⟩⟩⟩⟩⟩⟩⟩⟩⟩
theorem wsL_law_r16_i : ∀ w ∈ wsL_law_r16, w ∈ lw_tbl := List.forall_mem_cons.mpr ⟨List.mem_of_getElem? (i := 366) (by decide +kernel), List.forall_mem_cons.mpr ⟨List.mem_of_getElem? (i := 367) (by decide +kernel), List.forall_mem_cons.mpr ⟨List.mem_of_getElem? (i := 368) (by decide +kernel), List.forall_mem_cons.mpr ⟨List.mem_of_getElem? (i := 369) (by decide +kernel), List.forall_mem_cons.mpr ⟨List.mem_of_getElem? (i := 370) (by decide +kernel), List.forall_mem_cons.mpr ⟨List.mem_of_getElem? (i := 764) (by decide +kernel), List.forall_mem_cons.mpr ⟨List.mem_of_getElem? (i := 765) (by decide +kernel), List.forall_mem_cons.mpr ⟨List.mem_of_getElem? (i := 766) (by decide +kernel), List.forall_mem_cons.mpr ⟨List.mem_of_getElem? (i := 767) (by decide +kernel), List.forall_mem_cons.mpr ⟨List.mem_of_getElem? (i := 371) (by decide +kernel), List.forall_mem_cons.mpr ⟨List.mem_of_getElem? (i := 372) (by decide +kernel), List.forall_mem_cons.mpr ⟨List.mem_of_getElem? (i := 373) (by decide +kernel), List.forall_mem_cons.mpr ⟨List.mem_of_getElem? (i := 374) (by decide +kernel), List.forall_mem_cons.mpr ⟨List.mem_of_getElem? (i := 175) (by decide +kernel), List.forall_mem_cons.mpr ⟨List.mem_of_getElem? (i := 768) (by decide +kernel), List.forall_mem_cons.mpr ⟨List.mem_of_getElem? (i := 769) (by decide +kernel), List.forall_mem_cons.mpr ⟨List.mem_of_getElem? (i := 770) (by decide +kernel), List.forall_mem_cons.mpr ⟨List.mem_of_getElem? (i := 771) (by decide +kernel), List.forall_mem_cons.mpr ⟨List.mem_of_getElem? (i := 599) (by decide +kernel), List.forall_mem_cons.mpr ⟨List.mem_of_getElem? (i := 375) (by decide +kernel), List.forall_mem_cons.mpr ⟨List.mem_of_getElem? (i := 376) (by decide +kernel), List.forall_mem_cons.mpr ⟨List.mem_of_getElem? (i := 377) (by decide +kernel), List.forall_mem_cons.mpr ⟨List.mem_of_getElem? (i := 378) (by decide +kernel), List.forall_mem_cons.mpr ⟨List.mem_of_getElem? (i := 379) (by decide +kernel), fun _ h => absurd h List.not_mem_nil⟩⟩⟩⟩⟩⟩⟩⟩⟩⟩⟩⟩⟩⟩⟩⟩⟩⟩⟩⟩⟩⟩⟩⟩
theorem wsL_law_r17_i : ∀ w ∈ wsL_law_r17, w ∈ lw_tbl := List.forall_mem_cons.mpr ⟨List.mem_of_getElem? (i := 380) (by decide +kernel), List.forall_mem_cons.mpr ⟨List.mem_of_getElem? (i := 381) (by decide +kernel), List.forall_mem_cons.mpr ⟨List.mem_of_getElem? (i := 382) (by decide +kernel), List.forall_mem_cons.mpr ⟨List.mem_of_getElem? (i := 772) (by decide +kernel), List.forall_mem_cons.mpr ⟨List.mem_of_getElem? (i := 773) (by decide +kernel), List.forall_mem_cons.mpr ⟨List.mem_of_getElem? (i := 774) (by decide +kernel), List.forall_mem_cons.mpr ⟨List.mem_of_getElem? (i := 775) (by decide +kernel), List.forall_mem_cons.mpr ⟨List.mem_of_getElem? (i := 383) (by decide +kernel), List.forall_mem_cons.mpr ⟨List.mem_of_getElem? (i := 384) (by decide +kernel), List.forall_mem_cons.mpr ⟨List.mem_of_getElem? (i := 385) (by decide +kernel), List.forall_mem_cons.mpr ⟨List.mem_of_getElem? (i := 386) (by decide +kernel), List.forall_mem_cons.mpr ⟨List.mem_of_getElem? (i := 387) (by decide +kernel), List.forall_mem_cons.mpr ⟨List.mem_of_getElem? (i := 388) (by decide +kernel), List.forall_mem_cons.mpr ⟨List.mem_of_getElem? (i := 389) (by decide +kernel), List.forall_mem_cons.mpr ⟨List.mem_of_getElem? (i := 390) (by decide +kernel), List.forall_mem_cons.mpr ⟨List.mem_of_getElem? (i := 391) (by decide +kernel), List.forall_mem_cons.mpr ⟨List.mem_of_getElem? (i := 392) (by decide +kernel), List.forall_mem_cons.mpr ⟨List.mem_of_getElem? (i := 393) (by decide +kernel), List.forall_mem_cons.mpr ⟨List.mem_of_getElem? (i := 394) (by decide +kernel), List.forall_mem_cons.mpr ⟨List.mem_of_getElem? (i := 395) (by decide +kernel), List.forall_mem_cons.mpr ⟨List.mem_of_getElem? (i := 396) (by decide +kernel), List.forall_mem_cons.mpr ⟨List.mem_of_getElem? (i := 397) (by decide +kernel), List.forall_mem_cons.mpr ⟨List.mem_of_getElem? (i := 398) (by decide +kernel), List.forall_mem_cons.mpr ⟨List.mem_of_getElem? (i := 96) (by decide +kernel), fun _ h => absurd h List.not_mem_nil⟩⟩⟩⟩⟩⟩⟩⟩⟩⟩⟩⟩⟩⟩⟩⟩⟩⟩⟩⟩⟩⟩⟩⟩
theorem wsL_law_r18_i : ∀ w ∈ wsL_law_r18, w ∈ lw_tbl := List.forall_mem_cons.mpr ⟨List.mem_of_getElem? (i := 399) (by decide +kernel), List.forall_mem_cons.mpr ⟨List.mem_of_getElem? (i := 400) (by decide +kernel), List.forall_mem_cons.mpr ⟨List.mem_of_getElem? (i := 401) (by decide +kernel), List.forall_mem_cons.mpr ⟨List.mem_of_getElem? (i := 403) (by decide +kernel), List.forall_mem_cons.mpr ⟨List.mem_of_getElem? (i := 8) (by decide +kernel), List.forall_mem_cons.mpr ⟨List.mem_of_getElem? (i := 404) (by decide +kernel), List.forall_mem_cons.mpr ⟨List.mem_of_getElem? (i := 405) (by decide +kernel), List.forall_mem_cons.mpr ⟨List.mem_of_getElem? (i := 407) (by decide +kernel), List.forall_mem_cons.mpr ⟨List.mem_of_getElem? (i := 9) (by decide +kernel), List.forall_mem_cons.mpr ⟨List.mem_of_getElem? (i := 408) (by decide +kernel), List.forall_mem_cons.mpr ⟨List.mem_of_getElem? (i := 409) (by decide +kernel), List.forall_mem_cons.mpr ⟨List.mem_of_getElem? (i := 411) (by decide +kernel), List.forall_mem_cons.mpr ⟨List.mem_of_getElem? (i := 10) (by decide +kernel), List.forall_mem_cons.mpr ⟨List.mem_of_getElem? (i := 412) (by decide +kernel), List.forall_mem_cons.mpr ⟨List.mem_of_getElem? (i := 413) (by decide +kernel), List.forall_mem_cons.mpr ⟨List.mem_of_getElem? (i := 414) (by decide +kernel), List.forall_mem_cons.mpr ⟨List.mem_of_getElem? (i := 415) (by decide +kernel), List.forall_mem_cons.mpr ⟨List.mem_of_getElem? (i := 416) (by decide +kernel), List.forall_mem_cons.mpr ⟨List.mem_of_getElem? (i := 417) (by decide +kernel), List.forall_mem_cons.mpr ⟨List.mem_of_getElem? (i := 418) (by decide +kernel), List.forall_mem_cons.mpr ⟨List.mem_of_getElem? (i := 419) (by decide +kernel), List.forall_mem_cons.mpr ⟨List.mem_of_getElem? (i := 420) (by decide +kernel), List.forall_mem_cons.mpr ⟨List.mem_of_getElem? (i := 421) (by decide +kernel), List.forall_mem_cons.mpr ⟨List.mem_of_getElem? (i := 422) (by decide +kernel), fun _ h => absurd h List.not_mem_nil⟩⟩⟩⟩⟩⟩⟩⟩⟩⟩⟩⟩⟩⟩⟩⟩⟩⟩⟩⟩⟩⟩⟩⟩
theorem wsL_law_r19_i : ∀ w ∈ wsL_law_r19, w ∈ lw_tbl := List.forall_mem_cons.mpr ⟨List.mem_of_getElem? (i := 423) (by decide +kernel), List.forall_mem_cons.mpr ⟨List.mem_of_getElem? (i := 424) (by decide +kernel), List.forall_mem_cons.mpr ⟨List.mem_of_getElem? (i := 425) (by decide +kernel), List.forall_mem_cons.mpr ⟨List.mem_of_getElem? (i := 426) (by decide +kernel), List.forall_mem_cons.mpr ⟨List.mem_of_getElem? (i := 427) (by decide +kernel), List.forall_mem_cons.mpr ⟨List.mem_of_getElem? (i := 428) (by decide +kernel), List.forall_mem_cons.mpr ⟨List.mem_of_getElem? (i := 429) (by decide +kernel), List.forall_mem_cons.mpr ⟨List.mem_of_getElem? (i := 430) (by decide +kernel), List.forall_mem_cons.mpr ⟨List.mem_of_getElem? (i := 431) (by decide +kernel), List.forall_mem_cons.mpr ⟨List.mem_of_getElem? (i := 432) (by decide +kernel), List.forall_mem_cons.mpr ⟨List.mem_of_getElem? (i := 433) (by decide +kernel), List.forall_mem_cons.mpr ⟨List.mem_of_getElem? (i := 434) (by decide +kernel), List.forall_mem_cons.mpr ⟨List.mem_of_getElem? (i := 435) (by decide +kernel), List.forall_mem_cons.mpr ⟨List.mem_of_getElem? (i := 436) (by decide +kernel), List.forall_mem_cons.mpr ⟨List.mem_of_getElem? (i := 437) (by decide +kernel), List.forall_mem_cons.mpr ⟨List.mem_of_getElem? (i := 776) (by decide +kernel), List.forall_mem_cons.mpr ⟨List.mem_of_getElem? (i := 777) (by decide +kernel), List.forall_mem_cons.mpr ⟨List.mem_of_getElem? (i := 778) (by decide +kernel), List.forall_mem_cons.mpr ⟨List.mem_of_getElem? (i := 779) (by decide +kernel), List.forall_mem_cons.mpr ⟨List.mem_of_getElem? (i := 780) (by decide +kernel), List.forall_mem_cons.mpr ⟨List.mem_of_getElem? (i := 782) (by decide +kernel), List.forall_mem_cons.mpr ⟨List.mem_of_getElem? (i := 23) (by decide +kernel), List.forall_mem_cons.mpr ⟨List.mem_of_getElem? (i := 783) (by decide +kernel), List.forall_mem_cons.mpr ⟨List.mem_of_getElem? (i := 604) (by decide +kernel), fun _ h => absurd h List.not_mem_nil⟩⟩⟩⟩⟩⟩⟩⟩⟩⟩⟩⟩⟩⟩⟩⟩⟩⟩⟩⟩⟩⟩⟩⟩
theorem wsL_law_r20_i : ∀ w ∈ wsL_law_r20, w ∈ lw_tbl := List.forall_mem_cons.mpr ⟨List.mem_of_getElem? (i := 784) (by decide +kernel), List.forall_mem_cons.mpr ⟨List.mem_of_getElem? (i := 786) (by decide +kernel), List.forall_mem_cons.mpr ⟨List.mem_of_getElem? (i := 24) (by decide +kernel), List.forall_mem_cons.mpr ⟨List.mem_of_getElem? (i := 787) (by decide +kernel), List.forall_mem_cons.mpr ⟨List.mem_of_getElem? (i := 788) (by decide +kernel), List.forall_mem_cons.mpr ⟨List.mem_of_getElem? (i := 789) (by decide +kernel), List.forall_mem_cons.mpr ⟨List.mem_of_getElem? (i := 790) (by decide +kernel), List.forall_mem_cons.mpr ⟨List.mem_of_getElem? (i := 438) (by decide +kernel), List.forall_mem_cons.mpr ⟨List.mem_of_getElem? (i := 439) (by decide +kernel), List.forall_mem_cons.mpr ⟨List.mem_of_getElem? (i := 440) (by decide +kernel), List.forall_mem_cons.mpr ⟨List.mem_of_getElem? (i := 441) (by decide +kernel), List.forall_mem_cons.mpr ⟨List.mem_of_getElem? (i := 442) (by decide +kernel), List.forall_mem_cons.mpr ⟨List.mem_of_getElem? (i := 443) (by decide +kernel), List.forall_mem_cons.mpr ⟨List.mem_of_getElem? (i := 444) (by decide +kernel), List.forall_mem_cons.mpr ⟨List.mem_of_getElem? (i := 445) (by decide +kernel), List.forall_mem_cons.mpr ⟨List.mem_of_getElem? (i := 446) (by decide +kernel), List.forall_mem_cons.mpr ⟨List.mem_of_getElem? (i := 791) (by decide +kernel), List.forall_mem_cons.mpr ⟨List.mem_of_getElem? (i := 792) (by decide +kernel), List.forall_mem_cons.mpr ⟨List.mem_of_getElem? (i := 793) (by decide +kernel), List.forall_mem_cons.mpr ⟨List.mem_of_getElem? (i := 794) (by decide +kernel), List.forall_mem_cons.mpr ⟨List.mem_of_getElem? (i := 447) (by decide +kernel), List.forall_mem_cons.mpr ⟨List.mem_of_getElem? (i := 448) (by decide +kernel), List.forall_mem_cons.mpr ⟨List.mem_of_getElem? (i := 449) (by decide +kernel), List.forall_mem_cons.mpr ⟨List.mem_of_getElem? (i := 450) (by decide +kernel), fun _ h => absurd h List.not_mem_nil⟩⟩⟩⟩⟩⟩⟩⟩⟩⟩⟩⟩⟩⟩⟩⟩⟩⟩⟩⟩⟩⟩⟩⟩
theorem wsL_law_r21_i : ∀ w ∈ wsL_law_r21, w ∈ lw_tbl := List.forall_mem_cons.mpr ⟨List.mem_of_getElem? (i := 451) (by decide +kernel), List.forall_mem_cons.mpr ⟨List.mem_of_getElem? (i := 452) (by decide +kernel), List.forall_mem_cons.mpr ⟨List.mem_of_getElem? (i := 453) (by decide +kernel), List.forall_mem_cons.mpr ⟨List.mem_of_getElem? (i := 454) (by decide +kernel), List.forall_mem_cons.mpr ⟨List.mem_of_getElem? (i := 456) (by decide +kernel), List.forall_mem_cons.mpr ⟨List.mem_of_getElem? (i := 457) (by decide +kernel), List.forall_mem_cons.mpr ⟨List.mem_of_getElem? (i := 43) (by decide +kernel), List.forall_mem_cons.mpr ⟨List.mem_of_getElem? (i := 458) (by decide +kernel), List.forall_mem_cons.mpr ⟨List.mem_of_getElem? (i := 455) (by decide +kernel), List.forall_mem_cons.mpr ⟨List.mem_of_getElem? (i := 795) (by decide +kernel), List.forall_mem_cons.mpr ⟨List.mem_of_getElem? (i := 796) (by decide +kernel), List.forall_mem_cons.mpr ⟨List.mem_of_getElem? (i := 797) (by decide +kernel), List.forall_mem_cons.mpr ⟨List.mem_of_getElem? (i := 798) (by decide +kernel), List.forall_mem_cons.mpr ⟨List.mem_of_getElem? (i := 799) (by decide +kernel), List.forall_mem_cons.mpr ⟨List.mem_of_getElem? (i := 801) (by decide +kernel), List.forall_mem_cons.mpr ⟨List.mem_of_getElem? (i := 25) (by decide +kernel), List.forall_mem_cons.mpr ⟨List.mem_of_getElem? (i := 802) (by decide +kernel), List.forall_mem_cons.mpr ⟨List.mem_of_getElem? (i := 459) (by decide +kernel), List.forall_mem_cons.mpr ⟨List.mem_of_getElem? (i := 460) (by decide +kernel), List.forall_mem_cons.mpr ⟨List.mem_of_getElem? (i := 461) (by decide +kernel), List.forall_mem_cons.mpr ⟨List.mem_of_getElem? (i := 462) (by decide +kernel), List.forall_mem_cons.mpr ⟨List.mem_of_getElem? (i := 463) (by decide +kernel), List.forall_mem_cons.mpr ⟨List.mem_of_getElem? (i := 464) (by decide +kernel), List.forall_mem_cons.mpr ⟨List.mem_of_getElem? (i := 465) (by decide +kernel), fun _ h => absurd h List.not_mem_nil⟩⟩⟩⟩⟩⟩⟩⟩⟩⟩⟩⟩⟩⟩⟩⟩⟩⟩⟩⟩⟩⟩⟩⟩
theorem wsL_law_r22_i : ∀ w ∈ wsL_law_r22, w ∈ lw_tbl := List.forall_mem_cons.mpr ⟨List.mem_of_getElem? (i := 466) (by decide +kernel), List.forall_mem_cons.mpr ⟨List.mem_of_getElem? (i := 803) (by decide +kernel), List.forall_mem_cons.mpr ⟨List.mem_of_getElem? (i := 804) (by decide +kernel), List.forall_mem_cons.mpr ⟨List.mem_of_getElem? (i := 805) (by decide +kernel), List.forall_mem_cons.mpr ⟨List.mem_of_getElem? (i := 806) (by decide +kernel), List.forall_mem_cons.mpr ⟨List.mem_of_getElem? (i := 467) (by decide +kernel), List.forall_mem_cons.mpr ⟨List.mem_of_getElem? (i := 468) (by decide +kernel), List.forall_mem_cons.mpr ⟨List.mem_of_getElem? (i := 469) (by decide +kernel), List.forall_mem_cons.mpr ⟨List.mem_of_getElem? (i := 470) (by decide +kernel), List.forall_mem_cons.mpr ⟨List.mem_of_getElem? (i := 471) (by decide +kernel), List.forall_mem_cons.mpr ⟨List.mem_of_getElem? (i := 472) (by decide +kernel), List.forall_mem_cons.mpr ⟨List.mem_of_getElem? (i := 473) (by decide +kernel), List.forall_mem_cons.mpr ⟨List.mem_of_getElem? (i := 474) (by decide +kernel), List.forall_mem_cons.mpr ⟨List.mem_of_getElem? (i := 807) (by decide +kernel), List.forall_mem_cons.mpr ⟨List.mem_of_getElem? (i := 808) (by decide +kernel), List.forall_mem_cons.mpr ⟨List.mem_of_getElem? (i := 809) (by decide +kernel), List.forall_mem_cons.mpr ⟨List.mem_of_getElem? (i := 810) (by decide +kernel), List.forall_mem_cons.mpr ⟨List.mem_of_getElem? (i := 475) (by decide +kernel), List.forall_mem_cons.mpr ⟨List.mem_of_getElem? (i := 476) (by decide +kernel), List.forall_mem_cons.mpr ⟨List.mem_of_getElem? (i := 477) (by decide +kernel), List.forall_mem_cons.mpr ⟨List.mem_of_getElem? (i := 478) (by decide +kernel), List.forall_mem_cons.mpr ⟨List.mem_of_getElem? (i := 479) (by decide +kernel), List.forall_mem_cons.mpr ⟨List.mem_of_getElem? (i := 480) (by decide +kernel), List.forall_mem_cons.mpr ⟨List.mem_of_getElem? (i := 481) (by decide +kernel), fun _ h => absurd h List.not_mem_nil⟩⟩⟩⟩⟩⟩⟩⟩⟩⟩⟩⟩⟩⟩⟩⟩⟩⟩⟩⟩⟩⟩⟩⟩
theorem wsL_law_r23_i : ∀ w ∈ wsL_law_r23, w ∈ lw_tbl := List.forall_mem_cons.mpr ⟨List.mem_of_getElem? (i := 482) (by decide +kernel), List.forall_mem_cons.mpr ⟨List.mem_of_getElem? (i := 161) (by decide +kernel), List.forall_mem_cons.mpr ⟨List.mem_of_getElem? (i := 483) (by decide +kernel), List.forall_mem_cons.mpr ⟨List.mem_of_getElem? (i := 484) (by decide +kernel), List.forall_mem_cons.mpr ⟨List.mem_of_getElem? (i := 485) (by decide +kernel), List.forall_mem_cons.mpr ⟨List.mem_of_getElem? (i := 486) (by decide +kernel), List.forall_mem_cons.mpr ⟨List.mem_of_getElem? (i := 811) (by decide +kernel), List.forall_mem_cons.mpr ⟨List.mem_of_getElem? (i := 812) (by decide +kernel), List.forall_mem_cons.mpr ⟨List.mem_of_getElem? (i := 813) (by decide +kernel), List.forall_mem_cons.mpr ⟨List.mem_of_getElem? (i := 814) (by decide +kernel), List.forall_mem_cons.mpr ⟨List.mem_of_getElem? (i := 605) (by decide +kernel), List.forall_mem_cons.mpr ⟨List.mem_of_getElem? (i := 487) (by decide +kernel), List.forall_mem_cons.mpr ⟨List.mem_of_getElem? (i := 488) (by decide +kernel), List.forall_mem_cons.mpr ⟨List.mem_of_getElem? (i := 489) (by decide +kernel), List.forall_mem_cons.mpr ⟨List.mem_of_getElem? (i := 490) (by decide +kernel), List.forall_mem_cons.mpr ⟨List.mem_of_getElem? (i := 491) (by decide +kernel), List.forall_mem_cons.mpr ⟨List.mem_of_getElem? (i := 492) (by decide +kernel), List.forall_mem_cons.mpr ⟨List.mem_of_getElem? (i := 493) (by decide +kernel), List.forall_mem_cons.mpr ⟨List.mem_of_getElem? (i := 494) (by decide +kernel), List.forall_mem_cons.mpr ⟨List.mem_of_getElem? (i := 815) (by decide +kernel), List.forall_mem_cons.mpr ⟨List.mem_of_getElem? (i := 816) (by decide +kernel), List.forall_mem_cons.mpr ⟨List.mem_of_getElem? (i := 817) (by decide +kernel), List.forall_mem_cons.mpr ⟨List.mem_of_getElem? (i := 818) (by decide +kernel), List.forall_mem_cons.mpr ⟨List.mem_of_getElem? (i := 495) (by decide +kernel), fun _ h => absurd h List.not_mem_nil⟩⟩⟩⟩⟩⟩⟩⟩⟩⟩⟩⟩⟩⟩⟩⟩⟩⟩⟩⟩⟩⟩⟩⟩
theorem wsL_law_r24_i : ∀ w ∈ wsL_law_r24, w ∈ lw_tbl := List.forall_mem_cons.mpr ⟨List.mem_of_getElem? (i := 496) (by decide +kernel), List.forall_mem_cons.mpr ⟨List.mem_of_getElem? (i := 497) (by decide +kernel), List.forall_mem_cons.mpr ⟨List.mem_of_getElem? (i := 498) (by decide +kernel), List.forall_mem_cons.mpr ⟨List.mem_of_getElem? (i := 499) (by decide +kernel), List.forall_mem_cons.mpr ⟨List.mem_of_getElem? (i := 500) (by decide +kernel), List.forall_mem_cons.mpr ⟨List.mem_of_getElem? (i := 501) (by decide +kernel), List.forall_mem_cons.mpr ⟨List.mem_of_getElem? (i := 502) (by decide +kernel), List.forall_mem_cons.mpr ⟨List.mem_of_getElem? (i := 503) (by decide +kernel), List.forall_mem_cons.mpr ⟨List.mem_of_getElem? (i := 504) (by decide +kernel), List.forall_mem_cons.mpr ⟨List.mem_of_getElem? (i := 505) (by decide +kernel), List.forall_mem_cons.mpr ⟨List.mem_of_getElem? (i := 506) (by decide +kernel), List.forall_mem_cons.mpr ⟨List.mem_of_getElem? (i := 507) (by decide +kernel), List.forall_mem_cons.mpr ⟨List.mem_of_getElem? (i := 819) (by decide +kernel), List.forall_mem_cons.mpr ⟨List.mem_of_getElem? (i := 820) (by decide +kernel), List.forall_mem_cons.mpr ⟨List.mem_of_getElem? (i := 821) (by decide +kernel), List.forall_mem_cons.mpr ⟨List.mem_of_getElem? (i := 822) (by decide +kernel), List.forall_mem_cons.mpr ⟨List.mem_of_getElem? (i := 823) (by decide +kernel), List.forall_mem_cons.mpr ⟨List.mem_of_getElem? (i := 825) (by decide +kernel), List.forall_mem_cons.mpr ⟨List.mem_of_getElem? (i := 26) (by decide +kernel), List.forall_mem_cons.mpr ⟨List.mem_of_getElem? (i := 826) (by decide +kernel), List.forall_mem_cons.mpr ⟨List.mem_of_getElem? (i := 827) (by decide +kernel), List.forall_mem_cons.mpr ⟨List.mem_of_getElem? (i := 829) (by decide +kernel), List.forall_mem_cons.mpr ⟨List.mem_of_getElem? (i := 27) (by decide +kernel), List.forall_mem_cons.mpr ⟨List.mem_of_getElem? (i := 830) (by decide +kernel), fun _ h => absurd h List.not_mem_nil⟩⟩⟩⟩⟩⟩⟩⟩⟩⟩⟩⟩⟩⟩⟩⟩⟩⟩⟩⟩⟩⟩⟩⟩
theorem wsL_law_r25_i : ∀ w ∈ wsL_law_r25, w ∈ lw_tbl := List.forall_mem_cons.mpr ⟨List.mem_of_getElem? (i := 508) (by decide +kernel), List.forall_mem_cons.mpr ⟨List.mem_of_getElem? (i := 509) (by decide +kernel), List.forall_mem_cons.mpr ⟨List.mem_of_getElem? (i := 510) (by decide +kernel), List.forall_mem_cons.mpr ⟨List.mem_of_getElem? (i := 511) (by decide +kernel), List.forall_mem_cons.mpr ⟨List.mem_of_getElem? (i := 512) (by decide +kernel), List.forall_mem_cons.mpr ⟨List.mem_of_getElem? (i := 513) (by decide +kernel), List.forall_mem_cons.mpr ⟨List.mem_of_getElem? (i := 514) (by decide +kernel), List.forall_mem_cons.mpr ⟨List.mem_of_getElem? (i := 515) (by decide +kernel), List.forall_mem_cons.mpr ⟨List.mem_of_getElem? (i := 831) (by decide +kernel), List.forall_mem_cons.mpr ⟨List.mem_of_getElem? (i := 832) (by decide +kernel), List.forall_mem_cons.mpr ⟨List.mem_of_getElem? (i := 833) (by decide +kernel), List.forall_mem_cons.mpr ⟨List.mem_of_getElem? (i := 834) (by decide +kernel), List.forall_mem_cons.mpr ⟨List.mem_of_getElem? (i := 516) (by decide +kernel), List.forall_mem_cons.mpr ⟨List.mem_of_getElem? (i := 517) (by decide +kernel), List.forall_mem_cons.mpr ⟨List.mem_of_getElem? (i := 518) (by decide +kernel), List.forall_mem_cons.mpr ⟨List.mem_of_getElem? (i := 519) (by decide +kernel), List.forall_mem_cons.mpr ⟨List.mem_of_getElem? (i := 520) (by decide +kernel), List.forall_mem_cons.mpr ⟨List.mem_of_getElem? (i := 521) (by decide +kernel), List.forall_mem_cons.mpr ⟨List.mem_of_getElem? (i := 522) (by decide +kernel), List.forall_mem_cons.mpr ⟨List.mem_of_getElem? (i := 523) (by decide +kernel), List.forall_mem_cons.mpr ⟨List.mem_of_getElem? (i := 524) (by decide +kernel), List.forall_mem_cons.mpr ⟨List.mem_of_getElem? (i := 526) (by decide +kernel), List.forall_mem_cons.mpr ⟨List.mem_of_getElem? (i := 11) (by decide +kernel), List.forall_mem_cons.mpr ⟨List.mem_of_getElem? (i := 527) (by decide +kernel), fun _ h => absurd h List.not_mem_nil⟩⟩⟩⟩⟩⟩⟩⟩⟩⟩⟩⟩⟩⟩⟩⟩⟩⟩⟩⟩⟩⟩⟩⟩
theorem wsL_law_r26_i : ∀ w ∈ wsL_law_r26, w ∈ lw_tbl := List.forall_mem_cons.mpr ⟨List.mem_of_getElem? (i := 528) (by decide +kernel), List.forall_mem_cons.mpr ⟨List.mem_of_getElem? (i := 529) (by decide +kernel), List.forall_mem_cons.mpr ⟨List.mem_of_getElem? (i := 835) (by decide +kernel), List.forall_mem_cons.mpr ⟨List.mem_of_getElem? (i := 836) (by decide +kernel), List.forall_mem_cons.mpr ⟨List.mem_of_getElem? (i := 837) (by decide +kernel), List.forall_mem_cons.mpr ⟨List.mem_of_getElem? (i := 838) (by decide +kernel), List.forall_mem_cons.mpr ⟨List.mem_of_getElem? (i := 839) (by decide +kernel), List.forall_mem_cons.mpr ⟨List.mem_of_getElem? (i := 841) (by decide +kernel), List.forall_mem_cons.mpr ⟨List.mem_of_getElem? (i := 28) (by decide +kernel), List.forall_mem_cons.mpr ⟨List.mem_of_getElem? (i := 842) (by decide +kernel), List.forall_mem_cons.mpr ⟨List.mem_of_getElem? (i := 843) (by decide +kernel), List.forall_mem_cons.mpr ⟨List.mem_of_getElem? (i := 845) (by decide +kernel), List.forall_mem_cons.mpr ⟨List.mem_of_getElem? (i := 29) (by decide +kernel), List.forall_mem_cons.mpr ⟨List.mem_of_getElem? (i := 846) (by decide +kernel), List.forall_mem_cons.mpr ⟨List.mem_of_getElem? (i := 530) (by decide +kernel), List.forall_mem_cons.mpr ⟨List.mem_of_getElem? (i := 531) (by decide +kernel), List.forall_mem_cons.mpr ⟨List.mem_of_getElem? (i := 532) (by decide +kernel), List.forall_mem_cons.mpr ⟨List.mem_of_getElem? (i := 533) (by decide +kernel), List.forall_mem_cons.mpr ⟨List.mem_of_getElem? (i := 545) (by decide +kernel), List.forall_mem_cons.mpr ⟨List.mem_of_getElem? (i := 534) (by decide +kernel), List.forall_mem_cons.mpr ⟨List.mem_of_getElem? (i := 535) (by decide +kernel), List.forall_mem_cons.mpr ⟨List.mem_of_getElem? (i := 536) (by decide +kernel), List.forall_mem_cons.mpr ⟨List.mem_of_getElem? (i := 537) (by decide +kernel), List.forall_mem_cons.mpr ⟨List.mem_of_getElem? (i := 538) (by decide +kernel), fun _ h => absurd h List.not_mem_nil⟩⟩⟩⟩⟩⟩⟩⟩⟩⟩⟩⟩⟩⟩⟩⟩⟩⟩⟩⟩⟩⟩⟩⟩
theorem wsL_law_r27_i : ∀ w ∈ wsL_law_r27, w ∈ lw_tbl := List.forall_mem_cons.mpr ⟨List.mem_of_getElem? (i := 539) (by decide +kernel), List.forall_mem_cons.mpr ⟨List.mem_of_getElem? (i := 540) (by decide +kernel), List.forall_mem_cons.mpr ⟨List.mem_of_getElem? (i := 541) (by decide +kernel), List.forall_mem_cons.mpr ⟨List.mem_of_getElem? (i := 542) (by decide +kernel), List.forall_mem_cons.mpr ⟨List.mem_of_getElem? (i := 543) (by decide +kernel), List.forall_mem_cons.mpr ⟨List.mem_of_getElem? (i := 544) (by decide +kernel), List.forall_mem_cons.mpr ⟨List.mem_of_getElem? (i := 546) (by decide +kernel), List.forall_mem_cons.mpr ⟨List.mem_of_getElem? (i := 547) (by decide +kernel), List.forall_mem_cons.mpr ⟨List.mem_of_getElem? (i := 548) (by decide +kernel), List.forall_mem_cons.mpr ⟨List.mem_of_getElem? (i := 549) (by decide +kernel), List.forall_mem_cons.mpr ⟨List.mem_of_getElem? (i := 847) (by decide +kernel), List.forall_mem_cons.mpr ⟨List.mem_of_getElem? (i := 848) (by decide +kernel), List.forall_mem_cons.mpr ⟨List.mem_of_getElem? (i := 849) (by decide +kernel), List.forall_mem_cons.mpr ⟨List.mem_of_getElem? (i := 850) (by decide +kernel), List.forall_mem_cons.mpr ⟨List.mem_of_getElem? (i := 851) (by decide +kernel), List.forall_mem_cons.mpr ⟨List.mem_of_getElem? (i := 852) (by decide +kernel), List.forall_mem_cons.mpr ⟨List.mem_of_getElem? (i := 608) (by decide +kernel), List.forall_mem_cons.mpr ⟨List.mem_of_getElem? (i := 853) (by decide +kernel), List.forall_mem_cons.mpr ⟨List.mem_of_getElem? (i := 855) (by decide +kernel), List.forall_mem_cons.mpr ⟨List.mem_of_getElem? (i := 30) (by decide +kernel), List.forall_mem_cons.mpr ⟨List.mem_of_getElem? (i := 856) (by decide +kernel), List.forall_mem_cons.mpr ⟨List.mem_of_getElem? (i := 857) (by decide +kernel), List.forall_mem_cons.mpr ⟨List.mem_of_getElem? (i := 859) (by decide +kernel), List.forall_mem_cons.mpr ⟨List.mem_of_getElem? (i := 31) (by decide +kernel), fun _ h => absurd h List.not_mem_nil⟩⟩⟩⟩⟩⟩⟩⟩⟩⟩⟩⟩⟩⟩⟩⟩⟩⟩⟩⟩⟩⟩⟩⟩
theorem wsL_law_r28_i : ∀ w ∈ wsL_law_r28, w ∈ lw_tbl := List.forall_mem_cons.mpr ⟨List.mem_of_getElem? (i := 860) (by decide +kernel), List.forall_mem_cons.mpr ⟨List.mem_of_getElem? (i := 861) (by decide +kernel), List.forall_mem_cons.mpr ⟨List.mem_of_getElem? (i := 862) (by decide +kernel), List.forall_mem_cons.mpr ⟨List.mem_of_getElem? (i := 863) (by decide +kernel), List.forall_mem_cons.mpr ⟨List.mem_of_getElem? (i := 864) (by decide +kernel), List.forall_mem_cons.mpr ⟨List.mem_of_getElem? (i := 550) (by decide +kernel), List.forall_mem_cons.mpr ⟨List.mem_of_getElem? (i := 551) (by decide +kernel), List.forall_mem_cons.mpr ⟨List.mem_of_getElem? (i := 552) (by decide +kernel), List.forall_mem_cons.mpr ⟨List.mem_of_getElem? (i := 553) (by decide +kernel), List.forall_mem_cons.mpr ⟨List.mem_of_getElem? (i := 177) (by decide +kernel), List.forall_mem_cons.mpr ⟨List.mem_of_getElem? (i := 178) (by decide +kernel), List.forall_mem_cons.mpr ⟨List.mem_of_getElem? (i := 554) (by decide +kernel), List.forall_mem_cons.mpr ⟨List.mem_of_getElem? (i := 555) (by decide +kernel), List.forall_mem_cons.mpr ⟨List.mem_of_getElem? (i := 556) (by decide +kernel), List.forall_mem_cons.mpr ⟨List.mem_of_getElem? (i := 557) (by decide +kernel), List.forall_mem_cons.mpr ⟨List.mem_of_getElem? (i := 558) (by decide +kernel), List.forall_mem_cons.mpr ⟨List.mem_of_getElem? (i := 865) (by decide +kernel), List.forall_mem_cons.mpr ⟨List.mem_of_getElem? (i := 866) (by decide +kernel), List.forall_mem_cons.mpr ⟨List.mem_of_getElem? (i := 867) (by decide +kernel), List.forall_mem_cons.mpr ⟨List.mem_of_getElem? (i := 868) (by decide +kernel), List.forall_mem_cons.mpr ⟨List.mem_of_getElem? (i := 610) (by decide +kernel), List.forall_mem_cons.mpr ⟨List.mem_of_getElem? (i := 611) (by decide +kernel), List.forall_mem_cons.mpr ⟨List.mem_of_getElem? (i := 612) (by decide +kernel), List.forall_mem_cons.mpr ⟨List.mem_of_getElem? (i := 559) (by decide +kernel), fun _ h => absurd h List.not_mem_nil⟩⟩⟩⟩⟩⟩⟩⟩⟩⟩⟩⟩⟩⟩⟩⟩⟩⟩⟩⟩⟩⟩⟩⟩
theorem wsL_law_r29_i : ∀ w ∈ wsL_law_r29, w ∈ lw_tbl := List.forall_mem_cons.mpr ⟨List.mem_of_getElem? (i := 560) (by decide +kernel), List.forall_mem_cons.mpr ⟨List.mem_of_getElem? (i := 561) (by decide +kernel), List.forall_mem_cons.mpr ⟨List.mem_of_getElem? (i := 562) (by decide +kernel), List.forall_mem_cons.mpr ⟨List.mem_of_getElem? (i := 563) (by decide +kernel), List.forall_mem_cons.mpr ⟨List.mem_of_getElem? (i := 869) (by decide +kernel), List.forall_mem_cons.mpr ⟨List.mem_of_getElem? (i := 870) (by decide +kernel), List.forall_mem_cons.mpr ⟨List.mem_of_getElem? (i := 871) (by decide +kernel), List.forall_mem_cons.mpr ⟨List.mem_of_getElem? (i := 872) (by decide +kernel), List.forall_mem_cons.mpr ⟨List.mem_of_getElem? (i := 564) (by decide +kernel), List.forall_mem_cons.mpr ⟨List.mem_of_getElem? (i := 565) (by decide +kernel), List.forall_mem_cons.mpr ⟨List.mem_of_getElem? (i := 566) (by decide +kernel), List.forall_mem_cons.mpr ⟨List.mem_of_getElem? (i := 567) (by decide +kernel), List.forall_mem_cons.mpr ⟨List.mem_of_getElem? (i := 568) (by decide +kernel), List.forall_mem_cons.mpr ⟨List.mem_of_getElem? (i := 569) (by decide +kernel), List.forall_mem_cons.mpr ⟨List.mem_of_getElem? (i := 570) (by decide +kernel), List.forall_mem_cons.mpr ⟨List.mem_of_getElem? (i := 571) (by decide +kernel), List.forall_mem_cons.mpr ⟨List.mem_of_getElem? (i := 873) (by decide +kernel), List.forall_mem_cons.mpr ⟨List.mem_of_getElem? (i := 874) (by decide +kernel), List.forall_mem_cons.mpr ⟨List.mem_of_getElem? (i := 875) (by decide +kernel), List.forall_mem_cons.mpr ⟨List.mem_of_getElem? (i := 876) (by decide +kernel), List.forall_mem_cons.mpr ⟨List.mem_of_getElem? (i := 877) (by decide +kernel), List.forall_mem_cons.mpr ⟨List.mem_of_getElem? (i := 879) (by decide +kernel), List.forall_mem_cons.mpr ⟨List.mem_of_getElem? (i := 32) (by decide +kernel), List.forall_mem_cons.mpr ⟨List.mem_of_getElem? (i := 880) (by decide +kernel), fun _ h => absurd h List.not_mem_nil⟩⟩⟩⟩⟩⟩⟩⟩⟩⟩⟩⟩⟩⟩⟩⟩⟩⟩⟩⟩⟩⟩⟩⟩
theorem wsL_law_r30_i : ∀ w ∈ wsL_law_r30, w ∈ lw_tbl := List.forall_mem_cons.mpr ⟨List.mem_of_getElem? (i := 572) (by decide +kernel), List.forall_mem_cons.mpr ⟨List.mem_of_getElem? (i := 573) (by decide +kernel), List.forall_mem_cons.mpr ⟨List.mem_of_getElem? (i := 574) (by decide +kernel), List.forall_mem_cons.mpr ⟨List.mem_of_getElem? (i := 575) (by decide +kernel), List.forall_mem_cons.mpr ⟨List.mem_of_getElem? (i := 576) (by decide +kernel), List.forall_mem_cons.mpr ⟨List.mem_of_getElem? (i := 577) (by decide +kernel), List.forall_mem_cons.mpr ⟨List.mem_of_getElem? (i := 578) (by decide +kernel), List.forall_mem_cons.mpr ⟨List.mem_of_getElem? (i := 579) (by decide +kernel), List.forall_mem_cons.mpr ⟨List.mem_of_getElem? (i := 580) (by decide +kernel), List.forall_mem_cons.mpr ⟨List.mem_of_getElem? (i := 581) (by decide +kernel), List.forall_mem_cons.mpr ⟨List.mem_of_getElem? (i := 582) (by decide +kernel), List.forall_mem_cons.mpr ⟨List.mem_of_getElem? (i := 583) (by decide +kernel), List.forall_mem_cons.mpr ⟨List.mem_of_getElem? (i := 584) (by decide +kernel), List.forall_mem_cons.mpr ⟨List.mem_of_getElem? (i := 881) (by decide +kernel), List.forall_mem_cons.mpr ⟨List.mem_of_getElem? (i := 882) (by decide +kernel), List.forall_mem_cons.mpr ⟨List.mem_of_getElem? (i := 883) (by decide +kernel), List.forall_mem_cons.mpr ⟨List.mem_of_getElem? (i := 884) (by decide +kernel), List.forall_mem_cons.mpr ⟨List.mem_of_getElem? (i := 885) (by decide +kernel), List.forall_mem_cons.mpr ⟨List.mem_of_getElem? (i := 614) (by decide +kernel), List.forall_mem_cons.mpr ⟨List.mem_of_getElem? (i := 886) (by decide +kernel), List.forall_mem_cons.mpr ⟨List.mem_of_getElem? (i := 888) (by decide +kernel), List.forall_mem_cons.mpr ⟨List.mem_of_getElem? (i := 33) (by decide +kernel), List.forall_mem_cons.mpr ⟨List.mem_of_getElem? (i := 889) (by decide +kernel), fun _ h => absurd h List.not_mem_nil⟩⟩⟩⟩⟩⟩⟩⟩⟩⟩⟩⟩⟩⟩⟩⟩⟩⟩⟩⟩⟩⟩⟩
theorem wsX50_i : ∀ w ∈ wsX50, w ∈ lw_tbl := List.forall_mem_cons.mpr ⟨List.mem_of_getElem? (i := 180) (by decide +kernel), List.forall_mem_cons.mpr ⟨List.mem_of_getElem? (i := 182) (by decide +kernel), List.forall_mem_cons.mpr ⟨List.mem_of_getElem? (i := 184) (by decide +kernel), List.forall_mem_cons.mpr ⟨List.mem_of_getElem? (i := 186) (by decide +kernel), List.forall_mem_cons.mpr ⟨List.mem_of_getElem? (i := 188) (by decide +kernel), List.forall_mem_cons.mpr ⟨List.mem_of_getElem? (i := 190) (by decide +kernel), List.forall_mem_cons.mpr ⟨List.mem_of_getElem? (i := 192) (by decide +kernel), List.forall_mem_cons.mpr ⟨List.mem_of_getElem? (i := 194) (by decide +kernel), List.forall_mem_cons.mpr ⟨List.mem_of_getElem? (i := 196) (by decide +kernel), List.forall_mem_cons.mpr ⟨List.mem_of_getElem? (i := 198) (by decide +kernel), List.forall_mem_cons.mpr ⟨List.mem_of_getElem? (i := 200) (by decide +kernel), fun _ h => absurd h List.not_mem_nil⟩⟩⟩⟩⟩⟩⟩⟩⟩⟩⟩
theorem wsX60_i : ∀ w ∈ wsX60, w ∈ lw_tbl := List.forall_mem_cons.mpr ⟨List.mem_of_getElem? (i := 615) (by decide +kernel), List.forall_mem_cons.mpr ⟨List.mem_of_getElem? (i := 617) (by decide +kernel), List.forall_mem_cons.mpr ⟨List.mem_of_getElem? (i := 619) (by decide +kernel), List.forall_mem_cons.mpr ⟨List.mem_of_getElem? (i := 621) (by decide +kernel), List.forall_mem_cons.mpr ⟨List.mem_of_getElem? (i := 623) (by decide +kernel), List.forall_mem_cons.mpr ⟨List.mem_of_getElem? (i := 625) (by decide +kernel), List.forall_mem_cons.mpr ⟨List.mem_of_getElem? (i := 627) (by decide +kernel), List.forall_mem_cons.mpr ⟨List.mem_of_getElem? (i := 629) (by decide +kernel), List.forall_mem_cons.mpr ⟨List.mem_of_getElem? (i := 631) (by decide +kernel), List.forall_mem_cons.mpr ⟨List.mem_of_getElem? (i := 633) (by decide +kernel), List.forall_mem_cons.mpr ⟨List.mem_of_getElem? (i := 635) (by decide +kernel), List.forall_mem_cons.mpr ⟨List.mem_of_getElem? (i := 637) (by decide +kernel), List.forall_mem_cons.mpr ⟨List.mem_of_getElem? (i := 639) (by decide +kernel), List.forall_mem_cons.mpr ⟨List.mem_of_getElem? (i := 641) (by decide +kernel), List.forall_mem_cons.mpr ⟨List.mem_of_getElem? (i := 643) (by decide +kernel), List.forall_mem_cons.mpr ⟨List.mem_of_getElem? (i := 645) (by decide +kernel), List.forall_mem_cons.mpr ⟨List.mem_of_getElem? (i := 647) (by decide +kernel), List.forall_mem_cons.mpr ⟨List.mem_of_getElem? (i := 649) (by decide +kernel), List.forall_mem_cons.mpr ⟨List.mem_of_getElem? (i := 651) (by decide +kernel), List.forall_mem_cons.mpr ⟨List.mem_of_getElem? (i := 653) (by decide +kernel), List.forall_mem_cons.mpr ⟨List.mem_of_getElem? (i := 655) (by decide +kernel), List.forall_mem_cons.mpr ⟨List.mem_of_getElem? (i := 657) (by decide +kernel), List.forall_mem_cons.mpr ⟨List.mem_of_getElem? (i := 659) (by decide +kernel), List.forall_mem_cons.mpr ⟨List.mem_of_getElem? (i := 661) (by decide +kernel), fun _ h => absurd h List.not_mem_nil⟩⟩⟩⟩⟩⟩⟩⟩⟩⟩⟩⟩⟩⟩⟩⟩⟩⟩⟩⟩⟩⟩⟩⟩
theorem wsX00_i : ∀ w ∈ wsX00, w ∈ lw_tbl := List.forall_mem_cons.mpr ⟨List.mem_of_getElem? (i := 60) (by decide +kernel), List.forall_mem_cons.mpr ⟨List.mem_of_getElem? (i := 62) (by decide +kernel), fun _ h => absurd h List.not_mem_nil⟩⟩
theorem wsX10_i : ∀ w ∈ wsX10, w ∈ lw_tbl := List.forall_mem_cons.mpr ⟨List.mem_of_getElem? (i := 77) (by decide +kernel), List.forall_mem_cons.mpr ⟨List.mem_of_getElem? (i := 79) (by decide +kernel), fun _ h => absurd h List.not_mem_nil⟩⟩
theorem wsX20_i : ∀ w ∈ wsX20, w ∈ lw_tbl := List.forall_mem_cons.mpr ⟨List.mem_of_getElem? (i := 101) (by decide +kernel), List.forall_mem_cons.mpr ⟨List.mem_of_getElem? (i := 103) (by decide +kernel), List.forall_mem_cons.mpr ⟨List.mem_of_getElem? (i := 105) (by decide +kernel), List.forall_mem_cons.mpr ⟨List.mem_of_getElem? (i := 107) (by decide +kernel), List.forall_mem_cons.mpr ⟨List.mem_of_getElem? (i := 109) (by decide +kernel), List.forall_mem_cons.mpr ⟨List.mem_of_getElem? (i := 111) (by decide +kernel), List.forall_mem_cons.mpr ⟨List.mem_of_getElem? (i := 113) (by decide +kernel), List.forall_mem_cons.mpr ⟨List.mem_of_getElem? (i := 115) (by decide +kernel), List.forall_mem_cons.mpr ⟨List.mem_of_getElem? (i := 117) (by decide +kernel), List.forall_mem_cons.mpr ⟨List.mem_of_getElem? (i := 119) (by decide +kernel), List.forall_mem_cons.mpr ⟨List.mem_of_getElem? (i := 121) (by decide +kernel), fun _ h => absurd h List.not_mem_nil⟩⟩⟩⟩⟩⟩⟩⟩⟩⟩⟩
theorem wsX30_i : ∀ w ∈ wsX30, w ∈ lw_tbl := List.forall_mem_cons.mpr ⟨List.mem_of_getElem? (i := 138) (by decide +kernel), List.forall_mem_cons.mpr ⟨List.mem_of_getElem? (i := 140) (by decide +kernel), List.forall_mem_cons.mpr ⟨List.mem_of_getElem? (i := 142) (by decide +kernel), List.forall_mem_cons.mpr ⟨List.mem_of_getElem? (i := 144) (by decide +kernel), List.forall_mem_cons.mpr ⟨List.mem_of_getElem? (i := 146) (by decide +kernel), List.forall_mem_cons.mpr ⟨List.mem_of_getElem? (i := 148) (by decide +kernel), List.forall_mem_cons.mpr ⟨List.mem_of_getElem? (i := 150) (by decide +kernel), fun _ h => absurd h List.not_mem_nil⟩⟩⟩⟩⟩⟩⟩
theorem wsX40_i : ∀ w ∈ wsX40, w ∈ lw_tbl := List.forall_mem_cons.mpr ⟨List.mem_of_getElem? (i := 162) (by decide +kernel), List.forall_mem_cons.mpr ⟨List.mem_of_getElem? (i := 164) (by decide +kernel), List.forall_mem_cons.mpr ⟨List.mem_of_getElem? (i := 166) (by decide +kernel), fun _ h => absurd h List.not_mem_nil⟩⟩⟩
theorem wsL_law_in : ∀ w ∈ wsL_law, w ∈ lw_tbl := by
  unfold wsL_law
  exact List.forall_mem_append.mpr ⟨List.forall_mem_append.mpr ⟨List.forall_mem_append.mpr ⟨List.forall_mem_append.mpr ⟨List.forall_mem_append.mpr ⟨List.forall_mem_append.mpr ⟨List.forall_mem_append.mpr ⟨List.forall_mem_append.mpr ⟨List.forall_mem_append.mpr ⟨wsL_law_r1_i, List.forall_mem_append.mpr ⟨wsL_law_r2_i, List.forall_mem_append.mpr ⟨wsL_law_r3_i, List.forall_mem_append.mpr ⟨wsL_law_r4_i, List.forall_mem_append.mpr ⟨wsL_law_r5_i, List.forall_mem_append.mpr ⟨wsL_law_r6_i, List.forall_mem_append.mpr ⟨wsL_law_r7_i, List.forall_mem_append.mpr ⟨wsL_law_r8_i, List.forall_mem_append.mpr ⟨wsL_law_r9_i, List.forall_mem_append.mpr ⟨wsL_law_r10_i, List.forall_mem_append.mpr ⟨wsL_law_r11_i, List.forall_mem_append.mpr ⟨wsL_law_r12_i, List.forall_mem_append.mpr ⟨wsL_law_r13_i, List.forall_mem_append.mpr ⟨wsL_law_r14_i, List.forall_mem_append.mpr ⟨wsL_law_r15_i, List.forall_mem_append.mpr ⟨wsL_law_r16_i, List.forall_mem_append.mpr ⟨wsL_law_r17_i, List.forall_mem_append.mpr ⟨wsL_law_r18_i, List.forall_mem_append.mpr ⟨wsL_law_r19_i, List.forall_mem_append.mpr ⟨wsL_law_r20_i, List.forall_mem_append.mpr ⟨wsL_law_r21_i, List.forall_mem_append.mpr ⟨wsL_law_r22_i, List.forall_mem_append.mpr ⟨wsL_law_r23_i, List.forall_mem_append.mpr ⟨wsL_law_r24_i, List.forall_mem_append.mpr ⟨wsL_law_r25_i, List.forall_mem_append.mpr ⟨wsL_law_r26_i, List.forall_mem_append.mpr ⟨wsL_law_r27_i, List.forall_mem_append.mpr ⟨wsL_law_r28_i, List.forall_mem_append.mpr ⟨wsL_law_r29_i, wsL_law_r30_i⟩⟩⟩⟩⟩⟩⟩⟩⟩⟩⟩⟩⟩⟩⟩⟩⟩⟩⟩⟩⟩⟩⟩⟩⟩⟩⟩⟩⟩, wsX50_i⟩, wsX60_i⟩, wsX00_i⟩, wsX10_i⟩, wsX20_i⟩, wsX30_i⟩, wsX40_i⟩, fun _ h => absurd h List.not_mem_nil⟩
theorem inlX0 : ∀ w ∈ wsX00, w ∈ wsL_law := fun _ h => List.mem_append_left _ (List.mem_append_left _ (List.mem_append_left _ (List.mem_append_left _ (List.mem_append_left _ (List.mem_append_right _ h)))))
theorem inX0 : ∀ w ∈ wsX00, w ∈ lw_tbl := fun w h => wsL_law_in w (inlX0 w h)
theorem inlX1 : ∀ w ∈ wsX10, w ∈ wsL_law := fun _ h => List.mem_append_left _ (List.mem_append_left _ (List.mem_append_left _ (List.mem_append_left _ (List.mem_append_right _ h))))
theorem inX1 : ∀ w ∈ wsX10, w ∈ lw_tbl := fun w h => wsL_law_in w (inlX1 w h)
theorem inlX2 : ∀ w ∈ wsX20, w ∈ wsL_law := fun _ h => List.mem_append_left _ (List.mem_append_left _ (List.mem_append_left _ (List.mem_append_right _ h)))
theorem inX2 : ∀ w ∈ wsX20, w ∈ lw_tbl := fun w h => wsL_law_in w (inlX2 w h)
theorem inlX3 : ∀ w ∈ wsX30, w ∈ wsL_law := fun _ h => List.mem_append_left _ (List.mem_append_left _ (List.mem_append_right _ h))
theorem inX3 : ∀ w ∈ wsX30, w ∈ lw_tbl := fun w h => wsL_law_in w (inlX3 w h)
theorem inlX4 : ∀ w ∈ wsX40, w ∈ wsL_law := fun _ h => List.mem_append_left _ (List.mem_append_right _ h)
theorem inX4 : ∀ w ∈ wsX40, w ∈ lw_tbl := fun w h => wsL_law_in w (inlX4 w h)
theorem inlX5 : ∀ w ∈ wsX50, w ∈ wsL_law := fun _ h => List.mem_append_left _ (List.mem_append_left _ (List.mem_append_left _ (List.mem_append_left _ (List.mem_append_left _ (List.mem_append_left _ (List.mem_append_left _ (List.mem_append_right _ h)))))))
theorem inX5 : ∀ w ∈ wsX50, w ∈ lw_tbl := fun w h => wsL_law_in w (inlX5 w h)
theorem inlX6 : ∀ w ∈ wsX60, w ∈ wsL_law := fun _ h => List.mem_append_left _ (List.mem_append_left _ (List.mem_append_left _ (List.mem_append_left _ (List.mem_append_left _ (List.mem_append_left _ (List.mem_append_right _ h))))))
theorem inX6 : ∀ w ∈ wsX60, w ∈ lw_tbl := fun w h => wsL_law_in w (inlX6 w h)
theorem inJ9 : ∀ w ∈ wsJ90, w ∈ lw_tbl := by decide +kernel
theorem inJ7 : ∀ w ∈ wsJ70, w ∈ lw_tbl := by decide +kernel
abbrev vwCl : List vw_C := [(RX0, TX0, 2), (RX1, TX1, 2), (RX2, TX2, 11), (RX3, TX3, 7), (RX4, TX4, 3), (RX5, TX5, 11), (RX6, TX6, 24)]
end
section
theorem dX0_init_0 : decode cX0_init 0 = .ok (.aload_n 0, 1) := by decide +kernel
theorem dX0_init_1 : decode cX0_init 1 = .ok (.invokespecial 3, 3) := by decide +kernel
theorem dX0_init_4 : decode cX0_init 4 = .ok (.aload_n 0, 1) := by decide +kernel
theorem dX0_init_5 : decode cX0_init 5 = .ok (.bipush 20, 2) := by decide +kernel
theorem dX0_init_7 : decode cX0_init 7 = .ok (.newarray .int, 2) := by decide +kernel
theorem dX0_init_9 : decode cX0_init 9 = .ok (.putfield 9, 3) := by decide +kernel
theorem dX0_init_12 : decode cX0_init 12 = .ok (.return_, 1) := by decide +kernel
theorem dX0_total_0 : decode cX0_total 0 = .ok (.aload_n 0, 1) := by decide +kernel
theorem dX0_total_1 : decode cX0_total 1 = .ok (.getfield 15, 3) := by decide +kernel
theorem dX0_total_4 : decode cX0_total 4 = .ok (.ireturn, 1) := by decide +kernel
theorem dX0_all_0 : decode cX0_all 0 = .ok (.iconst 1, 1) := by decide +kernel
theorem dX0_all_1 : decode cX0_all 1 = .ok (.aload_n 0, 1) := by decide +kernel
theorem dX0_all_2 : decode cX0_all 2 = .ok (.getfield 15, 3) := by decide +kernel
theorem dX0_all_5 : decode cX0_all 5 = .ok (.ishl, 1) := by decide +kernel
theorem dX0_all_6 : decode cX0_all 6 = .ok (.iconst 1, 1) := by decide +kernel
theorem dX0_all_7 : decode cX0_all 7 = .ok (.isub, 1) := by decide +kernel
theorem dX0_all_8 : decode cX0_all 8 = .ok (.ireturn, 1) := by decide +kernel
theorem dX0_has_0 : decode cX0_has 0 = .ok (.iload_n 1, 1) := by decide +kernel
theorem dX0_has_1 : decode cX0_has 1 = .ok (.ifCond .lt 15, 3) := by decide +kernel
theorem dX0_has_4 : decode cX0_has 4 = .ok (.iload_n 1, 1) := by decide +kernel
theorem dX0_has_5 : decode cX0_has 5 = .ok (.aload_n 0, 1) := by decide +kernel
theorem dX0_has_6 : decode cX0_has 6 = .ok (.getfield 15, 3) := by decide +kernel
theorem dX0_has_9 : decode cX0_has 9 = .ok (.if_icmp .ge 7, 3) := by decide +kernel
theorem dX0_has_12 : decode cX0_has 12 = .ok (.iconst 1, 1) := by decide +kernel
theorem dX0_has_13 : decode cX0_has 13 = .ok (.goto 4, 3) := by decide +kernel
theorem dX0_has_16 : decode cX0_has 16 = .ok (.iconst 0, 1) := by decide +kernel
theorem dX0_has_17 : decode cX0_has 17 = .ok (.ireturn, 1) := by decide +kernel
set_option maxRecDepth 20000 in
theorem ggX0_hasAll_X0_all : GoodIn wsX0_hasAll wsX0_all := goodIn_r _ [5, 6, 7, 8] (by decide +kernel) (by decide +kernel)
set_option maxRecDepth 20000 in
theorem gX0_hasAll_X0_all : GoodIn wsX0_hasAll (wsV RX0 19 RX0 yX0_all wsX0_all) := goodIn_app (goodIn_of _ (by decide +kernel)) ggX0_hasAll_X0_all
theorem dX0_hasAll_0 : decode cX0_hasAll 0 = .ok (.iload_n 1, 1) := by decide +kernel
theorem dX0_hasAll_1 : decode cX0_hasAll 1 = .ok (.ifCond .lt 15, 3) := by decide +kernel
theorem dX0_hasAll_4 : decode cX0_hasAll 4 = .ok (.iload_n 1, 1) := by decide +kernel
theorem dX0_hasAll_5 : decode cX0_hasAll 5 = .ok (.aload_n 0, 1) := by decide +kernel
theorem dX0_hasAll_6 : decode cX0_hasAll 6 = .ok (.invokevirtual 19, 3) := by decide +kernel
theorem dX0_hasAll_9 : decode cX0_hasAll 9 = .ok (.if_icmp .gt 7, 3) := by decide +kernel
theorem dX0_hasAll_12 : decode cX0_hasAll 12 = .ok (.iconst 1, 1) := by decide +kernel
theorem dX0_hasAll_13 : decode cX0_hasAll 13 = .ok (.goto 4, 3) := by decide +kernel
theorem dX0_hasAll_16 : decode cX0_hasAll 16 = .ok (.iconst 0, 1) := by decide +kernel
theorem dX0_hasAll_17 : decode cX0_hasAll 17 = .ok (.ireturn, 1) := by decide +kernel
set_option maxRecDepth 20000 in
theorem ggX0_knows_X5_isDeed : GoodIn wsX0_knows wsX5_isDeed := goodIn_r _ [3] (by decide +kernel) (by decide +kernel)
set_option maxRecDepth 20000 in
theorem gX0_knows_X5_isDeed_n23 : GoodIn wsX0_knows (wsX5_isDeed) := ggX0_knows_X5_isDeed
set_option maxRecDepth 20000 in
theorem ggX0_knows_X5_doer : GoodIn wsX0_knows wsX5_doer := goodIn_r _ [5] (by decide +kernel) (by decide +kernel)
set_option maxRecDepth 20000 in
theorem gX0_knows_X5_doer_n27 : GoodIn wsX0_knows (wsX5_doer) := ggX0_knows_X5_doer
set_option maxRecDepth 20000 in
theorem ggX0_knows_X0_has : GoodIn wsX0_knows wsX0_has := goodIn_r _ [10, 11, 15, 16] (by decide +kernel) (by decide +kernel)
set_option maxRecDepth 20000 in
theorem gX0_knows_X0_has : GoodIn wsX0_knows (wsV RX0 31 RX0 yX0_has wsX0_has) := goodIn_app (goodIn_of _ (by decide +kernel)) ggX0_knows_X0_has
set_option maxRecDepth 20000 in
theorem ggX0_knows_X5_prey : GoodIn wsX0_knows wsX5_prey := goodIn_r _ [13, 14, 4, 2, 5] (by decide +kernel) (by decide +kernel)
set_option maxRecDepth 20000 in
theorem gX0_knows_X5_prey_n34 : GoodIn wsX0_knows (wsX5_prey) := ggX0_knows_X5_prey
theorem dX0_knows_0 : decode cX0_knows 0 = .ok (.iload_n 1, 1) := by decide +kernel
theorem dX0_knows_1 : decode cX0_knows 1 = .ok (.invokestatic 23, 3) := by decide +kernel
theorem dX0_knows_4 : decode cX0_knows 4 = .ok (.ifCond .eq 29, 3) := by decide +kernel
theorem dX0_knows_7 : decode cX0_knows 7 = .ok (.aload_n 0, 1) := by decide +kernel
theorem dX0_knows_8 : decode cX0_knows 8 = .ok (.iload_n 1, 1) := by decide +kernel
theorem dX0_knows_9 : decode cX0_knows 9 = .ok (.invokestatic 27, 3) := by decide +kernel
theorem dX0_knows_12 : decode cX0_knows 12 = .ok (.invokevirtual 31, 3) := by decide +kernel
theorem dX0_knows_15 : decode cX0_knows 15 = .ok (.ifCond .eq 18, 3) := by decide +kernel
theorem dX0_knows_18 : decode cX0_knows 18 = .ok (.aload_n 0, 1) := by decide +kernel
theorem dX0_knows_19 : decode cX0_knows 19 = .ok (.iload_n 1, 1) := by decide +kernel
theorem dX0_knows_20 : decode cX0_knows 20 = .ok (.invokestatic 34, 3) := by decide +kernel
theorem dX0_knows_23 : decode cX0_knows 23 = .ok (.invokevirtual 31, 3) := by decide +kernel
theorem dX0_knows_26 : decode cX0_knows 26 = .ok (.ifCond .eq 7, 3) := by decide +kernel
theorem dX0_knows_29 : decode cX0_knows 29 = .ok (.iconst 1, 1) := by decide +kernel
theorem dX0_knows_30 : decode cX0_knows 30 = .ok (.goto 4, 3) := by decide +kernel
theorem dX0_knows_33 : decode cX0_knows 33 = .ok (.iconst 0, 1) := by decide +kernel
theorem dX0_knows_34 : decode cX0_knows 34 = .ok (.ireturn, 1) := by decide +kernel
theorem dX0_join_0 : decode cX0_join 0 = .ok (.aload_n 0, 1) := by decide +kernel
theorem dX0_join_1 : decode cX0_join 1 = .ok (.getfield 15, 3) := by decide +kernel
theorem dX0_join_4 : decode cX0_join 4 = .ok (.iconst 4, 1) := by decide +kernel
theorem dX0_join_5 : decode cX0_join 5 = .ok (.imul, 1) := by decide +kernel
theorem dX0_join_6 : decode cX0_join 6 = .ok (.istore 5, 2) := by decide +kernel
theorem dX0_join_8 : decode cX0_join 8 = .ok (.aload_n 0, 1) := by decide +kernel
theorem dX0_join_9 : decode cX0_join 9 = .ok (.getfield 15, 3) := by decide +kernel
theorem dX0_join_12 : decode cX0_join 12 = .ok (.ifCond .lt 23, 3) := by decide +kernel
theorem dX0_join_15 : decode cX0_join 15 = .ok (.aload_n 0, 1) := by decide +kernel
theorem dX0_join_16 : decode cX0_join 16 = .ok (.getfield 15, 3) := by decide +kernel
theorem dX0_join_19 : decode cX0_join 19 = .ok (.iconst 5, 1) := by decide +kernel
theorem dX0_join_20 : decode cX0_join 20 = .ok (.if_icmp .ge 15, 3) := by decide +kernel
theorem dX0_join_23 : decode cX0_join 23 = .ok (.iload 5, 2) := by decide +kernel
theorem dX0_join_25 : decode cX0_join 25 = .ok (.iconst 3, 1) := by decide +kernel
theorem dX0_join_26 : decode cX0_join 26 = .ok (.iadd, 1) := by decide +kernel
theorem dX0_join_27 : decode cX0_join 27 = .ok (.aload_n 0, 1) := by decide +kernel
theorem dX0_join_28 : decode cX0_join 28 = .ok (.getfield 9, 3) := by decide +kernel
theorem dX0_join_31 : decode cX0_join 31 = .ok (.arraylength, 1) := by decide +kernel
theorem dX0_join_32 : decode cX0_join 32 = .ok (.if_icmp .lt 5, 3) := by decide +kernel
theorem dX0_join_35 : decode cX0_join 35 = .ok (.iconst (-1), 1) := by decide +kernel
theorem dX0_join_36 : decode cX0_join 36 = .ok (.ireturn, 1) := by decide +kernel
theorem dX0_join_37 : decode cX0_join 37 = .ok (.aload_n 0, 1) := by decide +kernel
theorem dX0_join_38 : decode cX0_join 38 = .ok (.getfield 9, 3) := by decide +kernel
theorem dX0_join_41 : decode cX0_join 41 = .ok (.iload 5, 2) := by decide +kernel
theorem dX0_join_43 : decode cX0_join 43 = .ok (.iconst 0, 1) := by decide +kernel
theorem dX0_join_44 : decode cX0_join 44 = .ok (.iadd, 1) := by decide +kernel
theorem dX0_join_45 : decode cX0_join 45 = .ok (.iload_n 1, 1) := by decide +kernel
theorem dX0_join_46 : decode cX0_join 46 = .ok (.iastore, 1) := by decide +kernel
theorem dX0_join_47 : decode cX0_join 47 = .ok (.aload_n 0, 1) := by decide +kernel
theorem dX0_join_48 : decode cX0_join 48 = .ok (.getfield 9, 3) := by decide +kernel
theorem dX0_join_51 : decode cX0_join 51 = .ok (.iload 5, 2) := by decide +kernel
theorem dX0_join_53 : decode cX0_join 53 = .ok (.iconst 1, 1) := by decide +kernel
theorem dX0_join_54 : decode cX0_join 54 = .ok (.iadd, 1) := by decide +kernel
theorem dX0_join_55 : decode cX0_join 55 = .ok (.iload_n 2, 1) := by decide +kernel
theorem dX0_join_56 : decode cX0_join 56 = .ok (.iastore, 1) := by decide +kernel
theorem dX0_join_57 : decode cX0_join 57 = .ok (.aload_n 0, 1) := by decide +kernel
theorem dX0_join_58 : decode cX0_join 58 = .ok (.getfield 9, 3) := by decide +kernel
theorem dX0_join_61 : decode cX0_join 61 = .ok (.iload 5, 2) := by decide +kernel
theorem dX0_join_63 : decode cX0_join 63 = .ok (.iconst 2, 1) := by decide +kernel
theorem dX0_join_64 : decode cX0_join 64 = .ok (.iadd, 1) := by decide +kernel
theorem dX0_join_65 : decode cX0_join 65 = .ok (.iload_n 3, 1) := by decide +kernel
theorem dX0_join_66 : decode cX0_join 66 = .ok (.iastore, 1) := by decide +kernel
theorem dX0_join_67 : decode cX0_join 67 = .ok (.aload_n 0, 1) := by decide +kernel
theorem dX0_join_68 : decode cX0_join 68 = .ok (.getfield 9, 3) := by decide +kernel
theorem dX0_join_71 : decode cX0_join 71 = .ok (.iload 5, 2) := by decide +kernel
theorem dX0_join_73 : decode cX0_join 73 = .ok (.iconst 3, 1) := by decide +kernel
theorem dX0_join_74 : decode cX0_join 74 = .ok (.iadd, 1) := by decide +kernel
theorem dX0_join_75 : decode cX0_join 75 = .ok (.iload 4, 2) := by decide +kernel
theorem dX0_join_77 : decode cX0_join 77 = .ok (.iastore, 1) := by decide +kernel
theorem dX0_join_78 : decode cX0_join 78 = .ok (.aload_n 0, 1) := by decide +kernel
theorem dX0_join_79 : decode cX0_join 79 = .ok (.dup, 1) := by decide +kernel
theorem dX0_join_80 : decode cX0_join 80 = .ok (.getfield 15, 3) := by decide +kernel
theorem dX0_join_83 : decode cX0_join 83 = .ok (.iconst 1, 1) := by decide +kernel
theorem dX0_join_84 : decode cX0_join 84 = .ok (.iadd, 1) := by decide +kernel
theorem dX0_join_85 : decode cX0_join 85 = .ok (.putfield 15, 3) := by decide +kernel
theorem dX0_join_88 : decode cX0_join 88 = .ok (.aload_n 0, 1) := by decide +kernel
theorem dX0_join_89 : decode cX0_join 89 = .ok (.getfield 15, 3) := by decide +kernel
theorem dX0_join_92 : decode cX0_join 92 = .ok (.iconst 1, 1) := by decide +kernel
theorem dX0_join_93 : decode cX0_join 93 = .ok (.isub, 1) := by decide +kernel
theorem dX0_join_94 : decode cX0_join 94 = .ok (.ireturn, 1) := by decide +kernel
theorem dX0_trait_0 : decode cX0_trait 0 = .ok (.iload_n 1, 1) := by decide +kernel
theorem dX0_trait_1 : decode cX0_trait 1 = .ok (.iconst 4, 1) := by decide +kernel
theorem dX0_trait_2 : decode cX0_trait 2 = .ok (.imul, 1) := by decide +kernel
theorem dX0_trait_3 : decode cX0_trait 3 = .ok (.iload_n 2, 1) := by decide +kernel
theorem dX0_trait_4 : decode cX0_trait 4 = .ok (.iadd, 1) := by decide +kernel
theorem dX0_trait_5 : decode cX0_trait 5 = .ok (.istore_n 3, 1) := by decide +kernel
theorem dX0_trait_6 : decode cX0_trait 6 = .ok (.iload_n 3, 1) := by decide +kernel
theorem dX0_trait_7 : decode cX0_trait 7 = .ok (.ifCond .lt 21, 3) := by decide +kernel
theorem dX0_trait_10 : decode cX0_trait 10 = .ok (.iload_n 3, 1) := by decide +kernel
theorem dX0_trait_11 : decode cX0_trait 11 = .ok (.aload_n 0, 1) := by decide +kernel
theorem dX0_trait_12 : decode cX0_trait 12 = .ok (.getfield 9, 3) := by decide +kernel
theorem dX0_trait_15 : decode cX0_trait 15 = .ok (.arraylength, 1) := by decide +kernel
theorem dX0_trait_16 : decode cX0_trait 16 = .ok (.if_icmp .ge 12, 3) := by decide +kernel
theorem dX0_trait_19 : decode cX0_trait 19 = .ok (.aload_n 0, 1) := by decide +kernel
theorem dX0_trait_20 : decode cX0_trait 20 = .ok (.getfield 9, 3) := by decide +kernel
theorem dX0_trait_23 : decode cX0_trait 23 = .ok (.iload_n 3, 1) := by decide +kernel
theorem dX0_trait_24 : decode cX0_trait 24 = .ok (.iaload, 1) := by decide +kernel
theorem dX0_trait_25 : decode cX0_trait 25 = .ok (.goto 4, 3) := by decide +kernel
theorem dX0_trait_28 : decode cX0_trait 28 = .ok (.iconst 0, 1) := by decide +kernel
theorem dX0_trait_29 : decode cX0_trait 29 = .ok (.ireturn, 1) := by decide +kernel
set_option maxRecDepth 20000 in
theorem ggX0_isOf_X0_trait : GoodIn wsX0_isOf wsX0_trait := goodIn_r _ [6, 7, 8, 9] (by decide +kernel) (by decide +kernel)
set_option maxRecDepth 20000 in
theorem gX0_isOf_X0_trait : GoodIn wsX0_isOf (wsV RX0 37 RX0 yX0_trait wsX0_trait) := goodIn_app (goodIn_of _ (by decide +kernel)) ggX0_isOf_X0_trait
theorem dX0_isOf_0 : decode cX0_isOf 0 = .ok (.aload_n 0, 1) := by decide +kernel
theorem dX0_isOf_1 : decode cX0_isOf 1 = .ok (.iload_n 1, 1) := by decide +kernel
theorem dX0_isOf_2 : decode cX0_isOf 2 = .ok (.iconst 0, 1) := by decide +kernel
theorem dX0_isOf_3 : decode cX0_isOf 3 = .ok (.invokevirtual 37, 3) := by decide +kernel
theorem dX0_isOf_6 : decode cX0_isOf 6 = .ok (.istore_n 3, 1) := by decide +kernel
theorem dX0_isOf_7 : decode cX0_isOf 7 = .ok (.iload_n 3, 1) := by decide +kernel
theorem dX0_isOf_8 : decode cX0_isOf 8 = .ok (.ifCond .lt 11, 3) := by decide +kernel
theorem dX0_isOf_11 : decode cX0_isOf 11 = .ok (.iload_n 3, 1) := by decide +kernel
theorem dX0_isOf_12 : decode cX0_isOf 12 = .ok (.getstatic 41, 3) := by decide +kernel
theorem dX0_isOf_15 : decode cX0_isOf 15 = .ok (.arraylength, 1) := by decide +kernel
theorem dX0_isOf_16 : decode cX0_isOf 16 = .ok (.if_icmp .lt 5, 3) := by decide +kernel
theorem dX0_isOf_19 : decode cX0_isOf 19 = .ok (.iconst 0, 1) := by decide +kernel
theorem dX0_isOf_20 : decode cX0_isOf 20 = .ok (.ireturn, 1) := by decide +kernel
theorem dX0_isOf_21 : decode cX0_isOf 21 = .ok (.getstatic 41, 3) := by decide +kernel
theorem dX0_isOf_24 : decode cX0_isOf 24 = .ok (.iload_n 3, 1) := by decide +kernel
theorem dX0_isOf_25 : decode cX0_isOf 25 = .ok (.iaload, 1) := by decide +kernel
theorem dX0_isOf_26 : decode cX0_isOf 26 = .ok (.iload_n 2, 1) := by decide +kernel
theorem dX0_isOf_27 : decode cX0_isOf 27 = .ok (.ishr, 1) := by decide +kernel
theorem dX0_isOf_28 : decode cX0_isOf 28 = .ok (.iconst 1, 1) := by decide +kernel
theorem dX0_isOf_29 : decode cX0_isOf 29 = .ok (.iand, 1) := by decide +kernel
theorem dX0_isOf_30 : decode cX0_isOf 30 = .ok (.iconst 1, 1) := by decide +kernel
theorem dX0_isOf_31 : decode cX0_isOf 31 = .ok (.if_icmp .ne 7, 3) := by decide +kernel
theorem dX0_isOf_34 : decode cX0_isOf 34 = .ok (.iconst 1, 1) := by decide +kernel
theorem dX0_isOf_35 : decode cX0_isOf 35 = .ok (.goto 4, 3) := by decide +kernel
theorem dX0_isOf_38 : decode cX0_isOf 38 = .ok (.iconst 0, 1) := by decide +kernel
theorem dX0_isOf_39 : decode cX0_isOf 39 = .ok (.ireturn, 1) := by decide +kernel
end
section
set_option maxRecDepth 20000 in
theorem ggX1_init_J7_fill_53178 : GoodIn wsX1_init wsJ7_fill_53178 := goodIn_r _ [10] (by decide +kernel) (by decide +kernel)
set_option maxRecDepth 20000 in
theorem gX1_init_J7_fill_53178 : GoodIn wsX1_init (va_wsS RX1 19 yJ7_fill_53178 wsJ7_fill_53178) := goodIn_app (goodIn_of _ (by decide +kernel)) ggX1_init_J7_fill_53178
theorem dX1_init_0 : decode cX1_init 0 = .ok (.aload_n 0, 1) := by decide +kernel
theorem dX1_init_1 : decode cX1_init 1 = .ok (.invokespecial 3, 3) := by decide +kernel
theorem dX1_init_4 : decode cX1_init 4 = .ok (.aload_n 0, 1) := by decide +kernel
theorem dX1_init_5 : decode cX1_init 5 = .ok (.iconst 5, 1) := by decide +kernel
theorem dX1_init_6 : decode cX1_init 6 = .ok (.newarray .int, 2) := by decide +kernel
theorem dX1_init_8 : decode cX1_init 8 = .ok (.putfield 9, 3) := by decide +kernel
theorem dX1_init_11 : decode cX1_init 11 = .ok (.aload_n 0, 1) := by decide +kernel
theorem dX1_init_12 : decode cX1_init 12 = .ok (.aload_n 1, 1) := by decide +kernel
theorem dX1_init_13 : decode cX1_init 13 = .ok (.putfield 15, 3) := by decide +kernel
theorem dX1_init_16 : decode cX1_init 16 = .ok (.aload_n 0, 1) := by decide +kernel
theorem dX1_init_17 : decode cX1_init 17 = .ok (.getfield 9, 3) := by decide +kernel
theorem dX1_init_20 : decode cX1_init 20 = .ok (.iconst (-1), 1) := by decide +kernel
theorem dX1_init_21 : decode cX1_init 21 = .ok (.invokestatic 19, 3) := by decide +kernel
theorem dX1_init_24 : decode cX1_init 24 = .ok (.return_, 1) := by decide +kernel
theorem dX1_holder_0 : decode cX1_holder 0 = .ok (.iload_n 1, 1) := by decide +kernel
theorem dX1_holder_1 : decode cX1_holder 1 = .ok (.ifCond .lt 21, 3) := by decide +kernel
theorem dX1_holder_4 : decode cX1_holder 4 = .ok (.iload_n 1, 1) := by decide +kernel
theorem dX1_holder_5 : decode cX1_holder 5 = .ok (.aload_n 0, 1) := by decide +kernel
theorem dX1_holder_6 : decode cX1_holder 6 = .ok (.getfield 9, 3) := by decide +kernel
theorem dX1_holder_9 : decode cX1_holder 9 = .ok (.arraylength, 1) := by decide +kernel
theorem dX1_holder_10 : decode cX1_holder 10 = .ok (.if_icmp .ge 12, 3) := by decide +kernel
theorem dX1_holder_13 : decode cX1_holder 13 = .ok (.aload_n 0, 1) := by decide +kernel
theorem dX1_holder_14 : decode cX1_holder 14 = .ok (.getfield 9, 3) := by decide +kernel
theorem dX1_holder_17 : decode cX1_holder 17 = .ok (.iload_n 1, 1) := by decide +kernel
theorem dX1_holder_18 : decode cX1_holder 18 = .ok (.iaload, 1) := by decide +kernel
theorem dX1_holder_19 : decode cX1_holder 19 = .ok (.goto 4, 3) := by decide +kernel
theorem dX1_holder_22 : decode cX1_holder 22 = .ok (.iconst (-1), 1) := by decide +kernel
theorem dX1_holder_23 : decode cX1_holder 23 = .ok (.ireturn, 1) := by decide +kernel
theorem dX1_put_0 : decode cX1_put 0 = .ok (.iload_n 1, 1) := by decide +kernel
theorem dX1_put_1 : decode cX1_put 1 = .ok (.ifCond .lt 19, 3) := by decide +kernel
theorem dX1_put_4 : decode cX1_put 4 = .ok (.iload_n 1, 1) := by decide +kernel
theorem dX1_put_5 : decode cX1_put 5 = .ok (.aload_n 0, 1) := by decide +kernel
theorem dX1_put_6 : decode cX1_put 6 = .ok (.getfield 9, 3) := by decide +kernel
theorem dX1_put_9 : decode cX1_put 9 = .ok (.arraylength, 1) := by decide +kernel
theorem dX1_put_10 : decode cX1_put 10 = .ok (.if_icmp .ge 10, 3) := by decide +kernel
theorem dX1_put_13 : decode cX1_put 13 = .ok (.aload_n 0, 1) := by decide +kernel
theorem dX1_put_14 : decode cX1_put 14 = .ok (.getfield 9, 3) := by decide +kernel
theorem dX1_put_17 : decode cX1_put 17 = .ok (.iload_n 1, 1) := by decide +kernel
theorem dX1_put_18 : decode cX1_put 18 = .ok (.iload_n 2, 1) := by decide +kernel
theorem dX1_put_19 : decode cX1_put 19 = .ok (.iastore, 1) := by decide +kernel
theorem dX1_put_20 : decode cX1_put 20 = .ok (.return_, 1) := by decide +kernel
set_option maxRecDepth 20000 in
theorem ggX1_copy_X1_holder : GoodIn wsX1_copy wsX1_holder := goodIn_r _ [6, 1, 7, 8] (by decide +kernel) (by decide +kernel)
set_option maxRecDepth 20000 in
theorem gX1_copy_X1_holder : GoodIn wsX1_copy (wsV RX1 25 RX1 yX1_holder wsX1_holder) := goodIn_app (goodIn_of _ (by decide +kernel)) ggX1_copy_X1_holder
theorem dX1_copy_0 : decode cX1_copy 0 = .ok (.iconst 0, 1) := by decide +kernel
theorem dX1_copy_1 : decode cX1_copy 1 = .ok (.istore_n 2, 1) := by decide +kernel
theorem dX1_copy_2 : decode cX1_copy 2 = .ok (.iload_n 2, 1) := by decide +kernel
theorem dX1_copy_3 : decode cX1_copy 3 = .ok (.aload_n 0, 1) := by decide +kernel
theorem dX1_copy_4 : decode cX1_copy 4 = .ok (.getfield 9, 3) := by decide +kernel
theorem dX1_copy_7 : decode cX1_copy 7 = .ok (.arraylength, 1) := by decide +kernel
theorem dX1_copy_8 : decode cX1_copy 8 = .ok (.if_icmp .ge 20, 3) := by decide +kernel
theorem dX1_copy_11 : decode cX1_copy 11 = .ok (.aload_n 0, 1) := by decide +kernel
theorem dX1_copy_12 : decode cX1_copy 12 = .ok (.getfield 9, 3) := by decide +kernel
theorem dX1_copy_15 : decode cX1_copy 15 = .ok (.iload_n 2, 1) := by decide +kernel
theorem dX1_copy_16 : decode cX1_copy 16 = .ok (.aload_n 1, 1) := by decide +kernel
theorem dX1_copy_17 : decode cX1_copy 17 = .ok (.iload_n 2, 1) := by decide +kernel
theorem dX1_copy_18 : decode cX1_copy 18 = .ok (.invokevirtual 25, 3) := by decide +kernel
theorem dX1_copy_21 : decode cX1_copy 21 = .ok (.iastore, 1) := by decide +kernel
theorem dX1_copy_22 : decode cX1_copy 22 = .ok (.iinc 2 1, 3) := by decide +kernel
theorem dX1_copy_25 : decode cX1_copy 25 = .ok (.goto (-23), 3) := by decide +kernel
theorem dX1_copy_28 : decode cX1_copy 28 = .ok (.return_, 1) := by decide +kernel
theorem dX1_toNumber_0 : decode cX1_toNumber 0 = .ok (.iconst 0, 1) := by decide +kernel
theorem dX1_toNumber_1 : decode cX1_toNumber 1 = .ok (.istore_n 1, 1) := by decide +kernel
theorem dX1_toNumber_2 : decode cX1_toNumber 2 = .ok (.aload_n 0, 1) := by decide +kernel
theorem dX1_toNumber_3 : decode cX1_toNumber 3 = .ok (.getfield 9, 3) := by decide +kernel
theorem dX1_toNumber_6 : decode cX1_toNumber 6 = .ok (.arraylength, 1) := by decide +kernel
theorem dX1_toNumber_7 : decode cX1_toNumber 7 = .ok (.iconst 1, 1) := by decide +kernel
theorem dX1_toNumber_8 : decode cX1_toNumber 8 = .ok (.isub, 1) := by decide +kernel
theorem dX1_toNumber_9 : decode cX1_toNumber 9 = .ok (.istore_n 2, 1) := by decide +kernel
theorem dX1_toNumber_10 : decode cX1_toNumber 10 = .ok (.iload_n 2, 1) := by decide +kernel
theorem dX1_toNumber_11 : decode cX1_toNumber 11 = .ok (.ifCond .lt 23, 3) := by decide +kernel
theorem dX1_toNumber_14 : decode cX1_toNumber 14 = .ok (.iload_n 1, 1) := by decide +kernel
theorem dX1_toNumber_15 : decode cX1_toNumber 15 = .ok (.bipush 6, 2) := by decide +kernel
theorem dX1_toNumber_17 : decode cX1_toNumber 17 = .ok (.imul, 1) := by decide +kernel
theorem dX1_toNumber_18 : decode cX1_toNumber 18 = .ok (.aload_n 0, 1) := by decide +kernel
theorem dX1_toNumber_19 : decode cX1_toNumber 19 = .ok (.getfield 9, 3) := by decide +kernel
theorem dX1_toNumber_22 : decode cX1_toNumber 22 = .ok (.iload_n 2, 1) := by decide +kernel
theorem dX1_toNumber_23 : decode cX1_toNumber 23 = .ok (.iaload, 1) := by decide +kernel
theorem dX1_toNumber_24 : decode cX1_toNumber 24 = .ok (.iadd, 1) := by decide +kernel
theorem dX1_toNumber_25 : decode cX1_toNumber 25 = .ok (.iconst 1, 1) := by decide +kernel
theorem dX1_toNumber_26 : decode cX1_toNumber 26 = .ok (.iadd, 1) := by decide +kernel
theorem dX1_toNumber_27 : decode cX1_toNumber 27 = .ok (.istore_n 1, 1) := by decide +kernel
theorem dX1_toNumber_28 : decode cX1_toNumber 28 = .ok (.iinc 2 (-1), 3) := by decide +kernel
theorem dX1_toNumber_31 : decode cX1_toNumber 31 = .ok (.goto (-21), 3) := by decide +kernel
theorem dX1_toNumber_34 : decode cX1_toNumber 34 = .ok (.iload_n 1, 1) := by decide +kernel
theorem dX1_toNumber_35 : decode cX1_toNumber 35 = .ok (.ireturn, 1) := by decide +kernel
theorem dX1_become_0 : decode cX1_become 0 = .ok (.iload_n 1, 1) := by decide +kernel
theorem dX1_become_1 : decode cX1_become 1 = .ok (.istore_n 2, 1) := by decide +kernel
theorem dX1_become_2 : decode cX1_become 2 = .ok (.iconst 0, 1) := by decide +kernel
theorem dX1_become_3 : decode cX1_become 3 = .ok (.istore_n 3, 1) := by decide +kernel
theorem dX1_become_4 : decode cX1_become 4 = .ok (.iload_n 3, 1) := by decide +kernel
theorem dX1_become_5 : decode cX1_become 5 = .ok (.aload_n 0, 1) := by decide +kernel
theorem dX1_become_6 : decode cX1_become 6 = .ok (.getfield 9, 3) := by decide +kernel
theorem dX1_become_9 : decode cX1_become 9 = .ok (.arraylength, 1) := by decide +kernel
theorem dX1_become_10 : decode cX1_become 10 = .ok (.if_icmp .ge 26, 3) := by decide +kernel
theorem dX1_become_13 : decode cX1_become 13 = .ok (.aload_n 0, 1) := by decide +kernel
theorem dX1_become_14 : decode cX1_become 14 = .ok (.getfield 9, 3) := by decide +kernel
theorem dX1_become_17 : decode cX1_become 17 = .ok (.iload_n 3, 1) := by decide +kernel
theorem dX1_become_18 : decode cX1_become 18 = .ok (.iload_n 2, 1) := by decide +kernel
theorem dX1_become_19 : decode cX1_become 19 = .ok (.bipush 6, 2) := by decide +kernel
theorem dX1_become_21 : decode cX1_become 21 = .ok (.irem, 1) := by decide +kernel
theorem dX1_become_22 : decode cX1_become 22 = .ok (.iconst 1, 1) := by decide +kernel
theorem dX1_become_23 : decode cX1_become 23 = .ok (.isub, 1) := by decide +kernel
theorem dX1_become_24 : decode cX1_become 24 = .ok (.iastore, 1) := by decide +kernel
theorem dX1_become_25 : decode cX1_become 25 = .ok (.iload_n 2, 1) := by decide +kernel
theorem dX1_become_26 : decode cX1_become 26 = .ok (.bipush 6, 2) := by decide +kernel
theorem dX1_become_28 : decode cX1_become 28 = .ok (.idiv, 1) := by decide +kernel
theorem dX1_become_29 : decode cX1_become 29 = .ok (.istore_n 2, 1) := by decide +kernel
theorem dX1_become_30 : decode cX1_become 30 = .ok (.iinc 3 1, 3) := by decide +kernel
theorem dX1_become_33 : decode cX1_become 33 = .ok (.goto (-29), 3) := by decide +kernel
theorem dX1_become_36 : decode cX1_become 36 = .ok (.return_, 1) := by decide +kernel
set_option maxRecDepth 20000 in
theorem ggX1_filled_X0_total : GoodIn wsX1_filled wsX0_total := goodIn_r _ [6, 7, 21, 22] (by decide +kernel) (by decide +kernel)
set_option maxRecDepth 20000 in
theorem gX1_filled_X0_total : GoodIn wsX1_filled (wsV RX1 29 RX0 yX0_total wsX0_total) := goodIn_app (goodIn_of _ (by decide +kernel)) ggX1_filled_X0_total
set_option maxRecDepth 20000 in
theorem ggX1_filled_X1_holder : GoodIn wsX1_filled wsX1_holder := goodIn_r _ [12, 13, 19, 20] (by decide +kernel) (by decide +kernel)
set_option maxRecDepth 20000 in
theorem gX1_filled_X1_holder : GoodIn wsX1_filled (wsV RX1 25 RX1 yX1_holder wsX1_holder) := goodIn_app (goodIn_of _ (by decide +kernel)) ggX1_filled_X1_holder
set_option maxRecDepth 20000 in
theorem ggX1_filled_X0_trait : GoodIn wsX1_filled wsX0_trait := goodIn_r _ [17, 18, 21, 22] (by decide +kernel) (by decide +kernel)
set_option maxRecDepth 20000 in
theorem gX1_filled_X0_trait : GoodIn wsX1_filled (wsV RX1 35 RX0 yX0_trait wsX0_trait) := goodIn_app (goodIn_of _ (by decide +kernel)) ggX1_filled_X0_trait
theorem dX1_filled_0 : decode cX1_filled 0 = .ok (.iconst 0, 1) := by decide +kernel
theorem dX1_filled_1 : decode cX1_filled 1 = .ok (.istore_n 2, 1) := by decide +kernel
theorem dX1_filled_2 : decode cX1_filled 2 = .ok (.iconst 0, 1) := by decide +kernel
theorem dX1_filled_3 : decode cX1_filled 3 = .ok (.istore_n 3, 1) := by decide +kernel
theorem dX1_filled_4 : decode cX1_filled 4 = .ok (.iload_n 3, 1) := by decide +kernel
theorem dX1_filled_5 : decode cX1_filled 5 = .ok (.aload_n 0, 1) := by decide +kernel
theorem dX1_filled_6 : decode cX1_filled 6 = .ok (.getfield 15, 3) := by decide +kernel
theorem dX1_filled_9 : decode cX1_filled 9 = .ok (.invokevirtual 29, 3) := by decide +kernel
theorem dX1_filled_12 : decode cX1_filled 12 = .ok (.if_icmp .ge 30, 3) := by decide +kernel
theorem dX1_filled_15 : decode cX1_filled 15 = .ok (.aload_n 0, 1) := by decide +kernel
theorem dX1_filled_16 : decode cX1_filled 16 = .ok (.iload_n 3, 1) := by decide +kernel
theorem dX1_filled_17 : decode cX1_filled 17 = .ok (.invokevirtual 25, 3) := by decide +kernel
theorem dX1_filled_20 : decode cX1_filled 20 = .ok (.iload_n 1, 1) := by decide +kernel
theorem dX1_filled_21 : decode cX1_filled 21 = .ok (.if_icmp .ne 15, 3) := by decide +kernel
theorem dX1_filled_24 : decode cX1_filled 24 = .ok (.iload_n 2, 1) := by decide +kernel
theorem dX1_filled_25 : decode cX1_filled 25 = .ok (.aload_n 0, 1) := by decide +kernel
theorem dX1_filled_26 : decode cX1_filled 26 = .ok (.getfield 15, 3) := by decide +kernel
theorem dX1_filled_29 : decode cX1_filled 29 = .ok (.iload_n 3, 1) := by decide +kernel
theorem dX1_filled_30 : decode cX1_filled 30 = .ok (.iconst 1, 1) := by decide +kernel
theorem dX1_filled_31 : decode cX1_filled 31 = .ok (.invokevirtual 35, 3) := by decide +kernel
theorem dX1_filled_34 : decode cX1_filled 34 = .ok (.iadd, 1) := by decide +kernel
theorem dX1_filled_35 : decode cX1_filled 35 = .ok (.istore_n 2, 1) := by decide +kernel
theorem dX1_filled_36 : decode cX1_filled 36 = .ok (.iinc 3 1, 3) := by decide +kernel
theorem dX1_filled_39 : decode cX1_filled 39 = .ok (.goto (-35), 3) := by decide +kernel
theorem dX1_filled_42 : decode cX1_filled 42 = .ok (.iload_n 2, 1) := by decide +kernel
theorem dX1_filled_43 : decode cX1_filled 43 = .ok (.ireturn, 1) := by decide +kernel
set_option maxRecDepth 20000 in
theorem ggX1_outside_X0_total : GoodIn wsX1_outside wsX0_total := goodIn_r _ [6, 7, 16, 17] (by decide +kernel) (by decide +kernel)
set_option maxRecDepth 20000 in
theorem gX1_outside_X0_total : GoodIn wsX1_outside (wsV RX1 29 RX0 yX0_total wsX0_total) := goodIn_app (goodIn_of _ (by decide +kernel)) ggX1_outside_X0_total
set_option maxRecDepth 20000 in
theorem ggX1_outside_X1_holder : GoodIn wsX1_outside wsX1_holder := goodIn_r _ [12, 13, 14, 15] (by decide +kernel) (by decide +kernel)
set_option maxRecDepth 20000 in
theorem gX1_outside_X1_holder : GoodIn wsX1_outside (wsV RX1 25 RX1 yX1_holder wsX1_holder) := goodIn_app (goodIn_of _ (by decide +kernel)) ggX1_outside_X1_holder
theorem dX1_outside_0 : decode cX1_outside 0 = .ok (.iconst 0, 1) := by decide +kernel
theorem dX1_outside_1 : decode cX1_outside 1 = .ok (.istore_n 1, 1) := by decide +kernel
theorem dX1_outside_2 : decode cX1_outside 2 = .ok (.iconst 0, 1) := by decide +kernel
theorem dX1_outside_3 : decode cX1_outside 3 = .ok (.istore_n 2, 1) := by decide +kernel
theorem dX1_outside_4 : decode cX1_outside 4 = .ok (.iload_n 2, 1) := by decide +kernel
theorem dX1_outside_5 : decode cX1_outside 5 = .ok (.aload_n 0, 1) := by decide +kernel
theorem dX1_outside_6 : decode cX1_outside 6 = .ok (.getfield 15, 3) := by decide +kernel
theorem dX1_outside_9 : decode cX1_outside 9 = .ok (.invokevirtual 29, 3) := by decide +kernel
theorem dX1_outside_12 : decode cX1_outside 12 = .ok (.if_icmp .ge 21, 3) := by decide +kernel
theorem dX1_outside_15 : decode cX1_outside 15 = .ok (.aload_n 0, 1) := by decide +kernel
theorem dX1_outside_16 : decode cX1_outside 16 = .ok (.iload_n 2, 1) := by decide +kernel
theorem dX1_outside_17 : decode cX1_outside 17 = .ok (.invokevirtual 25, 3) := by decide +kernel
theorem dX1_outside_20 : decode cX1_outside 20 = .ok (.iconst (-1), 1) := by decide +kernel
theorem dX1_outside_21 : decode cX1_outside 21 = .ok (.if_icmp .ne 6, 3) := by decide +kernel
theorem dX1_outside_24 : decode cX1_outside 24 = .ok (.iinc 1 1, 3) := by decide +kernel
theorem dX1_outside_27 : decode cX1_outside 27 = .ok (.iinc 2 1, 3) := by decide +kernel
theorem dX1_outside_30 : decode cX1_outside 30 = .ok (.goto (-26), 3) := by decide +kernel
theorem dX1_outside_33 : decode cX1_outside 33 = .ok (.iload_n 1, 1) := by decide +kernel
theorem dX1_outside_34 : decode cX1_outside 34 = .ok (.ireturn, 1) := by decide +kernel
theorem dX1_areOutside_0 : decode cX1_areOutside 0 = .ok (.iconst 0, 1) := by decide +kernel
theorem dX1_areOutside_1 : decode cX1_areOutside 1 = .ok (.istore_n 2, 1) := by decide +kernel
theorem dX1_areOutside_2 : decode cX1_areOutside 2 = .ok (.iload_n 2, 1) := by decide +kernel
theorem dX1_areOutside_3 : decode cX1_areOutside 3 = .ok (.aload_n 0, 1) := by decide +kernel
theorem dX1_areOutside_4 : decode cX1_areOutside 4 = .ok (.getfield 9, 3) := by decide +kernel
theorem dX1_areOutside_7 : decode cX1_areOutside 7 = .ok (.arraylength, 1) := by decide +kernel
theorem dX1_areOutside_8 : decode cX1_areOutside 8 = .ok (.if_icmp .ge 30, 3) := by decide +kernel
theorem dX1_areOutside_11 : decode cX1_areOutside 11 = .ok (.iload_n 1, 1) := by decide +kernel
theorem dX1_areOutside_12 : decode cX1_areOutside 12 = .ok (.iload_n 2, 1) := by decide +kernel
theorem dX1_areOutside_13 : decode cX1_areOutside 13 = .ok (.ishr, 1) := by decide +kernel
theorem dX1_areOutside_14 : decode cX1_areOutside 14 = .ok (.iconst 1, 1) := by decide +kernel
theorem dX1_areOutside_15 : decode cX1_areOutside 15 = .ok (.iand, 1) := by decide +kernel
theorem dX1_areOutside_16 : decode cX1_areOutside 16 = .ok (.iconst 1, 1) := by decide +kernel
theorem dX1_areOutside_17 : decode cX1_areOutside 17 = .ok (.if_icmp .ne 15, 3) := by decide +kernel
theorem dX1_areOutside_20 : decode cX1_areOutside 20 = .ok (.aload_n 0, 1) := by decide +kernel
theorem dX1_areOutside_21 : decode cX1_areOutside 21 = .ok (.getfield 9, 3) := by decide +kernel
theorem dX1_areOutside_24 : decode cX1_areOutside 24 = .ok (.iload_n 2, 1) := by decide +kernel
theorem dX1_areOutside_25 : decode cX1_areOutside 25 = .ok (.iaload, 1) := by decide +kernel
theorem dX1_areOutside_26 : decode cX1_areOutside 26 = .ok (.iconst (-1), 1) := by decide +kernel
theorem dX1_areOutside_27 : decode cX1_areOutside 27 = .ok (.if_icmp .eq 5, 3) := by decide +kernel
theorem dX1_areOutside_30 : decode cX1_areOutside 30 = .ok (.iconst 0, 1) := by decide +kernel
theorem dX1_areOutside_31 : decode cX1_areOutside 31 = .ok (.ireturn, 1) := by decide +kernel
theorem dX1_areOutside_32 : decode cX1_areOutside 32 = .ok (.iinc 2 1, 3) := by decide +kernel
theorem dX1_areOutside_35 : decode cX1_areOutside 35 = .ok (.goto (-33), 3) := by decide +kernel
theorem dX1_areOutside_38 : decode cX1_areOutside 38 = .ok (.iconst 1, 1) := by decide +kernel
theorem dX1_areOutside_39 : decode cX1_areOutside 39 = .ok (.ireturn, 1) := by decide +kernel
set_option maxRecDepth 20000 in
theorem ggX1_walls_X1_holder : GoodIn wsX1_walls wsX1_holder := goodIn_r _ [5, 6, 7, 8] (by decide +kernel) (by decide +kernel)
set_option maxRecDepth 20000 in
theorem gX1_walls_X1_holder : GoodIn wsX1_walls (wsV RX1 25 RX1 yX1_holder wsX1_holder) := goodIn_app (goodIn_of _ (by decide +kernel)) ggX1_walls_X1_holder
theorem dX1_walls_0 : decode cX1_walls 0 = .ok (.iconst 0, 1) := by decide +kernel
theorem dX1_walls_1 : decode cX1_walls 1 = .ok (.istore_n 2, 1) := by decide +kernel
theorem dX1_walls_2 : decode cX1_walls 2 = .ok (.aload_n 0, 1) := by decide +kernel
theorem dX1_walls_3 : decode cX1_walls 3 = .ok (.iload_n 1, 1) := by decide +kernel
theorem dX1_walls_4 : decode cX1_walls 4 = .ok (.invokevirtual 25, 3) := by decide +kernel
theorem dX1_walls_7 : decode cX1_walls 7 = .ok (.istore_n 3, 1) := by decide +kernel
theorem dX1_walls_8 : decode cX1_walls 8 = .ok (.iload_n 3, 1) := by decide +kernel
theorem dX1_walls_9 : decode cX1_walls 9 = .ok (.iconst (-1), 1) := by decide +kernel
theorem dX1_walls_10 : decode cX1_walls 10 = .ok (.if_icmp .eq 20, 3) := by decide +kernel
theorem dX1_walls_13 : decode cX1_walls 13 = .ok (.iload_n 2, 1) := by decide +kernel
theorem dX1_walls_14 : decode cX1_walls 14 = .ok (.iconst 5, 1) := by decide +kernel
theorem dX1_walls_15 : decode cX1_walls 15 = .ok (.if_icmp .ge 15, 3) := by decide +kernel
theorem dX1_walls_18 : decode cX1_walls 18 = .ok (.iinc 2 1, 3) := by decide +kernel
theorem dX1_walls_21 : decode cX1_walls 21 = .ok (.aload_n 0, 1) := by decide +kernel
theorem dX1_walls_22 : decode cX1_walls 22 = .ok (.iload_n 3, 1) := by decide +kernel
theorem dX1_walls_23 : decode cX1_walls 23 = .ok (.invokevirtual 25, 3) := by decide +kernel
theorem dX1_walls_26 : decode cX1_walls 26 = .ok (.istore_n 3, 1) := by decide +kernel
theorem dX1_walls_27 : decode cX1_walls 27 = .ok (.goto (-19), 3) := by decide +kernel
theorem dX1_walls_30 : decode cX1_walls 30 = .ok (.iload_n 2, 1) := by decide +kernel
theorem dX1_walls_31 : decode cX1_walls 31 = .ok (.ireturn, 1) := by decide +kernel
set_option maxRecDepth 20000 in
theorem ggX1_heardBy_X0_total : GoodIn wsX1_heardBy wsX0_total := goodIn_r _ [6, 7, 20, 21] (by decide +kernel) (by decide +kernel)
set_option maxRecDepth 20000 in
theorem gX1_heardBy_X0_total : GoodIn wsX1_heardBy (wsV RX1 29 RX0 yX0_total wsX0_total) := goodIn_app (goodIn_of _ (by decide +kernel)) ggX1_heardBy_X0_total
set_option maxRecDepth 20000 in
theorem ggX1_heardBy_X1_hears : GoodIn wsX1_heardBy wsX1_hears := goodIn_r _ [12, 13, 14, 15, 11, 16, 17, 18, 19] (by decide +kernel) (by decide +kernel)
set_option maxRecDepth 20000 in
theorem gX1_heardBy_X1_hears : GoodIn wsX1_heardBy (wsV RX1 39 RX1 yX1_hears wsX1_hears) := goodIn_app (goodIn_of _ (by decide +kernel)) ggX1_heardBy_X1_hears
theorem dX1_heardBy_0 : decode cX1_heardBy 0 = .ok (.iconst 0, 1) := by decide +kernel
theorem dX1_heardBy_1 : decode cX1_heardBy 1 = .ok (.istore_n 2, 1) := by decide +kernel
theorem dX1_heardBy_2 : decode cX1_heardBy 2 = .ok (.iconst 0, 1) := by decide +kernel
theorem dX1_heardBy_3 : decode cX1_heardBy 3 = .ok (.istore_n 3, 1) := by decide +kernel
theorem dX1_heardBy_4 : decode cX1_heardBy 4 = .ok (.iload_n 3, 1) := by decide +kernel
theorem dX1_heardBy_5 : decode cX1_heardBy 5 = .ok (.aload_n 0, 1) := by decide +kernel
theorem dX1_heardBy_6 : decode cX1_heardBy 6 = .ok (.getfield 15, 3) := by decide +kernel
theorem dX1_heardBy_9 : decode cX1_heardBy 9 = .ok (.invokevirtual 29, 3) := by decide +kernel
theorem dX1_heardBy_12 : decode cX1_heardBy 12 = .ok (.if_icmp .ge 29, 3) := by decide +kernel
theorem dX1_heardBy_15 : decode cX1_heardBy 15 = .ok (.iload_n 3, 1) := by decide +kernel
theorem dX1_heardBy_16 : decode cX1_heardBy 16 = .ok (.iload_n 1, 1) := by decide +kernel
theorem dX1_heardBy_17 : decode cX1_heardBy 17 = .ok (.if_icmp .eq 18, 3) := by decide +kernel
theorem dX1_heardBy_20 : decode cX1_heardBy 20 = .ok (.aload_n 0, 1) := by decide +kernel
theorem dX1_heardBy_21 : decode cX1_heardBy 21 = .ok (.iload_n 1, 1) := by decide +kernel
theorem dX1_heardBy_22 : decode cX1_heardBy 22 = .ok (.iload_n 3, 1) := by decide +kernel
theorem dX1_heardBy_23 : decode cX1_heardBy 23 = .ok (.invokevirtual 39, 3) := by decide +kernel
theorem dX1_heardBy_26 : decode cX1_heardBy 26 = .ok (.ifCond .eq 9, 3) := by decide +kernel
theorem dX1_heardBy_29 : decode cX1_heardBy 29 = .ok (.iload_n 2, 1) := by decide +kernel
theorem dX1_heardBy_30 : decode cX1_heardBy 30 = .ok (.iconst 1, 1) := by decide +kernel
theorem dX1_heardBy_31 : decode cX1_heardBy 31 = .ok (.iload_n 3, 1) := by decide +kernel
theorem dX1_heardBy_32 : decode cX1_heardBy 32 = .ok (.ishl, 1) := by decide +kernel
theorem dX1_heardBy_33 : decode cX1_heardBy 33 = .ok (.ior, 1) := by decide +kernel
theorem dX1_heardBy_34 : decode cX1_heardBy 34 = .ok (.istore_n 2, 1) := by decide +kernel
theorem dX1_heardBy_35 : decode cX1_heardBy 35 = .ok (.iinc 3 1, 3) := by decide +kernel
theorem dX1_heardBy_38 : decode cX1_heardBy 38 = .ok (.goto (-34), 3) := by decide +kernel
theorem dX1_heardBy_41 : decode cX1_heardBy 41 = .ok (.iload_n 2, 1) := by decide +kernel
theorem dX1_heardBy_42 : decode cX1_heardBy 42 = .ok (.ireturn, 1) := by decide +kernel
set_option maxRecDepth 20000 in
theorem ggX1_hears_X1_holder : GoodIn wsX1_hears wsX1_holder := goodIn_r _ [5, 6, 7, 8] (by decide +kernel) (by decide +kernel)
set_option maxRecDepth 20000 in
theorem gX1_hears_X1_holder : GoodIn wsX1_hears (wsV RX1 25 RX1 yX1_holder wsX1_holder) := goodIn_app (goodIn_of _ (by decide +kernel)) ggX1_hears_X1_holder
theorem dX1_hears_0 : decode cX1_hears 0 = .ok (.aload_n 0, 1) := by decide +kernel
theorem dX1_hears_1 : decode cX1_hears 1 = .ok (.iload_n 1, 1) := by decide +kernel
theorem dX1_hears_2 : decode cX1_hears 2 = .ok (.invokevirtual 25, 3) := by decide +kernel
theorem dX1_hears_5 : decode cX1_hears 5 = .ok (.istore_n 3, 1) := by decide +kernel
theorem dX1_hears_6 : decode cX1_hears 6 = .ok (.aload_n 0, 1) := by decide +kernel
theorem dX1_hears_7 : decode cX1_hears 7 = .ok (.iload_n 2, 1) := by decide +kernel
theorem dX1_hears_8 : decode cX1_hears 8 = .ok (.invokevirtual 25, 3) := by decide +kernel
theorem dX1_hears_11 : decode cX1_hears 11 = .ok (.istore 4, 2) := by decide +kernel
theorem dX1_hears_13 : decode cX1_hears 13 = .ok (.iload_n 3, 1) := by decide +kernel
theorem dX1_hears_14 : decode cX1_hears 14 = .ok (.iload 4, 2) := by decide +kernel
theorem dX1_hears_16 : decode cX1_hears 16 = .ok (.if_icmp .eq 34, 3) := by decide +kernel
theorem dX1_hears_19 : decode cX1_hears 19 = .ok (.iload_n 3, 1) := by decide +kernel
theorem dX1_hears_20 : decode cX1_hears 20 = .ok (.iconst (-1), 1) := by decide +kernel
theorem dX1_hears_21 : decode cX1_hears 21 = .ok (.if_icmp .eq 13, 3) := by decide +kernel
theorem dX1_hears_24 : decode cX1_hears 24 = .ok (.aload_n 0, 1) := by decide +kernel
theorem dX1_hears_25 : decode cX1_hears 25 = .ok (.iload_n 3, 1) := by decide +kernel
theorem dX1_hears_26 : decode cX1_hears 26 = .ok (.invokevirtual 25, 3) := by decide +kernel
theorem dX1_hears_29 : decode cX1_hears 29 = .ok (.iload 4, 2) := by decide +kernel
theorem dX1_hears_31 : decode cX1_hears 31 = .ok (.if_icmp .eq 19, 3) := by decide +kernel
theorem dX1_hears_34 : decode cX1_hears 34 = .ok (.iload 4, 2) := by decide +kernel
theorem dX1_hears_36 : decode cX1_hears 36 = .ok (.iconst (-1), 1) := by decide +kernel
theorem dX1_hears_37 : decode cX1_hears 37 = .ok (.if_icmp .eq 17, 3) := by decide +kernel
theorem dX1_hears_40 : decode cX1_hears 40 = .ok (.aload_n 0, 1) := by decide +kernel
theorem dX1_hears_41 : decode cX1_hears 41 = .ok (.iload 4, 2) := by decide +kernel
theorem dX1_hears_43 : decode cX1_hears 43 = .ok (.invokevirtual 25, 3) := by decide +kernel
theorem dX1_hears_46 : decode cX1_hears 46 = .ok (.iload_n 3, 1) := by decide +kernel
theorem dX1_hears_47 : decode cX1_hears 47 = .ok (.if_icmp .ne 7, 3) := by decide +kernel
theorem dX1_hears_50 : decode cX1_hears 50 = .ok (.iconst 1, 1) := by decide +kernel
theorem dX1_hears_51 : decode cX1_hears 51 = .ok (.goto 4, 3) := by decide +kernel
theorem dX1_hears_54 : decode cX1_hears 54 = .ok (.iconst 0, 1) := by decide +kernel
theorem dX1_hears_55 : decode cX1_hears 55 = .ok (.ireturn, 1) := by decide +kernel
set_option maxRecDepth 20000 in
theorem ggX1_allows_X0_knows : GoodIn wsX1_allows wsX0_knows := goodIn_r _ [6, 7, 8, 9, 10, 11, 12, 13, 14, 5, 15, 16, 17, 18, 19, 59, 60] (by decide +kernel) (by decide +kernel)
set_option maxRecDepth 20000 in
theorem gX1_allows_X0_knows : GoodIn wsX1_allows (wsV RX1 43 RX0 yX0_knows wsX0_knows) := goodIn_app (goodIn_of _ (by decide +kernel)) ggX1_allows_X0_knows
set_option maxRecDepth 20000 in
theorem ggX1_allows_X5_doer : GoodIn wsX1_allows wsX5_doer := goodIn_r _ [11] (by decide +kernel) (by decide +kernel)
set_option maxRecDepth 20000 in
theorem gX1_allows_X5_doer_n47 : GoodIn wsX1_allows (wsX5_doer) := ggX1_allows_X5_doer
set_option maxRecDepth 20000 in
theorem ggX1_allows_X5_prey : GoodIn wsX1_allows wsX5_prey := goodIn_r _ [18, 19, 10, 8, 11] (by decide +kernel) (by decide +kernel)
set_option maxRecDepth 20000 in
theorem gX1_allows_X5_prey_n50 : GoodIn wsX1_allows (wsX5_prey) := ggX1_allows_X5_prey
set_option maxRecDepth 20000 in
theorem ggX1_allows_X1_canSwallow : GoodIn wsX1_allows wsX1_canSwallow := goodIn_r _ [24, 1, 25, 26, 27, 23, 28, 29, 30, 31, 32, 5, 33, 34, 35, 36, 37, 38, 39, 40, 41, 42, 43, 44, 45, 46, 47, 48, 16, 57, 58, 59, 60] (by decide +kernel) (by decide +kernel)
set_option maxRecDepth 20000 in
theorem gX1_allows_X1_canSwallow : GoodIn wsX1_allows (wsV RX1 53 RX1 yX1_canSwallow wsX1_canSwallow) := goodIn_app (goodIn_of _ (by decide +kernel)) ggX1_allows_X1_canSwallow
set_option maxRecDepth 20000 in
theorem ggX1_allows_X1_comingOut : GoodIn wsX1_allows wsX1_comingOut := goodIn_r _ [52, 1, 10, 8, 11, 30, 31, 32, 5, 33, 34, 35, 36, 37, 38, 39, 45, 46, 47, 48, 16, 25, 26, 27, 23, 28, 29, 57, 58, 59, 60] (by decide +kernel) (by decide +kernel)
set_option maxRecDepth 20000 in
theorem gX1_allows_X1_comingOut : GoodIn wsX1_allows (wsV RX1 56 RX1 yX1_comingOut wsX1_comingOut) := goodIn_app (goodIn_of _ (by decide +kernel)) ggX1_allows_X1_comingOut
set_option maxRecDepth 20000 in
theorem ggX1_allows_X1_holder : GoodIn wsX1_allows wsX1_holder := goodIn_r _ [28, 29, 57, 58] (by decide +kernel) (by decide +kernel)
set_option maxRecDepth 20000 in
theorem gX1_allows_X1_holder : GoodIn wsX1_allows (wsV RX1 25 RX1 yX1_holder wsX1_holder) := goodIn_app (goodIn_of _ (by decide +kernel)) ggX1_allows_X1_holder
set_option maxRecDepth 20000 in
theorem ggX1_allows_X1_canTake : GoodIn wsX1_allows wsX1_canTake := goodIn_r _ [56, 1, 41, 42, 43, 23, 44, 45, 46, 47, 5, 48, 16, 25, 26, 27, 28, 29, 40, 36, 37, 38, 39, 57, 58, 59, 60] (by decide +kernel) (by decide +kernel)
set_option maxRecDepth 20000 in
theorem gX1_allows_X1_canTake : GoodIn wsX1_allows (wsV RX1 59 RX1 yX1_canTake wsX1_canTake) := goodIn_app (goodIn_of _ (by decide +kernel)) ggX1_allows_X1_canTake
theorem dX1_allows_0 : decode cX1_allows 0 = .ok (.aload_n 0, 1) := by decide +kernel
theorem dX1_allows_1 : decode cX1_allows 1 = .ok (.getfield 15, 3) := by decide +kernel
theorem dX1_allows_4 : decode cX1_allows 4 = .ok (.iload_n 1, 1) := by decide +kernel
theorem dX1_allows_5 : decode cX1_allows 5 = .ok (.invokevirtual 43, 3) := by decide +kernel
theorem dX1_allows_8 : decode cX1_allows 8 = .ok (.ifCond .ne 5, 3) := by decide +kernel
theorem dX1_allows_11 : decode cX1_allows 11 = .ok (.iconst 0, 1) := by decide +kernel
theorem dX1_allows_12 : decode cX1_allows 12 = .ok (.ireturn, 1) := by decide +kernel
theorem dX1_allows_13 : decode cX1_allows 13 = .ok (.iload_n 1, 1) := by decide +kernel
theorem dX1_allows_14 : decode cX1_allows 14 = .ok (.invokestatic 47, 3) := by decide +kernel
theorem dX1_allows_17 : decode cX1_allows 17 = .ok (.istore_n 2, 1) := by decide +kernel
theorem dX1_allows_18 : decode cX1_allows 18 = .ok (.iload_n 1, 1) := by decide +kernel
theorem dX1_allows_19 : decode cX1_allows 19 = .ok (.bipush 25, 2) := by decide +kernel
theorem dX1_allows_21 : decode cX1_allows 21 = .ok (.if_icmp .ge 13, 3) := by decide +kernel
theorem dX1_allows_24 : decode cX1_allows 24 = .ok (.aload_n 0, 1) := by decide +kernel
theorem dX1_allows_25 : decode cX1_allows 25 = .ok (.iload_n 2, 1) := by decide +kernel
theorem dX1_allows_26 : decode cX1_allows 26 = .ok (.iload_n 1, 1) := by decide +kernel
theorem dX1_allows_27 : decode cX1_allows 27 = .ok (.invokestatic 50, 3) := by decide +kernel
theorem dX1_allows_30 : decode cX1_allows 30 = .ok (.invokevirtual 53, 3) := by decide +kernel
theorem dX1_allows_33 : decode cX1_allows 33 = .ok (.ireturn, 1) := by decide +kernel
theorem dX1_allows_34 : decode cX1_allows 34 = .ok (.aload_n 0, 1) := by decide +kernel
theorem dX1_allows_35 : decode cX1_allows 35 = .ok (.iload_n 1, 1) := by decide +kernel
theorem dX1_allows_36 : decode cX1_allows 36 = .ok (.invokevirtual 56, 3) := by decide +kernel
theorem dX1_allows_39 : decode cX1_allows 39 = .ok (.istore_n 3, 1) := by decide +kernel
theorem dX1_allows_40 : decode cX1_allows 40 = .ok (.iload_n 3, 1) := by decide +kernel
theorem dX1_allows_41 : decode cX1_allows 41 = .ok (.ifCond .eq 20, 3) := by decide +kernel
theorem dX1_allows_44 : decode cX1_allows 44 = .ok (.aload_n 0, 1) := by decide +kernel
theorem dX1_allows_45 : decode cX1_allows 45 = .ok (.aload_n 0, 1) := by decide +kernel
theorem dX1_allows_46 : decode cX1_allows 46 = .ok (.iload_n 2, 1) := by decide +kernel
theorem dX1_allows_47 : decode cX1_allows 47 = .ok (.invokevirtual 25, 3) := by decide +kernel
theorem dX1_allows_50 : decode cX1_allows 50 = .ok (.iload_n 3, 1) := by decide +kernel
theorem dX1_allows_51 : decode cX1_allows 51 = .ok (.invokevirtual 59, 3) := by decide +kernel
theorem dX1_allows_54 : decode cX1_allows 54 = .ok (.ifCond .eq 7, 3) := by decide +kernel
theorem dX1_allows_57 : decode cX1_allows 57 = .ok (.iconst 1, 1) := by decide +kernel
theorem dX1_allows_58 : decode cX1_allows 58 = .ok (.goto 4, 3) := by decide +kernel
theorem dX1_allows_61 : decode cX1_allows 61 = .ok (.iconst 0, 1) := by decide +kernel
theorem dX1_allows_62 : decode cX1_allows 62 = .ok (.ireturn, 1) := by decide +kernel
set_option maxRecDepth 20000 in
theorem ggX1_carryOut_X5_doer : GoodIn wsX1_carryOut wsX5_doer := goodIn_r _ [4] (by decide +kernel) (by decide +kernel)
set_option maxRecDepth 20000 in
theorem gX1_carryOut_X5_doer_n47 : GoodIn wsX1_carryOut (wsX5_doer) := ggX1_carryOut_X5_doer
set_option maxRecDepth 20000 in
theorem ggX1_carryOut_X5_prey : GoodIn wsX1_carryOut wsX5_prey := goodIn_r _ [6, 7, 2, 3, 4] (by decide +kernel) (by decide +kernel)
set_option maxRecDepth 20000 in
theorem gX1_carryOut_X5_prey_n50 : GoodIn wsX1_carryOut (wsX5_prey) := ggX1_carryOut_X5_prey
set_option maxRecDepth 20000 in
theorem ggX1_carryOut_X1_put : GoodIn wsX1_carryOut wsX1_put := goodIn_r _ [12, 1, 38, 39] (by decide +kernel) (by decide +kernel)
set_option maxRecDepth 20000 in
theorem gX1_carryOut_X1_put : GoodIn wsX1_carryOut (wsV RX1 62 RX1 yX1_put wsX1_put) := goodIn_app (goodIn_of _ (by decide +kernel)) ggX1_carryOut_X1_put
set_option maxRecDepth 20000 in
theorem ggX1_carryOut_X1_comingOut : GoodIn wsX1_carryOut wsX1_comingOut := goodIn_r _ [16, 17, 2, 3, 4, 18, 19, 20, 21, 22, 23, 24, 25, 26, 27, 28, 29, 30, 31, 32, 33, 34, 35, 36, 11, 37, 1, 38, 39, 40, 41] (by decide +kernel) (by decide +kernel)
set_option maxRecDepth 20000 in
theorem gX1_carryOut_X1_comingOut : GoodIn wsX1_carryOut (wsV RX1 56 RX1 yX1_comingOut wsX1_comingOut) := goodIn_app (goodIn_of _ (by decide +kernel)) ggX1_carryOut_X1_comingOut
set_option maxRecDepth 20000 in
theorem ggX1_carryOut_X1_holder : GoodIn wsX1_carryOut wsX1_holder := goodIn_r _ [37, 1, 38, 39] (by decide +kernel) (by decide +kernel)
set_option maxRecDepth 20000 in
theorem gX1_carryOut_X1_holder : GoodIn wsX1_carryOut (wsV RX1 25 RX1 yX1_holder wsX1_holder) := goodIn_app (goodIn_of _ (by decide +kernel)) ggX1_carryOut_X1_holder
theorem dX1_carryOut_0 : decode cX1_carryOut 0 = .ok (.iload_n 1, 1) := by decide +kernel
theorem dX1_carryOut_1 : decode cX1_carryOut 1 = .ok (.invokestatic 47, 3) := by decide +kernel
theorem dX1_carryOut_4 : decode cX1_carryOut 4 = .ok (.istore_n 2, 1) := by decide +kernel
theorem dX1_carryOut_5 : decode cX1_carryOut 5 = .ok (.iload_n 1, 1) := by decide +kernel
theorem dX1_carryOut_6 : decode cX1_carryOut 6 = .ok (.bipush 25, 2) := by decide +kernel
theorem dX1_carryOut_8 : decode cX1_carryOut 8 = .ok (.if_icmp .ge 13, 3) := by decide +kernel
theorem dX1_carryOut_11 : decode cX1_carryOut 11 = .ok (.aload_n 0, 1) := by decide +kernel
theorem dX1_carryOut_12 : decode cX1_carryOut 12 = .ok (.iload_n 1, 1) := by decide +kernel
theorem dX1_carryOut_13 : decode cX1_carryOut 13 = .ok (.invokestatic 50, 3) := by decide +kernel
theorem dX1_carryOut_16 : decode cX1_carryOut 16 = .ok (.iload_n 2, 1) := by decide +kernel
theorem dX1_carryOut_17 : decode cX1_carryOut 17 = .ok (.invokevirtual 62, 3) := by decide +kernel
theorem dX1_carryOut_20 : decode cX1_carryOut 20 = .ok (.return_, 1) := by decide +kernel
theorem dX1_carryOut_21 : decode cX1_carryOut 21 = .ok (.aload_n 0, 1) := by decide +kernel
theorem dX1_carryOut_22 : decode cX1_carryOut 22 = .ok (.iload_n 1, 1) := by decide +kernel
theorem dX1_carryOut_23 : decode cX1_carryOut 23 = .ok (.invokevirtual 56, 3) := by decide +kernel
theorem dX1_carryOut_26 : decode cX1_carryOut 26 = .ok (.istore_n 3, 1) := by decide +kernel
theorem dX1_carryOut_27 : decode cX1_carryOut 27 = .ok (.aload_n 0, 1) := by decide +kernel
theorem dX1_carryOut_28 : decode cX1_carryOut 28 = .ok (.iload_n 2, 1) := by decide +kernel
theorem dX1_carryOut_29 : decode cX1_carryOut 29 = .ok (.invokevirtual 25, 3) := by decide +kernel
theorem dX1_carryOut_32 : decode cX1_carryOut 32 = .ok (.istore 4, 2) := by decide +kernel
theorem dX1_carryOut_34 : decode cX1_carryOut 34 = .ok (.iconst 0, 1) := by decide +kernel
theorem dX1_carryOut_35 : decode cX1_carryOut 35 = .ok (.istore 5, 2) := by decide +kernel
theorem dX1_carryOut_37 : decode cX1_carryOut 37 = .ok (.iload 5, 2) := by decide +kernel
theorem dX1_carryOut_39 : decode cX1_carryOut 39 = .ok (.aload_n 0, 1) := by decide +kernel
theorem dX1_carryOut_40 : decode cX1_carryOut 40 = .ok (.getfield 9, 3) := by decide +kernel
theorem dX1_carryOut_43 : decode cX1_carryOut 43 = .ok (.arraylength, 1) := by decide +kernel
theorem dX1_carryOut_44 : decode cX1_carryOut 44 = .ok (.if_icmp .ge 28, 3) := by decide +kernel
theorem dX1_carryOut_47 : decode cX1_carryOut 47 = .ok (.iload_n 3, 1) := by decide +kernel
theorem dX1_carryOut_48 : decode cX1_carryOut 48 = .ok (.iload 5, 2) := by decide +kernel
theorem dX1_carryOut_50 : decode cX1_carryOut 50 = .ok (.ishr, 1) := by decide +kernel
theorem dX1_carryOut_51 : decode cX1_carryOut 51 = .ok (.iconst 1, 1) := by decide +kernel
theorem dX1_carryOut_52 : decode cX1_carryOut 52 = .ok (.iand, 1) := by decide +kernel
theorem dX1_carryOut_53 : decode cX1_carryOut 53 = .ok (.iconst 1, 1) := by decide +kernel
theorem dX1_carryOut_54 : decode cX1_carryOut 54 = .ok (.if_icmp .ne 12, 3) := by decide +kernel
theorem dX1_carryOut_57 : decode cX1_carryOut 57 = .ok (.aload_n 0, 1) := by decide +kernel
theorem dX1_carryOut_58 : decode cX1_carryOut 58 = .ok (.getfield 9, 3) := by decide +kernel
theorem dX1_carryOut_61 : decode cX1_carryOut 61 = .ok (.iload 5, 2) := by decide +kernel
theorem dX1_carryOut_63 : decode cX1_carryOut 63 = .ok (.iload 4, 2) := by decide +kernel
theorem dX1_carryOut_65 : decode cX1_carryOut 65 = .ok (.iastore, 1) := by decide +kernel
theorem dX1_carryOut_66 : decode cX1_carryOut 66 = .ok (.iinc 5 1, 3) := by decide +kernel
theorem dX1_carryOut_69 : decode cX1_carryOut 69 = .ok (.goto (-32), 3) := by decide +kernel
theorem dX1_carryOut_72 : decode cX1_carryOut 72 = .ok (.return_, 1) := by decide +kernel
set_option maxRecDepth 20000 in
theorem ggX1_canSwallow_X1_holder : GoodIn wsX1_canSwallow wsX1_holder := goodIn_r _ [6, 7, 29, 30] (by decide +kernel) (by decide +kernel)
set_option maxRecDepth 20000 in
theorem gX1_canSwallow_X1_holder : GoodIn wsX1_canSwallow (wsV RX1 25 RX1 yX1_holder wsX1_holder) := goodIn_app (goodIn_of _ (by decide +kernel)) ggX1_canSwallow_X1_holder
set_option maxRecDepth 20000 in
theorem ggX1_canSwallow_X0_isOf : GoodIn wsX1_canSwallow wsX0_isOf := goodIn_r _ [12, 13, 14, 15, 16, 11, 17, 18, 31, 32] (by decide +kernel) (by decide +kernel)
set_option maxRecDepth 20000 in
theorem gX1_canSwallow_X0_isOf : GoodIn wsX1_canSwallow (wsV RX1 66 RX0 yX0_isOf wsX0_isOf) := goodIn_app (goodIn_of _ (by decide +kernel)) ggX1_canSwallow_X0_isOf
set_option maxRecDepth 20000 in
theorem ggX1_canSwallow_X0_trait : GoodIn wsX1_canSwallow wsX0_trait := goodIn_r _ [17, 18, 31, 32] (by decide +kernel) (by decide +kernel)
set_option maxRecDepth 20000 in
theorem gX1_canSwallow_X0_trait : GoodIn wsX1_canSwallow (wsV RX1 35 RX0 yX0_trait wsX0_trait) := goodIn_app (goodIn_of _ (by decide +kernel)) ggX1_canSwallow_X0_trait
set_option maxRecDepth 20000 in
theorem ggX1_canSwallow_X1_filled : GoodIn wsX1_canSwallow wsX1_filled := goodIn_r _ [23, 1, 24, 25, 26, 11, 27, 28, 2, 3, 4, 5, 6, 7, 19, 15, 16, 17, 18, 29, 30, 31, 32] (by decide +kernel) (by decide +kernel)
set_option maxRecDepth 20000 in
theorem gX1_canSwallow_X1_filled : GoodIn wsX1_canSwallow (wsV RX1 69 RX1 yX1_filled wsX1_filled) := goodIn_app (goodIn_of _ (by decide +kernel)) ggX1_canSwallow_X1_filled
theorem dX1_canSwallow_0 : decode cX1_canSwallow 0 = .ok (.iload_n 1, 1) := by decide +kernel
theorem dX1_canSwallow_1 : decode cX1_canSwallow 1 = .ok (.iload_n 2, 1) := by decide +kernel
theorem dX1_canSwallow_2 : decode cX1_canSwallow 2 = .ok (.if_icmp .eq 28, 3) := by decide +kernel
theorem dX1_canSwallow_5 : decode cX1_canSwallow 5 = .ok (.aload_n 0, 1) := by decide +kernel
theorem dX1_canSwallow_6 : decode cX1_canSwallow 6 = .ok (.iload_n 1, 1) := by decide +kernel
theorem dX1_canSwallow_7 : decode cX1_canSwallow 7 = .ok (.invokevirtual 25, 3) := by decide +kernel
theorem dX1_canSwallow_10 : decode cX1_canSwallow 10 = .ok (.aload_n 0, 1) := by decide +kernel
theorem dX1_canSwallow_11 : decode cX1_canSwallow 11 = .ok (.iload_n 2, 1) := by decide +kernel
theorem dX1_canSwallow_12 : decode cX1_canSwallow 12 = .ok (.invokevirtual 25, 3) := by decide +kernel
theorem dX1_canSwallow_15 : decode cX1_canSwallow 15 = .ok (.if_icmp .ne 15, 3) := by decide +kernel
theorem dX1_canSwallow_18 : decode cX1_canSwallow 18 = .ok (.aload_n 0, 1) := by decide +kernel
theorem dX1_canSwallow_19 : decode cX1_canSwallow 19 = .ok (.getfield 15, 3) := by decide +kernel
theorem dX1_canSwallow_22 : decode cX1_canSwallow 22 = .ok (.iload_n 1, 1) := by decide +kernel
theorem dX1_canSwallow_23 : decode cX1_canSwallow 23 = .ok (.iconst 1, 1) := by decide +kernel
theorem dX1_canSwallow_24 : decode cX1_canSwallow 24 = .ok (.invokevirtual 66, 3) := by decide +kernel
theorem dX1_canSwallow_27 : decode cX1_canSwallow 27 = .ok (.ifCond .ne 5, 3) := by decide +kernel
theorem dX1_canSwallow_30 : decode cX1_canSwallow 30 = .ok (.iconst 0, 1) := by decide +kernel
theorem dX1_canSwallow_31 : decode cX1_canSwallow 31 = .ok (.ireturn, 1) := by decide +kernel
theorem dX1_canSwallow_32 : decode cX1_canSwallow 32 = .ok (.aload_n 0, 1) := by decide +kernel
theorem dX1_canSwallow_33 : decode cX1_canSwallow 33 = .ok (.getfield 15, 3) := by decide +kernel
theorem dX1_canSwallow_36 : decode cX1_canSwallow 36 = .ok (.iload_n 1, 1) := by decide +kernel
theorem dX1_canSwallow_37 : decode cX1_canSwallow 37 = .ok (.iconst 3, 1) := by decide +kernel
theorem dX1_canSwallow_38 : decode cX1_canSwallow 38 = .ok (.invokevirtual 35, 3) := by decide +kernel
theorem dX1_canSwallow_41 : decode cX1_canSwallow 41 = .ok (.aload_n 0, 1) := by decide +kernel
theorem dX1_canSwallow_42 : decode cX1_canSwallow 42 = .ok (.getfield 15, 3) := by decide +kernel
theorem dX1_canSwallow_45 : decode cX1_canSwallow 45 = .ok (.iload_n 2, 1) := by decide +kernel
theorem dX1_canSwallow_46 : decode cX1_canSwallow 46 = .ok (.iconst 0, 1) := by decide +kernel
theorem dX1_canSwallow_47 : decode cX1_canSwallow 47 = .ok (.invokevirtual 35, 3) := by decide +kernel
theorem dX1_canSwallow_50 : decode cX1_canSwallow 50 = .ok (.ishr, 1) := by decide +kernel
theorem dX1_canSwallow_51 : decode cX1_canSwallow 51 = .ok (.iconst 1, 1) := by decide +kernel
theorem dX1_canSwallow_52 : decode cX1_canSwallow 52 = .ok (.iand, 1) := by decide +kernel
theorem dX1_canSwallow_53 : decode cX1_canSwallow 53 = .ok (.iconst 1, 1) := by decide +kernel
theorem dX1_canSwallow_54 : decode cX1_canSwallow 54 = .ok (.if_icmp .ne 7, 3) := by decide +kernel
theorem dX1_canSwallow_57 : decode cX1_canSwallow 57 = .ok (.iconst 1, 1) := by decide +kernel
theorem dX1_canSwallow_58 : decode cX1_canSwallow 58 = .ok (.goto 4, 3) := by decide +kernel
theorem dX1_canSwallow_61 : decode cX1_canSwallow 61 = .ok (.iconst 0, 1) := by decide +kernel
theorem dX1_canSwallow_62 : decode cX1_canSwallow 62 = .ok (.istore_n 3, 1) := by decide +kernel
theorem dX1_canSwallow_63 : decode cX1_canSwallow 63 = .ok (.iload_n 3, 1) := by decide +kernel
theorem dX1_canSwallow_64 : decode cX1_canSwallow 64 = .ok (.ifCond .eq 30, 3) := by decide +kernel
theorem dX1_canSwallow_67 : decode cX1_canSwallow 67 = .ok (.aload_n 0, 1) := by decide +kernel
theorem dX1_canSwallow_68 : decode cX1_canSwallow 68 = .ok (.iload_n 1, 1) := by decide +kernel
theorem dX1_canSwallow_69 : decode cX1_canSwallow 69 = .ok (.invokevirtual 69, 3) := by decide +kernel
theorem dX1_canSwallow_72 : decode cX1_canSwallow 72 = .ok (.aload_n 0, 1) := by decide +kernel
theorem dX1_canSwallow_73 : decode cX1_canSwallow 73 = .ok (.getfield 15, 3) := by decide +kernel
theorem dX1_canSwallow_76 : decode cX1_canSwallow 76 = .ok (.iload_n 2, 1) := by decide +kernel
theorem dX1_canSwallow_77 : decode cX1_canSwallow 77 = .ok (.iconst 1, 1) := by decide +kernel
theorem dX1_canSwallow_78 : decode cX1_canSwallow 78 = .ok (.invokevirtual 35, 3) := by decide +kernel
theorem dX1_canSwallow_81 : decode cX1_canSwallow 81 = .ok (.iadd, 1) := by decide +kernel
theorem dX1_canSwallow_82 : decode cX1_canSwallow 82 = .ok (.aload_n 0, 1) := by decide +kernel
theorem dX1_canSwallow_83 : decode cX1_canSwallow 83 = .ok (.getfield 15, 3) := by decide +kernel
theorem dX1_canSwallow_86 : decode cX1_canSwallow 86 = .ok (.iload_n 1, 1) := by decide +kernel
theorem dX1_canSwallow_87 : decode cX1_canSwallow 87 = .ok (.iconst 2, 1) := by decide +kernel
theorem dX1_canSwallow_88 : decode cX1_canSwallow 88 = .ok (.invokevirtual 35, 3) := by decide +kernel
theorem dX1_canSwallow_91 : decode cX1_canSwallow 91 = .ok (.if_icmp .le 5, 3) := by decide +kernel
theorem dX1_canSwallow_94 : decode cX1_canSwallow 94 = .ok (.iconst 0, 1) := by decide +kernel
theorem dX1_canSwallow_95 : decode cX1_canSwallow 95 = .ok (.ireturn, 1) := by decide +kernel
theorem dX1_canSwallow_96 : decode cX1_canSwallow 96 = .ok (.aload_n 0, 1) := by decide +kernel
theorem dX1_canSwallow_97 : decode cX1_canSwallow 97 = .ok (.getfield 15, 3) := by decide +kernel
theorem dX1_canSwallow_100 : decode cX1_canSwallow 100 = .ok (.iload_n 2, 1) := by decide +kernel
theorem dX1_canSwallow_101 : decode cX1_canSwallow 101 = .ok (.iconst 2, 1) := by decide +kernel
theorem dX1_canSwallow_102 : decode cX1_canSwallow 102 = .ok (.invokevirtual 35, 3) := by decide +kernel
theorem dX1_canSwallow_105 : decode cX1_canSwallow 105 = .ok (.istore 4, 2) := by decide +kernel
theorem dX1_canSwallow_107 : decode cX1_canSwallow 107 = .ok (.iload 4, 2) := by decide +kernel
theorem dX1_canSwallow_109 : decode cX1_canSwallow 109 = .ok (.ifCond .eq 13, 3) := by decide +kernel
theorem dX1_canSwallow_112 : decode cX1_canSwallow 112 = .ok (.aload_n 0, 1) := by decide +kernel
theorem dX1_canSwallow_113 : decode cX1_canSwallow 113 = .ok (.iload_n 2, 1) := by decide +kernel
theorem dX1_canSwallow_114 : decode cX1_canSwallow 114 = .ok (.invokevirtual 69, 3) := by decide +kernel
theorem dX1_canSwallow_117 : decode cX1_canSwallow 117 = .ok (.iload 4, 2) := by decide +kernel
theorem dX1_canSwallow_119 : decode cX1_canSwallow 119 = .ok (.if_icmp .eq 7, 3) := by decide +kernel
theorem dX1_canSwallow_122 : decode cX1_canSwallow 122 = .ok (.iconst 1, 1) := by decide +kernel
theorem dX1_canSwallow_123 : decode cX1_canSwallow 123 = .ok (.goto 4, 3) := by decide +kernel
theorem dX1_canSwallow_126 : decode cX1_canSwallow 126 = .ok (.iconst 0, 1) := by decide +kernel
theorem dX1_canSwallow_127 : decode cX1_canSwallow 127 = .ok (.ireturn, 1) := by decide +kernel
set_option maxRecDepth 20000 in
theorem ggX1_comingOut_X5_doer : GoodIn wsX1_comingOut wsX5_doer := goodIn_r _ [4] (by decide +kernel) (by decide +kernel)
set_option maxRecDepth 20000 in
theorem gX1_comingOut_X5_doer_n47 : GoodIn wsX1_comingOut (wsX5_doer) := ggX1_comingOut_X5_doer
set_option maxRecDepth 20000 in
theorem ggX1_comingOut_X0_isOf : GoodIn wsX1_comingOut wsX0_isOf := goodIn_r _ [9, 10, 11, 12, 13, 8, 14, 15, 29, 30] (by decide +kernel) (by decide +kernel)
set_option maxRecDepth 20000 in
theorem gX1_comingOut_X0_isOf : GoodIn wsX1_comingOut (wsV RX1 66 RX0 yX0_isOf wsX0_isOf) := goodIn_app (goodIn_of _ (by decide +kernel)) ggX1_comingOut_X0_isOf
set_option maxRecDepth 20000 in
theorem ggX1_comingOut_X0_total : GoodIn wsX1_comingOut wsX0_total := goodIn_r _ [19, 20, 29, 30] (by decide +kernel) (by decide +kernel)
set_option maxRecDepth 20000 in
theorem gX1_comingOut_X0_total : GoodIn wsX1_comingOut (wsV RX1 29 RX0 yX0_total wsX0_total) := goodIn_app (goodIn_of _ (by decide +kernel)) ggX1_comingOut_X0_total
set_option maxRecDepth 20000 in
theorem ggX1_comingOut_X1_holder : GoodIn wsX1_comingOut wsX1_holder := goodIn_r _ [25, 26, 27, 28] (by decide +kernel) (by decide +kernel)
set_option maxRecDepth 20000 in
theorem gX1_comingOut_X1_holder : GoodIn wsX1_comingOut (wsV RX1 25 RX1 yX1_holder wsX1_holder) := goodIn_app (goodIn_of _ (by decide +kernel)) ggX1_comingOut_X1_holder
theorem dX1_comingOut_0 : decode cX1_comingOut 0 = .ok (.iload_n 1, 1) := by decide +kernel
theorem dX1_comingOut_1 : decode cX1_comingOut 1 = .ok (.invokestatic 47, 3) := by decide +kernel
theorem dX1_comingOut_4 : decode cX1_comingOut 4 = .ok (.istore_n 2, 1) := by decide +kernel
theorem dX1_comingOut_5 : decode cX1_comingOut 5 = .ok (.iload_n 1, 1) := by decide +kernel
theorem dX1_comingOut_6 : decode cX1_comingOut 6 = .ok (.bipush 40, 2) := by decide +kernel
theorem dX1_comingOut_8 : decode cX1_comingOut 8 = .ok (.if_icmp .lt 7, 3) := by decide +kernel
theorem dX1_comingOut_11 : decode cX1_comingOut 11 = .ok (.iconst 1, 1) := by decide +kernel
theorem dX1_comingOut_12 : decode cX1_comingOut 12 = .ok (.goto 4, 3) := by decide +kernel
theorem dX1_comingOut_15 : decode cX1_comingOut 15 = .ok (.iconst 0, 1) := by decide +kernel
theorem dX1_comingOut_16 : decode cX1_comingOut 16 = .ok (.istore_n 3, 1) := by decide +kernel
theorem dX1_comingOut_17 : decode cX1_comingOut 17 = .ok (.iload_n 3, 1) := by decide +kernel
theorem dX1_comingOut_18 : decode cX1_comingOut 18 = .ok (.ifCond .eq 17, 3) := by decide +kernel
theorem dX1_comingOut_21 : decode cX1_comingOut 21 = .ok (.aload_n 0, 1) := by decide +kernel
theorem dX1_comingOut_22 : decode cX1_comingOut 22 = .ok (.getfield 15, 3) := by decide +kernel
theorem dX1_comingOut_25 : decode cX1_comingOut 25 = .ok (.iload_n 2, 1) := by decide +kernel
theorem dX1_comingOut_26 : decode cX1_comingOut 26 = .ok (.iconst 2, 1) := by decide +kernel
theorem dX1_comingOut_27 : decode cX1_comingOut 27 = .ok (.invokevirtual 66, 3) := by decide +kernel
theorem dX1_comingOut_30 : decode cX1_comingOut 30 = .ok (.ifCond .eq 5, 3) := by decide +kernel
theorem dX1_comingOut_33 : decode cX1_comingOut 33 = .ok (.iconst 0, 1) := by decide +kernel
theorem dX1_comingOut_34 : decode cX1_comingOut 34 = .ok (.ireturn, 1) := by decide +kernel
theorem dX1_comingOut_35 : decode cX1_comingOut 35 = .ok (.iload_n 3, 1) := by decide +kernel
theorem dX1_comingOut_36 : decode cX1_comingOut 36 = .ok (.ifCond .eq 7, 3) := by decide +kernel
theorem dX1_comingOut_39 : decode cX1_comingOut 39 = .ok (.iconst 5, 1) := by decide +kernel
theorem dX1_comingOut_40 : decode cX1_comingOut 40 = .ok (.goto 20, 3) := by decide +kernel
theorem dX1_comingOut_43 : decode cX1_comingOut 43 = .ok (.aload_n 0, 1) := by decide +kernel
theorem dX1_comingOut_44 : decode cX1_comingOut 44 = .ok (.getfield 15, 3) := by decide +kernel
theorem dX1_comingOut_47 : decode cX1_comingOut 47 = .ok (.iload_n 2, 1) := by decide +kernel
theorem dX1_comingOut_48 : decode cX1_comingOut 48 = .ok (.iconst 3, 1) := by decide +kernel
theorem dX1_comingOut_49 : decode cX1_comingOut 49 = .ok (.invokevirtual 66, 3) := by decide +kernel
theorem dX1_comingOut_52 : decode cX1_comingOut 52 = .ok (.ifCond .eq 7, 3) := by decide +kernel
theorem dX1_comingOut_55 : decode cX1_comingOut 55 = .ok (.iconst 2, 1) := by decide +kernel
theorem dX1_comingOut_56 : decode cX1_comingOut 56 = .ok (.goto 4, 3) := by decide +kernel
theorem dX1_comingOut_59 : decode cX1_comingOut 59 = .ok (.iconst 1, 1) := by decide +kernel
theorem dX1_comingOut_60 : decode cX1_comingOut 60 = .ok (.istore 4, 2) := by decide +kernel
theorem dX1_comingOut_62 : decode cX1_comingOut 62 = .ok (.iconst 0, 1) := by decide +kernel
theorem dX1_comingOut_63 : decode cX1_comingOut 63 = .ok (.istore 5, 2) := by decide +kernel
theorem dX1_comingOut_65 : decode cX1_comingOut 65 = .ok (.aload_n 0, 1) := by decide +kernel
theorem dX1_comingOut_66 : decode cX1_comingOut 66 = .ok (.getfield 15, 3) := by decide +kernel
theorem dX1_comingOut_69 : decode cX1_comingOut 69 = .ok (.invokevirtual 29, 3) := by decide +kernel
theorem dX1_comingOut_72 : decode cX1_comingOut 72 = .ok (.iconst 1, 1) := by decide +kernel
theorem dX1_comingOut_73 : decode cX1_comingOut 73 = .ok (.isub, 1) := by decide +kernel
theorem dX1_comingOut_74 : decode cX1_comingOut 74 = .ok (.istore 6, 2) := by decide +kernel
theorem dX1_comingOut_76 : decode cX1_comingOut 76 = .ok (.iload 6, 2) := by decide +kernel
theorem dX1_comingOut_78 : decode cX1_comingOut 78 = .ok (.ifCond .lt 36, 3) := by decide +kernel
theorem dX1_comingOut_81 : decode cX1_comingOut 81 = .ok (.iload 4, 2) := by decide +kernel
theorem dX1_comingOut_83 : decode cX1_comingOut 83 = .ok (.ifCond .le 31, 3) := by decide +kernel
theorem dX1_comingOut_86 : decode cX1_comingOut 86 = .ok (.aload_n 0, 1) := by decide +kernel
theorem dX1_comingOut_87 : decode cX1_comingOut 87 = .ok (.iload 6, 2) := by decide +kernel
theorem dX1_comingOut_89 : decode cX1_comingOut 89 = .ok (.invokevirtual 25, 3) := by decide +kernel
theorem dX1_comingOut_92 : decode cX1_comingOut 92 = .ok (.iload_n 2, 1) := by decide +kernel
theorem dX1_comingOut_93 : decode cX1_comingOut 93 = .ok (.if_icmp .ne 15, 3) := by decide +kernel
theorem dX1_comingOut_96 : decode cX1_comingOut 96 = .ok (.iload 5, 2) := by decide +kernel
theorem dX1_comingOut_98 : decode cX1_comingOut 98 = .ok (.iconst 1, 1) := by decide +kernel
theorem dX1_comingOut_99 : decode cX1_comingOut 99 = .ok (.iload 6, 2) := by decide +kernel
theorem dX1_comingOut_101 : decode cX1_comingOut 101 = .ok (.ishl, 1) := by decide +kernel
theorem dX1_comingOut_102 : decode cX1_comingOut 102 = .ok (.ior, 1) := by decide +kernel
theorem dX1_comingOut_103 : decode cX1_comingOut 103 = .ok (.istore 5, 2) := by decide +kernel
theorem dX1_comingOut_105 : decode cX1_comingOut 105 = .ok (.iinc 4 (-1), 3) := by decide +kernel
theorem dX1_comingOut_108 : decode cX1_comingOut 108 = .ok (.iinc 6 (-1), 3) := by decide +kernel
theorem dX1_comingOut_111 : decode cX1_comingOut 111 = .ok (.goto (-35), 3) := by decide +kernel
theorem dX1_comingOut_114 : decode cX1_comingOut 114 = .ok (.iload 5, 2) := by decide +kernel
theorem dX1_comingOut_116 : decode cX1_comingOut 116 = .ok (.ireturn, 1) := by decide +kernel
set_option maxRecDepth 20000 in
theorem ggX1_canTake_X1_filled : GoodIn wsX1_canTake wsX1_filled := goodIn_r _ [6, 1, 7, 8, 9, 10, 11, 12, 13, 14, 15, 5, 16, 17, 18, 19, 20, 21, 22, 23, 24, 25, 26] (by decide +kernel) (by decide +kernel)
set_option maxRecDepth 20000 in
theorem gX1_canTake_X1_filled : GoodIn wsX1_canTake (wsV RX1 69 RX1 yX1_filled wsX1_filled) := goodIn_app (goodIn_of _ (by decide +kernel)) ggX1_canTake_X1_filled
set_option maxRecDepth 20000 in
theorem ggX1_canTake_X0_total : GoodIn wsX1_canTake wsX0_total := goodIn_r _ [11, 12, 25, 26] (by decide +kernel) (by decide +kernel)
set_option maxRecDepth 20000 in
theorem gX1_canTake_X0_total : GoodIn wsX1_canTake (wsV RX1 29 RX0 yX0_total wsX0_total) := goodIn_app (goodIn_of _ (by decide +kernel)) ggX1_canTake_X0_total
set_option maxRecDepth 20000 in
theorem ggX1_canTake_X0_trait : GoodIn wsX1_canTake wsX0_trait := goodIn_r _ [21, 22, 25, 26] (by decide +kernel) (by decide +kernel)
set_option maxRecDepth 20000 in
theorem gX1_canTake_X0_trait : GoodIn wsX1_canTake (wsV RX1 35 RX0 yX0_trait wsX0_trait) := goodIn_app (goodIn_of _ (by decide +kernel)) ggX1_canTake_X0_trait
theorem dX1_canTake_0 : decode cX1_canTake 0 = .ok (.iload_n 1, 1) := by decide +kernel
theorem dX1_canTake_1 : decode cX1_canTake 1 = .ok (.iconst (-1), 1) := by decide +kernel
theorem dX1_canTake_2 : decode cX1_canTake 2 = .ok (.if_icmp .ne 5, 3) := by decide +kernel
theorem dX1_canTake_5 : decode cX1_canTake 5 = .ok (.iconst 1, 1) := by decide +kernel
theorem dX1_canTake_6 : decode cX1_canTake 6 = .ok (.ireturn, 1) := by decide +kernel
theorem dX1_canTake_7 : decode cX1_canTake 7 = .ok (.aload_n 0, 1) := by decide +kernel
theorem dX1_canTake_8 : decode cX1_canTake 8 = .ok (.iload_n 1, 1) := by decide +kernel
theorem dX1_canTake_9 : decode cX1_canTake 9 = .ok (.invokevirtual 69, 3) := by decide +kernel
theorem dX1_canTake_12 : decode cX1_canTake 12 = .ok (.istore_n 3, 1) := by decide +kernel
theorem dX1_canTake_13 : decode cX1_canTake 13 = .ok (.iconst 0, 1) := by decide +kernel
theorem dX1_canTake_14 : decode cX1_canTake 14 = .ok (.istore 4, 2) := by decide +kernel
theorem dX1_canTake_16 : decode cX1_canTake 16 = .ok (.iload 4, 2) := by decide +kernel
theorem dX1_canTake_18 : decode cX1_canTake 18 = .ok (.aload_n 0, 1) := by decide +kernel
theorem dX1_canTake_19 : decode cX1_canTake 19 = .ok (.getfield 15, 3) := by decide +kernel
theorem dX1_canTake_22 : decode cX1_canTake 22 = .ok (.invokevirtual 29, 3) := by decide +kernel
theorem dX1_canTake_25 : decode cX1_canTake 25 = .ok (.if_icmp .ge 32, 3) := by decide +kernel
theorem dX1_canTake_28 : decode cX1_canTake 28 = .ok (.iload_n 2, 1) := by decide +kernel
theorem dX1_canTake_29 : decode cX1_canTake 29 = .ok (.iload 4, 2) := by decide +kernel
theorem dX1_canTake_31 : decode cX1_canTake 31 = .ok (.ishr, 1) := by decide +kernel
theorem dX1_canTake_32 : decode cX1_canTake 32 = .ok (.iconst 1, 1) := by decide +kernel
theorem dX1_canTake_33 : decode cX1_canTake 33 = .ok (.iand, 1) := by decide +kernel
theorem dX1_canTake_34 : decode cX1_canTake 34 = .ok (.iconst 1, 1) := by decide +kernel
theorem dX1_canTake_35 : decode cX1_canTake 35 = .ok (.if_icmp .ne 16, 3) := by decide +kernel
theorem dX1_canTake_38 : decode cX1_canTake 38 = .ok (.iload_n 3, 1) := by decide +kernel
theorem dX1_canTake_39 : decode cX1_canTake 39 = .ok (.aload_n 0, 1) := by decide +kernel
theorem dX1_canTake_40 : decode cX1_canTake 40 = .ok (.getfield 15, 3) := by decide +kernel
theorem dX1_canTake_43 : decode cX1_canTake 43 = .ok (.iload 4, 2) := by decide +kernel
theorem dX1_canTake_45 : decode cX1_canTake 45 = .ok (.iconst 1, 1) := by decide +kernel
theorem dX1_canTake_46 : decode cX1_canTake 46 = .ok (.invokevirtual 35, 3) := by decide +kernel
theorem dX1_canTake_49 : decode cX1_canTake 49 = .ok (.iadd, 1) := by decide +kernel
theorem dX1_canTake_50 : decode cX1_canTake 50 = .ok (.istore_n 3, 1) := by decide +kernel
theorem dX1_canTake_51 : decode cX1_canTake 51 = .ok (.iinc 4 1, 3) := by decide +kernel
theorem dX1_canTake_54 : decode cX1_canTake 54 = .ok (.goto (-38), 3) := by decide +kernel
theorem dX1_canTake_57 : decode cX1_canTake 57 = .ok (.iload_n 3, 1) := by decide +kernel
theorem dX1_canTake_58 : decode cX1_canTake 58 = .ok (.aload_n 0, 1) := by decide +kernel
theorem dX1_canTake_59 : decode cX1_canTake 59 = .ok (.getfield 15, 3) := by decide +kernel
theorem dX1_canTake_62 : decode cX1_canTake 62 = .ok (.iload_n 1, 1) := by decide +kernel
theorem dX1_canTake_63 : decode cX1_canTake 63 = .ok (.iconst 2, 1) := by decide +kernel
theorem dX1_canTake_64 : decode cX1_canTake 64 = .ok (.invokevirtual 35, 3) := by decide +kernel
theorem dX1_canTake_67 : decode cX1_canTake 67 = .ok (.if_icmp .gt 7, 3) := by decide +kernel
theorem dX1_canTake_70 : decode cX1_canTake 70 = .ok (.iconst 1, 1) := by decide +kernel
theorem dX1_canTake_71 : decode cX1_canTake 71 = .ok (.goto 4, 3) := by decide +kernel
theorem dX1_canTake_74 : decode cX1_canTake 74 = .ok (.iconst 0, 1) := by decide +kernel
theorem dX1_canTake_75 : decode cX1_canTake 75 = .ok (.ireturn, 1) := by decide +kernel
set_option maxRecDepth 20000 in
theorem ggX1_choices_X1_allows : GoodIn wsX1_choices wsX1_allows := goodIn_r _ [5, 6, 7, 8, 9, 10, 11, 12, 13, 14, 15, 16, 17, 18, 19, 20, 21, 22, 23, 24, 25, 26, 27, 4, 28, 29, 30, 31, 32, 33, 34, 35, 36, 37, 38, 39, 40, 41, 42, 43, 44, 45, 46, 47, 48, 49, 50, 51, 52, 53, 54, 55, 56, 57, 58, 59, 60, 61, 62, 63, 64] (by decide +kernel) (by decide +kernel)
set_option maxRecDepth 20000 in
theorem gX1_choices_X1_allows : GoodIn wsX1_choices (wsV RX1 72 RX1 yX1_allows wsX1_allows) := goodIn_app (goodIn_of _ (by decide +kernel)) ggX1_choices_X1_allows
theorem dX1_choices_0 : decode cX1_choices 0 = .ok (.iconst 0, 1) := by decide +kernel
theorem dX1_choices_1 : decode cX1_choices 1 = .ok (.istore_n 1, 1) := by decide +kernel
theorem dX1_choices_2 : decode cX1_choices 2 = .ok (.iconst 0, 1) := by decide +kernel
theorem dX1_choices_3 : decode cX1_choices 3 = .ok (.istore_n 2, 1) := by decide +kernel
theorem dX1_choices_4 : decode cX1_choices 4 = .ok (.iload_n 2, 1) := by decide +kernel
theorem dX1_choices_5 : decode cX1_choices 5 = .ok (.bipush 45, 2) := by decide +kernel
theorem dX1_choices_7 : decode cX1_choices 7 = .ok (.if_icmp .ge 20, 3) := by decide +kernel
theorem dX1_choices_10 : decode cX1_choices 10 = .ok (.aload_n 0, 1) := by decide +kernel
theorem dX1_choices_11 : decode cX1_choices 11 = .ok (.iload_n 2, 1) := by decide +kernel
theorem dX1_choices_12 : decode cX1_choices 12 = .ok (.invokevirtual 72, 3) := by decide +kernel
theorem dX1_choices_15 : decode cX1_choices 15 = .ok (.ifCond .eq 6, 3) := by decide +kernel
theorem dX1_choices_18 : decode cX1_choices 18 = .ok (.iinc 1 1, 3) := by decide +kernel
theorem dX1_choices_21 : decode cX1_choices 21 = .ok (.iinc 2 1, 3) := by decide +kernel
theorem dX1_choices_24 : decode cX1_choices 24 = .ok (.goto (-20), 3) := by decide +kernel
theorem dX1_choices_27 : decode cX1_choices 27 = .ok (.iload_n 1, 1) := by decide +kernel
theorem dX1_choices_28 : decode cX1_choices 28 = .ok (.ireturn, 1) := by decide +kernel
set_option maxRecDepth 20000 in
theorem ggX1_choiceAt_X1_allows : GoodIn wsX1_choiceAt wsX1_allows := goodIn_r _ [5, 6, 7, 8, 9, 10, 11, 12, 13, 14, 15, 16, 17, 18, 19, 20, 21, 22, 23, 24, 25, 26, 27, 4, 28, 29, 30, 31, 32, 33, 34, 35, 36, 37, 38, 39, 40, 41, 42, 43, 44, 45, 46, 47, 48, 49, 50, 51, 52, 53, 54, 55, 56, 57, 58, 59, 60, 61, 62, 63, 64] (by decide +kernel) (by decide +kernel)
set_option maxRecDepth 20000 in
theorem gX1_choiceAt_X1_allows : GoodIn wsX1_choiceAt (wsV RX1 72 RX1 yX1_allows wsX1_allows) := goodIn_app (goodIn_of _ (by decide +kernel)) ggX1_choiceAt_X1_allows
theorem dX1_choiceAt_0 : decode cX1_choiceAt 0 = .ok (.iconst 0, 1) := by decide +kernel
theorem dX1_choiceAt_1 : decode cX1_choiceAt 1 = .ok (.istore_n 2, 1) := by decide +kernel
theorem dX1_choiceAt_2 : decode cX1_choiceAt 2 = .ok (.iconst 0, 1) := by decide +kernel
theorem dX1_choiceAt_3 : decode cX1_choiceAt 3 = .ok (.istore_n 3, 1) := by decide +kernel
theorem dX1_choiceAt_4 : decode cX1_choiceAt 4 = .ok (.iload_n 3, 1) := by decide +kernel
theorem dX1_choiceAt_5 : decode cX1_choiceAt 5 = .ok (.bipush 45, 2) := by decide +kernel
theorem dX1_choiceAt_7 : decode cX1_choiceAt 7 = .ok (.if_icmp .ge 27, 3) := by decide +kernel
theorem dX1_choiceAt_10 : decode cX1_choiceAt 10 = .ok (.aload_n 0, 1) := by decide +kernel
theorem dX1_choiceAt_11 : decode cX1_choiceAt 11 = .ok (.iload_n 3, 1) := by decide +kernel
theorem dX1_choiceAt_12 : decode cX1_choiceAt 12 = .ok (.invokevirtual 72, 3) := by decide +kernel
theorem dX1_choiceAt_15 : decode cX1_choiceAt 15 = .ok (.ifCond .eq 13, 3) := by decide +kernel
theorem dX1_choiceAt_18 : decode cX1_choiceAt 18 = .ok (.iload_n 2, 1) := by decide +kernel
theorem dX1_choiceAt_19 : decode cX1_choiceAt 19 = .ok (.iload_n 1, 1) := by decide +kernel
theorem dX1_choiceAt_20 : decode cX1_choiceAt 20 = .ok (.if_icmp .ne 5, 3) := by decide +kernel
theorem dX1_choiceAt_23 : decode cX1_choiceAt 23 = .ok (.iload_n 3, 1) := by decide +kernel
theorem dX1_choiceAt_24 : decode cX1_choiceAt 24 = .ok (.ireturn, 1) := by decide +kernel
theorem dX1_choiceAt_25 : decode cX1_choiceAt 25 = .ok (.iinc 2 1, 3) := by decide +kernel
theorem dX1_choiceAt_28 : decode cX1_choiceAt 28 = .ok (.iinc 3 1, 3) := by decide +kernel
theorem dX1_choiceAt_31 : decode cX1_choiceAt 31 = .ok (.goto (-27), 3) := by decide +kernel
theorem dX1_choiceAt_34 : decode cX1_choiceAt 34 = .ok (.iconst (-1), 1) := by decide +kernel
theorem dX1_choiceAt_35 : decode cX1_choiceAt 35 = .ok (.ireturn, 1) := by decide +kernel
end
section
set_option maxRecDepth 20000 in
theorem ggX2_init_X1_init : GoodIn wsX2_init wsX1_init := goodIn_r _ [21, 22, 2, 3, 4, 23, 24, 25, 26, 27, 28, 40, 41] (by decide +kernel) (by decide +kernel)
set_option maxRecDepth 20000 in
theorem gX2_init_X1_init : GoodIn wsX2_init (wsX1_init) := ggX2_init_X1_init
theorem dX2_init_0 : decode cX2_init 0 = .ok (.aload_n 0, 1) := by decide +kernel
theorem dX2_init_1 : decode cX2_init 1 = .ok (.invokespecial 3, 3) := by decide +kernel
theorem dX2_init_4 : decode cX2_init 4 = .ok (.aload_n 0, 1) := by decide +kernel
theorem dX2_init_5 : decode cX2_init 5 = .ok (.sipush 1296, 3) := by decide +kernel
theorem dX2_init_8 : decode cX2_init 8 = .ok (.newarray .int, 2) := by decide +kernel
theorem dX2_init_10 : decode cX2_init 10 = .ok (.putfield 11, 3) := by decide +kernel
theorem dX2_init_13 : decode cX2_init 13 = .ok (.aload_n 0, 1) := by decide +kernel
theorem dX2_init_14 : decode cX2_init 14 = .ok (.sipush 1296, 3) := by decide +kernel
theorem dX2_init_17 : decode cX2_init 17 = .ok (.newarray .int, 2) := by decide +kernel
theorem dX2_init_19 : decode cX2_init 19 = .ok (.putfield 15, 3) := by decide +kernel
theorem dX2_init_22 : decode cX2_init 22 = .ok (.aload_n 0, 1) := by decide +kernel
theorem dX2_init_23 : decode cX2_init 23 = .ok (.sipush 1296, 3) := by decide +kernel
theorem dX2_init_26 : decode cX2_init 26 = .ok (.newarray .int, 2) := by decide +kernel
theorem dX2_init_28 : decode cX2_init 28 = .ok (.putfield 18, 3) := by decide +kernel
theorem dX2_init_31 : decode cX2_init 31 = .ok (.aload_n 0, 1) := by decide +kernel
theorem dX2_init_32 : decode cX2_init 32 = .ok (.sipush 7776, 3) := by decide +kernel
theorem dX2_init_35 : decode cX2_init 35 = .ok (.newarray .boolean, 2) := by decide +kernel
theorem dX2_init_37 : decode cX2_init 37 = .ok (.putfield 21, 3) := by decide +kernel
theorem dX2_init_40 : decode cX2_init 40 = .ok (.aload_n 0, 1) := by decide +kernel
theorem dX2_init_41 : decode cX2_init 41 = .ok (.bipush 32, 2) := by decide +kernel
theorem dX2_init_43 : decode cX2_init 43 = .ok (.newarray .int, 2) := by decide +kernel
theorem dX2_init_45 : decode cX2_init 45 = .ok (.putfield 25, 3) := by decide +kernel
theorem dX2_init_48 : decode cX2_init 48 = .ok (.aload_n 0, 1) := by decide +kernel
theorem dX2_init_49 : decode cX2_init 49 = .ok (.iconst (-1), 1) := by decide +kernel
theorem dX2_init_50 : decode cX2_init 50 = .ok (.putfield 28, 3) := by decide +kernel
theorem dX2_init_53 : decode cX2_init 53 = .ok (.aload_n 0, 1) := by decide +kernel
theorem dX2_init_54 : decode cX2_init 54 = .ok (.iconst (-1), 1) := by decide +kernel
theorem dX2_init_55 : decode cX2_init 55 = .ok (.putfield 32, 3) := by decide +kernel
theorem dX2_init_58 : decode cX2_init 58 = .ok (.aload_n 0, 1) := by decide +kernel
theorem dX2_init_59 : decode cX2_init 59 = .ok (.aload_n 1, 1) := by decide +kernel
theorem dX2_init_60 : decode cX2_init 60 = .ok (.putfield 35, 3) := by decide +kernel
theorem dX2_init_63 : decode cX2_init 63 = .ok (.aload_n 0, 1) := by decide +kernel
theorem dX2_init_64 : decode cX2_init 64 = .ok (.new 39, 3) := by decide +kernel
theorem dX2_init_67 : decode cX2_init 67 = .ok (.dup, 1) := by decide +kernel
theorem dX2_init_68 : decode cX2_init 68 = .ok (.aload_n 1, 1) := by decide +kernel
theorem dX2_init_69 : decode cX2_init 69 = .ok (.invokespecial 41, 3) := by decide +kernel
theorem dX2_init_72 : decode cX2_init 72 = .ok (.putfield 44, 3) := by decide +kernel
theorem dX2_init_75 : decode cX2_init 75 = .ok (.aload_n 0, 1) := by decide +kernel
theorem dX2_init_76 : decode cX2_init 76 = .ok (.new 39, 3) := by decide +kernel
theorem dX2_init_79 : decode cX2_init 79 = .ok (.dup, 1) := by decide +kernel
theorem dX2_init_80 : decode cX2_init 80 = .ok (.aload_n 1, 1) := by decide +kernel
theorem dX2_init_81 : decode cX2_init 81 = .ok (.invokespecial 41, 3) := by decide +kernel
theorem dX2_init_84 : decode cX2_init 84 = .ok (.putfield 48, 3) := by decide +kernel
theorem dX2_init_87 : decode cX2_init 87 = .ok (.return_, 1) := by decide +kernel
set_option maxRecDepth 20000 in
theorem ggX2_lookFrom_X1_toNumber : GoodIn wsX2_lookFrom wsX1_toNumber := goodIn_r _ [11, 12, 124, 125] (by decide +kernel) (by decide +kernel)
set_option maxRecDepth 20000 in
theorem gX2_lookFrom_X1_toNumber : GoodIn wsX2_lookFrom (wsV RX2 51 RX1 yX1_toNumber wsX1_toNumber) := goodIn_app (goodIn_of _ (by decide +kernel)) ggX2_lookFrom_X1_toNumber
set_option maxRecDepth 20000 in
theorem ggX2_lookFrom_X0_total : GoodIn wsX2_lookFrom wsX0_total := goodIn_r _ [17, 18, 126, 127] (by decide +kernel) (by decide +kernel)
set_option maxRecDepth 20000 in
theorem gX2_lookFrom_X0_total : GoodIn wsX2_lookFrom (wsV RX2 55 RX0 yX0_total wsX0_total) := goodIn_app (goodIn_of _ (by decide +kernel)) ggX2_lookFrom_X0_total
set_option maxRecDepth 20000 in
theorem ggX2_lookFrom_X2_reach : GoodIn wsX2_lookFrom wsX2_reach := goodIn_r _ [23, 4, 5, 6, 24, 25, 113, 114, 115, 116, 117, 118, 119, 120, 121, 122, 123] (by decide +kernel) (by decide +kernel)
set_option maxRecDepth 20000 in
theorem gX2_lookFrom_X2_reach : GoodIn wsX2_lookFrom (wsV RX2 62 RX2 yX2_reach wsX2_reach) := goodIn_app (goodIn_of _ (by decide +kernel)) ggX2_lookFrom_X2_reach
set_option maxRecDepth 20000 in
theorem ggX2_lookFrom_X2_spread : GoodIn wsX2_lookFrom wsX2_spread := goodIn_r _ [29, 30, 31, 32, 33, 34, 22, 35, 6, 36, 37, 38, 10, 39, 12, 40, 41, 42, 43, 24, 44, 45, 46, 47, 25, 48, 49, 50, 51, 52, 53, 54, 55, 16, 56, 57, 58, 59, 60, 61, 62, 63, 64, 65, 18, 66, 67, 68, 69, 70, 71, 72, 73, 74, 75, 76, 77, 78, 79, 80, 81, 82, 83, 84, 85, 86, 87, 88, 89, 90, 91, 92, 14, 15, 17, 93, 94, 95, 96, 97, 98, 99, 100, 101, 102, 103, 104, 105, 106, 107, 108, 109, 110, 111, 112, 7, 8, 9, 11, 19, 20, 21, 23, 4, 5, 113, 114, 115, 116, 117, 118, 119, 120, 121, 122, 123, 124, 125, 126, 127] (by decide +kernel) (by decide +kernel)
set_option maxRecDepth 20000 in
theorem gX2_lookFrom_X2_spread : GoodIn wsX2_lookFrom (wsV RX2 66 RX2 yX2_spread wsX2_spread) := goodIn_app (goodIn_of _ (by decide +kernel)) ggX2_lookFrom_X2_spread
theorem dX2_lookFrom_0 : decode cX2_lookFrom 0 = .ok (.aload_n 1, 1) := by decide +kernel
theorem dX2_lookFrom_1 : decode cX2_lookFrom 1 = .ok (.invokevirtual 51, 3) := by decide +kernel
theorem dX2_lookFrom_4 : decode cX2_lookFrom 4 = .ok (.istore_n 2, 1) := by decide +kernel
theorem dX2_lookFrom_5 : decode cX2_lookFrom 5 = .ok (.iload_n 2, 1) := by decide +kernel
theorem dX2_lookFrom_6 : decode cX2_lookFrom 6 = .ok (.aload_n 0, 1) := by decide +kernel
theorem dX2_lookFrom_7 : decode cX2_lookFrom 7 = .ok (.getfield 28, 3) := by decide +kernel
theorem dX2_lookFrom_10 : decode cX2_lookFrom 10 = .ok (.if_icmp .ne 18, 3) := by decide +kernel
theorem dX2_lookFrom_13 : decode cX2_lookFrom 13 = .ok (.aload_n 0, 1) := by decide +kernel
theorem dX2_lookFrom_14 : decode cX2_lookFrom 14 = .ok (.getfield 35, 3) := by decide +kernel
theorem dX2_lookFrom_17 : decode cX2_lookFrom 17 = .ok (.invokevirtual 55, 3) := by decide +kernel
theorem dX2_lookFrom_20 : decode cX2_lookFrom 20 = .ok (.aload_n 0, 1) := by decide +kernel
theorem dX2_lookFrom_21 : decode cX2_lookFrom 21 = .ok (.getfield 32, 3) := by decide +kernel
theorem dX2_lookFrom_24 : decode cX2_lookFrom 24 = .ok (.if_icmp .ne 4, 3) := by decide +kernel
theorem dX2_lookFrom_27 : decode cX2_lookFrom 27 = .ok (.return_, 1) := by decide +kernel
theorem dX2_lookFrom_28 : decode cX2_lookFrom 28 = .ok (.aload_n 0, 1) := by decide +kernel
theorem dX2_lookFrom_29 : decode cX2_lookFrom 29 = .ok (.iload_n 2, 1) := by decide +kernel
theorem dX2_lookFrom_30 : decode cX2_lookFrom 30 = .ok (.putfield 28, 3) := by decide +kernel
theorem dX2_lookFrom_33 : decode cX2_lookFrom 33 = .ok (.aload_n 0, 1) := by decide +kernel
theorem dX2_lookFrom_34 : decode cX2_lookFrom 34 = .ok (.aload_n 0, 1) := by decide +kernel
theorem dX2_lookFrom_35 : decode cX2_lookFrom 35 = .ok (.getfield 35, 3) := by decide +kernel
theorem dX2_lookFrom_38 : decode cX2_lookFrom 38 = .ok (.invokevirtual 55, 3) := by decide +kernel
theorem dX2_lookFrom_41 : decode cX2_lookFrom 41 = .ok (.putfield 32, 3) := by decide +kernel
theorem dX2_lookFrom_44 : decode cX2_lookFrom 44 = .ok (.iconst 0, 1) := by decide +kernel
theorem dX2_lookFrom_45 : decode cX2_lookFrom 45 = .ok (.istore_n 3, 1) := by decide +kernel
theorem dX2_lookFrom_46 : decode cX2_lookFrom 46 = .ok (.iload_n 3, 1) := by decide +kernel
theorem dX2_lookFrom_47 : decode cX2_lookFrom 47 = .ok (.aload_n 0, 1) := by decide +kernel
theorem dX2_lookFrom_48 : decode cX2_lookFrom 48 = .ok (.getfield 21, 3) := by decide +kernel
theorem dX2_lookFrom_51 : decode cX2_lookFrom 51 = .ok (.arraylength, 1) := by decide +kernel
theorem dX2_lookFrom_52 : decode cX2_lookFrom 52 = .ok (.if_icmp .ge 16, 3) := by decide +kernel
theorem dX2_lookFrom_55 : decode cX2_lookFrom 55 = .ok (.aload_n 0, 1) := by decide +kernel
theorem dX2_lookFrom_56 : decode cX2_lookFrom 56 = .ok (.getfield 21, 3) := by decide +kernel
theorem dX2_lookFrom_59 : decode cX2_lookFrom 59 = .ok (.iload_n 3, 1) := by decide +kernel
theorem dX2_lookFrom_60 : decode cX2_lookFrom 60 = .ok (.iconst 0, 1) := by decide +kernel
theorem dX2_lookFrom_61 : decode cX2_lookFrom 61 = .ok (.bastore, 1) := by decide +kernel
theorem dX2_lookFrom_62 : decode cX2_lookFrom 62 = .ok (.iinc 3 1, 3) := by decide +kernel
theorem dX2_lookFrom_65 : decode cX2_lookFrom 65 = .ok (.goto (-19), 3) := by decide +kernel
theorem dX2_lookFrom_68 : decode cX2_lookFrom 68 = .ok (.aload_n 0, 1) := by decide +kernel
theorem dX2_lookFrom_69 : decode cX2_lookFrom 69 = .ok (.iconst 0, 1) := by decide +kernel
theorem dX2_lookFrom_70 : decode cX2_lookFrom 70 = .ok (.putfield 60, 3) := by decide +kernel
theorem dX2_lookFrom_73 : decode cX2_lookFrom 73 = .ok (.aload_n 0, 1) := by decide +kernel
theorem dX2_lookFrom_74 : decode cX2_lookFrom 74 = .ok (.iload_n 2, 1) := by decide +kernel
theorem dX2_lookFrom_75 : decode cX2_lookFrom 75 = .ok (.iconst 0, 1) := by decide +kernel
theorem dX2_lookFrom_76 : decode cX2_lookFrom 76 = .ok (.iconst (-1), 1) := by decide +kernel
theorem dX2_lookFrom_77 : decode cX2_lookFrom 77 = .ok (.invokevirtual 62, 3) := by decide +kernel
theorem dX2_lookFrom_80 : decode cX2_lookFrom 80 = .ok (.iconst 0, 1) := by decide +kernel
theorem dX2_lookFrom_81 : decode cX2_lookFrom 81 = .ok (.istore_n 3, 1) := by decide +kernel
theorem dX2_lookFrom_82 : decode cX2_lookFrom 82 = .ok (.iload_n 3, 1) := by decide +kernel
theorem dX2_lookFrom_83 : decode cX2_lookFrom 83 = .ok (.aload_n 0, 1) := by decide +kernel
theorem dX2_lookFrom_84 : decode cX2_lookFrom 84 = .ok (.getfield 60, 3) := by decide +kernel
theorem dX2_lookFrom_87 : decode cX2_lookFrom 87 = .ok (.if_icmp .ge 23, 3) := by decide +kernel
theorem dX2_lookFrom_90 : decode cX2_lookFrom 90 = .ok (.iload_n 3, 1) := by decide +kernel
theorem dX2_lookFrom_91 : decode cX2_lookFrom 91 = .ok (.aload_n 0, 1) := by decide +kernel
theorem dX2_lookFrom_92 : decode cX2_lookFrom 92 = .ok (.getfield 11, 3) := by decide +kernel
theorem dX2_lookFrom_95 : decode cX2_lookFrom 95 = .ok (.arraylength, 1) := by decide +kernel
theorem dX2_lookFrom_96 : decode cX2_lookFrom 96 = .ok (.if_icmp .ge 14, 3) := by decide +kernel
theorem dX2_lookFrom_99 : decode cX2_lookFrom 99 = .ok (.aload_n 0, 1) := by decide +kernel
theorem dX2_lookFrom_100 : decode cX2_lookFrom 100 = .ok (.iload_n 3, 1) := by decide +kernel
theorem dX2_lookFrom_101 : decode cX2_lookFrom 101 = .ok (.invokevirtual 66, 3) := by decide +kernel
theorem dX2_lookFrom_104 : decode cX2_lookFrom 104 = .ok (.iinc 3 1, 3) := by decide +kernel
theorem dX2_lookFrom_107 : decode cX2_lookFrom 107 = .ok (.goto (-25), 3) := by decide +kernel
theorem dX2_lookFrom_110 : decode cX2_lookFrom 110 = .ok (.return_, 1) := by decide +kernel
set_option maxRecDepth 20000 in
theorem ggX2_spread_X2_reachedAt : GoodIn wsX2_spread wsX2_reachedAt := goodIn_r _ [7, 8, 105, 106, 107, 108, 109, 110, 111, 112, 113, 114, 115] (by decide +kernel) (by decide +kernel)
set_option maxRecDepth 20000 in
theorem gX2_spread_X2_reachedAt : GoodIn wsX2_spread (wsV RX2 70 RX2 yX2_reachedAt wsX2_reachedAt) := goodIn_app (goodIn_of _ (by decide +kernel)) ggX2_spread_X2_reachedAt
set_option maxRecDepth 20000 in
theorem ggX2_spread_X1_become : GoodIn wsX2_spread wsX1_become := goodIn_r _ [13, 14, 116, 117] (by decide +kernel) (by decide +kernel)
set_option maxRecDepth 20000 in
theorem gX2_spread_X1_become : GoodIn wsX2_spread (wsV RX2 74 RX1 yX1_become wsX1_become) := goodIn_app (goodIn_of _ (by decide +kernel)) ggX2_spread_X1_become
set_option maxRecDepth 20000 in
theorem ggX2_spread_X2_stepsAt : GoodIn wsX2_spread wsX2_stepsAt := goodIn_r _ [18, 19, 105, 106, 107, 108, 109, 110, 111, 112, 113, 114, 115] (by decide +kernel) (by decide +kernel)
set_option maxRecDepth 20000 in
theorem gX2_spread_X2_stepsAt : GoodIn wsX2_spread (wsV RX2 77 RX2 yX2_stepsAt wsX2_stepsAt) := goodIn_app (goodIn_of _ (by decide +kernel)) ggX2_spread_X2_stepsAt
set_option maxRecDepth 20000 in
theorem ggX2_spread_X2_firstAt : GoodIn wsX2_spread wsX2_firstAt := goodIn_r _ [23, 24, 105, 106, 107, 108, 109, 110, 111, 112, 113, 114, 115] (by decide +kernel) (by decide +kernel)
set_option maxRecDepth 20000 in
theorem gX2_spread_X2_firstAt : GoodIn wsX2_spread (wsV RX2 80 RX2 yX2_firstAt wsX2_firstAt) := goodIn_app (goodIn_of _ (by decide +kernel)) ggX2_spread_X2_firstAt
set_option maxRecDepth 20000 in
theorem ggX2_spread_X1_allows : GoodIn wsX2_spread wsX1_allows := goodIn_r _ [28, 29, 30, 31, 32, 33, 34, 35, 36, 37, 38, 39, 40, 41, 42, 43, 44, 45, 46, 47, 48, 49, 50, 12, 51, 52, 53, 54, 55, 14, 56, 57, 58, 59, 60, 61, 62, 63, 64, 65, 66, 67, 68, 69, 70, 71, 72, 73, 74, 75, 76, 77, 78, 79, 80, 81, 82, 116, 117, 118, 119] (by decide +kernel) (by decide +kernel)
set_option maxRecDepth 20000 in
theorem gX2_spread_X1_allows : GoodIn wsX2_spread (wsV RX2 83 RX1 yX1_allows wsX1_allows) := goodIn_app (goodIn_of _ (by decide +kernel)) ggX2_spread_X1_allows
set_option maxRecDepth 20000 in
theorem ggX2_spread_X1_copy : GoodIn wsX2_spread wsX1_copy := goodIn_r _ [86, 14, 52, 53, 54, 12, 55, 116, 117] (by decide +kernel) (by decide +kernel)
set_option maxRecDepth 20000 in
theorem gX2_spread_X1_copy : GoodIn wsX2_spread (wsV RX2 87 RX1 yX1_copy wsX1_copy) := goodIn_app (goodIn_of _ (by decide +kernel)) ggX2_spread_X1_copy
set_option maxRecDepth 20000 in
theorem ggX2_spread_X1_carryOut : GoodIn wsX2_spread wsX1_carryOut := goodIn_r _ [90, 14, 38, 36, 39, 45, 46, 47, 91, 92, 93, 12, 94, 75, 76, 77, 78, 29, 56, 57, 58, 33, 59, 60, 61, 62, 63, 64, 65, 71, 72, 73, 74, 44, 52, 53, 54, 55, 116, 117, 118, 119] (by decide +kernel) (by decide +kernel)
set_option maxRecDepth 20000 in
theorem gX2_spread_X1_carryOut : GoodIn wsX2_spread (wsV RX2 91 RX1 yX1_carryOut wsX1_carryOut) := goodIn_app (goodIn_of _ (by decide +kernel)) ggX2_spread_X1_carryOut
set_option maxRecDepth 20000 in
theorem ggX2_spread_X1_toNumber : GoodIn wsX2_spread wsX1_toNumber := goodIn_r _ [98, 14, 116, 117] (by decide +kernel) (by decide +kernel)
set_option maxRecDepth 20000 in
theorem gX2_spread_X1_toNumber : GoodIn wsX2_spread (wsV RX2 51 RX1 yX1_toNumber wsX1_toNumber) := goodIn_app (goodIn_of _ (by decide +kernel)) ggX2_spread_X1_toNumber
set_option maxRecDepth 20000 in
theorem ggX2_spread_X2_reach : GoodIn wsX2_spread wsX2_reach := goodIn_r _ [102, 103, 104, 8, 19, 24, 105, 106, 107, 108, 109, 110, 111, 112, 113, 114, 115] (by decide +kernel) (by decide +kernel)
set_option maxRecDepth 20000 in
theorem gX2_spread_X2_reach : GoodIn wsX2_spread (wsV RX2 62 RX2 yX2_reach wsX2_reach) := goodIn_app (goodIn_of _ (by decide +kernel)) ggX2_spread_X2_reach
theorem dX2_spread_0 : decode cX2_spread 0 = .ok (.aload_n 0, 1) := by decide +kernel
theorem dX2_spread_1 : decode cX2_spread 1 = .ok (.getfield 44, 3) := by decide +kernel
theorem dX2_spread_4 : decode cX2_spread 4 = .ok (.aload_n 0, 1) := by decide +kernel
theorem dX2_spread_5 : decode cX2_spread 5 = .ok (.iload_n 1, 1) := by decide +kernel
theorem dX2_spread_6 : decode cX2_spread 6 = .ok (.invokevirtual 70, 3) := by decide +kernel
theorem dX2_spread_9 : decode cX2_spread 9 = .ok (.invokevirtual 74, 3) := by decide +kernel
theorem dX2_spread_12 : decode cX2_spread 12 = .ok (.aload_n 0, 1) := by decide +kernel
theorem dX2_spread_13 : decode cX2_spread 13 = .ok (.iload_n 1, 1) := by decide +kernel
theorem dX2_spread_14 : decode cX2_spread 14 = .ok (.invokevirtual 77, 3) := by decide +kernel
theorem dX2_spread_17 : decode cX2_spread 17 = .ok (.iconst 1, 1) := by decide +kernel
theorem dX2_spread_18 : decode cX2_spread 18 = .ok (.iadd, 1) := by decide +kernel
theorem dX2_spread_19 : decode cX2_spread 19 = .ok (.istore_n 2, 1) := by decide +kernel
theorem dX2_spread_20 : decode cX2_spread 20 = .ok (.aload_n 0, 1) := by decide +kernel
theorem dX2_spread_21 : decode cX2_spread 21 = .ok (.iload_n 1, 1) := by decide +kernel
theorem dX2_spread_22 : decode cX2_spread 22 = .ok (.invokevirtual 80, 3) := by decide +kernel
theorem dX2_spread_25 : decode cX2_spread 25 = .ok (.istore_n 3, 1) := by decide +kernel
theorem dX2_spread_26 : decode cX2_spread 26 = .ok (.iconst 0, 1) := by decide +kernel
theorem dX2_spread_27 : decode cX2_spread 27 = .ok (.istore 4, 2) := by decide +kernel
theorem dX2_spread_29 : decode cX2_spread 29 = .ok (.iload 4, 2) := by decide +kernel
theorem dX2_spread_31 : decode cX2_spread 31 = .ok (.bipush 45, 2) := by decide +kernel
theorem dX2_spread_33 : decode cX2_spread 33 = .ok (.if_icmp .ge 64, 3) := by decide +kernel
theorem dX2_spread_36 : decode cX2_spread 36 = .ok (.aload_n 0, 1) := by decide +kernel
theorem dX2_spread_37 : decode cX2_spread 37 = .ok (.getfield 44, 3) := by decide +kernel
theorem dX2_spread_40 : decode cX2_spread 40 = .ok (.iload 4, 2) := by decide +kernel
theorem dX2_spread_42 : decode cX2_spread 42 = .ok (.invokevirtual 83, 3) := by decide +kernel
theorem dX2_spread_45 : decode cX2_spread 45 = .ok (.ifCond .eq 46, 3) := by decide +kernel
theorem dX2_spread_48 : decode cX2_spread 48 = .ok (.aload_n 0, 1) := by decide +kernel
theorem dX2_spread_49 : decode cX2_spread 49 = .ok (.getfield 48, 3) := by decide +kernel
theorem dX2_spread_52 : decode cX2_spread 52 = .ok (.aload_n 0, 1) := by decide +kernel
theorem dX2_spread_53 : decode cX2_spread 53 = .ok (.getfield 44, 3) := by decide +kernel
theorem dX2_spread_56 : decode cX2_spread 56 = .ok (.invokevirtual 87, 3) := by decide +kernel
theorem dX2_spread_59 : decode cX2_spread 59 = .ok (.aload_n 0, 1) := by decide +kernel
theorem dX2_spread_60 : decode cX2_spread 60 = .ok (.getfield 48, 3) := by decide +kernel
theorem dX2_spread_63 : decode cX2_spread 63 = .ok (.iload 4, 2) := by decide +kernel
theorem dX2_spread_65 : decode cX2_spread 65 = .ok (.invokevirtual 91, 3) := by decide +kernel
theorem dX2_spread_68 : decode cX2_spread 68 = .ok (.aload_n 0, 1) := by decide +kernel
theorem dX2_spread_69 : decode cX2_spread 69 = .ok (.aload_n 0, 1) := by decide +kernel
theorem dX2_spread_70 : decode cX2_spread 70 = .ok (.getfield 48, 3) := by decide +kernel
theorem dX2_spread_73 : decode cX2_spread 73 = .ok (.invokevirtual 51, 3) := by decide +kernel
theorem dX2_spread_76 : decode cX2_spread 76 = .ok (.iload_n 2, 1) := by decide +kernel
theorem dX2_spread_77 : decode cX2_spread 77 = .ok (.iload_n 3, 1) := by decide +kernel
theorem dX2_spread_78 : decode cX2_spread 78 = .ok (.iconst (-1), 1) := by decide +kernel
theorem dX2_spread_79 : decode cX2_spread 79 = .ok (.if_icmp .ne 8, 3) := by decide +kernel
theorem dX2_spread_82 : decode cX2_spread 82 = .ok (.iload 4, 2) := by decide +kernel
theorem dX2_spread_84 : decode cX2_spread 84 = .ok (.goto 4, 3) := by decide +kernel
theorem dX2_spread_87 : decode cX2_spread 87 = .ok (.iload_n 3, 1) := by decide +kernel
theorem dX2_spread_88 : decode cX2_spread 88 = .ok (.invokevirtual 62, 3) := by decide +kernel
theorem dX2_spread_91 : decode cX2_spread 91 = .ok (.iinc 4 1, 3) := by decide +kernel
theorem dX2_spread_94 : decode cX2_spread 94 = .ok (.goto (-65), 3) := by decide +kernel
theorem dX2_spread_97 : decode cX2_spread 97 = .ok (.return_, 1) := by decide +kernel
theorem dX2_reach_0 : decode cX2_reach 0 = .ok (.iload_n 1, 1) := by decide +kernel
theorem dX2_reach_1 : decode cX2_reach 1 = .ok (.ifCond .lt 21, 3) := by decide +kernel
theorem dX2_reach_4 : decode cX2_reach 4 = .ok (.iload_n 1, 1) := by decide +kernel
theorem dX2_reach_5 : decode cX2_reach 5 = .ok (.aload_n 0, 1) := by decide +kernel
theorem dX2_reach_6 : decode cX2_reach 6 = .ok (.getfield 21, 3) := by decide +kernel
theorem dX2_reach_9 : decode cX2_reach 9 = .ok (.arraylength, 1) := by decide +kernel
theorem dX2_reach_10 : decode cX2_reach 10 = .ok (.if_icmp .ge 12, 3) := by decide +kernel
theorem dX2_reach_13 : decode cX2_reach 13 = .ok (.aload_n 0, 1) := by decide +kernel
theorem dX2_reach_14 : decode cX2_reach 14 = .ok (.getfield 21, 3) := by decide +kernel
theorem dX2_reach_17 : decode cX2_reach 17 = .ok (.iload_n 1, 1) := by decide +kernel
theorem dX2_reach_18 : decode cX2_reach 18 = .ok (.baload, 1) := by decide +kernel
theorem dX2_reach_19 : decode cX2_reach 19 = .ok (.ifCond .eq 4, 3) := by decide +kernel
theorem dX2_reach_22 : decode cX2_reach 22 = .ok (.return_, 1) := by decide +kernel
theorem dX2_reach_23 : decode cX2_reach 23 = .ok (.aload_n 0, 1) := by decide +kernel
theorem dX2_reach_24 : decode cX2_reach 24 = .ok (.getfield 60, 3) := by decide +kernel
theorem dX2_reach_27 : decode cX2_reach 27 = .ok (.ifCond .lt 39, 3) := by decide +kernel
theorem dX2_reach_30 : decode cX2_reach 30 = .ok (.aload_n 0, 1) := by decide +kernel
theorem dX2_reach_31 : decode cX2_reach 31 = .ok (.getfield 60, 3) := by decide +kernel
theorem dX2_reach_34 : decode cX2_reach 34 = .ok (.aload_n 0, 1) := by decide +kernel
theorem dX2_reach_35 : decode cX2_reach 35 = .ok (.getfield 11, 3) := by decide +kernel
theorem dX2_reach_38 : decode cX2_reach 38 = .ok (.arraylength, 1) := by decide +kernel
theorem dX2_reach_39 : decode cX2_reach 39 = .ok (.if_icmp .ge 27, 3) := by decide +kernel
theorem dX2_reach_42 : decode cX2_reach 42 = .ok (.aload_n 0, 1) := by decide +kernel
theorem dX2_reach_43 : decode cX2_reach 43 = .ok (.getfield 60, 3) := by decide +kernel
theorem dX2_reach_46 : decode cX2_reach 46 = .ok (.aload_n 0, 1) := by decide +kernel
theorem dX2_reach_47 : decode cX2_reach 47 = .ok (.getfield 15, 3) := by decide +kernel
theorem dX2_reach_50 : decode cX2_reach 50 = .ok (.arraylength, 1) := by decide +kernel
theorem dX2_reach_51 : decode cX2_reach 51 = .ok (.if_icmp .ge 15, 3) := by decide +kernel
theorem dX2_reach_54 : decode cX2_reach 54 = .ok (.aload_n 0, 1) := by decide +kernel
theorem dX2_reach_55 : decode cX2_reach 55 = .ok (.getfield 60, 3) := by decide +kernel
theorem dX2_reach_58 : decode cX2_reach 58 = .ok (.aload_n 0, 1) := by decide +kernel
theorem dX2_reach_59 : decode cX2_reach 59 = .ok (.getfield 18, 3) := by decide +kernel
theorem dX2_reach_62 : decode cX2_reach 62 = .ok (.arraylength, 1) := by decide +kernel
theorem dX2_reach_63 : decode cX2_reach 63 = .ok (.if_icmp .lt 4, 3) := by decide +kernel
theorem dX2_reach_66 : decode cX2_reach 66 = .ok (.return_, 1) := by decide +kernel
theorem dX2_reach_67 : decode cX2_reach 67 = .ok (.aload_n 0, 1) := by decide +kernel
theorem dX2_reach_68 : decode cX2_reach 68 = .ok (.getfield 21, 3) := by decide +kernel
theorem dX2_reach_71 : decode cX2_reach 71 = .ok (.iload_n 1, 1) := by decide +kernel
theorem dX2_reach_72 : decode cX2_reach 72 = .ok (.iconst 1, 1) := by decide +kernel
theorem dX2_reach_73 : decode cX2_reach 73 = .ok (.bastore, 1) := by decide +kernel
theorem dX2_reach_74 : decode cX2_reach 74 = .ok (.aload_n 0, 1) := by decide +kernel
theorem dX2_reach_75 : decode cX2_reach 75 = .ok (.getfield 11, 3) := by decide +kernel
theorem dX2_reach_78 : decode cX2_reach 78 = .ok (.aload_n 0, 1) := by decide +kernel
theorem dX2_reach_79 : decode cX2_reach 79 = .ok (.getfield 60, 3) := by decide +kernel
theorem dX2_reach_82 : decode cX2_reach 82 = .ok (.iload_n 1, 1) := by decide +kernel
theorem dX2_reach_83 : decode cX2_reach 83 = .ok (.iastore, 1) := by decide +kernel
theorem dX2_reach_84 : decode cX2_reach 84 = .ok (.aload_n 0, 1) := by decide +kernel
theorem dX2_reach_85 : decode cX2_reach 85 = .ok (.getfield 15, 3) := by decide +kernel
theorem dX2_reach_88 : decode cX2_reach 88 = .ok (.aload_n 0, 1) := by decide +kernel
theorem dX2_reach_89 : decode cX2_reach 89 = .ok (.getfield 60, 3) := by decide +kernel
theorem dX2_reach_92 : decode cX2_reach 92 = .ok (.iload_n 2, 1) := by decide +kernel
theorem dX2_reach_93 : decode cX2_reach 93 = .ok (.iastore, 1) := by decide +kernel
theorem dX2_reach_94 : decode cX2_reach 94 = .ok (.aload_n 0, 1) := by decide +kernel
theorem dX2_reach_95 : decode cX2_reach 95 = .ok (.getfield 18, 3) := by decide +kernel
theorem dX2_reach_98 : decode cX2_reach 98 = .ok (.aload_n 0, 1) := by decide +kernel
theorem dX2_reach_99 : decode cX2_reach 99 = .ok (.getfield 60, 3) := by decide +kernel
theorem dX2_reach_102 : decode cX2_reach 102 = .ok (.iload_n 3, 1) := by decide +kernel
theorem dX2_reach_103 : decode cX2_reach 103 = .ok (.iastore, 1) := by decide +kernel
theorem dX2_reach_104 : decode cX2_reach 104 = .ok (.aload_n 0, 1) := by decide +kernel
theorem dX2_reach_105 : decode cX2_reach 105 = .ok (.dup, 1) := by decide +kernel
theorem dX2_reach_106 : decode cX2_reach 106 = .ok (.getfield 60, 3) := by decide +kernel
theorem dX2_reach_109 : decode cX2_reach 109 = .ok (.iconst 1, 1) := by decide +kernel
theorem dX2_reach_110 : decode cX2_reach 110 = .ok (.iadd, 1) := by decide +kernel
theorem dX2_reach_111 : decode cX2_reach 111 = .ok (.putfield 60, 3) := by decide +kernel
theorem dX2_reach_114 : decode cX2_reach 114 = .ok (.return_, 1) := by decide +kernel
theorem dX2_reachedAt_0 : decode cX2_reachedAt 0 = .ok (.iload_n 1, 1) := by decide +kernel
theorem dX2_reachedAt_1 : decode cX2_reachedAt 1 = .ok (.ifCond .lt 21, 3) := by decide +kernel
theorem dX2_reachedAt_4 : decode cX2_reachedAt 4 = .ok (.iload_n 1, 1) := by decide +kernel
theorem dX2_reachedAt_5 : decode cX2_reachedAt 5 = .ok (.aload_n 0, 1) := by decide +kernel
theorem dX2_reachedAt_6 : decode cX2_reachedAt 6 = .ok (.getfield 11, 3) := by decide +kernel
theorem dX2_reachedAt_9 : decode cX2_reachedAt 9 = .ok (.arraylength, 1) := by decide +kernel
theorem dX2_reachedAt_10 : decode cX2_reachedAt 10 = .ok (.if_icmp .ge 12, 3) := by decide +kernel
theorem dX2_reachedAt_13 : decode cX2_reachedAt 13 = .ok (.aload_n 0, 1) := by decide +kernel
theorem dX2_reachedAt_14 : decode cX2_reachedAt 14 = .ok (.getfield 11, 3) := by decide +kernel
theorem dX2_reachedAt_17 : decode cX2_reachedAt 17 = .ok (.iload_n 1, 1) := by decide +kernel
theorem dX2_reachedAt_18 : decode cX2_reachedAt 18 = .ok (.iaload, 1) := by decide +kernel
theorem dX2_reachedAt_19 : decode cX2_reachedAt 19 = .ok (.goto 4, 3) := by decide +kernel
theorem dX2_reachedAt_22 : decode cX2_reachedAt 22 = .ok (.iconst 0, 1) := by decide +kernel
theorem dX2_reachedAt_23 : decode cX2_reachedAt 23 = .ok (.ireturn, 1) := by decide +kernel
theorem dX2_stepsAt_0 : decode cX2_stepsAt 0 = .ok (.iload_n 1, 1) := by decide +kernel
theorem dX2_stepsAt_1 : decode cX2_stepsAt 1 = .ok (.ifCond .lt 21, 3) := by decide +kernel
theorem dX2_stepsAt_4 : decode cX2_stepsAt 4 = .ok (.iload_n 1, 1) := by decide +kernel
theorem dX2_stepsAt_5 : decode cX2_stepsAt 5 = .ok (.aload_n 0, 1) := by decide +kernel
theorem dX2_stepsAt_6 : decode cX2_stepsAt 6 = .ok (.getfield 15, 3) := by decide +kernel
theorem dX2_stepsAt_9 : decode cX2_stepsAt 9 = .ok (.arraylength, 1) := by decide +kernel
theorem dX2_stepsAt_10 : decode cX2_stepsAt 10 = .ok (.if_icmp .ge 12, 3) := by decide +kernel
theorem dX2_stepsAt_13 : decode cX2_stepsAt 13 = .ok (.aload_n 0, 1) := by decide +kernel
theorem dX2_stepsAt_14 : decode cX2_stepsAt 14 = .ok (.getfield 15, 3) := by decide +kernel
theorem dX2_stepsAt_17 : decode cX2_stepsAt 17 = .ok (.iload_n 1, 1) := by decide +kernel
theorem dX2_stepsAt_18 : decode cX2_stepsAt 18 = .ok (.iaload, 1) := by decide +kernel
theorem dX2_stepsAt_19 : decode cX2_stepsAt 19 = .ok (.goto 4, 3) := by decide +kernel
theorem dX2_stepsAt_22 : decode cX2_stepsAt 22 = .ok (.iconst (-1), 1) := by decide +kernel
theorem dX2_stepsAt_23 : decode cX2_stepsAt 23 = .ok (.ireturn, 1) := by decide +kernel
theorem dX2_firstAt_0 : decode cX2_firstAt 0 = .ok (.iload_n 1, 1) := by decide +kernel
theorem dX2_firstAt_1 : decode cX2_firstAt 1 = .ok (.ifCond .lt 21, 3) := by decide +kernel
theorem dX2_firstAt_4 : decode cX2_firstAt 4 = .ok (.iload_n 1, 1) := by decide +kernel
theorem dX2_firstAt_5 : decode cX2_firstAt 5 = .ok (.aload_n 0, 1) := by decide +kernel
theorem dX2_firstAt_6 : decode cX2_firstAt 6 = .ok (.getfield 18, 3) := by decide +kernel
theorem dX2_firstAt_9 : decode cX2_firstAt 9 = .ok (.arraylength, 1) := by decide +kernel
theorem dX2_firstAt_10 : decode cX2_firstAt 10 = .ok (.if_icmp .ge 12, 3) := by decide +kernel
theorem dX2_firstAt_13 : decode cX2_firstAt 13 = .ok (.aload_n 0, 1) := by decide +kernel
theorem dX2_firstAt_14 : decode cX2_firstAt 14 = .ok (.getfield 18, 3) := by decide +kernel
theorem dX2_firstAt_17 : decode cX2_firstAt 17 = .ok (.iload_n 1, 1) := by decide +kernel
theorem dX2_firstAt_18 : decode cX2_firstAt 18 = .ok (.iaload, 1) := by decide +kernel
theorem dX2_firstAt_19 : decode cX2_firstAt 19 = .ok (.goto 4, 3) := by decide +kernel
theorem dX2_firstAt_22 : decode cX2_firstAt 22 = .ok (.iconst (-1), 1) := by decide +kernel
theorem dX2_firstAt_23 : decode cX2_firstAt 23 = .ok (.ireturn, 1) := by decide +kernel
theorem dX2_total_0 : decode cX2_total 0 = .ok (.aload_n 0, 1) := by decide +kernel
theorem dX2_total_1 : decode cX2_total 1 = .ok (.getfield 60, 3) := by decide +kernel
theorem dX2_total_4 : decode cX2_total 4 = .ok (.ireturn, 1) := by decide +kernel
theorem dX2_numberAt_0 : decode cX2_numberAt 0 = .ok (.iconst 0, 1) := by decide +kernel
theorem dX2_numberAt_1 : decode cX2_numberAt 1 = .ok (.istore_n 2, 1) := by decide +kernel
theorem dX2_numberAt_2 : decode cX2_numberAt 2 = .ok (.iconst 0, 1) := by decide +kernel
theorem dX2_numberAt_3 : decode cX2_numberAt 3 = .ok (.istore_n 3, 1) := by decide +kernel
theorem dX2_numberAt_4 : decode cX2_numberAt 4 = .ok (.iload_n 3, 1) := by decide +kernel
theorem dX2_numberAt_5 : decode cX2_numberAt 5 = .ok (.aload_n 0, 1) := by decide +kernel
theorem dX2_numberAt_6 : decode cX2_numberAt 6 = .ok (.getfield 21, 3) := by decide +kernel
theorem dX2_numberAt_9 : decode cX2_numberAt 9 = .ok (.arraylength, 1) := by decide +kernel
theorem dX2_numberAt_10 : decode cX2_numberAt 10 = .ok (.if_icmp .ge 28, 3) := by decide +kernel
theorem dX2_numberAt_13 : decode cX2_numberAt 13 = .ok (.aload_n 0, 1) := by decide +kernel
theorem dX2_numberAt_14 : decode cX2_numberAt 14 = .ok (.getfield 21, 3) := by decide +kernel
theorem dX2_numberAt_17 : decode cX2_numberAt 17 = .ok (.iload_n 3, 1) := by decide +kernel
theorem dX2_numberAt_18 : decode cX2_numberAt 18 = .ok (.baload, 1) := by decide +kernel
theorem dX2_numberAt_19 : decode cX2_numberAt 19 = .ok (.ifCond .eq 13, 3) := by decide +kernel
theorem dX2_numberAt_22 : decode cX2_numberAt 22 = .ok (.iload_n 2, 1) := by decide +kernel
theorem dX2_numberAt_23 : decode cX2_numberAt 23 = .ok (.iload_n 1, 1) := by decide +kernel
theorem dX2_numberAt_24 : decode cX2_numberAt 24 = .ok (.if_icmp .ne 5, 3) := by decide +kernel
theorem dX2_numberAt_27 : decode cX2_numberAt 27 = .ok (.iload_n 3, 1) := by decide +kernel
theorem dX2_numberAt_28 : decode cX2_numberAt 28 = .ok (.ireturn, 1) := by decide +kernel
theorem dX2_numberAt_29 : decode cX2_numberAt 29 = .ok (.iinc 2 1, 3) := by decide +kernel
theorem dX2_numberAt_32 : decode cX2_numberAt 32 = .ok (.iinc 3 1, 3) := by decide +kernel
theorem dX2_numberAt_35 : decode cX2_numberAt 35 = .ok (.goto (-31), 3) := by decide +kernel
theorem dX2_numberAt_38 : decode cX2_numberAt 38 = .ok (.iconst (-1), 1) := by decide +kernel
theorem dX2_numberAt_39 : decode cX2_numberAt 39 = .ok (.ireturn, 1) := by decide +kernel
set_option maxRecDepth 20000 in
theorem ggX2_placeWhereOut_X1_become : GoodIn wsX2_placeWhereOut wsX1_become := goodIn_r _ [8, 9, 25, 26] (by decide +kernel) (by decide +kernel)
set_option maxRecDepth 20000 in
theorem gX2_placeWhereOut_X1_become : GoodIn wsX2_placeWhereOut (wsV RX2 74 RX1 yX1_become wsX1_become) := goodIn_app (goodIn_of _ (by decide +kernel)) ggX2_placeWhereOut_X1_become
set_option maxRecDepth 20000 in
theorem ggX2_placeWhereOut_X1_areOutside : GoodIn wsX2_placeWhereOut wsX1_areOutside := goodIn_r _ [13, 9, 25, 26] (by decide +kernel) (by decide +kernel)
set_option maxRecDepth 20000 in
theorem gX2_placeWhereOut_X1_areOutside : GoodIn wsX2_placeWhereOut (wsV RX2 94 RX1 yX1_areOutside wsX1_areOutside) := goodIn_app (goodIn_of _ (by decide +kernel)) ggX2_placeWhereOut_X1_areOutside
theorem dX2_placeWhereOut_0 : decode cX2_placeWhereOut 0 = .ok (.iconst 0, 1) := by decide +kernel
theorem dX2_placeWhereOut_1 : decode cX2_placeWhereOut 1 = .ok (.istore_n 2, 1) := by decide +kernel
theorem dX2_placeWhereOut_2 : decode cX2_placeWhereOut 2 = .ok (.iload_n 2, 1) := by decide +kernel
theorem dX2_placeWhereOut_3 : decode cX2_placeWhereOut 3 = .ok (.aload_n 0, 1) := by decide +kernel
theorem dX2_placeWhereOut_4 : decode cX2_placeWhereOut 4 = .ok (.getfield 60, 3) := by decide +kernel
theorem dX2_placeWhereOut_7 : decode cX2_placeWhereOut 7 = .ok (.if_icmp .ge 44, 3) := by decide +kernel
theorem dX2_placeWhereOut_10 : decode cX2_placeWhereOut 10 = .ok (.iload_n 2, 1) := by decide +kernel
theorem dX2_placeWhereOut_11 : decode cX2_placeWhereOut 11 = .ok (.aload_n 0, 1) := by decide +kernel
theorem dX2_placeWhereOut_12 : decode cX2_placeWhereOut 12 = .ok (.getfield 11, 3) := by decide +kernel
theorem dX2_placeWhereOut_15 : decode cX2_placeWhereOut 15 = .ok (.arraylength, 1) := by decide +kernel
theorem dX2_placeWhereOut_16 : decode cX2_placeWhereOut 16 = .ok (.if_icmp .ge 35, 3) := by decide +kernel
theorem dX2_placeWhereOut_19 : decode cX2_placeWhereOut 19 = .ok (.aload_n 0, 1) := by decide +kernel
theorem dX2_placeWhereOut_20 : decode cX2_placeWhereOut 20 = .ok (.getfield 44, 3) := by decide +kernel
theorem dX2_placeWhereOut_23 : decode cX2_placeWhereOut 23 = .ok (.aload_n 0, 1) := by decide +kernel
theorem dX2_placeWhereOut_24 : decode cX2_placeWhereOut 24 = .ok (.getfield 11, 3) := by decide +kernel
theorem dX2_placeWhereOut_27 : decode cX2_placeWhereOut 27 = .ok (.iload_n 2, 1) := by decide +kernel
theorem dX2_placeWhereOut_28 : decode cX2_placeWhereOut 28 = .ok (.iaload, 1) := by decide +kernel
theorem dX2_placeWhereOut_29 : decode cX2_placeWhereOut 29 = .ok (.invokevirtual 74, 3) := by decide +kernel
theorem dX2_placeWhereOut_32 : decode cX2_placeWhereOut 32 = .ok (.aload_n 0, 1) := by decide +kernel
theorem dX2_placeWhereOut_33 : decode cX2_placeWhereOut 33 = .ok (.getfield 44, 3) := by decide +kernel
theorem dX2_placeWhereOut_36 : decode cX2_placeWhereOut 36 = .ok (.iload_n 1, 1) := by decide +kernel
theorem dX2_placeWhereOut_37 : decode cX2_placeWhereOut 37 = .ok (.invokevirtual 94, 3) := by decide +kernel
theorem dX2_placeWhereOut_40 : decode cX2_placeWhereOut 40 = .ok (.ifCond .eq 5, 3) := by decide +kernel
theorem dX2_placeWhereOut_43 : decode cX2_placeWhereOut 43 = .ok (.iload_n 2, 1) := by decide +kernel
theorem dX2_placeWhereOut_44 : decode cX2_placeWhereOut 44 = .ok (.ireturn, 1) := by decide +kernel
theorem dX2_placeWhereOut_45 : decode cX2_placeWhereOut 45 = .ok (.iinc 2 1, 3) := by decide +kernel
theorem dX2_placeWhereOut_48 : decode cX2_placeWhereOut 48 = .ok (.goto (-46), 3) := by decide +kernel
theorem dX2_placeWhereOut_51 : decode cX2_placeWhereOut 51 = .ok (.iconst (-1), 1) := by decide +kernel
theorem dX2_placeWhereOut_52 : decode cX2_placeWhereOut 52 = .ok (.ireturn, 1) := by decide +kernel
set_option maxRecDepth 20000 in
theorem ggX2_placeWhereTogether_X1_become : GoodIn wsX2_placeWhereTogether wsX1_become := goodIn_r _ [8, 9, 25, 26] (by decide +kernel) (by decide +kernel)
set_option maxRecDepth 20000 in
theorem gX2_placeWhereTogether_X1_become : GoodIn wsX2_placeWhereTogether (wsV RX2 74 RX1 yX1_become wsX1_become) := goodIn_app (goodIn_of _ (by decide +kernel)) ggX2_placeWhereTogether_X1_become
set_option maxRecDepth 20000 in
theorem ggX2_placeWhereTogether_X1_holder : GoodIn wsX2_placeWhereTogether wsX1_holder := goodIn_r _ [13, 9, 25, 26] (by decide +kernel) (by decide +kernel)
set_option maxRecDepth 20000 in
theorem gX2_placeWhereTogether_X1_holder : GoodIn wsX2_placeWhereTogether (wsV RX2 97 RX1 yX1_holder wsX1_holder) := goodIn_app (goodIn_of _ (by decide +kernel)) ggX2_placeWhereTogether_X1_holder
theorem dX2_placeWhereTogether_0 : decode cX2_placeWhereTogether 0 = .ok (.iconst 0, 1) := by decide +kernel
theorem dX2_placeWhereTogether_1 : decode cX2_placeWhereTogether 1 = .ok (.istore_n 3, 1) := by decide +kernel
theorem dX2_placeWhereTogether_2 : decode cX2_placeWhereTogether 2 = .ok (.iload_n 3, 1) := by decide +kernel
theorem dX2_placeWhereTogether_3 : decode cX2_placeWhereTogether 3 = .ok (.aload_n 0, 1) := by decide +kernel
theorem dX2_placeWhereTogether_4 : decode cX2_placeWhereTogether 4 = .ok (.getfield 60, 3) := by decide +kernel
theorem dX2_placeWhereTogether_7 : decode cX2_placeWhereTogether 7 = .ok (.if_icmp .ge 52, 3) := by decide +kernel
theorem dX2_placeWhereTogether_10 : decode cX2_placeWhereTogether 10 = .ok (.iload_n 3, 1) := by decide +kernel
theorem dX2_placeWhereTogether_11 : decode cX2_placeWhereTogether 11 = .ok (.aload_n 0, 1) := by decide +kernel
theorem dX2_placeWhereTogether_12 : decode cX2_placeWhereTogether 12 = .ok (.getfield 11, 3) := by decide +kernel
theorem dX2_placeWhereTogether_15 : decode cX2_placeWhereTogether 15 = .ok (.arraylength, 1) := by decide +kernel
theorem dX2_placeWhereTogether_16 : decode cX2_placeWhereTogether 16 = .ok (.if_icmp .ge 43, 3) := by decide +kernel
theorem dX2_placeWhereTogether_19 : decode cX2_placeWhereTogether 19 = .ok (.aload_n 0, 1) := by decide +kernel
theorem dX2_placeWhereTogether_20 : decode cX2_placeWhereTogether 20 = .ok (.getfield 44, 3) := by decide +kernel
theorem dX2_placeWhereTogether_23 : decode cX2_placeWhereTogether 23 = .ok (.aload_n 0, 1) := by decide +kernel
theorem dX2_placeWhereTogether_24 : decode cX2_placeWhereTogether 24 = .ok (.getfield 11, 3) := by decide +kernel
theorem dX2_placeWhereTogether_27 : decode cX2_placeWhereTogether 27 = .ok (.iload_n 3, 1) := by decide +kernel
theorem dX2_placeWhereTogether_28 : decode cX2_placeWhereTogether 28 = .ok (.iaload, 1) := by decide +kernel
theorem dX2_placeWhereTogether_29 : decode cX2_placeWhereTogether 29 = .ok (.invokevirtual 74, 3) := by decide +kernel
theorem dX2_placeWhereTogether_32 : decode cX2_placeWhereTogether 32 = .ok (.aload_n 0, 1) := by decide +kernel
theorem dX2_placeWhereTogether_33 : decode cX2_placeWhereTogether 33 = .ok (.getfield 44, 3) := by decide +kernel
theorem dX2_placeWhereTogether_36 : decode cX2_placeWhereTogether 36 = .ok (.iload_n 1, 1) := by decide +kernel
theorem dX2_placeWhereTogether_37 : decode cX2_placeWhereTogether 37 = .ok (.invokevirtual 97, 3) := by decide +kernel
theorem dX2_placeWhereTogether_40 : decode cX2_placeWhereTogether 40 = .ok (.aload_n 0, 1) := by decide +kernel
theorem dX2_placeWhereTogether_41 : decode cX2_placeWhereTogether 41 = .ok (.getfield 44, 3) := by decide +kernel
theorem dX2_placeWhereTogether_44 : decode cX2_placeWhereTogether 44 = .ok (.iload_n 2, 1) := by decide +kernel
theorem dX2_placeWhereTogether_45 : decode cX2_placeWhereTogether 45 = .ok (.invokevirtual 97, 3) := by decide +kernel
theorem dX2_placeWhereTogether_48 : decode cX2_placeWhereTogether 48 = .ok (.if_icmp .ne 5, 3) := by decide +kernel
theorem dX2_placeWhereTogether_51 : decode cX2_placeWhereTogether 51 = .ok (.iload_n 3, 1) := by decide +kernel
theorem dX2_placeWhereTogether_52 : decode cX2_placeWhereTogether 52 = .ok (.ireturn, 1) := by decide +kernel
theorem dX2_placeWhereTogether_53 : decode cX2_placeWhereTogether 53 = .ok (.iinc 3 1, 3) := by decide +kernel
theorem dX2_placeWhereTogether_56 : decode cX2_placeWhereTogether 56 = .ok (.goto (-54), 3) := by decide +kernel
theorem dX2_placeWhereTogether_59 : decode cX2_placeWhereTogether 59 = .ok (.iconst (-1), 1) := by decide +kernel
theorem dX2_placeWhereTogether_60 : decode cX2_placeWhereTogether 60 = .ok (.ireturn, 1) := by decide +kernel
set_option maxRecDepth 20000 in
theorem ggX2_mostWalls_X1_become : GoodIn wsX2_mostWalls wsX1_become := goodIn_r _ [12, 13, 33, 34] (by decide +kernel) (by decide +kernel)
set_option maxRecDepth 20000 in
theorem gX2_mostWalls_X1_become : GoodIn wsX2_mostWalls (wsV RX2 74 RX1 yX1_become wsX1_become) := goodIn_app (goodIn_of _ (by decide +kernel)) ggX2_mostWalls_X1_become
set_option maxRecDepth 20000 in
theorem ggX2_mostWalls_X1_walls : GoodIn wsX2_mostWalls wsX1_walls := goodIn_r _ [17, 18, 19, 20, 11, 21, 13, 33, 34] (by decide +kernel) (by decide +kernel)
set_option maxRecDepth 20000 in
theorem gX2_mostWalls_X1_walls : GoodIn wsX2_mostWalls (wsV RX2 100 RX1 yX1_walls wsX1_walls) := goodIn_app (goodIn_of _ (by decide +kernel)) ggX2_mostWalls_X1_walls
theorem dX2_mostWalls_0 : decode cX2_mostWalls 0 = .ok (.iconst 0, 1) := by decide +kernel
theorem dX2_mostWalls_1 : decode cX2_mostWalls 1 = .ok (.istore_n 2, 1) := by decide +kernel
theorem dX2_mostWalls_2 : decode cX2_mostWalls 2 = .ok (.iconst 0, 1) := by decide +kernel
theorem dX2_mostWalls_3 : decode cX2_mostWalls 3 = .ok (.istore_n 3, 1) := by decide +kernel
theorem dX2_mostWalls_4 : decode cX2_mostWalls 4 = .ok (.iload_n 3, 1) := by decide +kernel
theorem dX2_mostWalls_5 : decode cX2_mostWalls 5 = .ok (.aload_n 0, 1) := by decide +kernel
theorem dX2_mostWalls_6 : decode cX2_mostWalls 6 = .ok (.getfield 60, 3) := by decide +kernel
theorem dX2_mostWalls_9 : decode cX2_mostWalls 9 = .ok (.if_icmp .ge 44, 3) := by decide +kernel
theorem dX2_mostWalls_12 : decode cX2_mostWalls 12 = .ok (.iload_n 3, 1) := by decide +kernel
theorem dX2_mostWalls_13 : decode cX2_mostWalls 13 = .ok (.aload_n 0, 1) := by decide +kernel
theorem dX2_mostWalls_14 : decode cX2_mostWalls 14 = .ok (.getfield 11, 3) := by decide +kernel
theorem dX2_mostWalls_17 : decode cX2_mostWalls 17 = .ok (.arraylength, 1) := by decide +kernel
theorem dX2_mostWalls_18 : decode cX2_mostWalls 18 = .ok (.if_icmp .ge 35, 3) := by decide +kernel
theorem dX2_mostWalls_21 : decode cX2_mostWalls 21 = .ok (.aload_n 0, 1) := by decide +kernel
theorem dX2_mostWalls_22 : decode cX2_mostWalls 22 = .ok (.getfield 44, 3) := by decide +kernel
theorem dX2_mostWalls_25 : decode cX2_mostWalls 25 = .ok (.aload_n 0, 1) := by decide +kernel
theorem dX2_mostWalls_26 : decode cX2_mostWalls 26 = .ok (.getfield 11, 3) := by decide +kernel
theorem dX2_mostWalls_29 : decode cX2_mostWalls 29 = .ok (.iload_n 3, 1) := by decide +kernel
theorem dX2_mostWalls_30 : decode cX2_mostWalls 30 = .ok (.iaload, 1) := by decide +kernel
theorem dX2_mostWalls_31 : decode cX2_mostWalls 31 = .ok (.invokevirtual 74, 3) := by decide +kernel
theorem dX2_mostWalls_34 : decode cX2_mostWalls 34 = .ok (.iload_n 2, 1) := by decide +kernel
theorem dX2_mostWalls_35 : decode cX2_mostWalls 35 = .ok (.aload_n 0, 1) := by decide +kernel
theorem dX2_mostWalls_36 : decode cX2_mostWalls 36 = .ok (.getfield 44, 3) := by decide +kernel
theorem dX2_mostWalls_39 : decode cX2_mostWalls 39 = .ok (.iload_n 1, 1) := by decide +kernel
theorem dX2_mostWalls_40 : decode cX2_mostWalls 40 = .ok (.invokevirtual 100, 3) := by decide +kernel
theorem dX2_mostWalls_43 : decode cX2_mostWalls 43 = .ok (.invokestatic 103, 3) := by decide +kernel
theorem dX2_mostWalls_46 : decode cX2_mostWalls 46 = .ok (.istore_n 2, 1) := by decide +kernel
theorem dX2_mostWalls_47 : decode cX2_mostWalls 47 = .ok (.iinc 3 1, 3) := by decide +kernel
theorem dX2_mostWalls_50 : decode cX2_mostWalls 50 = .ok (.goto (-46), 3) := by decide +kernel
theorem dX2_mostWalls_53 : decode cX2_mostWalls 53 = .ok (.iload_n 2, 1) := by decide +kernel
theorem dX2_mostWalls_54 : decode cX2_mostWalls 54 = .ok (.ireturn, 1) := by decide +kernel
set_option maxRecDepth 20000 in
theorem ggX2_fitting_X1_become : GoodIn wsX2_fitting wsX1_become := goodIn_r _ [8, 9, 48, 49] (by decide +kernel) (by decide +kernel)
set_option maxRecDepth 20000 in
theorem gX2_fitting_X1_become : GoodIn wsX2_fitting (wsV RX2 74 RX1 yX1_become wsX1_become) := goodIn_app (goodIn_of _ (by decide +kernel)) ggX2_fitting_X1_become
set_option maxRecDepth 20000 in
theorem ggX2_fitting_X4_isSoIn : GoodIn wsX2_fitting wsX4_isSoIn := goodIn_r _ [14, 15, 16, 17, 18, 19, 20, 7, 21, 22, 23, 24, 25, 26, 27, 28, 29, 30, 31, 32, 33, 34, 35, 36, 9, 50, 51, 52, 48, 49, 53, 54] (by decide +kernel) (by decide +kernel)
set_option maxRecDepth 20000 in
theorem gX2_fitting_X4_isSoIn : GoodIn wsX2_fitting (wsV RX2 109 RX4 yX4_isSoIn wsX4_isSoIn) := goodIn_app (goodIn_of _ (by decide +kernel)) ggX2_fitting_X4_isSoIn
theorem dX2_fitting_0 : decode cX2_fitting 0 = .ok (.iconst 0, 1) := by decide +kernel
theorem dX2_fitting_1 : decode cX2_fitting 1 = .ok (.istore_n 2, 1) := by decide +kernel
theorem dX2_fitting_2 : decode cX2_fitting 2 = .ok (.iconst 0, 1) := by decide +kernel
theorem dX2_fitting_3 : decode cX2_fitting 3 = .ok (.istore_n 3, 1) := by decide +kernel
theorem dX2_fitting_4 : decode cX2_fitting 4 = .ok (.iload_n 3, 1) := by decide +kernel
theorem dX2_fitting_5 : decode cX2_fitting 5 = .ok (.aload_n 0, 1) := by decide +kernel
theorem dX2_fitting_6 : decode cX2_fitting 6 = .ok (.getfield 60, 3) := by decide +kernel
theorem dX2_fitting_9 : decode cX2_fitting 9 = .ok (.if_icmp .ge 45, 3) := by decide +kernel
theorem dX2_fitting_12 : decode cX2_fitting 12 = .ok (.iload_n 3, 1) := by decide +kernel
theorem dX2_fitting_13 : decode cX2_fitting 13 = .ok (.aload_n 0, 1) := by decide +kernel
theorem dX2_fitting_14 : decode cX2_fitting 14 = .ok (.getfield 11, 3) := by decide +kernel
theorem dX2_fitting_17 : decode cX2_fitting 17 = .ok (.arraylength, 1) := by decide +kernel
theorem dX2_fitting_18 : decode cX2_fitting 18 = .ok (.if_icmp .ge 36, 3) := by decide +kernel
theorem dX2_fitting_21 : decode cX2_fitting 21 = .ok (.aload_n 0, 1) := by decide +kernel
theorem dX2_fitting_22 : decode cX2_fitting 22 = .ok (.getfield 44, 3) := by decide +kernel
theorem dX2_fitting_25 : decode cX2_fitting 25 = .ok (.aload_n 0, 1) := by decide +kernel
theorem dX2_fitting_26 : decode cX2_fitting 26 = .ok (.getfield 11, 3) := by decide +kernel
theorem dX2_fitting_29 : decode cX2_fitting 29 = .ok (.iload_n 3, 1) := by decide +kernel
theorem dX2_fitting_30 : decode cX2_fitting 30 = .ok (.iaload, 1) := by decide +kernel
theorem dX2_fitting_31 : decode cX2_fitting 31 = .ok (.invokevirtual 74, 3) := by decide +kernel
theorem dX2_fitting_34 : decode cX2_fitting 34 = .ok (.aload_n 1, 1) := by decide +kernel
theorem dX2_fitting_35 : decode cX2_fitting 35 = .ok (.aload_n 0, 1) := by decide +kernel
theorem dX2_fitting_36 : decode cX2_fitting 36 = .ok (.getfield 44, 3) := by decide +kernel
theorem dX2_fitting_39 : decode cX2_fitting 39 = .ok (.invokevirtual 109, 3) := by decide +kernel
theorem dX2_fitting_42 : decode cX2_fitting 42 = .ok (.ifCond .eq 6, 3) := by decide +kernel
theorem dX2_fitting_45 : decode cX2_fitting 45 = .ok (.iinc 2 1, 3) := by decide +kernel
theorem dX2_fitting_48 : decode cX2_fitting 48 = .ok (.iinc 3 1, 3) := by decide +kernel
theorem dX2_fitting_51 : decode cX2_fitting 51 = .ok (.goto (-47), 3) := by decide +kernel
theorem dX2_fitting_54 : decode cX2_fitting 54 = .ok (.iload_n 2, 1) := by decide +kernel
theorem dX2_fitting_55 : decode cX2_fitting 55 = .ok (.ireturn, 1) := by decide +kernel
set_option maxRecDepth 20000 in
theorem ggX2_sureHolder_X1_become : GoodIn wsX2_sureHolder wsX1_become := goodIn_r _ [8, 9, 49, 50] (by decide +kernel) (by decide +kernel)
set_option maxRecDepth 20000 in
theorem gX2_sureHolder_X1_become : GoodIn wsX2_sureHolder (wsV RX2 74 RX1 yX1_become wsX1_become) := goodIn_app (goodIn_of _ (by decide +kernel)) ggX2_sureHolder_X1_become
set_option maxRecDepth 20000 in
theorem ggX2_sureHolder_X4_isSoIn : GoodIn wsX2_sureHolder wsX4_isSoIn := goodIn_r _ [14, 15, 16, 17, 18, 19, 20, 7, 21, 22, 23, 24, 25, 26, 27, 28, 29, 30, 31, 32, 33, 34, 35, 36, 9, 51, 52, 53, 49, 50, 54, 55] (by decide +kernel) (by decide +kernel)
set_option maxRecDepth 20000 in
theorem gX2_sureHolder_X4_isSoIn : GoodIn wsX2_sureHolder (wsV RX2 109 RX4 yX4_isSoIn wsX4_isSoIn) := goodIn_app (goodIn_of _ (by decide +kernel)) ggX2_sureHolder_X4_isSoIn
set_option maxRecDepth 20000 in
theorem ggX2_sureHolder_X1_holder : GoodIn wsX2_sureHolder wsX1_holder := goodIn_r _ [36, 9, 49, 50] (by decide +kernel) (by decide +kernel)
set_option maxRecDepth 20000 in
theorem gX2_sureHolder_X1_holder : GoodIn wsX2_sureHolder (wsV RX2 97 RX1 yX1_holder wsX1_holder) := goodIn_app (goodIn_of _ (by decide +kernel)) ggX2_sureHolder_X1_holder
theorem dX2_sureHolder_0 : decode cX2_sureHolder 0 = .ok (.bipush (-2), 2) := by decide +kernel
theorem dX2_sureHolder_2 : decode cX2_sureHolder 2 = .ok (.istore_n 3, 1) := by decide +kernel
theorem dX2_sureHolder_3 : decode cX2_sureHolder 3 = .ok (.iconst 0, 1) := by decide +kernel
theorem dX2_sureHolder_4 : decode cX2_sureHolder 4 = .ok (.istore 4, 2) := by decide +kernel
theorem dX2_sureHolder_6 : decode cX2_sureHolder 6 = .ok (.iload 4, 2) := by decide +kernel
theorem dX2_sureHolder_8 : decode cX2_sureHolder 8 = .ok (.aload_n 0, 1) := by decide +kernel
theorem dX2_sureHolder_9 : decode cX2_sureHolder 9 = .ok (.getfield 60, 3) := by decide +kernel
theorem dX2_sureHolder_12 : decode cX2_sureHolder 12 = .ok (.if_icmp .ge 74, 3) := by decide +kernel
theorem dX2_sureHolder_15 : decode cX2_sureHolder 15 = .ok (.iload 4, 2) := by decide +kernel
theorem dX2_sureHolder_17 : decode cX2_sureHolder 17 = .ok (.aload_n 0, 1) := by decide +kernel
theorem dX2_sureHolder_18 : decode cX2_sureHolder 18 = .ok (.getfield 11, 3) := by decide +kernel
theorem dX2_sureHolder_21 : decode cX2_sureHolder 21 = .ok (.arraylength, 1) := by decide +kernel
theorem dX2_sureHolder_22 : decode cX2_sureHolder 22 = .ok (.if_icmp .ge 64, 3) := by decide +kernel
theorem dX2_sureHolder_25 : decode cX2_sureHolder 25 = .ok (.aload_n 0, 1) := by decide +kernel
theorem dX2_sureHolder_26 : decode cX2_sureHolder 26 = .ok (.getfield 44, 3) := by decide +kernel
theorem dX2_sureHolder_29 : decode cX2_sureHolder 29 = .ok (.aload_n 0, 1) := by decide +kernel
theorem dX2_sureHolder_30 : decode cX2_sureHolder 30 = .ok (.getfield 11, 3) := by decide +kernel
theorem dX2_sureHolder_33 : decode cX2_sureHolder 33 = .ok (.iload 4, 2) := by decide +kernel
theorem dX2_sureHolder_35 : decode cX2_sureHolder 35 = .ok (.iaload, 1) := by decide +kernel
theorem dX2_sureHolder_36 : decode cX2_sureHolder 36 = .ok (.invokevirtual 74, 3) := by decide +kernel
theorem dX2_sureHolder_39 : decode cX2_sureHolder 39 = .ok (.aload_n 2, 1) := by decide +kernel
theorem dX2_sureHolder_40 : decode cX2_sureHolder 40 = .ok (.aload_n 0, 1) := by decide +kernel
theorem dX2_sureHolder_41 : decode cX2_sureHolder 41 = .ok (.getfield 44, 3) := by decide +kernel
theorem dX2_sureHolder_44 : decode cX2_sureHolder 44 = .ok (.invokevirtual 109, 3) := by decide +kernel
theorem dX2_sureHolder_47 : decode cX2_sureHolder 47 = .ok (.ifCond .eq 33, 3) := by decide +kernel
theorem dX2_sureHolder_50 : decode cX2_sureHolder 50 = .ok (.iload_n 3, 1) := by decide +kernel
theorem dX2_sureHolder_51 : decode cX2_sureHolder 51 = .ok (.bipush (-2), 2) := by decide +kernel
theorem dX2_sureHolder_53 : decode cX2_sureHolder 53 = .ok (.if_icmp .eq 18, 3) := by decide +kernel
theorem dX2_sureHolder_56 : decode cX2_sureHolder 56 = .ok (.iload_n 3, 1) := by decide +kernel
theorem dX2_sureHolder_57 : decode cX2_sureHolder 57 = .ok (.aload_n 0, 1) := by decide +kernel
theorem dX2_sureHolder_58 : decode cX2_sureHolder 58 = .ok (.getfield 44, 3) := by decide +kernel
theorem dX2_sureHolder_61 : decode cX2_sureHolder 61 = .ok (.iload_n 1, 1) := by decide +kernel
theorem dX2_sureHolder_62 : decode cX2_sureHolder 62 = .ok (.invokevirtual 97, 3) := by decide +kernel
theorem dX2_sureHolder_65 : decode cX2_sureHolder 65 = .ok (.if_icmp .eq 6, 3) := by decide +kernel
theorem dX2_sureHolder_68 : decode cX2_sureHolder 68 = .ok (.bipush (-2), 2) := by decide +kernel
theorem dX2_sureHolder_70 : decode cX2_sureHolder 70 = .ok (.ireturn, 1) := by decide +kernel
theorem dX2_sureHolder_71 : decode cX2_sureHolder 71 = .ok (.aload_n 0, 1) := by decide +kernel
theorem dX2_sureHolder_72 : decode cX2_sureHolder 72 = .ok (.getfield 44, 3) := by decide +kernel
theorem dX2_sureHolder_75 : decode cX2_sureHolder 75 = .ok (.iload_n 1, 1) := by decide +kernel
theorem dX2_sureHolder_76 : decode cX2_sureHolder 76 = .ok (.invokevirtual 97, 3) := by decide +kernel
theorem dX2_sureHolder_79 : decode cX2_sureHolder 79 = .ok (.istore_n 3, 1) := by decide +kernel
theorem dX2_sureHolder_80 : decode cX2_sureHolder 80 = .ok (.iinc 4 1, 3) := by decide +kernel
theorem dX2_sureHolder_83 : decode cX2_sureHolder 83 = .ok (.goto (-77), 3) := by decide +kernel
theorem dX2_sureHolder_86 : decode cX2_sureHolder 86 = .ok (.iload_n 3, 1) := by decide +kernel
theorem dX2_sureHolder_87 : decode cX2_sureHolder 87 = .ok (.ireturn, 1) := by decide +kernel
set_option maxRecDepth 20000 in
theorem ggX2_bestAsked_X0_total : GoodIn wsX2_bestAsked wsX0_total := goodIn_r _ [6, 7, 65, 66] (by decide +kernel) (by decide +kernel)
set_option maxRecDepth 20000 in
theorem gX2_bestAsked_X0_total : GoodIn wsX2_bestAsked (wsV RX2 55 RX0 yX0_total wsX0_total) := goodIn_app (goodIn_of _ (by decide +kernel)) ggX2_bestAsked_X0_total
set_option maxRecDepth 20000 in
theorem ggX2_bestAsked_X2_mostLeft : GoodIn wsX2_bestAsked wsX2_mostLeft := goodIn_r _ [12, 13, 14, 15, 16, 17, 18, 19, 20, 21, 22, 23, 24, 25, 26, 27, 28, 29, 30, 31, 32, 33, 34, 35, 36, 3, 4, 5, 6, 7, 37, 38, 39, 40, 41, 42, 43, 44, 45, 46, 47, 48, 49, 50, 51, 52, 53, 54, 55, 56, 57, 58, 59, 60, 61, 62, 63, 64, 67, 68, 65, 66, 69, 70, 71] (by decide +kernel) (by decide +kernel)
set_option maxRecDepth 20000 in
theorem gX2_bestAsked_X2_mostLeft : GoodIn wsX2_bestAsked (wsV RX2 115 RX2 yX2_mostLeft wsX2_mostLeft) := goodIn_app (goodIn_of _ (by decide +kernel)) ggX2_bestAsked_X2_mostLeft
theorem dX2_bestAsked_0 : decode cX2_bestAsked 0 = .ok (.iconst (-1), 1) := by decide +kernel
theorem dX2_bestAsked_1 : decode cX2_bestAsked 1 = .ok (.istore_n 2, 1) := by decide +kernel
theorem dX2_bestAsked_2 : decode cX2_bestAsked 2 = .ok (.iconst 0, 1) := by decide +kernel
theorem dX2_bestAsked_3 : decode cX2_bestAsked 3 = .ok (.istore_n 3, 1) := by decide +kernel
theorem dX2_bestAsked_4 : decode cX2_bestAsked 4 = .ok (.iconst 0, 1) := by decide +kernel
theorem dX2_bestAsked_5 : decode cX2_bestAsked 5 = .ok (.istore 4, 2) := by decide +kernel
theorem dX2_bestAsked_7 : decode cX2_bestAsked 7 = .ok (.iload 4, 2) := by decide +kernel
theorem dX2_bestAsked_9 : decode cX2_bestAsked 9 = .ok (.aload_n 0, 1) := by decide +kernel
theorem dX2_bestAsked_10 : decode cX2_bestAsked 10 = .ok (.getfield 35, 3) := by decide +kernel
theorem dX2_bestAsked_13 : decode cX2_bestAsked 13 = .ok (.invokevirtual 55, 3) := by decide +kernel
theorem dX2_bestAsked_16 : decode cX2_bestAsked 16 = .ok (.if_icmp .ge 40, 3) := by decide +kernel
theorem dX2_bestAsked_19 : decode cX2_bestAsked 19 = .ok (.aload_n 0, 1) := by decide +kernel
theorem dX2_bestAsked_20 : decode cX2_bestAsked 20 = .ok (.iload 4, 2) := by decide +kernel
theorem dX2_bestAsked_22 : decode cX2_bestAsked 22 = .ok (.aload_n 1, 1) := by decide +kernel
theorem dX2_bestAsked_23 : decode cX2_bestAsked 23 = .ok (.invokevirtual 115, 3) := by decide +kernel
theorem dX2_bestAsked_26 : decode cX2_bestAsked 26 = .ok (.istore 5, 2) := by decide +kernel
theorem dX2_bestAsked_28 : decode cX2_bestAsked 28 = .ok (.iload 5, 2) := by decide +kernel
theorem dX2_bestAsked_30 : decode cX2_bestAsked 30 = .ok (.ifCond .le 20, 3) := by decide +kernel
theorem dX2_bestAsked_33 : decode cX2_bestAsked 33 = .ok (.iload_n 2, 1) := by decide +kernel
theorem dX2_bestAsked_34 : decode cX2_bestAsked 34 = .ok (.iconst (-1), 1) := by decide +kernel
theorem dX2_bestAsked_35 : decode cX2_bestAsked 35 = .ok (.if_icmp .eq 9, 3) := by decide +kernel
theorem dX2_bestAsked_38 : decode cX2_bestAsked 38 = .ok (.iload 5, 2) := by decide +kernel
theorem dX2_bestAsked_40 : decode cX2_bestAsked 40 = .ok (.iload_n 3, 1) := by decide +kernel
theorem dX2_bestAsked_41 : decode cX2_bestAsked 41 = .ok (.if_icmp .ge 9, 3) := by decide +kernel
theorem dX2_bestAsked_44 : decode cX2_bestAsked 44 = .ok (.iload 4, 2) := by decide +kernel
theorem dX2_bestAsked_46 : decode cX2_bestAsked 46 = .ok (.istore_n 2, 1) := by decide +kernel
theorem dX2_bestAsked_47 : decode cX2_bestAsked 47 = .ok (.iload 5, 2) := by decide +kernel
theorem dX2_bestAsked_49 : decode cX2_bestAsked 49 = .ok (.istore_n 3, 1) := by decide +kernel
theorem dX2_bestAsked_50 : decode cX2_bestAsked 50 = .ok (.iinc 4 1, 3) := by decide +kernel
theorem dX2_bestAsked_53 : decode cX2_bestAsked 53 = .ok (.goto (-46), 3) := by decide +kernel
theorem dX2_bestAsked_56 : decode cX2_bestAsked 56 = .ok (.iload_n 2, 1) := by decide +kernel
theorem dX2_bestAsked_57 : decode cX2_bestAsked 57 = .ok (.ireturn, 1) := by decide +kernel
set_option maxRecDepth 20000 in
theorem ggX2_mostLeft_J7_fill_53178 : GoodIn wsX2_mostLeft wsJ7_fill_53178 := goodIn_r _ [12] (by decide +kernel) (by decide +kernel)
set_option maxRecDepth 20000 in
theorem gX2_mostLeft_J7_fill_53178 : GoodIn wsX2_mostLeft (va_wsS RX2 119 yJ7_fill_53178 wsJ7_fill_53178) := goodIn_app (goodIn_of _ (by decide +kernel)) ggX2_mostLeft_J7_fill_53178
set_option maxRecDepth 20000 in
theorem ggX2_mostLeft_X1_become : GoodIn wsX2_mostLeft wsX1_become := goodIn_r _ [17, 18, 58, 59] (by decide +kernel) (by decide +kernel)
set_option maxRecDepth 20000 in
theorem gX2_mostLeft_X1_become : GoodIn wsX2_mostLeft (wsV RX2 74 RX1 yX1_become wsX1_become) := goodIn_app (goodIn_of _ (by decide +kernel)) ggX2_mostLeft_X1_become
set_option maxRecDepth 20000 in
theorem ggX2_mostLeft_X1_heardBy : GoodIn wsX2_mostLeft wsX1_heardBy := goodIn_r _ [22, 23, 24, 25, 26, 27, 28, 29, 30, 31, 32, 16, 33, 34, 35, 36, 37, 18, 58, 59, 60, 61] (by decide +kernel) (by decide +kernel)
set_option maxRecDepth 20000 in
theorem gX2_mostLeft_X1_heardBy : GoodIn wsX2_mostLeft (wsV RX2 125 RX1 yX1_heardBy wsX1_heardBy) := goodIn_app (goodIn_of _ (by decide +kernel)) ggX2_mostLeft_X1_heardBy
set_option maxRecDepth 20000 in
theorem ggX2_mostLeft_X4_isSoIn : GoodIn wsX2_mostLeft wsX4_isSoIn := goodIn_r _ [42, 43, 44, 45, 46, 20, 21, 16, 22, 23, 24, 25, 26, 27, 28, 29, 30, 31, 32, 33, 34, 35, 36, 37, 18, 62, 63, 64, 58, 59, 60, 61] (by decide +kernel) (by decide +kernel)
set_option maxRecDepth 20000 in
theorem gX2_mostLeft_X4_isSoIn : GoodIn wsX2_mostLeft (wsV RX2 109 RX4 yX4_isSoIn wsX4_isSoIn) := goodIn_app (goodIn_of _ (by decide +kernel)) ggX2_mostLeft_X4_isSoIn
theorem dX2_mostLeft_0 : decode cX2_mostLeft 0 = .ok (.aload_n 0, 1) := by decide +kernel
theorem dX2_mostLeft_1 : decode cX2_mostLeft 1 = .ok (.getfield 25, 3) := by decide +kernel
theorem dX2_mostLeft_4 : decode cX2_mostLeft 4 = .ok (.iconst 0, 1) := by decide +kernel
theorem dX2_mostLeft_5 : decode cX2_mostLeft 5 = .ok (.invokestatic 119, 3) := by decide +kernel
theorem dX2_mostLeft_8 : decode cX2_mostLeft 8 = .ok (.iconst 0, 1) := by decide +kernel
theorem dX2_mostLeft_9 : decode cX2_mostLeft 9 = .ok (.istore_n 3, 1) := by decide +kernel
theorem dX2_mostLeft_10 : decode cX2_mostLeft 10 = .ok (.iconst 0, 1) := by decide +kernel
theorem dX2_mostLeft_11 : decode cX2_mostLeft 11 = .ok (.istore 4, 2) := by decide +kernel
theorem dX2_mostLeft_13 : decode cX2_mostLeft 13 = .ok (.iload 4, 2) := by decide +kernel
theorem dX2_mostLeft_15 : decode cX2_mostLeft 15 = .ok (.aload_n 0, 1) := by decide +kernel
theorem dX2_mostLeft_16 : decode cX2_mostLeft 16 = .ok (.getfield 60, 3) := by decide +kernel
theorem dX2_mostLeft_19 : decode cX2_mostLeft 19 = .ok (.if_icmp .ge 92, 3) := by decide +kernel
theorem dX2_mostLeft_22 : decode cX2_mostLeft 22 = .ok (.iload 4, 2) := by decide +kernel
theorem dX2_mostLeft_24 : decode cX2_mostLeft 24 = .ok (.aload_n 0, 1) := by decide +kernel
theorem dX2_mostLeft_25 : decode cX2_mostLeft 25 = .ok (.getfield 11, 3) := by decide +kernel
theorem dX2_mostLeft_28 : decode cX2_mostLeft 28 = .ok (.arraylength, 1) := by decide +kernel
theorem dX2_mostLeft_29 : decode cX2_mostLeft 29 = .ok (.if_icmp .ge 82, 3) := by decide +kernel
theorem dX2_mostLeft_32 : decode cX2_mostLeft 32 = .ok (.aload_n 0, 1) := by decide +kernel
theorem dX2_mostLeft_33 : decode cX2_mostLeft 33 = .ok (.getfield 44, 3) := by decide +kernel
theorem dX2_mostLeft_36 : decode cX2_mostLeft 36 = .ok (.aload_n 0, 1) := by decide +kernel
theorem dX2_mostLeft_37 : decode cX2_mostLeft 37 = .ok (.getfield 11, 3) := by decide +kernel
theorem dX2_mostLeft_40 : decode cX2_mostLeft 40 = .ok (.iload 4, 2) := by decide +kernel
theorem dX2_mostLeft_42 : decode cX2_mostLeft 42 = .ok (.iaload, 1) := by decide +kernel
theorem dX2_mostLeft_43 : decode cX2_mostLeft 43 = .ok (.invokevirtual 74, 3) := by decide +kernel
theorem dX2_mostLeft_46 : decode cX2_mostLeft 46 = .ok (.aload_n 0, 1) := by decide +kernel
theorem dX2_mostLeft_47 : decode cX2_mostLeft 47 = .ok (.getfield 44, 3) := by decide +kernel
theorem dX2_mostLeft_50 : decode cX2_mostLeft 50 = .ok (.iload_n 1, 1) := by decide +kernel
theorem dX2_mostLeft_51 : decode cX2_mostLeft 51 = .ok (.invokevirtual 125, 3) := by decide +kernel
theorem dX2_mostLeft_54 : decode cX2_mostLeft 54 = .ok (.istore 5, 2) := by decide +kernel
theorem dX2_mostLeft_56 : decode cX2_mostLeft 56 = .ok (.iload 5, 2) := by decide +kernel
theorem dX2_mostLeft_58 : decode cX2_mostLeft 58 = .ok (.ifCond .lt 47, 3) := by decide +kernel
theorem dX2_mostLeft_61 : decode cX2_mostLeft 61 = .ok (.iload 5, 2) := by decide +kernel
theorem dX2_mostLeft_63 : decode cX2_mostLeft 63 = .ok (.aload_n 0, 1) := by decide +kernel
theorem dX2_mostLeft_64 : decode cX2_mostLeft 64 = .ok (.getfield 25, 3) := by decide +kernel
theorem dX2_mostLeft_67 : decode cX2_mostLeft 67 = .ok (.arraylength, 1) := by decide +kernel
theorem dX2_mostLeft_68 : decode cX2_mostLeft 68 = .ok (.if_icmp .ge 37, 3) := by decide +kernel
theorem dX2_mostLeft_71 : decode cX2_mostLeft 71 = .ok (.aload_n 2, 1) := by decide +kernel
theorem dX2_mostLeft_72 : decode cX2_mostLeft 72 = .ok (.aload_n 0, 1) := by decide +kernel
theorem dX2_mostLeft_73 : decode cX2_mostLeft 73 = .ok (.getfield 44, 3) := by decide +kernel
theorem dX2_mostLeft_76 : decode cX2_mostLeft 76 = .ok (.invokevirtual 109, 3) := by decide +kernel
theorem dX2_mostLeft_79 : decode cX2_mostLeft 79 = .ok (.ifCond .eq 26, 3) := by decide +kernel
theorem dX2_mostLeft_82 : decode cX2_mostLeft 82 = .ok (.aload_n 0, 1) := by decide +kernel
theorem dX2_mostLeft_83 : decode cX2_mostLeft 83 = .ok (.getfield 25, 3) := by decide +kernel
theorem dX2_mostLeft_86 : decode cX2_mostLeft 86 = .ok (.iload 5, 2) := by decide +kernel
theorem dX2_mostLeft_88 : decode cX2_mostLeft 88 = .ok (.dup2, 1) := by decide +kernel
theorem dX2_mostLeft_89 : decode cX2_mostLeft 89 = .ok (.iaload, 1) := by decide +kernel
theorem dX2_mostLeft_90 : decode cX2_mostLeft 90 = .ok (.iconst 1, 1) := by decide +kernel
theorem dX2_mostLeft_91 : decode cX2_mostLeft 91 = .ok (.iadd, 1) := by decide +kernel
theorem dX2_mostLeft_92 : decode cX2_mostLeft 92 = .ok (.iastore, 1) := by decide +kernel
theorem dX2_mostLeft_93 : decode cX2_mostLeft 93 = .ok (.iload_n 3, 1) := by decide +kernel
theorem dX2_mostLeft_94 : decode cX2_mostLeft 94 = .ok (.aload_n 0, 1) := by decide +kernel
theorem dX2_mostLeft_95 : decode cX2_mostLeft 95 = .ok (.getfield 25, 3) := by decide +kernel
theorem dX2_mostLeft_98 : decode cX2_mostLeft 98 = .ok (.iload 5, 2) := by decide +kernel
theorem dX2_mostLeft_100 : decode cX2_mostLeft 100 = .ok (.iaload, 1) := by decide +kernel
theorem dX2_mostLeft_101 : decode cX2_mostLeft 101 = .ok (.invokestatic 103, 3) := by decide +kernel
theorem dX2_mostLeft_104 : decode cX2_mostLeft 104 = .ok (.istore_n 3, 1) := by decide +kernel
theorem dX2_mostLeft_105 : decode cX2_mostLeft 105 = .ok (.iinc 4 1, 3) := by decide +kernel
theorem dX2_mostLeft_108 : decode cX2_mostLeft 108 = .ok (.goto (-95), 3) := by decide +kernel
theorem dX2_mostLeft_111 : decode cX2_mostLeft 111 = .ok (.iload_n 3, 1) := by decide +kernel
theorem dX2_mostLeft_112 : decode cX2_mostLeft 112 = .ok (.ireturn, 1) := by decide +kernel
end
section
theorem dX3_init_0 : decode cX3_init 0 = .ok (.aload_n 0, 1) := by decide +kernel
theorem dX3_init_1 : decode cX3_init 1 = .ok (.invokespecial 3, 3) := by decide +kernel
theorem dX3_init_4 : decode cX3_init 4 = .ok (.aload_n 0, 1) := by decide +kernel
theorem dX3_init_5 : decode cX3_init 5 = .ok (.bipush 40, 2) := by decide +kernel
theorem dX3_init_7 : decode cX3_init 7 = .ok (.newarray .int, 2) := by decide +kernel
theorem dX3_init_9 : decode cX3_init 9 = .ok (.putfield 9, 3) := by decide +kernel
theorem dX3_init_12 : decode cX3_init 12 = .ok (.aload_n 0, 1) := by decide +kernel
theorem dX3_init_13 : decode cX3_init 13 = .ok (.bipush 10, 2) := by decide +kernel
theorem dX3_init_15 : decode cX3_init 15 = .ok (.newarray .int, 2) := by decide +kernel
theorem dX3_init_17 : decode cX3_init 17 = .ok (.putfield 15, 3) := by decide +kernel
theorem dX3_init_20 : decode cX3_init 20 = .ok (.return_, 1) := by decide +kernel
theorem dX3_length_0 : decode cX3_length 0 = .ok (.aload_n 0, 1) := by decide +kernel
theorem dX3_length_1 : decode cX3_length 1 = .ok (.getfield 18, 3) := by decide +kernel
theorem dX3_length_4 : decode cX3_length 4 = .ok (.ireturn, 1) := by decide +kernel
theorem dX3_letterAt_0 : decode cX3_letterAt 0 = .ok (.iload_n 1, 1) := by decide +kernel
theorem dX3_letterAt_1 : decode cX3_letterAt 1 = .ok (.ifCond .lt 21, 3) := by decide +kernel
theorem dX3_letterAt_4 : decode cX3_letterAt 4 = .ok (.iload_n 1, 1) := by decide +kernel
theorem dX3_letterAt_5 : decode cX3_letterAt 5 = .ok (.aload_n 0, 1) := by decide +kernel
theorem dX3_letterAt_6 : decode cX3_letterAt 6 = .ok (.getfield 9, 3) := by decide +kernel
theorem dX3_letterAt_9 : decode cX3_letterAt 9 = .ok (.arraylength, 1) := by decide +kernel
theorem dX3_letterAt_10 : decode cX3_letterAt 10 = .ok (.if_icmp .ge 12, 3) := by decide +kernel
theorem dX3_letterAt_13 : decode cX3_letterAt 13 = .ok (.aload_n 0, 1) := by decide +kernel
theorem dX3_letterAt_14 : decode cX3_letterAt 14 = .ok (.getfield 9, 3) := by decide +kernel
theorem dX3_letterAt_17 : decode cX3_letterAt 17 = .ok (.iload_n 1, 1) := by decide +kernel
theorem dX3_letterAt_18 : decode cX3_letterAt 18 = .ok (.iaload, 1) := by decide +kernel
theorem dX3_letterAt_19 : decode cX3_letterAt 19 = .ok (.goto 4, 3) := by decide +kernel
theorem dX3_letterAt_22 : decode cX3_letterAt 22 = .ok (.iconst 0, 1) := by decide +kernel
theorem dX3_letterAt_23 : decode cX3_letterAt 23 = .ok (.ireturn, 1) := by decide +kernel
theorem dX3_write_0 : decode cX3_write 0 = .ok (.aload_n 0, 1) := by decide +kernel
theorem dX3_write_1 : decode cX3_write 1 = .ok (.getfield 18, 3) := by decide +kernel
theorem dX3_write_4 : decode cX3_write 4 = .ok (.ifCond .lt 15, 3) := by decide +kernel
theorem dX3_write_7 : decode cX3_write 7 = .ok (.aload_n 0, 1) := by decide +kernel
theorem dX3_write_8 : decode cX3_write 8 = .ok (.getfield 18, 3) := by decide +kernel
theorem dX3_write_11 : decode cX3_write 11 = .ok (.aload_n 0, 1) := by decide +kernel
theorem dX3_write_12 : decode cX3_write 12 = .ok (.getfield 9, 3) := by decide +kernel
theorem dX3_write_15 : decode cX3_write 15 = .ok (.arraylength, 1) := by decide +kernel
theorem dX3_write_16 : decode cX3_write 16 = .ok (.if_icmp .lt 5, 3) := by decide +kernel
theorem dX3_write_19 : decode cX3_write 19 = .ok (.iconst 0, 1) := by decide +kernel
theorem dX3_write_20 : decode cX3_write 20 = .ok (.ireturn, 1) := by decide +kernel
theorem dX3_write_21 : decode cX3_write 21 = .ok (.aload_n 0, 1) := by decide +kernel
theorem dX3_write_22 : decode cX3_write 22 = .ok (.getfield 9, 3) := by decide +kernel
theorem dX3_write_25 : decode cX3_write 25 = .ok (.aload_n 0, 1) := by decide +kernel
theorem dX3_write_26 : decode cX3_write 26 = .ok (.getfield 18, 3) := by decide +kernel
theorem dX3_write_29 : decode cX3_write 29 = .ok (.iload_n 1, 1) := by decide +kernel
theorem dX3_write_30 : decode cX3_write 30 = .ok (.iastore, 1) := by decide +kernel
theorem dX3_write_31 : decode cX3_write 31 = .ok (.aload_n 0, 1) := by decide +kernel
theorem dX3_write_32 : decode cX3_write 32 = .ok (.dup, 1) := by decide +kernel
theorem dX3_write_33 : decode cX3_write 33 = .ok (.getfield 18, 3) := by decide +kernel
theorem dX3_write_36 : decode cX3_write 36 = .ok (.iconst 1, 1) := by decide +kernel
theorem dX3_write_37 : decode cX3_write 37 = .ok (.iadd, 1) := by decide +kernel
theorem dX3_write_38 : decode cX3_write 38 = .ok (.putfield 18, 3) := by decide +kernel
theorem dX3_write_41 : decode cX3_write 41 = .ok (.iconst 1, 1) := by decide +kernel
theorem dX3_write_42 : decode cX3_write 42 = .ok (.ireturn, 1) := by decide +kernel
theorem dX3_clear_0 : decode cX3_clear 0 = .ok (.aload_n 0, 1) := by decide +kernel
theorem dX3_clear_1 : decode cX3_clear 1 = .ok (.getfield 18, 3) := by decide +kernel
theorem dX3_clear_4 : decode cX3_clear 4 = .ok (.istore_n 1, 1) := by decide +kernel
theorem dX3_clear_5 : decode cX3_clear 5 = .ok (.aload_n 0, 1) := by decide +kernel
theorem dX3_clear_6 : decode cX3_clear 6 = .ok (.iconst 0, 1) := by decide +kernel
theorem dX3_clear_7 : decode cX3_clear 7 = .ok (.putfield 18, 3) := by decide +kernel
theorem dX3_clear_10 : decode cX3_clear 10 = .ok (.iload_n 1, 1) := by decide +kernel
theorem dX3_clear_11 : decode cX3_clear 11 = .ok (.ireturn, 1) := by decide +kernel
theorem dX3_deeds_0 : decode cX3_deeds 0 = .ok (.aload_n 0, 1) := by decide +kernel
theorem dX3_deeds_1 : decode cX3_deeds 1 = .ok (.getfield 22, 3) := by decide +kernel
theorem dX3_deeds_4 : decode cX3_deeds 4 = .ok (.ireturn, 1) := by decide +kernel
theorem dX3_deedAt_0 : decode cX3_deedAt 0 = .ok (.iload_n 1, 1) := by decide +kernel
theorem dX3_deedAt_1 : decode cX3_deedAt 1 = .ok (.ifCond .lt 21, 3) := by decide +kernel
theorem dX3_deedAt_4 : decode cX3_deedAt 4 = .ok (.iload_n 1, 1) := by decide +kernel
theorem dX3_deedAt_5 : decode cX3_deedAt 5 = .ok (.aload_n 0, 1) := by decide +kernel
theorem dX3_deedAt_6 : decode cX3_deedAt 6 = .ok (.getfield 15, 3) := by decide +kernel
theorem dX3_deedAt_9 : decode cX3_deedAt 9 = .ok (.arraylength, 1) := by decide +kernel
theorem dX3_deedAt_10 : decode cX3_deedAt 10 = .ok (.if_icmp .ge 12, 3) := by decide +kernel
theorem dX3_deedAt_13 : decode cX3_deedAt 13 = .ok (.aload_n 0, 1) := by decide +kernel
theorem dX3_deedAt_14 : decode cX3_deedAt 14 = .ok (.getfield 15, 3) := by decide +kernel
theorem dX3_deedAt_17 : decode cX3_deedAt 17 = .ok (.iload_n 1, 1) := by decide +kernel
theorem dX3_deedAt_18 : decode cX3_deedAt 18 = .ok (.iaload, 1) := by decide +kernel
theorem dX3_deedAt_19 : decode cX3_deedAt 19 = .ok (.goto 4, 3) := by decide +kernel
theorem dX3_deedAt_22 : decode cX3_deedAt 22 = .ok (.iconst (-1), 1) := by decide +kernel
theorem dX3_deedAt_23 : decode cX3_deedAt 23 = .ok (.ireturn, 1) := by decide +kernel
theorem dX3_isWhole_0 : decode cX3_isWhole 0 = .ok (.aload_n 0, 1) := by decide +kernel
theorem dX3_isWhole_1 : decode cX3_isWhole 1 = .ok (.getfield 25, 3) := by decide +kernel
theorem dX3_isWhole_4 : decode cX3_isWhole 4 = .ok (.ireturn, 1) := by decide +kernel
set_option maxRecDepth 20000 in
theorem ggX3_read_X3_take : GoodIn wsX3_read wsX3_take := goodIn_r _ [10, 2, 3, 1, 11, 12, 13, 9, 14, 15, 16, 17, 18, 19, 20, 21, 22, 23, 24, 25, 26, 27] (by decide +kernel) (by decide +kernel)
set_option maxRecDepth 20000 in
theorem gX3_read_X3_take : GoodIn wsX3_read (wsV RX3 32 RX3 yX3_take wsX3_take) := goodIn_app (goodIn_of _ (by decide +kernel)) ggX3_read_X3_take
theorem dX3_read_0 : decode cX3_read 0 = .ok (.aload_n 0, 1) := by decide +kernel
theorem dX3_read_1 : decode cX3_read 1 = .ok (.iconst 0, 1) := by decide +kernel
theorem dX3_read_2 : decode cX3_read 2 = .ok (.putfield 22, 3) := by decide +kernel
theorem dX3_read_5 : decode cX3_read 5 = .ok (.aload_n 0, 1) := by decide +kernel
theorem dX3_read_6 : decode cX3_read 6 = .ok (.iconst 0, 1) := by decide +kernel
theorem dX3_read_7 : decode cX3_read 7 = .ok (.putfield 29, 3) := by decide +kernel
theorem dX3_read_10 : decode cX3_read 10 = .ok (.aload_n 0, 1) := by decide +kernel
theorem dX3_read_11 : decode cX3_read 11 = .ok (.iconst 0, 1) := by decide +kernel
theorem dX3_read_12 : decode cX3_read 12 = .ok (.putfield 25, 3) := by decide +kernel
theorem dX3_read_15 : decode cX3_read 15 = .ok (.iconst 0, 1) := by decide +kernel
theorem dX3_read_16 : decode cX3_read 16 = .ok (.istore_n 1, 1) := by decide +kernel
theorem dX3_read_17 : decode cX3_read 17 = .ok (.iload_n 1, 1) := by decide +kernel
theorem dX3_read_18 : decode cX3_read 18 = .ok (.aload_n 0, 1) := by decide +kernel
theorem dX3_read_19 : decode cX3_read 19 = .ok (.getfield 18, 3) := by decide +kernel
theorem dX3_read_22 : decode cX3_read 22 = .ok (.if_icmp .ge 33, 3) := by decide +kernel
theorem dX3_read_25 : decode cX3_read 25 = .ok (.iload_n 1, 1) := by decide +kernel
theorem dX3_read_26 : decode cX3_read 26 = .ok (.aload_n 0, 1) := by decide +kernel
theorem dX3_read_27 : decode cX3_read 27 = .ok (.getfield 9, 3) := by decide +kernel
theorem dX3_read_30 : decode cX3_read 30 = .ok (.arraylength, 1) := by decide +kernel
theorem dX3_read_31 : decode cX3_read 31 = .ok (.if_icmp .ge 24, 3) := by decide +kernel
theorem dX3_read_34 : decode cX3_read 34 = .ok (.aload_n 0, 1) := by decide +kernel
theorem dX3_read_35 : decode cX3_read 35 = .ok (.aload_n 0, 1) := by decide +kernel
theorem dX3_read_36 : decode cX3_read 36 = .ok (.getfield 9, 3) := by decide +kernel
theorem dX3_read_39 : decode cX3_read 39 = .ok (.iload_n 1, 1) := by decide +kernel
theorem dX3_read_40 : decode cX3_read 40 = .ok (.iaload, 1) := by decide +kernel
theorem dX3_read_41 : decode cX3_read 41 = .ok (.invokevirtual 32, 3) := by decide +kernel
theorem dX3_read_44 : decode cX3_read 44 = .ok (.ifCond .ne 5, 3) := by decide +kernel
theorem dX3_read_47 : decode cX3_read 47 = .ok (.iload_n 1, 1) := by decide +kernel
theorem dX3_read_48 : decode cX3_read 48 = .ok (.ireturn, 1) := by decide +kernel
theorem dX3_read_49 : decode cX3_read 49 = .ok (.iinc 1 1, 3) := by decide +kernel
theorem dX3_read_52 : decode cX3_read 52 = .ok (.goto (-35), 3) := by decide +kernel
theorem dX3_read_55 : decode cX3_read 55 = .ok (.aload_n 0, 1) := by decide +kernel
theorem dX3_read_56 : decode cX3_read 56 = .ok (.getfield 18, 3) := by decide +kernel
theorem dX3_read_59 : decode cX3_read 59 = .ok (.ireturn, 1) := by decide +kernel
set_option maxRecDepth 20000 in
theorem ggX3_take_X3_takeFigure : GoodIn wsX3_take wsX3_takeFigure := goodIn_r _ [8, 9, 1, 3, 10, 2, 15, 16, 17, 18, 19, 20, 21] (by decide +kernel) (by decide +kernel)
set_option maxRecDepth 20000 in
theorem gX3_take_X3_takeFigure : GoodIn wsX3_take (wsV RX3 36 RX3 yX3_takeFigure wsX3_takeFigure) := goodIn_app (goodIn_of _ (by decide +kernel)) ggX3_take_X3_takeFigure
set_option maxRecDepth 20000 in
theorem ggX3_take_X3_takeSign : GoodIn wsX3_take wsX3_takeSign := goodIn_r _ [14, 9, 1, 15, 16, 17, 18, 19, 20, 21] (by decide +kernel) (by decide +kernel)
set_option maxRecDepth 20000 in
theorem gX3_take_X3_takeSign : GoodIn wsX3_take (wsV RX3 39 RX3 yX3_takeSign wsX3_takeSign) := goodIn_app (goodIn_of _ (by decide +kernel)) ggX3_take_X3_takeSign
theorem dX3_take_0 : decode cX3_take 0 = .ok (.aload_n 0, 1) := by decide +kernel
theorem dX3_take_1 : decode cX3_take 1 = .ok (.getfield 29, 3) := by decide +kernel
theorem dX3_take_4 : decode cX3_take 4 = .ok (.ifCond .le 12, 3) := by decide +kernel
theorem dX3_take_7 : decode cX3_take 7 = .ok (.aload_n 0, 1) := by decide +kernel
theorem dX3_take_8 : decode cX3_take 8 = .ok (.iload_n 1, 1) := by decide +kernel
theorem dX3_take_9 : decode cX3_take 9 = .ok (.bipush 48, 2) := by decide +kernel
theorem dX3_take_11 : decode cX3_take 11 = .ok (.isub, 1) := by decide +kernel
theorem dX3_take_12 : decode cX3_take 12 = .ok (.invokevirtual 36, 3) := by decide +kernel
theorem dX3_take_15 : decode cX3_take 15 = .ok (.ireturn, 1) := by decide +kernel
theorem dX3_take_16 : decode cX3_take 16 = .ok (.aload_n 0, 1) := by decide +kernel
theorem dX3_take_17 : decode cX3_take 17 = .ok (.getfield 25, 3) := by decide +kernel
theorem dX3_take_20 : decode cX3_take 20 = .ok (.ifCond .eq 29, 3) := by decide +kernel
theorem dX3_take_23 : decode cX3_take 23 = .ok (.aload_n 0, 1) := by decide +kernel
theorem dX3_take_24 : decode cX3_take 24 = .ok (.iconst 0, 1) := by decide +kernel
theorem dX3_take_25 : decode cX3_take 25 = .ok (.putfield 25, 3) := by decide +kernel
theorem dX3_take_28 : decode cX3_take 28 = .ok (.iload_n 1, 1) := by decide +kernel
theorem dX3_take_29 : decode cX3_take 29 = .ok (.bipush 44, 2) := by decide +kernel
theorem dX3_take_31 : decode cX3_take 31 = .ok (.if_icmp .ne 16, 3) := by decide +kernel
theorem dX3_take_34 : decode cX3_take 34 = .ok (.aload_n 0, 1) := by decide +kernel
theorem dX3_take_35 : decode cX3_take 35 = .ok (.getfield 22, 3) := by decide +kernel
theorem dX3_take_38 : decode cX3_take 38 = .ok (.bipush 10, 2) := by decide +kernel
theorem dX3_take_40 : decode cX3_take 40 = .ok (.if_icmp .ge 7, 3) := by decide +kernel
theorem dX3_take_43 : decode cX3_take 43 = .ok (.iconst 1, 1) := by decide +kernel
theorem dX3_take_44 : decode cX3_take 44 = .ok (.goto 4, 3) := by decide +kernel
theorem dX3_take_47 : decode cX3_take 47 = .ok (.iconst 0, 1) := by decide +kernel
theorem dX3_take_48 : decode cX3_take 48 = .ok (.ireturn, 1) := by decide +kernel
theorem dX3_take_49 : decode cX3_take 49 = .ok (.aload_n 0, 1) := by decide +kernel
theorem dX3_take_50 : decode cX3_take 50 = .ok (.iload_n 1, 1) := by decide +kernel
theorem dX3_take_51 : decode cX3_take 51 = .ok (.invokevirtual 39, 3) := by decide +kernel
theorem dX3_take_54 : decode cX3_take 54 = .ok (.ireturn, 1) := by decide +kernel
theorem dX3_takeSign_0 : decode cX3_takeSign 0 = .ok (.iload_n 1, 1) := by decide +kernel
theorem dX3_takeSign_1 : decode cX3_takeSign 1 = .ok (.lookupswitch 73 #[(99, 47), (115, 35), (121, 60)], 35) := by decide +kernel
theorem dX3_takeSign_36 : decode cX3_takeSign 36 = .ok (.aload_n 0, 1) := by decide +kernel
theorem dX3_takeSign_37 : decode cX3_takeSign 37 = .ok (.iconst 0, 1) := by decide +kernel
theorem dX3_takeSign_38 : decode cX3_takeSign 38 = .ok (.putfield 42, 3) := by decide +kernel
theorem dX3_takeSign_41 : decode cX3_takeSign 41 = .ok (.aload_n 0, 1) := by decide +kernel
theorem dX3_takeSign_42 : decode cX3_takeSign 42 = .ok (.iconst 2, 1) := by decide +kernel
theorem dX3_takeSign_43 : decode cX3_takeSign 43 = .ok (.putfield 29, 3) := by decide +kernel
theorem dX3_takeSign_46 : decode cX3_takeSign 46 = .ok (.iconst 1, 1) := by decide +kernel
theorem dX3_takeSign_47 : decode cX3_takeSign 47 = .ok (.ireturn, 1) := by decide +kernel
theorem dX3_takeSign_48 : decode cX3_takeSign 48 = .ok (.aload_n 0, 1) := by decide +kernel
theorem dX3_takeSign_49 : decode cX3_takeSign 49 = .ok (.bipush 6, 2) := by decide +kernel
theorem dX3_takeSign_51 : decode cX3_takeSign 51 = .ok (.putfield 42, 3) := by decide +kernel
theorem dX3_takeSign_54 : decode cX3_takeSign 54 = .ok (.aload_n 0, 1) := by decide +kernel
theorem dX3_takeSign_55 : decode cX3_takeSign 55 = .ok (.iconst 1, 1) := by decide +kernel
theorem dX3_takeSign_56 : decode cX3_takeSign 56 = .ok (.putfield 29, 3) := by decide +kernel
theorem dX3_takeSign_59 : decode cX3_takeSign 59 = .ok (.iconst 1, 1) := by decide +kernel
theorem dX3_takeSign_60 : decode cX3_takeSign 60 = .ok (.ireturn, 1) := by decide +kernel
theorem dX3_takeSign_61 : decode cX3_takeSign 61 = .ok (.aload_n 0, 1) := by decide +kernel
theorem dX3_takeSign_62 : decode cX3_takeSign 62 = .ok (.bipush 8, 2) := by decide +kernel
theorem dX3_takeSign_64 : decode cX3_takeSign 64 = .ok (.putfield 42, 3) := by decide +kernel
theorem dX3_takeSign_67 : decode cX3_takeSign 67 = .ok (.aload_n 0, 1) := by decide +kernel
theorem dX3_takeSign_68 : decode cX3_takeSign 68 = .ok (.iconst 1, 1) := by decide +kernel
theorem dX3_takeSign_69 : decode cX3_takeSign 69 = .ok (.putfield 29, 3) := by decide +kernel
theorem dX3_takeSign_72 : decode cX3_takeSign 72 = .ok (.iconst 1, 1) := by decide +kernel
theorem dX3_takeSign_73 : decode cX3_takeSign 73 = .ok (.ireturn, 1) := by decide +kernel
theorem dX3_takeSign_74 : decode cX3_takeSign 74 = .ok (.iconst 0, 1) := by decide +kernel
theorem dX3_takeSign_75 : decode cX3_takeSign 75 = .ok (.ireturn, 1) := by decide +kernel
theorem dX3_takeFigure_0 : decode cX3_takeFigure 0 = .ok (.iload_n 1, 1) := by decide +kernel
theorem dX3_takeFigure_1 : decode cX3_takeFigure 1 = .ok (.ifCond .lt 8, 3) := by decide +kernel
theorem dX3_takeFigure_4 : decode cX3_takeFigure 4 = .ok (.iload_n 1, 1) := by decide +kernel
theorem dX3_takeFigure_5 : decode cX3_takeFigure 5 = .ok (.iconst 5, 1) := by decide +kernel
theorem dX3_takeFigure_6 : decode cX3_takeFigure 6 = .ok (.if_icmp .lt 5, 3) := by decide +kernel
theorem dX3_takeFigure_9 : decode cX3_takeFigure 9 = .ok (.iconst 0, 1) := by decide +kernel
theorem dX3_takeFigure_10 : decode cX3_takeFigure 10 = .ok (.ireturn, 1) := by decide +kernel
theorem dX3_takeFigure_11 : decode cX3_takeFigure 11 = .ok (.aload_n 0, 1) := by decide +kernel
theorem dX3_takeFigure_12 : decode cX3_takeFigure 12 = .ok (.aload_n 0, 1) := by decide +kernel
theorem dX3_takeFigure_13 : decode cX3_takeFigure 13 = .ok (.getfield 42, 3) := by decide +kernel
theorem dX3_takeFigure_16 : decode cX3_takeFigure 16 = .ok (.iconst 5, 1) := by decide +kernel
theorem dX3_takeFigure_17 : decode cX3_takeFigure 17 = .ok (.imul, 1) := by decide +kernel
theorem dX3_takeFigure_18 : decode cX3_takeFigure 18 = .ok (.iload_n 1, 1) := by decide +kernel
theorem dX3_takeFigure_19 : decode cX3_takeFigure 19 = .ok (.iadd, 1) := by decide +kernel
theorem dX3_takeFigure_20 : decode cX3_takeFigure 20 = .ok (.putfield 42, 3) := by decide +kernel
theorem dX3_takeFigure_23 : decode cX3_takeFigure 23 = .ok (.aload_n 0, 1) := by decide +kernel
theorem dX3_takeFigure_24 : decode cX3_takeFigure 24 = .ok (.dup, 1) := by decide +kernel
theorem dX3_takeFigure_25 : decode cX3_takeFigure 25 = .ok (.getfield 29, 3) := by decide +kernel
theorem dX3_takeFigure_28 : decode cX3_takeFigure 28 = .ok (.iconst 1, 1) := by decide +kernel
theorem dX3_takeFigure_29 : decode cX3_takeFigure 29 = .ok (.isub, 1) := by decide +kernel
theorem dX3_takeFigure_30 : decode cX3_takeFigure 30 = .ok (.putfield 29, 3) := by decide +kernel
theorem dX3_takeFigure_33 : decode cX3_takeFigure 33 = .ok (.aload_n 0, 1) := by decide +kernel
theorem dX3_takeFigure_34 : decode cX3_takeFigure 34 = .ok (.getfield 29, 3) := by decide +kernel
theorem dX3_takeFigure_37 : decode cX3_takeFigure 37 = .ok (.ifCond .ne 50, 3) := by decide +kernel
theorem dX3_takeFigure_40 : decode cX3_takeFigure 40 = .ok (.aload_n 0, 1) := by decide +kernel
theorem dX3_takeFigure_41 : decode cX3_takeFigure 41 = .ok (.getfield 22, 3) := by decide +kernel
theorem dX3_takeFigure_44 : decode cX3_takeFigure 44 = .ok (.ifCond .lt 43, 3) := by decide +kernel
theorem dX3_takeFigure_47 : decode cX3_takeFigure 47 = .ok (.aload_n 0, 1) := by decide +kernel
theorem dX3_takeFigure_48 : decode cX3_takeFigure 48 = .ok (.getfield 22, 3) := by decide +kernel
theorem dX3_takeFigure_51 : decode cX3_takeFigure 51 = .ok (.aload_n 0, 1) := by decide +kernel
theorem dX3_takeFigure_52 : decode cX3_takeFigure 52 = .ok (.getfield 15, 3) := by decide +kernel
theorem dX3_takeFigure_55 : decode cX3_takeFigure 55 = .ok (.arraylength, 1) := by decide +kernel
theorem dX3_takeFigure_56 : decode cX3_takeFigure 56 = .ok (.if_icmp .ge 31, 3) := by decide +kernel
theorem dX3_takeFigure_59 : decode cX3_takeFigure 59 = .ok (.aload_n 0, 1) := by decide +kernel
theorem dX3_takeFigure_60 : decode cX3_takeFigure 60 = .ok (.getfield 15, 3) := by decide +kernel
theorem dX3_takeFigure_63 : decode cX3_takeFigure 63 = .ok (.aload_n 0, 1) := by decide +kernel
theorem dX3_takeFigure_64 : decode cX3_takeFigure 64 = .ok (.getfield 22, 3) := by decide +kernel
theorem dX3_takeFigure_67 : decode cX3_takeFigure 67 = .ok (.aload_n 0, 1) := by decide +kernel
theorem dX3_takeFigure_68 : decode cX3_takeFigure 68 = .ok (.getfield 42, 3) := by decide +kernel
theorem dX3_takeFigure_71 : decode cX3_takeFigure 71 = .ok (.iastore, 1) := by decide +kernel
theorem dX3_takeFigure_72 : decode cX3_takeFigure 72 = .ok (.aload_n 0, 1) := by decide +kernel
theorem dX3_takeFigure_73 : decode cX3_takeFigure 73 = .ok (.dup, 1) := by decide +kernel
theorem dX3_takeFigure_74 : decode cX3_takeFigure 74 = .ok (.getfield 22, 3) := by decide +kernel
theorem dX3_takeFigure_77 : decode cX3_takeFigure 77 = .ok (.iconst 1, 1) := by decide +kernel
theorem dX3_takeFigure_78 : decode cX3_takeFigure 78 = .ok (.iadd, 1) := by decide +kernel
theorem dX3_takeFigure_79 : decode cX3_takeFigure 79 = .ok (.putfield 22, 3) := by decide +kernel
theorem dX3_takeFigure_82 : decode cX3_takeFigure 82 = .ok (.aload_n 0, 1) := by decide +kernel
theorem dX3_takeFigure_83 : decode cX3_takeFigure 83 = .ok (.iconst 1, 1) := by decide +kernel
theorem dX3_takeFigure_84 : decode cX3_takeFigure 84 = .ok (.putfield 25, 3) := by decide +kernel
theorem dX3_takeFigure_87 : decode cX3_takeFigure 87 = .ok (.iconst 1, 1) := by decide +kernel
theorem dX3_takeFigure_88 : decode cX3_takeFigure 88 = .ok (.ireturn, 1) := by decide +kernel
end
section
theorem dX4_init_0 : decode cX4_init 0 = .ok (.aload_n 0, 1) := by decide +kernel
theorem dX4_init_1 : decode cX4_init 1 = .ok (.invokespecial 1, 3) := by decide +kernel
theorem dX4_init_4 : decode cX4_init 4 = .ok (.aload_n 0, 1) := by decide +kernel
theorem dX4_init_5 : decode cX4_init 5 = .ok (.iconst 4, 1) := by decide +kernel
theorem dX4_init_6 : decode cX4_init 6 = .ok (.newarray .int, 2) := by decide +kernel
theorem dX4_init_8 : decode cX4_init 8 = .ok (.putfield 7, 3) := by decide +kernel
theorem dX4_init_11 : decode cX4_init 11 = .ok (.aload_n 0, 1) := by decide +kernel
theorem dX4_init_12 : decode cX4_init 12 = .ok (.iconst 4, 1) := by decide +kernel
theorem dX4_init_13 : decode cX4_init 13 = .ok (.newarray .int, 2) := by decide +kernel
theorem dX4_init_15 : decode cX4_init 15 = .ok (.putfield 13, 3) := by decide +kernel
theorem dX4_init_18 : decode cX4_init 18 = .ok (.return_, 1) := by decide +kernel
theorem dX4_length_0 : decode cX4_length 0 = .ok (.aload_n 0, 1) := by decide +kernel
theorem dX4_length_1 : decode cX4_length 1 = .ok (.getfield 16, 3) := by decide +kernel
theorem dX4_length_4 : decode cX4_length 4 = .ok (.ireturn, 1) := by decide +kernel
theorem dX4_keep_0 : decode cX4_keep 0 = .ok (.aload_n 0, 1) := by decide +kernel
theorem dX4_keep_1 : decode cX4_keep 1 = .ok (.getfield 16, 3) := by decide +kernel
theorem dX4_keep_4 : decode cX4_keep 4 = .ok (.ifCond .lt 27, 3) := by decide +kernel
theorem dX4_keep_7 : decode cX4_keep 7 = .ok (.aload_n 0, 1) := by decide +kernel
theorem dX4_keep_8 : decode cX4_keep 8 = .ok (.getfield 16, 3) := by decide +kernel
theorem dX4_keep_11 : decode cX4_keep 11 = .ok (.aload_n 0, 1) := by decide +kernel
theorem dX4_keep_12 : decode cX4_keep 12 = .ok (.getfield 7, 3) := by decide +kernel
theorem dX4_keep_15 : decode cX4_keep 15 = .ok (.arraylength, 1) := by decide +kernel
theorem dX4_keep_16 : decode cX4_keep 16 = .ok (.if_icmp .ge 15, 3) := by decide +kernel
theorem dX4_keep_19 : decode cX4_keep 19 = .ok (.aload_n 0, 1) := by decide +kernel
theorem dX4_keep_20 : decode cX4_keep 20 = .ok (.getfield 16, 3) := by decide +kernel
theorem dX4_keep_23 : decode cX4_keep 23 = .ok (.aload_n 0, 1) := by decide +kernel
theorem dX4_keep_24 : decode cX4_keep 24 = .ok (.getfield 13, 3) := by decide +kernel
theorem dX4_keep_27 : decode cX4_keep 27 = .ok (.arraylength, 1) := by decide +kernel
theorem dX4_keep_28 : decode cX4_keep 28 = .ok (.if_icmp .lt 5, 3) := by decide +kernel
theorem dX4_keep_31 : decode cX4_keep 31 = .ok (.iconst 0, 1) := by decide +kernel
theorem dX4_keep_32 : decode cX4_keep 32 = .ok (.ireturn, 1) := by decide +kernel
theorem dX4_keep_33 : decode cX4_keep 33 = .ok (.aload_n 0, 1) := by decide +kernel
theorem dX4_keep_34 : decode cX4_keep 34 = .ok (.getfield 7, 3) := by decide +kernel
theorem dX4_keep_37 : decode cX4_keep 37 = .ok (.aload_n 0, 1) := by decide +kernel
theorem dX4_keep_38 : decode cX4_keep 38 = .ok (.getfield 16, 3) := by decide +kernel
theorem dX4_keep_41 : decode cX4_keep 41 = .ok (.iload_n 1, 1) := by decide +kernel
theorem dX4_keep_42 : decode cX4_keep 42 = .ok (.iastore, 1) := by decide +kernel
theorem dX4_keep_43 : decode cX4_keep 43 = .ok (.aload_n 0, 1) := by decide +kernel
theorem dX4_keep_44 : decode cX4_keep 44 = .ok (.getfield 13, 3) := by decide +kernel
theorem dX4_keep_47 : decode cX4_keep 47 = .ok (.aload_n 0, 1) := by decide +kernel
theorem dX4_keep_48 : decode cX4_keep 48 = .ok (.getfield 16, 3) := by decide +kernel
theorem dX4_keep_51 : decode cX4_keep 51 = .ok (.iload_n 2, 1) := by decide +kernel
theorem dX4_keep_52 : decode cX4_keep 52 = .ok (.iastore, 1) := by decide +kernel
theorem dX4_keep_53 : decode cX4_keep 53 = .ok (.aload_n 0, 1) := by decide +kernel
theorem dX4_keep_54 : decode cX4_keep 54 = .ok (.dup, 1) := by decide +kernel
theorem dX4_keep_55 : decode cX4_keep 55 = .ok (.getfield 16, 3) := by decide +kernel
theorem dX4_keep_58 : decode cX4_keep 58 = .ok (.iconst 1, 1) := by decide +kernel
theorem dX4_keep_59 : decode cX4_keep 59 = .ok (.iadd, 1) := by decide +kernel
theorem dX4_keep_60 : decode cX4_keep 60 = .ok (.putfield 16, 3) := by decide +kernel
theorem dX4_keep_63 : decode cX4_keep 63 = .ok (.iconst 1, 1) := by decide +kernel
theorem dX4_keep_64 : decode cX4_keep 64 = .ok (.ireturn, 1) := by decide +kernel
theorem dX4_clear_0 : decode cX4_clear 0 = .ok (.aload_n 0, 1) := by decide +kernel
theorem dX4_clear_1 : decode cX4_clear 1 = .ok (.getfield 16, 3) := by decide +kernel
theorem dX4_clear_4 : decode cX4_clear 4 = .ok (.istore_n 1, 1) := by decide +kernel
theorem dX4_clear_5 : decode cX4_clear 5 = .ok (.aload_n 0, 1) := by decide +kernel
theorem dX4_clear_6 : decode cX4_clear 6 = .ok (.iconst 0, 1) := by decide +kernel
theorem dX4_clear_7 : decode cX4_clear 7 = .ok (.putfield 16, 3) := by decide +kernel
theorem dX4_clear_10 : decode cX4_clear 10 = .ok (.iload_n 1, 1) := by decide +kernel
theorem dX4_clear_11 : decode cX4_clear 11 = .ok (.ireturn, 1) := by decide +kernel
theorem dX4_copy_0 : decode cX4_copy 0 = .ok (.iconst 0, 1) := by decide +kernel
theorem dX4_copy_1 : decode cX4_copy 1 = .ok (.istore_n 2, 1) := by decide +kernel
theorem dX4_copy_2 : decode cX4_copy 2 = .ok (.iload_n 2, 1) := by decide +kernel
theorem dX4_copy_3 : decode cX4_copy 3 = .ok (.aload_n 0, 1) := by decide +kernel
theorem dX4_copy_4 : decode cX4_copy 4 = .ok (.getfield 7, 3) := by decide +kernel
theorem dX4_copy_7 : decode cX4_copy 7 = .ok (.arraylength, 1) := by decide +kernel
theorem dX4_copy_8 : decode cX4_copy 8 = .ok (.if_icmp .ge 30, 3) := by decide +kernel
theorem dX4_copy_11 : decode cX4_copy 11 = .ok (.iload_n 2, 1) := by decide +kernel
theorem dX4_copy_12 : decode cX4_copy 12 = .ok (.aload_n 1, 1) := by decide +kernel
theorem dX4_copy_13 : decode cX4_copy 13 = .ok (.getfield 7, 3) := by decide +kernel
theorem dX4_copy_16 : decode cX4_copy 16 = .ok (.arraylength, 1) := by decide +kernel
theorem dX4_copy_17 : decode cX4_copy 17 = .ok (.if_icmp .ge 21, 3) := by decide +kernel
theorem dX4_copy_20 : decode cX4_copy 20 = .ok (.aload_n 0, 1) := by decide +kernel
theorem dX4_copy_21 : decode cX4_copy 21 = .ok (.getfield 7, 3) := by decide +kernel
theorem dX4_copy_24 : decode cX4_copy 24 = .ok (.iload_n 2, 1) := by decide +kernel
theorem dX4_copy_25 : decode cX4_copy 25 = .ok (.aload_n 1, 1) := by decide +kernel
theorem dX4_copy_26 : decode cX4_copy 26 = .ok (.getfield 7, 3) := by decide +kernel
theorem dX4_copy_29 : decode cX4_copy 29 = .ok (.iload_n 2, 1) := by decide +kernel
theorem dX4_copy_30 : decode cX4_copy 30 = .ok (.iaload, 1) := by decide +kernel
theorem dX4_copy_31 : decode cX4_copy 31 = .ok (.iastore, 1) := by decide +kernel
theorem dX4_copy_32 : decode cX4_copy 32 = .ok (.iinc 2 1, 3) := by decide +kernel
theorem dX4_copy_35 : decode cX4_copy 35 = .ok (.goto (-33), 3) := by decide +kernel
theorem dX4_copy_38 : decode cX4_copy 38 = .ok (.iconst 0, 1) := by decide +kernel
theorem dX4_copy_39 : decode cX4_copy 39 = .ok (.istore_n 2, 1) := by decide +kernel
theorem dX4_copy_40 : decode cX4_copy 40 = .ok (.iload_n 2, 1) := by decide +kernel
theorem dX4_copy_41 : decode cX4_copy 41 = .ok (.aload_n 0, 1) := by decide +kernel
theorem dX4_copy_42 : decode cX4_copy 42 = .ok (.getfield 13, 3) := by decide +kernel
theorem dX4_copy_45 : decode cX4_copy 45 = .ok (.arraylength, 1) := by decide +kernel
theorem dX4_copy_46 : decode cX4_copy 46 = .ok (.if_icmp .ge 30, 3) := by decide +kernel
theorem dX4_copy_49 : decode cX4_copy 49 = .ok (.iload_n 2, 1) := by decide +kernel
theorem dX4_copy_50 : decode cX4_copy 50 = .ok (.aload_n 1, 1) := by decide +kernel
theorem dX4_copy_51 : decode cX4_copy 51 = .ok (.getfield 13, 3) := by decide +kernel
theorem dX4_copy_54 : decode cX4_copy 54 = .ok (.arraylength, 1) := by decide +kernel
theorem dX4_copy_55 : decode cX4_copy 55 = .ok (.if_icmp .ge 21, 3) := by decide +kernel
theorem dX4_copy_58 : decode cX4_copy 58 = .ok (.aload_n 0, 1) := by decide +kernel
theorem dX4_copy_59 : decode cX4_copy 59 = .ok (.getfield 13, 3) := by decide +kernel
theorem dX4_copy_62 : decode cX4_copy 62 = .ok (.iload_n 2, 1) := by decide +kernel
theorem dX4_copy_63 : decode cX4_copy 63 = .ok (.aload_n 1, 1) := by decide +kernel
theorem dX4_copy_64 : decode cX4_copy 64 = .ok (.getfield 13, 3) := by decide +kernel
theorem dX4_copy_67 : decode cX4_copy 67 = .ok (.iload_n 2, 1) := by decide +kernel
theorem dX4_copy_68 : decode cX4_copy 68 = .ok (.iaload, 1) := by decide +kernel
theorem dX4_copy_69 : decode cX4_copy 69 = .ok (.iastore, 1) := by decide +kernel
theorem dX4_copy_70 : decode cX4_copy 70 = .ok (.iinc 2 1, 3) := by decide +kernel
theorem dX4_copy_73 : decode cX4_copy 73 = .ok (.goto (-33), 3) := by decide +kernel
theorem dX4_copy_76 : decode cX4_copy 76 = .ok (.aload_n 0, 1) := by decide +kernel
theorem dX4_copy_77 : decode cX4_copy 77 = .ok (.aload_n 1, 1) := by decide +kernel
theorem dX4_copy_78 : decode cX4_copy 78 = .ok (.getfield 16, 3) := by decide +kernel
theorem dX4_copy_81 : decode cX4_copy 81 = .ok (.putfield 16, 3) := by decide +kernel
theorem dX4_copy_84 : decode cX4_copy 84 = .ok (.return_, 1) := by decide +kernel
set_option maxRecDepth 20000 in
theorem ggX4_isSoIn_X1_heardBy : GoodIn wsX4_isSoIn wsX1_heardBy := goodIn_r _ [8, 9, 10, 11, 12, 13, 14, 15, 16, 17, 18, 7, 19, 20, 21, 22, 23, 24, 28, 29, 30, 31] (by decide +kernel) (by decide +kernel)
set_option maxRecDepth 20000 in
theorem gX4_isSoIn_X1_heardBy : GoodIn wsX4_isSoIn (wsV RX4 20 RX1 yX1_heardBy wsX1_heardBy) := goodIn_app (goodIn_of _ (by decide +kernel)) ggX4_isSoIn_X1_heardBy
theorem dX4_isSoIn_0 : decode cX4_isSoIn 0 = .ok (.iconst 0, 1) := by decide +kernel
theorem dX4_isSoIn_1 : decode cX4_isSoIn 1 = .ok (.istore_n 2, 1) := by decide +kernel
theorem dX4_isSoIn_2 : decode cX4_isSoIn 2 = .ok (.iload_n 2, 1) := by decide +kernel
theorem dX4_isSoIn_3 : decode cX4_isSoIn 3 = .ok (.aload_n 0, 1) := by decide +kernel
theorem dX4_isSoIn_4 : decode cX4_isSoIn 4 = .ok (.getfield 16, 3) := by decide +kernel
theorem dX4_isSoIn_7 : decode cX4_isSoIn 7 = .ok (.if_icmp .ge 48, 3) := by decide +kernel
theorem dX4_isSoIn_10 : decode cX4_isSoIn 10 = .ok (.iload_n 2, 1) := by decide +kernel
theorem dX4_isSoIn_11 : decode cX4_isSoIn 11 = .ok (.aload_n 0, 1) := by decide +kernel
theorem dX4_isSoIn_12 : decode cX4_isSoIn 12 = .ok (.getfield 7, 3) := by decide +kernel
theorem dX4_isSoIn_15 : decode cX4_isSoIn 15 = .ok (.arraylength, 1) := by decide +kernel
theorem dX4_isSoIn_16 : decode cX4_isSoIn 16 = .ok (.if_icmp .ge 39, 3) := by decide +kernel
theorem dX4_isSoIn_19 : decode cX4_isSoIn 19 = .ok (.iload_n 2, 1) := by decide +kernel
theorem dX4_isSoIn_20 : decode cX4_isSoIn 20 = .ok (.aload_n 0, 1) := by decide +kernel
theorem dX4_isSoIn_21 : decode cX4_isSoIn 21 = .ok (.getfield 13, 3) := by decide +kernel
theorem dX4_isSoIn_24 : decode cX4_isSoIn 24 = .ok (.arraylength, 1) := by decide +kernel
theorem dX4_isSoIn_25 : decode cX4_isSoIn 25 = .ok (.if_icmp .ge 30, 3) := by decide +kernel
theorem dX4_isSoIn_28 : decode cX4_isSoIn 28 = .ok (.aload_n 1, 1) := by decide +kernel
theorem dX4_isSoIn_29 : decode cX4_isSoIn 29 = .ok (.aload_n 0, 1) := by decide +kernel
theorem dX4_isSoIn_30 : decode cX4_isSoIn 30 = .ok (.getfield 7, 3) := by decide +kernel
theorem dX4_isSoIn_33 : decode cX4_isSoIn 33 = .ok (.iload_n 2, 1) := by decide +kernel
theorem dX4_isSoIn_34 : decode cX4_isSoIn 34 = .ok (.iaload, 1) := by decide +kernel
theorem dX4_isSoIn_35 : decode cX4_isSoIn 35 = .ok (.invokevirtual 20, 3) := by decide +kernel
theorem dX4_isSoIn_38 : decode cX4_isSoIn 38 = .ok (.aload_n 0, 1) := by decide +kernel
theorem dX4_isSoIn_39 : decode cX4_isSoIn 39 = .ok (.getfield 13, 3) := by decide +kernel
theorem dX4_isSoIn_42 : decode cX4_isSoIn 42 = .ok (.iload_n 2, 1) := by decide +kernel
theorem dX4_isSoIn_43 : decode cX4_isSoIn 43 = .ok (.iaload, 1) := by decide +kernel
theorem dX4_isSoIn_44 : decode cX4_isSoIn 44 = .ok (.if_icmp .eq 5, 3) := by decide +kernel
theorem dX4_isSoIn_47 : decode cX4_isSoIn 47 = .ok (.iconst 0, 1) := by decide +kernel
theorem dX4_isSoIn_48 : decode cX4_isSoIn 48 = .ok (.ireturn, 1) := by decide +kernel
theorem dX4_isSoIn_49 : decode cX4_isSoIn 49 = .ok (.iinc 2 1, 3) := by decide +kernel
theorem dX4_isSoIn_52 : decode cX4_isSoIn 52 = .ok (.goto (-50), 3) := by decide +kernel
theorem dX4_isSoIn_55 : decode cX4_isSoIn 55 = .ok (.iconst 1, 1) := by decide +kernel
theorem dX4_isSoIn_56 : decode cX4_isSoIn 56 = .ok (.ireturn, 1) := by decide +kernel
end
section
set_option maxRecDepth 20000 in
theorem ggX5_init_X0_init : GoodIn wsX5_init wsX0_init := goodIn_r _ [28, 29, 2, 3, 30, 31, 69, 70] (by decide +kernel) (by decide +kernel)
set_option maxRecDepth 20000 in
theorem gX5_init_X0_init_n11 : GoodIn wsX5_init (wsX0_init) := ggX5_init_X0_init
set_option maxRecDepth 20000 in
theorem ggX5_init_X1_init : GoodIn wsX5_init wsX1_init := goodIn_r _ [34, 35, 2, 3, 30, 36, 37, 38, 39, 40, 41, 82, 83] (by decide +kernel) (by decide +kernel)
set_option maxRecDepth 20000 in
theorem gX5_init_X1_init : GoodIn wsX5_init (wsX1_init) := ggX5_init_X1_init
set_option maxRecDepth 20000 in
theorem ggX5_init_X2_init : GoodIn wsX5_init wsX2_init := goodIn_r _ [44, 45, 2, 3, 30, 46, 47, 48, 49, 50, 51, 52, 53, 54, 55, 9, 10, 56, 57, 58, 33, 34, 35, 36, 37, 38, 39, 40, 41, 84, 85, 86, 87, 88, 89, 90, 91, 92, 93, 94, 82, 83] (by decide +kernel) (by decide +kernel)
set_option maxRecDepth 20000 in
theorem gX5_init_X2_init : GoodIn wsX5_init (wsX2_init) := ggX5_init_X2_init
set_option maxRecDepth 20000 in
theorem ggX5_init_X3_init : GoodIn wsX5_init wsX3_init := goodIn_r _ [60, 61, 2, 3, 30, 62, 63, 95, 96, 97, 98, 99, 100, 101] (by decide +kernel) (by decide +kernel)
set_option maxRecDepth 20000 in
theorem gX5_init_X3_init_n37 : GoodIn wsX5_init (wsX3_init) := ggX5_init_X3_init
set_option maxRecDepth 20000 in
theorem ggX5_init_X4_init : GoodIn wsX5_init wsX4_init := goodIn_r _ [65, 66, 2, 3, 30, 67, 68, 102, 103, 104] (by decide +kernel) (by decide +kernel)
set_option maxRecDepth 20000 in
theorem gX5_init_X4_init_n44 : GoodIn wsX5_init (wsX4_init) := ggX5_init_X4_init
theorem dX5_init_0 : decode cX5_init 0 = .ok (.aload_n 0, 1) := by decide +kernel
theorem dX5_init_1 : decode cX5_init 1 = .ok (.invokespecial 3, 3) := by decide +kernel
theorem dX5_init_4 : decode cX5_init 4 = .ok (.aload_n 0, 1) := by decide +kernel
theorem dX5_init_5 : decode cX5_init 5 = .ok (.new 9, 3) := by decide +kernel
theorem dX5_init_8 : decode cX5_init 8 = .ok (.dup, 1) := by decide +kernel
theorem dX5_init_9 : decode cX5_init 9 = .ok (.invokespecial 11, 3) := by decide +kernel
theorem dX5_init_12 : decode cX5_init 12 = .ok (.putfield 12, 3) := by decide +kernel
theorem dX5_init_15 : decode cX5_init 15 = .ok (.aload_n 0, 1) := by decide +kernel
theorem dX5_init_16 : decode cX5_init 16 = .ok (.new 16, 3) := by decide +kernel
theorem dX5_init_19 : decode cX5_init 19 = .ok (.dup, 1) := by decide +kernel
theorem dX5_init_20 : decode cX5_init 20 = .ok (.aload_n 0, 1) := by decide +kernel
theorem dX5_init_21 : decode cX5_init 21 = .ok (.getfield 12, 3) := by decide +kernel
theorem dX5_init_24 : decode cX5_init 24 = .ok (.invokespecial 18, 3) := by decide +kernel
theorem dX5_init_27 : decode cX5_init 27 = .ok (.putfield 21, 3) := by decide +kernel
theorem dX5_init_30 : decode cX5_init 30 = .ok (.aload_n 0, 1) := by decide +kernel
theorem dX5_init_31 : decode cX5_init 31 = .ok (.new 16, 3) := by decide +kernel
theorem dX5_init_34 : decode cX5_init 34 = .ok (.dup, 1) := by decide +kernel
theorem dX5_init_35 : decode cX5_init 35 = .ok (.aload_n 0, 1) := by decide +kernel
theorem dX5_init_36 : decode cX5_init 36 = .ok (.getfield 12, 3) := by decide +kernel
theorem dX5_init_39 : decode cX5_init 39 = .ok (.invokespecial 18, 3) := by decide +kernel
theorem dX5_init_42 : decode cX5_init 42 = .ok (.putfield 25, 3) := by decide +kernel
theorem dX5_init_45 : decode cX5_init 45 = .ok (.aload_n 0, 1) := by decide +kernel
theorem dX5_init_46 : decode cX5_init 46 = .ok (.new 28, 3) := by decide +kernel
theorem dX5_init_49 : decode cX5_init 49 = .ok (.dup, 1) := by decide +kernel
theorem dX5_init_50 : decode cX5_init 50 = .ok (.aload_n 0, 1) := by decide +kernel
theorem dX5_init_51 : decode cX5_init 51 = .ok (.getfield 12, 3) := by decide +kernel
theorem dX5_init_54 : decode cX5_init 54 = .ok (.invokespecial 30, 3) := by decide +kernel
theorem dX5_init_57 : decode cX5_init 57 = .ok (.putfield 31, 3) := by decide +kernel
theorem dX5_init_60 : decode cX5_init 60 = .ok (.aload_n 0, 1) := by decide +kernel
theorem dX5_init_61 : decode cX5_init 61 = .ok (.new 35, 3) := by decide +kernel
theorem dX5_init_64 : decode cX5_init 64 = .ok (.dup, 1) := by decide +kernel
theorem dX5_init_65 : decode cX5_init 65 = .ok (.invokespecial 37, 3) := by decide +kernel
theorem dX5_init_68 : decode cX5_init 68 = .ok (.putfield 38, 3) := by decide +kernel
theorem dX5_init_71 : decode cX5_init 71 = .ok (.aload_n 0, 1) := by decide +kernel
theorem dX5_init_72 : decode cX5_init 72 = .ok (.new 42, 3) := by decide +kernel
theorem dX5_init_75 : decode cX5_init 75 = .ok (.dup, 1) := by decide +kernel
theorem dX5_init_76 : decode cX5_init 76 = .ok (.invokespecial 44, 3) := by decide +kernel
theorem dX5_init_79 : decode cX5_init 79 = .ok (.putfield 45, 3) := by decide +kernel
theorem dX5_init_82 : decode cX5_init 82 = .ok (.aload_n 0, 1) := by decide +kernel
theorem dX5_init_83 : decode cX5_init 83 = .ok (.new 42, 3) := by decide +kernel
theorem dX5_init_86 : decode cX5_init 86 = .ok (.dup, 1) := by decide +kernel
theorem dX5_init_87 : decode cX5_init 87 = .ok (.invokespecial 44, 3) := by decide +kernel
theorem dX5_init_90 : decode cX5_init 90 = .ok (.putfield 49, 3) := by decide +kernel
theorem dX5_init_93 : decode cX5_init 93 = .ok (.aload_n 0, 1) := by decide +kernel
theorem dX5_init_94 : decode cX5_init 94 = .ok (.iconst (-1), 1) := by decide +kernel
theorem dX5_init_95 : decode cX5_init 95 = .ok (.putfield 52, 3) := by decide +kernel
theorem dX5_init_98 : decode cX5_init 98 = .ok (.return_, 1) := by decide +kernel
set_option maxRecDepth 20000 in
theorem ggX5_letter_X3_write : GoodIn wsX5_letter wsX3_write := goodIn_r _ [6, 7, 8, 24, 25, 26, 27, 28, 29, 30] (by decide +kernel) (by decide +kernel)
set_option maxRecDepth 20000 in
theorem gX5_letter_X3_write : GoodIn wsX5_letter (wsV RX5 56 RX3 yX3_write wsX3_write) := goodIn_app (goodIn_of _ (by decide +kernel)) ggX5_letter_X3_write
set_option maxRecDepth 20000 in
theorem ggX5_letter_X3_length : GoodIn wsX5_letter wsX3_length := goodIn_r _ [12, 7, 24, 25, 26, 27, 28, 29, 30] (by decide +kernel) (by decide +kernel)
set_option maxRecDepth 20000 in
theorem gX5_letter_X3_length : GoodIn wsX5_letter (wsV RX5 60 RX3 yX3_length wsX3_length) := goodIn_app (goodIn_of _ (by decide +kernel)) ggX5_letter_X3_length
theorem dX5_letter_0 : decode cX5_letter 0 = .ok (.iload_n 1, 1) := by decide +kernel
theorem dX5_letter_1 : decode cX5_letter 1 = .ok (.iconst 1, 1) := by decide +kernel
theorem dX5_letter_2 : decode cX5_letter 2 = .ok (.if_icmp .lt 9, 3) := by decide +kernel
theorem dX5_letter_5 : decode cX5_letter 5 = .ok (.iload_n 1, 1) := by decide +kernel
theorem dX5_letter_6 : decode cX5_letter 6 = .ok (.bipush 126, 2) := by decide +kernel
theorem dX5_letter_8 : decode cX5_letter 8 = .ok (.if_icmp .le 6, 3) := by decide +kernel
theorem dX5_letter_11 : decode cX5_letter 11 = .ok (.bipush (-102), 2) := by decide +kernel
theorem dX5_letter_13 : decode cX5_letter 13 = .ok (.ireturn, 1) := by decide +kernel
theorem dX5_letter_14 : decode cX5_letter 14 = .ok (.aload_n 0, 1) := by decide +kernel
theorem dX5_letter_15 : decode cX5_letter 15 = .ok (.getfield 38, 3) := by decide +kernel
theorem dX5_letter_18 : decode cX5_letter 18 = .ok (.iload_n 1, 1) := by decide +kernel
theorem dX5_letter_19 : decode cX5_letter 19 = .ok (.invokevirtual 56, 3) := by decide +kernel
theorem dX5_letter_22 : decode cX5_letter 22 = .ok (.ifCond .eq 13, 3) := by decide +kernel
theorem dX5_letter_25 : decode cX5_letter 25 = .ok (.aload_n 0, 1) := by decide +kernel
theorem dX5_letter_26 : decode cX5_letter 26 = .ok (.getfield 38, 3) := by decide +kernel
theorem dX5_letter_29 : decode cX5_letter 29 = .ok (.invokevirtual 60, 3) := by decide +kernel
theorem dX5_letter_32 : decode cX5_letter 32 = .ok (.goto 5, 3) := by decide +kernel
theorem dX5_letter_35 : decode cX5_letter 35 = .ok (.bipush (-104), 2) := by decide +kernel
theorem dX5_letter_37 : decode cX5_letter 37 = .ok (.ireturn, 1) := by decide +kernel
set_option maxRecDepth 20000 in
theorem ggX5_blank_X3_clear : GoodIn wsX5_blank wsX3_clear := goodIn_r _ [6, 7, 19, 20, 21, 22, 23, 24, 25] (by decide +kernel) (by decide +kernel)
set_option maxRecDepth 20000 in
theorem gX5_blank_X3_clear : GoodIn wsX5_blank (wsV RX5 64 RX3 yX3_clear wsX3_clear) := goodIn_app (goodIn_of _ (by decide +kernel)) ggX5_blank_X3_clear
theorem dX5_blank_0 : decode cX5_blank 0 = .ok (.aload_n 0, 1) := by decide +kernel
theorem dX5_blank_1 : decode cX5_blank 1 = .ok (.getfield 38, 3) := by decide +kernel
theorem dX5_blank_4 : decode cX5_blank 4 = .ok (.invokevirtual 64, 3) := by decide +kernel
theorem dX5_blank_7 : decode cX5_blank 7 = .ok (.ireturn, 1) := by decide +kernel
set_option maxRecDepth 20000 in
theorem ggX5_fault_X3_read : GoodIn wsX5_fault wsX3_read := goodIn_r _ [6, 7, 8, 9, 10, 11, 12, 13, 14, 5, 15, 16, 17, 18, 19, 20, 21, 22, 23, 24, 25, 37, 38, 39, 40, 41, 42, 43] (by decide +kernel) (by decide +kernel)
set_option maxRecDepth 20000 in
theorem gX5_fault_X3_read : GoodIn wsX5_fault (wsV RX5 67 RX3 yX3_read wsX3_read) := goodIn_app (goodIn_of _ (by decide +kernel)) ggX5_fault_X3_read
theorem dX5_fault_0 : decode cX5_fault 0 = .ok (.aload_n 0, 1) := by decide +kernel
theorem dX5_fault_1 : decode cX5_fault 1 = .ok (.getfield 38, 3) := by decide +kernel
theorem dX5_fault_4 : decode cX5_fault 4 = .ok (.invokevirtual 67, 3) := by decide +kernel
theorem dX5_fault_7 : decode cX5_fault 7 = .ok (.ireturn, 1) := by decide +kernel
set_option maxRecDepth 20000 in
theorem ggX5_tale_X3_read : GoodIn wsX5_tale wsX3_read := goodIn_r _ [8, 9, 10, 11, 12, 13, 14, 15, 16, 7, 17, 18, 19, 20, 21, 22, 23, 24, 25, 26, 27, 127, 128, 129, 130, 131, 132, 133] (by decide +kernel) (by decide +kernel)
set_option maxRecDepth 20000 in
theorem gX5_tale_X3_read : GoodIn wsX5_tale (wsV RX5 67 RX3 yX3_read wsX3_read) := goodIn_app (goodIn_of _ (by decide +kernel)) ggX5_tale_X3_read
set_option maxRecDepth 20000 in
theorem ggX5_tale_X3_length : GoodIn wsX5_tale wsX3_length := goodIn_r _ [31, 12, 127, 128, 129, 130, 131, 132, 133] (by decide +kernel) (by decide +kernel)
set_option maxRecDepth 20000 in
theorem gX5_tale_X3_length : GoodIn wsX5_tale (wsV RX5 60 RX3 yX3_length wsX3_length) := goodIn_app (goodIn_of _ (by decide +kernel)) ggX5_tale_X3_length
set_option maxRecDepth 20000 in
theorem ggX5_tale_X3_isWhole : GoodIn wsX5_tale wsX3_isWhole := goodIn_r _ [35, 11, 127, 128, 129, 130, 131, 132, 133] (by decide +kernel) (by decide +kernel)
set_option maxRecDepth 20000 in
theorem gX5_tale_X3_isWhole : GoodIn wsX5_tale (wsV RX5 70 RX3 yX3_isWhole wsX3_isWhole) := goodIn_app (goodIn_of _ (by decide +kernel)) ggX5_tale_X3_isWhole
set_option maxRecDepth 20000 in
theorem ggX5_tale_X1_copy : GoodIn wsX5_tale wsX1_copy := goodIn_r _ [40, 41, 42, 43, 44, 39, 45, 134, 135] (by decide +kernel) (by decide +kernel)
set_option maxRecDepth 20000 in
theorem gX5_tale_X1_copy : GoodIn wsX5_tale (wsV RX5 74 RX1 yX1_copy wsX1_copy) := goodIn_app (goodIn_of _ (by decide +kernel)) ggX5_tale_X1_copy
set_option maxRecDepth 20000 in
theorem ggX5_tale_X3_deeds : GoodIn wsX5_tale wsX3_deeds := goodIn_r _ [49, 9, 127, 128, 129, 130, 131, 132, 133] (by decide +kernel) (by decide +kernel)
set_option maxRecDepth 20000 in
theorem gX5_tale_X3_deeds : GoodIn wsX5_tale (wsV RX5 78 RX3 yX3_deeds wsX3_deeds) := goodIn_app (goodIn_of _ (by decide +kernel)) ggX5_tale_X3_deeds
set_option maxRecDepth 20000 in
theorem ggX5_tale_X3_deedAt : GoodIn wsX5_tale wsX3_deedAt := goodIn_r _ [53, 23, 127, 128, 129, 130, 131, 132, 133] (by decide +kernel) (by decide +kernel)
set_option maxRecDepth 20000 in
theorem gX5_tale_X3_deedAt : GoodIn wsX5_tale (wsV RX5 81 RX3 yX3_deedAt wsX3_deedAt) := goodIn_app (goodIn_of _ (by decide +kernel)) ggX5_tale_X3_deedAt
set_option maxRecDepth 20000 in
theorem ggX5_tale_X1_allows : GoodIn wsX5_tale wsX1_allows := goodIn_r _ [57, 58, 59, 60, 61, 62, 63, 64, 65, 66, 67, 68, 69, 70, 71, 72, 73, 74, 75, 76, 77, 78, 79, 39, 80, 42, 43, 44, 45, 41, 81, 82, 83, 84, 85, 86, 87, 88, 89, 90, 91, 92, 93, 94, 95, 96, 97, 98, 99, 100, 101, 102, 103, 104, 105, 106, 107, 134, 135, 136, 137] (by decide +kernel) (by decide +kernel)
set_option maxRecDepth 20000 in
theorem gX5_tale_X1_allows : GoodIn wsX5_tale (wsV RX5 85 RX1 yX1_allows wsX1_allows) := goodIn_app (goodIn_of _ (by decide +kernel)) ggX5_tale_X1_allows
set_option maxRecDepth 20000 in
theorem ggX5_tale_X1_carryOut : GoodIn wsX5_tale wsX1_carryOut := goodIn_r _ [111, 41, 67, 65, 68, 74, 75, 76, 112, 113, 114, 39, 115, 100, 101, 102, 103, 58, 81, 82, 83, 62, 84, 85, 86, 87, 88, 89, 90, 96, 97, 98, 99, 73, 42, 43, 44, 45, 134, 135, 136, 137] (by decide +kernel) (by decide +kernel)
set_option maxRecDepth 20000 in
theorem gX5_tale_X1_carryOut : GoodIn wsX5_tale (wsV RX5 88 RX1 yX1_carryOut wsX1_carryOut) := goodIn_app (goodIn_of _ (by decide +kernel)) ggX5_tale_X1_carryOut
theorem dX5_tale_0 : decode cX5_tale 0 = .ok (.aload_n 0, 1) := by decide +kernel
theorem dX5_tale_1 : decode cX5_tale 1 = .ok (.getfield 38, 3) := by decide +kernel
theorem dX5_tale_4 : decode cX5_tale 4 = .ok (.invokevirtual 67, 3) := by decide +kernel
theorem dX5_tale_7 : decode cX5_tale 7 = .ok (.aload_n 0, 1) := by decide +kernel
theorem dX5_tale_8 : decode cX5_tale 8 = .ok (.getfield 38, 3) := by decide +kernel
theorem dX5_tale_11 : decode cX5_tale 11 = .ok (.invokevirtual 60, 3) := by decide +kernel
theorem dX5_tale_14 : decode cX5_tale 14 = .ok (.if_icmp .lt 13, 3) := by decide +kernel
theorem dX5_tale_17 : decode cX5_tale 17 = .ok (.aload_n 0, 1) := by decide +kernel
theorem dX5_tale_18 : decode cX5_tale 18 = .ok (.getfield 38, 3) := by decide +kernel
theorem dX5_tale_21 : decode cX5_tale 21 = .ok (.invokevirtual 70, 3) := by decide +kernel
theorem dX5_tale_24 : decode cX5_tale 24 = .ok (.ifCond .ne 6, 3) := by decide +kernel
theorem dX5_tale_27 : decode cX5_tale 27 = .ok (.bipush (-103), 2) := by decide +kernel
theorem dX5_tale_29 : decode cX5_tale 29 = .ok (.ireturn, 1) := by decide +kernel
theorem dX5_tale_30 : decode cX5_tale 30 = .ok (.aload_n 0, 1) := by decide +kernel
theorem dX5_tale_31 : decode cX5_tale 31 = .ok (.getfield 25, 3) := by decide +kernel
theorem dX5_tale_34 : decode cX5_tale 34 = .ok (.aload_n 0, 1) := by decide +kernel
theorem dX5_tale_35 : decode cX5_tale 35 = .ok (.getfield 21, 3) := by decide +kernel
theorem dX5_tale_38 : decode cX5_tale 38 = .ok (.invokevirtual 74, 3) := by decide +kernel
theorem dX5_tale_41 : decode cX5_tale 41 = .ok (.iconst 0, 1) := by decide +kernel
theorem dX5_tale_42 : decode cX5_tale 42 = .ok (.istore_n 1, 1) := by decide +kernel
theorem dX5_tale_43 : decode cX5_tale 43 = .ok (.iload_n 1, 1) := by decide +kernel
theorem dX5_tale_44 : decode cX5_tale 44 = .ok (.aload_n 0, 1) := by decide +kernel
theorem dX5_tale_45 : decode cX5_tale 45 = .ok (.getfield 38, 3) := by decide +kernel
theorem dX5_tale_48 : decode cX5_tale 48 = .ok (.invokevirtual 78, 3) := by decide +kernel
theorem dX5_tale_51 : decode cX5_tale 51 = .ok (.if_icmp .ge 42, 3) := by decide +kernel
theorem dX5_tale_54 : decode cX5_tale 54 = .ok (.aload_n 0, 1) := by decide +kernel
theorem dX5_tale_55 : decode cX5_tale 55 = .ok (.getfield 25, 3) := by decide +kernel
theorem dX5_tale_58 : decode cX5_tale 58 = .ok (.aload_n 0, 1) := by decide +kernel
theorem dX5_tale_59 : decode cX5_tale 59 = .ok (.getfield 38, 3) := by decide +kernel
theorem dX5_tale_62 : decode cX5_tale 62 = .ok (.iload_n 1, 1) := by decide +kernel
theorem dX5_tale_63 : decode cX5_tale 63 = .ok (.invokevirtual 81, 3) := by decide +kernel
theorem dX5_tale_66 : decode cX5_tale 66 = .ok (.invokevirtual 85, 3) := by decide +kernel
theorem dX5_tale_69 : decode cX5_tale 69 = .ok (.ifCond .eq 24, 3) := by decide +kernel
theorem dX5_tale_72 : decode cX5_tale 72 = .ok (.aload_n 0, 1) := by decide +kernel
theorem dX5_tale_73 : decode cX5_tale 73 = .ok (.getfield 25, 3) := by decide +kernel
theorem dX5_tale_76 : decode cX5_tale 76 = .ok (.aload_n 0, 1) := by decide +kernel
theorem dX5_tale_77 : decode cX5_tale 77 = .ok (.getfield 38, 3) := by decide +kernel
theorem dX5_tale_80 : decode cX5_tale 80 = .ok (.iload_n 1, 1) := by decide +kernel
theorem dX5_tale_81 : decode cX5_tale 81 = .ok (.invokevirtual 81, 3) := by decide +kernel
theorem dX5_tale_84 : decode cX5_tale 84 = .ok (.invokevirtual 88, 3) := by decide +kernel
theorem dX5_tale_87 : decode cX5_tale 87 = .ok (.iinc 1 1, 3) := by decide +kernel
theorem dX5_tale_90 : decode cX5_tale 90 = .ok (.goto (-47), 3) := by decide +kernel
theorem dX5_tale_93 : decode cX5_tale 93 = .ok (.iload_n 1, 1) := by decide +kernel
theorem dX5_tale_94 : decode cX5_tale 94 = .ok (.ireturn, 1) := by decide +kernel
set_option maxRecDepth 20000 in
theorem ggX5_being_X5_isBetween : GoodIn wsX5_being wsX5_isBetween := goodIn_r _ [5] (by decide +kernel) (by decide +kernel)
set_option maxRecDepth 20000 in
theorem gX5_being_X5_isBetween : GoodIn wsX5_being (va_wsS RX5 92 yX5_isBetween wsX5_isBetween) := goodIn_app (goodIn_of _ (by decide +kernel)) ggX5_being_X5_isBetween
set_option maxRecDepth 20000 in
theorem ggX5_being_X0_join : GoodIn wsX5_being wsX0_join := goodIn_r _ [10, 11, 12, 24, 25] (by decide +kernel) (by decide +kernel)
set_option maxRecDepth 20000 in
theorem gX5_being_X0_join : GoodIn wsX5_being (wsV RX5 96 RX0 yX0_join wsX0_join) := goodIn_app (goodIn_of _ (by decide +kernel)) ggX5_being_X0_join
theorem dX5_being_0 : decode cX5_being 0 = .ok (.iload_n 1, 1) := by decide +kernel
theorem dX5_being_1 : decode cX5_being 1 = .ok (.iconst 0, 1) := by decide +kernel
theorem dX5_being_2 : decode cX5_being 2 = .ok (.iconst 4, 1) := by decide +kernel
theorem dX5_being_3 : decode cX5_being 3 = .ok (.invokestatic 92, 3) := by decide +kernel
theorem dX5_being_6 : decode cX5_being 6 = .ok (.ifCond .eq 34, 3) := by decide +kernel
theorem dX5_being_9 : decode cX5_being 9 = .ok (.iload_n 2, 1) := by decide +kernel
theorem dX5_being_10 : decode cX5_being 10 = .ok (.iconst 1, 1) := by decide +kernel
theorem dX5_being_11 : decode cX5_being 11 = .ok (.bipush 9, 2) := by decide +kernel
theorem dX5_being_13 : decode cX5_being 13 = .ok (.invokestatic 92, 3) := by decide +kernel
theorem dX5_being_16 : decode cX5_being 16 = .ok (.ifCond .eq 24, 3) := by decide +kernel
theorem dX5_being_19 : decode cX5_being 19 = .ok (.iload_n 3, 1) := by decide +kernel
theorem dX5_being_20 : decode cX5_being 20 = .ok (.iconst 0, 1) := by decide +kernel
theorem dX5_being_21 : decode cX5_being 21 = .ok (.bipush 20, 2) := by decide +kernel
theorem dX5_being_23 : decode cX5_being 23 = .ok (.invokestatic 92, 3) := by decide +kernel
theorem dX5_being_26 : decode cX5_being 26 = .ok (.ifCond .eq 14, 3) := by decide +kernel
theorem dX5_being_29 : decode cX5_being 29 = .ok (.iload 4, 2) := by decide +kernel
theorem dX5_being_31 : decode cX5_being 31 = .ok (.iconst 0, 1) := by decide +kernel
theorem dX5_being_32 : decode cX5_being 32 = .ok (.bipush 31, 2) := by decide +kernel
theorem dX5_being_34 : decode cX5_being 34 = .ok (.invokestatic 92, 3) := by decide +kernel
theorem dX5_being_37 : decode cX5_being 37 = .ok (.ifCond .ne 6, 3) := by decide +kernel
theorem dX5_being_40 : decode cX5_being 40 = .ok (.bipush (-102), 2) := by decide +kernel
theorem dX5_being_42 : decode cX5_being 42 = .ok (.ireturn, 1) := by decide +kernel
theorem dX5_being_43 : decode cX5_being 43 = .ok (.aload_n 0, 1) := by decide +kernel
theorem dX5_being_44 : decode cX5_being 44 = .ok (.getfield 12, 3) := by decide +kernel
theorem dX5_being_47 : decode cX5_being 47 = .ok (.iload_n 1, 1) := by decide +kernel
theorem dX5_being_48 : decode cX5_being 48 = .ok (.iload_n 2, 1) := by decide +kernel
theorem dX5_being_49 : decode cX5_being 49 = .ok (.iload_n 3, 1) := by decide +kernel
theorem dX5_being_50 : decode cX5_being 50 = .ok (.iload 4, 2) := by decide +kernel
theorem dX5_being_52 : decode cX5_being 52 = .ok (.invokevirtual 96, 3) := by decide +kernel
theorem dX5_being_55 : decode cX5_being 55 = .ok (.istore 5, 2) := by decide +kernel
theorem dX5_being_57 : decode cX5_being 57 = .ok (.iload 5, 2) := by decide +kernel
theorem dX5_being_59 : decode cX5_being 59 = .ok (.iconst (-1), 1) := by decide +kernel
theorem dX5_being_60 : decode cX5_being 60 = .ok (.if_icmp .ne 8, 3) := by decide +kernel
theorem dX5_being_63 : decode cX5_being 63 = .ok (.bipush (-104), 2) := by decide +kernel
theorem dX5_being_65 : decode cX5_being 65 = .ok (.goto 5, 3) := by decide +kernel
theorem dX5_being_68 : decode cX5_being 68 = .ok (.iload 5, 2) := by decide +kernel
theorem dX5_being_70 : decode cX5_being 70 = .ok (.ireturn, 1) := by decide +kernel
set_option maxRecDepth 20000 in
theorem ggX5_about_X0_has : GoodIn wsX5_about wsX0_has := goodIn_r _ [7, 8, 54, 55] (by decide +kernel) (by decide +kernel)
set_option maxRecDepth 20000 in
theorem gX5_about_X0_has : GoodIn wsX5_about (wsV RX5 100 RX0 yX0_has wsX0_has) := goodIn_app (goodIn_of _ (by decide +kernel)) ggX5_about_X0_has
set_option maxRecDepth 20000 in
theorem ggX5_about_X0_trait : GoodIn wsX5_about wsX0_trait := goodIn_r _ [12, 13, 54, 55] (by decide +kernel) (by decide +kernel)
set_option maxRecDepth 20000 in
theorem gX5_about_X0_trait : GoodIn wsX5_about (wsV RX5 103 RX0 yX0_trait wsX0_trait) := goodIn_app (goodIn_of _ (by decide +kernel)) ggX5_about_X0_trait
set_option maxRecDepth 20000 in
theorem ggX5_about_X1_holder : GoodIn wsX5_about wsX1_holder := goodIn_r _ [18, 19, 56, 57] (by decide +kernel) (by decide +kernel)
set_option maxRecDepth 20000 in
theorem gX5_about_X1_holder : GoodIn wsX5_about (wsV RX5 107 RX1 yX1_holder wsX1_holder) := goodIn_app (goodIn_of _ (by decide +kernel)) ggX5_about_X1_holder
set_option maxRecDepth 20000 in
theorem ggX5_about_X1_filled : GoodIn wsX5_about wsX1_filled := goodIn_r _ [23, 24, 25, 26, 27, 6, 28, 8, 29, 15, 16, 17, 18, 19, 30, 10, 11, 12, 13, 56, 57, 54, 55] (by decide +kernel) (by decide +kernel)
set_option maxRecDepth 20000 in
theorem gX5_about_X1_filled : GoodIn wsX5_about (wsV RX5 110 RX1 yX1_filled wsX1_filled) := goodIn_app (goodIn_of _ (by decide +kernel)) ggX5_about_X1_filled
set_option maxRecDepth 20000 in
theorem ggX5_about_X1_walls : GoodIn wsX5_about wsX1_walls := goodIn_r _ [34, 29, 15, 16, 17, 18, 19, 56, 57] (by decide +kernel) (by decide +kernel)
set_option maxRecDepth 20000 in
theorem gX5_about_X1_walls : GoodIn wsX5_about (wsV RX5 113 RX1 yX1_walls wsX1_walls) := goodIn_app (goodIn_of _ (by decide +kernel)) ggX5_about_X1_walls
set_option maxRecDepth 20000 in
theorem ggX5_about_X1_heardBy : GoodIn wsX5_about wsX1_heardBy := goodIn_r _ [38, 24, 25, 26, 27, 6, 28, 8, 39, 40, 41, 17, 42, 29, 15, 16, 18, 19, 56, 57, 54, 55] (by decide +kernel) (by decide +kernel)
set_option maxRecDepth 20000 in
theorem gX5_about_X1_heardBy : GoodIn wsX5_about (wsV RX5 116 RX1 yX1_heardBy wsX1_heardBy) := goodIn_app (goodIn_of _ (by decide +kernel)) ggX5_about_X1_heardBy
theorem dX5_about_0 : decode cX5_about 0 = .ok (.aload_n 0, 1) := by decide +kernel
theorem dX5_about_1 : decode cX5_about 1 = .ok (.getfield 12, 3) := by decide +kernel
theorem dX5_about_4 : decode cX5_about 4 = .ok (.iload_n 1, 1) := by decide +kernel
theorem dX5_about_5 : decode cX5_about 5 = .ok (.invokevirtual 100, 3) := by decide +kernel
theorem dX5_about_8 : decode cX5_about 8 = .ok (.ifCond .ne 6, 3) := by decide +kernel
theorem dX5_about_11 : decode cX5_about 11 = .ok (.bipush (-101), 2) := by decide +kernel
theorem dX5_about_13 : decode cX5_about 13 = .ok (.ireturn, 1) := by decide +kernel
theorem dX5_about_14 : decode cX5_about 14 = .ok (.iload_n 2, 1) := by decide +kernel
theorem dX5_about_15 : decode cX5_about 15 = .ok (.tableswitch 121 0 7 #[45, 55, 65, 75, 85, 94, 103, 112], 45) := by decide +kernel
theorem dX5_about_60 : decode cX5_about 60 = .ok (.aload_n 0, 1) := by decide +kernel
theorem dX5_about_61 : decode cX5_about 61 = .ok (.getfield 12, 3) := by decide +kernel
theorem dX5_about_64 : decode cX5_about 64 = .ok (.iload_n 1, 1) := by decide +kernel
theorem dX5_about_65 : decode cX5_about 65 = .ok (.iconst 0, 1) := by decide +kernel
theorem dX5_about_66 : decode cX5_about 66 = .ok (.invokevirtual 103, 3) := by decide +kernel
theorem dX5_about_69 : decode cX5_about 69 = .ok (.ireturn, 1) := by decide +kernel
theorem dX5_about_70 : decode cX5_about 70 = .ok (.aload_n 0, 1) := by decide +kernel
theorem dX5_about_71 : decode cX5_about 71 = .ok (.getfield 12, 3) := by decide +kernel
theorem dX5_about_74 : decode cX5_about 74 = .ok (.iload_n 1, 1) := by decide +kernel
theorem dX5_about_75 : decode cX5_about 75 = .ok (.iconst 1, 1) := by decide +kernel
theorem dX5_about_76 : decode cX5_about 76 = .ok (.invokevirtual 103, 3) := by decide +kernel
theorem dX5_about_79 : decode cX5_about 79 = .ok (.ireturn, 1) := by decide +kernel
theorem dX5_about_80 : decode cX5_about 80 = .ok (.aload_n 0, 1) := by decide +kernel
theorem dX5_about_81 : decode cX5_about 81 = .ok (.getfield 12, 3) := by decide +kernel
theorem dX5_about_84 : decode cX5_about 84 = .ok (.iload_n 1, 1) := by decide +kernel
theorem dX5_about_85 : decode cX5_about 85 = .ok (.iconst 2, 1) := by decide +kernel
theorem dX5_about_86 : decode cX5_about 86 = .ok (.invokevirtual 103, 3) := by decide +kernel
theorem dX5_about_89 : decode cX5_about 89 = .ok (.ireturn, 1) := by decide +kernel
theorem dX5_about_90 : decode cX5_about 90 = .ok (.aload_n 0, 1) := by decide +kernel
theorem dX5_about_91 : decode cX5_about 91 = .ok (.getfield 12, 3) := by decide +kernel
theorem dX5_about_94 : decode cX5_about 94 = .ok (.iload_n 1, 1) := by decide +kernel
theorem dX5_about_95 : decode cX5_about 95 = .ok (.iconst 3, 1) := by decide +kernel
theorem dX5_about_96 : decode cX5_about 96 = .ok (.invokevirtual 103, 3) := by decide +kernel
theorem dX5_about_99 : decode cX5_about 99 = .ok (.ireturn, 1) := by decide +kernel
theorem dX5_about_100 : decode cX5_about 100 = .ok (.aload_n 0, 1) := by decide +kernel
theorem dX5_about_101 : decode cX5_about 101 = .ok (.getfield 21, 3) := by decide +kernel
theorem dX5_about_104 : decode cX5_about 104 = .ok (.iload_n 1, 1) := by decide +kernel
theorem dX5_about_105 : decode cX5_about 105 = .ok (.invokevirtual 107, 3) := by decide +kernel
theorem dX5_about_108 : decode cX5_about 108 = .ok (.ireturn, 1) := by decide +kernel
theorem dX5_about_109 : decode cX5_about 109 = .ok (.aload_n 0, 1) := by decide +kernel
theorem dX5_about_110 : decode cX5_about 110 = .ok (.getfield 21, 3) := by decide +kernel
theorem dX5_about_113 : decode cX5_about 113 = .ok (.iload_n 1, 1) := by decide +kernel
theorem dX5_about_114 : decode cX5_about 114 = .ok (.invokevirtual 110, 3) := by decide +kernel
theorem dX5_about_117 : decode cX5_about 117 = .ok (.ireturn, 1) := by decide +kernel
theorem dX5_about_118 : decode cX5_about 118 = .ok (.aload_n 0, 1) := by decide +kernel
theorem dX5_about_119 : decode cX5_about 119 = .ok (.getfield 21, 3) := by decide +kernel
theorem dX5_about_122 : decode cX5_about 122 = .ok (.iload_n 1, 1) := by decide +kernel
theorem dX5_about_123 : decode cX5_about 123 = .ok (.invokevirtual 113, 3) := by decide +kernel
theorem dX5_about_126 : decode cX5_about 126 = .ok (.ireturn, 1) := by decide +kernel
theorem dX5_about_127 : decode cX5_about 127 = .ok (.aload_n 0, 1) := by decide +kernel
theorem dX5_about_128 : decode cX5_about 128 = .ok (.getfield 21, 3) := by decide +kernel
theorem dX5_about_131 : decode cX5_about 131 = .ok (.iload_n 1, 1) := by decide +kernel
theorem dX5_about_132 : decode cX5_about 132 = .ok (.invokevirtual 116, 3) := by decide +kernel
theorem dX5_about_135 : decode cX5_about 135 = .ok (.ireturn, 1) := by decide +kernel
theorem dX5_about_136 : decode cX5_about 136 = .ok (.bipush (-102), 2) := by decide +kernel
theorem dX5_about_138 : decode cX5_about 138 = .ok (.ireturn, 1) := by decide +kernel
set_option maxRecDepth 20000 in
theorem ggX5_as_X0_has : GoodIn wsX5_as wsX0_has := goodIn_r _ [6, 7, 33, 34] (by decide +kernel) (by decide +kernel)
set_option maxRecDepth 20000 in
theorem gX5_as_X0_has : GoodIn wsX5_as (wsV RX5 100 RX0 yX0_has wsX0_has) := goodIn_app (goodIn_of _ (by decide +kernel)) ggX5_as_X0_has
set_option maxRecDepth 20000 in
theorem ggX5_as_X5_isBetween : GoodIn wsX5_as wsX5_isBetween := goodIn_r _ [11] (by decide +kernel) (by decide +kernel)
set_option maxRecDepth 20000 in
theorem gX5_as_X5_isBetween : GoodIn wsX5_as (va_wsS RX5 92 yX5_isBetween wsX5_isBetween) := goodIn_app (goodIn_of _ (by decide +kernel)) ggX5_as_X5_isBetween
set_option maxRecDepth 20000 in
theorem ggX5_as_X0_isOf : GoodIn wsX5_as wsX0_isOf := goodIn_r _ [15, 16, 17, 18, 19, 5, 20, 21, 33, 34] (by decide +kernel) (by decide +kernel)
set_option maxRecDepth 20000 in
theorem gX5_as_X0_isOf : GoodIn wsX5_as (wsV RX5 119 RX0 yX0_isOf wsX0_isOf) := goodIn_app (goodIn_of _ (by decide +kernel)) ggX5_as_X0_isOf
theorem dX5_as_0 : decode cX5_as 0 = .ok (.aload_n 0, 1) := by decide +kernel
theorem dX5_as_1 : decode cX5_as 1 = .ok (.getfield 12, 3) := by decide +kernel
theorem dX5_as_4 : decode cX5_as 4 = .ok (.iload_n 1, 1) := by decide +kernel
theorem dX5_as_5 : decode cX5_as 5 = .ok (.invokevirtual 100, 3) := by decide +kernel
theorem dX5_as_8 : decode cX5_as 8 = .ok (.ifCond .ne 6, 3) := by decide +kernel
theorem dX5_as_11 : decode cX5_as 11 = .ok (.bipush (-101), 2) := by decide +kernel
theorem dX5_as_13 : decode cX5_as 13 = .ok (.ireturn, 1) := by decide +kernel
theorem dX5_as_14 : decode cX5_as 14 = .ok (.iload_n 2, 1) := by decide +kernel
theorem dX5_as_15 : decode cX5_as 15 = .ok (.iconst 0, 1) := by decide +kernel
theorem dX5_as_16 : decode cX5_as 16 = .ok (.iconst 4, 1) := by decide +kernel
theorem dX5_as_17 : decode cX5_as 17 = .ok (.invokestatic 92, 3) := by decide +kernel
theorem dX5_as_20 : decode cX5_as 20 = .ok (.ifCond .ne 6, 3) := by decide +kernel
theorem dX5_as_23 : decode cX5_as 23 = .ok (.bipush (-102), 2) := by decide +kernel
theorem dX5_as_25 : decode cX5_as 25 = .ok (.ireturn, 1) := by decide +kernel
theorem dX5_as_26 : decode cX5_as 26 = .ok (.aload_n 0, 1) := by decide +kernel
theorem dX5_as_27 : decode cX5_as 27 = .ok (.getfield 12, 3) := by decide +kernel
theorem dX5_as_30 : decode cX5_as 30 = .ok (.iload_n 1, 1) := by decide +kernel
theorem dX5_as_31 : decode cX5_as 31 = .ok (.iload_n 2, 1) := by decide +kernel
theorem dX5_as_32 : decode cX5_as 32 = .ok (.invokevirtual 119, 3) := by decide +kernel
theorem dX5_as_35 : decode cX5_as 35 = .ok (.ifCond .eq 7, 3) := by decide +kernel
theorem dX5_as_38 : decode cX5_as 38 = .ok (.iload_n 1, 1) := by decide +kernel
theorem dX5_as_39 : decode cX5_as 39 = .ok (.goto 4, 3) := by decide +kernel
theorem dX5_as_42 : decode cX5_as 42 = .ok (.iconst (-1), 1) := by decide +kernel
theorem dX5_as_43 : decode cX5_as 43 = .ok (.ireturn, 1) := by decide +kernel
set_option maxRecDepth 20000 in
theorem ggX5_may_X0_knows : GoodIn wsX5_may wsX0_knows := goodIn_r _ [7, 8, 9, 10, 11, 12, 13, 14, 15, 6, 16, 17, 18, 19, 20, 75, 76] (by decide +kernel) (by decide +kernel)
set_option maxRecDepth 20000 in
theorem gX5_may_X0_knows : GoodIn wsX5_may (wsV RX5 123 RX0 yX0_knows wsX0_knows) := goodIn_app (goodIn_of _ (by decide +kernel)) ggX5_may_X0_knows
set_option maxRecDepth 20000 in
theorem ggX5_may_X1_allows : GoodIn wsX5_may wsX1_allows := goodIn_r _ [25, 26, 27, 4, 5, 6, 7, 8, 9, 10, 11, 12, 13, 14, 15, 16, 17, 18, 19, 20, 28, 29, 30, 24, 31, 32, 33, 34, 35, 36, 37, 38, 39, 40, 41, 42, 43, 44, 45, 46, 47, 48, 49, 50, 51, 52, 53, 54, 55, 56, 57, 58, 59, 60, 61, 62, 63, 77, 78, 75, 76] (by decide +kernel) (by decide +kernel)
set_option maxRecDepth 20000 in
theorem gX5_may_X1_allows : GoodIn wsX5_may (wsV RX5 85 RX1 yX1_allows wsX1_allows) := goodIn_app (goodIn_of _ (by decide +kernel)) ggX5_may_X1_allows
theorem dX5_may_0 : decode cX5_may 0 = .ok (.aload_n 0, 1) := by decide +kernel
theorem dX5_may_1 : decode cX5_may 1 = .ok (.getfield 12, 3) := by decide +kernel
theorem dX5_may_4 : decode cX5_may 4 = .ok (.iload_n 1, 1) := by decide +kernel
theorem dX5_may_5 : decode cX5_may 5 = .ok (.invokevirtual 123, 3) := by decide +kernel
theorem dX5_may_8 : decode cX5_may 8 = .ok (.ifCond .ne 6, 3) := by decide +kernel
theorem dX5_may_11 : decode cX5_may 11 = .ok (.bipush (-101), 2) := by decide +kernel
theorem dX5_may_13 : decode cX5_may 13 = .ok (.ireturn, 1) := by decide +kernel
theorem dX5_may_14 : decode cX5_may 14 = .ok (.aload_n 0, 1) := by decide +kernel
theorem dX5_may_15 : decode cX5_may 15 = .ok (.getfield 21, 3) := by decide +kernel
theorem dX5_may_18 : decode cX5_may 18 = .ok (.iload_n 1, 1) := by decide +kernel
theorem dX5_may_19 : decode cX5_may 19 = .ok (.invokevirtual 85, 3) := by decide +kernel
theorem dX5_may_22 : decode cX5_may 22 = .ok (.ifCond .eq 7, 3) := by decide +kernel
theorem dX5_may_25 : decode cX5_may 25 = .ok (.iconst 1, 1) := by decide +kernel
theorem dX5_may_26 : decode cX5_may 26 = .ok (.goto 4, 3) := by decide +kernel
theorem dX5_may_29 : decode cX5_may 29 = .ok (.iconst 0, 1) := by decide +kernel
theorem dX5_may_30 : decode cX5_may 30 = .ok (.ireturn, 1) := by decide +kernel
set_option maxRecDepth 20000 in
theorem ggX5_deed_X0_knows : GoodIn wsX5_deed wsX0_knows := goodIn_r _ [8, 9, 10, 11, 12, 13, 14, 15, 16, 7, 17, 18, 19, 20, 21, 84, 85] (by decide +kernel) (by decide +kernel)
set_option maxRecDepth 20000 in
theorem gX5_deed_X0_knows : GoodIn wsX5_deed (wsV RX5 123 RX0 yX0_knows wsX0_knows) := goodIn_app (goodIn_of _ (by decide +kernel)) ggX5_deed_X0_knows
set_option maxRecDepth 20000 in
theorem ggX5_deed_X1_allows : GoodIn wsX5_deed wsX1_allows := goodIn_r _ [26, 27, 28, 5, 6, 7, 8, 9, 10, 11, 12, 13, 14, 15, 16, 17, 18, 19, 20, 21, 29, 30, 31, 25, 32, 33, 34, 35, 36, 37, 38, 39, 40, 41, 42, 43, 44, 45, 46, 47, 48, 49, 50, 51, 52, 53, 54, 55, 56, 57, 58, 59, 60, 61, 62, 63, 64, 86, 87, 84, 85] (by decide +kernel) (by decide +kernel)
set_option maxRecDepth 20000 in
theorem gX5_deed_X1_allows : GoodIn wsX5_deed (wsV RX5 85 RX1 yX1_allows wsX1_allows) := goodIn_app (goodIn_of _ (by decide +kernel)) ggX5_deed_X1_allows
set_option maxRecDepth 20000 in
theorem ggX5_deed_X1_carryOut : GoodIn wsX5_deed wsX1_carryOut := goodIn_r _ [68, 37, 12, 10, 13, 19, 20, 21, 69, 70, 71, 25, 72, 57, 58, 59, 60, 27, 38, 39, 40, 7, 41, 42, 43, 44, 45, 46, 47, 53, 54, 55, 56, 18, 33, 34, 35, 36, 86, 87, 84, 85] (by decide +kernel) (by decide +kernel)
set_option maxRecDepth 20000 in
theorem gX5_deed_X1_carryOut : GoodIn wsX5_deed (wsV RX5 88 RX1 yX1_carryOut wsX1_carryOut) := goodIn_app (goodIn_of _ (by decide +kernel)) ggX5_deed_X1_carryOut
theorem dX5_deed_0 : decode cX5_deed 0 = .ok (.aload_n 0, 1) := by decide +kernel
theorem dX5_deed_1 : decode cX5_deed 1 = .ok (.getfield 12, 3) := by decide +kernel
theorem dX5_deed_4 : decode cX5_deed 4 = .ok (.iload_n 1, 1) := by decide +kernel
theorem dX5_deed_5 : decode cX5_deed 5 = .ok (.invokevirtual 123, 3) := by decide +kernel
theorem dX5_deed_8 : decode cX5_deed 8 = .ok (.ifCond .ne 6, 3) := by decide +kernel
theorem dX5_deed_11 : decode cX5_deed 11 = .ok (.bipush (-101), 2) := by decide +kernel
theorem dX5_deed_13 : decode cX5_deed 13 = .ok (.ireturn, 1) := by decide +kernel
theorem dX5_deed_14 : decode cX5_deed 14 = .ok (.aload_n 0, 1) := by decide +kernel
theorem dX5_deed_15 : decode cX5_deed 15 = .ok (.getfield 21, 3) := by decide +kernel
theorem dX5_deed_18 : decode cX5_deed 18 = .ok (.iload_n 1, 1) := by decide +kernel
theorem dX5_deed_19 : decode cX5_deed 19 = .ok (.invokevirtual 85, 3) := by decide +kernel
theorem dX5_deed_22 : decode cX5_deed 22 = .ok (.ifCond .ne 6, 3) := by decide +kernel
theorem dX5_deed_25 : decode cX5_deed 25 = .ok (.bipush (-103), 2) := by decide +kernel
theorem dX5_deed_27 : decode cX5_deed 27 = .ok (.ireturn, 1) := by decide +kernel
theorem dX5_deed_28 : decode cX5_deed 28 = .ok (.aload_n 0, 1) := by decide +kernel
theorem dX5_deed_29 : decode cX5_deed 29 = .ok (.getfield 21, 3) := by decide +kernel
theorem dX5_deed_32 : decode cX5_deed 32 = .ok (.iload_n 1, 1) := by decide +kernel
theorem dX5_deed_33 : decode cX5_deed 33 = .ok (.invokevirtual 88, 3) := by decide +kernel
theorem dX5_deed_36 : decode cX5_deed 36 = .ok (.aload_n 0, 1) := by decide +kernel
theorem dX5_deed_37 : decode cX5_deed 37 = .ok (.dup, 1) := by decide +kernel
theorem dX5_deed_38 : decode cX5_deed 38 = .ok (.getfield 126, 3) := by decide +kernel
theorem dX5_deed_41 : decode cX5_deed 41 = .ok (.iconst 1, 1) := by decide +kernel
theorem dX5_deed_42 : decode cX5_deed 42 = .ok (.iadd, 1) := by decide +kernel
theorem dX5_deed_43 : decode cX5_deed 43 = .ok (.putfield 126, 3) := by decide +kernel
theorem dX5_deed_46 : decode cX5_deed 46 = .ok (.aload_n 0, 1) := by decide +kernel
theorem dX5_deed_47 : decode cX5_deed 47 = .ok (.getfield 126, 3) := by decide +kernel
theorem dX5_deed_50 : decode cX5_deed 50 = .ok (.ireturn, 1) := by decide +kernel
set_option maxRecDepth 20000 in
theorem ggX5_number_X1_toNumber : GoodIn wsX5_number wsX1_toNumber := goodIn_r _ [6, 7, 19, 20] (by decide +kernel) (by decide +kernel)
set_option maxRecDepth 20000 in
theorem gX5_number_X1_toNumber : GoodIn wsX5_number (wsV RX5 129 RX1 yX1_toNumber wsX1_toNumber) := goodIn_app (goodIn_of _ (by decide +kernel)) ggX5_number_X1_toNumber
theorem dX5_number_0 : decode cX5_number 0 = .ok (.aload_n 0, 1) := by decide +kernel
theorem dX5_number_1 : decode cX5_number 1 = .ok (.getfield 21, 3) := by decide +kernel
theorem dX5_number_4 : decode cX5_number 4 = .ok (.invokevirtual 129, 3) := by decide +kernel
theorem dX5_number_7 : decode cX5_number 7 = .ok (.ireturn, 1) := by decide +kernel
set_option maxRecDepth 20000 in
theorem ggX5_soonest_X0_hasAll : GoodIn wsX5_soonest wsX0_hasAll := goodIn_r _ [8, 9, 10, 11, 7, 12, 13, 152, 153] (by decide +kernel) (by decide +kernel)
set_option maxRecDepth 20000 in
theorem gX5_soonest_X0_hasAll : GoodIn wsX5_soonest (wsV RX5 132 RX0 yX0_hasAll wsX0_hasAll) := goodIn_app (goodIn_of _ (by decide +kernel)) ggX5_soonest_X0_hasAll
set_option maxRecDepth 20000 in
theorem ggX5_soonest_X5_isBetween : GoodIn wsX5_soonest wsX5_isBetween := goodIn_r _ [17] (by decide +kernel) (by decide +kernel)
set_option maxRecDepth 20000 in
theorem gX5_soonest_X5_isBetween : GoodIn wsX5_soonest (va_wsS RX5 92 yX5_isBetween wsX5_isBetween) := goodIn_app (goodIn_of _ (by decide +kernel)) ggX5_soonest_X5_isBetween
set_option maxRecDepth 20000 in
theorem ggX5_soonest_X2_lookFrom : GoodIn wsX5_soonest wsX2_lookFrom := goodIn_r _ [22, 23, 24, 25, 26, 27, 28, 29, 30, 31, 32, 33, 34, 35, 36, 37, 7, 38, 13, 39, 40, 41, 21, 42, 43, 44, 45, 46, 47, 48, 49, 50, 51, 52, 53, 54, 55, 56, 57, 58, 59, 60, 61, 62, 63, 64, 65, 66, 67, 68, 69, 70, 71, 72, 73, 74, 75, 76, 16, 77, 78, 79, 80, 81, 82, 83, 84, 85, 86, 87, 88, 89, 90, 91, 92, 93, 94, 95, 96, 97, 98, 99, 100, 101, 102, 103, 104, 105, 106, 107, 108, 109, 110, 111, 112, 113, 114, 115, 116, 117, 118, 119, 120, 121, 122, 123, 124, 125, 126, 127, 128, 129, 130, 154, 155, 156, 157, 158, 159, 160, 161, 162, 163, 164, 165, 166, 152, 153] (by decide +kernel) (by decide +kernel)
set_option maxRecDepth 20000 in
theorem gX5_soonest_X2_lookFrom : GoodIn wsX5_soonest (wsV RX5 135 RX2 yX2_lookFrom wsX2_lookFrom) := goodIn_app (goodIn_of _ (by decide +kernel)) ggX5_soonest_X2_lookFrom
set_option maxRecDepth 20000 in
theorem ggX5_soonest_X2_placeWhereOut : GoodIn wsX5_soonest wsX2_placeWhereOut := goodIn_r _ [134, 27, 28, 49, 55, 56, 57, 32, 58, 34, 135, 136, 137, 138, 154, 155, 156, 157, 158, 159, 160, 161, 162, 163, 164, 165, 166] (by decide +kernel) (by decide +kernel)
set_option maxRecDepth 20000 in
theorem gX5_soonest_X2_placeWhereOut : GoodIn wsX5_soonest (wsV RX5 138 RX2 yX2_placeWhereOut wsX2_placeWhereOut) := goodIn_app (goodIn_of _ (by decide +kernel)) ggX5_soonest_X2_placeWhereOut
set_option maxRecDepth 20000 in
theorem ggX5_soonest_X2_stepsAt : GoodIn wsX5_soonest wsX2_stepsAt := goodIn_r _ [62, 43, 154, 155, 156, 157, 158, 159, 160, 161, 162, 163, 164] (by decide +kernel) (by decide +kernel)
set_option maxRecDepth 20000 in
theorem gX5_soonest_X2_stepsAt : GoodIn wsX5_soonest (wsV RX5 141 RX2 yX2_stepsAt wsX2_stepsAt) := goodIn_app (goodIn_of _ (by decide +kernel)) ggX5_soonest_X2_stepsAt
set_option maxRecDepth 20000 in
theorem ggX5_soonest_X2_firstAt : GoodIn wsX5_soonest wsX2_firstAt := goodIn_r _ [66, 44, 154, 155, 156, 157, 158, 159, 160, 161, 162, 163, 164] (by decide +kernel) (by decide +kernel)
set_option maxRecDepth 20000 in
theorem gX5_soonest_X2_firstAt : GoodIn wsX5_soonest (wsV RX5 144 RX2 yX2_firstAt wsX2_firstAt) := goodIn_app (goodIn_of _ (by decide +kernel)) ggX5_soonest_X2_firstAt
theorem dX5_soonest_0 : decode cX5_soonest 0 = .ok (.aload_n 0, 1) := by decide +kernel
theorem dX5_soonest_1 : decode cX5_soonest 1 = .ok (.getfield 12, 3) := by decide +kernel
theorem dX5_soonest_4 : decode cX5_soonest 4 = .ok (.iload_n 1, 1) := by decide +kernel
theorem dX5_soonest_5 : decode cX5_soonest 5 = .ok (.invokevirtual 132, 3) := by decide +kernel
theorem dX5_soonest_8 : decode cX5_soonest 8 = .ok (.ifCond .eq 12, 3) := by decide +kernel
theorem dX5_soonest_11 : decode cX5_soonest 11 = .ok (.iload_n 2, 1) := by decide +kernel
theorem dX5_soonest_12 : decode cX5_soonest 12 = .ok (.iconst 0, 1) := by decide +kernel
theorem dX5_soonest_13 : decode cX5_soonest 13 = .ok (.iconst 1, 1) := by decide +kernel
theorem dX5_soonest_14 : decode cX5_soonest 14 = .ok (.invokestatic 92, 3) := by decide +kernel
theorem dX5_soonest_17 : decode cX5_soonest 17 = .ok (.ifCond .ne 6, 3) := by decide +kernel
theorem dX5_soonest_20 : decode cX5_soonest 20 = .ok (.bipush (-102), 2) := by decide +kernel
theorem dX5_soonest_22 : decode cX5_soonest 22 = .ok (.ireturn, 1) := by decide +kernel
theorem dX5_soonest_23 : decode cX5_soonest 23 = .ok (.aload_n 0, 1) := by decide +kernel
theorem dX5_soonest_24 : decode cX5_soonest 24 = .ok (.getfield 31, 3) := by decide +kernel
theorem dX5_soonest_27 : decode cX5_soonest 27 = .ok (.aload_n 0, 1) := by decide +kernel
theorem dX5_soonest_28 : decode cX5_soonest 28 = .ok (.getfield 21, 3) := by decide +kernel
theorem dX5_soonest_31 : decode cX5_soonest 31 = .ok (.invokevirtual 135, 3) := by decide +kernel
theorem dX5_soonest_34 : decode cX5_soonest 34 = .ok (.aload_n 0, 1) := by decide +kernel
theorem dX5_soonest_35 : decode cX5_soonest 35 = .ok (.getfield 31, 3) := by decide +kernel
theorem dX5_soonest_38 : decode cX5_soonest 38 = .ok (.iload_n 1, 1) := by decide +kernel
theorem dX5_soonest_39 : decode cX5_soonest 39 = .ok (.invokevirtual 138, 3) := by decide +kernel
theorem dX5_soonest_42 : decode cX5_soonest 42 = .ok (.istore_n 3, 1) := by decide +kernel
theorem dX5_soonest_43 : decode cX5_soonest 43 = .ok (.iload_n 2, 1) := by decide +kernel
theorem dX5_soonest_44 : decode cX5_soonest 44 = .ok (.ifCond .ne 14, 3) := by decide +kernel
theorem dX5_soonest_47 : decode cX5_soonest 47 = .ok (.aload_n 0, 1) := by decide +kernel
theorem dX5_soonest_48 : decode cX5_soonest 48 = .ok (.getfield 31, 3) := by decide +kernel
theorem dX5_soonest_51 : decode cX5_soonest 51 = .ok (.iload_n 3, 1) := by decide +kernel
theorem dX5_soonest_52 : decode cX5_soonest 52 = .ok (.invokevirtual 141, 3) := by decide +kernel
theorem dX5_soonest_55 : decode cX5_soonest 55 = .ok (.goto 11, 3) := by decide +kernel
theorem dX5_soonest_58 : decode cX5_soonest 58 = .ok (.aload_n 0, 1) := by decide +kernel
theorem dX5_soonest_59 : decode cX5_soonest 59 = .ok (.getfield 31, 3) := by decide +kernel
theorem dX5_soonest_62 : decode cX5_soonest 62 = .ok (.iload_n 3, 1) := by decide +kernel
theorem dX5_soonest_63 : decode cX5_soonest 63 = .ok (.invokevirtual 144, 3) := by decide +kernel
theorem dX5_soonest_66 : decode cX5_soonest 66 = .ok (.ireturn, 1) := by decide +kernel
set_option maxRecDepth 20000 in
theorem ggX5_together_X0_has : GoodIn wsX5_together wsX0_has := goodIn_r _ [8, 9, 138, 139] (by decide +kernel) (by decide +kernel)
set_option maxRecDepth 20000 in
theorem gX5_together_X0_has : GoodIn wsX5_together (wsV RX5 100 RX0 yX0_has wsX0_has) := goodIn_app (goodIn_of _ (by decide +kernel)) ggX5_together_X0_has
set_option maxRecDepth 20000 in
theorem ggX5_together_X2_lookFrom : GoodIn wsX5_together wsX2_lookFrom := goodIn_r _ [14, 15, 16, 17, 18, 19, 20, 21, 22, 23, 24, 25, 26, 27, 28, 29, 7, 30, 9, 31, 32, 33, 13, 34, 35, 36, 37, 38, 39, 40, 41, 42, 43, 44, 45, 46, 47, 48, 49, 50, 51, 52, 53, 54, 55, 56, 57, 58, 59, 60, 61, 62, 63, 64, 65, 66, 67, 68, 69, 70, 71, 72, 73, 5, 6, 8, 74, 75, 76, 77, 78, 79, 80, 81, 82, 83, 84, 85, 86, 87, 88, 89, 90, 91, 92, 93, 94, 95, 96, 97, 98, 99, 100, 101, 102, 103, 104, 105, 106, 107, 108, 109, 110, 111, 112, 113, 114, 115, 116, 117, 118, 119, 120, 140, 141, 142, 143, 144, 145, 146, 147, 148, 149, 150, 151, 152, 138, 139] (by decide +kernel) (by decide +kernel)
set_option maxRecDepth 20000 in
theorem gX5_together_X2_lookFrom : GoodIn wsX5_together (wsV RX5 135 RX2 yX2_lookFrom wsX2_lookFrom) := goodIn_app (goodIn_of _ (by decide +kernel)) ggX5_together_X2_lookFrom
set_option maxRecDepth 20000 in
theorem ggX5_together_X2_placeWhereTogether : GoodIn wsX5_together wsX2_placeWhereTogether := goodIn_r _ [124, 19, 20, 41, 47, 48, 49, 24, 50, 26, 125, 82, 83, 84, 140, 141, 142, 143, 144, 145, 146, 147, 148, 149, 150, 151, 152] (by decide +kernel) (by decide +kernel)
set_option maxRecDepth 20000 in
theorem gX5_together_X2_placeWhereTogether : GoodIn wsX5_together (wsV RX5 147 RX2 yX2_placeWhereTogether wsX2_placeWhereTogether) := goodIn_app (goodIn_of _ (by decide +kernel)) ggX5_together_X2_placeWhereTogether
set_option maxRecDepth 20000 in
theorem ggX5_together_X2_stepsAt : GoodIn wsX5_together wsX2_stepsAt := goodIn_r _ [54, 35, 140, 141, 142, 143, 144, 145, 146, 147, 148, 149, 150] (by decide +kernel) (by decide +kernel)
set_option maxRecDepth 20000 in
theorem gX5_together_X2_stepsAt : GoodIn wsX5_together (wsV RX5 141 RX2 yX2_stepsAt wsX2_stepsAt) := goodIn_app (goodIn_of _ (by decide +kernel)) ggX5_together_X2_stepsAt
theorem dX5_together_0 : decode cX5_together 0 = .ok (.aload_n 0, 1) := by decide +kernel
theorem dX5_together_1 : decode cX5_together 1 = .ok (.getfield 12, 3) := by decide +kernel
theorem dX5_together_4 : decode cX5_together 4 = .ok (.iload_n 1, 1) := by decide +kernel
theorem dX5_together_5 : decode cX5_together 5 = .ok (.invokevirtual 100, 3) := by decide +kernel
theorem dX5_together_8 : decode cX5_together 8 = .ok (.ifCond .eq 19, 3) := by decide +kernel
theorem dX5_together_11 : decode cX5_together 11 = .ok (.aload_n 0, 1) := by decide +kernel
theorem dX5_together_12 : decode cX5_together 12 = .ok (.getfield 12, 3) := by decide +kernel
theorem dX5_together_15 : decode cX5_together 15 = .ok (.iload_n 2, 1) := by decide +kernel
theorem dX5_together_16 : decode cX5_together 16 = .ok (.invokevirtual 100, 3) := by decide +kernel
theorem dX5_together_19 : decode cX5_together 19 = .ok (.ifCond .eq 8, 3) := by decide +kernel
theorem dX5_together_22 : decode cX5_together 22 = .ok (.iload_n 1, 1) := by decide +kernel
theorem dX5_together_23 : decode cX5_together 23 = .ok (.iload_n 2, 1) := by decide +kernel
theorem dX5_together_24 : decode cX5_together 24 = .ok (.if_icmp .ne 6, 3) := by decide +kernel
theorem dX5_together_27 : decode cX5_together 27 = .ok (.bipush (-101), 2) := by decide +kernel
theorem dX5_together_29 : decode cX5_together 29 = .ok (.ireturn, 1) := by decide +kernel
theorem dX5_together_30 : decode cX5_together 30 = .ok (.aload_n 0, 1) := by decide +kernel
theorem dX5_together_31 : decode cX5_together 31 = .ok (.getfield 31, 3) := by decide +kernel
theorem dX5_together_34 : decode cX5_together 34 = .ok (.aload_n 0, 1) := by decide +kernel
theorem dX5_together_35 : decode cX5_together 35 = .ok (.getfield 21, 3) := by decide +kernel
theorem dX5_together_38 : decode cX5_together 38 = .ok (.invokevirtual 135, 3) := by decide +kernel
theorem dX5_together_41 : decode cX5_together 41 = .ok (.aload_n 0, 1) := by decide +kernel
theorem dX5_together_42 : decode cX5_together 42 = .ok (.getfield 31, 3) := by decide +kernel
theorem dX5_together_45 : decode cX5_together 45 = .ok (.aload_n 0, 1) := by decide +kernel
theorem dX5_together_46 : decode cX5_together 46 = .ok (.getfield 31, 3) := by decide +kernel
theorem dX5_together_49 : decode cX5_together 49 = .ok (.iload_n 1, 1) := by decide +kernel
theorem dX5_together_50 : decode cX5_together 50 = .ok (.iload_n 2, 1) := by decide +kernel
theorem dX5_together_51 : decode cX5_together 51 = .ok (.invokevirtual 147, 3) := by decide +kernel
theorem dX5_together_54 : decode cX5_together 54 = .ok (.invokevirtual 141, 3) := by decide +kernel
theorem dX5_together_57 : decode cX5_together 57 = .ok (.ireturn, 1) := by decide +kernel
set_option maxRecDepth 20000 in
theorem ggX5_deep_X0_has : GoodIn wsX5_deep wsX0_has := goodIn_r _ [8, 9, 144, 145] (by decide +kernel) (by decide +kernel)
set_option maxRecDepth 20000 in
theorem gX5_deep_X0_has : GoodIn wsX5_deep (wsV RX5 100 RX0 yX0_has wsX0_has) := goodIn_app (goodIn_of _ (by decide +kernel)) ggX5_deep_X0_has
set_option maxRecDepth 20000 in
theorem ggX5_deep_X2_lookFrom : GoodIn wsX5_deep wsX2_lookFrom := goodIn_r _ [14, 15, 16, 17, 18, 19, 20, 21, 22, 23, 24, 25, 26, 27, 28, 29, 7, 30, 9, 31, 32, 33, 13, 34, 35, 36, 37, 38, 39, 40, 41, 42, 43, 44, 45, 46, 47, 48, 49, 50, 51, 52, 53, 54, 55, 56, 57, 58, 59, 60, 61, 62, 63, 64, 65, 66, 67, 68, 69, 70, 71, 72, 73, 5, 6, 8, 74, 75, 76, 77, 78, 79, 80, 81, 82, 83, 84, 85, 86, 87, 88, 89, 90, 91, 92, 93, 94, 95, 96, 97, 98, 99, 100, 101, 102, 103, 104, 105, 106, 107, 108, 109, 110, 111, 112, 113, 114, 115, 116, 117, 118, 119, 120, 146, 147, 148, 149, 150, 151, 152, 153, 154, 155, 156, 157, 158, 144, 145] (by decide +kernel) (by decide +kernel)
set_option maxRecDepth 20000 in
theorem gX5_deep_X2_lookFrom : GoodIn wsX5_deep (wsV RX5 135 RX2 yX2_lookFrom wsX2_lookFrom) := goodIn_app (goodIn_of _ (by decide +kernel)) ggX5_deep_X2_lookFrom
set_option maxRecDepth 20000 in
theorem ggX5_deep_X2_mostWalls : GoodIn wsX5_deep wsX2_mostWalls := goodIn_r _ [124, 19, 20, 41, 125, 126, 127, 128, 47, 48, 49, 24, 50, 26, 129, 130, 131, 132, 81, 82, 83, 84, 146, 147, 148, 149, 150, 151, 152, 153, 154, 155, 156, 157, 158] (by decide +kernel) (by decide +kernel)
set_option maxRecDepth 20000 in
theorem gX5_deep_X2_mostWalls : GoodIn wsX5_deep (wsV RX5 150 RX2 yX2_mostWalls wsX2_mostWalls) := goodIn_app (goodIn_of _ (by decide +kernel)) ggX5_deep_X2_mostWalls
theorem dX5_deep_0 : decode cX5_deep 0 = .ok (.aload_n 0, 1) := by decide +kernel
theorem dX5_deep_1 : decode cX5_deep 1 = .ok (.getfield 12, 3) := by decide +kernel
theorem dX5_deep_4 : decode cX5_deep 4 = .ok (.iload_n 1, 1) := by decide +kernel
theorem dX5_deep_5 : decode cX5_deep 5 = .ok (.invokevirtual 100, 3) := by decide +kernel
theorem dX5_deep_8 : decode cX5_deep 8 = .ok (.ifCond .ne 6, 3) := by decide +kernel
theorem dX5_deep_11 : decode cX5_deep 11 = .ok (.bipush (-101), 2) := by decide +kernel
theorem dX5_deep_13 : decode cX5_deep 13 = .ok (.ireturn, 1) := by decide +kernel
theorem dX5_deep_14 : decode cX5_deep 14 = .ok (.aload_n 0, 1) := by decide +kernel
theorem dX5_deep_15 : decode cX5_deep 15 = .ok (.getfield 31, 3) := by decide +kernel
theorem dX5_deep_18 : decode cX5_deep 18 = .ok (.aload_n 0, 1) := by decide +kernel
theorem dX5_deep_19 : decode cX5_deep 19 = .ok (.getfield 21, 3) := by decide +kernel
theorem dX5_deep_22 : decode cX5_deep 22 = .ok (.invokevirtual 135, 3) := by decide +kernel
theorem dX5_deep_25 : decode cX5_deep 25 = .ok (.aload_n 0, 1) := by decide +kernel
theorem dX5_deep_26 : decode cX5_deep 26 = .ok (.getfield 31, 3) := by decide +kernel
theorem dX5_deep_29 : decode cX5_deep 29 = .ok (.iload_n 1, 1) := by decide +kernel
theorem dX5_deep_30 : decode cX5_deep 30 = .ok (.invokevirtual 150, 3) := by decide +kernel
theorem dX5_deep_33 : decode cX5_deep 33 = .ok (.ireturn, 1) := by decide +kernel
set_option maxRecDepth 20000 in
theorem ggX5_many_X2_lookFrom : GoodIn wsX5_many wsX2_lookFrom := goodIn_r _ [7, 8, 9, 10, 11, 12, 13, 14, 15, 16, 17, 18, 19, 20, 21, 22, 23, 24, 25, 26, 27, 28, 6, 29, 30, 31, 32, 33, 34, 35, 36, 37, 38, 39, 40, 41, 42, 43, 44, 45, 46, 47, 48, 49, 50, 51, 52, 53, 54, 55, 56, 57, 58, 59, 60, 61, 62, 63, 64, 65, 66, 67, 68, 69, 70, 71, 72, 73, 74, 75, 76, 77, 78, 79, 80, 81, 82, 83, 84, 85, 86, 87, 88, 89, 90, 91, 92, 93, 94, 95, 96, 97, 98, 99, 100, 101, 102, 103, 104, 105, 106, 107, 108, 109, 110, 111, 112, 113, 114, 115, 116, 117, 118, 134, 135, 136, 137, 138, 139, 140, 141, 142, 143, 144, 145, 146, 147, 148] (by decide +kernel) (by decide +kernel)
set_option maxRecDepth 20000 in
theorem gX5_many_X2_lookFrom : GoodIn wsX5_many (wsV RX5 135 RX2 yX2_lookFrom wsX2_lookFrom) := goodIn_app (goodIn_of _ (by decide +kernel)) ggX5_many_X2_lookFrom
set_option maxRecDepth 20000 in
theorem ggX5_many_X2_total : GoodIn wsX5_many wsX2_total := goodIn_r _ [122, 12, 134, 135, 136, 137, 138, 139, 140, 141, 142, 143, 144] (by decide +kernel) (by decide +kernel)
set_option maxRecDepth 20000 in
theorem gX5_many_X2_total : GoodIn wsX5_many (wsV RX5 153 RX2 yX2_total wsX2_total) := goodIn_app (goodIn_of _ (by decide +kernel)) ggX5_many_X2_total
theorem dX5_many_0 : decode cX5_many 0 = .ok (.aload_n 0, 1) := by decide +kernel
theorem dX5_many_1 : decode cX5_many 1 = .ok (.getfield 31, 3) := by decide +kernel
theorem dX5_many_4 : decode cX5_many 4 = .ok (.aload_n 0, 1) := by decide +kernel
theorem dX5_many_5 : decode cX5_many 5 = .ok (.getfield 21, 3) := by decide +kernel
theorem dX5_many_8 : decode cX5_many 8 = .ok (.invokevirtual 135, 3) := by decide +kernel
theorem dX5_many_11 : decode cX5_many 11 = .ok (.aload_n 0, 1) := by decide +kernel
theorem dX5_many_12 : decode cX5_many 12 = .ok (.getfield 31, 3) := by decide +kernel
theorem dX5_many_15 : decode cX5_many 15 = .ok (.invokevirtual 153, 3) := by decide +kernel
theorem dX5_many_18 : decode cX5_many 18 = .ok (.ireturn, 1) := by decide +kernel
set_option maxRecDepth 20000 in
theorem ggX5_nesting_X2_lookFrom : GoodIn wsX5_nesting wsX2_lookFrom := goodIn_r _ [7, 8, 9, 10, 11, 12, 13, 14, 15, 16, 17, 18, 19, 20, 21, 22, 23, 24, 25, 26, 27, 28, 6, 29, 30, 31, 32, 33, 34, 35, 36, 37, 38, 39, 40, 41, 42, 43, 44, 45, 46, 47, 48, 49, 50, 51, 52, 53, 54, 55, 56, 57, 58, 59, 60, 61, 62, 63, 64, 65, 66, 67, 68, 69, 70, 71, 72, 73, 74, 75, 76, 77, 78, 79, 80, 81, 82, 83, 84, 85, 86, 87, 88, 89, 90, 91, 92, 93, 94, 95, 96, 97, 98, 99, 100, 101, 102, 103, 104, 105, 106, 107, 108, 109, 110, 111, 112, 113, 114, 115, 116, 117, 118, 134, 135, 136, 137, 138, 139, 140, 141, 142, 143, 144, 145, 146, 147, 148] (by decide +kernel) (by decide +kernel)
set_option maxRecDepth 20000 in
theorem gX5_nesting_X2_lookFrom : GoodIn wsX5_nesting (wsV RX5 135 RX2 yX2_lookFrom wsX2_lookFrom) := goodIn_app (goodIn_of _ (by decide +kernel)) ggX5_nesting_X2_lookFrom
set_option maxRecDepth 20000 in
theorem ggX5_nesting_X2_numberAt : GoodIn wsX5_nesting wsX2_numberAt := goodIn_r _ [122, 11, 134, 135, 136, 137, 138, 139, 140, 141, 142, 143, 144] (by decide +kernel) (by decide +kernel)
set_option maxRecDepth 20000 in
theorem gX5_nesting_X2_numberAt : GoodIn wsX5_nesting (wsV RX5 156 RX2 yX2_numberAt wsX2_numberAt) := goodIn_app (goodIn_of _ (by decide +kernel)) ggX5_nesting_X2_numberAt
theorem dX5_nesting_0 : decode cX5_nesting 0 = .ok (.aload_n 0, 1) := by decide +kernel
theorem dX5_nesting_1 : decode cX5_nesting 1 = .ok (.getfield 31, 3) := by decide +kernel
theorem dX5_nesting_4 : decode cX5_nesting 4 = .ok (.aload_n 0, 1) := by decide +kernel
theorem dX5_nesting_5 : decode cX5_nesting 5 = .ok (.getfield 21, 3) := by decide +kernel
theorem dX5_nesting_8 : decode cX5_nesting 8 = .ok (.invokevirtual 135, 3) := by decide +kernel
theorem dX5_nesting_11 : decode cX5_nesting 11 = .ok (.aload_n 0, 1) := by decide +kernel
theorem dX5_nesting_12 : decode cX5_nesting 12 = .ok (.getfield 31, 3) := by decide +kernel
theorem dX5_nesting_15 : decode cX5_nesting 15 = .ok (.iload_n 1, 1) := by decide +kernel
theorem dX5_nesting_16 : decode cX5_nesting 16 = .ok (.invokevirtual 156, 3) := by decide +kernel
theorem dX5_nesting_19 : decode cX5_nesting 19 = .ok (.istore_n 2, 1) := by decide +kernel
theorem dX5_nesting_20 : decode cX5_nesting 20 = .ok (.iload_n 2, 1) := by decide +kernel
theorem dX5_nesting_21 : decode cX5_nesting 21 = .ok (.iconst (-1), 1) := by decide +kernel
theorem dX5_nesting_22 : decode cX5_nesting 22 = .ok (.if_icmp .ne 8, 3) := by decide +kernel
theorem dX5_nesting_25 : decode cX5_nesting 25 = .ok (.bipush (-102), 2) := by decide +kernel
theorem dX5_nesting_27 : decode cX5_nesting 27 = .ok (.goto 4, 3) := by decide +kernel
theorem dX5_nesting_30 : decode cX5_nesting 30 = .ok (.iload_n 2, 1) := by decide +kernel
theorem dX5_nesting_31 : decode cX5_nesting 31 = .ok (.ireturn, 1) := by decide +kernel
set_option maxRecDepth 20000 in
theorem ggX5_told_X0_has : GoodIn wsX5_told wsX0_has := goodIn_r _ [7, 8, 40, 41] (by decide +kernel) (by decide +kernel)
set_option maxRecDepth 20000 in
theorem gX5_told_X0_has : GoodIn wsX5_told (wsV RX5 100 RX0 yX0_has wsX0_has) := goodIn_app (goodIn_of _ (by decide +kernel)) ggX5_told_X0_has
set_option maxRecDepth 20000 in
theorem ggX5_told_X0_hasAll : GoodIn wsX5_told wsX0_hasAll := goodIn_r _ [12, 13, 14, 15, 6, 16, 8, 40, 41] (by decide +kernel) (by decide +kernel)
set_option maxRecDepth 20000 in
theorem gX5_told_X0_hasAll : GoodIn wsX5_told (wsV RX5 132 RX0 yX0_hasAll wsX0_hasAll) := goodIn_app (goodIn_of _ (by decide +kernel)) ggX5_told_X0_hasAll
set_option maxRecDepth 20000 in
theorem ggX5_told_X4_keep : GoodIn wsX5_told wsX4_keep := goodIn_r _ [21, 22, 23, 24, 42, 43, 44] (by decide +kernel) (by decide +kernel)
set_option maxRecDepth 20000 in
theorem gX5_told_X4_keep : GoodIn wsX5_told (wsV RX5 159 RX4 yX4_keep wsX4_keep) := goodIn_app (goodIn_of _ (by decide +kernel)) ggX5_told_X4_keep
set_option maxRecDepth 20000 in
theorem ggX5_told_X4_length : GoodIn wsX5_told wsX4_length := goodIn_r _ [28, 22, 42, 43, 44] (by decide +kernel) (by decide +kernel)
set_option maxRecDepth 20000 in
theorem gX5_told_X4_length : GoodIn wsX5_told (wsV RX5 162 RX4 yX4_length wsX4_length) := goodIn_app (goodIn_of _ (by decide +kernel)) ggX5_told_X4_length
theorem dX5_told_0 : decode cX5_told 0 = .ok (.aload_n 0, 1) := by decide +kernel
theorem dX5_told_1 : decode cX5_told 1 = .ok (.getfield 12, 3) := by decide +kernel
theorem dX5_told_4 : decode cX5_told 4 = .ok (.iload_n 1, 1) := by decide +kernel
theorem dX5_told_5 : decode cX5_told 5 = .ok (.invokevirtual 100, 3) := by decide +kernel
theorem dX5_told_8 : decode cX5_told 8 = .ok (.ifCond .ne 6, 3) := by decide +kernel
theorem dX5_told_11 : decode cX5_told 11 = .ok (.bipush (-101), 2) := by decide +kernel
theorem dX5_told_13 : decode cX5_told 13 = .ok (.ireturn, 1) := by decide +kernel
theorem dX5_told_14 : decode cX5_told 14 = .ok (.aload_n 0, 1) := by decide +kernel
theorem dX5_told_15 : decode cX5_told 15 = .ok (.getfield 12, 3) := by decide +kernel
theorem dX5_told_18 : decode cX5_told 18 = .ok (.iload_n 2, 1) := by decide +kernel
theorem dX5_told_19 : decode cX5_told 19 = .ok (.invokevirtual 132, 3) := by decide +kernel
theorem dX5_told_22 : decode cX5_told 22 = .ok (.ifCond .ne 6, 3) := by decide +kernel
theorem dX5_told_25 : decode cX5_told 25 = .ok (.bipush (-102), 2) := by decide +kernel
theorem dX5_told_27 : decode cX5_told 27 = .ok (.ireturn, 1) := by decide +kernel
theorem dX5_told_28 : decode cX5_told 28 = .ok (.aload_n 0, 1) := by decide +kernel
theorem dX5_told_29 : decode cX5_told 29 = .ok (.getfield 45, 3) := by decide +kernel
theorem dX5_told_32 : decode cX5_told 32 = .ok (.iload_n 1, 1) := by decide +kernel
theorem dX5_told_33 : decode cX5_told 33 = .ok (.iload_n 2, 1) := by decide +kernel
theorem dX5_told_34 : decode cX5_told 34 = .ok (.invokevirtual 159, 3) := by decide +kernel
theorem dX5_told_37 : decode cX5_told 37 = .ok (.ifCond .eq 13, 3) := by decide +kernel
theorem dX5_told_40 : decode cX5_told 40 = .ok (.aload_n 0, 1) := by decide +kernel
theorem dX5_told_41 : decode cX5_told 41 = .ok (.getfield 45, 3) := by decide +kernel
theorem dX5_told_44 : decode cX5_told 44 = .ok (.invokevirtual 162, 3) := by decide +kernel
theorem dX5_told_47 : decode cX5_told 47 = .ok (.goto 5, 3) := by decide +kernel
theorem dX5_told_50 : decode cX5_told 50 = .ok (.bipush (-104), 2) := by decide +kernel
theorem dX5_told_52 : decode cX5_told 52 = .ok (.ireturn, 1) := by decide +kernel
set_option maxRecDepth 20000 in
theorem ggX5_forget_X4_clear : GoodIn wsX5_forget wsX4_clear := goodIn_r _ [6, 7, 19, 20, 21] (by decide +kernel) (by decide +kernel)
set_option maxRecDepth 20000 in
theorem gX5_forget_X4_clear : GoodIn wsX5_forget (wsV RX5 163 RX4 yX4_clear wsX4_clear) := goodIn_app (goodIn_of _ (by decide +kernel)) ggX5_forget_X4_clear
theorem dX5_forget_0 : decode cX5_forget 0 = .ok (.aload_n 0, 1) := by decide +kernel
theorem dX5_forget_1 : decode cX5_forget 1 = .ok (.getfield 45, 3) := by decide +kernel
theorem dX5_forget_4 : decode cX5_forget 4 = .ok (.invokevirtual 163, 3) := by decide +kernel
theorem dX5_forget_7 : decode cX5_forget 7 = .ok (.ireturn, 1) := by decide +kernel
set_option maxRecDepth 20000 in
theorem ggX5_fits_X2_lookFrom : GoodIn wsX5_fits wsX2_lookFrom := goodIn_r _ [8, 9, 10, 11, 12, 13, 14, 15, 16, 17, 18, 19, 20, 21, 22, 23, 24, 25, 26, 27, 28, 29, 7, 30, 31, 32, 33, 34, 35, 36, 37, 38, 39, 40, 41, 42, 43, 44, 45, 46, 47, 48, 49, 50, 51, 52, 53, 54, 55, 56, 57, 58, 59, 60, 61, 62, 63, 64, 65, 66, 67, 68, 69, 70, 71, 72, 73, 74, 75, 76, 77, 78, 79, 80, 81, 82, 83, 84, 85, 86, 87, 88, 89, 90, 91, 92, 93, 94, 95, 96, 97, 98, 99, 100, 101, 102, 103, 104, 105, 106, 107, 108, 109, 110, 111, 112, 113, 114, 115, 116, 117, 118, 119, 151, 152, 153, 154, 155, 156, 157, 158, 159, 160, 161, 162, 163, 164, 165] (by decide +kernel) (by decide +kernel)
set_option maxRecDepth 20000 in
theorem gX5_fits_X2_lookFrom : GoodIn wsX5_fits (wsV RX5 135 RX2 yX2_lookFrom wsX2_lookFrom) := goodIn_app (goodIn_of _ (by decide +kernel)) ggX5_fits_X2_lookFrom
set_option maxRecDepth 20000 in
theorem ggX5_fits_X2_fitting : GoodIn wsX5_fits wsX2_fitting := goodIn_r _ [123, 13, 14, 37, 43, 44, 45, 18, 46, 20, 124, 125, 126, 127, 128, 129, 130, 131, 132, 133, 134, 135, 59, 99, 22, 23, 24, 25, 26, 136, 137, 138, 139, 80, 81, 82, 83, 151, 152, 153, 154, 155, 156, 157, 158, 159, 160, 161, 162, 163, 166, 167, 168, 164, 165] (by decide +kernel) (by decide +kernel)
set_option maxRecDepth 20000 in
theorem gX5_fits_X2_fitting : GoodIn wsX5_fits (wsV RX5 164 RX2 yX2_fitting wsX2_fitting) := goodIn_app (goodIn_of _ (by decide +kernel)) ggX5_fits_X2_fitting
theorem dX5_fits_0 : decode cX5_fits 0 = .ok (.aload_n 0, 1) := by decide +kernel
theorem dX5_fits_1 : decode cX5_fits 1 = .ok (.getfield 31, 3) := by decide +kernel
theorem dX5_fits_4 : decode cX5_fits 4 = .ok (.aload_n 0, 1) := by decide +kernel
theorem dX5_fits_5 : decode cX5_fits 5 = .ok (.getfield 21, 3) := by decide +kernel
theorem dX5_fits_8 : decode cX5_fits 8 = .ok (.invokevirtual 135, 3) := by decide +kernel
theorem dX5_fits_11 : decode cX5_fits 11 = .ok (.aload_n 0, 1) := by decide +kernel
theorem dX5_fits_12 : decode cX5_fits 12 = .ok (.getfield 31, 3) := by decide +kernel
theorem dX5_fits_15 : decode cX5_fits 15 = .ok (.aload_n 0, 1) := by decide +kernel
theorem dX5_fits_16 : decode cX5_fits 16 = .ok (.getfield 45, 3) := by decide +kernel
theorem dX5_fits_19 : decode cX5_fits 19 = .ok (.invokevirtual 164, 3) := by decide +kernel
theorem dX5_fits_22 : decode cX5_fits 22 = .ok (.ireturn, 1) := by decide +kernel
set_option maxRecDepth 20000 in
theorem ggX5_sure_X0_has : GoodIn wsX5_sure wsX0_has := goodIn_r _ [9, 10, 154, 155] (by decide +kernel) (by decide +kernel)
set_option maxRecDepth 20000 in
theorem gX5_sure_X0_has : GoodIn wsX5_sure (wsV RX5 100 RX0 yX0_has wsX0_has) := goodIn_app (goodIn_of _ (by decide +kernel)) ggX5_sure_X0_has
set_option maxRecDepth 20000 in
theorem ggX5_sure_X2_lookFrom : GoodIn wsX5_sure wsX2_lookFrom := goodIn_r _ [15, 16, 17, 18, 19, 20, 21, 22, 23, 24, 25, 26, 27, 28, 29, 30, 8, 31, 10, 32, 33, 34, 14, 35, 36, 37, 38, 39, 40, 41, 42, 43, 44, 45, 46, 47, 48, 49, 50, 51, 52, 53, 54, 55, 56, 57, 58, 59, 60, 61, 62, 63, 64, 65, 66, 67, 68, 69, 70, 71, 72, 73, 74, 6, 7, 9, 75, 76, 77, 78, 79, 80, 81, 82, 83, 84, 85, 86, 87, 88, 89, 90, 91, 92, 93, 94, 95, 96, 97, 98, 99, 100, 101, 102, 103, 104, 105, 106, 107, 108, 109, 110, 111, 112, 113, 114, 115, 116, 117, 118, 119, 120, 121, 156, 157, 158, 159, 160, 161, 162, 163, 164, 165, 166, 167, 168, 154, 155] (by decide +kernel) (by decide +kernel)
set_option maxRecDepth 20000 in
theorem gX5_sure_X2_lookFrom : GoodIn wsX5_sure (wsV RX5 135 RX2 yX2_lookFrom wsX2_lookFrom) := goodIn_app (goodIn_of _ (by decide +kernel)) ggX5_sure_X2_lookFrom
set_option maxRecDepth 20000 in
theorem ggX5_sure_X2_sureHolder : GoodIn wsX5_sure wsX2_sureHolder := goodIn_r _ [125, 20, 21, 42, 48, 49, 50, 25, 51, 27, 126, 127, 128, 129, 130, 131, 132, 133, 134, 135, 136, 137, 64, 101, 29, 30, 8, 31, 10, 138, 139, 140, 141, 82, 83, 84, 85, 142, 156, 157, 158, 159, 160, 161, 162, 163, 164, 165, 166, 167, 168, 169, 170, 171, 154, 155] (by decide +kernel) (by decide +kernel)
set_option maxRecDepth 20000 in
theorem gX5_sure_X2_sureHolder : GoodIn wsX5_sure (wsV RX5 168 RX2 yX2_sureHolder wsX2_sureHolder) := goodIn_app (goodIn_of _ (by decide +kernel)) ggX5_sure_X2_sureHolder
theorem dX5_sure_0 : decode cX5_sure 0 = .ok (.aload_n 0, 1) := by decide +kernel
theorem dX5_sure_1 : decode cX5_sure 1 = .ok (.getfield 12, 3) := by decide +kernel
theorem dX5_sure_4 : decode cX5_sure 4 = .ok (.iload_n 1, 1) := by decide +kernel
theorem dX5_sure_5 : decode cX5_sure 5 = .ok (.invokevirtual 100, 3) := by decide +kernel
theorem dX5_sure_8 : decode cX5_sure 8 = .ok (.ifCond .ne 6, 3) := by decide +kernel
theorem dX5_sure_11 : decode cX5_sure 11 = .ok (.bipush (-101), 2) := by decide +kernel
theorem dX5_sure_13 : decode cX5_sure 13 = .ok (.ireturn, 1) := by decide +kernel
theorem dX5_sure_14 : decode cX5_sure 14 = .ok (.aload_n 0, 1) := by decide +kernel
theorem dX5_sure_15 : decode cX5_sure 15 = .ok (.getfield 31, 3) := by decide +kernel
theorem dX5_sure_18 : decode cX5_sure 18 = .ok (.aload_n 0, 1) := by decide +kernel
theorem dX5_sure_19 : decode cX5_sure 19 = .ok (.getfield 21, 3) := by decide +kernel
theorem dX5_sure_22 : decode cX5_sure 22 = .ok (.invokevirtual 135, 3) := by decide +kernel
theorem dX5_sure_25 : decode cX5_sure 25 = .ok (.aload_n 0, 1) := by decide +kernel
theorem dX5_sure_26 : decode cX5_sure 26 = .ok (.getfield 31, 3) := by decide +kernel
theorem dX5_sure_29 : decode cX5_sure 29 = .ok (.iload_n 1, 1) := by decide +kernel
theorem dX5_sure_30 : decode cX5_sure 30 = .ok (.aload_n 0, 1) := by decide +kernel
theorem dX5_sure_31 : decode cX5_sure 31 = .ok (.getfield 45, 3) := by decide +kernel
theorem dX5_sure_34 : decode cX5_sure 34 = .ok (.invokevirtual 168, 3) := by decide +kernel
theorem dX5_sure_37 : decode cX5_sure 37 = .ok (.ireturn, 1) := by decide +kernel
set_option maxRecDepth 20000 in
theorem ggX5_ask_X2_lookFrom : GoodIn wsX5_ask wsX2_lookFrom := goodIn_r _ [8, 9, 10, 11, 12, 13, 14, 15, 16, 17, 18, 19, 20, 21, 22, 23, 24, 25, 26, 27, 28, 29, 7, 30, 31, 32, 33, 34, 35, 36, 37, 38, 39, 40, 41, 42, 43, 44, 45, 46, 47, 48, 49, 50, 51, 52, 53, 54, 55, 56, 57, 58, 59, 60, 61, 62, 63, 64, 65, 66, 67, 68, 69, 70, 71, 72, 73, 74, 75, 76, 77, 78, 79, 80, 81, 82, 83, 84, 85, 86, 87, 88, 89, 90, 91, 92, 93, 94, 95, 96, 97, 98, 99, 100, 101, 102, 103, 104, 105, 106, 107, 108, 109, 110, 111, 112, 113, 114, 115, 116, 117, 118, 119, 165, 166, 167, 168, 169, 170, 171, 172, 173, 174, 175, 176, 177, 178, 179] (by decide +kernel) (by decide +kernel)
set_option maxRecDepth 20000 in
theorem gX5_ask_X2_lookFrom : GoodIn wsX5_ask (wsV RX5 135 RX2 yX2_lookFrom wsX2_lookFrom) := goodIn_app (goodIn_of _ (by decide +kernel)) ggX5_ask_X2_lookFrom
set_option maxRecDepth 20000 in
theorem ggX5_ask_X2_bestAsked : GoodIn wsX5_ask wsX2_bestAsked := goodIn_r _ [123, 10, 21, 22, 23, 24, 25, 26, 124, 125, 126, 7, 127, 128, 13, 14, 37, 129, 130, 131, 132, 133, 134, 135, 136, 43, 44, 45, 18, 46, 20, 137, 138, 139, 140, 59, 99, 141, 142, 143, 144, 80, 81, 82, 83, 145, 146, 147, 148, 149, 150, 151, 152, 153, 165, 166, 167, 168, 169, 170, 171, 172, 173, 174, 175, 178, 179, 176, 177, 180, 181, 182] (by decide +kernel) (by decide +kernel)
set_option maxRecDepth 20000 in
theorem gX5_ask_X2_bestAsked : GoodIn wsX5_ask (wsV RX5 172 RX2 yX2_bestAsked wsX2_bestAsked) := goodIn_app (goodIn_of _ (by decide +kernel)) ggX5_ask_X2_bestAsked
theorem dX5_ask_0 : decode cX5_ask 0 = .ok (.aload_n 0, 1) := by decide +kernel
theorem dX5_ask_1 : decode cX5_ask 1 = .ok (.getfield 31, 3) := by decide +kernel
theorem dX5_ask_4 : decode cX5_ask 4 = .ok (.aload_n 0, 1) := by decide +kernel
theorem dX5_ask_5 : decode cX5_ask 5 = .ok (.getfield 21, 3) := by decide +kernel
theorem dX5_ask_8 : decode cX5_ask 8 = .ok (.invokevirtual 135, 3) := by decide +kernel
theorem dX5_ask_11 : decode cX5_ask 11 = .ok (.aload_n 0, 1) := by decide +kernel
theorem dX5_ask_12 : decode cX5_ask 12 = .ok (.getfield 31, 3) := by decide +kernel
theorem dX5_ask_15 : decode cX5_ask 15 = .ok (.aload_n 0, 1) := by decide +kernel
theorem dX5_ask_16 : decode cX5_ask 16 = .ok (.getfield 45, 3) := by decide +kernel
theorem dX5_ask_19 : decode cX5_ask 19 = .ok (.invokevirtual 172, 3) := by decide +kernel
theorem dX5_ask_22 : decode cX5_ask 22 = .ok (.ireturn, 1) := by decide +kernel
set_option maxRecDepth 20000 in
theorem ggX5_days_X5_isBetween : GoodIn wsX5_days wsX5_isBetween := goodIn_r _ [7] (by decide +kernel) (by decide +kernel)
set_option maxRecDepth 20000 in
theorem gX5_days_X5_isBetween : GoodIn wsX5_days (va_wsS RX5 92 yX5_isBetween wsX5_isBetween) := goodIn_app (goodIn_of _ (by decide +kernel)) ggX5_days_X5_isBetween
set_option maxRecDepth 20000 in
theorem ggX5_days_X1_copy : GoodIn wsX5_days wsX1_copy := goodIn_r _ [12, 13, 14, 15, 16, 11, 17, 108, 109] (by decide +kernel) (by decide +kernel)
set_option maxRecDepth 20000 in
theorem gX5_days_X1_copy : GoodIn wsX5_days (wsV RX5 74 RX1 yX1_copy wsX1_copy) := goodIn_app (goodIn_of _ (by decide +kernel)) ggX5_days_X1_copy
set_option maxRecDepth 20000 in
theorem ggX5_days_X1_choices : GoodIn wsX5_days wsX1_choices := goodIn_r _ [21, 22, 23, 24, 11, 25, 26, 27, 28, 29, 30, 31, 32, 6, 33, 34, 35, 36, 37, 38, 39, 40, 41, 42, 43, 44, 45, 46, 47, 14, 15, 16, 17, 13, 48, 49, 50, 51, 52, 53, 54, 55, 56, 57, 58, 59, 60, 61, 62, 63, 64, 65, 66, 67, 68, 69, 70, 71, 72, 73, 74, 108, 109, 110, 111] (by decide +kernel) (by decide +kernel)
set_option maxRecDepth 20000 in
theorem gX5_days_X1_choices : GoodIn wsX5_days (wsV RX5 175 RX1 yX1_choices wsX1_choices) := goodIn_app (goodIn_of _ (by decide +kernel)) ggX5_days_X1_choices
set_option maxRecDepth 20000 in
theorem ggX5_days_X5_nextSeed : GoodIn wsX5_days wsX5_nextSeed := goodIn_r _ [77, 78, 79, 80] (by decide +kernel) (by decide +kernel)
set_option maxRecDepth 20000 in
theorem gX5_days_X5_nextSeed : GoodIn wsX5_days (va_wsS RX5 178 yX5_nextSeed wsX5_nextSeed) := goodIn_app (goodIn_of _ (by decide +kernel)) ggX5_days_X5_nextSeed
set_option maxRecDepth 20000 in
theorem ggX5_days_X1_choiceAt : GoodIn wsX5_days wsX1_choiceAt := goodIn_r _ [84, 22, 23, 24, 11, 25, 26, 27, 28, 29, 30, 31, 32, 6, 33, 34, 35, 36, 37, 38, 39, 40, 41, 42, 43, 44, 45, 46, 47, 14, 15, 16, 17, 13, 48, 49, 50, 51, 52, 53, 54, 55, 56, 57, 58, 59, 60, 61, 62, 63, 64, 65, 66, 67, 68, 69, 70, 71, 72, 73, 74, 108, 109, 110, 111] (by decide +kernel) (by decide +kernel)
set_option maxRecDepth 20000 in
theorem gX5_days_X1_choiceAt : GoodIn wsX5_days (wsV RX5 182 RX1 yX1_choiceAt wsX1_choiceAt) := goodIn_app (goodIn_of _ (by decide +kernel)) ggX5_days_X1_choiceAt
set_option maxRecDepth 20000 in
theorem ggX5_days_X1_carryOut : GoodIn wsX5_days wsX1_carryOut := goodIn_r _ [88, 13, 34, 6, 35, 41, 42, 43, 89, 90, 91, 11, 92, 67, 68, 69, 70, 26, 48, 49, 50, 30, 51, 52, 53, 54, 55, 56, 57, 63, 64, 65, 66, 40, 14, 15, 16, 17, 108, 109, 110, 111] (by decide +kernel) (by decide +kernel)
set_option maxRecDepth 20000 in
theorem gX5_days_X1_carryOut : GoodIn wsX5_days (wsV RX5 88 RX1 yX1_carryOut wsX1_carryOut) := goodIn_app (goodIn_of _ (by decide +kernel)) ggX5_days_X1_carryOut
set_option maxRecDepth 20000 in
theorem ggX5_days_X1_toNumber : GoodIn wsX5_days wsX1_toNumber := goodIn_r _ [96, 13, 108, 109] (by decide +kernel) (by decide +kernel)
set_option maxRecDepth 20000 in
theorem gX5_days_X1_toNumber : GoodIn wsX5_days (wsV RX5 129 RX1 yX1_toNumber wsX1_toNumber) := goodIn_app (goodIn_of _ (by decide +kernel)) ggX5_days_X1_toNumber
theorem dX5_days_0 : decode cX5_days 0 = .ok (.iload_n 1, 1) := by decide +kernel
theorem dX5_days_1 : decode cX5_days 1 = .ok (.iconst 1, 1) := by decide +kernel
theorem dX5_days_2 : decode cX5_days 2 = .ok (.bipush 60, 2) := by decide +kernel
theorem dX5_days_4 : decode cX5_days 4 = .ok (.invokestatic 92, 3) := by decide +kernel
theorem dX5_days_7 : decode cX5_days 7 = .ok (.ifCond .eq 16, 3) := by decide +kernel
theorem dX5_days_10 : decode cX5_days 10 = .ok (.iload_n 2, 1) := by decide +kernel
theorem dX5_days_11 : decode cX5_days 11 = .ok (.ifCond .lt 12, 3) := by decide +kernel
theorem dX5_days_14 : decode cX5_days 14 = .ok (.iload_n 3, 1) := by decide +kernel
theorem dX5_days_15 : decode cX5_days 15 = .ok (.iconst 0, 1) := by decide +kernel
theorem dX5_days_16 : decode cX5_days 16 = .ok (.iconst 2, 1) := by decide +kernel
theorem dX5_days_17 : decode cX5_days 17 = .ok (.invokestatic 92, 3) := by decide +kernel
theorem dX5_days_20 : decode cX5_days 20 = .ok (.ifCond .ne 6, 3) := by decide +kernel
theorem dX5_days_23 : decode cX5_days 23 = .ok (.bipush (-102), 2) := by decide +kernel
theorem dX5_days_25 : decode cX5_days 25 = .ok (.ireturn, 1) := by decide +kernel
theorem dX5_days_26 : decode cX5_days 26 = .ok (.aload_n 0, 1) := by decide +kernel
theorem dX5_days_27 : decode cX5_days 27 = .ok (.getfield 25, 3) := by decide +kernel
theorem dX5_days_30 : decode cX5_days 30 = .ok (.aload_n 0, 1) := by decide +kernel
theorem dX5_days_31 : decode cX5_days 31 = .ok (.getfield 21, 3) := by decide +kernel
theorem dX5_days_34 : decode cX5_days 34 = .ok (.invokevirtual 74, 3) := by decide +kernel
theorem dX5_days_37 : decode cX5_days 37 = .ok (.iload_n 2, 1) := by decide +kernel
theorem dX5_days_38 : decode cX5_days 38 = .ok (.istore 4, 2) := by decide +kernel
theorem dX5_days_40 : decode cX5_days 40 = .ok (.iconst 0, 1) := by decide +kernel
theorem dX5_days_41 : decode cX5_days 41 = .ok (.istore 5, 2) := by decide +kernel
theorem dX5_days_43 : decode cX5_days 43 = .ok (.aload_n 0, 1) := by decide +kernel
theorem dX5_days_44 : decode cX5_days 44 = .ok (.getfield 25, 3) := by decide +kernel
theorem dX5_days_47 : decode cX5_days 47 = .ok (.invokevirtual 175, 3) := by decide +kernel
theorem dX5_days_50 : decode cX5_days 50 = .ok (.istore 6, 2) := by decide +kernel
theorem dX5_days_52 : decode cX5_days 52 = .ok (.iload 5, 2) := by decide +kernel
theorem dX5_days_54 : decode cX5_days 54 = .ok (.iload_n 1, 1) := by decide +kernel
theorem dX5_days_55 : decode cX5_days 55 = .ok (.if_icmp .ge 52, 3) := by decide +kernel
theorem dX5_days_58 : decode cX5_days 58 = .ok (.iload 6, 2) := by decide +kernel
theorem dX5_days_60 : decode cX5_days 60 = .ok (.ifCond .le 47, 3) := by decide +kernel
theorem dX5_days_63 : decode cX5_days 63 = .ok (.iload 4, 2) := by decide +kernel
theorem dX5_days_65 : decode cX5_days 65 = .ok (.invokestatic 178, 3) := by decide +kernel
theorem dX5_days_68 : decode cX5_days 68 = .ok (.istore 4, 2) := by decide +kernel
theorem dX5_days_70 : decode cX5_days 70 = .ok (.aload_n 0, 1) := by decide +kernel
theorem dX5_days_71 : decode cX5_days 71 = .ok (.getfield 25, 3) := by decide +kernel
theorem dX5_days_74 : decode cX5_days 74 = .ok (.aload_n 0, 1) := by decide +kernel
theorem dX5_days_75 : decode cX5_days 75 = .ok (.getfield 25, 3) := by decide +kernel
theorem dX5_days_78 : decode cX5_days 78 = .ok (.iload 4, 2) := by decide +kernel
theorem dX5_days_80 : decode cX5_days 80 = .ok (.ldc 181, 2) := by decide +kernel
theorem dX5_days_82 : decode cX5_days 82 = .ok (.idiv, 1) := by decide +kernel
theorem dX5_days_83 : decode cX5_days 83 = .ok (.iload 6, 2) := by decide +kernel
theorem dX5_days_85 : decode cX5_days 85 = .ok (.irem, 1) := by decide +kernel
theorem dX5_days_86 : decode cX5_days 86 = .ok (.invokevirtual 182, 3) := by decide +kernel
theorem dX5_days_89 : decode cX5_days 89 = .ok (.invokevirtual 88, 3) := by decide +kernel
theorem dX5_days_92 : decode cX5_days 92 = .ok (.iinc 5 1, 3) := by decide +kernel
theorem dX5_days_95 : decode cX5_days 95 = .ok (.aload_n 0, 1) := by decide +kernel
theorem dX5_days_96 : decode cX5_days 96 = .ok (.getfield 25, 3) := by decide +kernel
theorem dX5_days_99 : decode cX5_days 99 = .ok (.invokevirtual 175, 3) := by decide +kernel
theorem dX5_days_102 : decode cX5_days 102 = .ok (.istore 6, 2) := by decide +kernel
theorem dX5_days_104 : decode cX5_days 104 = .ok (.goto (-52), 3) := by decide +kernel
theorem dX5_days_107 : decode cX5_days 107 = .ok (.iload_n 3, 1) := by decide +kernel
theorem dX5_days_108 : decode cX5_days 108 = .ok (.ifCond .ne 13, 3) := by decide +kernel
theorem dX5_days_111 : decode cX5_days 111 = .ok (.aload_n 0, 1) := by decide +kernel
theorem dX5_days_112 : decode cX5_days 112 = .ok (.getfield 25, 3) := by decide +kernel
theorem dX5_days_115 : decode cX5_days 115 = .ok (.invokevirtual 129, 3) := by decide +kernel
theorem dX5_days_118 : decode cX5_days 118 = .ok (.goto 15, 3) := by decide +kernel
theorem dX5_days_121 : decode cX5_days 121 = .ok (.iload_n 3, 1) := by decide +kernel
theorem dX5_days_122 : decode cX5_days 122 = .ok (.iconst 1, 1) := by decide +kernel
theorem dX5_days_123 : decode cX5_days 123 = .ok (.if_icmp .ne 8, 3) := by decide +kernel
theorem dX5_days_126 : decode cX5_days 126 = .ok (.iload 5, 2) := by decide +kernel
theorem dX5_days_128 : decode cX5_days 128 = .ok (.goto 5, 3) := by decide +kernel
theorem dX5_days_131 : decode cX5_days 131 = .ok (.iload 4, 2) := by decide +kernel
theorem dX5_days_133 : decode cX5_days 133 = .ok (.ireturn, 1) := by decide +kernel
set_option maxRecDepth 20000 in
theorem ggX5_image_X1_toNumber : GoodIn wsX5_image wsX1_toNumber := goodIn_r _ [13, 14, 40, 41] (by decide +kernel) (by decide +kernel)
set_option maxRecDepth 20000 in
theorem gX5_image_X1_toNumber : GoodIn wsX5_image (wsV RX5 129 RX1 yX1_toNumber wsX1_toNumber) := goodIn_app (goodIn_of _ (by decide +kernel)) ggX5_image_X1_toNumber
set_option maxRecDepth 20000 in
theorem ggX5_image_X4_copy : GoodIn wsX5_image wsX4_copy := goodIn_r _ [19, 20, 21, 22, 42, 43, 44] (by decide +kernel) (by decide +kernel)
set_option maxRecDepth 20000 in
theorem gX5_image_X4_copy : GoodIn wsX5_image (wsV RX5 188 RX4 yX4_copy wsX4_copy) := goodIn_app (goodIn_of _ (by decide +kernel)) ggX5_image_X4_copy
set_option maxRecDepth 20000 in
theorem ggX5_image_X0_total : GoodIn wsX5_image wsX0_total := goodIn_r _ [27, 28, 45, 46] (by decide +kernel) (by decide +kernel)
set_option maxRecDepth 20000 in
theorem gX5_image_X0_total : GoodIn wsX5_image (wsV RX5 194 RX0 yX0_total wsX0_total) := goodIn_app (goodIn_of _ (by decide +kernel)) ggX5_image_X0_total
theorem dX5_image_0 : decode cX5_image 0 = .ok (.aload_n 0, 1) := by decide +kernel
theorem dX5_image_1 : decode cX5_image 1 = .ok (.aload_n 0, 1) := by decide +kernel
theorem dX5_image_2 : decode cX5_image 2 = .ok (.getfield 21, 3) := by decide +kernel
theorem dX5_image_5 : decode cX5_image 5 = .ok (.invokevirtual 129, 3) := by decide +kernel
theorem dX5_image_8 : decode cX5_image 8 = .ok (.putfield 185, 3) := by decide +kernel
theorem dX5_image_11 : decode cX5_image 11 = .ok (.aload_n 0, 1) := by decide +kernel
theorem dX5_image_12 : decode cX5_image 12 = .ok (.getfield 49, 3) := by decide +kernel
theorem dX5_image_15 : decode cX5_image 15 = .ok (.aload_n 0, 1) := by decide +kernel
theorem dX5_image_16 : decode cX5_image 16 = .ok (.getfield 45, 3) := by decide +kernel
theorem dX5_image_19 : decode cX5_image 19 = .ok (.invokevirtual 188, 3) := by decide +kernel
theorem dX5_image_22 : decode cX5_image 22 = .ok (.aload_n 0, 1) := by decide +kernel
theorem dX5_image_23 : decode cX5_image 23 = .ok (.aload_n 0, 1) := by decide +kernel
theorem dX5_image_24 : decode cX5_image 24 = .ok (.getfield 126, 3) := by decide +kernel
theorem dX5_image_27 : decode cX5_image 27 = .ok (.putfield 191, 3) := by decide +kernel
theorem dX5_image_30 : decode cX5_image 30 = .ok (.aload_n 0, 1) := by decide +kernel
theorem dX5_image_31 : decode cX5_image 31 = .ok (.aload_n 0, 1) := by decide +kernel
theorem dX5_image_32 : decode cX5_image 32 = .ok (.getfield 12, 3) := by decide +kernel
theorem dX5_image_35 : decode cX5_image 35 = .ok (.invokevirtual 194, 3) := by decide +kernel
theorem dX5_image_38 : decode cX5_image 38 = .ok (.putfield 52, 3) := by decide +kernel
theorem dX5_image_41 : decode cX5_image 41 = .ok (.aload_n 0, 1) := by decide +kernel
theorem dX5_image_42 : decode cX5_image 42 = .ok (.getfield 185, 3) := by decide +kernel
theorem dX5_image_45 : decode cX5_image 45 = .ok (.ireturn, 1) := by decide +kernel
set_option maxRecDepth 20000 in
theorem ggX5_restore_X0_total : GoodIn wsX5_restore wsX0_total := goodIn_r _ [13, 14, 40, 41] (by decide +kernel) (by decide +kernel)
set_option maxRecDepth 20000 in
theorem gX5_restore_X0_total : GoodIn wsX5_restore (wsV RX5 194 RX0 yX0_total wsX0_total) := goodIn_app (goodIn_of _ (by decide +kernel)) ggX5_restore_X0_total
set_option maxRecDepth 20000 in
theorem ggX5_restore_X1_become : GoodIn wsX5_restore wsX1_become := goodIn_r _ [19, 20, 42, 43] (by decide +kernel) (by decide +kernel)
set_option maxRecDepth 20000 in
theorem gX5_restore_X1_become : GoodIn wsX5_restore (wsV RX5 195 RX1 yX1_become wsX1_become) := goodIn_app (goodIn_of _ (by decide +kernel)) ggX5_restore_X1_become
set_option maxRecDepth 20000 in
theorem ggX5_restore_X4_copy : GoodIn wsX5_restore wsX4_copy := goodIn_r _ [25, 26, 27, 28, 44, 45, 46] (by decide +kernel) (by decide +kernel)
set_option maxRecDepth 20000 in
theorem gX5_restore_X4_copy : GoodIn wsX5_restore (wsV RX5 188 RX4 yX4_copy wsX4_copy) := goodIn_app (goodIn_of _ (by decide +kernel)) ggX5_restore_X4_copy
theorem dX5_restore_0 : decode cX5_restore 0 = .ok (.aload_n 0, 1) := by decide +kernel
theorem dX5_restore_1 : decode cX5_restore 1 = .ok (.getfield 52, 3) := by decide +kernel
theorem dX5_restore_4 : decode cX5_restore 4 = .ok (.aload_n 0, 1) := by decide +kernel
theorem dX5_restore_5 : decode cX5_restore 5 = .ok (.getfield 12, 3) := by decide +kernel
theorem dX5_restore_8 : decode cX5_restore 8 = .ok (.invokevirtual 194, 3) := by decide +kernel
theorem dX5_restore_11 : decode cX5_restore 11 = .ok (.if_icmp .eq 6, 3) := by decide +kernel
theorem dX5_restore_14 : decode cX5_restore 14 = .ok (.bipush (-103), 2) := by decide +kernel
theorem dX5_restore_16 : decode cX5_restore 16 = .ok (.ireturn, 1) := by decide +kernel
theorem dX5_restore_17 : decode cX5_restore 17 = .ok (.aload_n 0, 1) := by decide +kernel
theorem dX5_restore_18 : decode cX5_restore 18 = .ok (.getfield 21, 3) := by decide +kernel
theorem dX5_restore_21 : decode cX5_restore 21 = .ok (.aload_n 0, 1) := by decide +kernel
theorem dX5_restore_22 : decode cX5_restore 22 = .ok (.getfield 185, 3) := by decide +kernel
theorem dX5_restore_25 : decode cX5_restore 25 = .ok (.invokevirtual 195, 3) := by decide +kernel
theorem dX5_restore_28 : decode cX5_restore 28 = .ok (.aload_n 0, 1) := by decide +kernel
theorem dX5_restore_29 : decode cX5_restore 29 = .ok (.getfield 45, 3) := by decide +kernel
theorem dX5_restore_32 : decode cX5_restore 32 = .ok (.aload_n 0, 1) := by decide +kernel
theorem dX5_restore_33 : decode cX5_restore 33 = .ok (.getfield 49, 3) := by decide +kernel
theorem dX5_restore_36 : decode cX5_restore 36 = .ok (.invokevirtual 188, 3) := by decide +kernel
theorem dX5_restore_39 : decode cX5_restore 39 = .ok (.aload_n 0, 1) := by decide +kernel
theorem dX5_restore_40 : decode cX5_restore 40 = .ok (.aload_n 0, 1) := by decide +kernel
theorem dX5_restore_41 : decode cX5_restore 41 = .ok (.getfield 191, 3) := by decide +kernel
theorem dX5_restore_44 : decode cX5_restore 44 = .ok (.putfield 126, 3) := by decide +kernel
theorem dX5_restore_47 : decode cX5_restore 47 = .ok (.aload_n 0, 1) := by decide +kernel
theorem dX5_restore_48 : decode cX5_restore 48 = .ok (.getfield 185, 3) := by decide +kernel
theorem dX5_restore_51 : decode cX5_restore 51 = .ok (.ireturn, 1) := by decide +kernel
set_option maxRecDepth 20000 in
theorem ggX5_count_X0_total : GoodIn wsX5_count wsX0_total := goodIn_r _ [10, 11, 98, 99] (by decide +kernel) (by decide +kernel)
set_option maxRecDepth 20000 in
theorem gX5_count_X0_total : GoodIn wsX5_count (wsV RX5 194 RX0 yX0_total wsX0_total) := goodIn_app (goodIn_of _ (by decide +kernel)) ggX5_count_X0_total
set_option maxRecDepth 20000 in
theorem ggX5_count_X1_outside : GoodIn wsX5_count wsX1_outside := goodIn_r _ [16, 17, 18, 7, 8, 9, 10, 11, 19, 20, 21, 15, 22, 23, 100, 101, 98, 99] (by decide +kernel) (by decide +kernel)
set_option maxRecDepth 20000 in
theorem gX5_count_X1_outside : GoodIn wsX5_count (wsV RX5 198 RX1 yX1_outside wsX1_outside) := goodIn_app (goodIn_of _ (by decide +kernel)) ggX5_count_X1_outside
set_option maxRecDepth 20000 in
theorem ggX5_count_X4_length : GoodIn wsX5_count wsX4_length := goodIn_r _ [28, 29, 102, 103, 104] (by decide +kernel) (by decide +kernel)
set_option maxRecDepth 20000 in
theorem gX5_count_X4_length : GoodIn wsX5_count (wsV RX5 162 RX4 yX4_length wsX4_length) := goodIn_app (goodIn_of _ (by decide +kernel)) ggX5_count_X4_length
set_option maxRecDepth 20000 in
theorem ggX5_count_X3_length : GoodIn wsX5_count wsX3_length := goodIn_r _ [34, 35, 105, 106, 107, 108, 109, 110, 111] (by decide +kernel) (by decide +kernel)
set_option maxRecDepth 20000 in
theorem gX5_count_X3_length : GoodIn wsX5_count (wsV RX5 60 RX3 yX3_length wsX3_length) := goodIn_app (goodIn_of _ (by decide +kernel)) ggX5_count_X3_length
set_option maxRecDepth 20000 in
theorem ggX5_count_X1_choices : GoodIn wsX5_count wsX1_choices := goodIn_r _ [39, 40, 41, 42, 15, 43, 17, 44, 45, 46, 9, 47, 48, 49, 50, 51, 52, 53, 54, 55, 56, 11, 57, 58, 59, 60, 61, 62, 63, 19, 20, 21, 22, 23, 64, 65, 66, 67, 68, 69, 70, 71, 72, 73, 74, 75, 76, 77, 78, 18, 7, 8, 10, 79, 80, 81, 82, 83, 84, 85, 86, 100, 101, 98, 99] (by decide +kernel) (by decide +kernel)
set_option maxRecDepth 20000 in
theorem gX5_count_X1_choices : GoodIn wsX5_count (wsV RX5 175 RX1 yX1_choices wsX1_choices) := goodIn_app (goodIn_of _ (by decide +kernel)) ggX5_count_X1_choices
theorem dX5_count_0 : decode cX5_count 0 = .ok (.iload_n 1, 1) := by decide +kernel
theorem dX5_count_1 : decode cX5_count 1 = .ok (.tableswitch 84 0 5 #[39, 47, 55, 60, 68, 76], 39) := by decide +kernel
theorem dX5_count_40 : decode cX5_count 40 = .ok (.aload_n 0, 1) := by decide +kernel
theorem dX5_count_41 : decode cX5_count 41 = .ok (.getfield 12, 3) := by decide +kernel
theorem dX5_count_44 : decode cX5_count 44 = .ok (.invokevirtual 194, 3) := by decide +kernel
theorem dX5_count_47 : decode cX5_count 47 = .ok (.ireturn, 1) := by decide +kernel
theorem dX5_count_48 : decode cX5_count 48 = .ok (.aload_n 0, 1) := by decide +kernel
theorem dX5_count_49 : decode cX5_count 49 = .ok (.getfield 21, 3) := by decide +kernel
theorem dX5_count_52 : decode cX5_count 52 = .ok (.invokevirtual 198, 3) := by decide +kernel
theorem dX5_count_55 : decode cX5_count 55 = .ok (.ireturn, 1) := by decide +kernel
theorem dX5_count_56 : decode cX5_count 56 = .ok (.aload_n 0, 1) := by decide +kernel
theorem dX5_count_57 : decode cX5_count 57 = .ok (.getfield 126, 3) := by decide +kernel
theorem dX5_count_60 : decode cX5_count 60 = .ok (.ireturn, 1) := by decide +kernel
theorem dX5_count_61 : decode cX5_count 61 = .ok (.aload_n 0, 1) := by decide +kernel
theorem dX5_count_62 : decode cX5_count 62 = .ok (.getfield 45, 3) := by decide +kernel
theorem dX5_count_65 : decode cX5_count 65 = .ok (.invokevirtual 162, 3) := by decide +kernel
theorem dX5_count_68 : decode cX5_count 68 = .ok (.ireturn, 1) := by decide +kernel
theorem dX5_count_69 : decode cX5_count 69 = .ok (.aload_n 0, 1) := by decide +kernel
theorem dX5_count_70 : decode cX5_count 70 = .ok (.getfield 38, 3) := by decide +kernel
theorem dX5_count_73 : decode cX5_count 73 = .ok (.invokevirtual 60, 3) := by decide +kernel
theorem dX5_count_76 : decode cX5_count 76 = .ok (.ireturn, 1) := by decide +kernel
theorem dX5_count_77 : decode cX5_count 77 = .ok (.aload_n 0, 1) := by decide +kernel
theorem dX5_count_78 : decode cX5_count 78 = .ok (.getfield 21, 3) := by decide +kernel
theorem dX5_count_81 : decode cX5_count 81 = .ok (.invokevirtual 175, 3) := by decide +kernel
theorem dX5_count_84 : decode cX5_count 84 = .ok (.ireturn, 1) := by decide +kernel
theorem dX5_count_85 : decode cX5_count 85 = .ok (.bipush (-102), 2) := by decide +kernel
theorem dX5_count_87 : decode cX5_count 87 = .ok (.ireturn, 1) := by decide +kernel
set_option maxRecDepth 20000 in
theorem ggX5_digest_X2_lookFrom : GoodIn wsX5_digest wsX2_lookFrom := goodIn_r _ [12, 13, 14, 15, 16, 17, 18, 19, 20, 21, 22, 23, 24, 25, 26, 27, 28, 29, 30, 31, 32, 33, 11, 34, 35, 36, 37, 38, 39, 40, 41, 42, 43, 44, 45, 46, 47, 48, 49, 50, 51, 52, 53, 54, 55, 56, 57, 58, 59, 60, 61, 62, 63, 64, 65, 66, 67, 68, 69, 70, 71, 72, 73, 74, 75, 76, 77, 78, 79, 80, 81, 82, 83, 84, 85, 86, 87, 88, 89, 90, 91, 92, 93, 94, 95, 96, 97, 98, 99, 100, 101, 102, 103, 104, 105, 106, 107, 108, 109, 110, 111, 112, 113, 114, 115, 116, 117, 118, 119, 120, 121, 122, 123, 240, 241, 242, 243, 244, 245, 246, 247, 248, 249, 250, 251, 252, 253, 254] (by decide +kernel) (by decide +kernel)
set_option maxRecDepth 20000 in
theorem gX5_digest_X2_lookFrom : GoodIn wsX5_digest (wsV RX5 135 RX2 yX2_lookFrom wsX2_lookFrom) := goodIn_app (goodIn_of _ (by decide +kernel)) ggX5_digest_X2_lookFrom
set_option maxRecDepth 20000 in
theorem ggX5_digest_X0_total : GoodIn wsX5_digest wsX0_total := goodIn_r _ [29, 30, 253, 254] (by decide +kernel) (by decide +kernel)
set_option maxRecDepth 20000 in
theorem gX5_digest_X0_total : GoodIn wsX5_digest (wsV RX5 194 RX0 yX0_total wsX0_total) := goodIn_app (goodIn_of _ (by decide +kernel)) ggX5_digest_X0_total
set_option maxRecDepth 20000 in
theorem ggX5_digest_X5_about : GoodIn wsX5_digest wsX5_about := goodIn_r _ [128, 4, 2, 129, 74, 75, 28, 76, 30, 130, 94, 95, 96, 97, 131, 85, 86, 22, 87, 24, 132, 100, 101, 102, 63, 103, 26, 27, 29, 84, 98, 133, 134, 135, 136, 137, 138, 139, 140, 141, 142, 143, 144, 229, 230, 231, 232, 233, 234, 235, 236, 237, 238, 239, 253, 254, 251, 252] (by decide +kernel) (by decide +kernel)
set_option maxRecDepth 20000 in
theorem gX5_digest_X5_about : GoodIn wsX5_digest (wsV RX5 205 RX5 yX5_about wsX5_about) := goodIn_app (goodIn_of _ (by decide +kernel)) ggX5_digest_X5_about
set_option maxRecDepth 20000 in
theorem ggX5_digest_X2_mostWalls : GoodIn wsX5_digest wsX2_mostWalls := goodIn_r _ [148, 17, 18, 41, 149, 150, 151, 152, 47, 48, 49, 22, 50, 24, 153, 134, 135, 136, 84, 85, 86, 87, 240, 241, 242, 243, 244, 245, 246, 247, 248, 249, 250, 251, 252] (by decide +kernel) (by decide +kernel)
set_option maxRecDepth 20000 in
theorem gX5_digest_X2_mostWalls : GoodIn wsX5_digest (wsV RX5 150 RX2 yX2_mostWalls wsX2_mostWalls) := goodIn_app (goodIn_of _ (by decide +kernel)) ggX5_digest_X2_mostWalls
set_option maxRecDepth 20000 in
theorem ggX5_digest_X0_all : GoodIn wsX5_digest wsX0_all := goodIn_r _ [157, 30, 253, 254] (by decide +kernel) (by decide +kernel)
set_option maxRecDepth 20000 in
theorem gX5_digest_X0_all : GoodIn wsX5_digest (wsV RX5 208 RX0 yX0_all wsX0_all) := goodIn_app (goodIn_of _ (by decide +kernel)) ggX5_digest_X0_all
set_option maxRecDepth 20000 in
theorem ggX5_digest_X2_placeWhereOut : GoodIn wsX5_digest wsX2_placeWhereOut := goodIn_r _ [161, 17, 18, 41, 47, 48, 49, 22, 50, 24, 162, 163, 164, 165, 240, 241, 242, 243, 244, 245, 246, 247, 248, 249, 250, 251, 252] (by decide +kernel) (by decide +kernel)
set_option maxRecDepth 20000 in
theorem gX5_digest_X2_placeWhereOut : GoodIn wsX5_digest (wsV RX5 138 RX2 yX2_placeWhereOut wsX2_placeWhereOut) := goodIn_app (goodIn_of _ (by decide +kernel)) ggX5_digest_X2_placeWhereOut
set_option maxRecDepth 20000 in
theorem ggX5_digest_X1_toNumber : GoodIn wsX5_digest wsX1_toNumber := goodIn_r _ [23, 24, 251, 252] (by decide +kernel) (by decide +kernel)
set_option maxRecDepth 20000 in
theorem gX5_digest_X1_toNumber : GoodIn wsX5_digest (wsV RX5 129 RX1 yX1_toNumber wsX1_toNumber) := goodIn_app (goodIn_of _ (by decide +kernel)) ggX5_digest_X1_toNumber
set_option maxRecDepth 20000 in
theorem ggX5_digest_X2_total : GoodIn wsX5_digest wsX2_total := goodIn_r _ [170, 17, 240, 241, 242, 243, 244, 245, 246, 247, 248, 249, 250] (by decide +kernel) (by decide +kernel)
set_option maxRecDepth 20000 in
theorem gX5_digest_X2_total : GoodIn wsX5_digest (wsV RX5 153 RX2 yX2_total wsX2_total) := goodIn_app (goodIn_of _ (by decide +kernel)) ggX5_digest_X2_total
set_option maxRecDepth 20000 in
theorem ggX5_digest_X2_fitting : GoodIn wsX5_digest wsX2_fitting := goodIn_r _ [174, 17, 18, 41, 47, 48, 49, 22, 50, 24, 175, 176, 177, 178, 179, 180, 181, 182, 183, 138, 139, 140, 63, 103, 26, 27, 28, 29, 30, 141, 142, 143, 144, 84, 85, 86, 87, 240, 241, 242, 243, 244, 245, 246, 247, 248, 249, 250, 251, 252, 255, 256, 257, 253, 254] (by decide +kernel) (by decide +kernel)
set_option maxRecDepth 20000 in
theorem gX5_digest_X2_fitting : GoodIn wsX5_digest (wsV RX5 164 RX2 yX2_fitting wsX2_fitting) := goodIn_app (goodIn_of _ (by decide +kernel)) ggX5_digest_X2_fitting
set_option maxRecDepth 20000 in
theorem ggX5_digest_X2_bestAsked : GoodIn wsX5_digest wsX2_bestAsked := goodIn_r _ [187, 14, 25, 26, 27, 28, 29, 30, 188, 189, 190, 11, 191, 192, 17, 18, 41, 149, 150, 151, 152, 193, 194, 195, 196, 47, 48, 49, 22, 50, 24, 197, 138, 139, 140, 63, 103, 141, 142, 143, 144, 84, 85, 86, 87, 175, 176, 177, 178, 179, 180, 181, 182, 183, 240, 241, 242, 243, 244, 245, 246, 247, 248, 249, 250, 253, 254, 251, 252, 255, 256, 257] (by decide +kernel) (by decide +kernel)
set_option maxRecDepth 20000 in
theorem gX5_digest_X2_bestAsked : GoodIn wsX5_digest (wsV RX5 172 RX2 yX2_bestAsked wsX2_bestAsked) := goodIn_app (goodIn_of _ (by decide +kernel)) ggX5_digest_X2_bestAsked
set_option maxRecDepth 20000 in
theorem ggX5_digest_X2_stepsAt : GoodIn wsX5_digest wsX2_stepsAt := goodIn_r _ [54, 35, 240, 241, 242, 243, 244, 245, 246, 247, 248, 249, 250] (by decide +kernel) (by decide +kernel)
set_option maxRecDepth 20000 in
theorem gX5_digest_X2_stepsAt : GoodIn wsX5_digest (wsV RX5 141 RX2 yX2_stepsAt wsX2_stepsAt) := goodIn_app (goodIn_of _ (by decide +kernel)) ggX5_digest_X2_stepsAt
set_option maxRecDepth 20000 in
theorem ggX5_digest_X2_firstAt : GoodIn wsX5_digest wsX2_firstAt := goodIn_r _ [58, 36, 240, 241, 242, 243, 244, 245, 246, 247, 248, 249, 250] (by decide +kernel) (by decide +kernel)
set_option maxRecDepth 20000 in
theorem gX5_digest_X2_firstAt : GoodIn wsX5_digest (wsV RX5 144 RX2 yX2_firstAt wsX2_firstAt) := goodIn_app (goodIn_of _ (by decide +kernel)) ggX5_digest_X2_firstAt
set_option maxRecDepth 20000 in
theorem ggX5_digest_X3_length : GoodIn wsX5_digest wsX3_length := goodIn_r _ [204, 205, 258, 259, 260, 261, 262, 263, 264] (by decide +kernel) (by decide +kernel)
set_option maxRecDepth 20000 in
theorem gX5_digest_X3_length : GoodIn wsX5_digest (wsV RX5 60 RX3 yX3_length wsX3_length) := goodIn_app (goodIn_of _ (by decide +kernel)) ggX5_digest_X3_length
set_option maxRecDepth 20000 in
theorem ggX5_digest_X3_letterAt : GoodIn wsX5_digest wsX3_letterAt := goodIn_r _ [209, 210, 258, 259, 260, 261, 262, 263, 264] (by decide +kernel) (by decide +kernel)
set_option maxRecDepth 20000 in
theorem gX5_digest_X3_letterAt : GoodIn wsX5_digest (wsV RX5 211 RX3 yX3_letterAt wsX3_letterAt) := goodIn_app (goodIn_of _ (by decide +kernel)) ggX5_digest_X3_letterAt
set_option maxRecDepth 20000 in
theorem ggX5_digest_X5_count : GoodIn wsX5_digest wsX5_count := goodIn_r _ [214, 4, 2, 215, 6, 7, 124, 26, 27, 28, 29, 30, 216, 217, 218, 22, 219, 63, 103, 84, 85, 86, 87, 24, 220, 221, 222, 178, 223, 180, 200, 201, 202, 203, 204, 205, 224, 225, 226, 227, 228, 60, 61, 62, 64, 65, 66, 67, 68, 69, 70, 71, 72, 73, 74, 75, 76, 77, 78, 79, 80, 81, 82, 83, 88, 89, 90, 91, 92, 93, 94, 95, 96, 97, 98, 99, 100, 101, 102, 104, 105, 106, 107, 108, 109, 110, 111, 229, 230, 231, 232, 233, 234, 235, 236, 237, 238, 239, 253, 254, 251, 252, 255, 256, 257, 258, 259, 260, 261, 262, 263, 264] (by decide +kernel) (by decide +kernel)
set_option maxRecDepth 20000 in
theorem gX5_digest_X5_count : GoodIn wsX5_digest (wsV RX5 214 RX5 yX5_count wsX5_count) := goodIn_app (goodIn_of _ (by decide +kernel)) ggX5_digest_X5_count
theorem dX5_digest_0 : decode cX5_digest 0 = .ok (.aload_n 0, 1) := by decide +kernel
theorem dX5_digest_1 : decode cX5_digest 1 = .ok (.getfield 31, 3) := by decide +kernel
theorem dX5_digest_4 : decode cX5_digest 4 = .ok (.aload_n 0, 1) := by decide +kernel
theorem dX5_digest_5 : decode cX5_digest 5 = .ok (.getfield 21, 3) := by decide +kernel
theorem dX5_digest_8 : decode cX5_digest 8 = .ok (.invokevirtual 135, 3) := by decide +kernel
theorem dX5_digest_11 : decode cX5_digest 11 = .ok (.ldc2_w 201, 3) := by decide +kernel
theorem dX5_digest_14 : decode cX5_digest 14 = .ok (.lstore_n 1, 1) := by decide +kernel
theorem dX5_digest_15 : decode cX5_digest 15 = .ok (.iconst 0, 1) := by decide +kernel
theorem dX5_digest_16 : decode cX5_digest 16 = .ok (.istore_n 3, 1) := by decide +kernel
theorem dX5_digest_17 : decode cX5_digest 17 = .ok (.iload_n 3, 1) := by decide +kernel
theorem dX5_digest_18 : decode cX5_digest 18 = .ok (.aload_n 0, 1) := by decide +kernel
theorem dX5_digest_19 : decode cX5_digest 19 = .ok (.getfield 12, 3) := by decide +kernel
theorem dX5_digest_22 : decode cX5_digest 22 = .ok (.invokevirtual 194, 3) := by decide +kernel
theorem dX5_digest_25 : decode cX5_digest 25 = .ok (.if_icmp .ge 56, 3) := by decide +kernel
theorem dX5_digest_28 : decode cX5_digest 28 = .ok (.iconst 0, 1) := by decide +kernel
theorem dX5_digest_29 : decode cX5_digest 29 = .ok (.istore 4, 2) := by decide +kernel
theorem dX5_digest_31 : decode cX5_digest 31 = .ok (.iload 4, 2) := by decide +kernel
theorem dX5_digest_33 : decode cX5_digest 33 = .ok (.bipush 7, 2) := by decide +kernel
theorem dX5_digest_35 : decode cX5_digest 35 = .ok (.if_icmp .gt 24, 3) := by decide +kernel
theorem dX5_digest_38 : decode cX5_digest 38 = .ok (.ldc2_w 203, 3) := by decide +kernel
theorem dX5_digest_41 : decode cX5_digest 41 = .ok (.lload_n 1, 1) := by decide +kernel
theorem dX5_digest_42 : decode cX5_digest 42 = .ok (.lmul, 1) := by decide +kernel
theorem dX5_digest_43 : decode cX5_digest 43 = .ok (.aload_n 0, 1) := by decide +kernel
theorem dX5_digest_44 : decode cX5_digest 44 = .ok (.iload_n 3, 1) := by decide +kernel
theorem dX5_digest_45 : decode cX5_digest 45 = .ok (.iload 4, 2) := by decide +kernel
theorem dX5_digest_47 : decode cX5_digest 47 = .ok (.invokevirtual 205, 3) := by decide +kernel
theorem dX5_digest_50 : decode cX5_digest 50 = .ok (.i2l, 1) := by decide +kernel
theorem dX5_digest_51 : decode cX5_digest 51 = .ok (.ladd, 1) := by decide +kernel
theorem dX5_digest_52 : decode cX5_digest 52 = .ok (.lstore_n 1, 1) := by decide +kernel
theorem dX5_digest_53 : decode cX5_digest 53 = .ok (.iinc 4 1, 3) := by decide +kernel
theorem dX5_digest_56 : decode cX5_digest 56 = .ok (.goto (-25), 3) := by decide +kernel
theorem dX5_digest_59 : decode cX5_digest 59 = .ok (.ldc2_w 203, 3) := by decide +kernel
theorem dX5_digest_62 : decode cX5_digest 62 = .ok (.lload_n 1, 1) := by decide +kernel
theorem dX5_digest_63 : decode cX5_digest 63 = .ok (.lmul, 1) := by decide +kernel
theorem dX5_digest_64 : decode cX5_digest 64 = .ok (.aload_n 0, 1) := by decide +kernel
theorem dX5_digest_65 : decode cX5_digest 65 = .ok (.getfield 31, 3) := by decide +kernel
theorem dX5_digest_68 : decode cX5_digest 68 = .ok (.iload_n 3, 1) := by decide +kernel
theorem dX5_digest_69 : decode cX5_digest 69 = .ok (.invokevirtual 150, 3) := by decide +kernel
theorem dX5_digest_72 : decode cX5_digest 72 = .ok (.i2l, 1) := by decide +kernel
theorem dX5_digest_73 : decode cX5_digest 73 = .ok (.ladd, 1) := by decide +kernel
theorem dX5_digest_74 : decode cX5_digest 74 = .ok (.lstore_n 1, 1) := by decide +kernel
theorem dX5_digest_75 : decode cX5_digest 75 = .ok (.iinc 3 1, 3) := by decide +kernel
theorem dX5_digest_78 : decode cX5_digest 78 = .ok (.goto (-61), 3) := by decide +kernel
theorem dX5_digest_81 : decode cX5_digest 81 = .ok (.aload_n 0, 1) := by decide +kernel
theorem dX5_digest_82 : decode cX5_digest 82 = .ok (.getfield 31, 3) := by decide +kernel
theorem dX5_digest_85 : decode cX5_digest 85 = .ok (.aload_n 0, 1) := by decide +kernel
theorem dX5_digest_86 : decode cX5_digest 86 = .ok (.getfield 12, 3) := by decide +kernel
theorem dX5_digest_89 : decode cX5_digest 89 = .ok (.invokevirtual 208, 3) := by decide +kernel
theorem dX5_digest_92 : decode cX5_digest 92 = .ok (.invokevirtual 138, 3) := by decide +kernel
theorem dX5_digest_95 : decode cX5_digest 95 = .ok (.istore_n 3, 1) := by decide +kernel
theorem dX5_digest_96 : decode cX5_digest 96 = .ok (.ldc2_w 203, 3) := by decide +kernel
theorem dX5_digest_99 : decode cX5_digest 99 = .ok (.lload_n 1, 1) := by decide +kernel
theorem dX5_digest_100 : decode cX5_digest 100 = .ok (.lmul, 1) := by decide +kernel
theorem dX5_digest_101 : decode cX5_digest 101 = .ok (.aload_n 0, 1) := by decide +kernel
theorem dX5_digest_102 : decode cX5_digest 102 = .ok (.getfield 21, 3) := by decide +kernel
theorem dX5_digest_105 : decode cX5_digest 105 = .ok (.invokevirtual 129, 3) := by decide +kernel
theorem dX5_digest_108 : decode cX5_digest 108 = .ok (.i2l, 1) := by decide +kernel
theorem dX5_digest_109 : decode cX5_digest 109 = .ok (.ladd, 1) := by decide +kernel
theorem dX5_digest_110 : decode cX5_digest 110 = .ok (.lstore_n 1, 1) := by decide +kernel
theorem dX5_digest_111 : decode cX5_digest 111 = .ok (.ldc2_w 203, 3) := by decide +kernel
theorem dX5_digest_114 : decode cX5_digest 114 = .ok (.lload_n 1, 1) := by decide +kernel
theorem dX5_digest_115 : decode cX5_digest 115 = .ok (.lmul, 1) := by decide +kernel
theorem dX5_digest_116 : decode cX5_digest 116 = .ok (.aload_n 0, 1) := by decide +kernel
theorem dX5_digest_117 : decode cX5_digest 117 = .ok (.getfield 31, 3) := by decide +kernel
theorem dX5_digest_120 : decode cX5_digest 120 = .ok (.invokevirtual 153, 3) := by decide +kernel
theorem dX5_digest_123 : decode cX5_digest 123 = .ok (.i2l, 1) := by decide +kernel
theorem dX5_digest_124 : decode cX5_digest 124 = .ok (.ladd, 1) := by decide +kernel
theorem dX5_digest_125 : decode cX5_digest 125 = .ok (.lstore_n 1, 1) := by decide +kernel
theorem dX5_digest_126 : decode cX5_digest 126 = .ok (.ldc2_w 203, 3) := by decide +kernel
theorem dX5_digest_129 : decode cX5_digest 129 = .ok (.lload_n 1, 1) := by decide +kernel
theorem dX5_digest_130 : decode cX5_digest 130 = .ok (.lmul, 1) := by decide +kernel
theorem dX5_digest_131 : decode cX5_digest 131 = .ok (.aload_n 0, 1) := by decide +kernel
theorem dX5_digest_132 : decode cX5_digest 132 = .ok (.getfield 31, 3) := by decide +kernel
theorem dX5_digest_135 : decode cX5_digest 135 = .ok (.aload_n 0, 1) := by decide +kernel
theorem dX5_digest_136 : decode cX5_digest 136 = .ok (.getfield 45, 3) := by decide +kernel
theorem dX5_digest_139 : decode cX5_digest 139 = .ok (.invokevirtual 164, 3) := by decide +kernel
theorem dX5_digest_142 : decode cX5_digest 142 = .ok (.i2l, 1) := by decide +kernel
theorem dX5_digest_143 : decode cX5_digest 143 = .ok (.ladd, 1) := by decide +kernel
theorem dX5_digest_144 : decode cX5_digest 144 = .ok (.lstore_n 1, 1) := by decide +kernel
theorem dX5_digest_145 : decode cX5_digest 145 = .ok (.ldc2_w 203, 3) := by decide +kernel
theorem dX5_digest_148 : decode cX5_digest 148 = .ok (.lload_n 1, 1) := by decide +kernel
theorem dX5_digest_149 : decode cX5_digest 149 = .ok (.lmul, 1) := by decide +kernel
theorem dX5_digest_150 : decode cX5_digest 150 = .ok (.aload_n 0, 1) := by decide +kernel
theorem dX5_digest_151 : decode cX5_digest 151 = .ok (.getfield 31, 3) := by decide +kernel
theorem dX5_digest_154 : decode cX5_digest 154 = .ok (.aload_n 0, 1) := by decide +kernel
theorem dX5_digest_155 : decode cX5_digest 155 = .ok (.getfield 45, 3) := by decide +kernel
theorem dX5_digest_158 : decode cX5_digest 158 = .ok (.invokevirtual 172, 3) := by decide +kernel
theorem dX5_digest_161 : decode cX5_digest 161 = .ok (.i2l, 1) := by decide +kernel
theorem dX5_digest_162 : decode cX5_digest 162 = .ok (.ladd, 1) := by decide +kernel
theorem dX5_digest_163 : decode cX5_digest 163 = .ok (.lstore_n 1, 1) := by decide +kernel
theorem dX5_digest_164 : decode cX5_digest 164 = .ok (.ldc2_w 203, 3) := by decide +kernel
theorem dX5_digest_167 : decode cX5_digest 167 = .ok (.lload_n 1, 1) := by decide +kernel
theorem dX5_digest_168 : decode cX5_digest 168 = .ok (.lmul, 1) := by decide +kernel
theorem dX5_digest_169 : decode cX5_digest 169 = .ok (.aload_n 0, 1) := by decide +kernel
theorem dX5_digest_170 : decode cX5_digest 170 = .ok (.getfield 31, 3) := by decide +kernel
theorem dX5_digest_173 : decode cX5_digest 173 = .ok (.iload_n 3, 1) := by decide +kernel
theorem dX5_digest_174 : decode cX5_digest 174 = .ok (.invokevirtual 141, 3) := by decide +kernel
theorem dX5_digest_177 : decode cX5_digest 177 = .ok (.i2l, 1) := by decide +kernel
theorem dX5_digest_178 : decode cX5_digest 178 = .ok (.ladd, 1) := by decide +kernel
theorem dX5_digest_179 : decode cX5_digest 179 = .ok (.lstore_n 1, 1) := by decide +kernel
theorem dX5_digest_180 : decode cX5_digest 180 = .ok (.ldc2_w 203, 3) := by decide +kernel
theorem dX5_digest_183 : decode cX5_digest 183 = .ok (.lload_n 1, 1) := by decide +kernel
theorem dX5_digest_184 : decode cX5_digest 184 = .ok (.lmul, 1) := by decide +kernel
theorem dX5_digest_185 : decode cX5_digest 185 = .ok (.aload_n 0, 1) := by decide +kernel
theorem dX5_digest_186 : decode cX5_digest 186 = .ok (.getfield 31, 3) := by decide +kernel
theorem dX5_digest_189 : decode cX5_digest 189 = .ok (.iload_n 3, 1) := by decide +kernel
theorem dX5_digest_190 : decode cX5_digest 190 = .ok (.invokevirtual 144, 3) := by decide +kernel
theorem dX5_digest_193 : decode cX5_digest 193 = .ok (.i2l, 1) := by decide +kernel
theorem dX5_digest_194 : decode cX5_digest 194 = .ok (.ladd, 1) := by decide +kernel
theorem dX5_digest_195 : decode cX5_digest 195 = .ok (.lstore_n 1, 1) := by decide +kernel
theorem dX5_digest_196 : decode cX5_digest 196 = .ok (.iconst 0, 1) := by decide +kernel
theorem dX5_digest_197 : decode cX5_digest 197 = .ok (.istore 4, 2) := by decide +kernel
theorem dX5_digest_199 : decode cX5_digest 199 = .ok (.iload 4, 2) := by decide +kernel
theorem dX5_digest_201 : decode cX5_digest 201 = .ok (.aload_n 0, 1) := by decide +kernel
theorem dX5_digest_202 : decode cX5_digest 202 = .ok (.getfield 38, 3) := by decide +kernel
theorem dX5_digest_205 : decode cX5_digest 205 = .ok (.invokevirtual 60, 3) := by decide +kernel
theorem dX5_digest_208 : decode cX5_digest 208 = .ok (.if_icmp .ge 26, 3) := by decide +kernel
theorem dX5_digest_211 : decode cX5_digest 211 = .ok (.ldc2_w 203, 3) := by decide +kernel
theorem dX5_digest_214 : decode cX5_digest 214 = .ok (.lload_n 1, 1) := by decide +kernel
theorem dX5_digest_215 : decode cX5_digest 215 = .ok (.lmul, 1) := by decide +kernel
theorem dX5_digest_216 : decode cX5_digest 216 = .ok (.aload_n 0, 1) := by decide +kernel
theorem dX5_digest_217 : decode cX5_digest 217 = .ok (.getfield 38, 3) := by decide +kernel
theorem dX5_digest_220 : decode cX5_digest 220 = .ok (.iload 4, 2) := by decide +kernel
theorem dX5_digest_222 : decode cX5_digest 222 = .ok (.invokevirtual 211, 3) := by decide +kernel
theorem dX5_digest_225 : decode cX5_digest 225 = .ok (.i2l, 1) := by decide +kernel
theorem dX5_digest_226 : decode cX5_digest 226 = .ok (.ladd, 1) := by decide +kernel
theorem dX5_digest_227 : decode cX5_digest 227 = .ok (.lstore_n 1, 1) := by decide +kernel
theorem dX5_digest_228 : decode cX5_digest 228 = .ok (.iinc 4 1, 3) := by decide +kernel
theorem dX5_digest_231 : decode cX5_digest 231 = .ok (.goto (-32), 3) := by decide +kernel
theorem dX5_digest_234 : decode cX5_digest 234 = .ok (.iconst 0, 1) := by decide +kernel
theorem dX5_digest_235 : decode cX5_digest 235 = .ok (.istore 4, 2) := by decide +kernel
theorem dX5_digest_237 : decode cX5_digest 237 = .ok (.iload 4, 2) := by decide +kernel
theorem dX5_digest_239 : decode cX5_digest 239 = .ok (.iconst 5, 1) := by decide +kernel
theorem dX5_digest_240 : decode cX5_digest 240 = .ok (.if_icmp .gt 23, 3) := by decide +kernel
theorem dX5_digest_243 : decode cX5_digest 243 = .ok (.ldc2_w 203, 3) := by decide +kernel
theorem dX5_digest_246 : decode cX5_digest 246 = .ok (.lload_n 1, 1) := by decide +kernel
theorem dX5_digest_247 : decode cX5_digest 247 = .ok (.lmul, 1) := by decide +kernel
theorem dX5_digest_248 : decode cX5_digest 248 = .ok (.aload_n 0, 1) := by decide +kernel
theorem dX5_digest_249 : decode cX5_digest 249 = .ok (.iload 4, 2) := by decide +kernel
theorem dX5_digest_251 : decode cX5_digest 251 = .ok (.invokevirtual 214, 3) := by decide +kernel
theorem dX5_digest_254 : decode cX5_digest 254 = .ok (.i2l, 1) := by decide +kernel
theorem dX5_digest_255 : decode cX5_digest 255 = .ok (.ladd, 1) := by decide +kernel
theorem dX5_digest_256 : decode cX5_digest 256 = .ok (.lstore_n 1, 1) := by decide +kernel
theorem dX5_digest_257 : decode cX5_digest 257 = .ok (.iinc 4 1, 3) := by decide +kernel
theorem dX5_digest_260 : decode cX5_digest 260 = .ok (.goto (-23), 3) := by decide +kernel
theorem dX5_digest_263 : decode cX5_digest 263 = .ok (.lload_n 1, 1) := by decide +kernel
theorem dX5_digest_264 : decode cX5_digest 264 = .ok (.lreturn, 1) := by decide +kernel
theorem dX5_isBetween_0 : decode cX5_isBetween 0 = .ok (.iload_n 0, 1) := by decide +kernel
theorem dX5_isBetween_1 : decode cX5_isBetween 1 = .ok (.iload_n 1, 1) := by decide +kernel
theorem dX5_isBetween_2 : decode cX5_isBetween 2 = .ok (.if_icmp .lt 12, 3) := by decide +kernel
theorem dX5_isBetween_5 : decode cX5_isBetween 5 = .ok (.iload_n 0, 1) := by decide +kernel
theorem dX5_isBetween_6 : decode cX5_isBetween 6 = .ok (.iload_n 2, 1) := by decide +kernel
theorem dX5_isBetween_7 : decode cX5_isBetween 7 = .ok (.if_icmp .gt 7, 3) := by decide +kernel
theorem dX5_isBetween_10 : decode cX5_isBetween 10 = .ok (.iconst 1, 1) := by decide +kernel
theorem dX5_isBetween_11 : decode cX5_isBetween 11 = .ok (.goto 4, 3) := by decide +kernel
theorem dX5_isBetween_14 : decode cX5_isBetween 14 = .ok (.iconst 0, 1) := by decide +kernel
theorem dX5_isBetween_15 : decode cX5_isBetween 15 = .ok (.ireturn, 1) := by decide +kernel
theorem dX5_nextSeed_0 : decode cX5_nextSeed 0 = .ok (.ldc2_w 217, 3) := by decide +kernel
theorem dX5_nextSeed_3 : decode cX5_nextSeed 3 = .ok (.iload_n 0, 1) := by decide +kernel
theorem dX5_nextSeed_4 : decode cX5_nextSeed 4 = .ok (.i2l, 1) := by decide +kernel
theorem dX5_nextSeed_5 : decode cX5_nextSeed 5 = .ok (.lmul, 1) := by decide +kernel
theorem dX5_nextSeed_6 : decode cX5_nextSeed 6 = .ok (.ldc2_w 219, 3) := by decide +kernel
theorem dX5_nextSeed_9 : decode cX5_nextSeed 9 = .ok (.ladd, 1) := by decide +kernel
theorem dX5_nextSeed_10 : decode cX5_nextSeed 10 = .ok (.ldc2_w 221, 3) := by decide +kernel
theorem dX5_nextSeed_13 : decode cX5_nextSeed 13 = .ok (.lrem, 1) := by decide +kernel
theorem dX5_nextSeed_14 : decode cX5_nextSeed 14 = .ok (.l2i, 1) := by decide +kernel
theorem dX5_nextSeed_15 : decode cX5_nextSeed 15 = .ok (.ireturn, 1) := by decide +kernel
theorem dX5_isDeed_0 : decode cX5_isDeed 0 = .ok (.iload_n 0, 1) := by decide +kernel
theorem dX5_isDeed_1 : decode cX5_isDeed 1 = .ok (.ifCond .lt 9, 3) := by decide +kernel
theorem dX5_isDeed_4 : decode cX5_isDeed 4 = .ok (.iload_n 0, 1) := by decide +kernel
theorem dX5_isDeed_5 : decode cX5_isDeed 5 = .ok (.bipush 45, 2) := by decide +kernel
theorem dX5_isDeed_7 : decode cX5_isDeed 7 = .ok (.if_icmp .lt 5, 3) := by decide +kernel
theorem dX5_isDeed_10 : decode cX5_isDeed 10 = .ok (.iconst 0, 1) := by decide +kernel
theorem dX5_isDeed_11 : decode cX5_isDeed 11 = .ok (.ireturn, 1) := by decide +kernel
theorem dX5_isDeed_12 : decode cX5_isDeed 12 = .ok (.iload_n 0, 1) := by decide +kernel
theorem dX5_isDeed_13 : decode cX5_isDeed 13 = .ok (.bipush 25, 2) := by decide +kernel
theorem dX5_isDeed_15 : decode cX5_isDeed 15 = .ok (.if_icmp .lt 17, 3) := by decide +kernel
theorem dX5_isDeed_18 : decode cX5_isDeed 18 = .ok (.iload_n 0, 1) := by decide +kernel
theorem dX5_isDeed_19 : decode cX5_isDeed 19 = .ok (.bipush 30, 2) := by decide +kernel
theorem dX5_isDeed_21 : decode cX5_isDeed 21 = .ok (.if_icmp .lt 15, 3) := by decide +kernel
theorem dX5_isDeed_24 : decode cX5_isDeed 24 = .ok (.iload_n 0, 1) := by decide +kernel
theorem dX5_isDeed_25 : decode cX5_isDeed 25 = .ok (.bipush 10, 2) := by decide +kernel
theorem dX5_isDeed_27 : decode cX5_isDeed 27 = .ok (.irem, 1) := by decide +kernel
theorem dX5_isDeed_28 : decode cX5_isDeed 28 = .ok (.iconst 5, 1) := by decide +kernel
theorem dX5_isDeed_29 : decode cX5_isDeed 29 = .ok (.if_icmp .ge 7, 3) := by decide +kernel
theorem dX5_isDeed_32 : decode cX5_isDeed 32 = .ok (.iconst 1, 1) := by decide +kernel
theorem dX5_isDeed_33 : decode cX5_isDeed 33 = .ok (.goto 4, 3) := by decide +kernel
theorem dX5_isDeed_36 : decode cX5_isDeed 36 = .ok (.iconst 0, 1) := by decide +kernel
theorem dX5_isDeed_37 : decode cX5_isDeed 37 = .ok (.ireturn, 1) := by decide +kernel
theorem dX5_doer_0 : decode cX5_doer 0 = .ok (.iload_n 0, 1) := by decide +kernel
theorem dX5_doer_1 : decode cX5_doer 1 = .ok (.bipush 25, 2) := by decide +kernel
theorem dX5_doer_3 : decode cX5_doer 3 = .ok (.if_icmp .ge 9, 3) := by decide +kernel
theorem dX5_doer_6 : decode cX5_doer 6 = .ok (.iload_n 0, 1) := by decide +kernel
theorem dX5_doer_7 : decode cX5_doer 7 = .ok (.iconst 5, 1) := by decide +kernel
theorem dX5_doer_8 : decode cX5_doer 8 = .ok (.idiv, 1) := by decide +kernel
theorem dX5_doer_9 : decode cX5_doer 9 = .ok (.goto 7, 3) := by decide +kernel
theorem dX5_doer_12 : decode cX5_doer 12 = .ok (.iload_n 0, 1) := by decide +kernel
theorem dX5_doer_13 : decode cX5_doer 13 = .ok (.bipush 10, 2) := by decide +kernel
theorem dX5_doer_15 : decode cX5_doer 15 = .ok (.irem, 1) := by decide +kernel
theorem dX5_doer_16 : decode cX5_doer 16 = .ok (.ireturn, 1) := by decide +kernel
set_option maxRecDepth 20000 in
theorem ggX5_prey_X5_doer : GoodIn wsX5_prey wsX5_doer := goodIn_r _ [4] (by decide +kernel) (by decide +kernel)
set_option maxRecDepth 20000 in
theorem gX5_prey_X5_doer : GoodIn wsX5_prey (va_wsS RX5 223 yX5_doer wsX5_doer) := goodIn_app (goodIn_of _ (by decide +kernel)) ggX5_prey_X5_doer
theorem dX5_prey_0 : decode cX5_prey 0 = .ok (.iload_n 0, 1) := by decide +kernel
theorem dX5_prey_1 : decode cX5_prey 1 = .ok (.bipush 25, 2) := by decide +kernel
theorem dX5_prey_3 : decode cX5_prey 3 = .ok (.if_icmp .ge 9, 3) := by decide +kernel
theorem dX5_prey_6 : decode cX5_prey 6 = .ok (.iload_n 0, 1) := by decide +kernel
theorem dX5_prey_7 : decode cX5_prey 7 = .ok (.iconst 5, 1) := by decide +kernel
theorem dX5_prey_8 : decode cX5_prey 8 = .ok (.irem, 1) := by decide +kernel
theorem dX5_prey_9 : decode cX5_prey 9 = .ok (.goto 7, 3) := by decide +kernel
theorem dX5_prey_12 : decode cX5_prey 12 = .ok (.iload_n 0, 1) := by decide +kernel
theorem dX5_prey_13 : decode cX5_prey 13 = .ok (.invokestatic 223, 3) := by decide +kernel
theorem dX5_prey_16 : decode cX5_prey 16 = .ok (.ireturn, 1) := by decide +kernel
end
section
theorem dX6_init_0 : decode cX6_init 0 = .ok (.aload_n 0, 1) := by decide +kernel
theorem dX6_init_1 : decode cX6_init 1 = .ok (.invokespecial 1, 3) := by decide +kernel
theorem dX6_init_4 : decode cX6_init 4 = .ok (.aload_n 0, 1) := by decide +kernel
theorem dX6_init_5 : decode cX6_init 5 = .ok (.bipush 40, 2) := by decide +kernel
theorem dX6_init_7 : decode cX6_init 7 = .ok (.newarray .int, 2) := by decide +kernel
theorem dX6_init_9 : decode cX6_init 9 = .ok (.putfield 7, 3) := by decide +kernel
theorem dX6_init_12 : decode cX6_init 12 = .ok (.aload_n 0, 1) := by decide +kernel
theorem dX6_init_13 : decode cX6_init 13 = .ok (.bipush 10, 2) := by decide +kernel
theorem dX6_init_15 : decode cX6_init 15 = .ok (.newarray .int, 2) := by decide +kernel
theorem dX6_init_17 : decode cX6_init 17 = .ok (.putfield 13, 3) := by decide +kernel
theorem dX6_init_20 : decode cX6_init 20 = .ok (.aload_n 0, 1) := by decide +kernel
theorem dX6_init_21 : decode cX6_init 21 = .ok (.bipush 20, 2) := by decide +kernel
theorem dX6_init_23 : decode cX6_init 23 = .ok (.newarray .int, 2) := by decide +kernel
theorem dX6_init_25 : decode cX6_init 25 = .ok (.putfield 16, 3) := by decide +kernel
theorem dX6_init_28 : decode cX6_init 28 = .ok (.aload_n 0, 1) := by decide +kernel
theorem dX6_init_29 : decode cX6_init 29 = .ok (.sipush 7776, 3) := by decide +kernel
theorem dX6_init_32 : decode cX6_init 32 = .ok (.newarray .int, 2) := by decide +kernel
theorem dX6_init_34 : decode cX6_init 34 = .ok (.putfield 19, 3) := by decide +kernel
theorem dX6_init_37 : decode cX6_init 37 = .ok (.aload_n 0, 1) := by decide +kernel
theorem dX6_init_38 : decode cX6_init 38 = .ok (.sipush 7776, 3) := by decide +kernel
theorem dX6_init_41 : decode cX6_init 41 = .ok (.newarray .int, 2) := by decide +kernel
theorem dX6_init_43 : decode cX6_init 43 = .ok (.putfield 22, 3) := by decide +kernel
theorem dX6_init_46 : decode cX6_init 46 = .ok (.aload_n 0, 1) := by decide +kernel
theorem dX6_init_47 : decode cX6_init 47 = .ok (.sipush 7776, 3) := by decide +kernel
theorem dX6_init_50 : decode cX6_init 50 = .ok (.newarray .int, 2) := by decide +kernel
theorem dX6_init_52 : decode cX6_init 52 = .ok (.putfield 25, 3) := by decide +kernel
theorem dX6_init_55 : decode cX6_init 55 = .ok (.aload_n 0, 1) := by decide +kernel
theorem dX6_init_56 : decode cX6_init 56 = .ok (.bipush 8, 2) := by decide +kernel
theorem dX6_init_58 : decode cX6_init 58 = .ok (.newarray .int, 2) := by decide +kernel
theorem dX6_init_60 : decode cX6_init 60 = .ok (.putfield 28, 3) := by decide +kernel
theorem dX6_init_63 : decode cX6_init 63 = .ok (.aload_n 0, 1) := by decide +kernel
theorem dX6_init_64 : decode cX6_init 64 = .ok (.bipush 32, 2) := by decide +kernel
theorem dX6_init_66 : decode cX6_init 66 = .ok (.newarray .int, 2) := by decide +kernel
theorem dX6_init_68 : decode cX6_init 68 = .ok (.putfield 31, 3) := by decide +kernel
theorem dX6_init_71 : decode cX6_init 71 = .ok (.aload_n 0, 1) := by decide +kernel
theorem dX6_init_72 : decode cX6_init 72 = .ok (.bipush 8, 2) := by decide +kernel
theorem dX6_init_74 : decode cX6_init 74 = .ok (.newarray .int, 2) := by decide +kernel
theorem dX6_init_76 : decode cX6_init 76 = .ok (.putfield 34, 3) := by decide +kernel
theorem dX6_init_79 : decode cX6_init 79 = .ok (.aload_n 0, 1) := by decide +kernel
theorem dX6_init_80 : decode cX6_init 80 = .ok (.iconst (-1), 1) := by decide +kernel
theorem dX6_init_81 : decode cX6_init 81 = .ok (.putfield 37, 3) := by decide +kernel
theorem dX6_init_84 : decode cX6_init 84 = .ok (.return_, 1) := by decide +kernel
theorem dX6_in_0 : decode cX6_in 0 = .ok (.lload_n 0, 1) := by decide +kernel
theorem dX6_in_1 : decode cX6_in 1 = .ok (.lload_n 2, 1) := by decide +kernel
theorem dX6_in_2 : decode cX6_in 2 = .ok (.lcmp, 1) := by decide +kernel
theorem dX6_in_3 : decode cX6_in 3 = .ok (.ifCond .lt 14, 3) := by decide +kernel
theorem dX6_in_6 : decode cX6_in 6 = .ok (.lload_n 0, 1) := by decide +kernel
theorem dX6_in_7 : decode cX6_in 7 = .ok (.lload 4, 2) := by decide +kernel
theorem dX6_in_9 : decode cX6_in 9 = .ok (.lcmp, 1) := by decide +kernel
theorem dX6_in_10 : decode cX6_in 10 = .ok (.ifCond .gt 7, 3) := by decide +kernel
theorem dX6_in_13 : decode cX6_in 13 = .ok (.iconst 1, 1) := by decide +kernel
theorem dX6_in_14 : decode cX6_in 14 = .ok (.goto 4, 3) := by decide +kernel
theorem dX6_in_17 : decode cX6_in 17 = .ok (.iconst 0, 1) := by decide +kernel
theorem dX6_in_18 : decode cX6_in 18 = .ok (.ireturn, 1) := by decide +kernel
set_option maxRecDepth 20000 in
theorem ggX6_letter_X6_in : GoodIn wsX6_letter wsX6_in := goodIn_r _ [7] (by decide +kernel) (by decide +kernel)
set_option maxRecDepth 20000 in
theorem gX6_letter_X6_in : GoodIn wsX6_letter (va_wsS RX6 43 yX6_in wsX6_in) := goodIn_app (goodIn_of _ (by decide +kernel)) ggX6_letter_X6_in
theorem dX6_letter_0 : decode cX6_letter 0 = .ok (.iload_n 1, 1) := by decide +kernel
theorem dX6_letter_1 : decode cX6_letter 1 = .ok (.i2l, 1) := by decide +kernel
theorem dX6_letter_2 : decode cX6_letter 2 = .ok (.lconst 1, 1) := by decide +kernel
theorem dX6_letter_3 : decode cX6_letter 3 = .ok (.ldc2_w 41, 3) := by decide +kernel
theorem dX6_letter_6 : decode cX6_letter 6 = .ok (.invokestatic 43, 3) := by decide +kernel
theorem dX6_letter_9 : decode cX6_letter 9 = .ok (.ifCond .ne 6, 3) := by decide +kernel
theorem dX6_letter_12 : decode cX6_letter 12 = .ok (.bipush (-102), 2) := by decide +kernel
theorem dX6_letter_14 : decode cX6_letter 14 = .ok (.ireturn, 1) := by decide +kernel
theorem dX6_letter_15 : decode cX6_letter 15 = .ok (.aload_n 0, 1) := by decide +kernel
theorem dX6_letter_16 : decode cX6_letter 16 = .ok (.getfield 47, 3) := by decide +kernel
theorem dX6_letter_19 : decode cX6_letter 19 = .ok (.bipush 40, 2) := by decide +kernel
theorem dX6_letter_21 : decode cX6_letter 21 = .ok (.if_icmp .ne 6, 3) := by decide +kernel
theorem dX6_letter_24 : decode cX6_letter 24 = .ok (.bipush (-104), 2) := by decide +kernel
theorem dX6_letter_26 : decode cX6_letter 26 = .ok (.ireturn, 1) := by decide +kernel
theorem dX6_letter_27 : decode cX6_letter 27 = .ok (.aload_n 0, 1) := by decide +kernel
theorem dX6_letter_28 : decode cX6_letter 28 = .ok (.getfield 7, 3) := by decide +kernel
theorem dX6_letter_31 : decode cX6_letter 31 = .ok (.aload_n 0, 1) := by decide +kernel
theorem dX6_letter_32 : decode cX6_letter 32 = .ok (.getfield 47, 3) := by decide +kernel
theorem dX6_letter_35 : decode cX6_letter 35 = .ok (.iload_n 1, 1) := by decide +kernel
theorem dX6_letter_36 : decode cX6_letter 36 = .ok (.iastore, 1) := by decide +kernel
theorem dX6_letter_37 : decode cX6_letter 37 = .ok (.aload_n 0, 1) := by decide +kernel
theorem dX6_letter_38 : decode cX6_letter 38 = .ok (.dup, 1) := by decide +kernel
theorem dX6_letter_39 : decode cX6_letter 39 = .ok (.getfield 47, 3) := by decide +kernel
theorem dX6_letter_42 : decode cX6_letter 42 = .ok (.iconst 1, 1) := by decide +kernel
theorem dX6_letter_43 : decode cX6_letter 43 = .ok (.iadd, 1) := by decide +kernel
theorem dX6_letter_44 : decode cX6_letter 44 = .ok (.putfield 47, 3) := by decide +kernel
theorem dX6_letter_47 : decode cX6_letter 47 = .ok (.aload_n 0, 1) := by decide +kernel
theorem dX6_letter_48 : decode cX6_letter 48 = .ok (.getfield 47, 3) := by decide +kernel
theorem dX6_letter_51 : decode cX6_letter 51 = .ok (.ireturn, 1) := by decide +kernel
theorem dX6_blank_0 : decode cX6_blank 0 = .ok (.aload_n 0, 1) := by decide +kernel
theorem dX6_blank_1 : decode cX6_blank 1 = .ok (.getfield 47, 3) := by decide +kernel
theorem dX6_blank_4 : decode cX6_blank 4 = .ok (.istore_n 1, 1) := by decide +kernel
theorem dX6_blank_5 : decode cX6_blank 5 = .ok (.aload_n 0, 1) := by decide +kernel
theorem dX6_blank_6 : decode cX6_blank 6 = .ok (.iconst 0, 1) := by decide +kernel
theorem dX6_blank_7 : decode cX6_blank 7 = .ok (.putfield 47, 3) := by decide +kernel
theorem dX6_blank_10 : decode cX6_blank 10 = .ok (.iload_n 1, 1) := by decide +kernel
theorem dX6_blank_11 : decode cX6_blank 11 = .ok (.ireturn, 1) := by decide +kernel
set_option maxRecDepth 20000 in
theorem ggX6_goDigit_X6_in : GoodIn wsX6_goDigit wsX6_in := goodIn_r _ [9] (by decide +kernel) (by decide +kernel)
set_option maxRecDepth 20000 in
theorem gX6_goDigit_X6_in : GoodIn wsX6_goDigit (va_wsS RX6 43 yX6_in wsX6_in) := goodIn_app (goodIn_of _ (by decide +kernel)) ggX6_goDigit_X6_in
theorem dX6_goDigit_0 : decode cX6_goDigit 0 = .ok (.iload_n 1, 1) := by decide +kernel
theorem dX6_goDigit_1 : decode cX6_goDigit 1 = .ok (.i2l, 1) := by decide +kernel
theorem dX6_goDigit_2 : decode cX6_goDigit 2 = .ok (.lconst 0, 1) := by decide +kernel
theorem dX6_goDigit_3 : decode cX6_goDigit 3 = .ok (.ldc2_w 50, 3) := by decide +kernel
theorem dX6_goDigit_6 : decode cX6_goDigit 6 = .ok (.invokestatic 43, 3) := by decide +kernel
theorem dX6_goDigit_9 : decode cX6_goDigit 9 = .ok (.ifCond .ne 5, 3) := by decide +kernel
theorem dX6_goDigit_12 : decode cX6_goDigit 12 = .ok (.iconst 0, 1) := by decide +kernel
theorem dX6_goDigit_13 : decode cX6_goDigit 13 = .ok (.ireturn, 1) := by decide +kernel
theorem dX6_goDigit_14 : decode cX6_goDigit 14 = .ok (.aload_n 0, 1) := by decide +kernel
theorem dX6_goDigit_15 : decode cX6_goDigit 15 = .ok (.dup, 1) := by decide +kernel
theorem dX6_goDigit_16 : decode cX6_goDigit 16 = .ok (.getfield 52, 3) := by decide +kernel
theorem dX6_goDigit_19 : decode cX6_goDigit 19 = .ok (.aload_n 0, 1) := by decide +kernel
theorem dX6_goDigit_20 : decode cX6_goDigit 20 = .ok (.getfield 55, 3) := by decide +kernel
theorem dX6_goDigit_23 : decode cX6_goDigit 23 = .ok (.iconst 1, 1) := by decide +kernel
theorem dX6_goDigit_24 : decode cX6_goDigit 24 = .ok (.if_icmp .ne 9, 3) := by decide +kernel
theorem dX6_goDigit_27 : decode cX6_goDigit 27 = .ok (.iconst 5, 1) := by decide +kernel
theorem dX6_goDigit_28 : decode cX6_goDigit 28 = .ok (.iload_n 1, 1) := by decide +kernel
theorem dX6_goDigit_29 : decode cX6_goDigit 29 = .ok (.imul, 1) := by decide +kernel
theorem dX6_goDigit_30 : decode cX6_goDigit 30 = .ok (.goto 4, 3) := by decide +kernel
theorem dX6_goDigit_33 : decode cX6_goDigit 33 = .ok (.iload_n 1, 1) := by decide +kernel
theorem dX6_goDigit_34 : decode cX6_goDigit 34 = .ok (.iadd, 1) := by decide +kernel
theorem dX6_goDigit_35 : decode cX6_goDigit 35 = .ok (.putfield 52, 3) := by decide +kernel
theorem dX6_goDigit_38 : decode cX6_goDigit 38 = .ok (.aload_n 0, 1) := by decide +kernel
theorem dX6_goDigit_39 : decode cX6_goDigit 39 = .ok (.getfield 55, 3) := by decide +kernel
theorem dX6_goDigit_42 : decode cX6_goDigit 42 = .ok (.iconst 2, 1) := by decide +kernel
theorem dX6_goDigit_43 : decode cX6_goDigit 43 = .ok (.if_icmp .ne 26, 3) := by decide +kernel
theorem dX6_goDigit_46 : decode cX6_goDigit 46 = .ok (.aload_n 0, 1) := by decide +kernel
theorem dX6_goDigit_47 : decode cX6_goDigit 47 = .ok (.getfield 13, 3) := by decide +kernel
theorem dX6_goDigit_50 : decode cX6_goDigit 50 = .ok (.aload_n 0, 1) := by decide +kernel
theorem dX6_goDigit_51 : decode cX6_goDigit 51 = .ok (.getfield 58, 3) := by decide +kernel
theorem dX6_goDigit_54 : decode cX6_goDigit 54 = .ok (.aload_n 0, 1) := by decide +kernel
theorem dX6_goDigit_55 : decode cX6_goDigit 55 = .ok (.getfield 52, 3) := by decide +kernel
theorem dX6_goDigit_58 : decode cX6_goDigit 58 = .ok (.iastore, 1) := by decide +kernel
theorem dX6_goDigit_59 : decode cX6_goDigit 59 = .ok (.aload_n 0, 1) := by decide +kernel
theorem dX6_goDigit_60 : decode cX6_goDigit 60 = .ok (.dup, 1) := by decide +kernel
theorem dX6_goDigit_61 : decode cX6_goDigit 61 = .ok (.getfield 58, 3) := by decide +kernel
theorem dX6_goDigit_64 : decode cX6_goDigit 64 = .ok (.iconst 1, 1) := by decide +kernel
theorem dX6_goDigit_65 : decode cX6_goDigit 65 = .ok (.iadd, 1) := by decide +kernel
theorem dX6_goDigit_66 : decode cX6_goDigit 66 = .ok (.putfield 58, 3) := by decide +kernel
theorem dX6_goDigit_69 : decode cX6_goDigit 69 = .ok (.aload_n 0, 1) := by decide +kernel
theorem dX6_goDigit_70 : decode cX6_goDigit 70 = .ok (.dup, 1) := by decide +kernel
theorem dX6_goDigit_71 : decode cX6_goDigit 71 = .ok (.getfield 55, 3) := by decide +kernel
theorem dX6_goDigit_74 : decode cX6_goDigit 74 = .ok (.iconst 1, 1) := by decide +kernel
theorem dX6_goDigit_75 : decode cX6_goDigit 75 = .ok (.iadd, 1) := by decide +kernel
theorem dX6_goDigit_76 : decode cX6_goDigit 76 = .ok (.putfield 55, 3) := by decide +kernel
theorem dX6_goDigit_79 : decode cX6_goDigit 79 = .ok (.iconst 1, 1) := by decide +kernel
theorem dX6_goDigit_80 : decode cX6_goDigit 80 = .ok (.ireturn, 1) := by decide +kernel
set_option maxRecDepth 20000 in
theorem ggX6_go_X6_goDigit : GoodIn wsX6_go wsX6_goDigit := goodIn_r _ [8, 9, 2, 1, 10, 3, 11, 12, 7, 13, 14, 15, 16, 17, 18, 19, 20, 21, 22, 23, 24, 25, 26, 27, 28, 29, 30, 31, 32, 33, 34, 35, 36, 37] (by decide +kernel) (by decide +kernel)
set_option maxRecDepth 20000 in
theorem gX6_go_X6_goDigit : GoodIn wsX6_go (wsV RX6 61 RX6 yX6_goDigit wsX6_goDigit) := goodIn_app (goodIn_of _ (by decide +kernel)) ggX6_go_X6_goDigit
theorem dX6_go_0 : decode cX6_go 0 = .ok (.aload_n 0, 1) := by decide +kernel
theorem dX6_go_1 : decode cX6_go 1 = .ok (.getfield 55, 3) := by decide +kernel
theorem dX6_go_4 : decode cX6_go 4 = .ok (.ifCond .ne 69, 3) := by decide +kernel
theorem dX6_go_7 : decode cX6_go 7 = .ok (.aload_n 0, 1) := by decide +kernel
theorem dX6_go_8 : decode cX6_go 8 = .ok (.iload_n 1, 1) := by decide +kernel
theorem dX6_go_9 : decode cX6_go 9 = .ok (.bipush 99, 2) := by decide +kernel
theorem dX6_go_11 : decode cX6_go 11 = .ok (.if_icmp .ne 8, 3) := by decide +kernel
theorem dX6_go_14 : decode cX6_go 14 = .ok (.bipush 30, 2) := by decide +kernel
theorem dX6_go_16 : decode cX6_go 16 = .ok (.goto 15, 3) := by decide +kernel
theorem dX6_go_19 : decode cX6_go 19 = .ok (.iload_n 1, 1) := by decide +kernel
theorem dX6_go_20 : decode cX6_go 20 = .ok (.bipush 121, 2) := by decide +kernel
theorem dX6_go_22 : decode cX6_go 22 = .ok (.if_icmp .ne 8, 3) := by decide +kernel
theorem dX6_go_25 : decode cX6_go 25 = .ok (.bipush 40, 2) := by decide +kernel
theorem dX6_go_27 : decode cX6_go 27 = .ok (.goto 4, 3) := by decide +kernel
theorem dX6_go_30 : decode cX6_go 30 = .ok (.iconst 0, 1) := by decide +kernel
theorem dX6_go_31 : decode cX6_go 31 = .ok (.putfield 52, 3) := by decide +kernel
theorem dX6_go_34 : decode cX6_go 34 = .ok (.aload_n 0, 1) := by decide +kernel
theorem dX6_go_35 : decode cX6_go 35 = .ok (.iload_n 1, 1) := by decide +kernel
theorem dX6_go_36 : decode cX6_go 36 = .ok (.bipush 115, 2) := by decide +kernel
theorem dX6_go_38 : decode cX6_go 38 = .ok (.if_icmp .ne 7, 3) := by decide +kernel
theorem dX6_go_41 : decode cX6_go 41 = .ok (.iconst 1, 1) := by decide +kernel
theorem dX6_go_42 : decode cX6_go 42 = .ok (.goto 4, 3) := by decide +kernel
theorem dX6_go_45 : decode cX6_go 45 = .ok (.iconst 2, 1) := by decide +kernel
theorem dX6_go_46 : decode cX6_go 46 = .ok (.putfield 55, 3) := by decide +kernel
theorem dX6_go_49 : decode cX6_go 49 = .ok (.iload_n 1, 1) := by decide +kernel
theorem dX6_go_50 : decode cX6_go 50 = .ok (.bipush 115, 2) := by decide +kernel
theorem dX6_go_52 : decode cX6_go 52 = .ok (.if_icmp .eq 15, 3) := by decide +kernel
theorem dX6_go_55 : decode cX6_go 55 = .ok (.iload_n 1, 1) := by decide +kernel
theorem dX6_go_56 : decode cX6_go 56 = .ok (.bipush 99, 2) := by decide +kernel
theorem dX6_go_58 : decode cX6_go 58 = .ok (.if_icmp .eq 9, 3) := by decide +kernel
theorem dX6_go_61 : decode cX6_go 61 = .ok (.iload_n 1, 1) := by decide +kernel
theorem dX6_go_62 : decode cX6_go 62 = .ok (.bipush 121, 2) := by decide +kernel
theorem dX6_go_64 : decode cX6_go 64 = .ok (.if_icmp .ne 7, 3) := by decide +kernel
theorem dX6_go_67 : decode cX6_go 67 = .ok (.iconst 1, 1) := by decide +kernel
theorem dX6_go_68 : decode cX6_go 68 = .ok (.goto 4, 3) := by decide +kernel
theorem dX6_go_71 : decode cX6_go 71 = .ok (.iconst 0, 1) := by decide +kernel
theorem dX6_go_72 : decode cX6_go 72 = .ok (.ireturn, 1) := by decide +kernel
theorem dX6_go_73 : decode cX6_go 73 = .ok (.aload_n 0, 1) := by decide +kernel
theorem dX6_go_74 : decode cX6_go 74 = .ok (.getfield 55, 3) := by decide +kernel
theorem dX6_go_77 : decode cX6_go 77 = .ok (.iconst 3, 1) := by decide +kernel
theorem dX6_go_78 : decode cX6_go 78 = .ok (.if_icmp .ne 29, 3) := by decide +kernel
theorem dX6_go_81 : decode cX6_go 81 = .ok (.aload_n 0, 1) := by decide +kernel
theorem dX6_go_82 : decode cX6_go 82 = .ok (.iconst 0, 1) := by decide +kernel
theorem dX6_go_83 : decode cX6_go 83 = .ok (.putfield 55, 3) := by decide +kernel
theorem dX6_go_86 : decode cX6_go 86 = .ok (.iload_n 1, 1) := by decide +kernel
theorem dX6_go_87 : decode cX6_go 87 = .ok (.bipush 44, 2) := by decide +kernel
theorem dX6_go_89 : decode cX6_go 89 = .ok (.if_icmp .ne 16, 3) := by decide +kernel
theorem dX6_go_92 : decode cX6_go 92 = .ok (.aload_n 0, 1) := by decide +kernel
theorem dX6_go_93 : decode cX6_go 93 = .ok (.getfield 58, 3) := by decide +kernel
theorem dX6_go_96 : decode cX6_go 96 = .ok (.bipush 10, 2) := by decide +kernel
theorem dX6_go_98 : decode cX6_go 98 = .ok (.if_icmp .ge 7, 3) := by decide +kernel
theorem dX6_go_101 : decode cX6_go 101 = .ok (.iconst 1, 1) := by decide +kernel
theorem dX6_go_102 : decode cX6_go 102 = .ok (.goto 4, 3) := by decide +kernel
theorem dX6_go_105 : decode cX6_go 105 = .ok (.iconst 0, 1) := by decide +kernel
theorem dX6_go_106 : decode cX6_go 106 = .ok (.ireturn, 1) := by decide +kernel
theorem dX6_go_107 : decode cX6_go 107 = .ok (.aload_n 0, 1) := by decide +kernel
theorem dX6_go_108 : decode cX6_go 108 = .ok (.iload_n 1, 1) := by decide +kernel
theorem dX6_go_109 : decode cX6_go 109 = .ok (.bipush 48, 2) := by decide +kernel
theorem dX6_go_111 : decode cX6_go 111 = .ok (.isub, 1) := by decide +kernel
theorem dX6_go_112 : decode cX6_go 112 = .ok (.invokevirtual 61, 3) := by decide +kernel
theorem dX6_go_115 : decode cX6_go 115 = .ok (.ireturn, 1) := by decide +kernel
set_option maxRecDepth 20000 in
theorem ggX6_faultOf_X6_go : GoodIn wsX6_faultOf wsX6_go := goodIn_r _ [9, 2, 10, 1, 11, 12, 13, 8, 14, 15, 16, 17, 18, 19, 20, 21, 22, 23, 24, 25, 26, 27, 28, 29, 30, 31, 32, 33, 34, 35, 36, 37, 38, 39, 40, 41, 42, 43] (by decide +kernel) (by decide +kernel)
set_option maxRecDepth 20000 in
theorem gX6_faultOf_X6_go : GoodIn wsX6_faultOf (wsV RX6 65 RX6 yX6_go wsX6_go) := goodIn_app (goodIn_of _ (by decide +kernel)) ggX6_faultOf_X6_go
theorem dX6_faultOf_0 : decode cX6_faultOf 0 = .ok (.aload_n 0, 1) := by decide +kernel
theorem dX6_faultOf_1 : decode cX6_faultOf 1 = .ok (.iconst 0, 1) := by decide +kernel
theorem dX6_faultOf_2 : decode cX6_faultOf 2 = .ok (.putfield 58, 3) := by decide +kernel
theorem dX6_faultOf_5 : decode cX6_faultOf 5 = .ok (.aload_n 0, 1) := by decide +kernel
theorem dX6_faultOf_6 : decode cX6_faultOf 6 = .ok (.iconst 0, 1) := by decide +kernel
theorem dX6_faultOf_7 : decode cX6_faultOf 7 = .ok (.putfield 55, 3) := by decide +kernel
theorem dX6_faultOf_10 : decode cX6_faultOf 10 = .ok (.iconst 0, 1) := by decide +kernel
theorem dX6_faultOf_11 : decode cX6_faultOf 11 = .ok (.istore_n 1, 1) := by decide +kernel
theorem dX6_faultOf_12 : decode cX6_faultOf 12 = .ok (.iload_n 1, 1) := by decide +kernel
theorem dX6_faultOf_13 : decode cX6_faultOf 13 = .ok (.aload_n 0, 1) := by decide +kernel
theorem dX6_faultOf_14 : decode cX6_faultOf 14 = .ok (.getfield 47, 3) := by decide +kernel
theorem dX6_faultOf_17 : decode cX6_faultOf 17 = .ok (.if_icmp .ge 22, 3) := by decide +kernel
theorem dX6_faultOf_20 : decode cX6_faultOf 20 = .ok (.aload_n 0, 1) := by decide +kernel
theorem dX6_faultOf_21 : decode cX6_faultOf 21 = .ok (.aload_n 0, 1) := by decide +kernel
theorem dX6_faultOf_22 : decode cX6_faultOf 22 = .ok (.getfield 7, 3) := by decide +kernel
theorem dX6_faultOf_25 : decode cX6_faultOf 25 = .ok (.iload_n 1, 1) := by decide +kernel
theorem dX6_faultOf_26 : decode cX6_faultOf 26 = .ok (.iaload, 1) := by decide +kernel
theorem dX6_faultOf_27 : decode cX6_faultOf 27 = .ok (.invokevirtual 65, 3) := by decide +kernel
theorem dX6_faultOf_30 : decode cX6_faultOf 30 = .ok (.ifCond .eq 9, 3) := by decide +kernel
theorem dX6_faultOf_33 : decode cX6_faultOf 33 = .ok (.iinc 1 1, 3) := by decide +kernel
theorem dX6_faultOf_36 : decode cX6_faultOf 36 = .ok (.goto (-24), 3) := by decide +kernel
theorem dX6_faultOf_39 : decode cX6_faultOf 39 = .ok (.iload_n 1, 1) := by decide +kernel
theorem dX6_faultOf_40 : decode cX6_faultOf 40 = .ok (.ireturn, 1) := by decide +kernel
set_option maxRecDepth 20000 in
theorem ggX6_fault_X6_faultOf : GoodIn wsX6_fault wsX6_faultOf := goodIn_r _ [5, 6, 7, 8, 9, 10, 11, 12, 4, 13, 14, 15, 16, 17, 18, 19, 20, 21, 22, 23, 24, 25, 26, 27, 28, 29, 30, 31, 32, 33, 34, 35, 36, 37, 38, 39, 40, 41, 42, 43, 44, 45, 46, 47] (by decide +kernel) (by decide +kernel)
set_option maxRecDepth 20000 in
theorem gX6_fault_X6_faultOf : GoodIn wsX6_fault (wsV RX6 68 RX6 yX6_faultOf wsX6_faultOf) := goodIn_app (goodIn_of _ (by decide +kernel)) ggX6_fault_X6_faultOf
theorem dX6_fault_0 : decode cX6_fault 0 = .ok (.aload_n 0, 1) := by decide +kernel
theorem dX6_fault_1 : decode cX6_fault 1 = .ok (.invokevirtual 68, 3) := by decide +kernel
theorem dX6_fault_4 : decode cX6_fault 4 = .ok (.ireturn, 1) := by decide +kernel
set_option maxRecDepth 20000 in
theorem ggX6_isBeing_X6_in : GoodIn wsX6_isBeing wsX6_in := goodIn_r _ [5] (by decide +kernel) (by decide +kernel)
set_option maxRecDepth 20000 in
theorem gX6_isBeing_X6_in : GoodIn wsX6_isBeing (va_wsS RX6 43 yX6_in wsX6_in) := goodIn_app (goodIn_of _ (by decide +kernel)) ggX6_isBeing_X6_in
theorem dX6_isBeing_0 : decode cX6_isBeing 0 = .ok (.iload_n 1, 1) := by decide +kernel
theorem dX6_isBeing_1 : decode cX6_isBeing 1 = .ok (.i2l, 1) := by decide +kernel
theorem dX6_isBeing_2 : decode cX6_isBeing 2 = .ok (.lconst 0, 1) := by decide +kernel
theorem dX6_isBeing_3 : decode cX6_isBeing 3 = .ok (.aload_n 0, 1) := by decide +kernel
theorem dX6_isBeing_4 : decode cX6_isBeing 4 = .ok (.getfield 72, 3) := by decide +kernel
theorem dX6_isBeing_7 : decode cX6_isBeing 7 = .ok (.iconst 1, 1) := by decide +kernel
theorem dX6_isBeing_8 : decode cX6_isBeing 8 = .ok (.isub, 1) := by decide +kernel
theorem dX6_isBeing_9 : decode cX6_isBeing 9 = .ok (.i2l, 1) := by decide +kernel
theorem dX6_isBeing_10 : decode cX6_isBeing 10 = .ok (.invokestatic 43, 3) := by decide +kernel
theorem dX6_isBeing_13 : decode cX6_isBeing 13 = .ok (.ireturn, 1) := by decide +kernel
set_option maxRecDepth 20000 in
theorem ggX6_being_X6_in : GoodIn wsX6_being wsX6_in := goodIn_r _ [10] (by decide +kernel) (by decide +kernel)
set_option maxRecDepth 20000 in
theorem gX6_being_X6_in : GoodIn wsX6_being (va_wsS RX6 43 yX6_in wsX6_in) := goodIn_app (goodIn_of _ (by decide +kernel)) ggX6_being_X6_in
theorem dX6_being_0 : decode cX6_being 0 = .ok (.iload_n 1, 1) := by decide +kernel
theorem dX6_being_1 : decode cX6_being 1 = .ok (.i2l, 1) := by decide +kernel
theorem dX6_being_2 : decode cX6_being 2 = .ok (.lconst 0, 1) := by decide +kernel
theorem dX6_being_3 : decode cX6_being 3 = .ok (.ldc2_w 50, 3) := by decide +kernel
theorem dX6_being_6 : decode cX6_being 6 = .ok (.invokestatic 43, 3) := by decide +kernel
theorem dX6_being_9 : decode cX6_being 9 = .ok (.ifCond .eq 40, 3) := by decide +kernel
theorem dX6_being_12 : decode cX6_being 12 = .ok (.iload_n 2, 1) := by decide +kernel
theorem dX6_being_13 : decode cX6_being 13 = .ok (.i2l, 1) := by decide +kernel
theorem dX6_being_14 : decode cX6_being 14 = .ok (.lconst 1, 1) := by decide +kernel
theorem dX6_being_15 : decode cX6_being 15 = .ok (.ldc2_w 75, 3) := by decide +kernel
theorem dX6_being_18 : decode cX6_being 18 = .ok (.invokestatic 43, 3) := by decide +kernel
theorem dX6_being_21 : decode cX6_being 21 = .ok (.ifCond .eq 28, 3) := by decide +kernel
theorem dX6_being_24 : decode cX6_being 24 = .ok (.iload_n 3, 1) := by decide +kernel
theorem dX6_being_25 : decode cX6_being 25 = .ok (.i2l, 1) := by decide +kernel
theorem dX6_being_26 : decode cX6_being 26 = .ok (.lconst 0, 1) := by decide +kernel
theorem dX6_being_27 : decode cX6_being 27 = .ok (.ldc2_w 77, 3) := by decide +kernel
theorem dX6_being_30 : decode cX6_being 30 = .ok (.invokestatic 43, 3) := by decide +kernel
theorem dX6_being_33 : decode cX6_being 33 = .ok (.ifCond .eq 16, 3) := by decide +kernel
theorem dX6_being_36 : decode cX6_being 36 = .ok (.iload 4, 2) := by decide +kernel
theorem dX6_being_38 : decode cX6_being 38 = .ok (.i2l, 1) := by decide +kernel
theorem dX6_being_39 : decode cX6_being 39 = .ok (.lconst 0, 1) := by decide +kernel
theorem dX6_being_40 : decode cX6_being 40 = .ok (.ldc2_w 79, 3) := by decide +kernel
theorem dX6_being_43 : decode cX6_being 43 = .ok (.invokestatic 43, 3) := by decide +kernel
theorem dX6_being_46 : decode cX6_being 46 = .ok (.ifCond .ne 6, 3) := by decide +kernel
theorem dX6_being_49 : decode cX6_being 49 = .ok (.bipush (-102), 2) := by decide +kernel
theorem dX6_being_51 : decode cX6_being 51 = .ok (.ireturn, 1) := by decide +kernel
theorem dX6_being_52 : decode cX6_being 52 = .ok (.aload_n 0, 1) := by decide +kernel
theorem dX6_being_53 : decode cX6_being 53 = .ok (.getfield 72, 3) := by decide +kernel
theorem dX6_being_56 : decode cX6_being 56 = .ok (.iconst 5, 1) := by decide +kernel
theorem dX6_being_57 : decode cX6_being 57 = .ok (.if_icmp .ne 6, 3) := by decide +kernel
theorem dX6_being_60 : decode cX6_being 60 = .ok (.bipush (-104), 2) := by decide +kernel
theorem dX6_being_62 : decode cX6_being 62 = .ok (.ireturn, 1) := by decide +kernel
theorem dX6_being_63 : decode cX6_being 63 = .ok (.aload_n 0, 1) := by decide +kernel
theorem dX6_being_64 : decode cX6_being 64 = .ok (.getfield 16, 3) := by decide +kernel
theorem dX6_being_67 : decode cX6_being 67 = .ok (.iconst 4, 1) := by decide +kernel
theorem dX6_being_68 : decode cX6_being 68 = .ok (.aload_n 0, 1) := by decide +kernel
theorem dX6_being_69 : decode cX6_being 69 = .ok (.getfield 72, 3) := by decide +kernel
theorem dX6_being_72 : decode cX6_being 72 = .ok (.imul, 1) := by decide +kernel
theorem dX6_being_73 : decode cX6_being 73 = .ok (.iload_n 1, 1) := by decide +kernel
theorem dX6_being_74 : decode cX6_being 74 = .ok (.iastore, 1) := by decide +kernel
theorem dX6_being_75 : decode cX6_being 75 = .ok (.aload_n 0, 1) := by decide +kernel
theorem dX6_being_76 : decode cX6_being 76 = .ok (.getfield 16, 3) := by decide +kernel
theorem dX6_being_79 : decode cX6_being 79 = .ok (.iconst 4, 1) := by decide +kernel
theorem dX6_being_80 : decode cX6_being 80 = .ok (.aload_n 0, 1) := by decide +kernel
theorem dX6_being_81 : decode cX6_being 81 = .ok (.getfield 72, 3) := by decide +kernel
theorem dX6_being_84 : decode cX6_being 84 = .ok (.imul, 1) := by decide +kernel
theorem dX6_being_85 : decode cX6_being 85 = .ok (.iconst 1, 1) := by decide +kernel
theorem dX6_being_86 : decode cX6_being 86 = .ok (.iadd, 1) := by decide +kernel
theorem dX6_being_87 : decode cX6_being 87 = .ok (.iload_n 2, 1) := by decide +kernel
theorem dX6_being_88 : decode cX6_being 88 = .ok (.iastore, 1) := by decide +kernel
theorem dX6_being_89 : decode cX6_being 89 = .ok (.aload_n 0, 1) := by decide +kernel
theorem dX6_being_90 : decode cX6_being 90 = .ok (.getfield 16, 3) := by decide +kernel
theorem dX6_being_93 : decode cX6_being 93 = .ok (.iconst 4, 1) := by decide +kernel
theorem dX6_being_94 : decode cX6_being 94 = .ok (.aload_n 0, 1) := by decide +kernel
theorem dX6_being_95 : decode cX6_being 95 = .ok (.getfield 72, 3) := by decide +kernel
theorem dX6_being_98 : decode cX6_being 98 = .ok (.imul, 1) := by decide +kernel
theorem dX6_being_99 : decode cX6_being 99 = .ok (.iconst 2, 1) := by decide +kernel
theorem dX6_being_100 : decode cX6_being 100 = .ok (.iadd, 1) := by decide +kernel
theorem dX6_being_101 : decode cX6_being 101 = .ok (.iload_n 3, 1) := by decide +kernel
theorem dX6_being_102 : decode cX6_being 102 = .ok (.iastore, 1) := by decide +kernel
theorem dX6_being_103 : decode cX6_being 103 = .ok (.aload_n 0, 1) := by decide +kernel
theorem dX6_being_104 : decode cX6_being 104 = .ok (.getfield 16, 3) := by decide +kernel
theorem dX6_being_107 : decode cX6_being 107 = .ok (.iconst 4, 1) := by decide +kernel
theorem dX6_being_108 : decode cX6_being 108 = .ok (.aload_n 0, 1) := by decide +kernel
theorem dX6_being_109 : decode cX6_being 109 = .ok (.getfield 72, 3) := by decide +kernel
theorem dX6_being_112 : decode cX6_being 112 = .ok (.imul, 1) := by decide +kernel
theorem dX6_being_113 : decode cX6_being 113 = .ok (.iconst 3, 1) := by decide +kernel
theorem dX6_being_114 : decode cX6_being 114 = .ok (.iadd, 1) := by decide +kernel
theorem dX6_being_115 : decode cX6_being 115 = .ok (.iload 4, 2) := by decide +kernel
theorem dX6_being_117 : decode cX6_being 117 = .ok (.iastore, 1) := by decide +kernel
theorem dX6_being_118 : decode cX6_being 118 = .ok (.aload_n 0, 1) := by decide +kernel
theorem dX6_being_119 : decode cX6_being 119 = .ok (.dup, 1) := by decide +kernel
theorem dX6_being_120 : decode cX6_being 120 = .ok (.getfield 72, 3) := by decide +kernel
theorem dX6_being_123 : decode cX6_being 123 = .ok (.iconst 1, 1) := by decide +kernel
theorem dX6_being_124 : decode cX6_being 124 = .ok (.iadd, 1) := by decide +kernel
theorem dX6_being_125 : decode cX6_being 125 = .ok (.putfield 72, 3) := by decide +kernel
theorem dX6_being_128 : decode cX6_being 128 = .ok (.aload_n 0, 1) := by decide +kernel
theorem dX6_being_129 : decode cX6_being 129 = .ok (.getfield 72, 3) := by decide +kernel
theorem dX6_being_132 : decode cX6_being 132 = .ok (.iconst 1, 1) := by decide +kernel
theorem dX6_being_133 : decode cX6_being 133 = .ok (.isub, 1) := by decide +kernel
theorem dX6_being_134 : decode cX6_being 134 = .ok (.ireturn, 1) := by decide +kernel
theorem dX6_unit_0 : decode cX6_unit 0 = .ok (.iconst 1, 1) := by decide +kernel
theorem dX6_unit_1 : decode cX6_unit 1 = .ok (.istore_n 1, 1) := by decide +kernel
theorem dX6_unit_2 : decode cX6_unit 2 = .ok (.iconst 0, 1) := by decide +kernel
theorem dX6_unit_3 : decode cX6_unit 3 = .ok (.istore_n 2, 1) := by decide +kernel
theorem dX6_unit_4 : decode cX6_unit 4 = .ok (.iload_n 2, 1) := by decide +kernel
theorem dX6_unit_5 : decode cX6_unit 5 = .ok (.iload_n 0, 1) := by decide +kernel
theorem dX6_unit_6 : decode cX6_unit 6 = .ok (.if_icmp .ge 14, 3) := by decide +kernel
theorem dX6_unit_9 : decode cX6_unit 9 = .ok (.iload_n 1, 1) := by decide +kernel
theorem dX6_unit_10 : decode cX6_unit 10 = .ok (.bipush 6, 2) := by decide +kernel
theorem dX6_unit_12 : decode cX6_unit 12 = .ok (.imul, 1) := by decide +kernel
theorem dX6_unit_13 : decode cX6_unit 13 = .ok (.istore_n 1, 1) := by decide +kernel
theorem dX6_unit_14 : decode cX6_unit 14 = .ok (.iinc 2 1, 3) := by decide +kernel
theorem dX6_unit_17 : decode cX6_unit 17 = .ok (.goto (-13), 3) := by decide +kernel
theorem dX6_unit_20 : decode cX6_unit 20 = .ok (.iload_n 1, 1) := by decide +kernel
theorem dX6_unit_21 : decode cX6_unit 21 = .ok (.ireturn, 1) := by decide +kernel
set_option maxRecDepth 20000 in
theorem ggX6_holder_X6_unit : GoodIn wsX6_holder wsX6_unit := goodIn_r _ [4] (by decide +kernel) (by decide +kernel)
set_option maxRecDepth 20000 in
theorem gX6_holder_X6_unit : GoodIn wsX6_holder (va_wsS RX6 81 yX6_unit wsX6_unit) := goodIn_app (goodIn_of _ (by decide +kernel)) ggX6_holder_X6_unit
theorem dX6_holder_0 : decode cX6_holder 0 = .ok (.iload_n 0, 1) := by decide +kernel
theorem dX6_holder_1 : decode cX6_holder 1 = .ok (.iload_n 1, 1) := by decide +kernel
theorem dX6_holder_2 : decode cX6_holder 2 = .ok (.invokestatic 81, 3) := by decide +kernel
theorem dX6_holder_5 : decode cX6_holder 5 = .ok (.idiv, 1) := by decide +kernel
theorem dX6_holder_6 : decode cX6_holder 6 = .ok (.bipush 6, 2) := by decide +kernel
theorem dX6_holder_8 : decode cX6_holder 8 = .ok (.irem, 1) := by decide +kernel
theorem dX6_holder_9 : decode cX6_holder 9 = .ok (.iconst 1, 1) := by decide +kernel
theorem dX6_holder_10 : decode cX6_holder 10 = .ok (.isub, 1) := by decide +kernel
theorem dX6_holder_11 : decode cX6_holder 11 = .ok (.ireturn, 1) := by decide +kernel
set_option maxRecDepth 20000 in
theorem ggX6_moved_X6_holder : GoodIn wsX6_moved wsX6_holder := goodIn_r _ [4, 5, 6, 3, 7] (by decide +kernel) (by decide +kernel)
set_option maxRecDepth 20000 in
theorem gX6_moved_X6_holder : GoodIn wsX6_moved (va_wsS RX6 85 yX6_holder wsX6_holder) := goodIn_app (goodIn_of _ (by decide +kernel)) ggX6_moved_X6_holder
set_option maxRecDepth 20000 in
theorem ggX6_moved_X6_unit : GoodIn wsX6_moved wsX6_unit := goodIn_r _ [7] (by decide +kernel) (by decide +kernel)
set_option maxRecDepth 20000 in
theorem gX6_moved_X6_unit : GoodIn wsX6_moved (va_wsS RX6 81 yX6_unit wsX6_unit) := goodIn_app (goodIn_of _ (by decide +kernel)) ggX6_moved_X6_unit
theorem dX6_moved_0 : decode cX6_moved 0 = .ok (.iload_n 0, 1) := by decide +kernel
theorem dX6_moved_1 : decode cX6_moved 1 = .ok (.iload_n 2, 1) := by decide +kernel
theorem dX6_moved_2 : decode cX6_moved 2 = .ok (.iload_n 0, 1) := by decide +kernel
theorem dX6_moved_3 : decode cX6_moved 3 = .ok (.iload_n 1, 1) := by decide +kernel
theorem dX6_moved_4 : decode cX6_moved 4 = .ok (.invokestatic 85, 3) := by decide +kernel
theorem dX6_moved_7 : decode cX6_moved 7 = .ok (.isub, 1) := by decide +kernel
theorem dX6_moved_8 : decode cX6_moved 8 = .ok (.iload_n 1, 1) := by decide +kernel
theorem dX6_moved_9 : decode cX6_moved 9 = .ok (.invokestatic 81, 3) := by decide +kernel
theorem dX6_moved_12 : decode cX6_moved 12 = .ok (.imul, 1) := by decide +kernel
theorem dX6_moved_13 : decode cX6_moved 13 = .ok (.iadd, 1) := by decide +kernel
theorem dX6_moved_14 : decode cX6_moved 14 = .ok (.ireturn, 1) := by decide +kernel
set_option maxRecDepth 20000 in
theorem ggX6_filled_X6_holder : GoodIn wsX6_filled wsX6_holder := goodIn_r _ [6, 7, 8, 5, 9] (by decide +kernel) (by decide +kernel)
set_option maxRecDepth 20000 in
theorem gX6_filled_X6_holder : GoodIn wsX6_filled (va_wsS RX6 85 yX6_holder wsX6_holder) := goodIn_app (goodIn_of _ (by decide +kernel)) ggX6_filled_X6_holder
theorem dX6_filled_0 : decode cX6_filled 0 = .ok (.iconst 0, 1) := by decide +kernel
theorem dX6_filled_1 : decode cX6_filled 1 = .ok (.istore_n 3, 1) := by decide +kernel
theorem dX6_filled_2 : decode cX6_filled 2 = .ok (.iconst 0, 1) := by decide +kernel
theorem dX6_filled_3 : decode cX6_filled 3 = .ok (.istore 4, 2) := by decide +kernel
theorem dX6_filled_5 : decode cX6_filled 5 = .ok (.iload 4, 2) := by decide +kernel
theorem dX6_filled_7 : decode cX6_filled 7 = .ok (.aload_n 0, 1) := by decide +kernel
theorem dX6_filled_8 : decode cX6_filled 8 = .ok (.getfield 72, 3) := by decide +kernel
theorem dX6_filled_11 : decode cX6_filled 11 = .ok (.if_icmp .ge 37, 3) := by decide +kernel
theorem dX6_filled_14 : decode cX6_filled 14 = .ok (.iload_n 3, 1) := by decide +kernel
theorem dX6_filled_15 : decode cX6_filled 15 = .ok (.iload_n 1, 1) := by decide +kernel
theorem dX6_filled_16 : decode cX6_filled 16 = .ok (.iload 4, 2) := by decide +kernel
theorem dX6_filled_18 : decode cX6_filled 18 = .ok (.invokestatic 85, 3) := by decide +kernel
theorem dX6_filled_21 : decode cX6_filled 21 = .ok (.iload_n 2, 1) := by decide +kernel
theorem dX6_filled_22 : decode cX6_filled 22 = .ok (.if_icmp .ne 17, 3) := by decide +kernel
theorem dX6_filled_25 : decode cX6_filled 25 = .ok (.aload_n 0, 1) := by decide +kernel
theorem dX6_filled_26 : decode cX6_filled 26 = .ok (.getfield 16, 3) := by decide +kernel
theorem dX6_filled_29 : decode cX6_filled 29 = .ok (.iconst 4, 1) := by decide +kernel
theorem dX6_filled_30 : decode cX6_filled 30 = .ok (.iload 4, 2) := by decide +kernel
theorem dX6_filled_32 : decode cX6_filled 32 = .ok (.imul, 1) := by decide +kernel
theorem dX6_filled_33 : decode cX6_filled 33 = .ok (.iconst 1, 1) := by decide +kernel
theorem dX6_filled_34 : decode cX6_filled 34 = .ok (.iadd, 1) := by decide +kernel
theorem dX6_filled_35 : decode cX6_filled 35 = .ok (.iaload, 1) := by decide +kernel
theorem dX6_filled_36 : decode cX6_filled 36 = .ok (.goto 4, 3) := by decide +kernel
theorem dX6_filled_39 : decode cX6_filled 39 = .ok (.iconst 0, 1) := by decide +kernel
theorem dX6_filled_40 : decode cX6_filled 40 = .ok (.iadd, 1) := by decide +kernel
theorem dX6_filled_41 : decode cX6_filled 41 = .ok (.istore_n 3, 1) := by decide +kernel
theorem dX6_filled_42 : decode cX6_filled 42 = .ok (.iinc 4 1, 3) := by decide +kernel
theorem dX6_filled_45 : decode cX6_filled 45 = .ok (.goto (-40), 3) := by decide +kernel
theorem dX6_filled_48 : decode cX6_filled 48 = .ok (.iload_n 3, 1) := by decide +kernel
theorem dX6_filled_49 : decode cX6_filled 49 = .ok (.ireturn, 1) := by decide +kernel
set_option maxRecDepth 20000 in
theorem ggX6_swallowed_X6_filled : GoodIn wsX6_swallowed wsX6_filled := goodIn_r _ [6, 7, 1, 8, 9, 5, 10, 11, 12, 13, 17, 18, 19, 20, 21, 22, 23, 24, 25, 26, 27, 28, 29, 30, 31, 32, 33, 34, 35, 36, 37, 38, 39, 40] (by decide +kernel) (by decide +kernel)
set_option maxRecDepth 20000 in
theorem gX6_swallowed_X6_filled : GoodIn wsX6_swallowed (wsV RX6 89 RX6 yX6_filled wsX6_filled) := goodIn_app (goodIn_of _ (by decide +kernel)) ggX6_swallowed_X6_filled
set_option maxRecDepth 20000 in
theorem ggX6_swallowed_X6_holder : GoodIn wsX6_swallowed wsX6_holder := goodIn_r _ [10, 11, 12, 5, 13] (by decide +kernel) (by decide +kernel)
set_option maxRecDepth 20000 in
theorem gX6_swallowed_X6_holder : GoodIn wsX6_swallowed (va_wsS RX6 85 yX6_holder wsX6_holder) := goodIn_app (goodIn_of _ (by decide +kernel)) ggX6_swallowed_X6_holder
set_option maxRecDepth 20000 in
theorem ggX6_swallowed_X6_moved : GoodIn wsX6_swallowed wsX6_moved := goodIn_r _ [16, 8, 9, 5, 10, 11, 12, 13] (by decide +kernel) (by decide +kernel)
set_option maxRecDepth 20000 in
theorem gX6_swallowed_X6_moved : GoodIn wsX6_swallowed (va_wsS RX6 92 yX6_moved wsX6_moved) := goodIn_app (goodIn_of _ (by decide +kernel)) ggX6_swallowed_X6_moved
theorem dX6_swallowed_0 : decode cX6_swallowed 0 = .ok (.aload_n 0, 1) := by decide +kernel
theorem dX6_swallowed_1 : decode cX6_swallowed 1 = .ok (.getfield 16, 3) := by decide +kernel
theorem dX6_swallowed_4 : decode cX6_swallowed 4 = .ok (.iconst 4, 1) := by decide +kernel
theorem dX6_swallowed_5 : decode cX6_swallowed 5 = .ok (.iload_n 2, 1) := by decide +kernel
theorem dX6_swallowed_6 : decode cX6_swallowed 6 = .ok (.imul, 1) := by decide +kernel
theorem dX6_swallowed_7 : decode cX6_swallowed 7 = .ok (.iaload, 1) := by decide +kernel
theorem dX6_swallowed_8 : decode cX6_swallowed 8 = .ok (.istore 4, 2) := by decide +kernel
theorem dX6_swallowed_10 : decode cX6_swallowed 10 = .ok (.aload_n 0, 1) := by decide +kernel
theorem dX6_swallowed_11 : decode cX6_swallowed 11 = .ok (.iload_n 1, 1) := by decide +kernel
theorem dX6_swallowed_12 : decode cX6_swallowed 12 = .ok (.iload_n 3, 1) := by decide +kernel
theorem dX6_swallowed_13 : decode cX6_swallowed 13 = .ok (.invokevirtual 89, 3) := by decide +kernel
theorem dX6_swallowed_16 : decode cX6_swallowed 16 = .ok (.istore 5, 2) := by decide +kernel
theorem dX6_swallowed_18 : decode cX6_swallowed 18 = .ok (.iload 4, 2) := by decide +kernel
theorem dX6_swallowed_20 : decode cX6_swallowed 20 = .ok (.ifCond .le 50, 3) := by decide +kernel
theorem dX6_swallowed_23 : decode cX6_swallowed 23 = .ok (.iload_n 2, 1) := by decide +kernel
theorem dX6_swallowed_24 : decode cX6_swallowed 24 = .ok (.iload_n 3, 1) := by decide +kernel
theorem dX6_swallowed_25 : decode cX6_swallowed 25 = .ok (.if_icmp .eq 45, 3) := by decide +kernel
theorem dX6_swallowed_28 : decode cX6_swallowed 28 = .ok (.aload_n 0, 1) := by decide +kernel
theorem dX6_swallowed_29 : decode cX6_swallowed 29 = .ok (.getfield 16, 3) := by decide +kernel
theorem dX6_swallowed_32 : decode cX6_swallowed 32 = .ok (.iconst 4, 1) := by decide +kernel
theorem dX6_swallowed_33 : decode cX6_swallowed 33 = .ok (.iload_n 2, 1) := by decide +kernel
theorem dX6_swallowed_34 : decode cX6_swallowed 34 = .ok (.imul, 1) := by decide +kernel
theorem dX6_swallowed_35 : decode cX6_swallowed 35 = .ok (.iconst 3, 1) := by decide +kernel
theorem dX6_swallowed_36 : decode cX6_swallowed 36 = .ok (.iadd, 1) := by decide +kernel
theorem dX6_swallowed_37 : decode cX6_swallowed 37 = .ok (.iaload, 1) := by decide +kernel
theorem dX6_swallowed_38 : decode cX6_swallowed 38 = .ok (.aload_n 0, 1) := by decide +kernel
theorem dX6_swallowed_39 : decode cX6_swallowed 39 = .ok (.getfield 16, 3) := by decide +kernel
theorem dX6_swallowed_42 : decode cX6_swallowed 42 = .ok (.iconst 4, 1) := by decide +kernel
theorem dX6_swallowed_43 : decode cX6_swallowed 43 = .ok (.iload_n 3, 1) := by decide +kernel
theorem dX6_swallowed_44 : decode cX6_swallowed 44 = .ok (.imul, 1) := by decide +kernel
theorem dX6_swallowed_45 : decode cX6_swallowed 45 = .ok (.iaload, 1) := by decide +kernel
theorem dX6_swallowed_46 : decode cX6_swallowed 46 = .ok (.ishr, 1) := by decide +kernel
theorem dX6_swallowed_47 : decode cX6_swallowed 47 = .ok (.iconst 1, 1) := by decide +kernel
theorem dX6_swallowed_48 : decode cX6_swallowed 48 = .ok (.iand, 1) := by decide +kernel
theorem dX6_swallowed_49 : decode cX6_swallowed 49 = .ok (.iconst 1, 1) := by decide +kernel
theorem dX6_swallowed_50 : decode cX6_swallowed 50 = .ok (.if_icmp .ne 20, 3) := by decide +kernel
theorem dX6_swallowed_53 : decode cX6_swallowed 53 = .ok (.iload_n 1, 1) := by decide +kernel
theorem dX6_swallowed_54 : decode cX6_swallowed 54 = .ok (.iload_n 2, 1) := by decide +kernel
theorem dX6_swallowed_55 : decode cX6_swallowed 55 = .ok (.invokestatic 85, 3) := by decide +kernel
theorem dX6_swallowed_58 : decode cX6_swallowed 58 = .ok (.iload_n 1, 1) := by decide +kernel
theorem dX6_swallowed_59 : decode cX6_swallowed 59 = .ok (.iload_n 3, 1) := by decide +kernel
theorem dX6_swallowed_60 : decode cX6_swallowed 60 = .ok (.invokestatic 85, 3) := by decide +kernel
theorem dX6_swallowed_63 : decode cX6_swallowed 63 = .ok (.if_icmp .ne 7, 3) := by decide +kernel
theorem dX6_swallowed_66 : decode cX6_swallowed 66 = .ok (.iconst 1, 1) := by decide +kernel
theorem dX6_swallowed_67 : decode cX6_swallowed 67 = .ok (.goto 4, 3) := by decide +kernel
theorem dX6_swallowed_70 : decode cX6_swallowed 70 = .ok (.iconst 0, 1) := by decide +kernel
theorem dX6_swallowed_71 : decode cX6_swallowed 71 = .ok (.istore 6, 2) := by decide +kernel
theorem dX6_swallowed_73 : decode cX6_swallowed 73 = .ok (.iload 6, 2) := by decide +kernel
theorem dX6_swallowed_75 : decode cX6_swallowed 75 = .ok (.ifCond .eq 57, 3) := by decide +kernel
theorem dX6_swallowed_78 : decode cX6_swallowed 78 = .ok (.aload_n 0, 1) := by decide +kernel
theorem dX6_swallowed_79 : decode cX6_swallowed 79 = .ok (.iload_n 1, 1) := by decide +kernel
theorem dX6_swallowed_80 : decode cX6_swallowed 80 = .ok (.iload_n 2, 1) := by decide +kernel
theorem dX6_swallowed_81 : decode cX6_swallowed 81 = .ok (.invokevirtual 89, 3) := by decide +kernel
theorem dX6_swallowed_84 : decode cX6_swallowed 84 = .ok (.aload_n 0, 1) := by decide +kernel
theorem dX6_swallowed_85 : decode cX6_swallowed 85 = .ok (.getfield 16, 3) := by decide +kernel
theorem dX6_swallowed_88 : decode cX6_swallowed 88 = .ok (.iconst 4, 1) := by decide +kernel
theorem dX6_swallowed_89 : decode cX6_swallowed 89 = .ok (.iload_n 3, 1) := by decide +kernel
theorem dX6_swallowed_90 : decode cX6_swallowed 90 = .ok (.imul, 1) := by decide +kernel
theorem dX6_swallowed_91 : decode cX6_swallowed 91 = .ok (.iconst 1, 1) := by decide +kernel
theorem dX6_swallowed_92 : decode cX6_swallowed 92 = .ok (.iadd, 1) := by decide +kernel
theorem dX6_swallowed_93 : decode cX6_swallowed 93 = .ok (.iaload, 1) := by decide +kernel
theorem dX6_swallowed_94 : decode cX6_swallowed 94 = .ok (.iadd, 1) := by decide +kernel
theorem dX6_swallowed_95 : decode cX6_swallowed 95 = .ok (.aload_n 0, 1) := by decide +kernel
theorem dX6_swallowed_96 : decode cX6_swallowed 96 = .ok (.getfield 16, 3) := by decide +kernel
theorem dX6_swallowed_99 : decode cX6_swallowed 99 = .ok (.iconst 4, 1) := by decide +kernel
theorem dX6_swallowed_100 : decode cX6_swallowed 100 = .ok (.iload_n 2, 1) := by decide +kernel
theorem dX6_swallowed_101 : decode cX6_swallowed 101 = .ok (.imul, 1) := by decide +kernel
theorem dX6_swallowed_102 : decode cX6_swallowed 102 = .ok (.iconst 2, 1) := by decide +kernel
theorem dX6_swallowed_103 : decode cX6_swallowed 103 = .ok (.iadd, 1) := by decide +kernel
theorem dX6_swallowed_104 : decode cX6_swallowed 104 = .ok (.iaload, 1) := by decide +kernel
theorem dX6_swallowed_105 : decode cX6_swallowed 105 = .ok (.if_icmp .gt 27, 3) := by decide +kernel
theorem dX6_swallowed_108 : decode cX6_swallowed 108 = .ok (.iload 5, 2) := by decide +kernel
theorem dX6_swallowed_110 : decode cX6_swallowed 110 = .ok (.aload_n 0, 1) := by decide +kernel
theorem dX6_swallowed_111 : decode cX6_swallowed 111 = .ok (.getfield 16, 3) := by decide +kernel
theorem dX6_swallowed_114 : decode cX6_swallowed 114 = .ok (.iconst 4, 1) := by decide +kernel
theorem dX6_swallowed_115 : decode cX6_swallowed 115 = .ok (.iload_n 3, 1) := by decide +kernel
theorem dX6_swallowed_116 : decode cX6_swallowed 116 = .ok (.imul, 1) := by decide +kernel
theorem dX6_swallowed_117 : decode cX6_swallowed 117 = .ok (.iconst 2, 1) := by decide +kernel
theorem dX6_swallowed_118 : decode cX6_swallowed 118 = .ok (.iadd, 1) := by decide +kernel
theorem dX6_swallowed_119 : decode cX6_swallowed 119 = .ok (.iaload, 1) := by decide +kernel
theorem dX6_swallowed_120 : decode cX6_swallowed 120 = .ok (.if_icmp .ne 8, 3) := by decide +kernel
theorem dX6_swallowed_123 : decode cX6_swallowed 123 = .ok (.iload 5, 2) := by decide +kernel
theorem dX6_swallowed_125 : decode cX6_swallowed 125 = .ok (.ifCond .ne 7, 3) := by decide +kernel
theorem dX6_swallowed_128 : decode cX6_swallowed 128 = .ok (.iconst 1, 1) := by decide +kernel
theorem dX6_swallowed_129 : decode cX6_swallowed 129 = .ok (.goto 4, 3) := by decide +kernel
theorem dX6_swallowed_132 : decode cX6_swallowed 132 = .ok (.iconst 0, 1) := by decide +kernel
theorem dX6_swallowed_133 : decode cX6_swallowed 133 = .ok (.istore 6, 2) := by decide +kernel
theorem dX6_swallowed_135 : decode cX6_swallowed 135 = .ok (.iload 6, 2) := by decide +kernel
theorem dX6_swallowed_137 : decode cX6_swallowed 137 = .ok (.ifCond .eq 12, 3) := by decide +kernel
theorem dX6_swallowed_140 : decode cX6_swallowed 140 = .ok (.iload_n 1, 1) := by decide +kernel
theorem dX6_swallowed_141 : decode cX6_swallowed 141 = .ok (.iload_n 3, 1) := by decide +kernel
theorem dX6_swallowed_142 : decode cX6_swallowed 142 = .ok (.iload_n 2, 1) := by decide +kernel
theorem dX6_swallowed_143 : decode cX6_swallowed 143 = .ok (.invokestatic 92, 3) := by decide +kernel
theorem dX6_swallowed_146 : decode cX6_swallowed 146 = .ok (.goto 4, 3) := by decide +kernel
theorem dX6_swallowed_149 : decode cX6_swallowed 149 = .ok (.iconst (-1), 1) := by decide +kernel
theorem dX6_swallowed_150 : decode cX6_swallowed 150 = .ok (.ireturn, 1) := by decide +kernel
set_option maxRecDepth 20000 in
theorem ggX6_comeOut_X6_holder : GoodIn wsX6_comeOut wsX6_holder := goodIn_r _ [6, 7, 8, 5, 9] (by decide +kernel) (by decide +kernel)
set_option maxRecDepth 20000 in
theorem gX6_comeOut_X6_holder : GoodIn wsX6_comeOut (va_wsS RX6 85 yX6_holder wsX6_holder) := goodIn_app (goodIn_of _ (by decide +kernel)) ggX6_comeOut_X6_holder
set_option maxRecDepth 20000 in
theorem ggX6_comeOut_X6_moved : GoodIn wsX6_comeOut wsX6_moved := goodIn_r _ [12, 3, 4, 5, 6, 7, 8, 9] (by decide +kernel) (by decide +kernel)
set_option maxRecDepth 20000 in
theorem gX6_comeOut_X6_moved : GoodIn wsX6_comeOut (va_wsS RX6 92 yX6_moved wsX6_moved) := goodIn_app (goodIn_of _ (by decide +kernel)) ggX6_comeOut_X6_moved
set_option maxRecDepth 20000 in
theorem ggX6_comeOut_X6_filled : GoodIn wsX6_comeOut wsX6_filled := goodIn_r _ [16, 1, 2, 3, 4, 5, 6, 7, 8, 9, 17, 18, 19, 20, 21, 22, 23, 24, 25, 26, 27, 28, 29, 30, 31, 32, 33, 34, 35, 36, 37, 38, 39, 40] (by decide +kernel) (by decide +kernel)
set_option maxRecDepth 20000 in
theorem gX6_comeOut_X6_filled : GoodIn wsX6_comeOut (wsV RX6 89 RX6 yX6_filled wsX6_filled) := goodIn_app (goodIn_of _ (by decide +kernel)) ggX6_comeOut_X6_filled
theorem dX6_comeOut_0 : decode cX6_comeOut 0 = .ok (.iload_n 1, 1) := by decide +kernel
theorem dX6_comeOut_1 : decode cX6_comeOut 1 = .ok (.iload_n 2, 1) := by decide +kernel
theorem dX6_comeOut_2 : decode cX6_comeOut 2 = .ok (.invokestatic 85, 3) := by decide +kernel
theorem dX6_comeOut_5 : decode cX6_comeOut 5 = .ok (.istore 4, 2) := by decide +kernel
theorem dX6_comeOut_7 : decode cX6_comeOut 7 = .ok (.iload_n 3, 1) := by decide +kernel
theorem dX6_comeOut_8 : decode cX6_comeOut 8 = .ok (.istore 5, 2) := by decide +kernel
theorem dX6_comeOut_10 : decode cX6_comeOut 10 = .ok (.iconst 0, 1) := by decide +kernel
theorem dX6_comeOut_11 : decode cX6_comeOut 11 = .ok (.istore 6, 2) := by decide +kernel
theorem dX6_comeOut_13 : decode cX6_comeOut 13 = .ok (.iload_n 1, 1) := by decide +kernel
theorem dX6_comeOut_14 : decode cX6_comeOut 14 = .ok (.istore 7, 2) := by decide +kernel
theorem dX6_comeOut_16 : decode cX6_comeOut 16 = .ok (.aload_n 0, 1) := by decide +kernel
theorem dX6_comeOut_17 : decode cX6_comeOut 17 = .ok (.getfield 72, 3) := by decide +kernel
theorem dX6_comeOut_20 : decode cX6_comeOut 20 = .ok (.iconst 1, 1) := by decide +kernel
theorem dX6_comeOut_21 : decode cX6_comeOut 21 = .ok (.isub, 1) := by decide +kernel
theorem dX6_comeOut_22 : decode cX6_comeOut 22 = .ok (.istore 8, 2) := by decide +kernel
theorem dX6_comeOut_24 : decode cX6_comeOut 24 = .ok (.iload 8, 2) := by decide +kernel
theorem dX6_comeOut_26 : decode cX6_comeOut 26 = .ok (.ifCond .lt 54, 3) := by decide +kernel
theorem dX6_comeOut_29 : decode cX6_comeOut 29 = .ok (.iload_n 1, 1) := by decide +kernel
theorem dX6_comeOut_30 : decode cX6_comeOut 30 = .ok (.iload 8, 2) := by decide +kernel
theorem dX6_comeOut_32 : decode cX6_comeOut 32 = .ok (.invokestatic 85, 3) := by decide +kernel
theorem dX6_comeOut_35 : decode cX6_comeOut 35 = .ok (.iload_n 2, 1) := by decide +kernel
theorem dX6_comeOut_36 : decode cX6_comeOut 36 = .ok (.if_icmp .ne 38, 3) := by decide +kernel
theorem dX6_comeOut_39 : decode cX6_comeOut 39 = .ok (.iload 5, 2) := by decide +kernel
theorem dX6_comeOut_41 : decode cX6_comeOut 41 = .ok (.ifCond .le 33, 3) := by decide +kernel
theorem dX6_comeOut_44 : decode cX6_comeOut 44 = .ok (.iload 7, 2) := by decide +kernel
theorem dX6_comeOut_46 : decode cX6_comeOut 46 = .ok (.iload 8, 2) := by decide +kernel
theorem dX6_comeOut_48 : decode cX6_comeOut 48 = .ok (.iload 4, 2) := by decide +kernel
theorem dX6_comeOut_50 : decode cX6_comeOut 50 = .ok (.invokestatic 92, 3) := by decide +kernel
theorem dX6_comeOut_53 : decode cX6_comeOut 53 = .ok (.istore 7, 2) := by decide +kernel
theorem dX6_comeOut_55 : decode cX6_comeOut 55 = .ok (.iload 6, 2) := by decide +kernel
theorem dX6_comeOut_57 : decode cX6_comeOut 57 = .ok (.aload_n 0, 1) := by decide +kernel
theorem dX6_comeOut_58 : decode cX6_comeOut 58 = .ok (.getfield 16, 3) := by decide +kernel
theorem dX6_comeOut_61 : decode cX6_comeOut 61 = .ok (.iconst 4, 1) := by decide +kernel
theorem dX6_comeOut_62 : decode cX6_comeOut 62 = .ok (.iload 8, 2) := by decide +kernel
theorem dX6_comeOut_64 : decode cX6_comeOut 64 = .ok (.imul, 1) := by decide +kernel
theorem dX6_comeOut_65 : decode cX6_comeOut 65 = .ok (.iconst 1, 1) := by decide +kernel
theorem dX6_comeOut_66 : decode cX6_comeOut 66 = .ok (.iadd, 1) := by decide +kernel
theorem dX6_comeOut_67 : decode cX6_comeOut 67 = .ok (.iaload, 1) := by decide +kernel
theorem dX6_comeOut_68 : decode cX6_comeOut 68 = .ok (.iadd, 1) := by decide +kernel
theorem dX6_comeOut_69 : decode cX6_comeOut 69 = .ok (.istore 6, 2) := by decide +kernel
theorem dX6_comeOut_71 : decode cX6_comeOut 71 = .ok (.iinc 5 (-1), 3) := by decide +kernel
theorem dX6_comeOut_74 : decode cX6_comeOut 74 = .ok (.iinc 8 (-1), 3) := by decide +kernel
theorem dX6_comeOut_77 : decode cX6_comeOut 77 = .ok (.goto (-53), 3) := by decide +kernel
theorem dX6_comeOut_80 : decode cX6_comeOut 80 = .ok (.iload 4, 2) := by decide +kernel
theorem dX6_comeOut_82 : decode cX6_comeOut 82 = .ok (.iconst (-1), 1) := by decide +kernel
theorem dX6_comeOut_83 : decode cX6_comeOut 83 = .ok (.if_icmp .eq 27, 3) := by decide +kernel
theorem dX6_comeOut_86 : decode cX6_comeOut 86 = .ok (.aload_n 0, 1) := by decide +kernel
theorem dX6_comeOut_87 : decode cX6_comeOut 87 = .ok (.iload_n 1, 1) := by decide +kernel
theorem dX6_comeOut_88 : decode cX6_comeOut 88 = .ok (.iload 4, 2) := by decide +kernel
theorem dX6_comeOut_90 : decode cX6_comeOut 90 = .ok (.invokevirtual 89, 3) := by decide +kernel
theorem dX6_comeOut_93 : decode cX6_comeOut 93 = .ok (.iload 6, 2) := by decide +kernel
theorem dX6_comeOut_95 : decode cX6_comeOut 95 = .ok (.iadd, 1) := by decide +kernel
theorem dX6_comeOut_96 : decode cX6_comeOut 96 = .ok (.aload_n 0, 1) := by decide +kernel
theorem dX6_comeOut_97 : decode cX6_comeOut 97 = .ok (.getfield 16, 3) := by decide +kernel
theorem dX6_comeOut_100 : decode cX6_comeOut 100 = .ok (.iconst 4, 1) := by decide +kernel
theorem dX6_comeOut_101 : decode cX6_comeOut 101 = .ok (.iload 4, 2) := by decide +kernel
theorem dX6_comeOut_103 : decode cX6_comeOut 103 = .ok (.imul, 1) := by decide +kernel
theorem dX6_comeOut_104 : decode cX6_comeOut 104 = .ok (.iconst 2, 1) := by decide +kernel
theorem dX6_comeOut_105 : decode cX6_comeOut 105 = .ok (.iadd, 1) := by decide +kernel
theorem dX6_comeOut_106 : decode cX6_comeOut 106 = .ok (.iaload, 1) := by decide +kernel
theorem dX6_comeOut_107 : decode cX6_comeOut 107 = .ok (.if_icmp .gt 7, 3) := by decide +kernel
theorem dX6_comeOut_110 : decode cX6_comeOut 110 = .ok (.iconst 1, 1) := by decide +kernel
theorem dX6_comeOut_111 : decode cX6_comeOut 111 = .ok (.goto 4, 3) := by decide +kernel
theorem dX6_comeOut_114 : decode cX6_comeOut 114 = .ok (.iconst 0, 1) := by decide +kernel
theorem dX6_comeOut_115 : decode cX6_comeOut 115 = .ok (.istore 8, 2) := by decide +kernel
theorem dX6_comeOut_117 : decode cX6_comeOut 117 = .ok (.iload 6, 2) := by decide +kernel
theorem dX6_comeOut_119 : decode cX6_comeOut 119 = .ok (.ifCond .le 13, 3) := by decide +kernel
theorem dX6_comeOut_122 : decode cX6_comeOut 122 = .ok (.iload 8, 2) := by decide +kernel
theorem dX6_comeOut_124 : decode cX6_comeOut 124 = .ok (.ifCond .eq 8, 3) := by decide +kernel
theorem dX6_comeOut_127 : decode cX6_comeOut 127 = .ok (.iload 7, 2) := by decide +kernel
theorem dX6_comeOut_129 : decode cX6_comeOut 129 = .ok (.goto 4, 3) := by decide +kernel
theorem dX6_comeOut_132 : decode cX6_comeOut 132 = .ok (.iconst (-1), 1) := by decide +kernel
theorem dX6_comeOut_133 : decode cX6_comeOut 133 = .ok (.ireturn, 1) := by decide +kernel
set_option maxRecDepth 20000 in
theorem ggX6_isDeed_X6_in : GoodIn wsX6_isDeed wsX6_in := goodIn_r _ [9] (by decide +kernel) (by decide +kernel)
set_option maxRecDepth 20000 in
theorem gX6_isDeed_X6_in : GoodIn wsX6_isDeed (va_wsS RX6 43 yX6_in wsX6_in) := goodIn_app (goodIn_of _ (by decide +kernel)) ggX6_isDeed_X6_in
set_option maxRecDepth 20000 in
theorem ggX6_isDeed_X6_isBeing : GoodIn wsX6_isDeed wsX6_isBeing := goodIn_r _ [13, 14, 6, 7, 8, 9, 15, 16, 17, 18, 19, 20, 21, 22, 23, 24, 25, 26, 27, 28, 29, 30, 31, 32, 33, 34, 35, 36, 37, 38] (by decide +kernel) (by decide +kernel)
set_option maxRecDepth 20000 in
theorem gX6_isDeed_X6_isBeing : GoodIn wsX6_isDeed (wsV RX6 98 RX6 yX6_isBeing wsX6_isBeing) := goodIn_app (goodIn_of _ (by decide +kernel)) ggX6_isDeed_X6_isBeing
theorem dX6_isDeed_0 : decode cX6_isDeed 0 = .ok (.iload_n 1, 1) := by decide +kernel
theorem dX6_isDeed_1 : decode cX6_isDeed 1 = .ok (.i2l, 1) := by decide +kernel
theorem dX6_isDeed_2 : decode cX6_isDeed 2 = .ok (.lconst 0, 1) := by decide +kernel
theorem dX6_isDeed_3 : decode cX6_isDeed 3 = .ok (.ldc2_w 96, 3) := by decide +kernel
theorem dX6_isDeed_6 : decode cX6_isDeed 6 = .ok (.invokestatic 43, 3) := by decide +kernel
theorem dX6_isDeed_9 : decode cX6_isDeed 9 = .ok (.ifCond .eq 29, 3) := by decide +kernel
theorem dX6_isDeed_12 : decode cX6_isDeed 12 = .ok (.aload_n 0, 1) := by decide +kernel
theorem dX6_isDeed_13 : decode cX6_isDeed 13 = .ok (.iload_n 1, 1) := by decide +kernel
theorem dX6_isDeed_14 : decode cX6_isDeed 14 = .ok (.iconst 5, 1) := by decide +kernel
theorem dX6_isDeed_15 : decode cX6_isDeed 15 = .ok (.idiv, 1) := by decide +kernel
theorem dX6_isDeed_16 : decode cX6_isDeed 16 = .ok (.invokevirtual 98, 3) := by decide +kernel
theorem dX6_isDeed_19 : decode cX6_isDeed 19 = .ok (.ifCond .eq 17, 3) := by decide +kernel
theorem dX6_isDeed_22 : decode cX6_isDeed 22 = .ok (.aload_n 0, 1) := by decide +kernel
theorem dX6_isDeed_23 : decode cX6_isDeed 23 = .ok (.iload_n 1, 1) := by decide +kernel
theorem dX6_isDeed_24 : decode cX6_isDeed 24 = .ok (.iconst 5, 1) := by decide +kernel
theorem dX6_isDeed_25 : decode cX6_isDeed 25 = .ok (.irem, 1) := by decide +kernel
theorem dX6_isDeed_26 : decode cX6_isDeed 26 = .ok (.invokevirtual 98, 3) := by decide +kernel
theorem dX6_isDeed_29 : decode cX6_isDeed 29 = .ok (.ifCond .eq 7, 3) := by decide +kernel
theorem dX6_isDeed_32 : decode cX6_isDeed 32 = .ok (.iconst 1, 1) := by decide +kernel
theorem dX6_isDeed_33 : decode cX6_isDeed 33 = .ok (.goto 4, 3) := by decide +kernel
theorem dX6_isDeed_36 : decode cX6_isDeed 36 = .ok (.iconst 0, 1) := by decide +kernel
theorem dX6_isDeed_37 : decode cX6_isDeed 37 = .ok (.ireturn, 1) := by decide +kernel
theorem dX6_isDeed_38 : decode cX6_isDeed 38 = .ok (.iload_n 1, 1) := by decide +kernel
theorem dX6_isDeed_39 : decode cX6_isDeed 39 = .ok (.i2l, 1) := by decide +kernel
theorem dX6_isDeed_40 : decode cX6_isDeed 40 = .ok (.ldc2_w 101, 3) := by decide +kernel
theorem dX6_isDeed_43 : decode cX6_isDeed 43 = .ok (.ldc2_w 103, 3) := by decide +kernel
theorem dX6_isDeed_46 : decode cX6_isDeed 46 = .ok (.invokestatic 43, 3) := by decide +kernel
theorem dX6_isDeed_49 : decode cX6_isDeed 49 = .ok (.ifCond .ne 17, 3) := by decide +kernel
theorem dX6_isDeed_52 : decode cX6_isDeed 52 = .ok (.iload_n 1, 1) := by decide +kernel
theorem dX6_isDeed_53 : decode cX6_isDeed 53 = .ok (.i2l, 1) := by decide +kernel
theorem dX6_isDeed_54 : decode cX6_isDeed 54 = .ok (.ldc2_w 105, 3) := by decide +kernel
theorem dX6_isDeed_57 : decode cX6_isDeed 57 = .ok (.ldc2_w 107, 3) := by decide +kernel
theorem dX6_isDeed_60 : decode cX6_isDeed 60 = .ok (.invokestatic 43, 3) := by decide +kernel
theorem dX6_isDeed_63 : decode cX6_isDeed 63 = .ok (.ifCond .eq 18, 3) := by decide +kernel
theorem dX6_isDeed_66 : decode cX6_isDeed 66 = .ok (.aload_n 0, 1) := by decide +kernel
theorem dX6_isDeed_67 : decode cX6_isDeed 67 = .ok (.iload_n 1, 1) := by decide +kernel
theorem dX6_isDeed_68 : decode cX6_isDeed 68 = .ok (.bipush 10, 2) := by decide +kernel
theorem dX6_isDeed_70 : decode cX6_isDeed 70 = .ok (.irem, 1) := by decide +kernel
theorem dX6_isDeed_71 : decode cX6_isDeed 71 = .ok (.invokevirtual 98, 3) := by decide +kernel
theorem dX6_isDeed_74 : decode cX6_isDeed 74 = .ok (.ifCond .eq 7, 3) := by decide +kernel
theorem dX6_isDeed_77 : decode cX6_isDeed 77 = .ok (.iconst 1, 1) := by decide +kernel
theorem dX6_isDeed_78 : decode cX6_isDeed 78 = .ok (.goto 4, 3) := by decide +kernel
theorem dX6_isDeed_81 : decode cX6_isDeed 81 = .ok (.iconst 0, 1) := by decide +kernel
theorem dX6_isDeed_82 : decode cX6_isDeed 82 = .ok (.ireturn, 1) := by decide +kernel
set_option maxRecDepth 20000 in
theorem ggX6_done_X6_swallowed : GoodIn wsX6_done wsX6_swallowed := goodIn_r _ [6, 1, 7, 8, 9, 5, 10, 11, 12, 13, 14, 15, 16, 17, 18, 19, 20, 25, 26, 27, 28, 29, 30, 31, 32, 33, 34, 35, 36, 37, 38, 39, 40, 41, 42, 43, 44, 45, 46, 47, 48] (by decide +kernel) (by decide +kernel)
set_option maxRecDepth 20000 in
theorem gX6_done_X6_swallowed : GoodIn wsX6_done (wsV RX6 109 RX6 yX6_swallowed wsX6_swallowed) := goodIn_app (goodIn_of _ (by decide +kernel)) ggX6_done_X6_swallowed
set_option maxRecDepth 20000 in
theorem ggX6_done_X6_comeOut : GoodIn wsX6_done wsX6_comeOut := goodIn_r _ [24, 11, 1, 12, 13, 5, 14, 15, 16, 17, 18, 19, 20, 7, 8, 9, 10, 25, 26, 27, 28, 29, 30, 31, 32, 33, 34, 35, 36, 37, 38, 39, 40, 41, 42, 43, 44, 45, 46, 47, 48] (by decide +kernel) (by decide +kernel)
set_option maxRecDepth 20000 in
theorem gX6_done_X6_comeOut : GoodIn wsX6_done (wsV RX6 112 RX6 yX6_comeOut wsX6_comeOut) := goodIn_app (goodIn_of _ (by decide +kernel)) ggX6_done_X6_comeOut
theorem dX6_done_0 : decode cX6_done 0 = .ok (.iload_n 2, 1) := by decide +kernel
theorem dX6_done_1 : decode cX6_done 1 = .ok (.bipush 25, 2) := by decide +kernel
theorem dX6_done_3 : decode cX6_done 3 = .ok (.if_icmp .ge 15, 3) := by decide +kernel
theorem dX6_done_6 : decode cX6_done 6 = .ok (.aload_n 0, 1) := by decide +kernel
theorem dX6_done_7 : decode cX6_done 7 = .ok (.iload_n 1, 1) := by decide +kernel
theorem dX6_done_8 : decode cX6_done 8 = .ok (.iload_n 2, 1) := by decide +kernel
theorem dX6_done_9 : decode cX6_done 9 = .ok (.iconst 5, 1) := by decide +kernel
theorem dX6_done_10 : decode cX6_done 10 = .ok (.idiv, 1) := by decide +kernel
theorem dX6_done_11 : decode cX6_done 11 = .ok (.iload_n 2, 1) := by decide +kernel
theorem dX6_done_12 : decode cX6_done 12 = .ok (.iconst 5, 1) := by decide +kernel
theorem dX6_done_13 : decode cX6_done 13 = .ok (.irem, 1) := by decide +kernel
theorem dX6_done_14 : decode cX6_done 14 = .ok (.invokevirtual 109, 3) := by decide +kernel
theorem dX6_done_17 : decode cX6_done 17 = .ok (.ireturn, 1) := by decide +kernel
theorem dX6_done_18 : decode cX6_done 18 = .ok (.iload_n 2, 1) := by decide +kernel
theorem dX6_done_19 : decode cX6_done 19 = .ok (.bipush 10, 2) := by decide +kernel
theorem dX6_done_21 : decode cX6_done 21 = .ok (.irem, 1) := by decide +kernel
theorem dX6_done_22 : decode cX6_done 22 = .ok (.istore_n 3, 1) := by decide +kernel
theorem dX6_done_23 : decode cX6_done 23 = .ok (.aload_n 0, 1) := by decide +kernel
theorem dX6_done_24 : decode cX6_done 24 = .ok (.getfield 16, 3) := by decide +kernel
theorem dX6_done_27 : decode cX6_done 27 = .ok (.iconst 4, 1) := by decide +kernel
theorem dX6_done_28 : decode cX6_done 28 = .ok (.iload_n 3, 1) := by decide +kernel
theorem dX6_done_29 : decode cX6_done 29 = .ok (.imul, 1) := by decide +kernel
theorem dX6_done_30 : decode cX6_done 30 = .ok (.iaload, 1) := by decide +kernel
theorem dX6_done_31 : decode cX6_done 31 = .ok (.istore 4, 2) := by decide +kernel
theorem dX6_done_33 : decode cX6_done 33 = .ok (.iload_n 2, 1) := by decide +kernel
theorem dX6_done_34 : decode cX6_done 34 = .ok (.bipush 40, 2) := by decide +kernel
theorem dX6_done_36 : decode cX6_done 36 = .ok (.if_icmp .ge 21, 3) := by decide +kernel
theorem dX6_done_39 : decode cX6_done 39 = .ok (.aload_n 0, 1) := by decide +kernel
theorem dX6_done_40 : decode cX6_done 40 = .ok (.iload_n 1, 1) := by decide +kernel
theorem dX6_done_41 : decode cX6_done 41 = .ok (.iload_n 3, 1) := by decide +kernel
theorem dX6_done_42 : decode cX6_done 42 = .ok (.iload 4, 2) := by decide +kernel
theorem dX6_done_44 : decode cX6_done 44 = .ok (.iconst 3, 1) := by decide +kernel
theorem dX6_done_45 : decode cX6_done 45 = .ok (.if_icmp .ne 7, 3) := by decide +kernel
theorem dX6_done_48 : decode cX6_done 48 = .ok (.iconst 2, 1) := by decide +kernel
theorem dX6_done_49 : decode cX6_done 49 = .ok (.goto 4, 3) := by decide +kernel
theorem dX6_done_52 : decode cX6_done 52 = .ok (.iconst 1, 1) := by decide +kernel
theorem dX6_done_53 : decode cX6_done 53 = .ok (.invokevirtual 112, 3) := by decide +kernel
theorem dX6_done_56 : decode cX6_done 56 = .ok (.ireturn, 1) := by decide +kernel
theorem dX6_done_57 : decode cX6_done 57 = .ok (.iload 4, 2) := by decide +kernel
theorem dX6_done_59 : decode cX6_done 59 = .ok (.iconst 2, 1) := by decide +kernel
theorem dX6_done_60 : decode cX6_done 60 = .ok (.if_icmp .eq 9, 3) := by decide +kernel
theorem dX6_done_63 : decode cX6_done 63 = .ok (.iload 4, 2) := by decide +kernel
theorem dX6_done_65 : decode cX6_done 65 = .ok (.iconst 4, 1) := by decide +kernel
theorem dX6_done_66 : decode cX6_done 66 = .ok (.if_icmp .ne 7, 3) := by decide +kernel
theorem dX6_done_69 : decode cX6_done 69 = .ok (.iconst (-1), 1) := by decide +kernel
theorem dX6_done_70 : decode cX6_done 70 = .ok (.goto 10, 3) := by decide +kernel
theorem dX6_done_73 : decode cX6_done 73 = .ok (.aload_n 0, 1) := by decide +kernel
theorem dX6_done_74 : decode cX6_done 74 = .ok (.iload_n 1, 1) := by decide +kernel
theorem dX6_done_75 : decode cX6_done 75 = .ok (.iload_n 3, 1) := by decide +kernel
theorem dX6_done_76 : decode cX6_done 76 = .ok (.iconst 5, 1) := by decide +kernel
theorem dX6_done_77 : decode cX6_done 77 = .ok (.invokevirtual 112, 3) := by decide +kernel
theorem dX6_done_80 : decode cX6_done 80 = .ok (.ireturn, 1) := by decide +kernel
set_option maxRecDepth 20000 in
theorem ggX6_tale_X6_faultOf : GoodIn wsX6_tale wsX6_faultOf := goodIn_r _ [10, 4, 2, 1, 11, 12, 13, 14, 9, 15, 16, 17, 18, 19, 20, 21, 5, 22, 23, 24, 65, 66, 67, 68, 69, 70, 71, 72, 73, 74, 75, 76, 77, 78, 79, 80, 81, 82, 83, 84, 85, 86, 87, 88] (by decide +kernel) (by decide +kernel)
set_option maxRecDepth 20000 in
theorem gX6_tale_X6_faultOf : GoodIn wsX6_tale (wsV RX6 68 RX6 yX6_faultOf wsX6_faultOf) := goodIn_app (goodIn_of _ (by decide +kernel)) ggX6_tale_X6_faultOf
set_option maxRecDepth 20000 in
theorem ggX6_tale_X6_isDeed : GoodIn wsX6_tale wsX6_isDeed := goodIn_r _ [28, 29, 30, 31, 32, 33, 22, 23, 9, 24, 34, 35, 36, 37, 38, 65, 66, 67, 68, 69, 70, 71, 72, 73, 74, 75, 76, 77, 78, 79, 80, 81, 82, 83, 84, 85, 86, 87, 88] (by decide +kernel) (by decide +kernel)
set_option maxRecDepth 20000 in
theorem gX6_tale_X6_isDeed : GoodIn wsX6_tale (wsV RX6 118 RX6 yX6_isDeed wsX6_isDeed) := goodIn_app (goodIn_of _ (by decide +kernel)) ggX6_tale_X6_isDeed
set_option maxRecDepth 20000 in
theorem ggX6_tale_X6_done : GoodIn wsX6_tale wsX6_done := goodIn_r _ [42, 43, 44, 45, 46, 9, 47, 48, 49, 50, 51, 38, 52, 53, 54, 55, 56, 57, 58, 59, 60, 61, 62, 63, 64, 65, 66, 67, 68, 69, 70, 71, 72, 73, 74, 75, 76, 77, 78, 79, 80, 81, 82, 83, 84, 85, 86, 87, 88] (by decide +kernel) (by decide +kernel)
set_option maxRecDepth 20000 in
theorem gX6_tale_X6_done : GoodIn wsX6_tale (wsV RX6 121 RX6 yX6_done wsX6_done) := goodIn_app (goodIn_of _ (by decide +kernel)) ggX6_tale_X6_done
theorem dX6_tale_0 : decode cX6_tale 0 = .ok (.aload_n 0, 1) := by decide +kernel
theorem dX6_tale_1 : decode cX6_tale 1 = .ok (.invokevirtual 68, 3) := by decide +kernel
theorem dX6_tale_4 : decode cX6_tale 4 = .ok (.aload_n 0, 1) := by decide +kernel
theorem dX6_tale_5 : decode cX6_tale 5 = .ok (.getfield 47, 3) := by decide +kernel
theorem dX6_tale_8 : decode cX6_tale 8 = .ok (.if_icmp .lt 11, 3) := by decide +kernel
theorem dX6_tale_11 : decode cX6_tale 11 = .ok (.aload_n 0, 1) := by decide +kernel
theorem dX6_tale_12 : decode cX6_tale 12 = .ok (.getfield 55, 3) := by decide +kernel
theorem dX6_tale_15 : decode cX6_tale 15 = .ok (.iconst 3, 1) := by decide +kernel
theorem dX6_tale_16 : decode cX6_tale 16 = .ok (.if_icmp .eq 6, 3) := by decide +kernel
theorem dX6_tale_19 : decode cX6_tale 19 = .ok (.bipush (-103), 2) := by decide +kernel
theorem dX6_tale_21 : decode cX6_tale 21 = .ok (.ireturn, 1) := by decide +kernel
theorem dX6_tale_22 : decode cX6_tale 22 = .ok (.aload_n 0, 1) := by decide +kernel
theorem dX6_tale_23 : decode cX6_tale 23 = .ok (.getfield 115, 3) := by decide +kernel
theorem dX6_tale_26 : decode cX6_tale 26 = .ok (.istore_n 1, 1) := by decide +kernel
theorem dX6_tale_27 : decode cX6_tale 27 = .ok (.iconst 0, 1) := by decide +kernel
theorem dX6_tale_28 : decode cX6_tale 28 = .ok (.istore_n 2, 1) := by decide +kernel
theorem dX6_tale_29 : decode cX6_tale 29 = .ok (.iload_n 2, 1) := by decide +kernel
theorem dX6_tale_30 : decode cX6_tale 30 = .ok (.aload_n 0, 1) := by decide +kernel
theorem dX6_tale_31 : decode cX6_tale 31 = .ok (.getfield 58, 3) := by decide +kernel
theorem dX6_tale_34 : decode cX6_tale 34 = .ok (.if_icmp .ge 47, 3) := by decide +kernel
theorem dX6_tale_37 : decode cX6_tale 37 = .ok (.aload_n 0, 1) := by decide +kernel
theorem dX6_tale_38 : decode cX6_tale 38 = .ok (.aload_n 0, 1) := by decide +kernel
theorem dX6_tale_39 : decode cX6_tale 39 = .ok (.getfield 13, 3) := by decide +kernel
theorem dX6_tale_42 : decode cX6_tale 42 = .ok (.iload_n 2, 1) := by decide +kernel
theorem dX6_tale_43 : decode cX6_tale 43 = .ok (.iaload, 1) := by decide +kernel
theorem dX6_tale_44 : decode cX6_tale 44 = .ok (.invokevirtual 118, 3) := by decide +kernel
theorem dX6_tale_47 : decode cX6_tale 47 = .ok (.ifCond .eq 17, 3) := by decide +kernel
theorem dX6_tale_50 : decode cX6_tale 50 = .ok (.aload_n 0, 1) := by decide +kernel
theorem dX6_tale_51 : decode cX6_tale 51 = .ok (.iload_n 1, 1) := by decide +kernel
theorem dX6_tale_52 : decode cX6_tale 52 = .ok (.aload_n 0, 1) := by decide +kernel
theorem dX6_tale_53 : decode cX6_tale 53 = .ok (.getfield 13, 3) := by decide +kernel
theorem dX6_tale_56 : decode cX6_tale 56 = .ok (.iload_n 2, 1) := by decide +kernel
theorem dX6_tale_57 : decode cX6_tale 57 = .ok (.iaload, 1) := by decide +kernel
theorem dX6_tale_58 : decode cX6_tale 58 = .ok (.invokevirtual 121, 3) := by decide +kernel
theorem dX6_tale_61 : decode cX6_tale 61 = .ok (.goto 4, 3) := by decide +kernel
theorem dX6_tale_64 : decode cX6_tale 64 = .ok (.iconst (-1), 1) := by decide +kernel
theorem dX6_tale_65 : decode cX6_tale 65 = .ok (.istore_n 3, 1) := by decide +kernel
theorem dX6_tale_66 : decode cX6_tale 66 = .ok (.iload_n 3, 1) := by decide +kernel
theorem dX6_tale_67 : decode cX6_tale 67 = .ok (.iconst (-1), 1) := by decide +kernel
theorem dX6_tale_68 : decode cX6_tale 68 = .ok (.if_icmp .ne 5, 3) := by decide +kernel
theorem dX6_tale_71 : decode cX6_tale 71 = .ok (.iload_n 2, 1) := by decide +kernel
theorem dX6_tale_72 : decode cX6_tale 72 = .ok (.ireturn, 1) := by decide +kernel
theorem dX6_tale_73 : decode cX6_tale 73 = .ok (.iload_n 3, 1) := by decide +kernel
theorem dX6_tale_74 : decode cX6_tale 74 = .ok (.istore_n 1, 1) := by decide +kernel
theorem dX6_tale_75 : decode cX6_tale 75 = .ok (.iinc 2 1, 3) := by decide +kernel
theorem dX6_tale_78 : decode cX6_tale 78 = .ok (.goto (-49), 3) := by decide +kernel
theorem dX6_tale_81 : decode cX6_tale 81 = .ok (.aload_n 0, 1) := by decide +kernel
theorem dX6_tale_82 : decode cX6_tale 82 = .ok (.getfield 58, 3) := by decide +kernel
theorem dX6_tale_85 : decode cX6_tale 85 = .ok (.ireturn, 1) := by decide +kernel
set_option maxRecDepth 20000 in
theorem ggX6_walls_X6_holder : GoodIn wsX6_walls wsX6_holder := goodIn_r _ [4, 5, 6, 3, 7] (by decide +kernel) (by decide +kernel)
set_option maxRecDepth 20000 in
theorem gX6_walls_X6_holder : GoodIn wsX6_walls (va_wsS RX6 85 yX6_holder wsX6_holder) := goodIn_app (goodIn_of _ (by decide +kernel)) ggX6_walls_X6_holder
theorem dX6_walls_0 : decode cX6_walls 0 = .ok (.iconst 0, 1) := by decide +kernel
theorem dX6_walls_1 : decode cX6_walls 1 = .ok (.istore_n 2, 1) := by decide +kernel
theorem dX6_walls_2 : decode cX6_walls 2 = .ok (.iload_n 0, 1) := by decide +kernel
theorem dX6_walls_3 : decode cX6_walls 3 = .ok (.iload_n 1, 1) := by decide +kernel
theorem dX6_walls_4 : decode cX6_walls 4 = .ok (.invokestatic 85, 3) := by decide +kernel
theorem dX6_walls_7 : decode cX6_walls 7 = .ok (.istore_n 3, 1) := by decide +kernel
theorem dX6_walls_8 : decode cX6_walls 8 = .ok (.iload_n 3, 1) := by decide +kernel
theorem dX6_walls_9 : decode cX6_walls 9 = .ok (.iconst (-1), 1) := by decide +kernel
theorem dX6_walls_10 : decode cX6_walls 10 = .ok (.if_icmp .eq 15, 3) := by decide +kernel
theorem dX6_walls_13 : decode cX6_walls 13 = .ok (.iinc 2 1, 3) := by decide +kernel
theorem dX6_walls_16 : decode cX6_walls 16 = .ok (.iload_n 0, 1) := by decide +kernel
theorem dX6_walls_17 : decode cX6_walls 17 = .ok (.iload_n 3, 1) := by decide +kernel
theorem dX6_walls_18 : decode cX6_walls 18 = .ok (.invokestatic 85, 3) := by decide +kernel
theorem dX6_walls_21 : decode cX6_walls 21 = .ok (.istore_n 3, 1) := by decide +kernel
theorem dX6_walls_22 : decode cX6_walls 22 = .ok (.goto (-14), 3) := by decide +kernel
theorem dX6_walls_25 : decode cX6_walls 25 = .ok (.iload_n 2, 1) := by decide +kernel
theorem dX6_walls_26 : decode cX6_walls 26 = .ok (.ireturn, 1) := by decide +kernel
set_option maxRecDepth 20000 in
theorem ggX6_hearsOne_X6_holder : GoodIn wsX6_hearsOne wsX6_holder := goodIn_r _ [4, 5, 6, 3, 7] (by decide +kernel) (by decide +kernel)
set_option maxRecDepth 20000 in
theorem gX6_hearsOne_X6_holder : GoodIn wsX6_hearsOne (va_wsS RX6 85 yX6_holder wsX6_holder) := goodIn_app (goodIn_of _ (by decide +kernel)) ggX6_hearsOne_X6_holder
theorem dX6_hearsOne_0 : decode cX6_hearsOne 0 = .ok (.iload_n 0, 1) := by decide +kernel
theorem dX6_hearsOne_1 : decode cX6_hearsOne 1 = .ok (.iload_n 1, 1) := by decide +kernel
theorem dX6_hearsOne_2 : decode cX6_hearsOne 2 = .ok (.invokestatic 85, 3) := by decide +kernel
theorem dX6_hearsOne_5 : decode cX6_hearsOne 5 = .ok (.istore_n 3, 1) := by decide +kernel
theorem dX6_hearsOne_6 : decode cX6_hearsOne 6 = .ok (.iload_n 0, 1) := by decide +kernel
theorem dX6_hearsOne_7 : decode cX6_hearsOne 7 = .ok (.iload_n 2, 1) := by decide +kernel
theorem dX6_hearsOne_8 : decode cX6_hearsOne 8 = .ok (.invokestatic 85, 3) := by decide +kernel
theorem dX6_hearsOne_11 : decode cX6_hearsOne 11 = .ok (.istore 4, 2) := by decide +kernel
theorem dX6_hearsOne_13 : decode cX6_hearsOne 13 = .ok (.iload_n 3, 1) := by decide +kernel
theorem dX6_hearsOne_14 : decode cX6_hearsOne 14 = .ok (.iload 4, 2) := by decide +kernel
theorem dX6_hearsOne_16 : decode cX6_hearsOne 16 = .ok (.if_icmp .eq 14, 3) := by decide +kernel
theorem dX6_hearsOne_19 : decode cX6_hearsOne 19 = .ok (.iload_n 3, 1) := by decide +kernel
theorem dX6_hearsOne_20 : decode cX6_hearsOne 20 = .ok (.iload_n 2, 1) := by decide +kernel
theorem dX6_hearsOne_21 : decode cX6_hearsOne 21 = .ok (.if_icmp .eq 9, 3) := by decide +kernel
theorem dX6_hearsOne_24 : decode cX6_hearsOne 24 = .ok (.iload 4, 2) := by decide +kernel
theorem dX6_hearsOne_26 : decode cX6_hearsOne 26 = .ok (.iload_n 1, 1) := by decide +kernel
theorem dX6_hearsOne_27 : decode cX6_hearsOne 27 = .ok (.if_icmp .ne 7, 3) := by decide +kernel
theorem dX6_hearsOne_30 : decode cX6_hearsOne 30 = .ok (.iconst 1, 1) := by decide +kernel
theorem dX6_hearsOne_31 : decode cX6_hearsOne 31 = .ok (.goto 4, 3) := by decide +kernel
theorem dX6_hearsOne_34 : decode cX6_hearsOne 34 = .ok (.iconst 0, 1) := by decide +kernel
theorem dX6_hearsOne_35 : decode cX6_hearsOne 35 = .ok (.istore 5, 2) := by decide +kernel
theorem dX6_hearsOne_37 : decode cX6_hearsOne 37 = .ok (.iload 5, 2) := by decide +kernel
theorem dX6_hearsOne_39 : decode cX6_hearsOne 39 = .ok (.ifCond .ne 18, 3) := by decide +kernel
theorem dX6_hearsOne_42 : decode cX6_hearsOne 42 = .ok (.iload_n 3, 1) := by decide +kernel
theorem dX6_hearsOne_43 : decode cX6_hearsOne 43 = .ok (.iconst (-1), 1) := by decide +kernel
theorem dX6_hearsOne_44 : decode cX6_hearsOne 44 = .ok (.if_icmp .eq 17, 3) := by decide +kernel
theorem dX6_hearsOne_47 : decode cX6_hearsOne 47 = .ok (.iload_n 0, 1) := by decide +kernel
theorem dX6_hearsOne_48 : decode cX6_hearsOne 48 = .ok (.iload_n 3, 1) := by decide +kernel
theorem dX6_hearsOne_49 : decode cX6_hearsOne 49 = .ok (.invokestatic 85, 3) := by decide +kernel
theorem dX6_hearsOne_52 : decode cX6_hearsOne 52 = .ok (.iload 4, 2) := by decide +kernel
theorem dX6_hearsOne_54 : decode cX6_hearsOne 54 = .ok (.if_icmp .ne 7, 3) := by decide +kernel
theorem dX6_hearsOne_57 : decode cX6_hearsOne 57 = .ok (.iconst 1, 1) := by decide +kernel
theorem dX6_hearsOne_58 : decode cX6_hearsOne 58 = .ok (.goto 4, 3) := by decide +kernel
theorem dX6_hearsOne_61 : decode cX6_hearsOne 61 = .ok (.iconst 0, 1) := by decide +kernel
theorem dX6_hearsOne_62 : decode cX6_hearsOne 62 = .ok (.istore 5, 2) := by decide +kernel
theorem dX6_hearsOne_64 : decode cX6_hearsOne 64 = .ok (.iload 5, 2) := by decide +kernel
theorem dX6_hearsOne_66 : decode cX6_hearsOne 66 = .ok (.ifCond .ne 19, 3) := by decide +kernel
theorem dX6_hearsOne_69 : decode cX6_hearsOne 69 = .ok (.iload 4, 2) := by decide +kernel
theorem dX6_hearsOne_71 : decode cX6_hearsOne 71 = .ok (.iconst (-1), 1) := by decide +kernel
theorem dX6_hearsOne_72 : decode cX6_hearsOne 72 = .ok (.if_icmp .eq 17, 3) := by decide +kernel
theorem dX6_hearsOne_75 : decode cX6_hearsOne 75 = .ok (.iload_n 0, 1) := by decide +kernel
theorem dX6_hearsOne_76 : decode cX6_hearsOne 76 = .ok (.iload 4, 2) := by decide +kernel
theorem dX6_hearsOne_78 : decode cX6_hearsOne 78 = .ok (.invokestatic 85, 3) := by decide +kernel
theorem dX6_hearsOne_81 : decode cX6_hearsOne 81 = .ok (.iload_n 3, 1) := by decide +kernel
theorem dX6_hearsOne_82 : decode cX6_hearsOne 82 = .ok (.if_icmp .ne 7, 3) := by decide +kernel
theorem dX6_hearsOne_85 : decode cX6_hearsOne 85 = .ok (.iconst 1, 1) := by decide +kernel
theorem dX6_hearsOne_86 : decode cX6_hearsOne 86 = .ok (.goto 4, 3) := by decide +kernel
theorem dX6_hearsOne_89 : decode cX6_hearsOne 89 = .ok (.iconst 0, 1) := by decide +kernel
theorem dX6_hearsOne_90 : decode cX6_hearsOne 90 = .ok (.ireturn, 1) := by decide +kernel
set_option maxRecDepth 20000 in
theorem ggX6_heardBy_X6_hearsOne : GoodIn wsX6_heardBy wsX6_hearsOne := goodIn_r _ [5, 6, 7, 4, 8, 9, 10, 11] (by decide +kernel) (by decide +kernel)
set_option maxRecDepth 20000 in
theorem gX6_heardBy_X6_hearsOne : GoodIn wsX6_heardBy (va_wsS RX6 124 yX6_hearsOne wsX6_hearsOne) := goodIn_app (goodIn_of _ (by decide +kernel)) ggX6_heardBy_X6_hearsOne
theorem dX6_heardBy_0 : decode cX6_heardBy 0 = .ok (.iconst 0, 1) := by decide +kernel
theorem dX6_heardBy_1 : decode cX6_heardBy 1 = .ok (.istore_n 3, 1) := by decide +kernel
theorem dX6_heardBy_2 : decode cX6_heardBy 2 = .ok (.iconst 0, 1) := by decide +kernel
theorem dX6_heardBy_3 : decode cX6_heardBy 3 = .ok (.istore 4, 2) := by decide +kernel
theorem dX6_heardBy_5 : decode cX6_heardBy 5 = .ok (.iload 4, 2) := by decide +kernel
theorem dX6_heardBy_7 : decode cX6_heardBy 7 = .ok (.aload_n 0, 1) := by decide +kernel
theorem dX6_heardBy_8 : decode cX6_heardBy 8 = .ok (.getfield 72, 3) := by decide +kernel
theorem dX6_heardBy_11 : decode cX6_heardBy 11 = .ok (.if_icmp .ge 36, 3) := by decide +kernel
theorem dX6_heardBy_14 : decode cX6_heardBy 14 = .ok (.iload_n 3, 1) := by decide +kernel
theorem dX6_heardBy_15 : decode cX6_heardBy 15 = .ok (.iload 4, 2) := by decide +kernel
theorem dX6_heardBy_17 : decode cX6_heardBy 17 = .ok (.iload_n 2, 1) := by decide +kernel
theorem dX6_heardBy_18 : decode cX6_heardBy 18 = .ok (.if_icmp .eq 20, 3) := by decide +kernel
theorem dX6_heardBy_21 : decode cX6_heardBy 21 = .ok (.iload_n 1, 1) := by decide +kernel
theorem dX6_heardBy_22 : decode cX6_heardBy 22 = .ok (.iload_n 2, 1) := by decide +kernel
theorem dX6_heardBy_23 : decode cX6_heardBy 23 = .ok (.iload 4, 2) := by decide +kernel
theorem dX6_heardBy_25 : decode cX6_heardBy 25 = .ok (.invokestatic 124, 3) := by decide +kernel
theorem dX6_heardBy_28 : decode cX6_heardBy 28 = .ok (.ifCond .eq 10, 3) := by decide +kernel
theorem dX6_heardBy_31 : decode cX6_heardBy 31 = .ok (.iconst 1, 1) := by decide +kernel
theorem dX6_heardBy_32 : decode cX6_heardBy 32 = .ok (.iload 4, 2) := by decide +kernel
theorem dX6_heardBy_34 : decode cX6_heardBy 34 = .ok (.ishl, 1) := by decide +kernel
theorem dX6_heardBy_35 : decode cX6_heardBy 35 = .ok (.goto 4, 3) := by decide +kernel
theorem dX6_heardBy_38 : decode cX6_heardBy 38 = .ok (.iconst 0, 1) := by decide +kernel
theorem dX6_heardBy_39 : decode cX6_heardBy 39 = .ok (.ior, 1) := by decide +kernel
theorem dX6_heardBy_40 : decode cX6_heardBy 40 = .ok (.istore_n 3, 1) := by decide +kernel
theorem dX6_heardBy_41 : decode cX6_heardBy 41 = .ok (.iinc 4 1, 3) := by decide +kernel
theorem dX6_heardBy_44 : decode cX6_heardBy 44 = .ok (.goto (-39), 3) := by decide +kernel
theorem dX6_heardBy_47 : decode cX6_heardBy 47 = .ok (.iload_n 3, 1) := by decide +kernel
theorem dX6_heardBy_48 : decode cX6_heardBy 48 = .ok (.ireturn, 1) := by decide +kernel
set_option maxRecDepth 20000 in
theorem ggX6_tell_X6_holder : GoodIn wsX6_tell wsX6_holder := goodIn_r _ [6, 7, 8, 5, 9] (by decide +kernel) (by decide +kernel)
set_option maxRecDepth 20000 in
theorem gX6_tell_X6_holder : GoodIn wsX6_tell (va_wsS RX6 85 yX6_holder wsX6_holder) := goodIn_app (goodIn_of _ (by decide +kernel)) ggX6_tell_X6_holder
set_option maxRecDepth 20000 in
theorem ggX6_tell_X6_filled : GoodIn wsX6_tell wsX6_filled := goodIn_r _ [13, 14, 1, 3, 4, 5, 6, 7, 8, 9, 25, 26, 27, 28, 29, 30, 31, 32, 33, 34, 35, 36, 37, 38, 39, 40, 41, 42, 43, 44, 45, 46, 47, 48] (by decide +kernel) (by decide +kernel)
set_option maxRecDepth 20000 in
theorem gX6_tell_X6_filled : GoodIn wsX6_tell (wsV RX6 89 RX6 yX6_filled wsX6_filled) := goodIn_app (goodIn_of _ (by decide +kernel)) ggX6_tell_X6_filled
set_option maxRecDepth 20000 in
theorem ggX6_tell_X6_walls : GoodIn wsX6_tell wsX6_walls := goodIn_r _ [17, 3, 4, 5, 6, 7, 8, 9] (by decide +kernel) (by decide +kernel)
set_option maxRecDepth 20000 in
theorem gX6_tell_X6_walls : GoodIn wsX6_tell (va_wsS RX6 128 yX6_walls wsX6_walls) := goodIn_app (goodIn_of _ (by decide +kernel)) ggX6_tell_X6_walls
set_option maxRecDepth 20000 in
theorem ggX6_tell_X6_heardBy : GoodIn wsX6_tell wsX6_heardBy := goodIn_r _ [21, 14, 22, 23, 5, 24, 3, 4, 6, 7, 8, 9, 25, 26, 27, 28, 29, 30, 31, 32, 33, 34, 35, 36, 37, 38, 39, 40, 41, 42, 43, 44, 45, 46, 47, 48] (by decide +kernel) (by decide +kernel)
set_option maxRecDepth 20000 in
theorem gX6_tell_X6_heardBy : GoodIn wsX6_tell (wsV RX6 131 RX6 yX6_heardBy wsX6_heardBy) := goodIn_app (goodIn_of _ (by decide +kernel)) ggX6_tell_X6_heardBy
theorem dX6_tell_0 : decode cX6_tell 0 = .ok (.iload_n 2, 1) := by decide +kernel
theorem dX6_tell_1 : decode cX6_tell 1 = .ok (.tableswitch 96 0 7 #[47, 47, 47, 47, 58, 67, 77, 86], 47) := by decide +kernel
theorem dX6_tell_48 : decode cX6_tell 48 = .ok (.aload_n 0, 1) := by decide +kernel
theorem dX6_tell_49 : decode cX6_tell 49 = .ok (.getfield 16, 3) := by decide +kernel
theorem dX6_tell_52 : decode cX6_tell 52 = .ok (.iconst 4, 1) := by decide +kernel
theorem dX6_tell_53 : decode cX6_tell 53 = .ok (.iload_n 1, 1) := by decide +kernel
theorem dX6_tell_54 : decode cX6_tell 54 = .ok (.imul, 1) := by decide +kernel
theorem dX6_tell_55 : decode cX6_tell 55 = .ok (.iload_n 2, 1) := by decide +kernel
theorem dX6_tell_56 : decode cX6_tell 56 = .ok (.iadd, 1) := by decide +kernel
theorem dX6_tell_57 : decode cX6_tell 57 = .ok (.iaload, 1) := by decide +kernel
theorem dX6_tell_58 : decode cX6_tell 58 = .ok (.ireturn, 1) := by decide +kernel
theorem dX6_tell_59 : decode cX6_tell 59 = .ok (.aload_n 0, 1) := by decide +kernel
theorem dX6_tell_60 : decode cX6_tell 60 = .ok (.getfield 115, 3) := by decide +kernel
theorem dX6_tell_63 : decode cX6_tell 63 = .ok (.iload_n 1, 1) := by decide +kernel
theorem dX6_tell_64 : decode cX6_tell 64 = .ok (.invokestatic 85, 3) := by decide +kernel
theorem dX6_tell_67 : decode cX6_tell 67 = .ok (.ireturn, 1) := by decide +kernel
theorem dX6_tell_68 : decode cX6_tell 68 = .ok (.aload_n 0, 1) := by decide +kernel
theorem dX6_tell_69 : decode cX6_tell 69 = .ok (.aload_n 0, 1) := by decide +kernel
theorem dX6_tell_70 : decode cX6_tell 70 = .ok (.getfield 115, 3) := by decide +kernel
theorem dX6_tell_73 : decode cX6_tell 73 = .ok (.iload_n 1, 1) := by decide +kernel
theorem dX6_tell_74 : decode cX6_tell 74 = .ok (.invokevirtual 89, 3) := by decide +kernel
theorem dX6_tell_77 : decode cX6_tell 77 = .ok (.ireturn, 1) := by decide +kernel
theorem dX6_tell_78 : decode cX6_tell 78 = .ok (.aload_n 0, 1) := by decide +kernel
theorem dX6_tell_79 : decode cX6_tell 79 = .ok (.getfield 115, 3) := by decide +kernel
theorem dX6_tell_82 : decode cX6_tell 82 = .ok (.iload_n 1, 1) := by decide +kernel
theorem dX6_tell_83 : decode cX6_tell 83 = .ok (.invokestatic 128, 3) := by decide +kernel
theorem dX6_tell_86 : decode cX6_tell 86 = .ok (.ireturn, 1) := by decide +kernel
theorem dX6_tell_87 : decode cX6_tell 87 = .ok (.aload_n 0, 1) := by decide +kernel
theorem dX6_tell_88 : decode cX6_tell 88 = .ok (.aload_n 0, 1) := by decide +kernel
theorem dX6_tell_89 : decode cX6_tell 89 = .ok (.getfield 115, 3) := by decide +kernel
theorem dX6_tell_92 : decode cX6_tell 92 = .ok (.iload_n 1, 1) := by decide +kernel
theorem dX6_tell_93 : decode cX6_tell 93 = .ok (.invokevirtual 131, 3) := by decide +kernel
theorem dX6_tell_96 : decode cX6_tell 96 = .ok (.ireturn, 1) := by decide +kernel
theorem dX6_tell_97 : decode cX6_tell 97 = .ok (.bipush (-102), 2) := by decide +kernel
theorem dX6_tell_99 : decode cX6_tell 99 = .ok (.ireturn, 1) := by decide +kernel
set_option maxRecDepth 20000 in
theorem ggX6_about_X6_isBeing : GoodIn wsX6_about wsX6_isBeing := goodIn_r _ [5, 6, 7, 8, 4, 9, 36, 37, 38, 39, 40, 41, 42, 43, 44, 45, 46, 47, 48, 49, 50, 51, 52, 53, 54, 55, 56, 57, 58, 59] (by decide +kernel) (by decide +kernel)
set_option maxRecDepth 20000 in
theorem gX6_about_X6_isBeing : GoodIn wsX6_about (wsV RX6 98 RX6 yX6_isBeing wsX6_isBeing) := goodIn_app (goodIn_of _ (by decide +kernel)) ggX6_about_X6_isBeing
set_option maxRecDepth 20000 in
theorem ggX6_about_X6_tell : GoodIn wsX6_about wsX6_tell := goodIn_r _ [13, 14, 15, 16, 17, 4, 18, 19, 20, 21, 22, 23, 24, 25, 6, 26, 27, 28, 29, 30, 31, 32, 33, 34, 35, 36, 37, 38, 39, 40, 41, 42, 43, 44, 45, 46, 47, 48, 49, 50, 51, 52, 53, 54, 55, 56, 57, 58, 59] (by decide +kernel) (by decide +kernel)
set_option maxRecDepth 20000 in
theorem gX6_about_X6_tell : GoodIn wsX6_about (wsV RX6 134 RX6 yX6_tell wsX6_tell) := goodIn_app (goodIn_of _ (by decide +kernel)) ggX6_about_X6_tell
theorem dX6_about_0 : decode cX6_about 0 = .ok (.aload_n 0, 1) := by decide +kernel
theorem dX6_about_1 : decode cX6_about 1 = .ok (.iload_n 1, 1) := by decide +kernel
theorem dX6_about_2 : decode cX6_about 2 = .ok (.invokevirtual 98, 3) := by decide +kernel
theorem dX6_about_5 : decode cX6_about 5 = .ok (.ifCond .eq 12, 3) := by decide +kernel
theorem dX6_about_8 : decode cX6_about 8 = .ok (.aload_n 0, 1) := by decide +kernel
theorem dX6_about_9 : decode cX6_about 9 = .ok (.iload_n 1, 1) := by decide +kernel
theorem dX6_about_10 : decode cX6_about 10 = .ok (.iload_n 2, 1) := by decide +kernel
theorem dX6_about_11 : decode cX6_about 11 = .ok (.invokevirtual 134, 3) := by decide +kernel
theorem dX6_about_14 : decode cX6_about 14 = .ok (.goto 5, 3) := by decide +kernel
theorem dX6_about_17 : decode cX6_about 17 = .ok (.bipush (-101), 2) := by decide +kernel
theorem dX6_about_19 : decode cX6_about 19 = .ok (.ireturn, 1) := by decide +kernel
set_option maxRecDepth 20000 in
theorem ggX6_as_X6_isBeing : GoodIn wsX6_as wsX6_isBeing := goodIn_r _ [7, 8, 9, 10, 6, 11, 12, 13, 14, 15, 16, 17, 18, 19, 20, 21, 22, 23, 24, 25, 26, 27, 28, 29, 30, 31, 32, 33, 34, 35] (by decide +kernel) (by decide +kernel)
set_option maxRecDepth 20000 in
theorem gX6_as_X6_isBeing : GoodIn wsX6_as (wsV RX6 98 RX6 yX6_isBeing wsX6_isBeing) := goodIn_app (goodIn_of _ (by decide +kernel)) ggX6_as_X6_isBeing
set_option maxRecDepth 20000 in
theorem ggX6_as_X6_in : GoodIn wsX6_as wsX6_in := goodIn_r _ [11] (by decide +kernel) (by decide +kernel)
set_option maxRecDepth 20000 in
theorem gX6_as_X6_in : GoodIn wsX6_as (va_wsS RX6 43 yX6_in wsX6_in) := goodIn_app (goodIn_of _ (by decide +kernel)) ggX6_as_X6_in
theorem dX6_as_0 : decode cX6_as 0 = .ok (.aload_n 0, 1) := by decide +kernel
theorem dX6_as_1 : decode cX6_as 1 = .ok (.iload_n 1, 1) := by decide +kernel
theorem dX6_as_2 : decode cX6_as 2 = .ok (.invokevirtual 98, 3) := by decide +kernel
theorem dX6_as_5 : decode cX6_as 5 = .ok (.ifCond .ne 6, 3) := by decide +kernel
theorem dX6_as_8 : decode cX6_as 8 = .ok (.bipush (-101), 2) := by decide +kernel
theorem dX6_as_10 : decode cX6_as 10 = .ok (.ireturn, 1) := by decide +kernel
theorem dX6_as_11 : decode cX6_as 11 = .ok (.iload_n 2, 1) := by decide +kernel
theorem dX6_as_12 : decode cX6_as 12 = .ok (.i2l, 1) := by decide +kernel
theorem dX6_as_13 : decode cX6_as 13 = .ok (.lconst 0, 1) := by decide +kernel
theorem dX6_as_14 : decode cX6_as 14 = .ok (.ldc2_w 50, 3) := by decide +kernel
theorem dX6_as_17 : decode cX6_as 17 = .ok (.invokestatic 43, 3) := by decide +kernel
theorem dX6_as_20 : decode cX6_as 20 = .ok (.ifCond .ne 6, 3) := by decide +kernel
theorem dX6_as_23 : decode cX6_as 23 = .ok (.bipush (-102), 2) := by decide +kernel
theorem dX6_as_25 : decode cX6_as 25 = .ok (.ireturn, 1) := by decide +kernel
theorem dX6_as_26 : decode cX6_as 26 = .ok (.aload_n 0, 1) := by decide +kernel
theorem dX6_as_27 : decode cX6_as 27 = .ok (.getfield 16, 3) := by decide +kernel
theorem dX6_as_30 : decode cX6_as 30 = .ok (.iconst 4, 1) := by decide +kernel
theorem dX6_as_31 : decode cX6_as 31 = .ok (.iload_n 1, 1) := by decide +kernel
theorem dX6_as_32 : decode cX6_as 32 = .ok (.imul, 1) := by decide +kernel
theorem dX6_as_33 : decode cX6_as 33 = .ok (.iaload, 1) := by decide +kernel
theorem dX6_as_34 : decode cX6_as 34 = .ok (.istore_n 3, 1) := by decide +kernel
theorem dX6_as_35 : decode cX6_as 35 = .ok (.iload_n 2, 1) := by decide +kernel
theorem dX6_as_36 : decode cX6_as 36 = .ok (.ifCond .eq 27, 3) := by decide +kernel
theorem dX6_as_39 : decode cX6_as 39 = .ok (.iload_n 2, 1) := by decide +kernel
theorem dX6_as_40 : decode cX6_as 40 = .ok (.iload_n 3, 1) := by decide +kernel
theorem dX6_as_41 : decode cX6_as 41 = .ok (.if_icmp .eq 22, 3) := by decide +kernel
theorem dX6_as_44 : decode cX6_as 44 = .ok (.iload_n 2, 1) := by decide +kernel
theorem dX6_as_45 : decode cX6_as 45 = .ok (.iconst 1, 1) := by decide +kernel
theorem dX6_as_46 : decode cX6_as 46 = .ok (.if_icmp .ne 7, 3) := by decide +kernel
theorem dX6_as_49 : decode cX6_as 49 = .ok (.iload_n 3, 1) := by decide +kernel
theorem dX6_as_50 : decode cX6_as 50 = .ok (.ifCond .gt 13, 3) := by decide +kernel
theorem dX6_as_53 : decode cX6_as 53 = .ok (.iload_n 2, 1) := by decide +kernel
theorem dX6_as_54 : decode cX6_as 54 = .ok (.iconst 2, 1) := by decide +kernel
theorem dX6_as_55 : decode cX6_as 55 = .ok (.if_icmp .ne 12, 3) := by decide +kernel
theorem dX6_as_58 : decode cX6_as 58 = .ok (.iload_n 3, 1) := by decide +kernel
theorem dX6_as_59 : decode cX6_as 59 = .ok (.iconst 4, 1) := by decide +kernel
theorem dX6_as_60 : decode cX6_as 60 = .ok (.if_icmp .ne 7, 3) := by decide +kernel
theorem dX6_as_63 : decode cX6_as 63 = .ok (.iconst 1, 1) := by decide +kernel
theorem dX6_as_64 : decode cX6_as 64 = .ok (.goto 4, 3) := by decide +kernel
theorem dX6_as_67 : decode cX6_as 67 = .ok (.iconst 0, 1) := by decide +kernel
theorem dX6_as_68 : decode cX6_as 68 = .ok (.istore 4, 2) := by decide +kernel
theorem dX6_as_70 : decode cX6_as 70 = .ok (.iload 4, 2) := by decide +kernel
theorem dX6_as_72 : decode cX6_as 72 = .ok (.ifCond .eq 7, 3) := by decide +kernel
theorem dX6_as_75 : decode cX6_as 75 = .ok (.iload_n 1, 1) := by decide +kernel
theorem dX6_as_76 : decode cX6_as 76 = .ok (.goto 4, 3) := by decide +kernel
theorem dX6_as_79 : decode cX6_as 79 = .ok (.iconst (-1), 1) := by decide +kernel
theorem dX6_as_80 : decode cX6_as 80 = .ok (.ireturn, 1) := by decide +kernel
set_option maxRecDepth 20000 in
theorem ggX6_may_X6_isDeed : GoodIn wsX6_may wsX6_isDeed := goodIn_r _ [6, 7, 8, 9, 10, 11, 12, 13, 5, 14, 15, 16, 17, 18, 19, 46, 47, 48, 49, 50, 51, 52, 53, 54, 55, 56, 57, 58, 59, 60, 61, 62, 63, 64, 65, 66, 67, 68, 69] (by decide +kernel) (by decide +kernel)
set_option maxRecDepth 20000 in
theorem gX6_may_X6_isDeed : GoodIn wsX6_may (wsV RX6 118 RX6 yX6_isDeed wsX6_isDeed) := goodIn_app (goodIn_of _ (by decide +kernel)) ggX6_may_X6_isDeed
set_option maxRecDepth 20000 in
theorem ggX6_may_X6_done : GoodIn wsX6_may wsX6_done := goodIn_r _ [23, 24, 25, 26, 27, 5, 28, 29, 30, 31, 32, 19, 33, 34, 35, 36, 37, 38, 39, 40, 41, 42, 43, 44, 45, 46, 47, 48, 49, 50, 51, 52, 53, 54, 55, 56, 57, 58, 59, 60, 61, 62, 63, 64, 65, 66, 67, 68, 69] (by decide +kernel) (by decide +kernel)
set_option maxRecDepth 20000 in
theorem gX6_may_X6_done : GoodIn wsX6_may (wsV RX6 121 RX6 yX6_done wsX6_done) := goodIn_app (goodIn_of _ (by decide +kernel)) ggX6_may_X6_done
theorem dX6_may_0 : decode cX6_may 0 = .ok (.aload_n 0, 1) := by decide +kernel
theorem dX6_may_1 : decode cX6_may 1 = .ok (.iload_n 1, 1) := by decide +kernel
theorem dX6_may_2 : decode cX6_may 2 = .ok (.invokevirtual 118, 3) := by decide +kernel
theorem dX6_may_5 : decode cX6_may 5 = .ok (.ifCond .ne 8, 3) := by decide +kernel
theorem dX6_may_8 : decode cX6_may 8 = .ok (.bipush (-101), 2) := by decide +kernel
theorem dX6_may_10 : decode cX6_may 10 = .ok (.goto 21, 3) := by decide +kernel
theorem dX6_may_13 : decode cX6_may 13 = .ok (.aload_n 0, 1) := by decide +kernel
theorem dX6_may_14 : decode cX6_may 14 = .ok (.aload_n 0, 1) := by decide +kernel
theorem dX6_may_15 : decode cX6_may 15 = .ok (.getfield 115, 3) := by decide +kernel
theorem dX6_may_18 : decode cX6_may 18 = .ok (.iload_n 1, 1) := by decide +kernel
theorem dX6_may_19 : decode cX6_may 19 = .ok (.invokevirtual 121, 3) := by decide +kernel
theorem dX6_may_22 : decode cX6_may 22 = .ok (.iconst (-1), 1) := by decide +kernel
theorem dX6_may_23 : decode cX6_may 23 = .ok (.if_icmp .ne 7, 3) := by decide +kernel
theorem dX6_may_26 : decode cX6_may 26 = .ok (.iconst 0, 1) := by decide +kernel
theorem dX6_may_27 : decode cX6_may 27 = .ok (.goto 4, 3) := by decide +kernel
theorem dX6_may_30 : decode cX6_may 30 = .ok (.iconst 1, 1) := by decide +kernel
theorem dX6_may_31 : decode cX6_may 31 = .ok (.ireturn, 1) := by decide +kernel
set_option maxRecDepth 20000 in
theorem ggX6_deed_X6_isDeed : GoodIn wsX6_deed wsX6_isDeed := goodIn_r _ [7, 8, 9, 10, 11, 12, 13, 14, 6, 15, 16, 17, 18, 19, 20, 47, 48, 49, 50, 51, 52, 53, 54, 55, 56, 57, 58, 59, 60, 61, 62, 63, 64, 65, 66, 67, 68, 69, 70] (by decide +kernel) (by decide +kernel)
set_option maxRecDepth 20000 in
theorem gX6_deed_X6_isDeed : GoodIn wsX6_deed (wsV RX6 118 RX6 yX6_isDeed wsX6_isDeed) := goodIn_app (goodIn_of _ (by decide +kernel)) ggX6_deed_X6_isDeed
set_option maxRecDepth 20000 in
theorem ggX6_deed_X6_done : GoodIn wsX6_deed wsX6_done := goodIn_r _ [24, 25, 26, 27, 28, 6, 29, 30, 31, 32, 33, 20, 34, 35, 36, 37, 38, 39, 40, 41, 42, 43, 44, 45, 46, 47, 48, 49, 50, 51, 52, 53, 54, 55, 56, 57, 58, 59, 60, 61, 62, 63, 64, 65, 66, 67, 68, 69, 70] (by decide +kernel) (by decide +kernel)
set_option maxRecDepth 20000 in
theorem gX6_deed_X6_done : GoodIn wsX6_deed (wsV RX6 121 RX6 yX6_done wsX6_done) := goodIn_app (goodIn_of _ (by decide +kernel)) ggX6_deed_X6_done
theorem dX6_deed_0 : decode cX6_deed 0 = .ok (.aload_n 0, 1) := by decide +kernel
theorem dX6_deed_1 : decode cX6_deed 1 = .ok (.iload_n 1, 1) := by decide +kernel
theorem dX6_deed_2 : decode cX6_deed 2 = .ok (.invokevirtual 118, 3) := by decide +kernel
theorem dX6_deed_5 : decode cX6_deed 5 = .ok (.ifCond .ne 6, 3) := by decide +kernel
theorem dX6_deed_8 : decode cX6_deed 8 = .ok (.bipush (-101), 2) := by decide +kernel
theorem dX6_deed_10 : decode cX6_deed 10 = .ok (.ireturn, 1) := by decide +kernel
theorem dX6_deed_11 : decode cX6_deed 11 = .ok (.aload_n 0, 1) := by decide +kernel
theorem dX6_deed_12 : decode cX6_deed 12 = .ok (.aload_n 0, 1) := by decide +kernel
theorem dX6_deed_13 : decode cX6_deed 13 = .ok (.getfield 115, 3) := by decide +kernel
theorem dX6_deed_16 : decode cX6_deed 16 = .ok (.iload_n 1, 1) := by decide +kernel
theorem dX6_deed_17 : decode cX6_deed 17 = .ok (.invokevirtual 121, 3) := by decide +kernel
theorem dX6_deed_20 : decode cX6_deed 20 = .ok (.istore_n 2, 1) := by decide +kernel
theorem dX6_deed_21 : decode cX6_deed 21 = .ok (.iload_n 2, 1) := by decide +kernel
theorem dX6_deed_22 : decode cX6_deed 22 = .ok (.iconst (-1), 1) := by decide +kernel
theorem dX6_deed_23 : decode cX6_deed 23 = .ok (.if_icmp .ne 6, 3) := by decide +kernel
theorem dX6_deed_26 : decode cX6_deed 26 = .ok (.bipush (-103), 2) := by decide +kernel
theorem dX6_deed_28 : decode cX6_deed 28 = .ok (.ireturn, 1) := by decide +kernel
theorem dX6_deed_29 : decode cX6_deed 29 = .ok (.aload_n 0, 1) := by decide +kernel
theorem dX6_deed_30 : decode cX6_deed 30 = .ok (.iload_n 2, 1) := by decide +kernel
theorem dX6_deed_31 : decode cX6_deed 31 = .ok (.putfield 115, 3) := by decide +kernel
theorem dX6_deed_34 : decode cX6_deed 34 = .ok (.aload_n 0, 1) := by decide +kernel
theorem dX6_deed_35 : decode cX6_deed 35 = .ok (.dup, 1) := by decide +kernel
theorem dX6_deed_36 : decode cX6_deed 36 = .ok (.getfield 137, 3) := by decide +kernel
theorem dX6_deed_39 : decode cX6_deed 39 = .ok (.iconst 1, 1) := by decide +kernel
theorem dX6_deed_40 : decode cX6_deed 40 = .ok (.iadd, 1) := by decide +kernel
theorem dX6_deed_41 : decode cX6_deed 41 = .ok (.putfield 137, 3) := by decide +kernel
theorem dX6_deed_44 : decode cX6_deed 44 = .ok (.aload_n 0, 1) := by decide +kernel
theorem dX6_deed_45 : decode cX6_deed 45 = .ok (.getfield 137, 3) := by decide +kernel
theorem dX6_deed_48 : decode cX6_deed 48 = .ok (.ireturn, 1) := by decide +kernel
theorem dX6_number_0 : decode cX6_number 0 = .ok (.aload_n 0, 1) := by decide +kernel
theorem dX6_number_1 : decode cX6_number 1 = .ok (.getfield 115, 3) := by decide +kernel
theorem dX6_number_4 : decode cX6_number 4 = .ok (.ireturn, 1) := by decide +kernel
set_option maxRecDepth 20000 in
theorem ggX6_lay_X6_isDeed : GoodIn wsX6_lay wsX6_isDeed := goodIn_r _ [10, 11, 12, 13, 14, 15, 16, 17, 9, 18, 19, 20, 21, 22, 23, 50, 51, 52, 53, 54, 55, 56, 57, 58, 59, 60, 61, 62, 63, 64, 65, 66, 67, 68, 69, 70, 71, 72, 73] (by decide +kernel) (by decide +kernel)
set_option maxRecDepth 20000 in
theorem gX6_lay_X6_isDeed : GoodIn wsX6_lay (wsV RX6 118 RX6 yX6_isDeed wsX6_isDeed) := goodIn_app (goodIn_of _ (by decide +kernel)) ggX6_lay_X6_isDeed
set_option maxRecDepth 20000 in
theorem ggX6_lay_X6_done : GoodIn wsX6_lay wsX6_done := goodIn_r _ [27, 28, 29, 30, 31, 9, 32, 33, 34, 35, 36, 23, 37, 38, 39, 40, 41, 42, 43, 44, 45, 46, 47, 48, 49, 50, 51, 52, 53, 54, 55, 56, 57, 58, 59, 60, 61, 62, 63, 64, 65, 66, 67, 68, 69, 70, 71, 72, 73] (by decide +kernel) (by decide +kernel)
set_option maxRecDepth 20000 in
theorem gX6_lay_X6_done : GoodIn wsX6_lay (wsV RX6 121 RX6 yX6_done wsX6_done) := goodIn_app (goodIn_of _ (by decide +kernel)) ggX6_lay_X6_done
theorem dX6_lay_0 : decode cX6_lay 0 = .ok (.iconst 0, 1) := by decide +kernel
theorem dX6_lay_1 : decode cX6_lay 1 = .ok (.istore_n 1, 1) := by decide +kernel
theorem dX6_lay_2 : decode cX6_lay 2 = .ok (.iload_n 1, 1) := by decide +kernel
theorem dX6_lay_3 : decode cX6_lay 3 = .ok (.sipush 7776, 3) := by decide +kernel
theorem dX6_lay_6 : decode cX6_lay 6 = .ok (.if_icmp .ge 16, 3) := by decide +kernel
theorem dX6_lay_9 : decode cX6_lay 9 = .ok (.aload_n 0, 1) := by decide +kernel
theorem dX6_lay_10 : decode cX6_lay 10 = .ok (.getfield 19, 3) := by decide +kernel
theorem dX6_lay_13 : decode cX6_lay 13 = .ok (.iload_n 1, 1) := by decide +kernel
theorem dX6_lay_14 : decode cX6_lay 14 = .ok (.iconst (-1), 1) := by decide +kernel
theorem dX6_lay_15 : decode cX6_lay 15 = .ok (.iastore, 1) := by decide +kernel
theorem dX6_lay_16 : decode cX6_lay 16 = .ok (.iinc 1 1, 3) := by decide +kernel
theorem dX6_lay_19 : decode cX6_lay 19 = .ok (.goto (-17), 3) := by decide +kernel
theorem dX6_lay_22 : decode cX6_lay 22 = .ok (.aload_n 0, 1) := by decide +kernel
theorem dX6_lay_23 : decode cX6_lay 23 = .ok (.getfield 19, 3) := by decide +kernel
theorem dX6_lay_26 : decode cX6_lay 26 = .ok (.aload_n 0, 1) := by decide +kernel
theorem dX6_lay_27 : decode cX6_lay 27 = .ok (.getfield 115, 3) := by decide +kernel
theorem dX6_lay_30 : decode cX6_lay 30 = .ok (.iconst 0, 1) := by decide +kernel
theorem dX6_lay_31 : decode cX6_lay 31 = .ok (.iastore, 1) := by decide +kernel
theorem dX6_lay_32 : decode cX6_lay 32 = .ok (.aload_n 0, 1) := by decide +kernel
theorem dX6_lay_33 : decode cX6_lay 33 = .ok (.getfield 22, 3) := by decide +kernel
theorem dX6_lay_36 : decode cX6_lay 36 = .ok (.aload_n 0, 1) := by decide +kernel
theorem dX6_lay_37 : decode cX6_lay 37 = .ok (.getfield 115, 3) := by decide +kernel
theorem dX6_lay_40 : decode cX6_lay 40 = .ok (.iconst (-1), 1) := by decide +kernel
theorem dX6_lay_41 : decode cX6_lay 41 = .ok (.iastore, 1) := by decide +kernel
theorem dX6_lay_42 : decode cX6_lay 42 = .ok (.aload_n 0, 1) := by decide +kernel
theorem dX6_lay_43 : decode cX6_lay 43 = .ok (.getfield 25, 3) := by decide +kernel
theorem dX6_lay_46 : decode cX6_lay 46 = .ok (.iconst 0, 1) := by decide +kernel
theorem dX6_lay_47 : decode cX6_lay 47 = .ok (.aload_n 0, 1) := by decide +kernel
theorem dX6_lay_48 : decode cX6_lay 48 = .ok (.getfield 115, 3) := by decide +kernel
theorem dX6_lay_51 : decode cX6_lay 51 = .ok (.iastore, 1) := by decide +kernel
theorem dX6_lay_52 : decode cX6_lay 52 = .ok (.aload_n 0, 1) := by decide +kernel
theorem dX6_lay_53 : decode cX6_lay 53 = .ok (.iconst 1, 1) := by decide +kernel
theorem dX6_lay_54 : decode cX6_lay 54 = .ok (.putfield 140, 3) := by decide +kernel
theorem dX6_lay_57 : decode cX6_lay 57 = .ok (.iconst 0, 1) := by decide +kernel
theorem dX6_lay_58 : decode cX6_lay 58 = .ok (.istore_n 1, 1) := by decide +kernel
theorem dX6_lay_59 : decode cX6_lay 59 = .ok (.iload_n 1, 1) := by decide +kernel
theorem dX6_lay_60 : decode cX6_lay 60 = .ok (.aload_n 0, 1) := by decide +kernel
theorem dX6_lay_61 : decode cX6_lay 61 = .ok (.getfield 140, 3) := by decide +kernel
theorem dX6_lay_64 : decode cX6_lay 64 = .ok (.if_icmp .ge 124, 3) := by decide +kernel
theorem dX6_lay_67 : decode cX6_lay 67 = .ok (.aload_n 0, 1) := by decide +kernel
theorem dX6_lay_68 : decode cX6_lay 68 = .ok (.getfield 25, 3) := by decide +kernel
theorem dX6_lay_71 : decode cX6_lay 71 = .ok (.iload_n 1, 1) := by decide +kernel
theorem dX6_lay_72 : decode cX6_lay 72 = .ok (.iaload, 1) := by decide +kernel
theorem dX6_lay_73 : decode cX6_lay 73 = .ok (.istore_n 2, 1) := by decide +kernel
theorem dX6_lay_74 : decode cX6_lay 74 = .ok (.iconst 0, 1) := by decide +kernel
theorem dX6_lay_75 : decode cX6_lay 75 = .ok (.istore_n 3, 1) := by decide +kernel
theorem dX6_lay_76 : decode cX6_lay 76 = .ok (.iload_n 3, 1) := by decide +kernel
theorem dX6_lay_77 : decode cX6_lay 77 = .ok (.bipush 45, 2) := by decide +kernel
theorem dX6_lay_79 : decode cX6_lay 79 = .ok (.if_icmp .ge 103, 3) := by decide +kernel
theorem dX6_lay_82 : decode cX6_lay 82 = .ok (.aload_n 0, 1) := by decide +kernel
theorem dX6_lay_83 : decode cX6_lay 83 = .ok (.iload_n 3, 1) := by decide +kernel
theorem dX6_lay_84 : decode cX6_lay 84 = .ok (.invokevirtual 118, 3) := by decide +kernel
theorem dX6_lay_87 : decode cX6_lay 87 = .ok (.ifCond .eq 12, 3) := by decide +kernel
theorem dX6_lay_90 : decode cX6_lay 90 = .ok (.aload_n 0, 1) := by decide +kernel
theorem dX6_lay_91 : decode cX6_lay 91 = .ok (.iload_n 2, 1) := by decide +kernel
theorem dX6_lay_92 : decode cX6_lay 92 = .ok (.iload_n 3, 1) := by decide +kernel
theorem dX6_lay_93 : decode cX6_lay 93 = .ok (.invokevirtual 121, 3) := by decide +kernel
theorem dX6_lay_96 : decode cX6_lay 96 = .ok (.goto 4, 3) := by decide +kernel
theorem dX6_lay_99 : decode cX6_lay 99 = .ok (.iconst (-1), 1) := by decide +kernel
theorem dX6_lay_100 : decode cX6_lay 100 = .ok (.istore 4, 2) := by decide +kernel
theorem dX6_lay_102 : decode cX6_lay 102 = .ok (.iload 4, 2) := by decide +kernel
theorem dX6_lay_104 : decode cX6_lay 104 = .ok (.iconst (-1), 1) := by decide +kernel
theorem dX6_lay_105 : decode cX6_lay 105 = .ok (.if_icmp .eq 71, 3) := by decide +kernel
theorem dX6_lay_108 : decode cX6_lay 108 = .ok (.aload_n 0, 1) := by decide +kernel
theorem dX6_lay_109 : decode cX6_lay 109 = .ok (.getfield 19, 3) := by decide +kernel
theorem dX6_lay_112 : decode cX6_lay 112 = .ok (.iload 4, 2) := by decide +kernel
theorem dX6_lay_114 : decode cX6_lay 114 = .ok (.iaload, 1) := by decide +kernel
theorem dX6_lay_115 : decode cX6_lay 115 = .ok (.iconst (-1), 1) := by decide +kernel
theorem dX6_lay_116 : decode cX6_lay 116 = .ok (.if_icmp .ne 60, 3) := by decide +kernel
theorem dX6_lay_119 : decode cX6_lay 119 = .ok (.aload_n 0, 1) := by decide +kernel
theorem dX6_lay_120 : decode cX6_lay 120 = .ok (.getfield 19, 3) := by decide +kernel
theorem dX6_lay_123 : decode cX6_lay 123 = .ok (.iload 4, 2) := by decide +kernel
theorem dX6_lay_125 : decode cX6_lay 125 = .ok (.aload_n 0, 1) := by decide +kernel
theorem dX6_lay_126 : decode cX6_lay 126 = .ok (.getfield 19, 3) := by decide +kernel
theorem dX6_lay_129 : decode cX6_lay 129 = .ok (.iload_n 2, 1) := by decide +kernel
theorem dX6_lay_130 : decode cX6_lay 130 = .ok (.iaload, 1) := by decide +kernel
theorem dX6_lay_131 : decode cX6_lay 131 = .ok (.iconst 1, 1) := by decide +kernel
theorem dX6_lay_132 : decode cX6_lay 132 = .ok (.iadd, 1) := by decide +kernel
theorem dX6_lay_133 : decode cX6_lay 133 = .ok (.iastore, 1) := by decide +kernel
theorem dX6_lay_134 : decode cX6_lay 134 = .ok (.aload_n 0, 1) := by decide +kernel
theorem dX6_lay_135 : decode cX6_lay 135 = .ok (.getfield 22, 3) := by decide +kernel
theorem dX6_lay_138 : decode cX6_lay 138 = .ok (.iload 4, 2) := by decide +kernel
theorem dX6_lay_140 : decode cX6_lay 140 = .ok (.iload_n 1, 1) := by decide +kernel
theorem dX6_lay_141 : decode cX6_lay 141 = .ok (.ifCond .ne 7, 3) := by decide +kernel
theorem dX6_lay_144 : decode cX6_lay 144 = .ok (.iload_n 3, 1) := by decide +kernel
theorem dX6_lay_145 : decode cX6_lay 145 = .ok (.goto 9, 3) := by decide +kernel
theorem dX6_lay_148 : decode cX6_lay 148 = .ok (.aload_n 0, 1) := by decide +kernel
theorem dX6_lay_149 : decode cX6_lay 149 = .ok (.getfield 22, 3) := by decide +kernel
theorem dX6_lay_152 : decode cX6_lay 152 = .ok (.iload_n 2, 1) := by decide +kernel
theorem dX6_lay_153 : decode cX6_lay 153 = .ok (.iaload, 1) := by decide +kernel
theorem dX6_lay_154 : decode cX6_lay 154 = .ok (.iastore, 1) := by decide +kernel
theorem dX6_lay_155 : decode cX6_lay 155 = .ok (.aload_n 0, 1) := by decide +kernel
theorem dX6_lay_156 : decode cX6_lay 156 = .ok (.getfield 25, 3) := by decide +kernel
theorem dX6_lay_159 : decode cX6_lay 159 = .ok (.aload_n 0, 1) := by decide +kernel
theorem dX6_lay_160 : decode cX6_lay 160 = .ok (.getfield 140, 3) := by decide +kernel
theorem dX6_lay_163 : decode cX6_lay 163 = .ok (.iload 4, 2) := by decide +kernel
theorem dX6_lay_165 : decode cX6_lay 165 = .ok (.iastore, 1) := by decide +kernel
theorem dX6_lay_166 : decode cX6_lay 166 = .ok (.aload_n 0, 1) := by decide +kernel
theorem dX6_lay_167 : decode cX6_lay 167 = .ok (.dup, 1) := by decide +kernel
theorem dX6_lay_168 : decode cX6_lay 168 = .ok (.getfield 140, 3) := by decide +kernel
theorem dX6_lay_171 : decode cX6_lay 171 = .ok (.iconst 1, 1) := by decide +kernel
theorem dX6_lay_172 : decode cX6_lay 172 = .ok (.iadd, 1) := by decide +kernel
theorem dX6_lay_173 : decode cX6_lay 173 = .ok (.putfield 140, 3) := by decide +kernel
theorem dX6_lay_176 : decode cX6_lay 176 = .ok (.iinc 3 1, 3) := by decide +kernel
theorem dX6_lay_179 : decode cX6_lay 179 = .ok (.goto (-103), 3) := by decide +kernel
theorem dX6_lay_182 : decode cX6_lay 182 = .ok (.iinc 1 1, 3) := by decide +kernel
theorem dX6_lay_185 : decode cX6_lay 185 = .ok (.goto (-126), 3) := by decide +kernel
theorem dX6_lay_188 : decode cX6_lay 188 = .ok (.return_, 1) := by decide +kernel
set_option maxRecDepth 20000 in
theorem ggX6_areOut_X6_holder : GoodIn wsX6_areOut wsX6_holder := goodIn_r _ [4, 5, 6, 3, 7] (by decide +kernel) (by decide +kernel)
set_option maxRecDepth 20000 in
theorem gX6_areOut_X6_holder : GoodIn wsX6_areOut (va_wsS RX6 85 yX6_holder wsX6_holder) := goodIn_app (goodIn_of _ (by decide +kernel)) ggX6_areOut_X6_holder
theorem dX6_areOut_0 : decode cX6_areOut 0 = .ok (.iconst 1, 1) := by decide +kernel
theorem dX6_areOut_1 : decode cX6_areOut 1 = .ok (.istore_n 2, 1) := by decide +kernel
theorem dX6_areOut_2 : decode cX6_areOut 2 = .ok (.iconst 0, 1) := by decide +kernel
theorem dX6_areOut_3 : decode cX6_areOut 3 = .ok (.istore_n 3, 1) := by decide +kernel
theorem dX6_areOut_4 : decode cX6_areOut 4 = .ok (.iload_n 3, 1) := by decide +kernel
theorem dX6_areOut_5 : decode cX6_areOut 5 = .ok (.iconst 5, 1) := by decide +kernel
theorem dX6_areOut_6 : decode cX6_areOut 6 = .ok (.if_icmp .ge 36, 3) := by decide +kernel
theorem dX6_areOut_9 : decode cX6_areOut 9 = .ok (.iload_n 2, 1) := by decide +kernel
theorem dX6_areOut_10 : decode cX6_areOut 10 = .ok (.ifCond .eq 24, 3) := by decide +kernel
theorem dX6_areOut_13 : decode cX6_areOut 13 = .ok (.iload_n 1, 1) := by decide +kernel
theorem dX6_areOut_14 : decode cX6_areOut 14 = .ok (.iload_n 3, 1) := by decide +kernel
theorem dX6_areOut_15 : decode cX6_areOut 15 = .ok (.ishr, 1) := by decide +kernel
theorem dX6_areOut_16 : decode cX6_areOut 16 = .ok (.iconst 1, 1) := by decide +kernel
theorem dX6_areOut_17 : decode cX6_areOut 17 = .ok (.iand, 1) := by decide +kernel
theorem dX6_areOut_18 : decode cX6_areOut 18 = .ok (.ifCond .eq 12, 3) := by decide +kernel
theorem dX6_areOut_21 : decode cX6_areOut 21 = .ok (.iload_n 0, 1) := by decide +kernel
theorem dX6_areOut_22 : decode cX6_areOut 22 = .ok (.iload_n 3, 1) := by decide +kernel
theorem dX6_areOut_23 : decode cX6_areOut 23 = .ok (.invokestatic 85, 3) := by decide +kernel
theorem dX6_areOut_26 : decode cX6_areOut 26 = .ok (.iconst (-1), 1) := by decide +kernel
theorem dX6_areOut_27 : decode cX6_areOut 27 = .ok (.if_icmp .ne 7, 3) := by decide +kernel
theorem dX6_areOut_30 : decode cX6_areOut 30 = .ok (.iconst 1, 1) := by decide +kernel
theorem dX6_areOut_31 : decode cX6_areOut 31 = .ok (.goto 4, 3) := by decide +kernel
theorem dX6_areOut_34 : decode cX6_areOut 34 = .ok (.iconst 0, 1) := by decide +kernel
theorem dX6_areOut_35 : decode cX6_areOut 35 = .ok (.istore_n 2, 1) := by decide +kernel
theorem dX6_areOut_36 : decode cX6_areOut 36 = .ok (.iinc 3 1, 3) := by decide +kernel
theorem dX6_areOut_39 : decode cX6_areOut 39 = .ok (.goto (-35), 3) := by decide +kernel
theorem dX6_areOut_42 : decode cX6_areOut 42 = .ok (.iload_n 2, 1) := by decide +kernel
theorem dX6_areOut_43 : decode cX6_areOut 43 = .ok (.ireturn, 1) := by decide +kernel
set_option maxRecDepth 20000 in
theorem ggX6_soonestOf_X6_lay : GoodIn wsX6_soonestOf wsX6_lay := goodIn_r _ [9, 3, 10, 4, 2, 1, 11, 12, 13, 8, 14, 15, 16, 17, 18, 19, 20, 21, 22, 23, 24, 25, 26, 27, 28, 29, 30, 31, 32, 33, 34, 35, 36, 37, 38, 39, 40, 41, 42, 43, 44, 45, 46, 47, 48, 49, 50, 51, 52, 53, 57, 58, 59, 60, 61, 62, 63, 64, 65, 66, 67, 68, 69, 70, 71, 72, 73, 74, 75, 76, 77, 78, 79, 80] (by decide +kernel) (by decide +kernel)
set_option maxRecDepth 20000 in
theorem gX6_soonestOf_X6_lay : GoodIn wsX6_soonestOf (wsV RX6 143 RX6 yX6_lay wsX6_lay) := goodIn_app (goodIn_of _ (by decide +kernel)) ggX6_soonestOf_X6_lay
set_option maxRecDepth 20000 in
theorem ggX6_soonestOf_X6_areOut : GoodIn wsX6_soonestOf wsX6_areOut := goodIn_r _ [56, 41, 42, 8, 43, 44, 45, 46] (by decide +kernel) (by decide +kernel)
set_option maxRecDepth 20000 in
theorem gX6_soonestOf_X6_areOut : GoodIn wsX6_soonestOf (va_wsS RX6 146 yX6_areOut wsX6_areOut) := goodIn_app (goodIn_of _ (by decide +kernel)) ggX6_soonestOf_X6_areOut
theorem dX6_soonestOf_0 : decode cX6_soonestOf 0 = .ok (.aload_n 0, 1) := by decide +kernel
theorem dX6_soonestOf_1 : decode cX6_soonestOf 1 = .ok (.invokevirtual 143, 3) := by decide +kernel
theorem dX6_soonestOf_4 : decode cX6_soonestOf 4 = .ok (.iconst 0, 1) := by decide +kernel
theorem dX6_soonestOf_5 : decode cX6_soonestOf 5 = .ok (.istore_n 3, 1) := by decide +kernel
theorem dX6_soonestOf_6 : decode cX6_soonestOf 6 = .ok (.iload_n 3, 1) := by decide +kernel
theorem dX6_soonestOf_7 : decode cX6_soonestOf 7 = .ok (.aload_n 0, 1) := by decide +kernel
theorem dX6_soonestOf_8 : decode cX6_soonestOf 8 = .ok (.getfield 140, 3) := by decide +kernel
theorem dX6_soonestOf_11 : decode cX6_soonestOf 11 = .ok (.if_icmp .ge 52, 3) := by decide +kernel
theorem dX6_soonestOf_14 : decode cX6_soonestOf 14 = .ok (.aload_n 0, 1) := by decide +kernel
theorem dX6_soonestOf_15 : decode cX6_soonestOf 15 = .ok (.getfield 25, 3) := by decide +kernel
theorem dX6_soonestOf_18 : decode cX6_soonestOf 18 = .ok (.iload_n 3, 1) := by decide +kernel
theorem dX6_soonestOf_19 : decode cX6_soonestOf 19 = .ok (.iaload, 1) := by decide +kernel
theorem dX6_soonestOf_20 : decode cX6_soonestOf 20 = .ok (.iload_n 1, 1) := by decide +kernel
theorem dX6_soonestOf_21 : decode cX6_soonestOf 21 = .ok (.invokestatic 146, 3) := by decide +kernel
theorem dX6_soonestOf_24 : decode cX6_soonestOf 24 = .ok (.ifCond .eq 33, 3) := by decide +kernel
theorem dX6_soonestOf_27 : decode cX6_soonestOf 27 = .ok (.iload_n 2, 1) := by decide +kernel
theorem dX6_soonestOf_28 : decode cX6_soonestOf 28 = .ok (.ifCond .ne 17, 3) := by decide +kernel
theorem dX6_soonestOf_31 : decode cX6_soonestOf 31 = .ok (.aload_n 0, 1) := by decide +kernel
theorem dX6_soonestOf_32 : decode cX6_soonestOf 32 = .ok (.getfield 19, 3) := by decide +kernel
theorem dX6_soonestOf_35 : decode cX6_soonestOf 35 = .ok (.aload_n 0, 1) := by decide +kernel
theorem dX6_soonestOf_36 : decode cX6_soonestOf 36 = .ok (.getfield 25, 3) := by decide +kernel
theorem dX6_soonestOf_39 : decode cX6_soonestOf 39 = .ok (.iload_n 3, 1) := by decide +kernel
theorem dX6_soonestOf_40 : decode cX6_soonestOf 40 = .ok (.iaload, 1) := by decide +kernel
theorem dX6_soonestOf_41 : decode cX6_soonestOf 41 = .ok (.iaload, 1) := by decide +kernel
theorem dX6_soonestOf_42 : decode cX6_soonestOf 42 = .ok (.goto 14, 3) := by decide +kernel
theorem dX6_soonestOf_45 : decode cX6_soonestOf 45 = .ok (.aload_n 0, 1) := by decide +kernel
theorem dX6_soonestOf_46 : decode cX6_soonestOf 46 = .ok (.getfield 22, 3) := by decide +kernel
theorem dX6_soonestOf_49 : decode cX6_soonestOf 49 = .ok (.aload_n 0, 1) := by decide +kernel
theorem dX6_soonestOf_50 : decode cX6_soonestOf 50 = .ok (.getfield 25, 3) := by decide +kernel
theorem dX6_soonestOf_53 : decode cX6_soonestOf 53 = .ok (.iload_n 3, 1) := by decide +kernel
theorem dX6_soonestOf_54 : decode cX6_soonestOf 54 = .ok (.iaload, 1) := by decide +kernel
theorem dX6_soonestOf_55 : decode cX6_soonestOf 55 = .ok (.iaload, 1) := by decide +kernel
theorem dX6_soonestOf_56 : decode cX6_soonestOf 56 = .ok (.ireturn, 1) := by decide +kernel
theorem dX6_soonestOf_57 : decode cX6_soonestOf 57 = .ok (.iinc 3 1, 3) := by decide +kernel
theorem dX6_soonestOf_60 : decode cX6_soonestOf 60 = .ok (.goto (-54), 3) := by decide +kernel
theorem dX6_soonestOf_63 : decode cX6_soonestOf 63 = .ok (.iconst (-1), 1) := by decide +kernel
theorem dX6_soonestOf_64 : decode cX6_soonestOf 64 = .ok (.ireturn, 1) := by decide +kernel
set_option maxRecDepth 20000 in
theorem ggX6_soonest_X6_in : GoodIn wsX6_soonest wsX6_in := goodIn_r _ [5] (by decide +kernel) (by decide +kernel)
set_option maxRecDepth 20000 in
theorem gX6_soonest_X6_in : GoodIn wsX6_soonest (va_wsS RX6 43 yX6_in wsX6_in) := goodIn_app (goodIn_of _ (by decide +kernel)) ggX6_soonest_X6_in
set_option maxRecDepth 20000 in
theorem ggX6_soonest_X6_soonestOf : GoodIn wsX6_soonest wsX6_soonestOf := goodIn_r _ [9, 10, 11, 12, 13, 14, 15, 16, 4, 17, 18, 19, 20, 21, 22, 23, 24, 25, 26, 27, 2, 3, 5, 28, 29, 30, 31, 1, 32, 33, 34, 35, 36, 37, 38, 39, 40, 41, 42, 43, 44, 45, 46, 47, 48, 49, 50, 51, 52, 53, 54, 55, 56, 57, 58, 59, 60, 61, 62, 63, 64, 65, 66, 67, 68, 69, 70, 71, 72, 73, 74, 75, 76, 77, 78, 79, 80, 81, 82, 83, 84] (by decide +kernel) (by decide +kernel)
set_option maxRecDepth 20000 in
theorem gX6_soonest_X6_soonestOf : GoodIn wsX6_soonest (wsV RX6 150 RX6 yX6_soonestOf wsX6_soonestOf) := goodIn_app (goodIn_of _ (by decide +kernel)) ggX6_soonest_X6_soonestOf
theorem dX6_soonest_0 : decode cX6_soonest 0 = .ok (.iload_n 1, 1) := by decide +kernel
theorem dX6_soonest_1 : decode cX6_soonest 1 = .ok (.i2l, 1) := by decide +kernel
theorem dX6_soonest_2 : decode cX6_soonest 2 = .ok (.lconst 0, 1) := by decide +kernel
theorem dX6_soonest_3 : decode cX6_soonest 3 = .ok (.iconst 1, 1) := by decide +kernel
theorem dX6_soonest_4 : decode cX6_soonest 4 = .ok (.aload_n 0, 1) := by decide +kernel
theorem dX6_soonest_5 : decode cX6_soonest 5 = .ok (.getfield 72, 3) := by decide +kernel
theorem dX6_soonest_8 : decode cX6_soonest 8 = .ok (.ishl, 1) := by decide +kernel
theorem dX6_soonest_9 : decode cX6_soonest 9 = .ok (.iconst 1, 1) := by decide +kernel
theorem dX6_soonest_10 : decode cX6_soonest 10 = .ok (.isub, 1) := by decide +kernel
theorem dX6_soonest_11 : decode cX6_soonest 11 = .ok (.i2l, 1) := by decide +kernel
theorem dX6_soonest_12 : decode cX6_soonest 12 = .ok (.invokestatic 43, 3) := by decide +kernel
theorem dX6_soonest_15 : decode cX6_soonest 15 = .ok (.ifCond .eq 22, 3) := by decide +kernel
theorem dX6_soonest_18 : decode cX6_soonest 18 = .ok (.iload_n 2, 1) := by decide +kernel
theorem dX6_soonest_19 : decode cX6_soonest 19 = .ok (.i2l, 1) := by decide +kernel
theorem dX6_soonest_20 : decode cX6_soonest 20 = .ok (.lconst 0, 1) := by decide +kernel
theorem dX6_soonest_21 : decode cX6_soonest 21 = .ok (.lconst 1, 1) := by decide +kernel
theorem dX6_soonest_22 : decode cX6_soonest 22 = .ok (.invokestatic 43, 3) := by decide +kernel
theorem dX6_soonest_25 : decode cX6_soonest 25 = .ok (.ifCond .eq 12, 3) := by decide +kernel
theorem dX6_soonest_28 : decode cX6_soonest 28 = .ok (.aload_n 0, 1) := by decide +kernel
theorem dX6_soonest_29 : decode cX6_soonest 29 = .ok (.iload_n 1, 1) := by decide +kernel
theorem dX6_soonest_30 : decode cX6_soonest 30 = .ok (.iload_n 2, 1) := by decide +kernel
theorem dX6_soonest_31 : decode cX6_soonest 31 = .ok (.invokevirtual 150, 3) := by decide +kernel
theorem dX6_soonest_34 : decode cX6_soonest 34 = .ok (.goto 5, 3) := by decide +kernel
theorem dX6_soonest_37 : decode cX6_soonest 37 = .ok (.bipush (-102), 2) := by decide +kernel
theorem dX6_soonest_39 : decode cX6_soonest 39 = .ok (.ireturn, 1) := by decide +kernel
set_option maxRecDepth 20000 in
theorem ggX6_together_X6_isBeing : GoodIn wsX6_together wsX6_isBeing := goodIn_r _ [8, 9, 10, 11, 7, 12, 54, 55, 56, 57, 58, 59, 60, 61, 62, 63, 64, 65, 66, 67, 68, 69, 70, 71, 72, 73, 74, 75, 76, 77] (by decide +kernel) (by decide +kernel)
set_option maxRecDepth 20000 in
theorem gX6_together_X6_isBeing : GoodIn wsX6_together (wsV RX6 98 RX6 yX6_isBeing wsX6_isBeing) := goodIn_app (goodIn_of _ (by decide +kernel)) ggX6_together_X6_isBeing
set_option maxRecDepth 20000 in
theorem ggX6_together_X6_lay : GoodIn wsX6_together wsX6_lay := goodIn_r _ [16, 3, 17, 18, 2, 1, 19, 20, 21, 7, 22, 23, 24, 25, 26, 27, 10, 11, 12, 4, 5, 6, 8, 9, 28, 29, 30, 31, 32, 33, 34, 35, 36, 37, 38, 39, 40, 41, 42, 43, 44, 45, 46, 47, 48, 49, 50, 51, 52, 53, 54, 55, 56, 57, 58, 59, 60, 61, 62, 63, 64, 65, 66, 67, 68, 69, 70, 71, 72, 73, 74, 75, 76, 77] (by decide +kernel) (by decide +kernel)
set_option maxRecDepth 20000 in
theorem gX6_together_X6_lay : GoodIn wsX6_together (wsV RX6 143 RX6 yX6_lay wsX6_lay) := goodIn_app (goodIn_of _ (by decide +kernel)) ggX6_together_X6_lay
set_option maxRecDepth 20000 in
theorem ggX6_together_X6_holder : GoodIn wsX6_together wsX6_holder := goodIn_r _ [43, 44, 45, 7, 46] (by decide +kernel) (by decide +kernel)
set_option maxRecDepth 20000 in
theorem gX6_together_X6_holder : GoodIn wsX6_together (va_wsS RX6 85 yX6_holder wsX6_holder) := goodIn_app (goodIn_of _ (by decide +kernel)) ggX6_together_X6_holder
theorem dX6_together_0 : decode cX6_together 0 = .ok (.aload_n 0, 1) := by decide +kernel
theorem dX6_together_1 : decode cX6_together 1 = .ok (.iload_n 1, 1) := by decide +kernel
theorem dX6_together_2 : decode cX6_together 2 = .ok (.invokevirtual 98, 3) := by decide +kernel
theorem dX6_together_5 : decode cX6_together 5 = .ok (.ifCond .eq 16, 3) := by decide +kernel
theorem dX6_together_8 : decode cX6_together 8 = .ok (.aload_n 0, 1) := by decide +kernel
theorem dX6_together_9 : decode cX6_together 9 = .ok (.iload_n 2, 1) := by decide +kernel
theorem dX6_together_10 : decode cX6_together 10 = .ok (.invokevirtual 98, 3) := by decide +kernel
theorem dX6_together_13 : decode cX6_together 13 = .ok (.ifCond .eq 8, 3) := by decide +kernel
theorem dX6_together_16 : decode cX6_together 16 = .ok (.iload_n 1, 1) := by decide +kernel
theorem dX6_together_17 : decode cX6_together 17 = .ok (.iload_n 2, 1) := by decide +kernel
theorem dX6_together_18 : decode cX6_together 18 = .ok (.if_icmp .ne 6, 3) := by decide +kernel
theorem dX6_together_21 : decode cX6_together 21 = .ok (.bipush (-101), 2) := by decide +kernel
theorem dX6_together_23 : decode cX6_together 23 = .ok (.ireturn, 1) := by decide +kernel
theorem dX6_together_24 : decode cX6_together 24 = .ok (.aload_n 0, 1) := by decide +kernel
theorem dX6_together_25 : decode cX6_together 25 = .ok (.invokevirtual 143, 3) := by decide +kernel
theorem dX6_together_28 : decode cX6_together 28 = .ok (.iconst 0, 1) := by decide +kernel
theorem dX6_together_29 : decode cX6_together 29 = .ok (.istore_n 3, 1) := by decide +kernel
theorem dX6_together_30 : decode cX6_together 30 = .ok (.iload_n 3, 1) := by decide +kernel
theorem dX6_together_31 : decode cX6_together 31 = .ok (.aload_n 0, 1) := by decide +kernel
theorem dX6_together_32 : decode cX6_together 32 = .ok (.getfield 140, 3) := by decide +kernel
theorem dX6_together_35 : decode cX6_together 35 = .ok (.if_icmp .ge 44, 3) := by decide +kernel
theorem dX6_together_38 : decode cX6_together 38 = .ok (.aload_n 0, 1) := by decide +kernel
theorem dX6_together_39 : decode cX6_together 39 = .ok (.getfield 25, 3) := by decide +kernel
theorem dX6_together_42 : decode cX6_together 42 = .ok (.iload_n 3, 1) := by decide +kernel
theorem dX6_together_43 : decode cX6_together 43 = .ok (.iaload, 1) := by decide +kernel
theorem dX6_together_44 : decode cX6_together 44 = .ok (.iload_n 1, 1) := by decide +kernel
theorem dX6_together_45 : decode cX6_together 45 = .ok (.invokestatic 85, 3) := by decide +kernel
theorem dX6_together_48 : decode cX6_together 48 = .ok (.aload_n 0, 1) := by decide +kernel
theorem dX6_together_49 : decode cX6_together 49 = .ok (.getfield 25, 3) := by decide +kernel
theorem dX6_together_52 : decode cX6_together 52 = .ok (.iload_n 3, 1) := by decide +kernel
theorem dX6_together_53 : decode cX6_together 53 = .ok (.iaload, 1) := by decide +kernel
theorem dX6_together_54 : decode cX6_together 54 = .ok (.iload_n 2, 1) := by decide +kernel
theorem dX6_together_55 : decode cX6_together 55 = .ok (.invokestatic 85, 3) := by decide +kernel
theorem dX6_together_58 : decode cX6_together 58 = .ok (.if_icmp .ne 15, 3) := by decide +kernel
theorem dX6_together_61 : decode cX6_together 61 = .ok (.aload_n 0, 1) := by decide +kernel
theorem dX6_together_62 : decode cX6_together 62 = .ok (.getfield 19, 3) := by decide +kernel
theorem dX6_together_65 : decode cX6_together 65 = .ok (.aload_n 0, 1) := by decide +kernel
theorem dX6_together_66 : decode cX6_together 66 = .ok (.getfield 25, 3) := by decide +kernel
theorem dX6_together_69 : decode cX6_together 69 = .ok (.iload_n 3, 1) := by decide +kernel
theorem dX6_together_70 : decode cX6_together 70 = .ok (.iaload, 1) := by decide +kernel
theorem dX6_together_71 : decode cX6_together 71 = .ok (.iaload, 1) := by decide +kernel
theorem dX6_together_72 : decode cX6_together 72 = .ok (.ireturn, 1) := by decide +kernel
theorem dX6_together_73 : decode cX6_together 73 = .ok (.iinc 3 1, 3) := by decide +kernel
theorem dX6_together_76 : decode cX6_together 76 = .ok (.goto (-46), 3) := by decide +kernel
theorem dX6_together_79 : decode cX6_together 79 = .ok (.iconst (-1), 1) := by decide +kernel
theorem dX6_together_80 : decode cX6_together 80 = .ok (.ireturn, 1) := by decide +kernel
set_option maxRecDepth 20000 in
theorem ggX6_deepest_X6_walls : GoodIn wsX6_deepest wsX6_walls := goodIn_r _ [6, 7, 8, 5, 9, 10, 11, 12] (by decide +kernel) (by decide +kernel)
set_option maxRecDepth 20000 in
theorem gX6_deepest_X6_walls : GoodIn wsX6_deepest (va_wsS RX6 128 yX6_walls wsX6_walls) := goodIn_app (goodIn_of _ (by decide +kernel)) ggX6_deepest_X6_walls
theorem dX6_deepest_0 : decode cX6_deepest 0 = .ok (.iconst 0, 1) := by decide +kernel
theorem dX6_deepest_1 : decode cX6_deepest 1 = .ok (.istore_n 2, 1) := by decide +kernel
theorem dX6_deepest_2 : decode cX6_deepest 2 = .ok (.iconst 0, 1) := by decide +kernel
theorem dX6_deepest_3 : decode cX6_deepest 3 = .ok (.istore_n 3, 1) := by decide +kernel
theorem dX6_deepest_4 : decode cX6_deepest 4 = .ok (.iload_n 3, 1) := by decide +kernel
theorem dX6_deepest_5 : decode cX6_deepest 5 = .ok (.aload_n 0, 1) := by decide +kernel
theorem dX6_deepest_6 : decode cX6_deepest 6 = .ok (.getfield 140, 3) := by decide +kernel
theorem dX6_deepest_9 : decode cX6_deepest 9 = .ok (.if_icmp .ge 34, 3) := by decide +kernel
theorem dX6_deepest_12 : decode cX6_deepest 12 = .ok (.aload_n 0, 1) := by decide +kernel
theorem dX6_deepest_13 : decode cX6_deepest 13 = .ok (.getfield 25, 3) := by decide +kernel
theorem dX6_deepest_16 : decode cX6_deepest 16 = .ok (.iload_n 3, 1) := by decide +kernel
theorem dX6_deepest_17 : decode cX6_deepest 17 = .ok (.iaload, 1) := by decide +kernel
theorem dX6_deepest_18 : decode cX6_deepest 18 = .ok (.iload_n 1, 1) := by decide +kernel
theorem dX6_deepest_19 : decode cX6_deepest 19 = .ok (.invokestatic 128, 3) := by decide +kernel
theorem dX6_deepest_22 : decode cX6_deepest 22 = .ok (.istore 4, 2) := by decide +kernel
theorem dX6_deepest_24 : decode cX6_deepest 24 = .ok (.iload 4, 2) := by decide +kernel
theorem dX6_deepest_26 : decode cX6_deepest 26 = .ok (.iload_n 2, 1) := by decide +kernel
theorem dX6_deepest_27 : decode cX6_deepest 27 = .ok (.if_icmp .le 8, 3) := by decide +kernel
theorem dX6_deepest_30 : decode cX6_deepest 30 = .ok (.iload 4, 2) := by decide +kernel
theorem dX6_deepest_32 : decode cX6_deepest 32 = .ok (.goto 4, 3) := by decide +kernel
theorem dX6_deepest_35 : decode cX6_deepest 35 = .ok (.iload_n 2, 1) := by decide +kernel
theorem dX6_deepest_36 : decode cX6_deepest 36 = .ok (.istore_n 2, 1) := by decide +kernel
theorem dX6_deepest_37 : decode cX6_deepest 37 = .ok (.iinc 3 1, 3) := by decide +kernel
theorem dX6_deepest_40 : decode cX6_deepest 40 = .ok (.goto (-36), 3) := by decide +kernel
theorem dX6_deepest_43 : decode cX6_deepest 43 = .ok (.iload_n 2, 1) := by decide +kernel
theorem dX6_deepest_44 : decode cX6_deepest 44 = .ok (.ireturn, 1) := by decide +kernel
set_option maxRecDepth 20000 in
theorem ggX6_deep_X6_isBeing : GoodIn wsX6_deep wsX6_isBeing := goodIn_r _ [5, 6, 7, 8, 4, 9, 61, 62, 63, 64, 65, 66, 67, 68, 69, 70, 71, 72, 73, 74, 75, 76, 77, 78, 79, 80, 81, 82, 83, 84] (by decide +kernel) (by decide +kernel)
set_option maxRecDepth 20000 in
theorem gX6_deep_X6_isBeing : GoodIn wsX6_deep (wsV RX6 98 RX6 yX6_isBeing wsX6_isBeing) := goodIn_app (goodIn_of _ (by decide +kernel)) ggX6_deep_X6_isBeing
set_option maxRecDepth 20000 in
theorem ggX6_deep_X6_lay : GoodIn wsX6_deep wsX6_lay := goodIn_r _ [13, 14, 15, 16, 17, 18, 19, 20, 21, 4, 22, 23, 24, 25, 26, 27, 7, 8, 9, 1, 2, 3, 5, 6, 28, 29, 30, 31, 32, 33, 34, 35, 36, 37, 38, 39, 40, 41, 42, 43, 44, 45, 46, 47, 48, 49, 50, 51, 52, 53, 61, 62, 63, 64, 65, 66, 67, 68, 69, 70, 71, 72, 73, 74, 75, 76, 77, 78, 79, 80, 81, 82, 83, 84] (by decide +kernel) (by decide +kernel)
set_option maxRecDepth 20000 in
theorem gX6_deep_X6_lay : GoodIn wsX6_deep (wsV RX6 143 RX6 yX6_lay wsX6_lay) := goodIn_app (goodIn_of _ (by decide +kernel)) ggX6_deep_X6_lay
set_option maxRecDepth 20000 in
theorem ggX6_deep_X6_deepest : GoodIn wsX6_deep wsX6_deepest := goodIn_r _ [57, 18, 17, 58, 59, 4, 60, 41, 42, 43, 44, 45, 46, 61, 62, 63, 64, 65, 66, 67, 68, 69, 70, 71, 72, 73, 74, 75, 76, 77, 78, 79, 80, 81, 82, 83, 84] (by decide +kernel) (by decide +kernel)
set_option maxRecDepth 20000 in
theorem gX6_deep_X6_deepest : GoodIn wsX6_deep (wsV RX6 153 RX6 yX6_deepest wsX6_deepest) := goodIn_app (goodIn_of _ (by decide +kernel)) ggX6_deep_X6_deepest
theorem dX6_deep_0 : decode cX6_deep 0 = .ok (.aload_n 0, 1) := by decide +kernel
theorem dX6_deep_1 : decode cX6_deep 1 = .ok (.iload_n 1, 1) := by decide +kernel
theorem dX6_deep_2 : decode cX6_deep 2 = .ok (.invokevirtual 98, 3) := by decide +kernel
theorem dX6_deep_5 : decode cX6_deep 5 = .ok (.ifCond .ne 6, 3) := by decide +kernel
theorem dX6_deep_8 : decode cX6_deep 8 = .ok (.bipush (-101), 2) := by decide +kernel
theorem dX6_deep_10 : decode cX6_deep 10 = .ok (.ireturn, 1) := by decide +kernel
theorem dX6_deep_11 : decode cX6_deep 11 = .ok (.aload_n 0, 1) := by decide +kernel
theorem dX6_deep_12 : decode cX6_deep 12 = .ok (.invokevirtual 143, 3) := by decide +kernel
theorem dX6_deep_15 : decode cX6_deep 15 = .ok (.aload_n 0, 1) := by decide +kernel
theorem dX6_deep_16 : decode cX6_deep 16 = .ok (.iload_n 1, 1) := by decide +kernel
theorem dX6_deep_17 : decode cX6_deep 17 = .ok (.invokevirtual 153, 3) := by decide +kernel
theorem dX6_deep_20 : decode cX6_deep 20 = .ok (.ireturn, 1) := by decide +kernel
set_option maxRecDepth 20000 in
theorem ggX6_many_X6_lay : GoodIn wsX6_many wsX6_lay := goodIn_r _ [6, 7, 8, 9, 10, 1, 11, 12, 13, 5, 14, 15, 16, 17, 18, 19, 20, 21, 22, 23, 24, 25, 26, 27, 28, 29, 30, 31, 32, 33, 34, 35, 36, 37, 38, 39, 40, 41, 42, 43, 44, 45, 46, 47, 48, 49, 50, 51, 52, 53, 54, 55, 56, 57, 58, 59, 60, 61, 62, 63, 64, 65, 66, 67, 68, 69, 70, 71, 72, 73, 74, 75, 76, 77] (by decide +kernel) (by decide +kernel)
set_option maxRecDepth 20000 in
theorem gX6_many_X6_lay : GoodIn wsX6_many (wsV RX6 143 RX6 yX6_lay wsX6_lay) := goodIn_app (goodIn_of _ (by decide +kernel)) ggX6_many_X6_lay
theorem dX6_many_0 : decode cX6_many 0 = .ok (.aload_n 0, 1) := by decide +kernel
theorem dX6_many_1 : decode cX6_many 1 = .ok (.invokevirtual 143, 3) := by decide +kernel
theorem dX6_many_4 : decode cX6_many 4 = .ok (.aload_n 0, 1) := by decide +kernel
theorem dX6_many_5 : decode cX6_many 5 = .ok (.getfield 140, 3) := by decide +kernel
theorem dX6_many_8 : decode cX6_many 8 = .ok (.ireturn, 1) := by decide +kernel
set_option maxRecDepth 20000 in
theorem ggX6_nesting_X6_lay : GoodIn wsX6_nesting wsX6_lay := goodIn_r _ [6, 1, 7, 8, 9, 10, 11, 12, 13, 5, 14, 15, 16, 17, 18, 19, 20, 21, 22, 23, 24, 25, 26, 27, 28, 29, 30, 31, 32, 33, 34, 35, 36, 37, 38, 39, 40, 41, 42, 43, 44, 45, 46, 47, 48, 49, 50, 51, 52, 53, 54, 55, 56, 57, 58, 59, 60, 61, 62, 63, 64, 65, 66, 67, 68, 69, 70, 71, 72, 73, 74, 75, 76, 77] (by decide +kernel) (by decide +kernel)
set_option maxRecDepth 20000 in
theorem gX6_nesting_X6_lay : GoodIn wsX6_nesting (wsV RX6 143 RX6 yX6_lay wsX6_lay) := goodIn_app (goodIn_of _ (by decide +kernel)) ggX6_nesting_X6_lay
theorem dX6_nesting_0 : decode cX6_nesting 0 = .ok (.aload_n 0, 1) := by decide +kernel
theorem dX6_nesting_1 : decode cX6_nesting 1 = .ok (.invokevirtual 143, 3) := by decide +kernel
theorem dX6_nesting_4 : decode cX6_nesting 4 = .ok (.iload_n 1, 1) := by decide +kernel
theorem dX6_nesting_5 : decode cX6_nesting 5 = .ok (.istore_n 2, 1) := by decide +kernel
theorem dX6_nesting_6 : decode cX6_nesting 6 = .ok (.iconst 0, 1) := by decide +kernel
theorem dX6_nesting_7 : decode cX6_nesting 7 = .ok (.istore_n 3, 1) := by decide +kernel
theorem dX6_nesting_8 : decode cX6_nesting 8 = .ok (.iload_n 3, 1) := by decide +kernel
theorem dX6_nesting_9 : decode cX6_nesting 9 = .ok (.sipush 7776, 3) := by decide +kernel
theorem dX6_nesting_12 : decode cX6_nesting 12 = .ok (.if_icmp .ge 32, 3) := by decide +kernel
theorem dX6_nesting_15 : decode cX6_nesting 15 = .ok (.iload_n 2, 1) := by decide +kernel
theorem dX6_nesting_16 : decode cX6_nesting 16 = .ok (.ifCond .lt 28, 3) := by decide +kernel
theorem dX6_nesting_19 : decode cX6_nesting 19 = .ok (.aload_n 0, 1) := by decide +kernel
theorem dX6_nesting_20 : decode cX6_nesting 20 = .ok (.getfield 19, 3) := by decide +kernel
theorem dX6_nesting_23 : decode cX6_nesting 23 = .ok (.iload_n 3, 1) := by decide +kernel
theorem dX6_nesting_24 : decode cX6_nesting 24 = .ok (.iaload, 1) := by decide +kernel
theorem dX6_nesting_25 : decode cX6_nesting 25 = .ok (.iconst (-1), 1) := by decide +kernel
theorem dX6_nesting_26 : decode cX6_nesting 26 = .ok (.if_icmp .eq 12, 3) := by decide +kernel
theorem dX6_nesting_29 : decode cX6_nesting 29 = .ok (.iload_n 2, 1) := by decide +kernel
theorem dX6_nesting_30 : decode cX6_nesting 30 = .ok (.ifCond .ne 5, 3) := by decide +kernel
theorem dX6_nesting_33 : decode cX6_nesting 33 = .ok (.iload_n 3, 1) := by decide +kernel
theorem dX6_nesting_34 : decode cX6_nesting 34 = .ok (.ireturn, 1) := by decide +kernel
theorem dX6_nesting_35 : decode cX6_nesting 35 = .ok (.iinc 2 (-1), 3) := by decide +kernel
theorem dX6_nesting_38 : decode cX6_nesting 38 = .ok (.iinc 3 1, 3) := by decide +kernel
theorem dX6_nesting_41 : decode cX6_nesting 41 = .ok (.goto (-33), 3) := by decide +kernel
theorem dX6_nesting_44 : decode cX6_nesting 44 = .ok (.bipush (-102), 2) := by decide +kernel
theorem dX6_nesting_46 : decode cX6_nesting 46 = .ok (.ireturn, 1) := by decide +kernel
set_option maxRecDepth 20000 in
theorem ggX6_told_X6_isBeing : GoodIn wsX6_told wsX6_isBeing := goodIn_r _ [8, 1, 9, 10, 7, 11, 12, 13, 14, 15, 16, 17, 18, 19, 20, 21, 22, 23, 24, 25, 26, 27, 28, 29, 30, 31, 32, 33, 34, 35] (by decide +kernel) (by decide +kernel)
set_option maxRecDepth 20000 in
theorem gX6_told_X6_isBeing : GoodIn wsX6_told (wsV RX6 98 RX6 yX6_isBeing wsX6_isBeing) := goodIn_app (goodIn_of _ (by decide +kernel)) ggX6_told_X6_isBeing
set_option maxRecDepth 20000 in
theorem ggX6_told_X6_in : GoodIn wsX6_told wsX6_in := goodIn_r _ [11] (by decide +kernel) (by decide +kernel)
set_option maxRecDepth 20000 in
theorem gX6_told_X6_in : GoodIn wsX6_told (va_wsS RX6 43 yX6_in wsX6_in) := goodIn_app (goodIn_of _ (by decide +kernel)) ggX6_told_X6_in
theorem dX6_told_0 : decode cX6_told 0 = .ok (.aload_n 0, 1) := by decide +kernel
theorem dX6_told_1 : decode cX6_told 1 = .ok (.iload_n 1, 1) := by decide +kernel
theorem dX6_told_2 : decode cX6_told 2 = .ok (.invokevirtual 98, 3) := by decide +kernel
theorem dX6_told_5 : decode cX6_told 5 = .ok (.ifCond .ne 6, 3) := by decide +kernel
theorem dX6_told_8 : decode cX6_told 8 = .ok (.bipush (-101), 2) := by decide +kernel
theorem dX6_told_10 : decode cX6_told 10 = .ok (.ireturn, 1) := by decide +kernel
theorem dX6_told_11 : decode cX6_told 11 = .ok (.iload_n 2, 1) := by decide +kernel
theorem dX6_told_12 : decode cX6_told 12 = .ok (.i2l, 1) := by decide +kernel
theorem dX6_told_13 : decode cX6_told 13 = .ok (.lconst 0, 1) := by decide +kernel
theorem dX6_told_14 : decode cX6_told 14 = .ok (.iconst 1, 1) := by decide +kernel
theorem dX6_told_15 : decode cX6_told 15 = .ok (.aload_n 0, 1) := by decide +kernel
theorem dX6_told_16 : decode cX6_told 16 = .ok (.getfield 72, 3) := by decide +kernel
theorem dX6_told_19 : decode cX6_told 19 = .ok (.ishl, 1) := by decide +kernel
theorem dX6_told_20 : decode cX6_told 20 = .ok (.iconst 1, 1) := by decide +kernel
theorem dX6_told_21 : decode cX6_told 21 = .ok (.isub, 1) := by decide +kernel
theorem dX6_told_22 : decode cX6_told 22 = .ok (.i2l, 1) := by decide +kernel
theorem dX6_told_23 : decode cX6_told 23 = .ok (.invokestatic 43, 3) := by decide +kernel
theorem dX6_told_26 : decode cX6_told 26 = .ok (.ifCond .ne 6, 3) := by decide +kernel
theorem dX6_told_29 : decode cX6_told 29 = .ok (.bipush (-102), 2) := by decide +kernel
theorem dX6_told_31 : decode cX6_told 31 = .ok (.ireturn, 1) := by decide +kernel
theorem dX6_told_32 : decode cX6_told 32 = .ok (.aload_n 0, 1) := by decide +kernel
theorem dX6_told_33 : decode cX6_told 33 = .ok (.getfield 156, 3) := by decide +kernel
theorem dX6_told_36 : decode cX6_told 36 = .ok (.iconst 4, 1) := by decide +kernel
theorem dX6_told_37 : decode cX6_told 37 = .ok (.if_icmp .ne 6, 3) := by decide +kernel
theorem dX6_told_40 : decode cX6_told 40 = .ok (.bipush (-104), 2) := by decide +kernel
theorem dX6_told_42 : decode cX6_told 42 = .ok (.ireturn, 1) := by decide +kernel
theorem dX6_told_43 : decode cX6_told 43 = .ok (.aload_n 0, 1) := by decide +kernel
theorem dX6_told_44 : decode cX6_told 44 = .ok (.getfield 28, 3) := by decide +kernel
theorem dX6_told_47 : decode cX6_told 47 = .ok (.iconst 2, 1) := by decide +kernel
theorem dX6_told_48 : decode cX6_told 48 = .ok (.aload_n 0, 1) := by decide +kernel
theorem dX6_told_49 : decode cX6_told 49 = .ok (.getfield 156, 3) := by decide +kernel
theorem dX6_told_52 : decode cX6_told 52 = .ok (.imul, 1) := by decide +kernel
theorem dX6_told_53 : decode cX6_told 53 = .ok (.iload_n 1, 1) := by decide +kernel
theorem dX6_told_54 : decode cX6_told 54 = .ok (.iastore, 1) := by decide +kernel
theorem dX6_told_55 : decode cX6_told 55 = .ok (.aload_n 0, 1) := by decide +kernel
theorem dX6_told_56 : decode cX6_told 56 = .ok (.getfield 28, 3) := by decide +kernel
theorem dX6_told_59 : decode cX6_told 59 = .ok (.iconst 2, 1) := by decide +kernel
theorem dX6_told_60 : decode cX6_told 60 = .ok (.aload_n 0, 1) := by decide +kernel
theorem dX6_told_61 : decode cX6_told 61 = .ok (.getfield 156, 3) := by decide +kernel
theorem dX6_told_64 : decode cX6_told 64 = .ok (.imul, 1) := by decide +kernel
theorem dX6_told_65 : decode cX6_told 65 = .ok (.iconst 1, 1) := by decide +kernel
theorem dX6_told_66 : decode cX6_told 66 = .ok (.iadd, 1) := by decide +kernel
theorem dX6_told_67 : decode cX6_told 67 = .ok (.iload_n 2, 1) := by decide +kernel
theorem dX6_told_68 : decode cX6_told 68 = .ok (.iastore, 1) := by decide +kernel
theorem dX6_told_69 : decode cX6_told 69 = .ok (.aload_n 0, 1) := by decide +kernel
theorem dX6_told_70 : decode cX6_told 70 = .ok (.dup, 1) := by decide +kernel
theorem dX6_told_71 : decode cX6_told 71 = .ok (.getfield 156, 3) := by decide +kernel
theorem dX6_told_74 : decode cX6_told 74 = .ok (.iconst 1, 1) := by decide +kernel
theorem dX6_told_75 : decode cX6_told 75 = .ok (.iadd, 1) := by decide +kernel
theorem dX6_told_76 : decode cX6_told 76 = .ok (.putfield 156, 3) := by decide +kernel
theorem dX6_told_79 : decode cX6_told 79 = .ok (.aload_n 0, 1) := by decide +kernel
theorem dX6_told_80 : decode cX6_told 80 = .ok (.getfield 156, 3) := by decide +kernel
theorem dX6_told_83 : decode cX6_told 83 = .ok (.ireturn, 1) := by decide +kernel
theorem dX6_forget_0 : decode cX6_forget 0 = .ok (.aload_n 0, 1) := by decide +kernel
theorem dX6_forget_1 : decode cX6_forget 1 = .ok (.getfield 156, 3) := by decide +kernel
theorem dX6_forget_4 : decode cX6_forget 4 = .ok (.istore_n 1, 1) := by decide +kernel
theorem dX6_forget_5 : decode cX6_forget 5 = .ok (.aload_n 0, 1) := by decide +kernel
theorem dX6_forget_6 : decode cX6_forget 6 = .ok (.iconst 0, 1) := by decide +kernel
theorem dX6_forget_7 : decode cX6_forget 7 = .ok (.putfield 156, 3) := by decide +kernel
theorem dX6_forget_10 : decode cX6_forget 10 = .ok (.iload_n 1, 1) := by decide +kernel
theorem dX6_forget_11 : decode cX6_forget 11 = .ok (.ireturn, 1) := by decide +kernel
set_option maxRecDepth 20000 in
theorem ggX6_isToldSo_X6_heardBy : GoodIn wsX6_isToldSo wsX6_heardBy := goodIn_r _ [7, 8, 9, 10, 6, 11, 12, 13, 14, 15, 16, 17, 18, 19, 20, 21, 22, 23, 24, 25, 26, 27, 28, 29, 30, 31, 32, 33, 34, 35, 36, 37, 38, 39, 40, 41] (by decide +kernel) (by decide +kernel)
set_option maxRecDepth 20000 in
theorem gX6_isToldSo_X6_heardBy : GoodIn wsX6_isToldSo (wsV RX6 131 RX6 yX6_heardBy wsX6_heardBy) := goodIn_app (goodIn_of _ (by decide +kernel)) ggX6_isToldSo_X6_heardBy
theorem dX6_isToldSo_0 : decode cX6_isToldSo 0 = .ok (.iconst 1, 1) := by decide +kernel
theorem dX6_isToldSo_1 : decode cX6_isToldSo 1 = .ok (.istore_n 2, 1) := by decide +kernel
theorem dX6_isToldSo_2 : decode cX6_isToldSo 2 = .ok (.iconst 0, 1) := by decide +kernel
theorem dX6_isToldSo_3 : decode cX6_isToldSo 3 = .ok (.istore_n 3, 1) := by decide +kernel
theorem dX6_isToldSo_4 : decode cX6_isToldSo 4 = .ok (.iload_n 3, 1) := by decide +kernel
theorem dX6_isToldSo_5 : decode cX6_isToldSo 5 = .ok (.aload_n 0, 1) := by decide +kernel
theorem dX6_isToldSo_6 : decode cX6_isToldSo 6 = .ok (.getfield 156, 3) := by decide +kernel
theorem dX6_isToldSo_9 : decode cX6_isToldSo 9 = .ok (.if_icmp .ge 45, 3) := by decide +kernel
theorem dX6_isToldSo_12 : decode cX6_isToldSo 12 = .ok (.iload_n 2, 1) := by decide +kernel
theorem dX6_isToldSo_13 : decode cX6_isToldSo 13 = .ok (.ifCond .eq 33, 3) := by decide +kernel
theorem dX6_isToldSo_16 : decode cX6_isToldSo 16 = .ok (.aload_n 0, 1) := by decide +kernel
theorem dX6_isToldSo_17 : decode cX6_isToldSo 17 = .ok (.iload_n 1, 1) := by decide +kernel
theorem dX6_isToldSo_18 : decode cX6_isToldSo 18 = .ok (.aload_n 0, 1) := by decide +kernel
theorem dX6_isToldSo_19 : decode cX6_isToldSo 19 = .ok (.getfield 28, 3) := by decide +kernel
theorem dX6_isToldSo_22 : decode cX6_isToldSo 22 = .ok (.iconst 2, 1) := by decide +kernel
theorem dX6_isToldSo_23 : decode cX6_isToldSo 23 = .ok (.iload_n 3, 1) := by decide +kernel
theorem dX6_isToldSo_24 : decode cX6_isToldSo 24 = .ok (.imul, 1) := by decide +kernel
theorem dX6_isToldSo_25 : decode cX6_isToldSo 25 = .ok (.iaload, 1) := by decide +kernel
theorem dX6_isToldSo_26 : decode cX6_isToldSo 26 = .ok (.invokevirtual 131, 3) := by decide +kernel
theorem dX6_isToldSo_29 : decode cX6_isToldSo 29 = .ok (.aload_n 0, 1) := by decide +kernel
theorem dX6_isToldSo_30 : decode cX6_isToldSo 30 = .ok (.getfield 28, 3) := by decide +kernel
theorem dX6_isToldSo_33 : decode cX6_isToldSo 33 = .ok (.iconst 2, 1) := by decide +kernel
theorem dX6_isToldSo_34 : decode cX6_isToldSo 34 = .ok (.iload_n 3, 1) := by decide +kernel
theorem dX6_isToldSo_35 : decode cX6_isToldSo 35 = .ok (.imul, 1) := by decide +kernel
theorem dX6_isToldSo_36 : decode cX6_isToldSo 36 = .ok (.iconst 1, 1) := by decide +kernel
theorem dX6_isToldSo_37 : decode cX6_isToldSo 37 = .ok (.iadd, 1) := by decide +kernel
theorem dX6_isToldSo_38 : decode cX6_isToldSo 38 = .ok (.iaload, 1) := by decide +kernel
theorem dX6_isToldSo_39 : decode cX6_isToldSo 39 = .ok (.if_icmp .ne 7, 3) := by decide +kernel
theorem dX6_isToldSo_42 : decode cX6_isToldSo 42 = .ok (.iconst 1, 1) := by decide +kernel
theorem dX6_isToldSo_43 : decode cX6_isToldSo 43 = .ok (.goto 4, 3) := by decide +kernel
theorem dX6_isToldSo_46 : decode cX6_isToldSo 46 = .ok (.iconst 0, 1) := by decide +kernel
theorem dX6_isToldSo_47 : decode cX6_isToldSo 47 = .ok (.istore_n 2, 1) := by decide +kernel
theorem dX6_isToldSo_48 : decode cX6_isToldSo 48 = .ok (.iinc 3 1, 3) := by decide +kernel
theorem dX6_isToldSo_51 : decode cX6_isToldSo 51 = .ok (.goto (-47), 3) := by decide +kernel
theorem dX6_isToldSo_54 : decode cX6_isToldSo 54 = .ok (.iload_n 2, 1) := by decide +kernel
theorem dX6_isToldSo_55 : decode cX6_isToldSo 55 = .ok (.ireturn, 1) := by decide +kernel
set_option maxRecDepth 20000 in
theorem ggX6_fitMany_X6_isToldSo : GoodIn wsX6_fitMany wsX6_isToldSo := goodIn_r _ [7, 8, 9, 10, 11, 12, 6, 13, 14, 15, 16, 17, 18, 19, 20, 21, 22, 23, 24, 25, 26, 27, 28, 29, 30, 31, 32, 33, 34, 35, 36, 37, 38, 39, 40, 41, 42, 43, 44, 45, 46, 47] (by decide +kernel) (by decide +kernel)
set_option maxRecDepth 20000 in
theorem gX6_fitMany_X6_isToldSo : GoodIn wsX6_fitMany (wsV RX6 159 RX6 yX6_isToldSo wsX6_isToldSo) := goodIn_app (goodIn_of _ (by decide +kernel)) ggX6_fitMany_X6_isToldSo
theorem dX6_fitMany_0 : decode cX6_fitMany 0 = .ok (.iconst 0, 1) := by decide +kernel
theorem dX6_fitMany_1 : decode cX6_fitMany 1 = .ok (.istore_n 1, 1) := by decide +kernel
theorem dX6_fitMany_2 : decode cX6_fitMany 2 = .ok (.iconst 0, 1) := by decide +kernel
theorem dX6_fitMany_3 : decode cX6_fitMany 3 = .ok (.istore_n 2, 1) := by decide +kernel
theorem dX6_fitMany_4 : decode cX6_fitMany 4 = .ok (.iload_n 2, 1) := by decide +kernel
theorem dX6_fitMany_5 : decode cX6_fitMany 5 = .ok (.aload_n 0, 1) := by decide +kernel
theorem dX6_fitMany_6 : decode cX6_fitMany 6 = .ok (.getfield 140, 3) := by decide +kernel
theorem dX6_fitMany_9 : decode cX6_fitMany 9 = .ok (.if_icmp .ge 30, 3) := by decide +kernel
theorem dX6_fitMany_12 : decode cX6_fitMany 12 = .ok (.iload_n 1, 1) := by decide +kernel
theorem dX6_fitMany_13 : decode cX6_fitMany 13 = .ok (.aload_n 0, 1) := by decide +kernel
theorem dX6_fitMany_14 : decode cX6_fitMany 14 = .ok (.aload_n 0, 1) := by decide +kernel
theorem dX6_fitMany_15 : decode cX6_fitMany 15 = .ok (.getfield 25, 3) := by decide +kernel
theorem dX6_fitMany_18 : decode cX6_fitMany 18 = .ok (.iload_n 2, 1) := by decide +kernel
theorem dX6_fitMany_19 : decode cX6_fitMany 19 = .ok (.iaload, 1) := by decide +kernel
theorem dX6_fitMany_20 : decode cX6_fitMany 20 = .ok (.invokevirtual 159, 3) := by decide +kernel
theorem dX6_fitMany_23 : decode cX6_fitMany 23 = .ok (.ifCond .eq 7, 3) := by decide +kernel
theorem dX6_fitMany_26 : decode cX6_fitMany 26 = .ok (.iconst 1, 1) := by decide +kernel
theorem dX6_fitMany_27 : decode cX6_fitMany 27 = .ok (.goto 4, 3) := by decide +kernel
theorem dX6_fitMany_30 : decode cX6_fitMany 30 = .ok (.iconst 0, 1) := by decide +kernel
theorem dX6_fitMany_31 : decode cX6_fitMany 31 = .ok (.iadd, 1) := by decide +kernel
theorem dX6_fitMany_32 : decode cX6_fitMany 32 = .ok (.istore_n 1, 1) := by decide +kernel
theorem dX6_fitMany_33 : decode cX6_fitMany 33 = .ok (.iinc 2 1, 3) := by decide +kernel
theorem dX6_fitMany_36 : decode cX6_fitMany 36 = .ok (.goto (-32), 3) := by decide +kernel
theorem dX6_fitMany_39 : decode cX6_fitMany 39 = .ok (.iload_n 1, 1) := by decide +kernel
theorem dX6_fitMany_40 : decode cX6_fitMany 40 = .ok (.ireturn, 1) := by decide +kernel
set_option maxRecDepth 20000 in
theorem ggX6_fits_X6_lay : GoodIn wsX6_fits wsX6_lay := goodIn_r _ [5, 6, 7, 8, 9, 10, 11, 12, 13, 4, 14, 15, 16, 17, 18, 19, 20, 21, 22, 23, 24, 25, 26, 27, 28, 29, 30, 31, 32, 33, 34, 35, 36, 37, 38, 39, 40, 41, 42, 43, 44, 45, 46, 47, 48, 49, 50, 51, 52, 53, 71, 72, 73, 74, 75, 76, 77, 78, 79, 80, 81, 82, 83, 84, 85, 86, 87, 88, 89, 90, 91, 92, 93, 94] (by decide +kernel) (by decide +kernel)
set_option maxRecDepth 20000 in
theorem gX6_fits_X6_lay : GoodIn wsX6_fits (wsV RX6 143 RX6 yX6_lay wsX6_lay) := goodIn_app (goodIn_of _ (by decide +kernel)) ggX6_fits_X6_lay
set_option maxRecDepth 20000 in
theorem ggX6_fits_X6_fitMany : GoodIn wsX6_fits wsX6_fitMany := goodIn_r _ [57, 10, 9, 58, 59, 60, 4, 61, 62, 63, 64, 65, 66, 67, 27, 68, 69, 70, 41, 42, 43, 44, 45, 46, 71, 72, 73, 74, 75, 76, 77, 78, 79, 80, 81, 82, 83, 84, 85, 86, 87, 88, 89, 90, 91, 92, 93, 94] (by decide +kernel) (by decide +kernel)
set_option maxRecDepth 20000 in
theorem gX6_fits_X6_fitMany : GoodIn wsX6_fits (wsV RX6 162 RX6 yX6_fitMany wsX6_fitMany) := goodIn_app (goodIn_of _ (by decide +kernel)) ggX6_fits_X6_fitMany
theorem dX6_fits_0 : decode cX6_fits 0 = .ok (.aload_n 0, 1) := by decide +kernel
theorem dX6_fits_1 : decode cX6_fits 1 = .ok (.invokevirtual 143, 3) := by decide +kernel
theorem dX6_fits_4 : decode cX6_fits 4 = .ok (.aload_n 0, 1) := by decide +kernel
theorem dX6_fits_5 : decode cX6_fits 5 = .ok (.invokevirtual 162, 3) := by decide +kernel
theorem dX6_fits_8 : decode cX6_fits 8 = .ok (.ireturn, 1) := by decide +kernel
set_option maxRecDepth 20000 in
theorem ggX6_sure_X6_isBeing : GoodIn wsX6_sure wsX6_isBeing := goodIn_r _ [7, 8, 9, 10, 6, 11, 67, 68, 69, 70, 71, 72, 73, 74, 75, 76, 77, 78, 79, 80, 81, 82, 83, 84, 85, 86, 87, 88, 89, 90] (by decide +kernel) (by decide +kernel)
set_option maxRecDepth 20000 in
theorem gX6_sure_X6_isBeing : GoodIn wsX6_sure (wsV RX6 98 RX6 yX6_isBeing wsX6_isBeing) := goodIn_app (goodIn_of _ (by decide +kernel)) ggX6_sure_X6_isBeing
set_option maxRecDepth 20000 in
theorem ggX6_sure_X6_lay : GoodIn wsX6_sure wsX6_lay := goodIn_r _ [15, 16, 17, 18, 2, 1, 19, 20, 21, 6, 22, 23, 24, 25, 26, 27, 9, 10, 11, 3, 4, 5, 7, 8, 28, 29, 30, 31, 32, 33, 34, 35, 36, 37, 38, 39, 40, 41, 42, 43, 44, 45, 46, 47, 48, 49, 50, 51, 52, 53, 67, 68, 69, 70, 71, 72, 73, 74, 75, 76, 77, 78, 79, 80, 81, 82, 83, 84, 85, 86, 87, 88, 89, 90] (by decide +kernel) (by decide +kernel)
set_option maxRecDepth 20000 in
theorem gX6_sure_X6_lay : GoodIn wsX6_sure (wsV RX6 143 RX6 yX6_lay wsX6_lay) := goodIn_app (goodIn_of _ (by decide +kernel)) ggX6_sure_X6_lay
set_option maxRecDepth 20000 in
theorem ggX6_sure_X6_isToldSo : GoodIn wsX6_sure wsX6_isToldSo := goodIn_r _ [57, 58, 59, 60, 61, 62, 6, 63, 8, 64, 65, 66, 41, 42, 43, 44, 45, 46, 67, 68, 69, 70, 71, 72, 73, 74, 75, 76, 77, 78, 79, 80, 81, 82, 83, 84, 85, 86, 87, 88, 89, 90] (by decide +kernel) (by decide +kernel)
set_option maxRecDepth 20000 in
theorem gX6_sure_X6_isToldSo : GoodIn wsX6_sure (wsV RX6 159 RX6 yX6_isToldSo wsX6_isToldSo) := goodIn_app (goodIn_of _ (by decide +kernel)) ggX6_sure_X6_isToldSo
set_option maxRecDepth 20000 in
theorem ggX6_sure_X6_holder : GoodIn wsX6_sure wsX6_holder := goodIn_r _ [43, 44, 45, 6, 46] (by decide +kernel) (by decide +kernel)
set_option maxRecDepth 20000 in
theorem gX6_sure_X6_holder : GoodIn wsX6_sure (va_wsS RX6 85 yX6_holder wsX6_holder) := goodIn_app (goodIn_of _ (by decide +kernel)) ggX6_sure_X6_holder
theorem dX6_sure_0 : decode cX6_sure 0 = .ok (.aload_n 0, 1) := by decide +kernel
theorem dX6_sure_1 : decode cX6_sure 1 = .ok (.iload_n 1, 1) := by decide +kernel
theorem dX6_sure_2 : decode cX6_sure 2 = .ok (.invokevirtual 98, 3) := by decide +kernel
theorem dX6_sure_5 : decode cX6_sure 5 = .ok (.ifCond .ne 6, 3) := by decide +kernel
theorem dX6_sure_8 : decode cX6_sure 8 = .ok (.bipush (-101), 2) := by decide +kernel
theorem dX6_sure_10 : decode cX6_sure 10 = .ok (.ireturn, 1) := by decide +kernel
theorem dX6_sure_11 : decode cX6_sure 11 = .ok (.aload_n 0, 1) := by decide +kernel
theorem dX6_sure_12 : decode cX6_sure 12 = .ok (.invokevirtual 143, 3) := by decide +kernel
theorem dX6_sure_15 : decode cX6_sure 15 = .ok (.iconst 0, 1) := by decide +kernel
theorem dX6_sure_16 : decode cX6_sure 16 = .ok (.istore_n 2, 1) := by decide +kernel
theorem dX6_sure_17 : decode cX6_sure 17 = .ok (.iconst 0, 1) := by decide +kernel
theorem dX6_sure_18 : decode cX6_sure 18 = .ok (.istore_n 3, 1) := by decide +kernel
theorem dX6_sure_19 : decode cX6_sure 19 = .ok (.iload_n 3, 1) := by decide +kernel
theorem dX6_sure_20 : decode cX6_sure 20 = .ok (.aload_n 0, 1) := by decide +kernel
theorem dX6_sure_21 : decode cX6_sure 21 = .ok (.getfield 140, 3) := by decide +kernel
theorem dX6_sure_24 : decode cX6_sure 24 = .ok (.if_icmp .ge 43, 3) := by decide +kernel
theorem dX6_sure_27 : decode cX6_sure 27 = .ok (.iload_n 2, 1) := by decide +kernel
theorem dX6_sure_28 : decode cX6_sure 28 = .ok (.aload_n 0, 1) := by decide +kernel
theorem dX6_sure_29 : decode cX6_sure 29 = .ok (.aload_n 0, 1) := by decide +kernel
theorem dX6_sure_30 : decode cX6_sure 30 = .ok (.getfield 25, 3) := by decide +kernel
theorem dX6_sure_33 : decode cX6_sure 33 = .ok (.iload_n 3, 1) := by decide +kernel
theorem dX6_sure_34 : decode cX6_sure 34 = .ok (.iaload, 1) := by decide +kernel
theorem dX6_sure_35 : decode cX6_sure 35 = .ok (.invokevirtual 159, 3) := by decide +kernel
theorem dX6_sure_38 : decode cX6_sure 38 = .ok (.ifCond .eq 20, 3) := by decide +kernel
theorem dX6_sure_41 : decode cX6_sure 41 = .ok (.iconst 1, 1) := by decide +kernel
theorem dX6_sure_42 : decode cX6_sure 42 = .ok (.aload_n 0, 1) := by decide +kernel
theorem dX6_sure_43 : decode cX6_sure 43 = .ok (.getfield 25, 3) := by decide +kernel
theorem dX6_sure_46 : decode cX6_sure 46 = .ok (.iload_n 3, 1) := by decide +kernel
theorem dX6_sure_47 : decode cX6_sure 47 = .ok (.iaload, 1) := by decide +kernel
theorem dX6_sure_48 : decode cX6_sure 48 = .ok (.iload_n 1, 1) := by decide +kernel
theorem dX6_sure_49 : decode cX6_sure 49 = .ok (.invokestatic 85, 3) := by decide +kernel
theorem dX6_sure_52 : decode cX6_sure 52 = .ok (.iconst 1, 1) := by decide +kernel
theorem dX6_sure_53 : decode cX6_sure 53 = .ok (.iadd, 1) := by decide +kernel
theorem dX6_sure_54 : decode cX6_sure 54 = .ok (.ishl, 1) := by decide +kernel
theorem dX6_sure_55 : decode cX6_sure 55 = .ok (.goto 4, 3) := by decide +kernel
theorem dX6_sure_58 : decode cX6_sure 58 = .ok (.iconst 0, 1) := by decide +kernel
theorem dX6_sure_59 : decode cX6_sure 59 = .ok (.ior, 1) := by decide +kernel
theorem dX6_sure_60 : decode cX6_sure 60 = .ok (.istore_n 2, 1) := by decide +kernel
theorem dX6_sure_61 : decode cX6_sure 61 = .ok (.iinc 3 1, 3) := by decide +kernel
theorem dX6_sure_64 : decode cX6_sure 64 = .ok (.goto (-45), 3) := by decide +kernel
theorem dX6_sure_67 : decode cX6_sure 67 = .ok (.iconst 0, 1) := by decide +kernel
theorem dX6_sure_68 : decode cX6_sure 68 = .ok (.istore_n 3, 1) := by decide +kernel
theorem dX6_sure_69 : decode cX6_sure 69 = .ok (.iload_n 3, 1) := by decide +kernel
theorem dX6_sure_70 : decode cX6_sure 70 = .ok (.bipush 6, 2) := by decide +kernel
theorem dX6_sure_72 : decode cX6_sure 72 = .ok (.if_icmp .ge 20, 3) := by decide +kernel
theorem dX6_sure_75 : decode cX6_sure 75 = .ok (.iload_n 2, 1) := by decide +kernel
theorem dX6_sure_76 : decode cX6_sure 76 = .ok (.iconst 1, 1) := by decide +kernel
theorem dX6_sure_77 : decode cX6_sure 77 = .ok (.iload_n 3, 1) := by decide +kernel
theorem dX6_sure_78 : decode cX6_sure 78 = .ok (.ishl, 1) := by decide +kernel
theorem dX6_sure_79 : decode cX6_sure 79 = .ok (.if_icmp .ne 7, 3) := by decide +kernel
theorem dX6_sure_82 : decode cX6_sure 82 = .ok (.iload_n 3, 1) := by decide +kernel
theorem dX6_sure_83 : decode cX6_sure 83 = .ok (.iconst 1, 1) := by decide +kernel
theorem dX6_sure_84 : decode cX6_sure 84 = .ok (.isub, 1) := by decide +kernel
theorem dX6_sure_85 : decode cX6_sure 85 = .ok (.ireturn, 1) := by decide +kernel
theorem dX6_sure_86 : decode cX6_sure 86 = .ok (.iinc 3 1, 3) := by decide +kernel
theorem dX6_sure_89 : decode cX6_sure 89 = .ok (.goto (-20), 3) := by decide +kernel
theorem dX6_sure_92 : decode cX6_sure 92 = .ok (.bipush (-2), 2) := by decide +kernel
theorem dX6_sure_94 : decode cX6_sure 94 = .ok (.ireturn, 1) := by decide +kernel
set_option maxRecDepth 20000 in
theorem ggX6_worstOf_X6_isToldSo : GoodIn wsX6_worstOf wsX6_isToldSo := goodIn_r _ [8, 9, 10, 11, 12, 13, 7, 14, 15, 16, 17, 18, 19, 20, 21, 22, 23, 24, 25, 26, 27, 28, 29, 30, 31, 32, 33, 34, 35, 36, 37, 38, 39, 40, 41, 42, 43, 44, 45, 46, 47, 48] (by decide +kernel) (by decide +kernel)
set_option maxRecDepth 20000 in
theorem gX6_worstOf_X6_isToldSo : GoodIn wsX6_worstOf (wsV RX6 159 RX6 yX6_isToldSo wsX6_isToldSo) := goodIn_app (goodIn_of _ (by decide +kernel)) ggX6_worstOf_X6_isToldSo
set_option maxRecDepth 20000 in
theorem ggX6_worstOf_X6_heardBy : GoodIn wsX6_worstOf wsX6_heardBy := goodIn_r _ [14, 15, 16, 17, 7, 18, 19, 20, 21, 22, 23, 24, 25, 26, 27, 28, 29, 30, 31, 32, 33, 34, 35, 36, 37, 38, 39, 40, 41, 42, 43, 44, 45, 46, 47, 48] (by decide +kernel) (by decide +kernel)
set_option maxRecDepth 20000 in
theorem gX6_worstOf_X6_heardBy : GoodIn wsX6_worstOf (wsV RX6 131 RX6 yX6_heardBy wsX6_heardBy) := goodIn_app (goodIn_of _ (by decide +kernel)) ggX6_worstOf_X6_heardBy
theorem dX6_worstOf_0 : decode cX6_worstOf 0 = .ok (.iconst 0, 1) := by decide +kernel
theorem dX6_worstOf_1 : decode cX6_worstOf 1 = .ok (.istore_n 2, 1) := by decide +kernel
theorem dX6_worstOf_2 : decode cX6_worstOf 2 = .ok (.iload_n 2, 1) := by decide +kernel
theorem dX6_worstOf_3 : decode cX6_worstOf 3 = .ok (.bipush 32, 2) := by decide +kernel
theorem dX6_worstOf_5 : decode cX6_worstOf 5 = .ok (.if_icmp .ge 16, 3) := by decide +kernel
theorem dX6_worstOf_8 : decode cX6_worstOf 8 = .ok (.aload_n 0, 1) := by decide +kernel
theorem dX6_worstOf_9 : decode cX6_worstOf 9 = .ok (.getfield 31, 3) := by decide +kernel
theorem dX6_worstOf_12 : decode cX6_worstOf 12 = .ok (.iload_n 2, 1) := by decide +kernel
theorem dX6_worstOf_13 : decode cX6_worstOf 13 = .ok (.iconst 0, 1) := by decide +kernel
theorem dX6_worstOf_14 : decode cX6_worstOf 14 = .ok (.iastore, 1) := by decide +kernel
theorem dX6_worstOf_15 : decode cX6_worstOf 15 = .ok (.iinc 2 1, 3) := by decide +kernel
theorem dX6_worstOf_18 : decode cX6_worstOf 18 = .ok (.goto (-16), 3) := by decide +kernel
theorem dX6_worstOf_21 : decode cX6_worstOf 21 = .ok (.iconst 0, 1) := by decide +kernel
theorem dX6_worstOf_22 : decode cX6_worstOf 22 = .ok (.istore_n 2, 1) := by decide +kernel
theorem dX6_worstOf_23 : decode cX6_worstOf 23 = .ok (.iconst 0, 1) := by decide +kernel
theorem dX6_worstOf_24 : decode cX6_worstOf 24 = .ok (.istore_n 3, 1) := by decide +kernel
theorem dX6_worstOf_25 : decode cX6_worstOf 25 = .ok (.iload_n 3, 1) := by decide +kernel
theorem dX6_worstOf_26 : decode cX6_worstOf 26 = .ok (.aload_n 0, 1) := by decide +kernel
theorem dX6_worstOf_27 : decode cX6_worstOf 27 = .ok (.getfield 140, 3) := by decide +kernel
theorem dX6_worstOf_30 : decode cX6_worstOf 30 = .ok (.if_icmp .ge 69, 3) := by decide +kernel
theorem dX6_worstOf_33 : decode cX6_worstOf 33 = .ok (.aload_n 0, 1) := by decide +kernel
theorem dX6_worstOf_34 : decode cX6_worstOf 34 = .ok (.aload_n 0, 1) := by decide +kernel
theorem dX6_worstOf_35 : decode cX6_worstOf 35 = .ok (.getfield 25, 3) := by decide +kernel
theorem dX6_worstOf_38 : decode cX6_worstOf 38 = .ok (.iload_n 3, 1) := by decide +kernel
theorem dX6_worstOf_39 : decode cX6_worstOf 39 = .ok (.iaload, 1) := by decide +kernel
theorem dX6_worstOf_40 : decode cX6_worstOf 40 = .ok (.invokevirtual 159, 3) := by decide +kernel
theorem dX6_worstOf_43 : decode cX6_worstOf 43 = .ok (.ifCond .eq 50, 3) := by decide +kernel
theorem dX6_worstOf_46 : decode cX6_worstOf 46 = .ok (.aload_n 0, 1) := by decide +kernel
theorem dX6_worstOf_47 : decode cX6_worstOf 47 = .ok (.aload_n 0, 1) := by decide +kernel
theorem dX6_worstOf_48 : decode cX6_worstOf 48 = .ok (.getfield 25, 3) := by decide +kernel
theorem dX6_worstOf_51 : decode cX6_worstOf 51 = .ok (.iload_n 3, 1) := by decide +kernel
theorem dX6_worstOf_52 : decode cX6_worstOf 52 = .ok (.iaload, 1) := by decide +kernel
theorem dX6_worstOf_53 : decode cX6_worstOf 53 = .ok (.iload_n 1, 1) := by decide +kernel
theorem dX6_worstOf_54 : decode cX6_worstOf 54 = .ok (.invokevirtual 131, 3) := by decide +kernel
theorem dX6_worstOf_57 : decode cX6_worstOf 57 = .ok (.istore 4, 2) := by decide +kernel
theorem dX6_worstOf_59 : decode cX6_worstOf 59 = .ok (.aload_n 0, 1) := by decide +kernel
theorem dX6_worstOf_60 : decode cX6_worstOf 60 = .ok (.getfield 31, 3) := by decide +kernel
theorem dX6_worstOf_63 : decode cX6_worstOf 63 = .ok (.iload 4, 2) := by decide +kernel
theorem dX6_worstOf_65 : decode cX6_worstOf 65 = .ok (.dup2, 1) := by decide +kernel
theorem dX6_worstOf_66 : decode cX6_worstOf 66 = .ok (.iaload, 1) := by decide +kernel
theorem dX6_worstOf_67 : decode cX6_worstOf 67 = .ok (.iconst 1, 1) := by decide +kernel
theorem dX6_worstOf_68 : decode cX6_worstOf 68 = .ok (.iadd, 1) := by decide +kernel
theorem dX6_worstOf_69 : decode cX6_worstOf 69 = .ok (.iastore, 1) := by decide +kernel
theorem dX6_worstOf_70 : decode cX6_worstOf 70 = .ok (.aload_n 0, 1) := by decide +kernel
theorem dX6_worstOf_71 : decode cX6_worstOf 71 = .ok (.getfield 31, 3) := by decide +kernel
theorem dX6_worstOf_74 : decode cX6_worstOf 74 = .ok (.iload 4, 2) := by decide +kernel
theorem dX6_worstOf_76 : decode cX6_worstOf 76 = .ok (.iaload, 1) := by decide +kernel
theorem dX6_worstOf_77 : decode cX6_worstOf 77 = .ok (.iload_n 2, 1) := by decide +kernel
theorem dX6_worstOf_78 : decode cX6_worstOf 78 = .ok (.if_icmp .le 13, 3) := by decide +kernel
theorem dX6_worstOf_81 : decode cX6_worstOf 81 = .ok (.aload_n 0, 1) := by decide +kernel
theorem dX6_worstOf_82 : decode cX6_worstOf 82 = .ok (.getfield 31, 3) := by decide +kernel
theorem dX6_worstOf_85 : decode cX6_worstOf 85 = .ok (.iload 4, 2) := by decide +kernel
theorem dX6_worstOf_87 : decode cX6_worstOf 87 = .ok (.iaload, 1) := by decide +kernel
theorem dX6_worstOf_88 : decode cX6_worstOf 88 = .ok (.goto 4, 3) := by decide +kernel
theorem dX6_worstOf_91 : decode cX6_worstOf 91 = .ok (.iload_n 2, 1) := by decide +kernel
theorem dX6_worstOf_92 : decode cX6_worstOf 92 = .ok (.istore_n 2, 1) := by decide +kernel
theorem dX6_worstOf_93 : decode cX6_worstOf 93 = .ok (.iinc 3 1, 3) := by decide +kernel
theorem dX6_worstOf_96 : decode cX6_worstOf 96 = .ok (.goto (-71), 3) := by decide +kernel
theorem dX6_worstOf_99 : decode cX6_worstOf 99 = .ok (.iload_n 2, 1) := by decide +kernel
theorem dX6_worstOf_100 : decode cX6_worstOf 100 = .ok (.ireturn, 1) := by decide +kernel
set_option maxRecDepth 20000 in
theorem ggX6_askOf_X6_fitMany : GoodIn wsX6_askOf wsX6_fitMany := goodIn_r _ [6, 7, 8, 9, 10, 11, 5, 12, 13, 14, 15, 16, 17, 18, 1, 19, 20, 21, 22, 23, 24, 25, 26, 27, 33, 34, 35, 36, 37, 38, 39, 40, 41, 42, 43, 44, 45, 46, 47, 48, 49, 50, 51, 52, 53, 54, 55, 56] (by decide +kernel) (by decide +kernel)
set_option maxRecDepth 20000 in
theorem gX6_askOf_X6_fitMany : GoodIn wsX6_askOf (wsV RX6 162 RX6 yX6_fitMany wsX6_fitMany) := goodIn_app (goodIn_of _ (by decide +kernel)) ggX6_askOf_X6_fitMany
set_option maxRecDepth 20000 in
theorem ggX6_askOf_X6_worstOf : GoodIn wsX6_askOf wsX6_worstOf := goodIn_r _ [31, 32, 7, 8, 9, 10, 11, 5, 12, 13, 14, 15, 16, 17, 18, 1, 19, 20, 21, 22, 23, 24, 25, 26, 27, 33, 34, 35, 36, 37, 38, 39, 40, 41, 42, 43, 44, 45, 46, 47, 48, 49, 50, 51, 52, 53, 54, 55, 56] (by decide +kernel) (by decide +kernel)
set_option maxRecDepth 20000 in
theorem gX6_askOf_X6_worstOf : GoodIn wsX6_askOf (wsV RX6 165 RX6 yX6_worstOf wsX6_worstOf) := goodIn_app (goodIn_of _ (by decide +kernel)) ggX6_askOf_X6_worstOf
theorem dX6_askOf_0 : decode cX6_askOf 0 = .ok (.iconst (-1), 1) := by decide +kernel
theorem dX6_askOf_1 : decode cX6_askOf 1 = .ok (.istore_n 1, 1) := by decide +kernel
theorem dX6_askOf_2 : decode cX6_askOf 2 = .ok (.iconst 0, 1) := by decide +kernel
theorem dX6_askOf_3 : decode cX6_askOf 3 = .ok (.istore_n 2, 1) := by decide +kernel
theorem dX6_askOf_4 : decode cX6_askOf 4 = .ok (.iconst 0, 1) := by decide +kernel
theorem dX6_askOf_5 : decode cX6_askOf 5 = .ok (.istore_n 3, 1) := by decide +kernel
theorem dX6_askOf_6 : decode cX6_askOf 6 = .ok (.iload_n 3, 1) := by decide +kernel
theorem dX6_askOf_7 : decode cX6_askOf 7 = .ok (.aload_n 0, 1) := by decide +kernel
theorem dX6_askOf_8 : decode cX6_askOf 8 = .ok (.getfield 72, 3) := by decide +kernel
theorem dX6_askOf_11 : decode cX6_askOf 11 = .ok (.if_icmp .ge 64, 3) := by decide +kernel
theorem dX6_askOf_14 : decode cX6_askOf 14 = .ok (.aload_n 0, 1) := by decide +kernel
theorem dX6_askOf_15 : decode cX6_askOf 15 = .ok (.invokevirtual 162, 3) := by decide +kernel
theorem dX6_askOf_18 : decode cX6_askOf 18 = .ok (.ifCond .le 57, 3) := by decide +kernel
theorem dX6_askOf_21 : decode cX6_askOf 21 = .ok (.aload_n 0, 1) := by decide +kernel
theorem dX6_askOf_22 : decode cX6_askOf 22 = .ok (.iload_n 3, 1) := by decide +kernel
theorem dX6_askOf_23 : decode cX6_askOf 23 = .ok (.invokevirtual 165, 3) := by decide +kernel
theorem dX6_askOf_26 : decode cX6_askOf 26 = .ok (.istore 4, 2) := by decide +kernel
theorem dX6_askOf_28 : decode cX6_askOf 28 = .ok (.iload_n 1, 1) := by decide +kernel
theorem dX6_askOf_29 : decode cX6_askOf 29 = .ok (.iconst (-1), 1) := by decide +kernel
theorem dX6_askOf_30 : decode cX6_askOf 30 = .ok (.if_icmp .eq 9, 3) := by decide +kernel
theorem dX6_askOf_33 : decode cX6_askOf 33 = .ok (.iload 4, 2) := by decide +kernel
theorem dX6_askOf_35 : decode cX6_askOf 35 = .ok (.iload_n 2, 1) := by decide +kernel
theorem dX6_askOf_36 : decode cX6_askOf 36 = .ok (.if_icmp .ge 7, 3) := by decide +kernel
theorem dX6_askOf_39 : decode cX6_askOf 39 = .ok (.iconst 1, 1) := by decide +kernel
theorem dX6_askOf_40 : decode cX6_askOf 40 = .ok (.goto 4, 3) := by decide +kernel
theorem dX6_askOf_43 : decode cX6_askOf 43 = .ok (.iconst 0, 1) := by decide +kernel
theorem dX6_askOf_44 : decode cX6_askOf 44 = .ok (.istore 5, 2) := by decide +kernel
theorem dX6_askOf_46 : decode cX6_askOf 46 = .ok (.iload 5, 2) := by decide +kernel
theorem dX6_askOf_48 : decode cX6_askOf 48 = .ok (.ifCond .eq 7, 3) := by decide +kernel
theorem dX6_askOf_51 : decode cX6_askOf 51 = .ok (.iload_n 3, 1) := by decide +kernel
theorem dX6_askOf_52 : decode cX6_askOf 52 = .ok (.goto 4, 3) := by decide +kernel
theorem dX6_askOf_55 : decode cX6_askOf 55 = .ok (.iload_n 1, 1) := by decide +kernel
theorem dX6_askOf_56 : decode cX6_askOf 56 = .ok (.istore_n 1, 1) := by decide +kernel
theorem dX6_askOf_57 : decode cX6_askOf 57 = .ok (.iload 5, 2) := by decide +kernel
theorem dX6_askOf_59 : decode cX6_askOf 59 = .ok (.ifCond .eq 8, 3) := by decide +kernel
theorem dX6_askOf_62 : decode cX6_askOf 62 = .ok (.iload 4, 2) := by decide +kernel
theorem dX6_askOf_64 : decode cX6_askOf 64 = .ok (.goto 4, 3) := by decide +kernel
theorem dX6_askOf_67 : decode cX6_askOf 67 = .ok (.iload_n 2, 1) := by decide +kernel
theorem dX6_askOf_68 : decode cX6_askOf 68 = .ok (.istore_n 2, 1) := by decide +kernel
theorem dX6_askOf_69 : decode cX6_askOf 69 = .ok (.iinc 3 1, 3) := by decide +kernel
theorem dX6_askOf_72 : decode cX6_askOf 72 = .ok (.goto (-66), 3) := by decide +kernel
theorem dX6_askOf_75 : decode cX6_askOf 75 = .ok (.iload_n 1, 1) := by decide +kernel
theorem dX6_askOf_76 : decode cX6_askOf 76 = .ok (.ireturn, 1) := by decide +kernel
set_option maxRecDepth 20000 in
theorem ggX6_ask_X6_lay : GoodIn wsX6_ask wsX6_lay := goodIn_r _ [5, 6, 7, 8, 9, 10, 11, 12, 13, 4, 14, 15, 16, 17, 18, 19, 20, 21, 22, 23, 24, 25, 26, 27, 28, 29, 30, 31, 32, 33, 34, 35, 36, 37, 38, 39, 40, 41, 42, 43, 44, 45, 46, 47, 48, 49, 50, 51, 52, 53, 80, 81, 82, 83, 84, 85, 86, 87, 88, 89, 90, 91, 92, 93, 94, 95, 96, 97, 98, 99, 100, 101, 102, 103] (by decide +kernel) (by decide +kernel)
set_option maxRecDepth 20000 in
theorem gX6_ask_X6_lay : GoodIn wsX6_ask (wsV RX6 143 RX6 yX6_lay wsX6_lay) := goodIn_app (goodIn_of _ (by decide +kernel)) ggX6_ask_X6_lay
set_option maxRecDepth 20000 in
theorem ggX6_ask_X6_askOf : GoodIn wsX6_ask wsX6_askOf := goodIn_r _ [57, 27, 58, 59, 60, 4, 61, 10, 9, 62, 63, 64, 65, 66, 67, 68, 69, 70, 71, 72, 73, 74, 41, 42, 43, 44, 45, 46, 75, 76, 77, 78, 79, 80, 81, 82, 83, 84, 85, 86, 87, 88, 89, 90, 91, 92, 93, 94, 95, 96, 97, 98, 99, 100, 101, 102, 103] (by decide +kernel) (by decide +kernel)
set_option maxRecDepth 20000 in
theorem gX6_ask_X6_askOf : GoodIn wsX6_ask (wsV RX6 168 RX6 yX6_askOf wsX6_askOf) := goodIn_app (goodIn_of _ (by decide +kernel)) ggX6_ask_X6_askOf
theorem dX6_ask_0 : decode cX6_ask 0 = .ok (.aload_n 0, 1) := by decide +kernel
theorem dX6_ask_1 : decode cX6_ask 1 = .ok (.invokevirtual 143, 3) := by decide +kernel
theorem dX6_ask_4 : decode cX6_ask 4 = .ok (.aload_n 0, 1) := by decide +kernel
theorem dX6_ask_5 : decode cX6_ask 5 = .ok (.invokevirtual 168, 3) := by decide +kernel
theorem dX6_ask_8 : decode cX6_ask 8 = .ok (.ireturn, 1) := by decide +kernel
theorem dX6_draw_0 : decode cX6_draw 0 = .ok (.aload_n 0, 1) := by decide +kernel
theorem dX6_draw_1 : decode cX6_draw 1 = .ok (.ldc2_w 171, 3) := by decide +kernel
theorem dX6_draw_4 : decode cX6_draw 4 = .ok (.aload_n 0, 1) := by decide +kernel
theorem dX6_draw_5 : decode cX6_draw 5 = .ok (.getfield 173, 3) := by decide +kernel
theorem dX6_draw_8 : decode cX6_draw 8 = .ok (.i2l, 1) := by decide +kernel
theorem dX6_draw_9 : decode cX6_draw 9 = .ok (.lmul, 1) := by decide +kernel
theorem dX6_draw_10 : decode cX6_draw 10 = .ok (.ldc2_w 176, 3) := by decide +kernel
theorem dX6_draw_13 : decode cX6_draw 13 = .ok (.ladd, 1) := by decide +kernel
theorem dX6_draw_14 : decode cX6_draw 14 = .ok (.ldc2_w 178, 3) := by decide +kernel
theorem dX6_draw_17 : decode cX6_draw 17 = .ok (.land, 1) := by decide +kernel
theorem dX6_draw_18 : decode cX6_draw 18 = .ok (.l2i, 1) := by decide +kernel
theorem dX6_draw_19 : decode cX6_draw 19 = .ok (.putfield 173, 3) := by decide +kernel
theorem dX6_draw_22 : decode cX6_draw 22 = .ok (.aload_n 0, 1) := by decide +kernel
theorem dX6_draw_23 : decode cX6_draw 23 = .ok (.getfield 173, 3) := by decide +kernel
theorem dX6_draw_26 : decode cX6_draw 26 = .ok (.ldc 180, 2) := by decide +kernel
theorem dX6_draw_28 : decode cX6_draw 28 = .ok (.idiv, 1) := by decide +kernel
theorem dX6_draw_29 : decode cX6_draw 29 = .ok (.iload_n 1, 1) := by decide +kernel
theorem dX6_draw_30 : decode cX6_draw 30 = .ok (.irem, 1) := by decide +kernel
theorem dX6_draw_31 : decode cX6_draw 31 = .ok (.ireturn, 1) := by decide +kernel
set_option maxRecDepth 20000 in
theorem ggX6_mayMany_X6_isDeed : GoodIn wsX6_mayMany wsX6_isDeed := goodIn_r _ [5, 6, 7, 8, 9, 10, 11, 12, 4, 13, 14, 15, 16, 17, 18, 45, 46, 47, 48, 49, 50, 51, 52, 53, 54, 55, 56, 57, 58, 59, 60, 61, 62, 63, 64, 65, 66, 67, 68] (by decide +kernel) (by decide +kernel)
set_option maxRecDepth 20000 in
theorem gX6_mayMany_X6_isDeed : GoodIn wsX6_mayMany (wsV RX6 118 RX6 yX6_isDeed wsX6_isDeed) := goodIn_app (goodIn_of _ (by decide +kernel)) ggX6_mayMany_X6_isDeed
set_option maxRecDepth 20000 in
theorem ggX6_mayMany_X6_done : GoodIn wsX6_mayMany wsX6_done := goodIn_r _ [22, 23, 24, 25, 26, 4, 27, 28, 29, 30, 31, 18, 32, 33, 34, 35, 36, 37, 38, 39, 40, 41, 42, 43, 44, 45, 46, 47, 48, 49, 50, 51, 52, 53, 54, 55, 56, 57, 58, 59, 60, 61, 62, 63, 64, 65, 66, 67, 68] (by decide +kernel) (by decide +kernel)
set_option maxRecDepth 20000 in
theorem gX6_mayMany_X6_done : GoodIn wsX6_mayMany (wsV RX6 121 RX6 yX6_done wsX6_done) := goodIn_app (goodIn_of _ (by decide +kernel)) ggX6_mayMany_X6_done
theorem dX6_mayMany_0 : decode cX6_mayMany 0 = .ok (.iconst 0, 1) := by decide +kernel
theorem dX6_mayMany_1 : decode cX6_mayMany 1 = .ok (.istore_n 2, 1) := by decide +kernel
theorem dX6_mayMany_2 : decode cX6_mayMany 2 = .ok (.iconst 0, 1) := by decide +kernel
theorem dX6_mayMany_3 : decode cX6_mayMany 3 = .ok (.istore_n 3, 1) := by decide +kernel
theorem dX6_mayMany_4 : decode cX6_mayMany 4 = .ok (.iload_n 3, 1) := by decide +kernel
theorem dX6_mayMany_5 : decode cX6_mayMany 5 = .ok (.bipush 45, 2) := by decide +kernel
theorem dX6_mayMany_7 : decode cX6_mayMany 7 = .ok (.if_icmp .ge 35, 3) := by decide +kernel
theorem dX6_mayMany_10 : decode cX6_mayMany 10 = .ok (.iload_n 2, 1) := by decide +kernel
theorem dX6_mayMany_11 : decode cX6_mayMany 11 = .ok (.aload_n 0, 1) := by decide +kernel
theorem dX6_mayMany_12 : decode cX6_mayMany 12 = .ok (.iload_n 3, 1) := by decide +kernel
theorem dX6_mayMany_13 : decode cX6_mayMany 13 = .ok (.invokevirtual 118, 3) := by decide +kernel
theorem dX6_mayMany_16 : decode cX6_mayMany 16 = .ok (.ifCond .eq 17, 3) := by decide +kernel
theorem dX6_mayMany_19 : decode cX6_mayMany 19 = .ok (.aload_n 0, 1) := by decide +kernel
theorem dX6_mayMany_20 : decode cX6_mayMany 20 = .ok (.iload_n 1, 1) := by decide +kernel
theorem dX6_mayMany_21 : decode cX6_mayMany 21 = .ok (.iload_n 3, 1) := by decide +kernel
theorem dX6_mayMany_22 : decode cX6_mayMany 22 = .ok (.invokevirtual 121, 3) := by decide +kernel
theorem dX6_mayMany_25 : decode cX6_mayMany 25 = .ok (.iconst (-1), 1) := by decide +kernel
theorem dX6_mayMany_26 : decode cX6_mayMany 26 = .ok (.if_icmp .eq 7, 3) := by decide +kernel
theorem dX6_mayMany_29 : decode cX6_mayMany 29 = .ok (.iconst 1, 1) := by decide +kernel
theorem dX6_mayMany_30 : decode cX6_mayMany 30 = .ok (.goto 4, 3) := by decide +kernel
theorem dX6_mayMany_33 : decode cX6_mayMany 33 = .ok (.iconst 0, 1) := by decide +kernel
theorem dX6_mayMany_34 : decode cX6_mayMany 34 = .ok (.iadd, 1) := by decide +kernel
theorem dX6_mayMany_35 : decode cX6_mayMany 35 = .ok (.istore_n 2, 1) := by decide +kernel
theorem dX6_mayMany_36 : decode cX6_mayMany 36 = .ok (.iinc 3 1, 3) := by decide +kernel
theorem dX6_mayMany_39 : decode cX6_mayMany 39 = .ok (.goto (-35), 3) := by decide +kernel
theorem dX6_mayMany_42 : decode cX6_mayMany 42 = .ok (.iload_n 2, 1) := by decide +kernel
theorem dX6_mayMany_43 : decode cX6_mayMany 43 = .ok (.ireturn, 1) := by decide +kernel
set_option maxRecDepth 20000 in
theorem ggX6_days_X6_in : GoodIn wsX6_days wsX6_in := goodIn_r _ [8] (by decide +kernel) (by decide +kernel)
set_option maxRecDepth 20000 in
theorem gX6_days_X6_in : GoodIn wsX6_days (va_wsS RX6 43 yX6_in wsX6_in) := goodIn_app (goodIn_of _ (by decide +kernel)) ggX6_days_X6_in
set_option maxRecDepth 20000 in
theorem ggX6_days_X6_mayMany : GoodIn wsX6_days wsX6_mayMany := goodIn_r _ [12, 13, 14, 15, 7, 16, 17, 18, 19, 20, 21, 5, 6, 8, 22, 23, 24, 25, 26, 27, 28, 29, 30, 31, 32, 33, 34, 35, 36, 37, 38, 39, 40, 41, 42, 43, 44, 45, 46, 47, 48, 49, 50, 51, 52, 61, 62, 63, 64, 65, 66, 67, 68, 69, 70, 71, 72, 73, 74, 75, 76, 77, 78, 79, 80, 81, 82, 83, 84] (by decide +kernel) (by decide +kernel)
set_option maxRecDepth 20000 in
theorem gX6_days_X6_mayMany : GoodIn wsX6_days (wsV RX6 185 RX6 yX6_mayMany wsX6_mayMany) := goodIn_app (goodIn_of _ (by decide +kernel)) ggX6_days_X6_mayMany
set_option maxRecDepth 20000 in
theorem ggX6_days_X6_draw : GoodIn wsX6_days wsX6_draw := goodIn_r _ [56, 57, 3, 58, 59, 60, 61, 62, 63, 64, 65, 66, 67, 68, 69, 70, 71, 72, 73, 74, 75, 76, 77, 78, 79, 80, 81, 82, 83, 84] (by decide +kernel) (by decide +kernel)
set_option maxRecDepth 20000 in
theorem gX6_days_X6_draw : GoodIn wsX6_days (wsV RX6 188 RX6 yX6_draw wsX6_draw) := goodIn_app (goodIn_of _ (by decide +kernel)) ggX6_days_X6_draw
set_option maxRecDepth 20000 in
theorem ggX6_days_X6_isDeed : GoodIn wsX6_days wsX6_isDeed := goodIn_r _ [16, 17, 18, 19, 20, 21, 5, 6, 7, 8, 22, 23, 24, 25, 26, 61, 62, 63, 64, 65, 66, 67, 68, 69, 70, 71, 72, 73, 74, 75, 76, 77, 78, 79, 80, 81, 82, 83, 84] (by decide +kernel) (by decide +kernel)
set_option maxRecDepth 20000 in
theorem gX6_days_X6_isDeed : GoodIn wsX6_days (wsV RX6 118 RX6 yX6_isDeed wsX6_isDeed) := goodIn_app (goodIn_of _ (by decide +kernel)) ggX6_days_X6_isDeed
set_option maxRecDepth 20000 in
theorem ggX6_days_X6_done : GoodIn wsX6_days wsX6_done := goodIn_r _ [30, 31, 32, 33, 34, 7, 35, 36, 37, 38, 39, 26, 40, 41, 42, 43, 44, 45, 46, 47, 48, 49, 50, 51, 52, 61, 62, 63, 64, 65, 66, 67, 68, 69, 70, 71, 72, 73, 74, 75, 76, 77, 78, 79, 80, 81, 82, 83, 84] (by decide +kernel) (by decide +kernel)
set_option maxRecDepth 20000 in
theorem gX6_days_X6_done : GoodIn wsX6_days (wsV RX6 121 RX6 yX6_done wsX6_done) := goodIn_app (goodIn_of _ (by decide +kernel)) ggX6_days_X6_done
theorem dX6_days_0 : decode cX6_days 0 = .ok (.iload_n 1, 1) := by decide +kernel
theorem dX6_days_1 : decode cX6_days 1 = .ok (.i2l, 1) := by decide +kernel
theorem dX6_days_2 : decode cX6_days 2 = .ok (.lconst 1, 1) := by decide +kernel
theorem dX6_days_3 : decode cX6_days 3 = .ok (.ldc2_w 181, 3) := by decide +kernel
theorem dX6_days_6 : decode cX6_days 6 = .ok (.invokestatic 43, 3) := by decide +kernel
theorem dX6_days_9 : decode cX6_days 9 = .ok (.ifCond .eq 19, 3) := by decide +kernel
theorem dX6_days_12 : decode cX6_days 12 = .ok (.iload_n 2, 1) := by decide +kernel
theorem dX6_days_13 : decode cX6_days 13 = .ok (.ifCond .lt 15, 3) := by decide +kernel
theorem dX6_days_16 : decode cX6_days 16 = .ok (.iload_n 3, 1) := by decide +kernel
theorem dX6_days_17 : decode cX6_days 17 = .ok (.i2l, 1) := by decide +kernel
theorem dX6_days_18 : decode cX6_days 18 = .ok (.lconst 0, 1) := by decide +kernel
theorem dX6_days_19 : decode cX6_days 19 = .ok (.ldc2_w 183, 3) := by decide +kernel
theorem dX6_days_22 : decode cX6_days 22 = .ok (.invokestatic 43, 3) := by decide +kernel
theorem dX6_days_25 : decode cX6_days 25 = .ok (.ifCond .ne 6, 3) := by decide +kernel
theorem dX6_days_28 : decode cX6_days 28 = .ok (.bipush (-102), 2) := by decide +kernel
theorem dX6_days_30 : decode cX6_days 30 = .ok (.ireturn, 1) := by decide +kernel
theorem dX6_days_31 : decode cX6_days 31 = .ok (.aload_n 0, 1) := by decide +kernel
theorem dX6_days_32 : decode cX6_days 32 = .ok (.iload_n 2, 1) := by decide +kernel
theorem dX6_days_33 : decode cX6_days 33 = .ok (.putfield 173, 3) := by decide +kernel
theorem dX6_days_36 : decode cX6_days 36 = .ok (.aload_n 0, 1) := by decide +kernel
theorem dX6_days_37 : decode cX6_days 37 = .ok (.getfield 115, 3) := by decide +kernel
theorem dX6_days_40 : decode cX6_days 40 = .ok (.istore 4, 2) := by decide +kernel
theorem dX6_days_42 : decode cX6_days 42 = .ok (.iconst 0, 1) := by decide +kernel
theorem dX6_days_43 : decode cX6_days 43 = .ok (.istore 5, 2) := by decide +kernel
theorem dX6_days_45 : decode cX6_days 45 = .ok (.aload_n 0, 1) := by decide +kernel
theorem dX6_days_46 : decode cX6_days 46 = .ok (.iload 4, 2) := by decide +kernel
theorem dX6_days_48 : decode cX6_days 48 = .ok (.invokevirtual 185, 3) := by decide +kernel
theorem dX6_days_51 : decode cX6_days 51 = .ok (.istore 6, 2) := by decide +kernel
theorem dX6_days_53 : decode cX6_days 53 = .ok (.iload 5, 2) := by decide +kernel
theorem dX6_days_55 : decode cX6_days 55 = .ok (.iload_n 1, 1) := by decide +kernel
theorem dX6_days_56 : decode cX6_days 56 = .ok (.if_icmp .ge 113, 3) := by decide +kernel
theorem dX6_days_59 : decode cX6_days 59 = .ok (.iload 6, 2) := by decide +kernel
theorem dX6_days_61 : decode cX6_days 61 = .ok (.ifCond .le 108, 3) := by decide +kernel
theorem dX6_days_64 : decode cX6_days 64 = .ok (.aload_n 0, 1) := by decide +kernel
theorem dX6_days_65 : decode cX6_days 65 = .ok (.iload 6, 2) := by decide +kernel
theorem dX6_days_67 : decode cX6_days 67 = .ok (.invokevirtual 188, 3) := by decide +kernel
theorem dX6_days_70 : decode cX6_days 70 = .ok (.istore 7, 2) := by decide +kernel
theorem dX6_days_72 : decode cX6_days 72 = .ok (.iload 4, 2) := by decide +kernel
theorem dX6_days_74 : decode cX6_days 74 = .ok (.istore 8, 2) := by decide +kernel
theorem dX6_days_76 : decode cX6_days 76 = .ok (.iconst 0, 1) := by decide +kernel
theorem dX6_days_77 : decode cX6_days 77 = .ok (.istore 9, 2) := by decide +kernel
theorem dX6_days_79 : decode cX6_days 79 = .ok (.iload 9, 2) := by decide +kernel
theorem dX6_days_81 : decode cX6_days 81 = .ok (.bipush 45, 2) := by decide +kernel
theorem dX6_days_83 : decode cX6_days 83 = .ok (.if_icmp .ge 68, 3) := by decide +kernel
theorem dX6_days_86 : decode cX6_days 86 = .ok (.aload_n 0, 1) := by decide +kernel
theorem dX6_days_87 : decode cX6_days 87 = .ok (.iload 9, 2) := by decide +kernel
theorem dX6_days_89 : decode cX6_days 89 = .ok (.invokevirtual 118, 3) := by decide +kernel
theorem dX6_days_92 : decode cX6_days 92 = .ok (.ifCond .eq 14, 3) := by decide +kernel
theorem dX6_days_95 : decode cX6_days 95 = .ok (.aload_n 0, 1) := by decide +kernel
theorem dX6_days_96 : decode cX6_days 96 = .ok (.iload 4, 2) := by decide +kernel
theorem dX6_days_98 : decode cX6_days 98 = .ok (.iload 9, 2) := by decide +kernel
theorem dX6_days_100 : decode cX6_days 100 = .ok (.invokevirtual 121, 3) := by decide +kernel
theorem dX6_days_103 : decode cX6_days 103 = .ok (.goto 4, 3) := by decide +kernel
theorem dX6_days_106 : decode cX6_days 106 = .ok (.iconst (-1), 1) := by decide +kernel
theorem dX6_days_107 : decode cX6_days 107 = .ok (.istore 10, 2) := by decide +kernel
theorem dX6_days_109 : decode cX6_days 109 = .ok (.iload 10, 2) := by decide +kernel
theorem dX6_days_111 : decode cX6_days 111 = .ok (.iconst (-1), 1) := by decide +kernel
theorem dX6_days_112 : decode cX6_days 112 = .ok (.if_icmp .eq 13, 3) := by decide +kernel
theorem dX6_days_115 : decode cX6_days 115 = .ok (.iload 7, 2) := by decide +kernel
theorem dX6_days_117 : decode cX6_days 117 = .ok (.ifCond .ne 8, 3) := by decide +kernel
theorem dX6_days_120 : decode cX6_days 120 = .ok (.iload 10, 2) := by decide +kernel
theorem dX6_days_122 : decode cX6_days 122 = .ok (.goto 5, 3) := by decide +kernel
theorem dX6_days_125 : decode cX6_days 125 = .ok (.iload 8, 2) := by decide +kernel
theorem dX6_days_127 : decode cX6_days 127 = .ok (.istore 8, 2) := by decide +kernel
theorem dX6_days_129 : decode cX6_days 129 = .ok (.iload 7, 2) := by decide +kernel
theorem dX6_days_131 : decode cX6_days 131 = .ok (.iload 10, 2) := by decide +kernel
theorem dX6_days_133 : decode cX6_days 133 = .ok (.iconst (-1), 1) := by decide +kernel
theorem dX6_days_134 : decode cX6_days 134 = .ok (.if_icmp .ne 7, 3) := by decide +kernel
theorem dX6_days_137 : decode cX6_days 137 = .ok (.iconst 0, 1) := by decide +kernel
theorem dX6_days_138 : decode cX6_days 138 = .ok (.goto 4, 3) := by decide +kernel
theorem dX6_days_141 : decode cX6_days 141 = .ok (.iconst 1, 1) := by decide +kernel
theorem dX6_days_142 : decode cX6_days 142 = .ok (.isub, 1) := by decide +kernel
theorem dX6_days_143 : decode cX6_days 143 = .ok (.istore 7, 2) := by decide +kernel
theorem dX6_days_145 : decode cX6_days 145 = .ok (.iinc 9 1, 3) := by decide +kernel
theorem dX6_days_148 : decode cX6_days 148 = .ok (.goto (-69), 3) := by decide +kernel
theorem dX6_days_151 : decode cX6_days 151 = .ok (.iload 8, 2) := by decide +kernel
theorem dX6_days_153 : decode cX6_days 153 = .ok (.istore 4, 2) := by decide +kernel
theorem dX6_days_155 : decode cX6_days 155 = .ok (.iinc 5 1, 3) := by decide +kernel
theorem dX6_days_158 : decode cX6_days 158 = .ok (.aload_n 0, 1) := by decide +kernel
theorem dX6_days_159 : decode cX6_days 159 = .ok (.iload 4, 2) := by decide +kernel
theorem dX6_days_161 : decode cX6_days 161 = .ok (.invokevirtual 185, 3) := by decide +kernel
theorem dX6_days_164 : decode cX6_days 164 = .ok (.istore 6, 2) := by decide +kernel
theorem dX6_days_166 : decode cX6_days 166 = .ok (.goto (-113), 3) := by decide +kernel
theorem dX6_days_169 : decode cX6_days 169 = .ok (.iload_n 3, 1) := by decide +kernel
theorem dX6_days_170 : decode cX6_days 170 = .ok (.ifCond .ne 8, 3) := by decide +kernel
theorem dX6_days_173 : decode cX6_days 173 = .ok (.iload 4, 2) := by decide +kernel
theorem dX6_days_175 : decode cX6_days 175 = .ok (.goto 17, 3) := by decide +kernel
theorem dX6_days_178 : decode cX6_days 178 = .ok (.iload_n 3, 1) := by decide +kernel
theorem dX6_days_179 : decode cX6_days 179 = .ok (.iconst 1, 1) := by decide +kernel
theorem dX6_days_180 : decode cX6_days 180 = .ok (.if_icmp .ne 8, 3) := by decide +kernel
theorem dX6_days_183 : decode cX6_days 183 = .ok (.iload 5, 2) := by decide +kernel
theorem dX6_days_185 : decode cX6_days 185 = .ok (.goto 7, 3) := by decide +kernel
theorem dX6_days_188 : decode cX6_days 188 = .ok (.aload_n 0, 1) := by decide +kernel
theorem dX6_days_189 : decode cX6_days 189 = .ok (.getfield 173, 3) := by decide +kernel
theorem dX6_days_192 : decode cX6_days 192 = .ok (.ireturn, 1) := by decide +kernel
theorem dX6_image_0 : decode cX6_image 0 = .ok (.iconst 0, 1) := by decide +kernel
theorem dX6_image_1 : decode cX6_image 1 = .ok (.istore_n 1, 1) := by decide +kernel
theorem dX6_image_2 : decode cX6_image 2 = .ok (.iload_n 1, 1) := by decide +kernel
theorem dX6_image_3 : decode cX6_image 3 = .ok (.bipush 8, 2) := by decide +kernel
theorem dX6_image_5 : decode cX6_image 5 = .ok (.if_icmp .ge 21, 3) := by decide +kernel
theorem dX6_image_8 : decode cX6_image 8 = .ok (.aload_n 0, 1) := by decide +kernel
theorem dX6_image_9 : decode cX6_image 9 = .ok (.getfield 34, 3) := by decide +kernel
theorem dX6_image_12 : decode cX6_image 12 = .ok (.iload_n 1, 1) := by decide +kernel
theorem dX6_image_13 : decode cX6_image 13 = .ok (.aload_n 0, 1) := by decide +kernel
theorem dX6_image_14 : decode cX6_image 14 = .ok (.getfield 28, 3) := by decide +kernel
theorem dX6_image_17 : decode cX6_image 17 = .ok (.iload_n 1, 1) := by decide +kernel
theorem dX6_image_18 : decode cX6_image 18 = .ok (.iaload, 1) := by decide +kernel
theorem dX6_image_19 : decode cX6_image 19 = .ok (.iastore, 1) := by decide +kernel
theorem dX6_image_20 : decode cX6_image 20 = .ok (.iinc 1 1, 3) := by decide +kernel
theorem dX6_image_23 : decode cX6_image 23 = .ok (.goto (-21), 3) := by decide +kernel
theorem dX6_image_26 : decode cX6_image 26 = .ok (.aload_n 0, 1) := by decide +kernel
theorem dX6_image_27 : decode cX6_image 27 = .ok (.aload_n 0, 1) := by decide +kernel
theorem dX6_image_28 : decode cX6_image 28 = .ok (.getfield 72, 3) := by decide +kernel
theorem dX6_image_31 : decode cX6_image 31 = .ok (.putfield 191, 3) := by decide +kernel
theorem dX6_image_34 : decode cX6_image 34 = .ok (.aload_n 0, 1) := by decide +kernel
theorem dX6_image_35 : decode cX6_image 35 = .ok (.aload_n 0, 1) := by decide +kernel
theorem dX6_image_36 : decode cX6_image 36 = .ok (.getfield 137, 3) := by decide +kernel
theorem dX6_image_39 : decode cX6_image 39 = .ok (.putfield 194, 3) := by decide +kernel
theorem dX6_image_42 : decode cX6_image 42 = .ok (.aload_n 0, 1) := by decide +kernel
theorem dX6_image_43 : decode cX6_image 43 = .ok (.aload_n 0, 1) := by decide +kernel
theorem dX6_image_44 : decode cX6_image 44 = .ok (.getfield 156, 3) := by decide +kernel
theorem dX6_image_47 : decode cX6_image 47 = .ok (.putfield 197, 3) := by decide +kernel
theorem dX6_image_50 : decode cX6_image 50 = .ok (.aload_n 0, 1) := by decide +kernel
theorem dX6_image_51 : decode cX6_image 51 = .ok (.aload_n 0, 1) := by decide +kernel
theorem dX6_image_52 : decode cX6_image 52 = .ok (.getfield 115, 3) := by decide +kernel
theorem dX6_image_55 : decode cX6_image 55 = .ok (.putfield 37, 3) := by decide +kernel
theorem dX6_image_58 : decode cX6_image 58 = .ok (.aload_n 0, 1) := by decide +kernel
theorem dX6_image_59 : decode cX6_image 59 = .ok (.getfield 115, 3) := by decide +kernel
theorem dX6_image_62 : decode cX6_image 62 = .ok (.ireturn, 1) := by decide +kernel
theorem dX6_restore_0 : decode cX6_restore 0 = .ok (.aload_n 0, 1) := by decide +kernel
theorem dX6_restore_1 : decode cX6_restore 1 = .ok (.getfield 37, 3) := by decide +kernel
theorem dX6_restore_4 : decode cX6_restore 4 = .ok (.iconst (-1), 1) := by decide +kernel
theorem dX6_restore_5 : decode cX6_restore 5 = .ok (.if_icmp .eq 14, 3) := by decide +kernel
theorem dX6_restore_8 : decode cX6_restore 8 = .ok (.aload_n 0, 1) := by decide +kernel
theorem dX6_restore_9 : decode cX6_restore 9 = .ok (.getfield 191, 3) := by decide +kernel
theorem dX6_restore_12 : decode cX6_restore 12 = .ok (.aload_n 0, 1) := by decide +kernel
theorem dX6_restore_13 : decode cX6_restore 13 = .ok (.getfield 72, 3) := by decide +kernel
theorem dX6_restore_16 : decode cX6_restore 16 = .ok (.if_icmp .eq 6, 3) := by decide +kernel
theorem dX6_restore_19 : decode cX6_restore 19 = .ok (.bipush (-103), 2) := by decide +kernel
theorem dX6_restore_21 : decode cX6_restore 21 = .ok (.ireturn, 1) := by decide +kernel
theorem dX6_restore_22 : decode cX6_restore 22 = .ok (.iconst 0, 1) := by decide +kernel
theorem dX6_restore_23 : decode cX6_restore 23 = .ok (.istore_n 1, 1) := by decide +kernel
theorem dX6_restore_24 : decode cX6_restore 24 = .ok (.iload_n 1, 1) := by decide +kernel
theorem dX6_restore_25 : decode cX6_restore 25 = .ok (.bipush 8, 2) := by decide +kernel
theorem dX6_restore_27 : decode cX6_restore 27 = .ok (.if_icmp .ge 21, 3) := by decide +kernel
theorem dX6_restore_30 : decode cX6_restore 30 = .ok (.aload_n 0, 1) := by decide +kernel
theorem dX6_restore_31 : decode cX6_restore 31 = .ok (.getfield 28, 3) := by decide +kernel
theorem dX6_restore_34 : decode cX6_restore 34 = .ok (.iload_n 1, 1) := by decide +kernel
theorem dX6_restore_35 : decode cX6_restore 35 = .ok (.aload_n 0, 1) := by decide +kernel
theorem dX6_restore_36 : decode cX6_restore 36 = .ok (.getfield 34, 3) := by decide +kernel
theorem dX6_restore_39 : decode cX6_restore 39 = .ok (.iload_n 1, 1) := by decide +kernel
theorem dX6_restore_40 : decode cX6_restore 40 = .ok (.iaload, 1) := by decide +kernel
theorem dX6_restore_41 : decode cX6_restore 41 = .ok (.iastore, 1) := by decide +kernel
theorem dX6_restore_42 : decode cX6_restore 42 = .ok (.iinc 1 1, 3) := by decide +kernel
theorem dX6_restore_45 : decode cX6_restore 45 = .ok (.goto (-21), 3) := by decide +kernel
theorem dX6_restore_48 : decode cX6_restore 48 = .ok (.aload_n 0, 1) := by decide +kernel
theorem dX6_restore_49 : decode cX6_restore 49 = .ok (.aload_n 0, 1) := by decide +kernel
theorem dX6_restore_50 : decode cX6_restore 50 = .ok (.getfield 194, 3) := by decide +kernel
theorem dX6_restore_53 : decode cX6_restore 53 = .ok (.putfield 137, 3) := by decide +kernel
theorem dX6_restore_56 : decode cX6_restore 56 = .ok (.aload_n 0, 1) := by decide +kernel
theorem dX6_restore_57 : decode cX6_restore 57 = .ok (.aload_n 0, 1) := by decide +kernel
theorem dX6_restore_58 : decode cX6_restore 58 = .ok (.getfield 197, 3) := by decide +kernel
theorem dX6_restore_61 : decode cX6_restore 61 = .ok (.putfield 156, 3) := by decide +kernel
theorem dX6_restore_64 : decode cX6_restore 64 = .ok (.aload_n 0, 1) := by decide +kernel
theorem dX6_restore_65 : decode cX6_restore 65 = .ok (.aload_n 0, 1) := by decide +kernel
theorem dX6_restore_66 : decode cX6_restore 66 = .ok (.getfield 37, 3) := by decide +kernel
theorem dX6_restore_69 : decode cX6_restore 69 = .ok (.putfield 115, 3) := by decide +kernel
theorem dX6_restore_72 : decode cX6_restore 72 = .ok (.aload_n 0, 1) := by decide +kernel
theorem dX6_restore_73 : decode cX6_restore 73 = .ok (.getfield 115, 3) := by decide +kernel
theorem dX6_restore_76 : decode cX6_restore 76 = .ok (.ireturn, 1) := by decide +kernel
set_option maxRecDepth 20000 in
theorem ggX6_countOf_X6_holder : GoodIn wsX6_countOf wsX6_holder := goodIn_r _ [9, 10, 11, 8, 12] (by decide +kernel) (by decide +kernel)
set_option maxRecDepth 20000 in
theorem gX6_countOf_X6_holder : GoodIn wsX6_countOf (va_wsS RX6 85 yX6_holder wsX6_holder) := goodIn_app (goodIn_of _ (by decide +kernel)) ggX6_countOf_X6_holder
set_option maxRecDepth 20000 in
theorem ggX6_countOf_X6_mayMany : GoodIn wsX6_countOf wsX6_mayMany := goodIn_r _ [16, 17, 18, 19, 8, 20, 21, 22, 23, 24, 25, 26, 27, 28, 29, 30, 31, 32, 1, 33, 34, 35, 36, 37, 38, 39, 40, 41, 42, 43, 44, 45, 6, 7, 9, 10, 11, 12, 46, 47, 48, 49, 50, 51, 52, 53, 54, 55, 56, 57, 58, 59, 60, 61, 62, 63, 64, 65, 66, 67, 68, 69, 70, 71, 72, 73, 74, 75, 76] (by decide +kernel) (by decide +kernel)
set_option maxRecDepth 20000 in
theorem gX6_countOf_X6_mayMany : GoodIn wsX6_countOf (wsV RX6 185 RX6 yX6_mayMany wsX6_mayMany) := goodIn_app (goodIn_of _ (by decide +kernel)) ggX6_countOf_X6_mayMany
theorem dX6_countOf_0 : decode cX6_countOf 0 = .ok (.iconst 0, 1) := by decide +kernel
theorem dX6_countOf_1 : decode cX6_countOf 1 = .ok (.istore_n 2, 1) := by decide +kernel
theorem dX6_countOf_2 : decode cX6_countOf 2 = .ok (.iconst 0, 1) := by decide +kernel
theorem dX6_countOf_3 : decode cX6_countOf 3 = .ok (.istore_n 3, 1) := by decide +kernel
theorem dX6_countOf_4 : decode cX6_countOf 4 = .ok (.iload_n 3, 1) := by decide +kernel
theorem dX6_countOf_5 : decode cX6_countOf 5 = .ok (.aload_n 0, 1) := by decide +kernel
theorem dX6_countOf_6 : decode cX6_countOf 6 = .ok (.getfield 72, 3) := by decide +kernel
theorem dX6_countOf_9 : decode cX6_countOf 9 = .ok (.if_icmp .ge 29, 3) := by decide +kernel
theorem dX6_countOf_12 : decode cX6_countOf 12 = .ok (.iload_n 2, 1) := by decide +kernel
theorem dX6_countOf_13 : decode cX6_countOf 13 = .ok (.aload_n 0, 1) := by decide +kernel
theorem dX6_countOf_14 : decode cX6_countOf 14 = .ok (.getfield 115, 3) := by decide +kernel
theorem dX6_countOf_17 : decode cX6_countOf 17 = .ok (.iload_n 3, 1) := by decide +kernel
theorem dX6_countOf_18 : decode cX6_countOf 18 = .ok (.invokestatic 85, 3) := by decide +kernel
theorem dX6_countOf_21 : decode cX6_countOf 21 = .ok (.iconst (-1), 1) := by decide +kernel
theorem dX6_countOf_22 : decode cX6_countOf 22 = .ok (.if_icmp .ne 7, 3) := by decide +kernel
theorem dX6_countOf_25 : decode cX6_countOf 25 = .ok (.iconst 1, 1) := by decide +kernel
theorem dX6_countOf_26 : decode cX6_countOf 26 = .ok (.goto 4, 3) := by decide +kernel
theorem dX6_countOf_29 : decode cX6_countOf 29 = .ok (.iconst 0, 1) := by decide +kernel
theorem dX6_countOf_30 : decode cX6_countOf 30 = .ok (.iadd, 1) := by decide +kernel
theorem dX6_countOf_31 : decode cX6_countOf 31 = .ok (.istore_n 2, 1) := by decide +kernel
theorem dX6_countOf_32 : decode cX6_countOf 32 = .ok (.iinc 3 1, 3) := by decide +kernel
theorem dX6_countOf_35 : decode cX6_countOf 35 = .ok (.goto (-31), 3) := by decide +kernel
theorem dX6_countOf_38 : decode cX6_countOf 38 = .ok (.iload_n 1, 1) := by decide +kernel
theorem dX6_countOf_39 : decode cX6_countOf 39 = .ok (.tableswitch 68 0 5 #[37, 42, 44, 49, 54, 59], 37) := by decide +kernel
theorem dX6_countOf_76 : decode cX6_countOf 76 = .ok (.aload_n 0, 1) := by decide +kernel
theorem dX6_countOf_77 : decode cX6_countOf 77 = .ok (.getfield 72, 3) := by decide +kernel
theorem dX6_countOf_80 : decode cX6_countOf 80 = .ok (.ireturn, 1) := by decide +kernel
theorem dX6_countOf_81 : decode cX6_countOf 81 = .ok (.iload_n 2, 1) := by decide +kernel
theorem dX6_countOf_82 : decode cX6_countOf 82 = .ok (.ireturn, 1) := by decide +kernel
theorem dX6_countOf_83 : decode cX6_countOf 83 = .ok (.aload_n 0, 1) := by decide +kernel
theorem dX6_countOf_84 : decode cX6_countOf 84 = .ok (.getfield 137, 3) := by decide +kernel
theorem dX6_countOf_87 : decode cX6_countOf 87 = .ok (.ireturn, 1) := by decide +kernel
theorem dX6_countOf_88 : decode cX6_countOf 88 = .ok (.aload_n 0, 1) := by decide +kernel
theorem dX6_countOf_89 : decode cX6_countOf 89 = .ok (.getfield 156, 3) := by decide +kernel
theorem dX6_countOf_92 : decode cX6_countOf 92 = .ok (.ireturn, 1) := by decide +kernel
theorem dX6_countOf_93 : decode cX6_countOf 93 = .ok (.aload_n 0, 1) := by decide +kernel
theorem dX6_countOf_94 : decode cX6_countOf 94 = .ok (.getfield 47, 3) := by decide +kernel
theorem dX6_countOf_97 : decode cX6_countOf 97 = .ok (.ireturn, 1) := by decide +kernel
theorem dX6_countOf_98 : decode cX6_countOf 98 = .ok (.aload_n 0, 1) := by decide +kernel
theorem dX6_countOf_99 : decode cX6_countOf 99 = .ok (.aload_n 0, 1) := by decide +kernel
theorem dX6_countOf_100 : decode cX6_countOf 100 = .ok (.getfield 115, 3) := by decide +kernel
theorem dX6_countOf_103 : decode cX6_countOf 103 = .ok (.invokevirtual 185, 3) := by decide +kernel
theorem dX6_countOf_106 : decode cX6_countOf 106 = .ok (.ireturn, 1) := by decide +kernel
theorem dX6_countOf_107 : decode cX6_countOf 107 = .ok (.bipush (-102), 2) := by decide +kernel
theorem dX6_countOf_109 : decode cX6_countOf 109 = .ok (.ireturn, 1) := by decide +kernel
set_option maxRecDepth 20000 in
theorem ggX6_count_X6_countOf : GoodIn wsX6_count wsX6_countOf := goodIn_r _ [5, 6, 7, 8, 9, 10, 11, 12, 4, 13, 14, 15, 16, 17, 18, 19, 20, 21, 22, 23, 24, 25, 26, 27, 28, 29, 30, 31, 32, 33, 34, 35, 36, 37, 38, 39, 40, 41, 42, 43, 44, 45, 46, 47, 48, 49, 50, 51, 52, 53, 54, 55, 56, 57, 58, 59, 60, 61, 62, 63, 64, 65, 66, 67, 68, 69, 70, 71, 72, 73, 74, 75, 76, 77, 78, 79, 80] (by decide +kernel) (by decide +kernel)
set_option maxRecDepth 20000 in
theorem gX6_count_X6_countOf : GoodIn wsX6_count (wsV RX6 200 RX6 yX6_countOf wsX6_countOf) := goodIn_app (goodIn_of _ (by decide +kernel)) ggX6_count_X6_countOf
theorem dX6_count_0 : decode cX6_count 0 = .ok (.aload_n 0, 1) := by decide +kernel
theorem dX6_count_1 : decode cX6_count 1 = .ok (.iload_n 1, 1) := by decide +kernel
theorem dX6_count_2 : decode cX6_count 2 = .ok (.invokevirtual 200, 3) := by decide +kernel
theorem dX6_count_5 : decode cX6_count 5 = .ok (.ireturn, 1) := by decide +kernel
theorem dX6_say_0 : decode cX6_say 0 = .ok (.aload_n 0, 1) := by decide +kernel
theorem dX6_say_1 : decode cX6_say 1 = .ok (.ldc2_w 79, 3) := by decide +kernel
theorem dX6_say_4 : decode cX6_say 4 = .ok (.aload_n 0, 1) := by decide +kernel
theorem dX6_say_5 : decode cX6_say 5 = .ok (.getfield 203, 3) := by decide +kernel
theorem dX6_say_8 : decode cX6_say 8 = .ok (.lmul, 1) := by decide +kernel
theorem dX6_say_9 : decode cX6_say 9 = .ok (.lload_n 1, 1) := by decide +kernel
theorem dX6_say_10 : decode cX6_say 10 = .ok (.ladd, 1) := by decide +kernel
theorem dX6_say_11 : decode cX6_say 11 = .ok (.putfield 203, 3) := by decide +kernel
theorem dX6_say_14 : decode cX6_say 14 = .ok (.return_, 1) := by decide +kernel
set_option maxRecDepth 20000 in
theorem ggX6_digest_X6_lay : GoodIn wsX6_digest wsX6_lay := goodIn_r _ [12, 13, 4, 14, 15, 5, 16, 17, 18, 11, 19, 20, 21, 22, 23, 24, 25, 26, 27, 28, 29, 30, 31, 3, 32, 33, 34, 35, 36, 37, 38, 39, 40, 41, 42, 43, 44, 45, 46, 47, 48, 49, 50, 51, 52, 53, 54, 55, 56, 57, 116, 117, 118, 119, 120, 121, 122, 123, 124, 125, 126, 127, 128, 129, 130, 131, 132, 133, 134, 135, 136, 137, 138, 139] (by decide +kernel) (by decide +kernel)
set_option maxRecDepth 20000 in
theorem gX6_digest_X6_lay : GoodIn wsX6_digest (wsV RX6 143 RX6 yX6_lay wsX6_lay) := goodIn_app (goodIn_of _ (by decide +kernel)) ggX6_digest_X6_lay
set_option maxRecDepth 20000 in
theorem ggX6_digest_X6_tell : GoodIn wsX6_digest wsX6_tell := goodIn_r _ [61, 36, 4, 45, 46, 11, 47, 48, 49, 50, 41, 42, 43, 44, 3, 62, 63, 64, 65, 66, 67, 68, 69, 70, 71, 116, 117, 118, 119, 120, 121, 122, 123, 124, 125, 126, 127, 128, 129, 130, 131, 132, 133, 134, 135, 136, 137, 138, 139] (by decide +kernel) (by decide +kernel)
set_option maxRecDepth 20000 in
theorem gX6_digest_X6_tell : GoodIn wsX6_digest (wsV RX6 134 RX6 yX6_tell wsX6_tell) := goodIn_app (goodIn_of _ (by decide +kernel)) ggX6_digest_X6_tell
set_option maxRecDepth 20000 in
theorem ggX6_digest_X6_say : GoodIn wsX6_digest wsX6_say := goodIn_r _ [75, 76, 2, 116, 117, 118, 119, 120, 121, 122, 123, 124, 125, 126, 127, 128, 129, 130, 131, 132, 133, 134, 135, 136, 137, 138, 139] (by decide +kernel) (by decide +kernel)
set_option maxRecDepth 20000 in
theorem gX6_digest_X6_say : GoodIn wsX6_digest (wsV RX6 209 RX6 yX6_say wsX6_say) := goodIn_app (goodIn_of _ (by decide +kernel)) ggX6_digest_X6_say
set_option maxRecDepth 20000 in
theorem ggX6_digest_X6_deepest : GoodIn wsX6_digest wsX6_deepest := goodIn_r _ [80, 5, 15, 62, 63, 11, 64, 45, 46, 47, 48, 49, 50, 116, 117, 118, 119, 120, 121, 122, 123, 124, 125, 126, 127, 128, 129, 130, 131, 132, 133, 134, 135, 136, 137, 138, 139] (by decide +kernel) (by decide +kernel)
set_option maxRecDepth 20000 in
theorem gX6_digest_X6_deepest : GoodIn wsX6_digest (wsV RX6 153 RX6 yX6_deepest wsX6_deepest) := goodIn_app (goodIn_of _ (by decide +kernel)) ggX6_digest_X6_deepest
set_option maxRecDepth 20000 in
theorem ggX6_digest_X6_fitMany : GoodIn wsX6_digest wsX6_fitMany := goodIn_r _ [84, 5, 15, 85, 86, 87, 11, 88, 89, 90, 65, 66, 67, 68, 3, 69, 70, 71, 45, 46, 47, 48, 49, 50, 116, 117, 118, 119, 120, 121, 122, 123, 124, 125, 126, 127, 128, 129, 130, 131, 132, 133, 134, 135, 136, 137, 138, 139] (by decide +kernel) (by decide +kernel)
set_option maxRecDepth 20000 in
theorem gX6_digest_X6_fitMany : GoodIn wsX6_digest (wsV RX6 162 RX6 yX6_fitMany wsX6_fitMany) := goodIn_app (goodIn_of _ (by decide +kernel)) ggX6_digest_X6_fitMany
set_option maxRecDepth 20000 in
theorem ggX6_digest_X6_askOf : GoodIn wsX6_digest wsX6_askOf := goodIn_r _ [94, 3, 81, 82, 83, 11, 84, 5, 15, 85, 86, 87, 88, 89, 90, 65, 66, 67, 68, 69, 70, 71, 45, 46, 47, 48, 49, 50, 95, 96, 97, 98, 99, 116, 117, 118, 119, 120, 121, 122, 123, 124, 125, 126, 127, 128, 129, 130, 131, 132, 133, 134, 135, 136, 137, 138, 139] (by decide +kernel) (by decide +kernel)
set_option maxRecDepth 20000 in
theorem gX6_digest_X6_askOf : GoodIn wsX6_digest (wsV RX6 168 RX6 yX6_askOf wsX6_askOf) := goodIn_app (goodIn_of _ (by decide +kernel)) ggX6_digest_X6_askOf
set_option maxRecDepth 20000 in
theorem ggX6_digest_X6_soonestOf : GoodIn wsX6_digest wsX6_soonestOf := goodIn_r _ [103, 5, 15, 13, 14, 8, 9, 10, 11, 12, 4, 16, 17, 18, 19, 20, 21, 22, 23, 24, 25, 26, 27, 28, 29, 30, 31, 3, 32, 33, 34, 35, 36, 37, 38, 39, 40, 41, 42, 43, 44, 45, 46, 47, 48, 49, 50, 51, 52, 53, 54, 55, 56, 57, 104, 105, 106, 116, 117, 118, 119, 120, 121, 122, 123, 124, 125, 126, 127, 128, 129, 130, 131, 132, 133, 134, 135, 136, 137, 138, 139] (by decide +kernel) (by decide +kernel)
set_option maxRecDepth 20000 in
theorem gX6_digest_X6_soonestOf : GoodIn wsX6_digest (wsV RX6 150 RX6 yX6_soonestOf wsX6_soonestOf) := goodIn_app (goodIn_of _ (by decide +kernel)) ggX6_digest_X6_soonestOf
set_option maxRecDepth 20000 in
theorem ggX6_digest_X6_countOf : GoodIn wsX6_digest wsX6_countOf := goodIn_r _ [110, 3, 4, 111, 89, 6, 45, 46, 11, 47, 48, 49, 50, 112, 113, 114, 115, 16, 17, 18, 19, 20, 21, 22, 23, 24, 25, 26, 27, 28, 29, 30, 31, 32, 33, 34, 35, 36, 37, 38, 39, 40, 41, 42, 43, 44, 51, 52, 53, 54, 55, 56, 57, 116, 117, 118, 119, 120, 121, 122, 123, 124, 125, 126, 127, 128, 129, 130, 131, 132, 133, 134, 135, 136, 137, 138, 139] (by decide +kernel) (by decide +kernel)
set_option maxRecDepth 20000 in
theorem gX6_digest_X6_countOf : GoodIn wsX6_digest (wsV RX6 200 RX6 yX6_countOf wsX6_countOf) := goodIn_app (goodIn_of _ (by decide +kernel)) ggX6_digest_X6_countOf
theorem dX6_digest_0 : decode cX6_digest 0 = .ok (.aload_n 0, 1) := by decide +kernel
theorem dX6_digest_1 : decode cX6_digest 1 = .ok (.ldc2_w 207, 3) := by decide +kernel
theorem dX6_digest_4 : decode cX6_digest 4 = .ok (.putfield 203, 3) := by decide +kernel
theorem dX6_digest_7 : decode cX6_digest 7 = .ok (.aload_n 0, 1) := by decide +kernel
theorem dX6_digest_8 : decode cX6_digest 8 = .ok (.invokevirtual 143, 3) := by decide +kernel
theorem dX6_digest_11 : decode cX6_digest 11 = .ok (.iconst 0, 1) := by decide +kernel
theorem dX6_digest_12 : decode cX6_digest 12 = .ok (.istore_n 1, 1) := by decide +kernel
theorem dX6_digest_13 : decode cX6_digest 13 = .ok (.iload_n 1, 1) := by decide +kernel
theorem dX6_digest_14 : decode cX6_digest 14 = .ok (.aload_n 0, 1) := by decide +kernel
theorem dX6_digest_15 : decode cX6_digest 15 = .ok (.getfield 72, 3) := by decide +kernel
theorem dX6_digest_18 : decode cX6_digest 18 = .ok (.if_icmp .ge 44, 3) := by decide +kernel
theorem dX6_digest_21 : decode cX6_digest 21 = .ok (.iconst 0, 1) := by decide +kernel
theorem dX6_digest_22 : decode cX6_digest 22 = .ok (.istore_n 2, 1) := by decide +kernel
theorem dX6_digest_23 : decode cX6_digest 23 = .ok (.iload_n 2, 1) := by decide +kernel
theorem dX6_digest_24 : decode cX6_digest 24 = .ok (.bipush 8, 2) := by decide +kernel
theorem dX6_digest_26 : decode cX6_digest 26 = .ok (.if_icmp .ge 20, 3) := by decide +kernel
theorem dX6_digest_29 : decode cX6_digest 29 = .ok (.aload_n 0, 1) := by decide +kernel
theorem dX6_digest_30 : decode cX6_digest 30 = .ok (.aload_n 0, 1) := by decide +kernel
theorem dX6_digest_31 : decode cX6_digest 31 = .ok (.iload_n 1, 1) := by decide +kernel
theorem dX6_digest_32 : decode cX6_digest 32 = .ok (.iload_n 2, 1) := by decide +kernel
theorem dX6_digest_33 : decode cX6_digest 33 = .ok (.invokevirtual 134, 3) := by decide +kernel
theorem dX6_digest_36 : decode cX6_digest 36 = .ok (.i2l, 1) := by decide +kernel
theorem dX6_digest_37 : decode cX6_digest 37 = .ok (.invokevirtual 209, 3) := by decide +kernel
theorem dX6_digest_40 : decode cX6_digest 40 = .ok (.iinc 2 1, 3) := by decide +kernel
theorem dX6_digest_43 : decode cX6_digest 43 = .ok (.goto (-20), 3) := by decide +kernel
theorem dX6_digest_46 : decode cX6_digest 46 = .ok (.aload_n 0, 1) := by decide +kernel
theorem dX6_digest_47 : decode cX6_digest 47 = .ok (.aload_n 0, 1) := by decide +kernel
theorem dX6_digest_48 : decode cX6_digest 48 = .ok (.iload_n 1, 1) := by decide +kernel
theorem dX6_digest_49 : decode cX6_digest 49 = .ok (.invokevirtual 153, 3) := by decide +kernel
theorem dX6_digest_52 : decode cX6_digest 52 = .ok (.i2l, 1) := by decide +kernel
theorem dX6_digest_53 : decode cX6_digest 53 = .ok (.invokevirtual 209, 3) := by decide +kernel
theorem dX6_digest_56 : decode cX6_digest 56 = .ok (.iinc 1 1, 3) := by decide +kernel
theorem dX6_digest_59 : decode cX6_digest 59 = .ok (.goto (-46), 3) := by decide +kernel
theorem dX6_digest_62 : decode cX6_digest 62 = .ok (.aload_n 0, 1) := by decide +kernel
theorem dX6_digest_63 : decode cX6_digest 63 = .ok (.aload_n 0, 1) := by decide +kernel
theorem dX6_digest_64 : decode cX6_digest 64 = .ok (.getfield 115, 3) := by decide +kernel
theorem dX6_digest_67 : decode cX6_digest 67 = .ok (.i2l, 1) := by decide +kernel
theorem dX6_digest_68 : decode cX6_digest 68 = .ok (.invokevirtual 209, 3) := by decide +kernel
theorem dX6_digest_71 : decode cX6_digest 71 = .ok (.aload_n 0, 1) := by decide +kernel
theorem dX6_digest_72 : decode cX6_digest 72 = .ok (.aload_n 0, 1) := by decide +kernel
theorem dX6_digest_73 : decode cX6_digest 73 = .ok (.getfield 140, 3) := by decide +kernel
theorem dX6_digest_76 : decode cX6_digest 76 = .ok (.i2l, 1) := by decide +kernel
theorem dX6_digest_77 : decode cX6_digest 77 = .ok (.invokevirtual 209, 3) := by decide +kernel
theorem dX6_digest_80 : decode cX6_digest 80 = .ok (.aload_n 0, 1) := by decide +kernel
theorem dX6_digest_81 : decode cX6_digest 81 = .ok (.aload_n 0, 1) := by decide +kernel
theorem dX6_digest_82 : decode cX6_digest 82 = .ok (.invokevirtual 162, 3) := by decide +kernel
theorem dX6_digest_85 : decode cX6_digest 85 = .ok (.i2l, 1) := by decide +kernel
theorem dX6_digest_86 : decode cX6_digest 86 = .ok (.invokevirtual 209, 3) := by decide +kernel
theorem dX6_digest_89 : decode cX6_digest 89 = .ok (.aload_n 0, 1) := by decide +kernel
theorem dX6_digest_90 : decode cX6_digest 90 = .ok (.aload_n 0, 1) := by decide +kernel
theorem dX6_digest_91 : decode cX6_digest 91 = .ok (.invokevirtual 168, 3) := by decide +kernel
theorem dX6_digest_94 : decode cX6_digest 94 = .ok (.i2l, 1) := by decide +kernel
theorem dX6_digest_95 : decode cX6_digest 95 = .ok (.invokevirtual 209, 3) := by decide +kernel
theorem dX6_digest_98 : decode cX6_digest 98 = .ok (.iconst 1, 1) := by decide +kernel
theorem dX6_digest_99 : decode cX6_digest 99 = .ok (.aload_n 0, 1) := by decide +kernel
theorem dX6_digest_100 : decode cX6_digest 100 = .ok (.getfield 72, 3) := by decide +kernel
theorem dX6_digest_103 : decode cX6_digest 103 = .ok (.ishl, 1) := by decide +kernel
theorem dX6_digest_104 : decode cX6_digest 104 = .ok (.iconst 1, 1) := by decide +kernel
theorem dX6_digest_105 : decode cX6_digest 105 = .ok (.isub, 1) := by decide +kernel
theorem dX6_digest_106 : decode cX6_digest 106 = .ok (.istore_n 1, 1) := by decide +kernel
theorem dX6_digest_107 : decode cX6_digest 107 = .ok (.aload_n 0, 1) := by decide +kernel
theorem dX6_digest_108 : decode cX6_digest 108 = .ok (.aload_n 0, 1) := by decide +kernel
theorem dX6_digest_109 : decode cX6_digest 109 = .ok (.iload_n 1, 1) := by decide +kernel
theorem dX6_digest_110 : decode cX6_digest 110 = .ok (.iconst 0, 1) := by decide +kernel
theorem dX6_digest_111 : decode cX6_digest 111 = .ok (.invokevirtual 150, 3) := by decide +kernel
theorem dX6_digest_114 : decode cX6_digest 114 = .ok (.i2l, 1) := by decide +kernel
theorem dX6_digest_115 : decode cX6_digest 115 = .ok (.invokevirtual 209, 3) := by decide +kernel
theorem dX6_digest_118 : decode cX6_digest 118 = .ok (.aload_n 0, 1) := by decide +kernel
theorem dX6_digest_119 : decode cX6_digest 119 = .ok (.aload_n 0, 1) := by decide +kernel
theorem dX6_digest_120 : decode cX6_digest 120 = .ok (.iload_n 1, 1) := by decide +kernel
theorem dX6_digest_121 : decode cX6_digest 121 = .ok (.iconst 1, 1) := by decide +kernel
theorem dX6_digest_122 : decode cX6_digest 122 = .ok (.invokevirtual 150, 3) := by decide +kernel
theorem dX6_digest_125 : decode cX6_digest 125 = .ok (.i2l, 1) := by decide +kernel
theorem dX6_digest_126 : decode cX6_digest 126 = .ok (.invokevirtual 209, 3) := by decide +kernel
theorem dX6_digest_129 : decode cX6_digest 129 = .ok (.iconst 0, 1) := by decide +kernel
theorem dX6_digest_130 : decode cX6_digest 130 = .ok (.istore_n 2, 1) := by decide +kernel
theorem dX6_digest_131 : decode cX6_digest 131 = .ok (.iload_n 2, 1) := by decide +kernel
theorem dX6_digest_132 : decode cX6_digest 132 = .ok (.aload_n 0, 1) := by decide +kernel
theorem dX6_digest_133 : decode cX6_digest 133 = .ok (.getfield 47, 3) := by decide +kernel
theorem dX6_digest_136 : decode cX6_digest 136 = .ok (.if_icmp .ge 20, 3) := by decide +kernel
theorem dX6_digest_139 : decode cX6_digest 139 = .ok (.aload_n 0, 1) := by decide +kernel
theorem dX6_digest_140 : decode cX6_digest 140 = .ok (.aload_n 0, 1) := by decide +kernel
theorem dX6_digest_141 : decode cX6_digest 141 = .ok (.getfield 7, 3) := by decide +kernel
theorem dX6_digest_144 : decode cX6_digest 144 = .ok (.iload_n 2, 1) := by decide +kernel
theorem dX6_digest_145 : decode cX6_digest 145 = .ok (.iaload, 1) := by decide +kernel
theorem dX6_digest_146 : decode cX6_digest 146 = .ok (.i2l, 1) := by decide +kernel
theorem dX6_digest_147 : decode cX6_digest 147 = .ok (.invokevirtual 209, 3) := by decide +kernel
theorem dX6_digest_150 : decode cX6_digest 150 = .ok (.iinc 2 1, 3) := by decide +kernel
theorem dX6_digest_153 : decode cX6_digest 153 = .ok (.goto (-22), 3) := by decide +kernel
theorem dX6_digest_156 : decode cX6_digest 156 = .ok (.iconst 0, 1) := by decide +kernel
theorem dX6_digest_157 : decode cX6_digest 157 = .ok (.istore_n 2, 1) := by decide +kernel
theorem dX6_digest_158 : decode cX6_digest 158 = .ok (.iload_n 2, 1) := by decide +kernel
theorem dX6_digest_159 : decode cX6_digest 159 = .ok (.bipush 6, 2) := by decide +kernel
theorem dX6_digest_161 : decode cX6_digest 161 = .ok (.if_icmp .ge 19, 3) := by decide +kernel
theorem dX6_digest_164 : decode cX6_digest 164 = .ok (.aload_n 0, 1) := by decide +kernel
theorem dX6_digest_165 : decode cX6_digest 165 = .ok (.aload_n 0, 1) := by decide +kernel
theorem dX6_digest_166 : decode cX6_digest 166 = .ok (.iload_n 2, 1) := by decide +kernel
theorem dX6_digest_167 : decode cX6_digest 167 = .ok (.invokevirtual 200, 3) := by decide +kernel
theorem dX6_digest_170 : decode cX6_digest 170 = .ok (.i2l, 1) := by decide +kernel
theorem dX6_digest_171 : decode cX6_digest 171 = .ok (.invokevirtual 209, 3) := by decide +kernel
theorem dX6_digest_174 : decode cX6_digest 174 = .ok (.iinc 2 1, 3) := by decide +kernel
theorem dX6_digest_177 : decode cX6_digest 177 = .ok (.goto (-19), 3) := by decide +kernel
theorem dX6_digest_180 : decode cX6_digest 180 = .ok (.aload_n 0, 1) := by decide +kernel
theorem dX6_digest_181 : decode cX6_digest 181 = .ok (.getfield 203, 3) := by decide +kernel
theorem dX6_digest_184 : decode cX6_digest 184 = .ok (.lreturn, 1) := by decide +kernel
end
section
theorem dJ9_max_7cf53_0 : decode cJ9_max_7cf53 0 = .ok (.iload_n 0, 1) := by decide +kernel
theorem dJ9_max_7cf53_1 : decode cJ9_max_7cf53 1 = .ok (.iload_n 1, 1) := by decide +kernel
theorem dJ9_max_7cf53_2 : decode cJ9_max_7cf53 2 = .ok (.if_icmp .lt 7, 3) := by decide +kernel
theorem dJ9_max_7cf53_5 : decode cJ9_max_7cf53 5 = .ok (.iload_n 0, 1) := by decide +kernel
theorem dJ9_max_7cf53_6 : decode cJ9_max_7cf53 6 = .ok (.goto 4, 3) := by decide +kernel
theorem dJ9_max_7cf53_9 : decode cJ9_max_7cf53 9 = .ok (.iload_n 1, 1) := by decide +kernel
theorem dJ9_max_7cf53_10 : decode cJ9_max_7cf53 10 = .ok (.ireturn, 1) := by decide +kernel
end
section
theorem dJ7_fill_53178_0 : decode cJ7_fill_53178 0 = .ok (.iconst 0, 1) := by decide +kernel
theorem dJ7_fill_53178_1 : decode cJ7_fill_53178 1 = .ok (.istore_n 2, 1) := by decide +kernel
theorem dJ7_fill_53178_2 : decode cJ7_fill_53178 2 = .ok (.aload_n 0, 1) := by decide +kernel
theorem dJ7_fill_53178_3 : decode cJ7_fill_53178 3 = .ok (.arraylength, 1) := by decide +kernel
theorem dJ7_fill_53178_4 : decode cJ7_fill_53178 4 = .ok (.istore_n 3, 1) := by decide +kernel
theorem dJ7_fill_53178_5 : decode cJ7_fill_53178 5 = .ok (.iload_n 2, 1) := by decide +kernel
theorem dJ7_fill_53178_6 : decode cJ7_fill_53178 6 = .ok (.iload_n 3, 1) := by decide +kernel
theorem dJ7_fill_53178_7 : decode cJ7_fill_53178 7 = .ok (.if_icmp .ge 13, 3) := by decide +kernel
theorem dJ7_fill_53178_10 : decode cJ7_fill_53178 10 = .ok (.aload_n 0, 1) := by decide +kernel
theorem dJ7_fill_53178_11 : decode cJ7_fill_53178 11 = .ok (.iload_n 2, 1) := by decide +kernel
theorem dJ7_fill_53178_12 : decode cJ7_fill_53178 12 = .ok (.iload_n 1, 1) := by decide +kernel
theorem dJ7_fill_53178_13 : decode cJ7_fill_53178 13 = .ok (.iastore, 1) := by decide +kernel
theorem dJ7_fill_53178_14 : decode cJ7_fill_53178 14 = .ok (.iinc 2 1, 3) := by decide +kernel
theorem dJ7_fill_53178_17 : decode cJ7_fill_53178 17 = .ok (.goto (-12), 3) := by decide +kernel
theorem dJ7_fill_53178_20 : decode cJ7_fill_53178 20 = .ok (.return_, 1) := by decide +kernel
end
section
/-! my own rows over the kit: the option monad of the functions, the environment, contracts, calls -/
theorem sw_bs {α β : Type} {o : Option α} {f : α → Option β} {r : β} (h : o.bind f = some r) : ∃ a, o = some a ∧ f a = some r := by
  cases o with
  | none => cases h
  | some a => exact ⟨a, rfl, h⟩
/-- an index that is looked at -/
def sw_ix {α : Type} (i : Int32) (n : Nat) (k : Option α) : Option α := if i < 0 ∨ n ≤ i.toNatClampNeg then none else k
theorem sw_ix_s {α : Type} {i : Int32} {n : Nat} {k : Option α} {r : α} (h : sw_ix i n k = some r) : vp_in i n ∧ k = some r := by
  unfold sw_ix at h
  by_cases c : i < 0 ∨ n ≤ i.toNatClampNeg
  · rw [if_pos c] at h; cases h
  · rw [if_neg c] at h; exact ⟨c, h⟩
/-- a divisor that is looked at -/
def sw_dz {α : Type} (y : Int32) (k : Option α) : Option α := if y = 0 then none else k
theorem sw_dz_s {α : Type} {y : Int32} {k : Option α} {r : α} (h : sw_dz y k = some r) : ¬ y = 0 ∧ k = some r := by
  unfold sw_dz at h
  by_cases c : y = 0
  · rw [if_pos c] at h; cases h
  · rw [if_neg c] at h; exact ⟨c, h⟩
/-- a boolean that is handed back -/
def sw_zb {α : Type} (v : Int32) (k : Option α) : Option α := if v = 0 ∨ v = 1 then k else none
theorem sw_zb_s {α : Type} {v : Int32} {k : Option α} {r : α} (h : sw_zb v k = some r) : narrow .boolean (.int v) = .int v ∧ k = some r := by
  unfold sw_zb at h
  by_cases c : v = 0 ∨ v = 1
  · rw [if_pos c] at h
    refine ⟨?_, h⟩
    rcases c with c | c <;> subst c <;> rfl
  · rw [if_neg c] at h; cases h
theorem sw_ip {α : Type} {c : Prop} {d : Decidable c} {a b : Option α} {r : α} (hc : c) (h : (@ite _ c d a b) = some r) : a = some r := (if_pos hc).symm.trans h
theorem sw_in {α : Type} {c : Prop} {d : Decidable c} {a b : Option α} {r : α} (hc : ¬ c) (h : (@ite _ c d a b) = some r) : b = some r := (if_neg hc).symm.trans h
theorem sw_ii (x : Int32) : x + Int32.ofInt 1 = x + 1 := rfl
theorem sw_ii5 (x : Int32) : x + Int32.ofInt 5 = x + 5 := rfl
theorem sw_iim (x : Int32) : x + Int32.ofInt (-1) = x + (-1) := rfl
/-! the environment: the nest's links, the static table -/
def sw_kv (j : Nat) : Int32 := if j = 0 then 1 else if j = 1 then 3 else if j = 2 then 7 else if j = 3 then 11 else 23
def sw_ko : Nat → Value := fun j => .int (sw_kv j)
/-- how often a loop may turn -/
def sw_fu : Nat := 10000
def sw_N (U : State) : Prop := va_Nw (.methodLinkNest RX5 11 yX0_init "SwallowedInTurn") U ∧ va_Nw (.methodLinkNest RX5 37 yX3_init "SwallowedInTurn") U ∧ va_Nw (.methodLinkNest RX5 44 yX4_init "SwallowedInTurn") U ∧ va_Nw (.methodLinkNest RX0 23 yX5_isDeed "SwallowedInTurn") U ∧ va_Nw (.methodLinkNest RX0 27 yX5_doer "SwallowedInTurn") U ∧ va_Nw (.methodLinkNest RX0 34 yX5_prey "SwallowedInTurn") U ∧ va_Nw (.methodLinkNest RX1 47 yX5_doer "SwallowedInTurn") U ∧ va_Nw (.methodLinkNest RX1 50 yX5_prey "SwallowedInTurn") U
theorem sw_N.warm {s U : State} (hW : s.WarmedH U.vm) (h : sw_N s) : sw_N U := ⟨va_Nw.warmM hW h.1, va_Nw.warmM hW h.2.1, va_Nw.warmM hW h.2.2.1, va_Nw.warmM hW h.2.2.2.1, va_Nw.warmM hW h.2.2.2.2.1, va_Nw.warmM hW h.2.2.2.2.2.1, va_Nw.warmM hW h.2.2.2.2.2.2.1, va_Nw.warmM hW h.2.2.2.2.2.2.2⟩
theorem sw_N.same {u U : State} (e : u.vm = U.vm) (h : sw_N u) : sw_N U := ⟨va_Nw.same rfl e h.1, va_Nw.same rfl e h.2.1, va_Nw.same rfl e h.2.2.1, va_Nw.same rfl e h.2.2.2.1, va_Nw.same rfl e h.2.2.2.2.1, va_Nw.same rfl e h.2.2.2.2.2.1, va_Nw.same rfl e h.2.2.2.2.2.2.1, va_Nw.same rfl e h.2.2.2.2.2.2.2⟩
def sw_E (t0 : Nat) (A : Nat → Prop) (U : State) : Prop := sw_N U ∧ va_Z RX0 "KINDS_OF_ONE" "[I" (.ref t0) A U U.heap ∧ va_T .int t0 5 sw_ko A U U.heap
theorem sw_E.blind {t0 : Nat} {A : Nat → Prop} {U : State} {g : JFrame} {mk : MethodId} {a : Array Value} (h : sw_E t0 A U) : sw_E t0 A (U.calling g mk a) :=
  ⟨sw_N.same (u := U) (U := U.calling g mk a) rfl h.1, va_Z.moved (u := U) (U := U.calling g mk a) (Vm.Alike.refl U.vm) h.2.1, va_T.moved (u := U) (U := U.calling g mk a) (Vm.Alike.refl U.vm) h.2.2⟩
theorem sw_E.call {t0 : Nat} {A A1 : Nat → Prop} {s U : State} {H : Heap} {locs : List Loc} (h : sw_E t0 A s) (hS : va_S A s.heap H locs) (hU : U.heap = H) (hW : s.WarmedH U.vm) (hAB : ∀ q, A1 q → A q) : sw_E t0 A1 U := by
  subst hU
  refine ⟨h.1.warm hW, ?_, ?_⟩
  · exact ((h.2.1.kept (fun a h1 h2 => hS.2.1 a h1 h2)).moved hW.alike).narrow hAB
  · exact ((h.2.2.kept (fun a h1 h2 => hS.2.1 a h1 h2)).moved hW.alike).narrow hAB
/-! contracts: PR of a method that reads, PW of one that writes; their ends -/
def sw_PR (D : va_G) (t0 : Nat) (tys : List (ClassId × FieldType)) (av : List Value) (ws : va_W) : Array Value → State → Prop := va_Pc av (fun U => va_P D vwCl ws U.heap ∧ va_K D vwCl tys U ∧ sw_E t0 (fun _ => False) U)
theorem sw_PR_bl {D : va_G} {t0 : Nat} {tys : List (ClassId × FieldType)} {av : List Value} {ws : va_W} : FrameBlind (sw_PR D t0 tys av ws) := fun a U g mk q => by
  obtain ⟨q0, qP, qK, qE⟩ := q
  exact ⟨q0, qP, va_K.moved (u := U) (U := U.calling g mk a) (Vm.Alike.refl U.vm) qK, qE.blind⟩
theorem sw_PR_pre {D : va_G} {t0 : Nat} {tys : List (ClassId × FieldType)} {av : List Value} {wc : va_W} {s : State} {H : Heap} {locs : List Loc} {A : Nat → Prop} (hK : va_K D vwCl tys s) (hP : va_P D vwCl wc H) (hE : sw_E t0 A s) (hS : va_S A s.heap H locs) : ∀ U : State, U.heap = H → s.WarmedH U.vm → sw_PR D t0 tys av wc av.toArray U :=
  fun U hU hW => ⟨rfl, by rw [hU]; exact hP, va_K.moved hW.alike hK, hE.call hS hU hW (fun _ h => h.elim)⟩
def sw_PW (D : va_G) (t0 : Nat) (tys : List (ClassId × FieldType)) (av : List Value) (ws : va_W) (sz : Nat) : Array Value → State → Prop := va_Pc av (fun U => U.heap.size = sz ∧ va_P D vwCl ws U.heap ∧ va_K D vwCl tys U ∧ va_D (fun _ => True) ws ∧ sw_E t0 (va_A ws sz) U)
theorem sw_PW_bl {D : va_G} {t0 sz : Nat} {tys : List (ClassId × FieldType)} {av : List Value} {ws : va_W} : FrameBlind (sw_PW D t0 tys av ws sz) := fun a U g mk q => by
  obtain ⟨q0, q1, qP, qK, qD, qE⟩ := q
  exact ⟨q0, q1, qP, va_K.moved (u := U) (U := U.calling g mk a) (Vm.Alike.refl U.vm) qK, qD, qE.blind⟩
theorem sw_PW_pre {D : va_G} {t0 : Nat} {tys : List (ClassId × FieldType)} {av : List Value} {wc : va_W} {s : State} {H : Heap} {locs : List Loc} {A : Nat → Prop} (hK : va_K D vwCl tys s) (hP : va_P D vwCl wc H) (hD : va_D A wc) (hE : sw_E t0 A s) (hS : va_S A s.heap H locs) (hF : ∀ q, va_A wc H.size q → A q) : ∀ U : State, U.heap = H → s.WarmedH U.vm → sw_PW D t0 tys av wc H.size av.toArray U :=
  fun U hU hW => ⟨rfl, by rw [hU], by rw [hU]; exact hP, va_K.moved hW.alike hK, hD.weaken (fun _ _ _ _ => trivial), hE.call hS hU hW hF⟩
/-- the world behind a method that writes -/
def sw_B (D : va_G) (tys : List (ClassId × FieldType)) (ws : va_W) (A : Nat → Prop) (t : State) : Prop := va_P D vwCl ws t.heap ∧ va_K D vwCl tys t ∧ va_D A ws
theorem sw_metR {l : Launch} {y : MethodName} {ws ws' : List Cond} {rm : Room} {Qc : Array Value → State → Outcome → State → Prop} {cc : ByteArray} {maxL : Nat} {ret : Option FieldType} {D : va_G} {t0 : Nat} {tys : List (ClassId × FieldType)} {av : List Value} {wd : va_W} {lv : List (Nat × Value)}
    (hy : plainName y.cls = true) (hw : ws = Cond.code y cc maxL ret :: ws') (hlen : (lg_sl av).length ≤ maxL) (hlv : lv_args 0 av = lv)
    (body : ∀ (p : Program) (e : Env) (s : State) (m : MethodId) (below : List Frame) (meth : Method) (c : Code) (Q : State → Prop), Q = MQ below Qc av.toArray s 0 0 (fun _ => False) → p.tables.exec = Jvm.exec → c.code = cc → meth.sig.returnType = ret → (∀ w ∈ ws, w.before av.toArray s = true) → s.vm.findClass y.cls = some m.cls → meth.locks = false → c.maxLocals = maxL →
      va_P D vwCl wd s.heap → va_K D vwCl tys s → sw_E t0 (fun _ => False) s → va_S (fun _ => False) s.heap s.heap [] → ∀ ls : Array Slot, lv_has ls maxL lv → W p l e rm s m av.toArray below meth c s.heap [] 0 0 Q (F0 m 0 ls [])) :
    Met l y ws rm (sw_PR D t0 tys av wd) Qc 0 0 (fun _ => False) := by
  refine Met.ofW (cc := cc) (maxL := maxL) (ret := ret) hy hw ?_
  intro p e s m args below meth c s₁ B hml hv
  obtain ⟨rfl, hP, hK, hE⟩ := hv
  have hl := lv_entry av (n := maxL) hlen
  rw [lg_entry_eq]
  generalize (lg_sl av ++ List.replicate (maxL - (lg_sl av).length) Slot.unset).toArray = ls at hl ⊢
  subst hlv
  exact body p e s m below meth c _ rfl B.exec B.bytes B.returns (atoms_spec (ws := ws) B.pre) (findClass_of_methodNamed B.named) B.notSynchronized hml hP hK hE va_S.rf ls hl
theorem sw_metW {l : Launch} {y : MethodName} {ws ws' : List Cond} {rm : Room} {Qc : Array Value → State → Outcome → State → Prop} {cc : ByteArray} {maxL mc ms sz : Nat} {ret : Option FieldType} {D : va_G} {t0 : Nat} {tys : List (ClassId × FieldType)} {av : List Value} {wd : va_W} {lv : List (Nat × Value)}
    (hy : plainName y.cls = true) (hw : ws = Cond.code y cc maxL ret :: ws') (hlen : (lg_sl av).length ≤ maxL) (hlv : lv_args 0 av = lv)
    (body : ∀ (p : Program) (e : Env) (s : State) (m : MethodId) (below : List Frame) (meth : Method) (c : Code) (Q : State → Prop) (A : Nat → Prop), sz = s.heap.size → A = va_A wd sz → Q = MQ below Qc av.toArray s mc ms A → p.tables.exec = Jvm.exec → c.code = cc → meth.sig.returnType = ret → (∀ w ∈ ws, w.before av.toArray s = true) → s.vm.findClass y.cls = some m.cls → meth.locks = false → c.maxLocals = maxL → meth.name = y.name →
      va_P D vwCl wd s.heap → va_K D vwCl tys s → va_D A wd → sw_E t0 A s → va_S A s.heap s.heap [] → (∀ q : Nat, s.heap.size ≤ q → A q) → ∀ ls : Array Slot, lv_has ls maxL lv → W p l e rm s m av.toArray below meth c s.heap [] 0 0 Q (F0 m 0 ls [])) :
    Met l y ws rm (sw_PW D t0 tys av wd sz) Qc mc ms (va_A wd sz) := by
  refine Met.ofW (cc := cc) (maxL := maxL) (ret := ret) hy hw ?_
  intro p e s m args below meth c s₁ B hml hv
  obtain ⟨rfl, hsz, hP, hK, hD, hE⟩ := hv
  have hl := lv_entry av (n := maxL) hlen
  rw [lg_entry_eq]
  generalize (lg_sl av ++ List.replicate (maxL - (lg_sl av).length) Slot.unset).toArray = ls at hl ⊢
  subst hlv
  subst hsz
  exact body p e s m below meth c _ _ rfl rfl rfl B.exec B.bytes B.returns (atoms_spec (ws := ws) B.pre) (findClass_of_methodNamed B.named) B.notSynchronized hml (name_of_methodNamed B.named B.method).1 hP hK (hD.self) hE va_S.rf (fun q h => Or.inr h) ls hl
section SWC
variable {p : Program} {l : Launch} {e : Env} {R : Room} {s : State} {m : MethodId} {args : Array Value} {below : List Frame} {meth : Method} {c : Code} {H : Heap} {locs : List Loc} {cells slots : Nat} {Q : State → Prop}
variable {pc : Nat} {ls : Array Slot} {rest st0 : List Value} {a : Array Value}
theorem sw_rd {v : Int32} (hr : CallRun p l e R s m args below meth c H locs cells slots 0 0 (F0 m pc ls st0) rest (vp_Si (fun r => r = v) a) (fun _ => False))
    (kk : W p l e R s m args below meth c H locs cells slots Q (F0 m (pc + 3) ls (.int v :: rest))) : W p l e R s m args below meth c H locs cells slots Q (F0 m pc ls st0) :=
  vp_callSi hr (fun r hr => by subst hr; exact kk)
theorem sw_cr {mc ms : Nat} {g : JFrame} {Qa : State → Outcome → State → Prop} {free : Addr → Prop} (hr : va_Run p l e R s m args below meth c H locs cells slots mc ms g rest Qa free) : CallRun p l e R s m args below meth c H locs cells slots mc ms g rest Qa free := by
  intro T hT X
  obtain ⟨v, st₀, t, T', L, h0, X', hL, e1, e2, hq, st⟩ := hr T hT X
  exact ⟨v, st₀, t, T', L, h0, X', hL, e1, hq, st⟩
variable {A0 : Nat → Prop} {H0 : Heap} {mc ms : Nat} {D : va_G} {tys : List (ClassId × FieldType)} {ws wc w1 wr wn : va_W}
theorem sw_jn (hP : va_P D vwCl ws H) (hD : va_D A0 ws) (hF : ∀ q, va_A wc H.size q → A0 q) (isC isR pm : List Nat) (hC : isC.map (fun i => ws[i]?) = wc.map some) (hR : isR.map (fun i => ws[i]?) = wr.map some) (hn : va_nd isR = true) (hdis : ∀ i ∈ isR, i ∉ isC) (hpn : va_nd pm = true) (hpm : pm.map (fun i => (wr ++ w1)[i]?) = wn.map some)
    {H1 : Heap} (hk : ∀ q : Nat, q < H.size → ¬ va_A wc H.size q → H1[q]? = H[q]?) (hP1 : va_P D vwCl w1 H1) (hD1 : va_D (va_A wc H.size) w1) : va_P D vwCl wn H1 ∧ va_D A0 wn := by
  obtain ⟨hP2, hD2⟩ := va_join (wr := wr) (w1 := w1) hP hD isC isR hC hR hn hdis hk hF hP1 hD1
  refine ⟨?_, hD2.sub pm hpn hpm⟩
  intro k q hq
  have h1 : (pm.map (fun i => (wr ++ w1)[i]?))[k]? = some (some q) := by rw [hpm, List.getElem?_map, hq]; rfl
  rw [List.getElem?_map] at h1
  cases hi : pm[k]? with
  | none => rw [hi] at h1; cases h1
  | some i => rw [hi] at h1; exact hP2 i q (Option.some.inj h1)
theorem sw_wi {v : Int32} (hr : va_Run p l e R s m args below meth c H locs cells slots mc ms (F0 m pc ls st0) rest (va_Qi (fun r (_ : Unit) => r = v) (fun _ t => sw_B D tys w1 (va_A wc H.size) t) (va_A wc H.size) a) (va_A wc H.size)) (hS : va_S A0 H0 H locs) (hP : va_P D vwCl ws H) (hD : va_D A0 ws) (hF : ∀ q, va_A wc H.size q → A0 q)
    (isC isR pm : List Nat) (hC : isC.map (fun i => ws[i]?) = wc.map some) (hR : isR.map (fun i => ws[i]?) = wr.map some) (hn : va_nd isR = true) (hdis : ∀ i ∈ isR, i ∉ isC) (hpn : va_nd pm = true) (hpm : pm.map (fun i => (wr ++ w1)[i]?) = wn.map some)
    (kk : ∀ (H1 : Heap) (locs1 : List Loc), va_P D vwCl wn H1 → va_D A0 wn → va_S A0 H0 H1 locs1 → W p l e R s m args below meth c H1 locs1 (cells + mc) (slots + ms) Q (F0 m (pc + 3) ls (.int v :: rest))) : W p l e R s m args below meth c H locs cells slots Q (F0 m pc ls st0) := by
  refine va_calli hr hS (fun q _ h => hF q h) hF (fun r u t H1 locs1 ht hvm hw hB hz hk hS => ?_)
  subst hw
  obtain ⟨hP1, hK1, hD1⟩ := hB
  rw [ht] at hP1
  obtain ⟨hP2, hD2⟩ := sw_jn hP hD hF isC isR pm hC hR hn hdis hpn hpm hk hP1 hD1
  exact kk H1 locs1 hP2 hD2 hS
theorem sw_wv (hr : va_Run p l e R s m args below meth c H locs cells slots mc ms (F0 m pc ls st0) rest (va_Qv (fun (_ : Unit) => True) (fun _ t => sw_B D tys w1 (va_A wc H.size) t) (va_A wc H.size) a) (va_A wc H.size)) (hS : va_S A0 H0 H locs) (hP : va_P D vwCl ws H) (hD : va_D A0 ws) (hF : ∀ q, va_A wc H.size q → A0 q)
    (isC isR pm : List Nat) (hC : isC.map (fun i => ws[i]?) = wc.map some) (hR : isR.map (fun i => ws[i]?) = wr.map some) (hn : va_nd isR = true) (hdis : ∀ i ∈ isR, i ∉ isC) (hpn : va_nd pm = true) (hpm : pm.map (fun i => (wr ++ w1)[i]?) = wn.map some)
    (kk : ∀ (H1 : Heap) (locs1 : List Loc), va_P D vwCl wn H1 → va_D A0 wn → va_S A0 H0 H1 locs1 → W p l e R s m args below meth c H1 locs1 (cells + mc) (slots + ms) Q (F0 m (pc + 3) ls rest)) : W p l e R s m args below meth c H locs cells slots Q (F0 m pc ls st0) := by
  refine va_callv hr hS (fun q _ h => hF q h) hF (fun u t H1 locs1 ht hvm hw hB hz hk hS => ?_)
  obtain ⟨hP1, hK1, hD1⟩ := hB
  rw [ht] at hP1
  obtain ⟨hP2, hD2⟩ := sw_jn hP hD hF isC isR pm hC hR hn hdis hpn hpm hk hP1 hD1
  exact kk H1 locs1 hP2 hD2 hS
theorem sw_wl {v : Int64} (hr : va_Run p l e R s m args below meth c H locs cells slots mc ms (F0 m pc ls st0) rest (va_Ql (fun r (_ : Unit) => r = v) (fun _ t => sw_B D tys w1 (va_A wc H.size) t) (va_A wc H.size) a) (va_A wc H.size)) (hS : va_S A0 H0 H locs) (hP : va_P D vwCl ws H) (hD : va_D A0 ws) (hF : ∀ q, va_A wc H.size q → A0 q)
    (isC isR pm : List Nat) (hC : isC.map (fun i => ws[i]?) = wc.map some) (hR : isR.map (fun i => ws[i]?) = wr.map some) (hn : va_nd isR = true) (hdis : ∀ i ∈ isR, i ∉ isC) (hpn : va_nd pm = true) (hpm : pm.map (fun i => (wr ++ w1)[i]?) = wn.map some)
    (kk : ∀ (H1 : Heap) (locs1 : List Loc), va_P D vwCl wn H1 → va_D A0 wn → va_S A0 H0 H1 locs1 → W p l e R s m args below meth c H1 locs1 (cells + mc) (slots + ms) Q (F0 m (pc + 3) ls (.long v :: rest))) : W p l e R s m args below meth c H locs cells slots Q (F0 m pc ls st0) := by
  refine va_calll hr hS (fun q _ h => hF q h) hF (fun r u t H1 locs1 ht hvm hw hB hz hk hS => ?_)
  subst hw
  obtain ⟨hP1, hK1, hD1⟩ := hB
  rw [ht] at hP1
  obtain ⟨hP2, hD2⟩ := sw_jn hP hD hF isC isR pm hC hR hn hdis hpn hpm hk hP1 hD1
  exact kk H1 locs1 hP2 hD2 hS
end SWC
/-! what is made: arrays of the known classes; constructors -/
section SWN
variable {p : Program} {l : Launch} {e : Env} {R : Room} {s : State} {m : MethodId} {args : Array Value} {below : List Frame} {meth : Method} {c : Code} {H : Heap} {locs : List Loc} {cells slots : Nat} {Q : State → Prop}
variable {pc : Nat} {ls : Array Slot} {rest st0 : List Value} {a : Array Value} {cc : ByteArray}
variable {A0 : Nat → Prop} {H0 : Heap} {mc ms : Nat} {D : va_G} {tys : List (ClassId × FieldType)} {ws wc wr : va_W} {cI cZ : ClassId}
theorem sw_newI (hexec : p.tables.exec = Jvm.exec) (hb : c.code = cc) (harr : (Cond.arrayClass .int).before args s = true) (hK : va_K D vwCl [(cI, .int), (cZ, .boolean)] s) (hP : va_P D vwCl ws H) (hD : va_D A0 ws) (hS : va_S A0 H0 H locs) (hA : ∀ q, H0.size ≤ q → A0 q)
    {n : Int32} {N : Nat} (hn : ¬ n < 0) (hN : n.toNatClampNeg = N) (hbytes : N * componentBytes .int ≤ 536870912) (hcells : cells + 1 ≤ R.cells) (hslots : slots + N ≤ R.slots) (hdg : decode cc pc = .ok (.newarray .int, 2))
    (kk : ∀ (q : Nat) (H1 : Heap), va_P D vwCl (ws ++ [(q, .inl (cI, N, .inl (fun _ => 0)))]) H1 → va_D A0 (ws ++ [(q, .inl (cI, N, .inl (fun _ => 0)))]) → va_S A0 H0 H1 locs → W p l e R s m args below meth c H1 locs (cells + 1) (slots + N) Q (F0 m (pc + 2) ls (.ref q :: rest))) : W p l e R s m args below meth c H locs cells slots Q (F0 m pc ls (.int n :: rest)) := by
  refine va_newa (atype := .int) hexec hb harr (ty := .int) rfl hK hP hD hS hA (a0 := (N, .inl (fun _ => 0))) (fun cA => by rw [vp_cell_i]; rfl) hn hN hbytes hcells hslots hdg (fun q cA H1 hK1 hP1 hD1 hS1 => ?_)
  have h1 : va_RA s cI .int := (hK1.2 0 (cI, .int) rfl).2
  have h2 : va_RA s cA .int := (hK1.2 2 (cA, .int) rfl).2
  have e0 : cA = cI := Option.some.inj (h2.symm.trans h1)
  subst e0
  exact kk q H1 hP1 hD1 hS1
theorem sw_newZ (hexec : p.tables.exec = Jvm.exec) (hb : c.code = cc) (harr : (Cond.arrayClass .boolean).before args s = true) (hK : va_K D vwCl [(cI, .int), (cZ, .boolean)] s) (hP : va_P D vwCl ws H) (hD : va_D A0 ws) (hS : va_S A0 H0 H locs) (hA : ∀ q, H0.size ≤ q → A0 q)
    {n : Int32} {N : Nat} (hn : ¬ n < 0) (hN : n.toNatClampNeg = N) (hbytes : N * componentBytes .boolean ≤ 536870912) (hcells : cells + 1 ≤ R.cells) (hslots : slots + N ≤ R.slots) (hdg : decode cc pc = .ok (.newarray .boolean, 2))
    (kk : ∀ (q : Nat) (H1 : Heap), va_P D vwCl (ws ++ [(q, .inl (cZ, N, .inl (fun _ => 0)))]) H1 → va_D A0 (ws ++ [(q, .inl (cZ, N, .inl (fun _ => 0)))]) → va_S A0 H0 H1 locs → W p l e R s m args below meth c H1 locs (cells + 1) (slots + N) Q (F0 m (pc + 2) ls (.ref q :: rest))) : W p l e R s m args below meth c H locs cells slots Q (F0 m pc ls (.int n :: rest)) := by
  refine va_newa (atype := .boolean) hexec hb harr (ty := .boolean) rfl hK hP hD hS hA (a0 := (N, .inl (fun _ => 0))) (fun cA => by rw [vp_cell_i]; rfl) hn hN hbytes hcells hslots hdg (fun q cA H1 hK1 hP1 hD1 hS1 => ?_)
  have h1 : va_RA s cZ .boolean := (hK1.2 1 (cZ, .boolean) rfl).2
  have h2 : va_RA s cA .boolean := (hK1.2 2 (cA, .boolean) rfl).2
  have e0 : cA = cZ := Option.some.inj (h2.symm.trans h1)
  subst e0
  exact kk q H1 hP1 hD1 hS1
theorem sw_wc {S : Type} {w1 : S → va_W} (hr : va_Run p l e R s m args below meth c H locs cells slots mc ms (F0 m pc ls st0) rest (va_Qv (fun (_ : S) => True) (fun u t => sw_B D tys (w1 u) (va_A wc H.size) t) (va_A wc H.size) a) (va_A wc H.size)) (hS : va_S A0 H0 H locs) (hP : va_P D vwCl ws H) (hD : va_D A0 ws) (hF : ∀ q, va_A wc H.size q → A0 q)
    (isC isR : List Nat) (hC : isC.map (fun i => ws[i]?) = wc.map some) (hR : isR.map (fun i => ws[i]?) = wr.map some) (hn : va_nd isR = true) (hdis : ∀ i ∈ isR, i ∉ isC)
    (kk : ∀ (u : S) (H1 : Heap) (locs1 : List Loc), va_P D vwCl (wr ++ w1 u) H1 → va_D A0 (wr ++ w1 u) → va_S A0 H0 H1 locs1 → W p l e R s m args below meth c H1 locs1 (cells + mc) (slots + ms) Q (F0 m (pc + 3) ls rest)) : W p l e R s m args below meth c H locs cells slots Q (F0 m pc ls st0) := by
  refine va_callv hr hS (fun q _ h => hF q h) hF (fun u t H1 locs1 ht hvm hw hB hz hk hS => ?_)
  obtain ⟨hP1, hK1, hD1⟩ := hB
  rw [ht] at hP1
  obtain ⟨hP2, hD2⟩ := va_join (wr := wr) (w1 := w1 u) hP hD isC isR hC hR hn hdis hk hF hP1 hD1
  exact kk u H1 locs1 hP2 hD2 hS
end SWN
end
section
/-! the functions that the methods are: decompiled from the bytecode by wip/whole/gen.py -/
def F_X0_total (C_total : Int32) : Option (Int32) := some (C_total)
def F_X0_all (C_total : Int32) : Option (Int32) := some ((((1 : Int32) <<< (C_total &&& 31)) - (1 : Int32)))
def F_X0_has (C_total : Int32) (l1 : Int32) : Option (Int32) := if l1 < 0 then some ((0 : Int32)) else if C_total ≤ l1 then some ((0 : Int32)) else some ((1 : Int32))
def F_X0_hasAll (C_total : Int32) (l1 : Int32) : Option (Int32) := if l1 < 0 then some ((0 : Int32)) else (F_X0_all C_total).bind (fun q1 => if q1 < l1 then some ((0 : Int32)) else some ((1 : Int32)))
def F_X5_doer (l0 : Int32) : Option (Int32) := if (25 : Int32) ≤ l0 then some ((l0 - l0 / (10 : Int32) * (10 : Int32))) else some ((l0 / (5 : Int32)))
def F_X5_isDeed (l0 : Int32) : Option (Int32) := if l0 < 0 then some ((0 : Int32)) else if l0 < (45 : Int32) then if l0 < (25 : Int32) then some ((1 : Int32)) else if l0 < (30 : Int32) then some ((0 : Int32)) else if (5 : Int32) ≤ (l0 - l0 / (10 : Int32) * (10 : Int32)) then some ((0 : Int32)) else some ((1 : Int32)) else some ((0 : Int32))
def F_X5_prey (l0 : Int32) : Option (Int32) := if (25 : Int32) ≤ l0 then (F_X5_doer l0).bind (fun q1 => some (q1)) else some ((l0 - l0 / (5 : Int32) * (5 : Int32)))
def F_X0_knows (C_total : Int32) (l1 : Int32) : Option (Int32) := (F_X5_isDeed l1).bind (fun q1 => if q1 = 0 then some ((0 : Int32)) else (F_X5_doer l1).bind (fun q2 => (F_X0_has C_total q2).bind (fun q3 => if q3 = 0 then some ((0 : Int32)) else (F_X5_prey l1).bind (fun q4 => (F_X0_has C_total q4).bind (fun q5 => if q5 = 0 then some ((0 : Int32)) else some ((1 : Int32)))))))
def F_X0_join (C_total : Int32) (C_traits : Nat → Int32) (l1 : Int32) (l2 : Int32) (l3 : Int32) (l4 : Int32) : Option (Int32 × Int32 × (Nat → Int32)) := if C_total < 0 then some ((-1 : Int32), C_total, C_traits) else if (5 : Int32) ≤ C_total then some ((-1 : Int32), C_total, C_traits) else if ((C_total * (4 : Int32)) + (3 : Int32)) < (20 : Int32) then sw_ix ((C_total * (4 : Int32)) + (0 : Int32)) 20 (sw_ix ((C_total * (4 : Int32)) + (1 : Int32)) 20 (sw_ix ((C_total * (4 : Int32)) + (2 : Int32)) 20 (sw_ix ((C_total * (4 : Int32)) + (3 : Int32)) 20 (some (((C_total + (1 : Int32)) - (1 : Int32)), (C_total + (1 : Int32)), (upd (upd (upd (upd C_traits ((C_total * (4 : Int32)) + (0 : Int32)).toNatClampNeg l1) ((C_total * (4 : Int32)) + (1 : Int32)).toNatClampNeg l2) ((C_total * (4 : Int32)) + (2 : Int32)).toNatClampNeg l3) ((C_total * (4 : Int32)) + (3 : Int32)).toNatClampNeg l4)))))) else some ((-1 : Int32), C_total, C_traits)
def F_X0_trait (C_traits : Nat → Int32) (l1 : Int32) (l2 : Int32) : Option (Int32) := if ((l1 * (4 : Int32)) + l2) < 0 then some ((0 : Int32)) else if (20 : Int32) ≤ ((l1 * (4 : Int32)) + l2) then some ((0 : Int32)) else sw_ix ((l1 * (4 : Int32)) + l2) 20 (some ((C_traits ((l1 * (4 : Int32)) + l2).toNatClampNeg)))
def F_X0_isOf (C_traits : Nat → Int32) (l1 : Int32) (l2 : Int32) : Option (Int32) := (F_X0_trait C_traits l1 (0 : Int32)).bind (fun q1 => if q1 < 0 then some ((0 : Int32)) else if q1 < (5 : Int32) then sw_ix q1 5 (if (((sw_kv q1.toNatClampNeg) >>> (l2 &&& 31)) &&& (1 : Int32)) = (1 : Int32) then some ((1 : Int32)) else some ((0 : Int32))) else some ((0 : Int32)))
def F_X1_holder (N_holders : Nat → Int32) (l1 : Int32) : Option (Int32) := if l1 < 0 then some ((-1 : Int32)) else if (5 : Int32) ≤ l1 then some ((-1 : Int32)) else sw_ix l1 5 (some ((N_holders l1.toNatClampNeg)))
def F_X1_put (N_holders : Nat → Int32) (l1 : Int32) (l2 : Int32) : Option ((Nat → Int32)) := if l1 < 0 then some (N_holders) else if (5 : Int32) ≤ l1 then some (N_holders) else sw_ix l1 5 (some ((upd N_holders l1.toNatClampNeg l2)))
def F_X1_copy_2  (O_holders : Nat → Int32) : Nat → (Nat → Int32) → Int32 → Option ((Nat → Int32))
  | 0, _, _ => none
  | fu + 1, N_holders, l2 => if (5 : Int32) ≤ l2 then some (N_holders) else (F_X1_holder O_holders l2).bind (fun q1 => sw_ix l2 5 ((F_X1_copy_2  O_holders fu) (upd N_holders l2.toNatClampNeg q1) (l2 + (1 : Int32))))
def F_X1_copy (N_holders : Nat → Int32) (O_holders : Nat → Int32) : Option ((Nat → Int32)) := F_X1_copy_2 O_holders sw_fu N_holders (0 : Int32)
def F_X1_toNumber_10  (N_holders : Nat → Int32) : Nat → Int32 → Int32 → Option (Int32)
  | 0, _, _ => none
  | fu + 1, l1, l2 => if l2 < 0 then some (l1) else sw_ix l2 5 ((F_X1_toNumber_10  N_holders fu) (((l1 * (6 : Int32)) + (N_holders l2.toNatClampNeg)) + (1 : Int32)) (l2 + (-1 : Int32)))
def F_X1_toNumber (N_holders : Nat → Int32) : Option (Int32) := F_X1_toNumber_10 N_holders sw_fu (0 : Int32) ((5 : Int32) - (1 : Int32))
def F_X1_become_4   : Nat → (Nat → Int32) → Int32 → Int32 → Option ((Nat → Int32))
  | 0, _, _, _ => none
  | fu + 1, N_holders, l2, l3 => if (5 : Int32) ≤ l3 then some (N_holders) else sw_ix l3 5 ((F_X1_become_4   fu) (upd N_holders l3.toNatClampNeg ((l2 - l2 / (6 : Int32) * (6 : Int32)) - (1 : Int32))) (l2 / (6 : Int32)) (l3 + (1 : Int32)))
def F_X1_become (N_holders : Nat → Int32) (l1 : Int32) : Option ((Nat → Int32)) := F_X1_become_4  sw_fu N_holders l1 (0 : Int32)
def F_X1_filled_4  (C_total : Int32) (C_traits : Nat → Int32) (N_holders : Nat → Int32) (l1 : Int32) : Nat → Int32 → Int32 → Option (Int32)
  | 0, _, _ => none
  | fu + 1, l2, l3 => (F_X0_total C_total).bind (fun q1 => if q1 ≤ l3 then some (l2) else (F_X1_holder N_holders l3).bind (fun q2 => if q2 = l1 then (F_X0_trait C_traits l3 (1 : Int32)).bind (fun q3 => (F_X1_filled_4  C_total C_traits N_holders l1 fu) (l2 + q3) (l3 + (1 : Int32))) else (F_X1_filled_4  C_total C_traits N_holders l1 fu) l2 (l3 + (1 : Int32))))
def F_X1_filled (C_total : Int32) (C_traits : Nat → Int32) (N_holders : Nat → Int32) (l1 : Int32) : Option (Int32) := F_X1_filled_4 C_total C_traits N_holders l1 sw_fu (0 : Int32) (0 : Int32)
def F_X1_outside_4  (C_total : Int32) (N_holders : Nat → Int32) : Nat → Int32 → Int32 → Option (Int32)
  | 0, _, _ => none
  | fu + 1, l1, l2 => (F_X0_total C_total).bind (fun q1 => if q1 ≤ l2 then some (l1) else (F_X1_holder N_holders l2).bind (fun q2 => if q2 = (-1 : Int32) then (F_X1_outside_4  C_total N_holders fu) (l1 + (1 : Int32)) (l2 + (1 : Int32)) else (F_X1_outside_4  C_total N_holders fu) l1 (l2 + (1 : Int32))))
def F_X1_outside (C_total : Int32) (N_holders : Nat → Int32) : Option (Int32) := F_X1_outside_4 C_total N_holders sw_fu (0 : Int32) (0 : Int32)
def F_X1_areOutside_2  (N_holders : Nat → Int32) (l1 : Int32) : Nat → Int32 → Option (Int32)
  | 0, _ => none
  | fu + 1, l2 => if (5 : Int32) ≤ l2 then some ((1 : Int32)) else if ((l1 >>> (l2 &&& 31)) &&& (1 : Int32)) = (1 : Int32) then sw_ix l2 5 (if (N_holders l2.toNatClampNeg) = (-1 : Int32) then (F_X1_areOutside_2  N_holders l1 fu) (l2 + (1 : Int32)) else some ((0 : Int32))) else (F_X1_areOutside_2  N_holders l1 fu) (l2 + (1 : Int32))
def F_X1_areOutside (N_holders : Nat → Int32) (l1 : Int32) : Option (Int32) := F_X1_areOutside_2 N_holders l1 sw_fu (0 : Int32)
def F_X1_walls_8  (N_holders : Nat → Int32) : Nat → Int32 → Int32 → Option (Int32)
  | 0, _, _ => none
  | fu + 1, l2, l3 => if l3 = (-1 : Int32) then some (l2) else if (5 : Int32) ≤ l2 then some (l2) else (F_X1_holder N_holders l3).bind (fun q1 => (F_X1_walls_8  N_holders fu) (l2 + (1 : Int32)) q1)
def F_X1_walls (N_holders : Nat → Int32) (l1 : Int32) : Option (Int32) := (F_X1_holder N_holders l1).bind (fun q2 => F_X1_walls_8 N_holders sw_fu (0 : Int32) q2)
def F_X1_hears_34  (N_holders : Nat → Int32) (l3 : Int32) (l4 : Int32) : Option (Int32) := if l4 = (-1 : Int32) then some ((0 : Int32)) else (F_X1_holder N_holders l4).bind (fun q1 => if q1 = l3 then some ((1 : Int32)) else some ((0 : Int32)))
def F_X1_hears (N_holders : Nat → Int32) (l1 : Int32) (l2 : Int32) : Option (Int32) := (F_X1_holder N_holders l1).bind (fun q2 => (F_X1_holder N_holders l2).bind (fun q3 => if q2 = q3 then some ((1 : Int32)) else if q2 = (-1 : Int32) then F_X1_hears_34 N_holders q2 q3 else (F_X1_holder N_holders q2).bind (fun q4 => if q4 = q3 then some ((1 : Int32)) else F_X1_hears_34 N_holders q2 q3)))
def F_X1_heardBy_4  (C_total : Int32) (N_holders : Nat → Int32) (l1 : Int32) : Nat → Int32 → Int32 → Option (Int32)
  | 0, _, _ => none
  | fu + 1, l2, l3 => (F_X0_total C_total).bind (fun q1 => if q1 ≤ l3 then some (l2) else if l3 = l1 then (F_X1_heardBy_4  C_total N_holders l1 fu) l2 (l3 + (1 : Int32)) else (F_X1_hears N_holders l1 l3).bind (fun q2 => if q2 = 0 then (F_X1_heardBy_4  C_total N_holders l1 fu) l2 (l3 + (1 : Int32)) else (F_X1_heardBy_4  C_total N_holders l1 fu) (l2 ||| ((1 : Int32) <<< (l3 &&& 31))) (l3 + (1 : Int32))))
def F_X1_heardBy (C_total : Int32) (N_holders : Nat → Int32) (l1 : Int32) : Option (Int32) := F_X1_heardBy_4 C_total N_holders l1 sw_fu (0 : Int32) (0 : Int32)
def F_X1_canSwallow_62  (C_total : Int32) (C_traits : Nat → Int32) (N_holders : Nat → Int32) (l1 : Int32) (l2 : Int32) (s0 : Int32) : Option (Int32) := if s0 = 0 then some ((0 : Int32)) else (F_X1_filled C_total C_traits N_holders l1).bind (fun q1 => (F_X0_trait C_traits l2 (1 : Int32)).bind (fun q2 => (F_X0_trait C_traits l1 (2 : Int32)).bind (fun q3 => if (q1 + q2) ≤ q3 then (F_X0_trait C_traits l2 (2 : Int32)).bind (fun q4 => if q4 = 0 then some ((1 : Int32)) else (F_X1_filled C_total C_traits N_holders l2).bind (fun q5 => if q5 = q4 then some ((0 : Int32)) else some ((1 : Int32)))) else some ((0 : Int32)))))
def F_X1_canSwallow (C_total : Int32) (C_traits : Nat → Int32) (N_holders : Nat → Int32) (l1 : Int32) (l2 : Int32) : Option (Int32) := if l1 = l2 then some ((0 : Int32)) else (F_X1_holder N_holders l1).bind (fun q6 => (F_X1_holder N_holders l2).bind (fun q7 => if q6 = q7 then (F_X0_isOf C_traits l1 (1 : Int32)).bind (fun q8 => if q8 = 0 then some ((0 : Int32)) else (F_X0_trait C_traits l1 (3 : Int32)).bind (fun q9 => (F_X0_trait C_traits l2 (0 : Int32)).bind (fun q10 => if ((q9 >>> (q10 &&& 31)) &&& (1 : Int32)) = (1 : Int32) then F_X1_canSwallow_62 C_total C_traits N_holders l1 l2 (1 : Int32) else F_X1_canSwallow_62 C_total C_traits N_holders l1 l2 (0 : Int32)))) else some ((0 : Int32))))
def F_X1_canTake_16  (C_total : Int32) (C_traits : Nat → Int32) (l1 : Int32) (l2 : Int32) : Nat → Int32 → Int32 → Option (Int32)
  | 0, _, _ => none
  | fu + 1, l3, l4 => (F_X0_total C_total).bind (fun q1 => if q1 ≤ l4 then (F_X0_trait C_traits l1 (2 : Int32)).bind (fun q2 => if q2 < l3 then some ((0 : Int32)) else some ((1 : Int32))) else if ((l2 >>> (l4 &&& 31)) &&& (1 : Int32)) = (1 : Int32) then (F_X0_trait C_traits l4 (1 : Int32)).bind (fun q3 => (F_X1_canTake_16  C_total C_traits l1 l2 fu) (l3 + q3) (l4 + (1 : Int32))) else (F_X1_canTake_16  C_total C_traits l1 l2 fu) l3 (l4 + (1 : Int32)))
def F_X1_canTake (C_total : Int32) (C_traits : Nat → Int32) (N_holders : Nat → Int32) (l1 : Int32) (l2 : Int32) : Option (Int32) := if l1 = (-1 : Int32) then some ((1 : Int32)) else (F_X1_filled C_total C_traits N_holders l1).bind (fun q4 => F_X1_canTake_16 C_total C_traits l1 l2 sw_fu q4 (0 : Int32))
def F_X1_comingOut_76  (N_holders : Nat → Int32) (l2 : Int32) : Nat → Int32 → Int32 → Int32 → Option (Int32)
  | 0, _, _, _ => none
  | fu + 1, l4, l5, l6 => if l6 < 0 then some (l5) else if l4 ≤ 0 then some (l5) else (F_X1_holder N_holders l6).bind (fun q1 => if q1 = l2 then (F_X1_comingOut_76  N_holders l2 fu) (l4 + (-1 : Int32)) (l5 ||| ((1 : Int32) <<< (l6 &&& 31))) (l6 + (-1 : Int32)) else (F_X1_comingOut_76  N_holders l2 fu) l4 l5 (l6 + (-1 : Int32)))
def F_X1_comingOut_60  (C_total : Int32) (N_holders : Nat → Int32) (l2 : Int32) (s0 : Int32) : Option (Int32) := (F_X0_total C_total).bind (fun q2 => F_X1_comingOut_76 N_holders l2 sw_fu s0 (0 : Int32) (q2 - (1 : Int32)))
def F_X1_comingOut_35  (C_total : Int32) (C_traits : Nat → Int32) (N_holders : Nat → Int32) (l2 : Int32) (l3 : Int32) : Option (Int32) := if l3 = 0 then (F_X0_isOf C_traits l2 (3 : Int32)).bind (fun q3 => if q3 = 0 then F_X1_comingOut_60 C_total N_holders l2 (1 : Int32) else F_X1_comingOut_60 C_total N_holders l2 (2 : Int32)) else F_X1_comingOut_60 C_total N_holders l2 (5 : Int32)
def F_X1_comingOut_16  (C_total : Int32) (C_traits : Nat → Int32) (N_holders : Nat → Int32) (l2 : Int32) (s0 : Int32) : Option (Int32) := if s0 = 0 then F_X1_comingOut_35 C_total C_traits N_holders l2 s0 else (F_X0_isOf C_traits l2 (2 : Int32)).bind (fun q4 => if q4 = 0 then F_X1_comingOut_35 C_total C_traits N_holders l2 s0 else some ((0 : Int32)))
def F_X1_comingOut (C_total : Int32) (C_traits : Nat → Int32) (N_holders : Nat → Int32) (l1 : Int32) : Option (Int32) := (F_X5_doer l1).bind (fun q5 => if l1 < (40 : Int32) then F_X1_comingOut_16 C_total C_traits N_holders q5 (0 : Int32) else F_X1_comingOut_16 C_total C_traits N_holders q5 (1 : Int32))
def F_X1_allows (C_total : Int32) (C_traits : Nat → Int32) (N_holders : Nat → Int32) (l1 : Int32) : Option (Int32) := (F_X0_knows C_total l1).bind (fun q1 => if q1 = 0 then some ((0 : Int32)) else (F_X5_doer l1).bind (fun q2 => if (25 : Int32) ≤ l1 then (F_X1_comingOut C_total C_traits N_holders l1).bind (fun q3 => if q3 = 0 then some ((0 : Int32)) else (F_X1_holder N_holders q2).bind (fun q4 => (F_X1_canTake C_total C_traits N_holders q4 q3).bind (fun q5 => if q5 = 0 then some ((0 : Int32)) else some ((1 : Int32))))) else (F_X5_prey l1).bind (fun q6 => (F_X1_canSwallow C_total C_traits N_holders q2 q6).bind (fun q7 => sw_zb q7 (some (q7))))))
def F_X1_carryOut_37  (l3 : Int32) (l4 : Int32) : Nat → (Nat → Int32) → Int32 → Option ((Nat → Int32))
  | 0, _, _ => none
  | fu + 1, N_holders, l5 => if (5 : Int32) ≤ l5 then some (N_holders) else if ((l3 >>> (l5 &&& 31)) &&& (1 : Int32)) = (1 : Int32) then sw_ix l5 5 ((F_X1_carryOut_37  l3 l4 fu) (upd N_holders l5.toNatClampNeg l4) (l5 + (1 : Int32))) else (F_X1_carryOut_37  l3 l4 fu) N_holders (l5 + (1 : Int32))
def F_X1_carryOut (C_total : Int32) (C_traits : Nat → Int32) (N_holders : Nat → Int32) (l1 : Int32) : Option ((Nat → Int32)) := (F_X5_doer l1).bind (fun q2 => if (25 : Int32) ≤ l1 then (F_X1_comingOut C_total C_traits N_holders l1).bind (fun q3 => (F_X1_holder N_holders q2).bind (fun q4 => F_X1_carryOut_37 q3 q4 sw_fu N_holders (0 : Int32))) else (F_X5_prey l1).bind (fun q5 => (F_X1_put N_holders q5 q2).bind (fun q6 => some (q6))))
def F_X1_choices_4  (C_total : Int32) (C_traits : Nat → Int32) (N_holders : Nat → Int32) : Nat → Int32 → Int32 → Option (Int32)
  | 0, _, _ => none
  | fu + 1, l1, l2 => if (45 : Int32) ≤ l2 then some (l1) else (F_X1_allows C_total C_traits N_holders l2).bind (fun q1 => if q1 = 0 then (F_X1_choices_4  C_total C_traits N_holders fu) l1 (l2 + (1 : Int32)) else (F_X1_choices_4  C_total C_traits N_holders fu) (l1 + (1 : Int32)) (l2 + (1 : Int32)))
def F_X1_choices (C_total : Int32) (C_traits : Nat → Int32) (N_holders : Nat → Int32) : Option (Int32) := F_X1_choices_4 C_total C_traits N_holders sw_fu (0 : Int32) (0 : Int32)
def F_X1_choiceAt_4  (C_total : Int32) (C_traits : Nat → Int32) (N_holders : Nat → Int32) (l1 : Int32) : Nat → Int32 → Int32 → Option (Int32)
  | 0, _, _ => none
  | fu + 1, l2, l3 => if (45 : Int32) ≤ l3 then some ((-1 : Int32)) else (F_X1_allows C_total C_traits N_holders l3).bind (fun q1 => if q1 = 0 then (F_X1_choiceAt_4  C_total C_traits N_holders l1 fu) l2 (l3 + (1 : Int32)) else if l2 = l1 then some (l3) else (F_X1_choiceAt_4  C_total C_traits N_holders l1 fu) (l2 + (1 : Int32)) (l3 + (1 : Int32)))
def F_X1_choiceAt (C_total : Int32) (C_traits : Nat → Int32) (N_holders : Nat → Int32) (l1 : Int32) : Option (Int32) := F_X1_choiceAt_4 C_total C_traits N_holders l1 sw_fu (0 : Int32) (0 : Int32)
def F_X2_reach (L_total : Int32) (L_reached : Nat → Int32) (L_steps : Nat → Int32) (L_firsts : Nat → Int32) (L_isReached : Nat → Int32) (l1 : Int32) (l2 : Int32) (l3 : Int32) : Option (Int32 × (Nat → Int32) × (Nat → Int32) × (Nat → Int32) × (Nat → Int32)) := if l1 < 0 then some (L_total, L_reached, L_steps, L_firsts, L_isReached) else if (7776 : Int32) ≤ l1 then some (L_total, L_reached, L_steps, L_firsts, L_isReached) else sw_ix l1 7776 (if (L_isReached l1.toNatClampNeg) = 0 then if L_total < 0 then some (L_total, L_reached, L_steps, L_firsts, L_isReached) else if (1296 : Int32) ≤ L_total then some (L_total, L_reached, L_steps, L_firsts, L_isReached) else if (1296 : Int32) ≤ L_total then some (L_total, L_reached, L_steps, L_firsts, L_isReached) else if L_total < (1296 : Int32) then sw_ix l1 7776 (sw_ix L_total 1296 (sw_ix L_total 1296 (sw_ix L_total 1296 (some ((L_total + (1 : Int32)), (upd L_reached L_total.toNatClampNeg l1), (upd L_steps L_total.toNatClampNeg l2), (upd L_firsts L_total.toNatClampNeg l3), (upd L_isReached l1.toNatClampNeg (1 : Int32))))))) else some (L_total, L_reached, L_steps, L_firsts, L_isReached) else some (L_total, L_reached, L_steps, L_firsts, L_isReached))
def F_X2_firstAt (L_firsts : Nat → Int32) (l1 : Int32) : Option (Int32) := if l1 < 0 then some ((-1 : Int32)) else if (1296 : Int32) ≤ l1 then some ((-1 : Int32)) else sw_ix l1 1296 (some ((L_firsts l1.toNatClampNeg)))
def F_X2_reachedAt (L_reached : Nat → Int32) (l1 : Int32) : Option (Int32) := if l1 < 0 then some ((0 : Int32)) else if (1296 : Int32) ≤ l1 then some ((0 : Int32)) else sw_ix l1 1296 (some ((L_reached l1.toNatClampNeg)))
def F_X2_stepsAt (L_steps : Nat → Int32) (l1 : Int32) : Option (Int32) := if l1 < 0 then some ((-1 : Int32)) else if (1296 : Int32) ≤ l1 then some ((-1 : Int32)) else sw_ix l1 1296 (some ((L_steps l1.toNatClampNeg)))
def F_X2_spread_88 (k29 : Int32 → (Nat → Int32) → (Nat → Int32) → (Nat → Int32) → (Nat → Int32) → (Nat → Int32) → Int32 → Option (Int32 × (Nat → Int32) × (Nat → Int32) × (Nat → Int32) × (Nat → Int32) × (Nat → Int32) × (Nat → Int32))) (C_total : Int32) (C_traits : Nat → Int32) (L_total : Int32) (L_reached : Nat → Int32) (L_steps : Nat → Int32) (L_firsts : Nat → Int32) (L_isReached : Nat → Int32) (E_holders : Nat → Int32) (F_holders : Nat → Int32) (l2 : Int32) (l3 : Int32) (l4 : Int32) (s1 : Int32) (s2 : Int32) (s3 : Int32) : Option (Int32 × (Nat → Int32) × (Nat → Int32) × (Nat → Int32) × (Nat → Int32) × (Nat → Int32) × (Nat → Int32)) := (F_X2_reach L_total L_reached L_steps L_firsts L_isReached s1 s2 s3).bind (fun q1 => k29 q1.1 q1.2.1 q1.2.2.1 q1.2.2.2.1 q1.2.2.2.2 F_holders (l4 + (1 : Int32)))
def F_X2_spread_29  (C_total : Int32) (C_traits : Nat → Int32) (E_holders : Nat → Int32) (l2 : Int32) (l3 : Int32) : Nat → Int32 → (Nat → Int32) → (Nat → Int32) → (Nat → Int32) → (Nat → Int32) → (Nat → Int32) → Int32 → Option (Int32 × (Nat → Int32) × (Nat → Int32) × (Nat → Int32) × (Nat → Int32) × (Nat → Int32) × (Nat → Int32))
  | 0, _, _, _, _, _, _, _ => none
  | fu + 1, L_total, L_reached, L_steps, L_firsts, L_isReached, F_holders, l4 => if (45 : Int32) ≤ l4 then some (L_total, L_reached, L_steps, L_firsts, L_isReached, E_holders, F_holders) else (F_X1_allows C_total C_traits E_holders l4).bind (fun q2 => if q2 = 0 then (F_X2_spread_29  C_total C_traits E_holders l2 l3 fu) L_total L_reached L_steps L_firsts L_isReached F_holders (l4 + (1 : Int32)) else (F_X1_copy F_holders E_holders).bind (fun q3 => (F_X1_carryOut C_total C_traits q3 l4).bind (fun q4 => (F_X1_toNumber q4).bind (fun q5 => if l3 = (-1 : Int32) then F_X2_spread_88 (F_X2_spread_29  C_total C_traits E_holders l2 l3 fu) C_total C_traits L_total L_reached L_steps L_firsts L_isReached E_holders q4 l2 l3 l4 q5 l2 l4 else F_X2_spread_88 (F_X2_spread_29  C_total C_traits E_holders l2 l3 fu) C_total C_traits L_total L_reached L_steps L_firsts L_isReached E_holders q4 l2 l3 l4 q5 l2 l3))))
def F_X2_spread (C_total : Int32) (C_traits : Nat → Int32) (L_total : Int32) (L_reached : Nat → Int32) (L_steps : Nat → Int32) (L_firsts : Nat → Int32) (L_isReached : Nat → Int32) (E_holders : Nat → Int32) (F_holders : Nat → Int32) (l1 : Int32) : Option (Int32 × (Nat → Int32) × (Nat → Int32) × (Nat → Int32) × (Nat → Int32) × (Nat → Int32) × (Nat → Int32)) := (F_X2_reachedAt L_reached l1).bind (fun q6 => (F_X1_become E_holders q6).bind (fun q7 => (F_X2_stepsAt L_steps l1).bind (fun q8 => (F_X2_firstAt L_firsts l1).bind (fun q9 => F_X2_spread_29 C_total C_traits q7 (q8 + (1 : Int32)) q9 sw_fu L_total L_reached L_steps L_firsts L_isReached F_holders (0 : Int32)))))
def F_X2_lookFrom_82  (C_total : Int32) (C_traits : Nat → Int32) (L_startNumber : Int32) (L_startTotal : Int32) : Nat → Int32 → (Nat → Int32) → (Nat → Int32) → (Nat → Int32) → (Nat → Int32) → (Nat → Int32) → (Nat → Int32) → Int32 → Option (Int32 × Int32 × Int32 × (Nat → Int32) × (Nat → Int32) × (Nat → Int32) × (Nat → Int32) × (Nat → Int32) × (Nat → Int32))
  | 0, _, _, _, _, _, _, _, _ => none
  | fu + 1, L_total, L_reached, L_steps, L_firsts, L_isReached, E_holders, F_holders, l3 => if L_total ≤ l3 then some (L_total, L_startNumber, L_startTotal, L_reached, L_steps, L_firsts, L_isReached, E_holders, F_holders) else if (1296 : Int32) ≤ l3 then some (L_total, L_startNumber, L_startTotal, L_reached, L_steps, L_firsts, L_isReached, E_holders, F_holders) else (F_X2_spread C_total C_traits L_total L_reached L_steps L_firsts L_isReached E_holders F_holders l3).bind (fun q1 => (F_X2_lookFrom_82  C_total C_traits L_startNumber L_startTotal fu) q1.1 q1.2.1 q1.2.2.1 q1.2.2.2.1 q1.2.2.2.2.1 q1.2.2.2.2.2.1 q1.2.2.2.2.2.2 (l3 + (1 : Int32)))
def F_X2_lookFrom_46  (C_total : Int32) (C_traits : Nat → Int32) (L_startNumber : Int32) (L_startTotal : Int32) (L_reached : Nat → Int32) (L_steps : Nat → Int32) (L_firsts : Nat → Int32) (E_holders : Nat → Int32) (F_holders : Nat → Int32) (l2 : Int32) : Nat → (Nat → Int32) → Int32 → Option (Int32 × Int32 × Int32 × (Nat → Int32) × (Nat → Int32) × (Nat → Int32) × (Nat → Int32) × (Nat → Int32) × (Nat → Int32))
  | 0, _, _ => none
  | fu + 1, L_isReached, l3 => if (7776 : Int32) ≤ l3 then (F_X2_reach (0 : Int32) L_reached L_steps L_firsts L_isReached l2 (0 : Int32) (-1 : Int32)).bind (fun q2 => F_X2_lookFrom_82 C_total C_traits L_startNumber L_startTotal sw_fu q2.1 q2.2.1 q2.2.2.1 q2.2.2.2.1 q2.2.2.2.2 E_holders F_holders (0 : Int32)) else sw_ix l3 7776 ((F_X2_lookFrom_46  C_total C_traits L_startNumber L_startTotal L_reached L_steps L_firsts E_holders F_holders l2 fu) (upd L_isReached l3.toNatClampNeg (0 : Int32)) (l3 + (1 : Int32)))
def F_X2_lookFrom_28  (C_total : Int32) (C_traits : Nat → Int32) (L_reached : Nat → Int32) (L_steps : Nat → Int32) (L_firsts : Nat → Int32) (L_isReached : Nat → Int32) (E_holders : Nat → Int32) (F_holders : Nat → Int32) (l2 : Int32) : Option (Int32 × Int32 × Int32 × (Nat → Int32) × (Nat → Int32) × (Nat → Int32) × (Nat → Int32) × (Nat → Int32) × (Nat → Int32)) := (F_X0_total C_total).bind (fun q4 => F_X2_lookFrom_46 C_total C_traits l2 q4 L_reached L_steps L_firsts E_holders F_holders l2 sw_fu L_isReached (0 : Int32))
def F_X2_lookFrom (C_total : Int32) (C_traits : Nat → Int32) (N_holders : Nat → Int32) (L_total : Int32) (L_startNumber : Int32) (L_startTotal : Int32) (L_reached : Nat → Int32) (L_steps : Nat → Int32) (L_firsts : Nat → Int32) (L_isReached : Nat → Int32) (E_holders : Nat → Int32) (F_holders : Nat → Int32) : Option (Int32 × Int32 × Int32 × (Nat → Int32) × (Nat → Int32) × (Nat → Int32) × (Nat → Int32) × (Nat → Int32) × (Nat → Int32)) := (F_X1_toNumber N_holders).bind (fun q5 => if q5 = L_startNumber then (F_X0_total C_total).bind (fun q6 => if q6 = L_startTotal then some (L_total, L_startNumber, L_startTotal, L_reached, L_steps, L_firsts, L_isReached, E_holders, F_holders) else F_X2_lookFrom_28 C_total C_traits L_reached L_steps L_firsts L_isReached E_holders F_holders q5) else F_X2_lookFrom_28 C_total C_traits L_reached L_steps L_firsts L_isReached E_holders F_holders q5)
def F_X2_total (L_total : Int32) : Option (Int32) := some (L_total)
def F_X2_numberAt_4  (L_isReached : Nat → Int32) (l1 : Int32) : Nat → Int32 → Int32 → Option (Int32)
  | 0, _, _ => none
  | fu + 1, l2, l3 => if (7776 : Int32) ≤ l3 then some ((-1 : Int32)) else sw_ix l3 7776 (if (L_isReached l3.toNatClampNeg) = 0 then (F_X2_numberAt_4  L_isReached l1 fu) l2 (l3 + (1 : Int32)) else if l2 = l1 then some (l3) else (F_X2_numberAt_4  L_isReached l1 fu) (l2 + (1 : Int32)) (l3 + (1 : Int32)))
def F_X2_numberAt (L_isReached : Nat → Int32) (l1 : Int32) : Option (Int32) := F_X2_numberAt_4 L_isReached l1 sw_fu (0 : Int32) (0 : Int32)
def F_X2_placeWhereOut_2  (L_total : Int32) (L_reached : Nat → Int32) (l1 : Int32) : Nat → (Nat → Int32) → Int32 → Option (Int32 × (Nat → Int32))
  | 0, _, _ => none
  | fu + 1, E_holders, l2 => if L_total ≤ l2 then some ((-1 : Int32), E_holders) else if (1296 : Int32) ≤ l2 then some ((-1 : Int32), E_holders) else sw_ix l2 1296 ((F_X1_become E_holders (L_reached l2.toNatClampNeg)).bind (fun q2 => (F_X1_areOutside q2 l1).bind (fun q3 => if q3 = 0 then (F_X2_placeWhereOut_2  L_total L_reached l1 fu) q2 (l2 + (1 : Int32)) else some (l2, q2))))
def F_X2_placeWhereOut (L_total : Int32) (L_reached : Nat → Int32) (E_holders : Nat → Int32) (l1 : Int32) : Option (Int32 × (Nat → Int32)) := F_X2_placeWhereOut_2 L_total L_reached l1 sw_fu E_holders (0 : Int32)
def F_X2_placeWhereTogether_2  (L_total : Int32) (L_reached : Nat → Int32) (l1 : Int32) (l2 : Int32) : Nat → (Nat → Int32) → Int32 → Option (Int32 × (Nat → Int32))
  | 0, _, _ => none
  | fu + 1, E_holders, l3 => if L_total ≤ l3 then some ((-1 : Int32), E_holders) else if (1296 : Int32) ≤ l3 then some ((-1 : Int32), E_holders) else sw_ix l3 1296 ((F_X1_become E_holders (L_reached l3.toNatClampNeg)).bind (fun q2 => (F_X1_holder q2 l1).bind (fun q3 => (F_X1_holder q2 l2).bind (fun q4 => if q3 = q4 then some (l3, q2) else (F_X2_placeWhereTogether_2  L_total L_reached l1 l2 fu) q2 (l3 + (1 : Int32))))))
def F_X2_placeWhereTogether (L_total : Int32) (L_reached : Nat → Int32) (E_holders : Nat → Int32) (l1 : Int32) (l2 : Int32) : Option (Int32 × (Nat → Int32)) := F_X2_placeWhereTogether_2 L_total L_reached l1 l2 sw_fu E_holders (0 : Int32)
def F_X2_mostWalls_4  (L_total : Int32) (L_reached : Nat → Int32) (l1 : Int32) : Nat → (Nat → Int32) → Int32 → Int32 → Option (Int32 × (Nat → Int32))
  | 0, _, _, _ => none
  | fu + 1, E_holders, l2, l3 => if L_total ≤ l3 then some (l2, E_holders) else if (1296 : Int32) ≤ l3 then some (l2, E_holders) else sw_ix l3 1296 ((F_X1_become E_holders (L_reached l3.toNatClampNeg)).bind (fun q2 => (F_X1_walls q2 l1).bind (fun q3 => (F_X2_mostWalls_4  L_total L_reached l1 fu) q2 (if l2 < q3 then q3 else l2) (l3 + (1 : Int32)))))
def F_X2_mostWalls (L_total : Int32) (L_reached : Nat → Int32) (E_holders : Nat → Int32) (l1 : Int32) : Option (Int32 × (Nat → Int32)) := F_X2_mostWalls_4 L_total L_reached l1 sw_fu E_holders (0 : Int32) (0 : Int32)
def F_X4_isSoIn_2  (C_total : Int32) (N_holders : Nat → Int32) (T_length : Int32) (T_tellers : Nat → Int32) (T_heard : Nat → Int32) : Nat → Int32 → Option (Int32)
  | 0, _ => none
  | fu + 1, l2 => if T_length ≤ l2 then some ((1 : Int32)) else if (4 : Int32) ≤ l2 then some ((1 : Int32)) else if (4 : Int32) ≤ l2 then some ((1 : Int32)) else sw_ix l2 4 ((F_X1_heardBy C_total N_holders (T_tellers l2.toNatClampNeg)).bind (fun q2 => sw_ix l2 4 (if q2 = (T_heard l2.toNatClampNeg) then (F_X4_isSoIn_2  C_total N_holders T_length T_tellers T_heard fu) (l2 + (1 : Int32)) else some ((0 : Int32)))))
def F_X4_isSoIn (C_total : Int32) (N_holders : Nat → Int32) (T_length : Int32) (T_tellers : Nat → Int32) (T_heard : Nat → Int32) : Option (Int32) := F_X4_isSoIn_2 C_total N_holders T_length T_tellers T_heard sw_fu (0 : Int32)
def F_X2_fitting_4  (C_total : Int32) (L_total : Int32) (L_reached : Nat → Int32) (T_length : Int32) (T_tellers : Nat → Int32) (T_heard : Nat → Int32) : Nat → (Nat → Int32) → Int32 → Int32 → Option (Int32 × (Nat → Int32))
  | 0, _, _, _ => none
  | fu + 1, E_holders, l2, l3 => if L_total ≤ l3 then some (l2, E_holders) else if (1296 : Int32) ≤ l3 then some (l2, E_holders) else sw_ix l3 1296 ((F_X1_become E_holders (L_reached l3.toNatClampNeg)).bind (fun q2 => (F_X4_isSoIn C_total q2 T_length T_tellers T_heard).bind (fun q3 => if q3 = 0 then (F_X2_fitting_4  C_total L_total L_reached T_length T_tellers T_heard fu) q2 l2 (l3 + (1 : Int32)) else (F_X2_fitting_4  C_total L_total L_reached T_length T_tellers T_heard fu) q2 (l2 + (1 : Int32)) (l3 + (1 : Int32)))))
def F_X2_fitting (C_total : Int32) (L_total : Int32) (L_reached : Nat → Int32) (E_holders : Nat → Int32) (T_length : Int32) (T_tellers : Nat → Int32) (T_heard : Nat → Int32) : Option (Int32 × (Nat → Int32)) := F_X2_fitting_4 C_total L_total L_reached T_length T_tellers T_heard sw_fu E_holders (0 : Int32) (0 : Int32)
def F_X2_sureHolder_71 (k6 : (Nat → Int32) → Int32 → Int32 → Option (Int32 × (Nat → Int32))) (C_total : Int32) (L_total : Int32) (L_reached : Nat → Int32) (E_holders : Nat → Int32) (T_length : Int32) (T_tellers : Nat → Int32) (T_heard : Nat → Int32) (l1 : Int32) (l4 : Int32) : Option (Int32 × (Nat → Int32)) := (F_X1_holder E_holders l1).bind (fun q1 => k6 E_holders q1 (l4 + (1 : Int32)))
def F_X2_sureHolder_6  (C_total : Int32) (L_total : Int32) (L_reached : Nat → Int32) (T_length : Int32) (T_tellers : Nat → Int32) (T_heard : Nat → Int32) (l1 : Int32) : Nat → (Nat → Int32) → Int32 → Int32 → Option (Int32 × (Nat → Int32))
  | 0, _, _, _ => none
  | fu + 1, E_holders, l3, l4 => if L_total ≤ l4 then some (l3, E_holders) else if (1296 : Int32) ≤ l4 then some (l3, E_holders) else sw_ix l4 1296 ((F_X1_become E_holders (L_reached l4.toNatClampNeg)).bind (fun q3 => (F_X4_isSoIn C_total q3 T_length T_tellers T_heard).bind (fun q4 => if q4 = 0 then (F_X2_sureHolder_6  C_total L_total L_reached T_length T_tellers T_heard l1 fu) q3 l3 (l4 + (1 : Int32)) else if l3 = (-2 : Int32) then F_X2_sureHolder_71 (F_X2_sureHolder_6  C_total L_total L_reached T_length T_tellers T_heard l1 fu) C_total L_total L_reached q3 T_length T_tellers T_heard l1 l4 else (F_X1_holder q3 l1).bind (fun q5 => if l3 = q5 then F_X2_sureHolder_71 (F_X2_sureHolder_6  C_total L_total L_reached T_length T_tellers T_heard l1 fu) C_total L_total L_reached q3 T_length T_tellers T_heard l1 l4 else some ((-2 : Int32), q3)))))
def F_X2_sureHolder (C_total : Int32) (L_total : Int32) (L_reached : Nat → Int32) (E_holders : Nat → Int32) (T_length : Int32) (T_tellers : Nat → Int32) (T_heard : Nat → Int32) (l1 : Int32) : Option (Int32 × (Nat → Int32)) := F_X2_sureHolder_6 C_total L_total L_reached T_length T_tellers T_heard l1 sw_fu E_holders (-2 : Int32) (0 : Int32)
def F_J7_fill_53178_5 (nA : Nat)  (l1 : Int32) (l3 : Int32) : Nat → (Nat → Int32) → Int32 → Option ((Nat → Int32))
  | 0, _, _ => none
  | fu + 1, G, l2 => if l3 ≤ l2 then some (G) else sw_ix l2 nA ((F_J7_fill_53178_5 nA l1 l3 fu) (upd G l2.toNatClampNeg l1) (l2 + (1 : Int32)))
def F_J7_fill_53178 (nA : Nat) (G : Nat → Int32) (l1 : Int32) : Option ((Nat → Int32)) := F_J7_fill_53178_5 nA l1 (Int32.ofNat nA) sw_fu G (0 : Int32)
def F_X2_mostLeft_13  (C_total : Int32) (L_total : Int32) (L_reached : Nat → Int32) (T_length : Int32) (T_tellers : Nat → Int32) (T_heard : Nat → Int32) (l1 : Int32) : Nat → (Nat → Int32) → (Nat → Int32) → Int32 → Int32 → Option (Int32 × (Nat → Int32) × (Nat → Int32))
  | 0, _, _, _, _ => none
  | fu + 1, L_answers, E_holders, l3, l4 => if L_total ≤ l4 then some (l3, L_answers, E_holders) else if (1296 : Int32) ≤ l4 then some (l3, L_answers, E_holders) else sw_ix l4 1296 ((F_X1_become E_holders (L_reached l4.toNatClampNeg)).bind (fun q2 => (F_X1_heardBy C_total q2 l1).bind (fun q3 => if q3 < 0 then (F_X2_mostLeft_13  C_total L_total L_reached T_length T_tellers T_heard l1 fu) L_answers q2 l3 (l4 + (1 : Int32)) else if (32 : Int32) ≤ q3 then (F_X2_mostLeft_13  C_total L_total L_reached T_length T_tellers T_heard l1 fu) L_answers q2 l3 (l4 + (1 : Int32)) else (F_X4_isSoIn C_total q2 T_length T_tellers T_heard).bind (fun q4 => if q4 = 0 then (F_X2_mostLeft_13  C_total L_total L_reached T_length T_tellers T_heard l1 fu) L_answers q2 l3 (l4 + (1 : Int32)) else sw_ix q3 32 (sw_ix q3 32 (sw_ix q3 32 ((F_X2_mostLeft_13  C_total L_total L_reached T_length T_tellers T_heard l1 fu) (upd L_answers q3.toNatClampNeg ((L_answers q3.toNatClampNeg) + (1 : Int32))) q2 (if l3 < ((upd L_answers q3.toNatClampNeg ((L_answers q3.toNatClampNeg) + (1 : Int32))) q3.toNatClampNeg) then ((upd L_answers q3.toNatClampNeg ((L_answers q3.toNatClampNeg) + (1 : Int32))) q3.toNatClampNeg) else l3) (l4 + (1 : Int32)))))))))
def F_X2_mostLeft (C_total : Int32) (L_total : Int32) (L_reached : Nat → Int32) (L_answers : Nat → Int32) (E_holders : Nat → Int32) (T_length : Int32) (T_tellers : Nat → Int32) (T_heard : Nat → Int32) (l1 : Int32) : Option (Int32 × (Nat → Int32) × (Nat → Int32)) := (F_J7_fill_53178 32 L_answers (0 : Int32)).bind (fun q8 => F_X2_mostLeft_13 C_total L_total L_reached T_length T_tellers T_heard l1 sw_fu q8 E_holders (0 : Int32) (0 : Int32))
def F_X2_bestAsked_7  (C_total : Int32) (L_total : Int32) (L_reached : Nat → Int32) (T_length : Int32) (T_tellers : Nat → Int32) (T_heard : Nat → Int32) : Nat → (Nat → Int32) → (Nat → Int32) → Int32 → Int32 → Int32 → Option (Int32 × (Nat → Int32) × (Nat → Int32))
  | 0, _, _, _, _, _ => none
  | fu + 1, L_answers, E_holders, l2, l3, l4 => (F_X0_total C_total).bind (fun q1 => if q1 ≤ l4 then some (l2, L_answers, E_holders) else (F_X2_mostLeft C_total L_total L_reached L_answers E_holders T_length T_tellers T_heard l4).bind (fun q2 => if q2.1 ≤ 0 then (F_X2_bestAsked_7  C_total L_total L_reached T_length T_tellers T_heard fu) q2.2.1 q2.2.2 l2 l3 (l4 + (1 : Int32)) else if l2 = (-1 : Int32) then (F_X2_bestAsked_7  C_total L_total L_reached T_length T_tellers T_heard fu) q2.2.1 q2.2.2 l4 q2.1 (l4 + (1 : Int32)) else if l3 ≤ q2.1 then (F_X2_bestAsked_7  C_total L_total L_reached T_length T_tellers T_heard fu) q2.2.1 q2.2.2 l2 l3 (l4 + (1 : Int32)) else (F_X2_bestAsked_7  C_total L_total L_reached T_length T_tellers T_heard fu) q2.2.1 q2.2.2 l4 q2.1 (l4 + (1 : Int32))))
def F_X2_bestAsked (C_total : Int32) (L_total : Int32) (L_reached : Nat → Int32) (L_answers : Nat → Int32) (E_holders : Nat → Int32) (T_length : Int32) (T_tellers : Nat → Int32) (T_heard : Nat → Int32) : Option (Int32 × (Nat → Int32) × (Nat → Int32)) := F_X2_bestAsked_7 C_total L_total L_reached T_length T_tellers T_heard sw_fu L_answers E_holders (-1 : Int32) (0 : Int32) (0 : Int32)
def F_X3_length (P_length : Int32) : Option (Int32) := some (P_length)
def F_X3_letterAt (P_letters : Nat → Int32) (l1 : Int32) : Option (Int32) := if l1 < 0 then some ((0 : Int32)) else if (40 : Int32) ≤ l1 then some ((0 : Int32)) else sw_ix l1 40 (some ((P_letters l1.toNatClampNeg)))
def F_X3_write (P_length : Int32) (P_letters : Nat → Int32) (l1 : Int32) : Option (Int32 × Int32 × (Nat → Int32)) := if P_length < 0 then some ((0 : Int32), P_length, P_letters) else if P_length < (40 : Int32) then sw_ix P_length 40 (some ((1 : Int32), (P_length + (1 : Int32)), (upd P_letters P_length.toNatClampNeg l1))) else some ((0 : Int32), P_length, P_letters)
def F_X3_clear (P_length : Int32) : Option (Int32 × Int32) := some (P_length, (0 : Int32))
def F_X3_deeds (P_read : Int32) : Option (Int32) := some (P_read)
def F_X3_deedAt (P_deeds : Nat → Int32) (l1 : Int32) : Option (Int32) := if l1 < 0 then some ((-1 : Int32)) else if (10 : Int32) ≤ l1 then some ((-1 : Int32)) else sw_ix l1 10 (some ((P_deeds l1.toNatClampNeg)))
def F_X3_isWhole (P_whole : Int32) : Option (Int32) := sw_zb P_whole (some (P_whole))
def F_X3_takeFigure (P_read : Int32) (P_begun : Int32) (P_figuresDue : Int32) (P_whole : Int32) (P_deeds : Nat → Int32) (l1 : Int32) : Option (Int32 × Int32 × Int32 × Int32 × Int32 × (Nat → Int32)) := if l1 < 0 then some ((0 : Int32), P_read, P_begun, P_figuresDue, P_whole, P_deeds) else if l1 < (5 : Int32) then if (P_figuresDue - (1 : Int32)) = 0 then if P_read < 0 then some ((1 : Int32), P_read, ((P_begun * (5 : Int32)) + l1), (P_figuresDue - (1 : Int32)), P_whole, P_deeds) else if (10 : Int32) ≤ P_read then some ((1 : Int32), P_read, ((P_begun * (5 : Int32)) + l1), (P_figuresDue - (1 : Int32)), P_whole, P_deeds) else sw_ix P_read 10 (some ((1 : Int32), (P_read + (1 : Int32)), ((P_begun * (5 : Int32)) + l1), (P_figuresDue - (1 : Int32)), (1 : Int32), (upd P_deeds P_read.toNatClampNeg ((P_begun * (5 : Int32)) + l1)))) else some ((1 : Int32), P_read, ((P_begun * (5 : Int32)) + l1), (P_figuresDue - (1 : Int32)), P_whole, P_deeds) else some ((0 : Int32), P_read, P_begun, P_figuresDue, P_whole, P_deeds)
def F_X3_takeSign (P_begun : Int32) (P_figuresDue : Int32) (l1 : Int32) : Option (Int32 × Int32 × Int32) := if l1 = (99 : Int32) then some ((1 : Int32), (6 : Int32), (1 : Int32)) else if l1 = (115 : Int32) then some ((1 : Int32), (0 : Int32), (2 : Int32)) else if l1 = (121 : Int32) then some ((1 : Int32), (8 : Int32), (1 : Int32)) else some ((0 : Int32), P_begun, P_figuresDue)
def F_X3_take (P_read : Int32) (P_begun : Int32) (P_figuresDue : Int32) (P_whole : Int32) (P_deeds : Nat → Int32) (l1 : Int32) : Option (Int32 × Int32 × Int32 × Int32 × Int32 × (Nat → Int32)) := if P_figuresDue ≤ 0 then if P_whole = 0 then (F_X3_takeSign P_begun P_figuresDue l1).bind (fun q1 => sw_zb q1.1 (some (q1.1, P_read, q1.2.1, q1.2.2, P_whole, P_deeds))) else if l1 = (44 : Int32) then if (10 : Int32) ≤ P_read then some ((0 : Int32), P_read, P_begun, P_figuresDue, (0 : Int32), P_deeds) else some ((1 : Int32), P_read, P_begun, P_figuresDue, (0 : Int32), P_deeds) else some ((0 : Int32), P_read, P_begun, P_figuresDue, (0 : Int32), P_deeds) else (F_X3_takeFigure P_read P_begun P_figuresDue P_whole P_deeds (l1 - (48 : Int32))).bind (fun q2 => sw_zb q2.1 (some (q2.1, q2.2.1, q2.2.2.1, q2.2.2.2.1, q2.2.2.2.2.1, q2.2.2.2.2.2)))
def F_X3_read_55  (P_length : Int32) (P_read : Int32) (P_begun : Int32) (P_figuresDue : Int32) (P_whole : Int32) (P_deeds : Nat → Int32) : Option (Int32 × Int32 × Int32 × Int32 × Int32 × (Nat → Int32)) := some (P_length, P_read, P_begun, P_figuresDue, P_whole, P_deeds)
def F_X3_read_17  (P_length : Int32) (P_letters : Nat → Int32) : Nat → Int32 → Int32 → Int32 → Int32 → (Nat → Int32) → Int32 → Option (Int32 × Int32 × Int32 × Int32 × Int32 × (Nat → Int32))
  | 0, _, _, _, _, _, _ => none
  | fu + 1, P_read, P_begun, P_figuresDue, P_whole, P_deeds, l1 => if P_length ≤ l1 then F_X3_read_55 P_length P_read P_begun P_figuresDue P_whole P_deeds else if (40 : Int32) ≤ l1 then F_X3_read_55 P_length P_read P_begun P_figuresDue P_whole P_deeds else sw_ix l1 40 ((F_X3_take P_read P_begun P_figuresDue P_whole P_deeds (P_letters l1.toNatClampNeg)).bind (fun q2 => if q2.1 = 0 then some (l1, q2.2.1, q2.2.2.1, q2.2.2.2.1, q2.2.2.2.2.1, q2.2.2.2.2.2) else (F_X3_read_17  P_length P_letters fu) q2.2.1 q2.2.2.1 q2.2.2.2.1 q2.2.2.2.2.1 q2.2.2.2.2.2 (l1 + (1 : Int32))))
def F_X3_read (P_length : Int32) (P_read : Int32) (P_begun : Int32) (P_figuresDue : Int32) (P_whole : Int32) (P_letters : Nat → Int32) (P_deeds : Nat → Int32) : Option (Int32 × Int32 × Int32 × Int32 × Int32 × (Nat → Int32)) := F_X3_read_17 P_length P_letters sw_fu (0 : Int32) P_begun (0 : Int32) (0 : Int32) P_deeds (0 : Int32)
def F_X4_length (T_length : Int32) : Option (Int32) := some (T_length)
def F_X4_keep (T_length : Int32) (T_tellers : Nat → Int32) (T_heard : Nat → Int32) (l1 : Int32) (l2 : Int32) : Option (Int32 × Int32 × (Nat → Int32) × (Nat → Int32)) := if T_length < 0 then some ((0 : Int32), T_length, T_tellers, T_heard) else if (4 : Int32) ≤ T_length then some ((0 : Int32), T_length, T_tellers, T_heard) else if T_length < (4 : Int32) then sw_ix T_length 4 (sw_ix T_length 4 (some ((1 : Int32), (T_length + (1 : Int32)), (upd T_tellers T_length.toNatClampNeg l1), (upd T_heard T_length.toNatClampNeg l2)))) else some ((0 : Int32), T_length, T_tellers, T_heard)
def F_X4_clear (T_length : Int32) : Option (Int32 × Int32) := some (T_length, (0 : Int32))
def F_X4_copy_76  (T_tellers : Nat → Int32) (T_heard : Nat → Int32) (U_length : Int32) : Option (Int32 × (Nat → Int32) × (Nat → Int32)) := some (U_length, T_tellers, T_heard)
def F_X4_copy_40  (T_tellers : Nat → Int32) (U_length : Int32) (U_heard : Nat → Int32) : Nat → (Nat → Int32) → Int32 → Option (Int32 × (Nat → Int32) × (Nat → Int32))
  | 0, _, _ => none
  | fu + 1, T_heard, l2 => if (4 : Int32) ≤ l2 then F_X4_copy_76 T_tellers T_heard U_length else if (4 : Int32) ≤ l2 then F_X4_copy_76 T_tellers T_heard U_length else sw_ix l2 4 (sw_ix l2 4 ((F_X4_copy_40  T_tellers U_length U_heard fu) (upd T_heard l2.toNatClampNeg (U_heard l2.toNatClampNeg)) (l2 + (1 : Int32))))
def F_X4_copy_2  (T_heard : Nat → Int32) (U_length : Int32) (U_tellers : Nat → Int32) (U_heard : Nat → Int32) : Nat → (Nat → Int32) → Int32 → Option (Int32 × (Nat → Int32) × (Nat → Int32))
  | 0, _, _ => none
  | fu + 1, T_tellers, l2 => if (4 : Int32) ≤ l2 then F_X4_copy_40 T_tellers U_length U_heard sw_fu T_heard (0 : Int32) else if (4 : Int32) ≤ l2 then F_X4_copy_40 T_tellers U_length U_heard sw_fu T_heard (0 : Int32) else sw_ix l2 4 (sw_ix l2 4 ((F_X4_copy_2  T_heard U_length U_tellers U_heard fu) (upd T_tellers l2.toNatClampNeg (U_tellers l2.toNatClampNeg)) (l2 + (1 : Int32))))
def F_X4_copy (T_length : Int32) (T_tellers : Nat → Int32) (T_heard : Nat → Int32) (U_length : Int32) (U_tellers : Nat → Int32) (U_heard : Nat → Int32) : Option (Int32 × (Nat → Int32) × (Nat → Int32)) := F_X4_copy_2 T_heard U_length U_tellers U_heard sw_fu T_tellers (0 : Int32)
def F_X5_letter (P_length : Int32) (P_letters : Nat → Int32) (l1 : Int32) : Option (Int32 × Int32 × (Nat → Int32)) := if l1 < (1 : Int32) then some ((-102 : Int32), P_length, P_letters) else if l1 ≤ (126 : Int32) then (F_X3_write P_length P_letters l1).bind (fun q1 => if q1.1 = 0 then some ((-104 : Int32), q1.2.1, q1.2.2) else (F_X3_length q1.2.1).bind (fun q2 => some (q2, q1.2.1, q1.2.2))) else some ((-102 : Int32), P_length, P_letters)
def F_X5_blank (P_length : Int32) : Option (Int32 × Int32) := (F_X3_clear P_length).bind (fun q1 => some (q1.1, q1.2))
def F_X5_fault (P_length : Int32) (P_read : Int32) (P_begun : Int32) (P_figuresDue : Int32) (P_whole : Int32) (P_letters : Nat → Int32) (P_deeds : Nat → Int32) : Option (Int32 × Int32 × Int32 × Int32 × Int32 × (Nat → Int32)) := (F_X3_read P_length P_read P_begun P_figuresDue P_whole P_letters P_deeds).bind (fun q1 => some (q1.1, q1.2.1, q1.2.2.1, q1.2.2.2.1, q1.2.2.2.2.1, q1.2.2.2.2.2))
def F_X5_tale_43  (C_total : Int32) (C_traits : Nat → Int32) (P_read : Int32) (P_begun : Int32) (P_figuresDue : Int32) (P_whole : Int32) (P_deeds : Nat → Int32) : Nat → (Nat → Int32) → Int32 → Option (Int32 × (Nat → Int32) × Int32 × Int32 × Int32 × Int32 × (Nat → Int32))
  | 0, _, _ => none
  | fu + 1, R_holders, l1 => (F_X3_deeds P_read).bind (fun q1 => if q1 ≤ l1 then some (l1, R_holders, P_read, P_begun, P_figuresDue, P_whole, P_deeds) else (F_X3_deedAt P_deeds l1).bind (fun q2 => (F_X1_allows C_total C_traits R_holders q2).bind (fun q3 => if q3 = 0 then some (l1, R_holders, P_read, P_begun, P_figuresDue, P_whole, P_deeds) else (F_X3_deedAt P_deeds l1).bind (fun q4 => (F_X1_carryOut C_total C_traits R_holders q4).bind (fun q5 => (F_X5_tale_43  C_total C_traits P_read P_begun P_figuresDue P_whole P_deeds fu) q5 (l1 + (1 : Int32)))))))
def F_X5_tale (C_total : Int32) (C_traits : Nat → Int32) (N_holders : Nat → Int32) (R_holders : Nat → Int32) (P_length : Int32) (P_read : Int32) (P_begun : Int32) (P_figuresDue : Int32) (P_whole : Int32) (P_letters : Nat → Int32) (P_deeds : Nat → Int32) : Option (Int32 × (Nat → Int32) × Int32 × Int32 × Int32 × Int32 × (Nat → Int32)) := (F_X3_read P_length P_read P_begun P_figuresDue P_whole P_letters P_deeds).bind (fun q6 => (F_X3_length P_length).bind (fun q7 => if q6.1 < q7 then some ((-103 : Int32), R_holders, q6.2.1, q6.2.2.1, q6.2.2.2.1, q6.2.2.2.2.1, q6.2.2.2.2.2) else (F_X3_isWhole q6.2.2.2.2.1).bind (fun q8 => if q8 = 0 then some ((-103 : Int32), R_holders, q6.2.1, q6.2.2.1, q6.2.2.2.1, q6.2.2.2.2.1, q6.2.2.2.2.2) else (F_X1_copy R_holders N_holders).bind (fun q9 => F_X5_tale_43 C_total C_traits q6.2.1 q6.2.2.1 q6.2.2.2.1 q6.2.2.2.2.1 q6.2.2.2.2.2 sw_fu q9 (0 : Int32)))))
def F_X5_isBetween (l0 : Int32) (l1 : Int32) (l2 : Int32) : Option (Int32) := if l0 < l1 then some ((0 : Int32)) else if l2 < l0 then some ((0 : Int32)) else some ((1 : Int32))
def F_X5_being (C_total : Int32) (C_traits : Nat → Int32) (l1 : Int32) (l2 : Int32) (l3 : Int32) (l4 : Int32) : Option (Int32 × Int32 × (Nat → Int32)) := (F_X5_isBetween l1 (0 : Int32) (4 : Int32)).bind (fun q1 => if q1 = 0 then some ((-102 : Int32), C_total, C_traits) else (F_X5_isBetween l2 (1 : Int32) (9 : Int32)).bind (fun q2 => if q2 = 0 then some ((-102 : Int32), C_total, C_traits) else (F_X5_isBetween l3 (0 : Int32) (20 : Int32)).bind (fun q3 => if q3 = 0 then some ((-102 : Int32), C_total, C_traits) else (F_X5_isBetween l4 (0 : Int32) (31 : Int32)).bind (fun q4 => if q4 = 0 then some ((-102 : Int32), C_total, C_traits) else (F_X0_join C_total C_traits l1 l2 l3 l4).bind (fun q5 => if q5.1 = (-1 : Int32) then some ((-104 : Int32), q5.2.1, q5.2.2) else some (q5.1, q5.2.1, q5.2.2))))))
def F_X5_about (C_total : Int32) (C_traits : Nat → Int32) (N_holders : Nat → Int32) (l1 : Int32) (l2 : Int32) : Option (Int32) := (F_X0_has C_total l1).bind (fun q1 => if q1 = 0 then some ((-101 : Int32)) else if l2 = (0 : Int32) then (F_X0_trait C_traits l1 (0 : Int32)).bind (fun q2 => some (q2)) else if l2 = (1 : Int32) then (F_X0_trait C_traits l1 (1 : Int32)).bind (fun q3 => some (q3)) else if l2 = (2 : Int32) then (F_X0_trait C_traits l1 (2 : Int32)).bind (fun q4 => some (q4)) else if l2 = (3 : Int32) then (F_X0_trait C_traits l1 (3 : Int32)).bind (fun q5 => some (q5)) else if l2 = (4 : Int32) then (F_X1_holder N_holders l1).bind (fun q6 => some (q6)) else if l2 = (5 : Int32) then (F_X1_filled C_total C_traits N_holders l1).bind (fun q7 => some (q7)) else if l2 = (6 : Int32) then (F_X1_walls N_holders l1).bind (fun q8 => some (q8)) else if l2 = (7 : Int32) then (F_X1_heardBy C_total N_holders l1).bind (fun q9 => some (q9)) else some ((-102 : Int32)))
def F_X5_as (C_total : Int32) (C_traits : Nat → Int32) (l1 : Int32) (l2 : Int32) : Option (Int32) := (F_X0_has C_total l1).bind (fun q1 => if q1 = 0 then some ((-101 : Int32)) else (F_X5_isBetween l2 (0 : Int32) (4 : Int32)).bind (fun q2 => if q2 = 0 then some ((-102 : Int32)) else (F_X0_isOf C_traits l1 l2).bind (fun q3 => if q3 = 0 then some ((-1 : Int32)) else some (l1))))
def F_X5_may (C_total : Int32) (C_traits : Nat → Int32) (N_holders : Nat → Int32) (l1 : Int32) : Option (Int32) := (F_X0_knows C_total l1).bind (fun q1 => if q1 = 0 then some ((-101 : Int32)) else (F_X1_allows C_total C_traits N_holders l1).bind (fun q2 => if q2 = 0 then some ((0 : Int32)) else some ((1 : Int32))))
def F_X5_deed (X_done : Int32) (C_total : Int32) (C_traits : Nat → Int32) (N_holders : Nat → Int32) (l1 : Int32) : Option (Int32 × Int32 × (Nat → Int32)) := (F_X0_knows C_total l1).bind (fun q1 => if q1 = 0 then some ((-101 : Int32), X_done, N_holders) else (F_X1_allows C_total C_traits N_holders l1).bind (fun q2 => if q2 = 0 then some ((-103 : Int32), X_done, N_holders) else (F_X1_carryOut C_total C_traits N_holders l1).bind (fun q3 => some ((X_done + (1 : Int32)), (X_done + (1 : Int32)), q3))))
def F_X5_number (N_holders : Nat → Int32) : Option (Int32) := (F_X1_toNumber N_holders).bind (fun q1 => some (q1))
def F_X5_soonest (C_total : Int32) (C_traits : Nat → Int32) (N_holders : Nat → Int32) (L_total : Int32) (L_startNumber : Int32) (L_startTotal : Int32) (L_reached : Nat → Int32) (L_steps : Nat → Int32) (L_firsts : Nat → Int32) (L_isReached : Nat → Int32) (E_holders : Nat → Int32) (F_holders : Nat → Int32) (l1 : Int32) (l2 : Int32) : Option (Int32 × Int32 × Int32 × Int32 × (Nat → Int32) × (Nat → Int32) × (Nat → Int32) × (Nat → Int32) × (Nat → Int32) × (Nat → Int32)) := (F_X0_hasAll C_total l1).bind (fun q1 => if q1 = 0 then some ((-102 : Int32), L_total, L_startNumber, L_startTotal, L_reached, L_steps, L_firsts, L_isReached, E_holders, F_holders) else (F_X5_isBetween l2 (0 : Int32) (1 : Int32)).bind (fun q2 => if q2 = 0 then some ((-102 : Int32), L_total, L_startNumber, L_startTotal, L_reached, L_steps, L_firsts, L_isReached, E_holders, F_holders) else (F_X2_lookFrom C_total C_traits N_holders L_total L_startNumber L_startTotal L_reached L_steps L_firsts L_isReached E_holders F_holders).bind (fun q3 => (F_X2_placeWhereOut q3.1 q3.2.2.2.1 q3.2.2.2.2.2.2.2.1 l1).bind (fun q4 => if l2 = 0 then (F_X2_stepsAt q3.2.2.2.2.1 q4.1).bind (fun q6 => some (q6, q3.1, q3.2.1, q3.2.2.1, q3.2.2.2.1, q3.2.2.2.2.1, q3.2.2.2.2.2.1, q3.2.2.2.2.2.2.1, q4.2, q3.2.2.2.2.2.2.2.2)) else (F_X2_firstAt q3.2.2.2.2.2.1 q4.1).bind (fun q5 => some (q5, q3.1, q3.2.1, q3.2.2.1, q3.2.2.2.1, q3.2.2.2.2.1, q3.2.2.2.2.2.1, q3.2.2.2.2.2.2.1, q4.2, q3.2.2.2.2.2.2.2.2))))))
def F_X5_together (C_total : Int32) (C_traits : Nat → Int32) (N_holders : Nat → Int32) (L_total : Int32) (L_startNumber : Int32) (L_startTotal : Int32) (L_reached : Nat → Int32) (L_steps : Nat → Int32) (L_firsts : Nat → Int32) (L_isReached : Nat → Int32) (E_holders : Nat → Int32) (F_holders : Nat → Int32) (l1 : Int32) (l2 : Int32) : Option (Int32 × Int32 × Int32 × Int32 × (Nat → Int32) × (Nat → Int32) × (Nat → Int32) × (Nat → Int32) × (Nat → Int32) × (Nat → Int32)) := (F_X0_has C_total l1).bind (fun q1 => if q1 = 0 then some ((-101 : Int32), L_total, L_startNumber, L_startTotal, L_reached, L_steps, L_firsts, L_isReached, E_holders, F_holders) else (F_X0_has C_total l2).bind (fun q2 => if q2 = 0 then some ((-101 : Int32), L_total, L_startNumber, L_startTotal, L_reached, L_steps, L_firsts, L_isReached, E_holders, F_holders) else if l1 = l2 then some ((-101 : Int32), L_total, L_startNumber, L_startTotal, L_reached, L_steps, L_firsts, L_isReached, E_holders, F_holders) else (F_X2_lookFrom C_total C_traits N_holders L_total L_startNumber L_startTotal L_reached L_steps L_firsts L_isReached E_holders F_holders).bind (fun q3 => (F_X2_placeWhereTogether q3.1 q3.2.2.2.1 q3.2.2.2.2.2.2.2.1 l1 l2).bind (fun q4 => (F_X2_stepsAt q3.2.2.2.2.1 q4.1).bind (fun q5 => some (q5, q3.1, q3.2.1, q3.2.2.1, q3.2.2.2.1, q3.2.2.2.2.1, q3.2.2.2.2.2.1, q3.2.2.2.2.2.2.1, q4.2, q3.2.2.2.2.2.2.2.2))))))
def F_X5_deep (C_total : Int32) (C_traits : Nat → Int32) (N_holders : Nat → Int32) (L_total : Int32) (L_startNumber : Int32) (L_startTotal : Int32) (L_reached : Nat → Int32) (L_steps : Nat → Int32) (L_firsts : Nat → Int32) (L_isReached : Nat → Int32) (E_holders : Nat → Int32) (F_holders : Nat → Int32) (l1 : Int32) : Option (Int32 × Int32 × Int32 × Int32 × (Nat → Int32) × (Nat → Int32) × (Nat → Int32) × (Nat → Int32) × (Nat → Int32) × (Nat → Int32)) := (F_X0_has C_total l1).bind (fun q1 => if q1 = 0 then some ((-101 : Int32), L_total, L_startNumber, L_startTotal, L_reached, L_steps, L_firsts, L_isReached, E_holders, F_holders) else (F_X2_lookFrom C_total C_traits N_holders L_total L_startNumber L_startTotal L_reached L_steps L_firsts L_isReached E_holders F_holders).bind (fun q2 => (F_X2_mostWalls q2.1 q2.2.2.2.1 q2.2.2.2.2.2.2.2.1 l1).bind (fun q3 => some (q3.1, q2.1, q2.2.1, q2.2.2.1, q2.2.2.2.1, q2.2.2.2.2.1, q2.2.2.2.2.2.1, q2.2.2.2.2.2.2.1, q3.2, q2.2.2.2.2.2.2.2.2))))
def F_X5_many (C_total : Int32) (C_traits : Nat → Int32) (N_holders : Nat → Int32) (L_total : Int32) (L_startNumber : Int32) (L_startTotal : Int32) (L_reached : Nat → Int32) (L_steps : Nat → Int32) (L_firsts : Nat → Int32) (L_isReached : Nat → Int32) (E_holders : Nat → Int32) (F_holders : Nat → Int32) : Option (Int32 × Int32 × Int32 × Int32 × (Nat → Int32) × (Nat → Int32) × (Nat → Int32) × (Nat → Int32) × (Nat → Int32) × (Nat → Int32)) := (F_X2_lookFrom C_total C_traits N_holders L_total L_startNumber L_startTotal L_reached L_steps L_firsts L_isReached E_holders F_holders).bind (fun q1 => (F_X2_total q1.1).bind (fun q2 => some (q2, q1.1, q1.2.1, q1.2.2.1, q1.2.2.2.1, q1.2.2.2.2.1, q1.2.2.2.2.2.1, q1.2.2.2.2.2.2.1, q1.2.2.2.2.2.2.2.1, q1.2.2.2.2.2.2.2.2)))
def F_X5_nesting (C_total : Int32) (C_traits : Nat → Int32) (N_holders : Nat → Int32) (L_total : Int32) (L_startNumber : Int32) (L_startTotal : Int32) (L_reached : Nat → Int32) (L_steps : Nat → Int32) (L_firsts : Nat → Int32) (L_isReached : Nat → Int32) (E_holders : Nat → Int32) (F_holders : Nat → Int32) (l1 : Int32) : Option (Int32 × Int32 × Int32 × Int32 × (Nat → Int32) × (Nat → Int32) × (Nat → Int32) × (Nat → Int32) × (Nat → Int32) × (Nat → Int32)) := (F_X2_lookFrom C_total C_traits N_holders L_total L_startNumber L_startTotal L_reached L_steps L_firsts L_isReached E_holders F_holders).bind (fun q1 => (F_X2_numberAt q1.2.2.2.2.2.2.1 l1).bind (fun q2 => if q2 = (-1 : Int32) then some ((-102 : Int32), q1.1, q1.2.1, q1.2.2.1, q1.2.2.2.1, q1.2.2.2.2.1, q1.2.2.2.2.2.1, q1.2.2.2.2.2.2.1, q1.2.2.2.2.2.2.2.1, q1.2.2.2.2.2.2.2.2) else some (q2, q1.1, q1.2.1, q1.2.2.1, q1.2.2.2.1, q1.2.2.2.2.1, q1.2.2.2.2.2.1, q1.2.2.2.2.2.2.1, q1.2.2.2.2.2.2.2.1, q1.2.2.2.2.2.2.2.2)))
def F_X5_told (C_total : Int32) (T_length : Int32) (T_tellers : Nat → Int32) (T_heard : Nat → Int32) (l1 : Int32) (l2 : Int32) : Option (Int32 × Int32 × (Nat → Int32) × (Nat → Int32)) := (F_X0_has C_total l1).bind (fun q1 => if q1 = 0 then some ((-101 : Int32), T_length, T_tellers, T_heard) else (F_X0_hasAll C_total l2).bind (fun q2 => if q2 = 0 then some ((-102 : Int32), T_length, T_tellers, T_heard) else (F_X4_keep T_length T_tellers T_heard l1 l2).bind (fun q3 => if q3.1 = 0 then some ((-104 : Int32), q3.2.1, q3.2.2.1, q3.2.2.2) else (F_X4_length q3.2.1).bind (fun q4 => some (q4, q3.2.1, q3.2.2.1, q3.2.2.2)))))
def F_X5_forget (T_length : Int32) : Option (Int32 × Int32) := (F_X4_clear T_length).bind (fun q1 => some (q1.1, q1.2))
def F_X5_fits (C_total : Int32) (C_traits : Nat → Int32) (N_holders : Nat → Int32) (L_total : Int32) (L_startNumber : Int32) (L_startTotal : Int32) (L_reached : Nat → Int32) (L_steps : Nat → Int32) (L_firsts : Nat → Int32) (L_isReached : Nat → Int32) (E_holders : Nat → Int32) (F_holders : Nat → Int32) (T_length : Int32) (T_tellers : Nat → Int32) (T_heard : Nat → Int32) : Option (Int32 × Int32 × Int32 × Int32 × (Nat → Int32) × (Nat → Int32) × (Nat → Int32) × (Nat → Int32) × (Nat → Int32) × (Nat → Int32)) := (F_X2_lookFrom C_total C_traits N_holders L_total L_startNumber L_startTotal L_reached L_steps L_firsts L_isReached E_holders F_holders).bind (fun q1 => (F_X2_fitting C_total q1.1 q1.2.2.2.1 q1.2.2.2.2.2.2.2.1 T_length T_tellers T_heard).bind (fun q2 => some (q2.1, q1.1, q1.2.1, q1.2.2.1, q1.2.2.2.1, q1.2.2.2.2.1, q1.2.2.2.2.2.1, q1.2.2.2.2.2.2.1, q2.2, q1.2.2.2.2.2.2.2.2)))
def F_X5_sure (C_total : Int32) (C_traits : Nat → Int32) (N_holders : Nat → Int32) (L_total : Int32) (L_startNumber : Int32) (L_startTotal : Int32) (L_reached : Nat → Int32) (L_steps : Nat → Int32) (L_firsts : Nat → Int32) (L_isReached : Nat → Int32) (E_holders : Nat → Int32) (F_holders : Nat → Int32) (T_length : Int32) (T_tellers : Nat → Int32) (T_heard : Nat → Int32) (l1 : Int32) : Option (Int32 × Int32 × Int32 × Int32 × (Nat → Int32) × (Nat → Int32) × (Nat → Int32) × (Nat → Int32) × (Nat → Int32) × (Nat → Int32)) := (F_X0_has C_total l1).bind (fun q1 => if q1 = 0 then some ((-101 : Int32), L_total, L_startNumber, L_startTotal, L_reached, L_steps, L_firsts, L_isReached, E_holders, F_holders) else (F_X2_lookFrom C_total C_traits N_holders L_total L_startNumber L_startTotal L_reached L_steps L_firsts L_isReached E_holders F_holders).bind (fun q2 => (F_X2_sureHolder C_total q2.1 q2.2.2.2.1 q2.2.2.2.2.2.2.2.1 T_length T_tellers T_heard l1).bind (fun q3 => some (q3.1, q2.1, q2.2.1, q2.2.2.1, q2.2.2.2.1, q2.2.2.2.2.1, q2.2.2.2.2.2.1, q2.2.2.2.2.2.2.1, q3.2, q2.2.2.2.2.2.2.2.2))))
def F_X5_ask (C_total : Int32) (C_traits : Nat → Int32) (N_holders : Nat → Int32) (L_total : Int32) (L_startNumber : Int32) (L_startTotal : Int32) (L_reached : Nat → Int32) (L_steps : Nat → Int32) (L_firsts : Nat → Int32) (L_isReached : Nat → Int32) (L_answers : Nat → Int32) (E_holders : Nat → Int32) (F_holders : Nat → Int32) (T_length : Int32) (T_tellers : Nat → Int32) (T_heard : Nat → Int32) : Option (Int32 × Int32 × Int32 × Int32 × (Nat → Int32) × (Nat → Int32) × (Nat → Int32) × (Nat → Int32) × (Nat → Int32) × (Nat → Int32) × (Nat → Int32)) := (F_X2_lookFrom C_total C_traits N_holders L_total L_startNumber L_startTotal L_reached L_steps L_firsts L_isReached E_holders F_holders).bind (fun q1 => (F_X2_bestAsked C_total q1.1 q1.2.2.2.1 L_answers q1.2.2.2.2.2.2.2.1 T_length T_tellers T_heard).bind (fun q2 => some (q2.1, q1.1, q1.2.1, q1.2.2.1, q1.2.2.2.1, q1.2.2.2.2.1, q1.2.2.2.2.2.1, q1.2.2.2.2.2.2.1, q2.2.1, q2.2.2, q1.2.2.2.2.2.2.2.2)))
def F_X5_nextSeed (l0 : Int32) : Option (Int32) := some (((((1103515245 : Int64) * ((l0).toInt64)) + (12345 : Int64)) - (((1103515245 : Int64) * ((l0).toInt64)) + (12345 : Int64)) / (2147483648 : Int64) * (2147483648 : Int64)).toInt32)
def F_X5_days_107  (R_holders : Nat → Int32) (l3 : Int32) (l4 : Int32) (l5 : Int32) : Option (Int32 × (Nat → Int32)) := if l3 = 0 then (F_X1_toNumber R_holders).bind (fun q1 => some (q1, R_holders)) else if l3 = (1 : Int32) then some (l5, R_holders) else some (l4, R_holders)
def F_X5_days_52  (C_total : Int32) (C_traits : Nat → Int32) (l1 : Int32) (l3 : Int32) : Nat → (Nat → Int32) → Int32 → Int32 → Int32 → Option (Int32 × (Nat → Int32))
  | 0, _, _, _, _ => none
  | fu + 1, R_holders, l4, l5, l6 => if l1 ≤ l5 then F_X5_days_107 R_holders l3 l4 l5 else if l6 ≤ 0 then F_X5_days_107 R_holders l3 l4 l5 else (F_X5_nextSeed l4).bind (fun q2 => sw_dz l6 ((F_X1_choiceAt C_total C_traits R_holders ((q2 / (65536 : Int32)) - (q2 / (65536 : Int32)) / l6 * l6)).bind (fun q4 => (F_X1_carryOut C_total C_traits R_holders q4).bind (fun q5 => (F_X1_choices C_total C_traits q5).bind (fun q6 => (F_X5_days_52  C_total C_traits l1 l3 fu) q5 q2 (l5 + (1 : Int32)) q6)))))
def F_X5_days (C_total : Int32) (C_traits : Nat → Int32) (N_holders : Nat → Int32) (R_holders : Nat → Int32) (l1 : Int32) (l2 : Int32) (l3 : Int32) : Option (Int32 × (Nat → Int32)) := (F_X5_isBetween l1 (1 : Int32) (60 : Int32)).bind (fun q7 => if q7 = 0 then some ((-102 : Int32), R_holders) else if l2 < 0 then some ((-102 : Int32), R_holders) else (F_X5_isBetween l3 (0 : Int32) (2 : Int32)).bind (fun q8 => if q8 = 0 then some ((-102 : Int32), R_holders) else (F_X1_copy R_holders N_holders).bind (fun q9 => (F_X1_choices C_total C_traits q9).bind (fun q10 => F_X5_days_52 C_total C_traits l1 l3 sw_fu q9 l2 (0 : Int32) q10))))
def F_X5_image (X_done : Int32) (X_keptNumber : Int32) (X_keptDone : Int32) (X_keptTotal : Int32) (C_total : Int32) (N_holders : Nat → Int32) (T_length : Int32) (T_tellers : Nat → Int32) (T_heard : Nat → Int32) (K_length : Int32) (K_tellers : Nat → Int32) (K_heard : Nat → Int32) : Option (Int32 × Int32 × Int32 × Int32 × Int32 × (Nat → Int32) × (Nat → Int32)) := (F_X1_toNumber N_holders).bind (fun q1 => (F_X4_copy K_length K_tellers K_heard T_length T_tellers T_heard).bind (fun q2 => (F_X0_total C_total).bind (fun q3 => some (q1, q1, X_done, q3, q2.1, q2.2.1, q2.2.2))))
def F_X5_restore (X_done : Int32) (X_keptNumber : Int32) (X_keptDone : Int32) (X_keptTotal : Int32) (C_total : Int32) (N_holders : Nat → Int32) (T_length : Int32) (T_tellers : Nat → Int32) (T_heard : Nat → Int32) (K_length : Int32) (K_tellers : Nat → Int32) (K_heard : Nat → Int32) : Option (Int32 × Int32 × (Nat → Int32) × Int32 × (Nat → Int32) × (Nat → Int32)) := (F_X0_total C_total).bind (fun q1 => if X_keptTotal = q1 then (F_X1_become N_holders X_keptNumber).bind (fun q2 => (F_X4_copy T_length T_tellers T_heard K_length K_tellers K_heard).bind (fun q3 => some (X_keptNumber, X_keptDone, q2, q3.1, q3.2.1, q3.2.2))) else some ((-103 : Int32), X_done, N_holders, T_length, T_tellers, T_heard))
def F_X5_count (X_done : Int32) (C_total : Int32) (C_traits : Nat → Int32) (N_holders : Nat → Int32) (P_length : Int32) (T_length : Int32) (l1 : Int32) : Option (Int32) := if l1 = (0 : Int32) then (F_X0_total C_total).bind (fun q1 => some (q1)) else if l1 = (1 : Int32) then (F_X1_outside C_total N_holders).bind (fun q2 => some (q2)) else if l1 = (2 : Int32) then some (X_done) else if l1 = (3 : Int32) then (F_X4_length T_length).bind (fun q3 => some (q3)) else if l1 = (4 : Int32) then (F_X3_length P_length).bind (fun q4 => some (q4)) else if l1 = (5 : Int32) then (F_X1_choices C_total C_traits N_holders).bind (fun q5 => some (q5)) else some ((-102 : Int32))
def F_X5_digest_31 (k17 : (Nat → Int32) → Int64 → Int32 → Option (Int64 × Int32 × Int32 × Int32 × (Nat → Int32) × (Nat → Int32) × (Nat → Int32) × (Nat → Int32) × (Nat → Int32) × (Nat → Int32) × (Nat → Int32))) (X_done : Int32) (C_total : Int32) (C_traits : Nat → Int32) (N_holders : Nat → Int32) (L_total : Int32) (L_startNumber : Int32) (L_startTotal : Int32) (L_reached : Nat → Int32) (L_steps : Nat → Int32) (L_firsts : Nat → Int32) (L_isReached : Nat → Int32) (L_answers : Nat → Int32) (E_holders : Nat → Int32) (F_holders : Nat → Int32) (P_length : Int32) (P_letters : Nat → Int32) (T_length : Int32) (T_tellers : Nat → Int32) (T_heard : Nat → Int32) (l3 : Int32) : Nat → Int64 → Int32 → Option (Int64 × Int32 × Int32 × Int32 × (Nat → Int32) × (Nat → Int32) × (Nat → Int32) × (Nat → Int32) × (Nat → Int32) × (Nat → Int32) × (Nat → Int32))
  | 0, _, _ => none
  | fu + 1, l1, l4 => if (7 : Int32) < l4 then (F_X2_mostWalls L_total L_reached E_holders l3).bind (fun q1 => k17 q1.2 (((31 : Int64) * l1) + q1.1.toInt64) (l3 + (1 : Int32))) else (F_X5_about C_total C_traits N_holders l3 l4).bind (fun q2 => (F_X5_digest_31  k17 X_done C_total C_traits N_holders L_total L_startNumber L_startTotal L_reached L_steps L_firsts L_isReached L_answers E_holders F_holders P_length P_letters T_length T_tellers T_heard l3 fu) (((31 : Int64) * l1) + ((q2).toInt64)) (l4 + (1 : Int32)))
def F_X5_digest_237  (X_done : Int32) (C_total : Int32) (C_traits : Nat → Int32) (N_holders : Nat → Int32) (L_total : Int32) (L_startNumber : Int32) (L_startTotal : Int32) (L_reached : Nat → Int32) (L_steps : Nat → Int32) (L_firsts : Nat → Int32) (L_isReached : Nat → Int32) (L_answers : Nat → Int32) (E_holders : Nat → Int32) (F_holders : Nat → Int32) (P_length : Int32) (T_length : Int32) : Nat → Int64 → Int32 → Option (Int64 × Int32 × Int32 × Int32 × (Nat → Int32) × (Nat → Int32) × (Nat → Int32) × (Nat → Int32) × (Nat → Int32) × (Nat → Int32) × (Nat → Int32))
  | 0, _, _ => none
  | fu + 1, l1, l4 => if (5 : Int32) < l4 then some (l1, L_total, L_startNumber, L_startTotal, L_reached, L_steps, L_firsts, L_isReached, L_answers, E_holders, F_holders) else (F_X5_count X_done C_total C_traits N_holders P_length T_length l4).bind (fun q3 => (F_X5_digest_237  X_done C_total C_traits N_holders L_total L_startNumber L_startTotal L_reached L_steps L_firsts L_isReached L_answers E_holders F_holders P_length T_length fu) (((31 : Int64) * l1) + ((q3).toInt64)) (l4 + (1 : Int32)))
def F_X5_digest_199  (X_done : Int32) (C_total : Int32) (C_traits : Nat → Int32) (N_holders : Nat → Int32) (L_total : Int32) (L_startNumber : Int32) (L_startTotal : Int32) (L_reached : Nat → Int32) (L_steps : Nat → Int32) (L_firsts : Nat → Int32) (L_isReached : Nat → Int32) (L_answers : Nat → Int32) (E_holders : Nat → Int32) (F_holders : Nat → Int32) (P_length : Int32) (P_letters : Nat → Int32) (T_length : Int32) : Nat → Int64 → Int32 → Option (Int64 × Int32 × Int32 × Int32 × (Nat → Int32) × (Nat → Int32) × (Nat → Int32) × (Nat → Int32) × (Nat → Int32) × (Nat → Int32) × (Nat → Int32))
  | 0, _, _ => none
  | fu + 1, l1, l4 => (F_X3_length P_length).bind (fun q4 => if q4 ≤ l4 then F_X5_digest_237 X_done C_total C_traits N_holders L_total L_startNumber L_startTotal L_reached L_steps L_firsts L_isReached L_answers E_holders F_holders P_length T_length sw_fu l1 (0 : Int32) else (F_X3_letterAt P_letters l4).bind (fun q5 => (F_X5_digest_199  X_done C_total C_traits N_holders L_total L_startNumber L_startTotal L_reached L_steps L_firsts L_isReached L_answers E_holders F_holders P_length P_letters T_length fu) (((31 : Int64) * l1) + ((q5).toInt64)) (l4 + (1 : Int32))))
def F_X5_digest_17  (X_done : Int32) (C_total : Int32) (C_traits : Nat → Int32) (N_holders : Nat → Int32) (L_total : Int32) (L_startNumber : Int32) (L_startTotal : Int32) (L_reached : Nat → Int32) (L_steps : Nat → Int32) (L_firsts : Nat → Int32) (L_isReached : Nat → Int32) (L_answers : Nat → Int32) (F_holders : Nat → Int32) (P_length : Int32) (P_letters : Nat → Int32) (T_length : Int32) (T_tellers : Nat → Int32) (T_heard : Nat → Int32) : Nat → (Nat → Int32) → Int64 → Int32 → Option (Int64 × Int32 × Int32 × Int32 × (Nat → Int32) × (Nat → Int32) × (Nat → Int32) × (Nat → Int32) × (Nat → Int32) × (Nat → Int32) × (Nat → Int32))
  | 0, _, _, _ => none
  | fu + 1, E_holders, l1, l3 => (F_X0_total C_total).bind (fun q6 => if q6 ≤ l3 then (F_X0_all C_total).bind (fun q7 => (F_X2_placeWhereOut L_total L_reached E_holders q7).bind (fun q8 => (F_X1_toNumber N_holders).bind (fun q9 => (F_X2_total L_total).bind (fun q10 => (F_X2_fitting C_total L_total L_reached q8.2 T_length T_tellers T_heard).bind (fun q11 => (F_X2_bestAsked C_total L_total L_reached L_answers q11.2 T_length T_tellers T_heard).bind (fun q12 => (F_X2_stepsAt L_steps q8.1).bind (fun q13 => (F_X2_firstAt L_firsts q8.1).bind (fun q14 => F_X5_digest_199 X_done C_total C_traits N_holders L_total L_startNumber L_startTotal L_reached L_steps L_firsts L_isReached q12.2.1 q12.2.2 F_holders P_length P_letters T_length sw_fu (((31 : Int64) * (((31 : Int64) * (((31 : Int64) * (((31 : Int64) * (((31 : Int64) * (((31 : Int64) * l1) + ((q9).toInt64))) + ((q10).toInt64))) + q11.1.toInt64)) + q12.1.toInt64)) + ((q13).toInt64))) + ((q14).toInt64)) (0 : Int32))))))))) else F_X5_digest_31 (F_X5_digest_17  X_done C_total C_traits N_holders L_total L_startNumber L_startTotal L_reached L_steps L_firsts L_isReached L_answers F_holders P_length P_letters T_length T_tellers T_heard fu) X_done C_total C_traits N_holders L_total L_startNumber L_startTotal L_reached L_steps L_firsts L_isReached L_answers E_holders F_holders P_length P_letters T_length T_tellers T_heard l3 sw_fu l1 (0 : Int32))
def F_X5_digest (X_done : Int32) (C_total : Int32) (C_traits : Nat → Int32) (N_holders : Nat → Int32) (L_total : Int32) (L_startNumber : Int32) (L_startTotal : Int32) (L_reached : Nat → Int32) (L_steps : Nat → Int32) (L_firsts : Nat → Int32) (L_isReached : Nat → Int32) (L_answers : Nat → Int32) (E_holders : Nat → Int32) (F_holders : Nat → Int32) (P_length : Int32) (P_letters : Nat → Int32) (T_length : Int32) (T_tellers : Nat → Int32) (T_heard : Nat → Int32) : Option (Int64 × Int32 × Int32 × Int32 × (Nat → Int32) × (Nat → Int32) × (Nat → Int32) × (Nat → Int32) × (Nat → Int32) × (Nat → Int32) × (Nat → Int32)) := (F_X2_lookFrom C_total C_traits N_holders L_total L_startNumber L_startTotal L_reached L_steps L_firsts L_isReached E_holders F_holders).bind (fun q15 => F_X5_digest_17 X_done C_total C_traits N_holders q15.1 q15.2.1 q15.2.2.1 q15.2.2.2.1 q15.2.2.2.2.1 q15.2.2.2.2.2.1 q15.2.2.2.2.2.2.1 L_answers q15.2.2.2.2.2.2.2.2 P_length P_letters T_length T_tellers T_heard sw_fu q15.2.2.2.2.2.2.2.1 (709 : Int64) (0 : Int32))
def F_X6_in (l0 : Int64) (l2 : Int64) (l4 : Int64) : Option (Int32) := if (lg_cmp l0 l2) < 0 then some ((0 : Int32)) else if 0 < (lg_cmp l0 l4) then some ((0 : Int32)) else some ((1 : Int32))
def F_X6_letter (M_pageMany : Int32) (M_page : Nat → Int32) (l1 : Int32) : Option (Int32 × Int32 × (Nat → Int32)) := (F_X6_in ((l1).toInt64) (1 : Int64) (126 : Int64)).bind (fun q1 => if q1 = 0 then some ((-102 : Int32), M_pageMany, M_page) else if M_pageMany = (40 : Int32) then some ((-104 : Int32), M_pageMany, M_page) else sw_ix M_pageMany 40 (some ((M_pageMany + (1 : Int32)), (M_pageMany + (1 : Int32)), (upd M_page M_pageMany.toNatClampNeg l1))))
def F_X6_blank (M_pageMany : Int32) : Option (Int32 × Int32) := some (M_pageMany, (0 : Int32))
def F_X6_goDigit_69  (M_readMany : Int32) (M_readBase : Int32) (M_state : Int32) (M_readDeeds : Nat → Int32) : Option (Int32 × Int32 × Int32 × Int32 × (Nat → Int32)) := some ((1 : Int32), M_readMany, M_readBase, (M_state + (1 : Int32)), M_readDeeds)
def F_X6_goDigit_34  (M_readMany : Int32) (M_state : Int32) (M_readDeeds : Nat → Int32) (s1 : Int32) (s2 : Int32) : Option (Int32 × Int32 × Int32 × Int32 × (Nat → Int32)) := if M_state = (2 : Int32) then sw_ix M_readMany 10 (F_X6_goDigit_69 (M_readMany + (1 : Int32)) (s1 + s2) M_state (upd M_readDeeds M_readMany.toNatClampNeg (s1 + s2))) else F_X6_goDigit_69 M_readMany (s1 + s2) M_state M_readDeeds
def F_X6_goDigit (M_readMany : Int32) (M_readBase : Int32) (M_state : Int32) (M_readDeeds : Nat → Int32) (l1 : Int32) : Option (Int32 × Int32 × Int32 × Int32 × (Nat → Int32)) := (F_X6_in ((l1).toInt64) (0 : Int64) (4 : Int64)).bind (fun q2 => if q2 = 0 then some ((0 : Int32), M_readMany, M_readBase, M_state, M_readDeeds) else if M_state = (1 : Int32) then F_X6_goDigit_34 M_readMany M_state M_readDeeds M_readBase ((5 : Int32) * l1) else F_X6_goDigit_34 M_readMany M_state M_readDeeds M_readBase l1)
def F_X6_go_46  (M_readMany : Int32) (M_readBase : Int32) (M_readDeeds : Nat → Int32) (l1 : Int32) (s1 : Int32) : Option (Int32 × Int32 × Int32 × Int32 × (Nat → Int32)) := if l1 = (115 : Int32) then some ((1 : Int32), M_readMany, M_readBase, s1, M_readDeeds) else if l1 = (99 : Int32) then some ((1 : Int32), M_readMany, M_readBase, s1, M_readDeeds) else if l1 = (121 : Int32) then some ((1 : Int32), M_readMany, M_readBase, s1, M_readDeeds) else some ((0 : Int32), M_readMany, M_readBase, s1, M_readDeeds)
def F_X6_go_31  (M_readMany : Int32) (M_readDeeds : Nat → Int32) (l1 : Int32) (s1 : Int32) : Option (Int32 × Int32 × Int32 × Int32 × (Nat → Int32)) := if l1 = (115 : Int32) then F_X6_go_46 M_readMany s1 M_readDeeds l1 (1 : Int32) else F_X6_go_46 M_readMany s1 M_readDeeds l1 (2 : Int32)
def F_X6_go (M_readMany : Int32) (M_readBase : Int32) (M_state : Int32) (M_readDeeds : Nat → Int32) (l1 : Int32) : Option (Int32 × Int32 × Int32 × Int32 × (Nat → Int32)) := if M_state = 0 then if l1 = (99 : Int32) then F_X6_go_31 M_readMany M_readDeeds l1 (30 : Int32) else if l1 = (121 : Int32) then F_X6_go_31 M_readMany M_readDeeds l1 (40 : Int32) else F_X6_go_31 M_readMany M_readDeeds l1 (0 : Int32) else if M_state = (3 : Int32) then if l1 = (44 : Int32) then if (10 : Int32) ≤ M_readMany then some ((0 : Int32), M_readMany, M_readBase, (0 : Int32), M_readDeeds) else some ((1 : Int32), M_readMany, M_readBase, (0 : Int32), M_readDeeds) else some ((0 : Int32), M_readMany, M_readBase, (0 : Int32), M_readDeeds) else (F_X6_goDigit M_readMany M_readBase M_state M_readDeeds (l1 - (48 : Int32))).bind (fun q1 => sw_zb q1.1 (some (q1.1, q1.2.1, q1.2.2.1, q1.2.2.2.1, q1.2.2.2.2)))
def F_X6_faultOf_12  (M_pageMany : Int32) (M_page : Nat → Int32) : Nat → Int32 → Int32 → Int32 → (Nat → Int32) → Int32 → Option (Int32 × Int32 × Int32 × Int32 × (Nat → Int32))
  | 0, _, _, _, _, _ => none
  | fu + 1, M_readMany, M_readBase, M_state, M_readDeeds, l1 => if M_pageMany ≤ l1 then some (l1, M_readMany, M_readBase, M_state, M_readDeeds) else sw_ix l1 40 ((F_X6_go M_readMany M_readBase M_state M_readDeeds (M_page l1.toNatClampNeg)).bind (fun q2 => if q2.1 = 0 then some (l1, q2.2.1, q2.2.2.1, q2.2.2.2.1, q2.2.2.2.2) else (F_X6_faultOf_12  M_pageMany M_page fu) q2.2.1 q2.2.2.1 q2.2.2.2.1 q2.2.2.2.2 (l1 + (1 : Int32))))
def F_X6_faultOf (M_pageMany : Int32) (M_readMany : Int32) (M_readBase : Int32) (M_state : Int32) (M_page : Nat → Int32) (M_readDeeds : Nat → Int32) : Option (Int32 × Int32 × Int32 × Int32 × (Nat → Int32)) := F_X6_faultOf_12 M_pageMany M_page sw_fu (0 : Int32) M_readBase (0 : Int32) M_readDeeds (0 : Int32)
def F_X6_fault (M_pageMany : Int32) (M_readMany : Int32) (M_readBase : Int32) (M_state : Int32) (M_page : Nat → Int32) (M_readDeeds : Nat → Int32) : Option (Int32 × Int32 × Int32 × Int32 × (Nat → Int32)) := (F_X6_faultOf M_pageMany M_readMany M_readBase M_state M_page M_readDeeds).bind (fun q1 => some (q1.1, q1.2.1, q1.2.2.1, q1.2.2.2.1, q1.2.2.2.2))
def F_X6_isBeing (M_beings : Int32) (l1 : Int32) : Option (Int32) := (F_X6_in ((l1).toInt64) (0 : Int64) ((M_beings - (1 : Int32)).toInt64)).bind (fun q1 => sw_zb q1 (some (q1)))
def F_X6_being (M_beings : Int32) (M_rows : Nat → Int32) (l1 : Int32) (l2 : Int32) (l3 : Int32) (l4 : Int32) : Option (Int32 × Int32 × (Nat → Int32)) := (F_X6_in ((l1).toInt64) (0 : Int64) (4 : Int64)).bind (fun q1 => if q1 = 0 then some ((-102 : Int32), M_beings, M_rows) else (F_X6_in ((l2).toInt64) (1 : Int64) (9 : Int64)).bind (fun q2 => if q2 = 0 then some ((-102 : Int32), M_beings, M_rows) else (F_X6_in ((l3).toInt64) (0 : Int64) (20 : Int64)).bind (fun q3 => if q3 = 0 then some ((-102 : Int32), M_beings, M_rows) else (F_X6_in ((l4).toInt64) (0 : Int64) (31 : Int64)).bind (fun q4 => if q4 = 0 then some ((-102 : Int32), M_beings, M_rows) else if M_beings = (5 : Int32) then some ((-104 : Int32), M_beings, M_rows) else sw_ix ((4 : Int32) * M_beings) 20 (sw_ix (((4 : Int32) * M_beings) + (1 : Int32)) 20 (sw_ix (((4 : Int32) * M_beings) + (2 : Int32)) 20 (sw_ix (((4 : Int32) * M_beings) + (3 : Int32)) 20 (some (((M_beings + (1 : Int32)) - (1 : Int32)), (M_beings + (1 : Int32)), (upd (upd (upd (upd M_rows ((4 : Int32) * M_beings).toNatClampNeg l1) (((4 : Int32) * M_beings) + (1 : Int32)).toNatClampNeg l2) (((4 : Int32) * M_beings) + (2 : Int32)).toNatClampNeg l3) (((4 : Int32) * M_beings) + (3 : Int32)).toNatClampNeg l4))))))))))
def F_X6_unit_4  (l0 : Int32) : Nat → Int32 → Int32 → Option (Int32)
  | 0, _, _ => none
  | fu + 1, l1, l2 => if l0 ≤ l2 then some (l1) else (F_X6_unit_4  l0 fu) (l1 * (6 : Int32)) (l2 + (1 : Int32))
def F_X6_unit (l0 : Int32) : Option (Int32) := F_X6_unit_4 l0 sw_fu (1 : Int32) (0 : Int32)
def F_X6_holder (l0 : Int32) (l1 : Int32) : Option (Int32) := (F_X6_unit l1).bind (fun q1 => sw_dz q1 (some ((((l0 / q1) - (l0 / q1) / (6 : Int32) * (6 : Int32)) - (1 : Int32)))))
def F_X6_moved (l0 : Int32) (l1 : Int32) (l2 : Int32) : Option (Int32) := (F_X6_holder l0 l1).bind (fun q1 => (F_X6_unit l1).bind (fun q2 => some ((l0 + ((l2 - q1) * q2)))))
def F_X6_filled_40 (k5 : Int32 → Int32 → Option (Int32)) (M_beings : Int32) (M_rows : Nat → Int32) (l1 : Int32) (l2 : Int32) (l4 : Int32) (s0 : Int32) (s1 : Int32) : Option (Int32) := k5 (s0 + s1) (l4 + (1 : Int32))
def F_X6_filled_5  (M_beings : Int32) (M_rows : Nat → Int32) (l1 : Int32) (l2 : Int32) : Nat → Int32 → Int32 → Option (Int32)
  | 0, _, _ => none
  | fu + 1, l3, l4 => if M_beings ≤ l4 then some (l3) else (F_X6_holder l1 l4).bind (fun q1 => if q1 = l2 then sw_ix (((4 : Int32) * l4) + (1 : Int32)) 20 (F_X6_filled_40 (F_X6_filled_5  M_beings M_rows l1 l2 fu) M_beings M_rows l1 l2 l4 l3 (M_rows (((4 : Int32) * l4) + (1 : Int32)).toNatClampNeg)) else F_X6_filled_40 (F_X6_filled_5  M_beings M_rows l1 l2 fu) M_beings M_rows l1 l2 l4 l3 (0 : Int32))
def F_X6_filled (M_beings : Int32) (M_rows : Nat → Int32) (l1 : Int32) (l2 : Int32) : Option (Int32) := F_X6_filled_5 M_beings M_rows l1 l2 sw_fu (0 : Int32) (0 : Int32)
def F_X6_swallowed_133  (l1 : Int32) (l2 : Int32) (l3 : Int32) (s0 : Int32) : Option (Int32) := if s0 = 0 then some ((-1 : Int32)) else (F_X6_moved l1 l3 l2).bind (fun q1 => some (q1))
def F_X6_swallowed_71  (M_beings : Int32) (M_rows : Nat → Int32) (l1 : Int32) (l2 : Int32) (l3 : Int32) (l5 : Int32) (s0 : Int32) : Option (Int32) := if s0 = 0 then F_X6_swallowed_133 l1 l2 l3 (0 : Int32) else (F_X6_filled M_beings M_rows l1 l2).bind (fun q2 => sw_ix (((4 : Int32) * l3) + (1 : Int32)) 20 (sw_ix (((4 : Int32) * l2) + (2 : Int32)) 20 (if (M_rows (((4 : Int32) * l2) + (2 : Int32)).toNatClampNeg) < (q2 + (M_rows (((4 : Int32) * l3) + (1 : Int32)).toNatClampNeg)) then F_X6_swallowed_133 l1 l2 l3 (0 : Int32) else sw_ix (((4 : Int32) * l3) + (2 : Int32)) 20 (if l5 = (M_rows (((4 : Int32) * l3) + (2 : Int32)).toNatClampNeg) then if l5 = 0 then F_X6_swallowed_133 l1 l2 l3 (1 : Int32) else F_X6_swallowed_133 l1 l2 l3 (0 : Int32) else F_X6_swallowed_133 l1 l2 l3 (1 : Int32)))))
def F_X6_swallowed (M_beings : Int32) (M_rows : Nat → Int32) (l1 : Int32) (l2 : Int32) (l3 : Int32) : Option (Int32) := sw_ix ((4 : Int32) * l2) 20 ((F_X6_filled M_beings M_rows l1 l3).bind (fun q7 => if (M_rows ((4 : Int32) * l2).toNatClampNeg) ≤ 0 then F_X6_swallowed_71 M_beings M_rows l1 l2 l3 q7 (0 : Int32) else if l2 = l3 then F_X6_swallowed_71 M_beings M_rows l1 l2 l3 q7 (0 : Int32) else sw_ix (((4 : Int32) * l2) + (3 : Int32)) 20 (sw_ix ((4 : Int32) * l3) 20 (if (((M_rows (((4 : Int32) * l2) + (3 : Int32)).toNatClampNeg) >>> ((M_rows ((4 : Int32) * l3).toNatClampNeg) &&& 31)) &&& (1 : Int32)) = (1 : Int32) then (F_X6_holder l1 l2).bind (fun q10 => (F_X6_holder l1 l3).bind (fun q11 => if q10 = q11 then F_X6_swallowed_71 M_beings M_rows l1 l2 l3 q7 (1 : Int32) else F_X6_swallowed_71 M_beings M_rows l1 l2 l3 q7 (0 : Int32))) else F_X6_swallowed_71 M_beings M_rows l1 l2 l3 q7 (0 : Int32)))))
def F_X6_comeOut_115  (l6 : Int32) (l7 : Int32) (s0 : Int32) : Option (Int32) := if l6 ≤ 0 then some ((-1 : Int32)) else if s0 = 0 then some ((-1 : Int32)) else some (l7)
def F_X6_comeOut_24  (M_beings : Int32) (M_rows : Nat → Int32) (l1 : Int32) (l2 : Int32) (l4 : Int32) : Nat → Int32 → Int32 → Int32 → Int32 → Option (Int32)
  | 0, _, _, _, _ => none
  | fu + 1, l5, l6, l7, l8 => if l8 < 0 then if l4 = (-1 : Int32) then F_X6_comeOut_115 l6 l7 (1 : Int32) else (F_X6_filled M_beings M_rows l1 l4).bind (fun q1 => sw_ix (((4 : Int32) * l4) + (2 : Int32)) 20 (if (M_rows (((4 : Int32) * l4) + (2 : Int32)).toNatClampNeg) < (q1 + l6) then F_X6_comeOut_115 l6 l7 (0 : Int32) else F_X6_comeOut_115 l6 l7 (1 : Int32))) else (F_X6_holder l1 l8).bind (fun q3 => if q3 = l2 then if l5 ≤ 0 then (F_X6_comeOut_24  M_beings M_rows l1 l2 l4 fu) l5 l6 l7 (l8 + (-1 : Int32)) else (F_X6_moved l7 l8 l4).bind (fun q4 => sw_ix (((4 : Int32) * l8) + (1 : Int32)) 20 ((F_X6_comeOut_24  M_beings M_rows l1 l2 l4 fu) (l5 + (-1 : Int32)) (l6 + (M_rows (((4 : Int32) * l8) + (1 : Int32)).toNatClampNeg)) q4 (l8 + (-1 : Int32)))) else (F_X6_comeOut_24  M_beings M_rows l1 l2 l4 fu) l5 l6 l7 (l8 + (-1 : Int32)))
def F_X6_comeOut (M_beings : Int32) (M_rows : Nat → Int32) (l1 : Int32) (l2 : Int32) (l3 : Int32) : Option (Int32) := (F_X6_holder l1 l2).bind (fun q6 => F_X6_comeOut_24 M_beings M_rows l1 l2 q6 sw_fu l3 (0 : Int32) l1 (M_beings - (1 : Int32)))
def F_X6_isDeed_66  (M_beings : Int32) (l1 : Int32) : Option (Int32) := (F_X6_isBeing M_beings (l1 - l1 / (10 : Int32) * (10 : Int32))).bind (fun q1 => if q1 = 0 then some ((0 : Int32)) else some ((1 : Int32)))
def F_X6_isDeed (M_beings : Int32) (l1 : Int32) : Option (Int32) := (F_X6_in ((l1).toInt64) (0 : Int64) (24 : Int64)).bind (fun q2 => if q2 = 0 then (F_X6_in ((l1).toInt64) (30 : Int64) (34 : Int64)).bind (fun q3 => if q3 = 0 then (F_X6_in ((l1).toInt64) (40 : Int64) (44 : Int64)).bind (fun q4 => if q4 = 0 then some ((0 : Int32)) else F_X6_isDeed_66 M_beings l1) else F_X6_isDeed_66 M_beings l1) else (F_X6_isBeing M_beings (l1 / (5 : Int32))).bind (fun q5 => if q5 = 0 then some ((0 : Int32)) else (F_X6_isBeing M_beings (l1 - l1 / (5 : Int32) * (5 : Int32))).bind (fun q6 => if q6 = 0 then some ((0 : Int32)) else some ((1 : Int32)))))
def F_X6_done_53  (M_beings : Int32) (M_rows : Nat → Int32) (s1 : Int32) (s2 : Int32) (s3 : Int32) : Option (Int32) := (F_X6_comeOut M_beings M_rows s1 s2 s3).bind (fun q1 => some (q1))
def F_X6_done (M_beings : Int32) (M_rows : Nat → Int32) (l1 : Int32) (l2 : Int32) : Option (Int32) := if (25 : Int32) ≤ l2 then sw_ix ((4 : Int32) * (l2 - l2 / (10 : Int32) * (10 : Int32))) 20 (if (40 : Int32) ≤ l2 then if (M_rows ((4 : Int32) * (l2 - l2 / (10 : Int32) * (10 : Int32))).toNatClampNeg) = (2 : Int32) then some ((-1 : Int32)) else if (M_rows ((4 : Int32) * (l2 - l2 / (10 : Int32) * (10 : Int32))).toNatClampNeg) = (4 : Int32) then some ((-1 : Int32)) else (F_X6_comeOut M_beings M_rows l1 (l2 - l2 / (10 : Int32) * (10 : Int32)) (5 : Int32)).bind (fun q3 => some (q3)) else if (M_rows ((4 : Int32) * (l2 - l2 / (10 : Int32) * (10 : Int32))).toNatClampNeg) = (3 : Int32) then F_X6_done_53 M_beings M_rows l1 (l2 - l2 / (10 : Int32) * (10 : Int32)) (2 : Int32) else F_X6_done_53 M_beings M_rows l1 (l2 - l2 / (10 : Int32) * (10 : Int32)) (1 : Int32)) else (F_X6_swallowed M_beings M_rows l1 (l2 / (5 : Int32)) (l2 - l2 / (5 : Int32) * (5 : Int32))).bind (fun q4 => some (q4))
def F_X6_tale_65 (k29 : Int32 → Int32 → Option (Int32 × Int32 × Int32 × Int32 × (Nat → Int32))) (M_readMany : Int32) (M_readBase : Int32) (M_state : Int32) (M_beings : Int32) (M_readDeeds : Nat → Int32) (M_rows : Nat → Int32) (l2 : Int32) (s0 : Int32) : Option (Int32 × Int32 × Int32 × Int32 × (Nat → Int32)) := if s0 = (-1 : Int32) then some (l2, M_readMany, M_readBase, M_state, M_readDeeds) else k29 s0 (l2 + (1 : Int32))
def F_X6_tale_29  (M_readMany : Int32) (M_readBase : Int32) (M_state : Int32) (M_beings : Int32) (M_readDeeds : Nat → Int32) (M_rows : Nat → Int32) : Nat → Int32 → Int32 → Option (Int32 × Int32 × Int32 × Int32 × (Nat → Int32))
  | 0, _, _ => none
  | fu + 1, l1, l2 => if M_readMany ≤ l2 then some (M_readMany, M_readMany, M_readBase, M_state, M_readDeeds) else sw_ix l2 10 ((F_X6_isDeed M_beings (M_readDeeds l2.toNatClampNeg)).bind (fun q2 => if q2 = 0 then F_X6_tale_65 (F_X6_tale_29  M_readMany M_readBase M_state M_beings M_readDeeds M_rows fu) M_readMany M_readBase M_state M_beings M_readDeeds M_rows l2 (-1 : Int32) else sw_ix l2 10 ((F_X6_done M_beings M_rows l1 (M_readDeeds l2.toNatClampNeg)).bind (fun q4 => F_X6_tale_65 (F_X6_tale_29  M_readMany M_readBase M_state M_beings M_readDeeds M_rows fu) M_readMany M_readBase M_state M_beings M_readDeeds M_rows l2 q4))))
def F_X6_tale (M_pageMany : Int32) (M_readMany : Int32) (M_readBase : Int32) (M_state : Int32) (M_beings : Int32) (M_number : Int32) (M_page : Nat → Int32) (M_readDeeds : Nat → Int32) (M_rows : Nat → Int32) : Option (Int32 × Int32 × Int32 × Int32 × (Nat → Int32)) := (F_X6_faultOf M_pageMany M_readMany M_readBase M_state M_page M_readDeeds).bind (fun q5 => if q5.1 < M_pageMany then some ((-103 : Int32), q5.2.1, q5.2.2.1, q5.2.2.2.1, q5.2.2.2.2) else if q5.2.2.2.1 = (3 : Int32) then F_X6_tale_29 q5.2.1 q5.2.2.1 q5.2.2.2.1 M_beings q5.2.2.2.2 M_rows sw_fu M_number (0 : Int32) else some ((-103 : Int32), q5.2.1, q5.2.2.1, q5.2.2.2.1, q5.2.2.2.2))
def F_X6_walls_8  (l0 : Int32) : Nat → Int32 → Int32 → Option (Int32)
  | 0, _, _ => none
  | fu + 1, l2, l3 => if l3 = (-1 : Int32) then some (l2) else (F_X6_holder l0 l3).bind (fun q1 => (F_X6_walls_8  l0 fu) (l2 + (1 : Int32)) q1)
def F_X6_walls (l0 : Int32) (l1 : Int32) : Option (Int32) := (F_X6_holder l0 l1).bind (fun q2 => F_X6_walls_8 l0 sw_fu (0 : Int32) q2)
def F_X6_hearsOne_62  (l0 : Int32) (l3 : Int32) (l4 : Int32) (s0 : Int32) : Option (Int32) := if s0 = 0 then if l4 = (-1 : Int32) then some ((0 : Int32)) else (F_X6_holder l0 l4).bind (fun q1 => if q1 = l3 then some ((1 : Int32)) else some ((0 : Int32))) else some ((1 : Int32))
def F_X6_hearsOne_35  (l0 : Int32) (l3 : Int32) (l4 : Int32) (s0 : Int32) : Option (Int32) := if s0 = 0 then if l3 = (-1 : Int32) then F_X6_hearsOne_62 l0 l3 l4 (0 : Int32) else (F_X6_holder l0 l3).bind (fun q2 => if q2 = l4 then F_X6_hearsOne_62 l0 l3 l4 (1 : Int32) else F_X6_hearsOne_62 l0 l3 l4 (0 : Int32)) else F_X6_hearsOne_62 l0 l3 l4 (1 : Int32)
def F_X6_hearsOne (l0 : Int32) (l1 : Int32) (l2 : Int32) : Option (Int32) := (F_X6_holder l0 l1).bind (fun q3 => (F_X6_holder l0 l2).bind (fun q4 => if q3 = q4 then F_X6_hearsOne_35 l0 q3 q4 (1 : Int32) else if q3 = l2 then F_X6_hearsOne_35 l0 q3 q4 (1 : Int32) else if q4 = l1 then F_X6_hearsOne_35 l0 q3 q4 (1 : Int32) else F_X6_hearsOne_35 l0 q3 q4 (0 : Int32)))
def F_X6_heardBy_39 (k5 : Int32 → Int32 → Option (Int32)) (M_beings : Int32) (l1 : Int32) (l2 : Int32) (l4 : Int32) (s0 : Int32) (s1 : Int32) : Option (Int32) := k5 (s0 ||| s1) (l4 + (1 : Int32))
def F_X6_heardBy_5  (M_beings : Int32) (l1 : Int32) (l2 : Int32) : Nat → Int32 → Int32 → Option (Int32)
  | 0, _, _ => none
  | fu + 1, l3, l4 => if M_beings ≤ l4 then some (l3) else if l4 = l2 then F_X6_heardBy_39 (F_X6_heardBy_5  M_beings l1 l2 fu) M_beings l1 l2 l4 l3 (0 : Int32) else (F_X6_hearsOne l1 l2 l4).bind (fun q1 => if q1 = 0 then F_X6_heardBy_39 (F_X6_heardBy_5  M_beings l1 l2 fu) M_beings l1 l2 l4 l3 (0 : Int32) else F_X6_heardBy_39 (F_X6_heardBy_5  M_beings l1 l2 fu) M_beings l1 l2 l4 l3 ((1 : Int32) <<< (l4 &&& 31)))
def F_X6_heardBy (M_beings : Int32) (l1 : Int32) (l2 : Int32) : Option (Int32) := F_X6_heardBy_5 M_beings l1 l2 sw_fu (0 : Int32) (0 : Int32)
def F_X6_tell (M_beings : Int32) (M_number : Int32) (M_rows : Nat → Int32) (l1 : Int32) (l2 : Int32) : Option (Int32) := if l2 = (0 : Int32) then sw_ix (((4 : Int32) * l1) + l2) 20 (some ((M_rows (((4 : Int32) * l1) + l2).toNatClampNeg))) else if l2 = (1 : Int32) then sw_ix (((4 : Int32) * l1) + l2) 20 (some ((M_rows (((4 : Int32) * l1) + l2).toNatClampNeg))) else if l2 = (2 : Int32) then sw_ix (((4 : Int32) * l1) + l2) 20 (some ((M_rows (((4 : Int32) * l1) + l2).toNatClampNeg))) else if l2 = (3 : Int32) then sw_ix (((4 : Int32) * l1) + l2) 20 (some ((M_rows (((4 : Int32) * l1) + l2).toNatClampNeg))) else if l2 = (4 : Int32) then (F_X6_holder M_number l1).bind (fun q5 => some (q5)) else if l2 = (5 : Int32) then (F_X6_filled M_beings M_rows M_number l1).bind (fun q6 => some (q6)) else if l2 = (6 : Int32) then (F_X6_walls M_number l1).bind (fun q7 => some (q7)) else if l2 = (7 : Int32) then (F_X6_heardBy M_beings M_number l1).bind (fun q8 => some (q8)) else some ((-102 : Int32))
def F_X6_about (M_beings : Int32) (M_number : Int32) (M_rows : Nat → Int32) (l1 : Int32) (l2 : Int32) : Option (Int32) := (F_X6_isBeing M_beings l1).bind (fun q1 => if q1 = 0 then some ((-101 : Int32)) else (F_X6_tell M_beings M_number M_rows l1 l2).bind (fun q2 => some (q2)))
def F_X6_as_68  (l1 : Int32) (s0 : Int32) : Option (Int32) := if s0 = 0 then some ((-1 : Int32)) else some (l1)
def F_X6_as_53  (l1 : Int32) (l2 : Int32) (l3 : Int32) : Option (Int32) := if l2 = (2 : Int32) then if l3 = (4 : Int32) then F_X6_as_68 l1 (1 : Int32) else F_X6_as_68 l1 (0 : Int32) else F_X6_as_68 l1 (0 : Int32)
def F_X6_as (M_beings : Int32) (M_rows : Nat → Int32) (l1 : Int32) (l2 : Int32) : Option (Int32) := (F_X6_isBeing M_beings l1).bind (fun q1 => if q1 = 0 then some ((-101 : Int32)) else (F_X6_in ((l2).toInt64) (0 : Int64) (4 : Int64)).bind (fun q2 => if q2 = 0 then some ((-102 : Int32)) else sw_ix ((4 : Int32) * l1) 20 (if l2 = 0 then F_X6_as_68 l1 (1 : Int32) else if l2 = (M_rows ((4 : Int32) * l1).toNatClampNeg) then F_X6_as_68 l1 (1 : Int32) else if l2 = (1 : Int32) then if 0 < (M_rows ((4 : Int32) * l1).toNatClampNeg) then F_X6_as_68 l1 (1 : Int32) else F_X6_as_53 l1 l2 (M_rows ((4 : Int32) * l1).toNatClampNeg) else F_X6_as_53 l1 l2 (M_rows ((4 : Int32) * l1).toNatClampNeg))))
def F_X6_may (M_beings : Int32) (M_number : Int32) (M_rows : Nat → Int32) (l1 : Int32) : Option (Int32) := (F_X6_isDeed M_beings l1).bind (fun q1 => if q1 = 0 then some ((-101 : Int32)) else (F_X6_done M_beings M_rows M_number l1).bind (fun q2 => if q2 = (-1 : Int32) then some ((0 : Int32)) else some ((1 : Int32))))
def F_X6_deed (M_beings : Int32) (M_number : Int32) (M_deedsDone : Int32) (M_rows : Nat → Int32) (l1 : Int32) : Option (Int32 × Int32 × Int32) := (F_X6_isDeed M_beings l1).bind (fun q1 => if q1 = 0 then some ((-101 : Int32), M_number, M_deedsDone) else (F_X6_done M_beings M_rows M_number l1).bind (fun q2 => if q2 = (-1 : Int32) then some ((-103 : Int32), M_number, M_deedsDone) else some ((M_deedsDone + (1 : Int32)), q2, (M_deedsDone + (1 : Int32)))))
def F_X6_number (M_number : Int32) : Option (Int32) := some (M_number)
def F_X6_lay_154 (k59 : Int32 → (Nat → Int32) → (Nat → Int32) → (Nat → Int32) → Int32 → Option (Int32 × (Nat → Int32) × (Nat → Int32) × (Nat → Int32))) (k76 : Int32 → (Nat → Int32) → (Nat → Int32) → (Nat → Int32) → Int32 → Option (Int32 × (Nat → Int32) × (Nat → Int32) × (Nat → Int32))) (M_beings : Int32) (M_lined : Int32) (M_rows : Nat → Int32) (M_far : Nat → Int32) (M_firsts : Nat → Int32) (M_line : Nat → Int32) (l1 : Int32) (l2 : Int32) (l3 : Int32) (l4 : Int32) (s1 : Int32) (s2 : Int32) : Option (Int32 × (Nat → Int32) × (Nat → Int32) × (Nat → Int32)) := sw_ix s1 7776 (sw_ix M_lined 7776 (k76 (M_lined + (1 : Int32)) M_far (upd M_firsts s1.toNatClampNeg s2) (upd M_line M_lined.toNatClampNeg l4) (l3 + (1 : Int32))))
def F_X6_lay_100 (k59 : Int32 → (Nat → Int32) → (Nat → Int32) → (Nat → Int32) → Int32 → Option (Int32 × (Nat → Int32) × (Nat → Int32) × (Nat → Int32))) (k76 : Int32 → (Nat → Int32) → (Nat → Int32) → (Nat → Int32) → Int32 → Option (Int32 × (Nat → Int32) × (Nat → Int32) × (Nat → Int32))) (M_beings : Int32) (M_lined : Int32) (M_rows : Nat → Int32) (M_far : Nat → Int32) (M_firsts : Nat → Int32) (M_line : Nat → Int32) (l1 : Int32) (l2 : Int32) (l3 : Int32) (s0 : Int32) : Option (Int32 × (Nat → Int32) × (Nat → Int32) × (Nat → Int32)) := if s0 = (-1 : Int32) then k76 M_lined M_far M_firsts M_line (l3 + (1 : Int32)) else sw_ix s0 7776 (if (M_far s0.toNatClampNeg) = (-1 : Int32) then sw_ix l2 7776 (sw_ix s0 7776 (if l1 = 0 then F_X6_lay_154 k59 k76 M_beings M_lined M_rows (upd M_far s0.toNatClampNeg ((M_far l2.toNatClampNeg) + (1 : Int32))) M_firsts M_line l1 l2 l3 s0 s0 l3 else sw_ix l2 7776 (F_X6_lay_154 k59 k76 M_beings M_lined M_rows (upd M_far s0.toNatClampNeg ((M_far l2.toNatClampNeg) + (1 : Int32))) M_firsts M_line l1 l2 l3 s0 s0 (M_firsts l2.toNatClampNeg)))) else k76 M_lined M_far M_firsts M_line (l3 + (1 : Int32)))
def F_X6_lay_76 (k59 : Int32 → (Nat → Int32) → (Nat → Int32) → (Nat → Int32) → Int32 → Option (Int32 × (Nat → Int32) × (Nat → Int32) × (Nat → Int32))) (M_beings : Int32) (M_rows : Nat → Int32) (l1 : Int32) (l2 : Int32) : Nat → Int32 → (Nat → Int32) → (Nat → Int32) → (Nat → Int32) → Int32 → Option (Int32 × (Nat → Int32) × (Nat → Int32) × (Nat → Int32))
  | 0, _, _, _, _, _ => none
  | fu + 1, M_lined, M_far, M_firsts, M_line, l3 => if (45 : Int32) ≤ l3 then k59 M_lined M_far M_firsts M_line (l1 + (1 : Int32)) else (F_X6_isDeed M_beings l3).bind (fun q7 => if q7 = 0 then F_X6_lay_100 k59 (F_X6_lay_76  k59 M_beings M_rows l1 l2 fu) M_beings M_lined M_rows M_far M_firsts M_line l1 l2 l3 (-1 : Int32) else (F_X6_done M_beings M_rows l2 l3).bind (fun q8 => F_X6_lay_100 k59 (F_X6_lay_76  k59 M_beings M_rows l1 l2 fu) M_beings M_lined M_rows M_far M_firsts M_line l1 l2 l3 q8))
def F_X6_lay_59  (M_beings : Int32) (M_rows : Nat → Int32) : Nat → Int32 → (Nat → Int32) → (Nat → Int32) → (Nat → Int32) → Int32 → Option (Int32 × (Nat → Int32) × (Nat → Int32) × (Nat → Int32))
  | 0, _, _, _, _, _ => none
  | fu + 1, M_lined, M_far, M_firsts, M_line, l1 => if M_lined ≤ l1 then some (M_lined, M_far, M_firsts, M_line) else sw_ix l1 7776 (F_X6_lay_76 (F_X6_lay_59  M_beings M_rows fu) M_beings M_rows l1 (M_line l1.toNatClampNeg) sw_fu M_lined M_far M_firsts M_line (0 : Int32))
def F_X6_lay_2  (M_beings : Int32) (M_number : Int32) (M_rows : Nat → Int32) (M_firsts : Nat → Int32) (M_line : Nat → Int32) : Nat → (Nat → Int32) → Int32 → Option (Int32 × (Nat → Int32) × (Nat → Int32) × (Nat → Int32))
  | 0, _, _ => none
  | fu + 1, M_far, l1 => if (7776 : Int32) ≤ l1 then sw_ix M_number 7776 (sw_ix M_number 7776 (sw_ix (0 : Int32) 7776 (F_X6_lay_59 M_beings M_rows sw_fu (1 : Int32) (upd M_far M_number.toNatClampNeg (0 : Int32)) (upd M_firsts M_number.toNatClampNeg (-1 : Int32)) (upd M_line (0 : Int32).toNatClampNeg M_number) (0 : Int32)))) else sw_ix l1 7776 ((F_X6_lay_2  M_beings M_number M_rows M_firsts M_line fu) (upd M_far l1.toNatClampNeg (-1 : Int32)) (l1 + (1 : Int32)))
def F_X6_lay (M_beings : Int32) (M_number : Int32) (M_lined : Int32) (M_rows : Nat → Int32) (M_far : Nat → Int32) (M_firsts : Nat → Int32) (M_line : Nat → Int32) : Option (Int32 × (Nat → Int32) × (Nat → Int32) × (Nat → Int32)) := F_X6_lay_2 M_beings M_number M_rows M_firsts M_line sw_fu M_far (0 : Int32)
def F_X6_areOut_4  (l0 : Int32) (l1 : Int32) : Nat → Int32 → Int32 → Option (Int32)
  | 0, _, _ => none
  | fu + 1, l2, l3 => if (5 : Int32) ≤ l3 then sw_zb l2 (some (l2)) else if l2 = 0 then (F_X6_areOut_4  l0 l1 fu) (0 : Int32) (l3 + (1 : Int32)) else if ((l1 >>> (l3 &&& 31)) &&& (1 : Int32)) = 0 then (F_X6_areOut_4  l0 l1 fu) (1 : Int32) (l3 + (1 : Int32)) else (F_X6_holder l0 l3).bind (fun q1 => if q1 = (-1 : Int32) then (F_X6_areOut_4  l0 l1 fu) (1 : Int32) (l3 + (1 : Int32)) else (F_X6_areOut_4  l0 l1 fu) (0 : Int32) (l3 + (1 : Int32)))
def F_X6_areOut (l0 : Int32) (l1 : Int32) : Option (Int32) := F_X6_areOut_4 l0 l1 sw_fu (1 : Int32) (0 : Int32)
def F_X6_soonestOf_6  (M_lined : Int32) (M_far : Nat → Int32) (M_firsts : Nat → Int32) (M_line : Nat → Int32) (l1 : Int32) (l2 : Int32) : Nat → Int32 → Option (Int32 × Int32 × (Nat → Int32) × (Nat → Int32) × (Nat → Int32))
  | 0, _ => none
  | fu + 1, l3 => if M_lined ≤ l3 then some ((-1 : Int32), M_lined, M_far, M_firsts, M_line) else sw_ix l3 7776 ((F_X6_areOut (M_line l3.toNatClampNeg) l1).bind (fun q2 => if q2 = 0 then (F_X6_soonestOf_6  M_lined M_far M_firsts M_line l1 l2 fu) (l3 + (1 : Int32)) else if l2 = 0 then sw_ix l3 7776 (sw_ix (M_line l3.toNatClampNeg) 7776 (some ((M_far (M_line l3.toNatClampNeg).toNatClampNeg), M_lined, M_far, M_firsts, M_line))) else sw_ix l3 7776 (sw_ix (M_line l3.toNatClampNeg) 7776 (some ((M_firsts (M_line l3.toNatClampNeg).toNatClampNeg), M_lined, M_far, M_firsts, M_line)))))
def F_X6_soonestOf (M_beings : Int32) (M_number : Int32) (M_lined : Int32) (M_rows : Nat → Int32) (M_far : Nat → Int32) (M_firsts : Nat → Int32) (M_line : Nat → Int32) (l1 : Int32) (l2 : Int32) : Option (Int32 × Int32 × (Nat → Int32) × (Nat → Int32) × (Nat → Int32)) := (F_X6_lay M_beings M_number M_lined M_rows M_far M_firsts M_line).bind (fun q7 => F_X6_soonestOf_6 q7.1 q7.2.1 q7.2.2.1 q7.2.2.2 l1 l2 sw_fu (0 : Int32))
def F_X6_soonest (M_beings : Int32) (M_number : Int32) (M_lined : Int32) (M_rows : Nat → Int32) (M_far : Nat → Int32) (M_firsts : Nat → Int32) (M_line : Nat → Int32) (l1 : Int32) (l2 : Int32) : Option (Int32 × Int32 × (Nat → Int32) × (Nat → Int32) × (Nat → Int32)) := (F_X6_in ((l1).toInt64) (0 : Int64) ((((1 : Int32) <<< (M_beings &&& 31)) - (1 : Int32)).toInt64)).bind (fun q1 => if q1 = 0 then some ((-102 : Int32), M_lined, M_far, M_firsts, M_line) else (F_X6_in ((l2).toInt64) (0 : Int64) (1 : Int64)).bind (fun q2 => if q2 = 0 then some ((-102 : Int32), M_lined, M_far, M_firsts, M_line) else (F_X6_soonestOf M_beings M_number M_lined M_rows M_far M_firsts M_line l1 l2).bind (fun q3 => some (q3.1, q3.2.1, q3.2.2.1, q3.2.2.2.1, q3.2.2.2.2))))
def F_X6_together_30  (M_lined : Int32) (M_far : Nat → Int32) (M_firsts : Nat → Int32) (M_line : Nat → Int32) (l1 : Int32) (l2 : Int32) : Nat → Int32 → Option (Int32 × Int32 × (Nat → Int32) × (Nat → Int32) × (Nat → Int32))
  | 0, _ => none
  | fu + 1, l3 => if M_lined ≤ l3 then some ((-1 : Int32), M_lined, M_far, M_firsts, M_line) else sw_ix l3 7776 ((F_X6_holder (M_line l3.toNatClampNeg) l1).bind (fun q2 => sw_ix l3 7776 ((F_X6_holder (M_line l3.toNatClampNeg) l2).bind (fun q4 => if q2 = q4 then sw_ix l3 7776 (sw_ix (M_line l3.toNatClampNeg) 7776 (some ((M_far (M_line l3.toNatClampNeg).toNatClampNeg), M_lined, M_far, M_firsts, M_line))) else (F_X6_together_30  M_lined M_far M_firsts M_line l1 l2 fu) (l3 + (1 : Int32))))))
def F_X6_together (M_beings : Int32) (M_number : Int32) (M_lined : Int32) (M_rows : Nat → Int32) (M_far : Nat → Int32) (M_firsts : Nat → Int32) (M_line : Nat → Int32) (l1 : Int32) (l2 : Int32) : Option (Int32 × Int32 × (Nat → Int32) × (Nat → Int32) × (Nat → Int32)) := (F_X6_isBeing M_beings l1).bind (fun q7 => if q7 = 0 then some ((-101 : Int32), M_lined, M_far, M_firsts, M_line) else (F_X6_isBeing M_beings l2).bind (fun q8 => if q8 = 0 then some ((-101 : Int32), M_lined, M_far, M_firsts, M_line) else if l1 = l2 then some ((-101 : Int32), M_lined, M_far, M_firsts, M_line) else (F_X6_lay M_beings M_number M_lined M_rows M_far M_firsts M_line).bind (fun q9 => F_X6_together_30 q9.1 q9.2.1 q9.2.2.1 q9.2.2.2 l1 l2 sw_fu (0 : Int32))))
def F_X6_deepest_4  (M_lined : Int32) (M_line : Nat → Int32) (l1 : Int32) : Nat → Int32 → Int32 → Option (Int32)
  | 0, _, _ => none
  | fu + 1, l2, l3 => if M_lined ≤ l3 then some (l2) else sw_ix l3 7776 ((F_X6_walls (M_line l3.toNatClampNeg) l1).bind (fun q2 => if q2 ≤ l2 then (F_X6_deepest_4  M_lined M_line l1 fu) l2 (l3 + (1 : Int32)) else (F_X6_deepest_4  M_lined M_line l1 fu) q2 (l3 + (1 : Int32))))
def F_X6_deepest (M_lined : Int32) (M_line : Nat → Int32) (l1 : Int32) : Option (Int32) := F_X6_deepest_4 M_lined M_line l1 sw_fu (0 : Int32) (0 : Int32)
def F_X6_deep (M_beings : Int32) (M_number : Int32) (M_lined : Int32) (M_rows : Nat → Int32) (M_far : Nat → Int32) (M_firsts : Nat → Int32) (M_line : Nat → Int32) (l1 : Int32) : Option (Int32 × Int32 × (Nat → Int32) × (Nat → Int32) × (Nat → Int32)) := (F_X6_isBeing M_beings l1).bind (fun q1 => if q1 = 0 then some ((-101 : Int32), M_lined, M_far, M_firsts, M_line) else (F_X6_lay M_beings M_number M_lined M_rows M_far M_firsts M_line).bind (fun q2 => (F_X6_deepest q2.1 q2.2.2.2 l1).bind (fun q3 => some (q3, q2.1, q2.2.1, q2.2.2.1, q2.2.2.2))))
def F_X6_many (M_beings : Int32) (M_number : Int32) (M_lined : Int32) (M_rows : Nat → Int32) (M_far : Nat → Int32) (M_firsts : Nat → Int32) (M_line : Nat → Int32) : Option (Int32 × Int32 × (Nat → Int32) × (Nat → Int32) × (Nat → Int32)) := (F_X6_lay M_beings M_number M_lined M_rows M_far M_firsts M_line).bind (fun q1 => some (q1.1, q1.1, q1.2.1, q1.2.2.1, q1.2.2.2))
def F_X6_nesting_8  (M_lined : Int32) (M_far : Nat → Int32) (M_firsts : Nat → Int32) (M_line : Nat → Int32) : Nat → Int32 → Int32 → Option (Int32 × Int32 × (Nat → Int32) × (Nat → Int32) × (Nat → Int32))
  | 0, _, _ => none
  | fu + 1, l2, l3 => if (7776 : Int32) ≤ l3 then some ((-102 : Int32), M_lined, M_far, M_firsts, M_line) else if l2 < 0 then some ((-102 : Int32), M_lined, M_far, M_firsts, M_line) else sw_ix l3 7776 (if (M_far l3.toNatClampNeg) = (-1 : Int32) then (F_X6_nesting_8  M_lined M_far M_firsts M_line fu) l2 (l3 + (1 : Int32)) else if l2 = 0 then some (l3, M_lined, M_far, M_firsts, M_line) else (F_X6_nesting_8  M_lined M_far M_firsts M_line fu) (l2 + (-1 : Int32)) (l3 + (1 : Int32)))
def F_X6_nesting (M_beings : Int32) (M_number : Int32) (M_lined : Int32) (M_rows : Nat → Int32) (M_far : Nat → Int32) (M_firsts : Nat → Int32) (M_line : Nat → Int32) (l1 : Int32) : Option (Int32 × Int32 × (Nat → Int32) × (Nat → Int32) × (Nat → Int32)) := (F_X6_lay M_beings M_number M_lined M_rows M_far M_firsts M_line).bind (fun q2 => F_X6_nesting_8 q2.1 q2.2.1 q2.2.2.1 q2.2.2.2 sw_fu l1 (0 : Int32))
def F_X6_told (M_beings : Int32) (M_toldMany : Int32) (M_toldRows : Nat → Int32) (l1 : Int32) (l2 : Int32) : Option (Int32 × Int32 × (Nat → Int32)) := (F_X6_isBeing M_beings l1).bind (fun q1 => if q1 = 0 then some ((-101 : Int32), M_toldMany, M_toldRows) else (F_X6_in ((l2).toInt64) (0 : Int64) ((((1 : Int32) <<< (M_beings &&& 31)) - (1 : Int32)).toInt64)).bind (fun q2 => if q2 = 0 then some ((-102 : Int32), M_toldMany, M_toldRows) else if M_toldMany = (4 : Int32) then some ((-104 : Int32), M_toldMany, M_toldRows) else sw_ix ((2 : Int32) * M_toldMany) 8 (sw_ix (((2 : Int32) * M_toldMany) + (1 : Int32)) 8 (some ((M_toldMany + (1 : Int32)), (M_toldMany + (1 : Int32)), (upd (upd M_toldRows ((2 : Int32) * M_toldMany).toNatClampNeg l1) (((2 : Int32) * M_toldMany) + (1 : Int32)).toNatClampNeg l2))))))
def F_X6_forget (M_toldMany : Int32) : Option (Int32 × Int32) := some (M_toldMany, (0 : Int32))
def F_X6_isToldSo_4  (M_beings : Int32) (M_toldMany : Int32) (M_toldRows : Nat → Int32) (l1 : Int32) : Nat → Int32 → Int32 → Option (Int32)
  | 0, _, _ => none
  | fu + 1, l2, l3 => if M_toldMany ≤ l3 then sw_zb l2 (some (l2)) else if l2 = 0 then (F_X6_isToldSo_4  M_beings M_toldMany M_toldRows l1 fu) (0 : Int32) (l3 + (1 : Int32)) else sw_ix ((2 : Int32) * l3) 8 ((F_X6_heardBy M_beings l1 (M_toldRows ((2 : Int32) * l3).toNatClampNeg)).bind (fun q2 => sw_ix (((2 : Int32) * l3) + (1 : Int32)) 8 (if q2 = (M_toldRows (((2 : Int32) * l3) + (1 : Int32)).toNatClampNeg) then (F_X6_isToldSo_4  M_beings M_toldMany M_toldRows l1 fu) (1 : Int32) (l3 + (1 : Int32)) else (F_X6_isToldSo_4  M_beings M_toldMany M_toldRows l1 fu) (0 : Int32) (l3 + (1 : Int32)))))
def F_X6_isToldSo (M_beings : Int32) (M_toldMany : Int32) (M_toldRows : Nat → Int32) (l1 : Int32) : Option (Int32) := F_X6_isToldSo_4 M_beings M_toldMany M_toldRows l1 sw_fu (1 : Int32) (0 : Int32)
def F_X6_fitMany_31 (k4 : Int32 → Int32 → Option (Int32)) (M_beings : Int32) (M_lined : Int32) (M_toldMany : Int32) (M_line : Nat → Int32) (M_toldRows : Nat → Int32) (l2 : Int32) (s0 : Int32) (s1 : Int32) : Option (Int32) := k4 (s0 + s1) (l2 + (1 : Int32))
def F_X6_fitMany_4  (M_beings : Int32) (M_lined : Int32) (M_toldMany : Int32) (M_line : Nat → Int32) (M_toldRows : Nat → Int32) : Nat → Int32 → Int32 → Option (Int32)
  | 0, _, _ => none
  | fu + 1, l1, l2 => if M_lined ≤ l2 then some (l1) else sw_ix l2 7776 ((F_X6_isToldSo M_beings M_toldMany M_toldRows (M_line l2.toNatClampNeg)).bind (fun q2 => if q2 = 0 then F_X6_fitMany_31 (F_X6_fitMany_4  M_beings M_lined M_toldMany M_line M_toldRows fu) M_beings M_lined M_toldMany M_line M_toldRows l2 l1 (0 : Int32) else F_X6_fitMany_31 (F_X6_fitMany_4  M_beings M_lined M_toldMany M_line M_toldRows fu) M_beings M_lined M_toldMany M_line M_toldRows l2 l1 (1 : Int32)))
def F_X6_fitMany (M_beings : Int32) (M_lined : Int32) (M_toldMany : Int32) (M_line : Nat → Int32) (M_toldRows : Nat → Int32) : Option (Int32) := F_X6_fitMany_4 M_beings M_lined M_toldMany M_line M_toldRows sw_fu (0 : Int32) (0 : Int32)
def F_X6_fits (M_beings : Int32) (M_number : Int32) (M_lined : Int32) (M_toldMany : Int32) (M_rows : Nat → Int32) (M_far : Nat → Int32) (M_firsts : Nat → Int32) (M_line : Nat → Int32) (M_toldRows : Nat → Int32) : Option (Int32 × Int32 × (Nat → Int32) × (Nat → Int32) × (Nat → Int32)) := (F_X6_lay M_beings M_number M_lined M_rows M_far M_firsts M_line).bind (fun q1 => (F_X6_fitMany M_beings q1.1 M_toldMany q1.2.2.2 M_toldRows).bind (fun q2 => some (q2, q1.1, q1.2.1, q1.2.2.1, q1.2.2.2)))
def F_X6_sure_59 (k19 : Int32 → Int32 → Option (Int32 × Int32 × (Nat → Int32) × (Nat → Int32) × (Nat → Int32))) (M_beings : Int32) (M_lined : Int32) (M_toldMany : Int32) (M_far : Nat → Int32) (M_firsts : Nat → Int32) (M_line : Nat → Int32) (M_toldRows : Nat → Int32) (l1 : Int32) (l3 : Int32) (s0 : Int32) (s1 : Int32) : Option (Int32 × Int32 × (Nat → Int32) × (Nat → Int32) × (Nat → Int32)) := k19 (s0 ||| s1) (l3 + (1 : Int32))
def F_X6_sure_69  (M_lined : Int32) (M_far : Nat → Int32) (M_firsts : Nat → Int32) (M_line : Nat → Int32) (l2 : Int32) : Nat → Int32 → Option (Int32 × Int32 × (Nat → Int32) × (Nat → Int32) × (Nat → Int32))
  | 0, _ => none
  | fu + 1, l3 => if (6 : Int32) ≤ l3 then some ((-2 : Int32), M_lined, M_far, M_firsts, M_line) else if l2 = ((1 : Int32) <<< (l3 &&& 31)) then some ((l3 - (1 : Int32)), M_lined, M_far, M_firsts, M_line) else (F_X6_sure_69  M_lined M_far M_firsts M_line l2 fu) (l3 + (1 : Int32))
def F_X6_sure_19  (M_beings : Int32) (M_lined : Int32) (M_toldMany : Int32) (M_far : Nat → Int32) (M_firsts : Nat → Int32) (M_line : Nat → Int32) (M_toldRows : Nat → Int32) (l1 : Int32) : Nat → Int32 → Int32 → Option (Int32 × Int32 × (Nat → Int32) × (Nat → Int32) × (Nat → Int32))
  | 0, _, _ => none
  | fu + 1, l2, l3 => if M_lined ≤ l3 then F_X6_sure_69 M_lined M_far M_firsts M_line l2 sw_fu (0 : Int32) else sw_ix l3 7776 ((F_X6_isToldSo M_beings M_toldMany M_toldRows (M_line l3.toNatClampNeg)).bind (fun q2 => if q2 = 0 then F_X6_sure_59 (F_X6_sure_19  M_beings M_lined M_toldMany M_far M_firsts M_line M_toldRows l1 fu) M_beings M_lined M_toldMany M_far M_firsts M_line M_toldRows l1 l3 l2 (0 : Int32) else sw_ix l3 7776 ((F_X6_holder (M_line l3.toNatClampNeg) l1).bind (fun q4 => F_X6_sure_59 (F_X6_sure_19  M_beings M_lined M_toldMany M_far M_firsts M_line M_toldRows l1 fu) M_beings M_lined M_toldMany M_far M_firsts M_line M_toldRows l1 l3 l2 ((1 : Int32) <<< ((q4 + (1 : Int32)) &&& 31))))))
def F_X6_sure (M_beings : Int32) (M_number : Int32) (M_lined : Int32) (M_toldMany : Int32) (M_rows : Nat → Int32) (M_far : Nat → Int32) (M_firsts : Nat → Int32) (M_line : Nat → Int32) (M_toldRows : Nat → Int32) (l1 : Int32) : Option (Int32 × Int32 × (Nat → Int32) × (Nat → Int32) × (Nat → Int32)) := (F_X6_isBeing M_beings l1).bind (fun q5 => if q5 = 0 then some ((-101 : Int32), M_lined, M_far, M_firsts, M_line) else (F_X6_lay M_beings M_number M_lined M_rows M_far M_firsts M_line).bind (fun q6 => F_X6_sure_19 M_beings q6.1 M_toldMany q6.2.1 q6.2.2.1 q6.2.2.2 M_toldRows l1 sw_fu (0 : Int32) (0 : Int32)))
def F_X6_worstOf_25  (M_beings : Int32) (M_lined : Int32) (M_toldMany : Int32) (M_line : Nat → Int32) (M_toldRows : Nat → Int32) (l1 : Int32) : Nat → (Nat → Int32) → Int32 → Int32 → Option (Int32 × (Nat → Int32))
  | 0, _, _, _ => none
  | fu + 1, M_parts, l2, l3 => if M_lined ≤ l3 then some (l2, M_parts) else sw_ix l3 7776 ((F_X6_isToldSo M_beings M_toldMany M_toldRows (M_line l3.toNatClampNeg)).bind (fun q2 => if q2 = 0 then (F_X6_worstOf_25  M_beings M_lined M_toldMany M_line M_toldRows l1 fu) M_parts l2 (l3 + (1 : Int32)) else sw_ix l3 7776 ((F_X6_heardBy M_beings (M_line l3.toNatClampNeg) l1).bind (fun q4 => sw_ix q4 32 (sw_ix q4 32 (sw_ix q4 32 (if ((upd M_parts q4.toNatClampNeg ((M_parts q4.toNatClampNeg) + (1 : Int32))) q4.toNatClampNeg) ≤ l2 then (F_X6_worstOf_25  M_beings M_lined M_toldMany M_line M_toldRows l1 fu) (upd M_parts q4.toNatClampNeg ((M_parts q4.toNatClampNeg) + (1 : Int32))) l2 (l3 + (1 : Int32)) else sw_ix q4 32 ((F_X6_worstOf_25  M_beings M_lined M_toldMany M_line M_toldRows l1 fu) (upd M_parts q4.toNatClampNeg ((M_parts q4.toNatClampNeg) + (1 : Int32))) ((upd M_parts q4.toNatClampNeg ((M_parts q4.toNatClampNeg) + (1 : Int32))) q4.toNatClampNeg) (l3 + (1 : Int32))))))))))
def F_X6_worstOf_2  (M_beings : Int32) (M_lined : Int32) (M_toldMany : Int32) (M_line : Nat → Int32) (M_toldRows : Nat → Int32) (l1 : Int32) : Nat → (Nat → Int32) → Int32 → Option (Int32 × (Nat → Int32))
  | 0, _, _ => none
  | fu + 1, M_parts, l2 => if (32 : Int32) ≤ l2 then F_X6_worstOf_25 M_beings M_lined M_toldMany M_line M_toldRows l1 sw_fu M_parts (0 : Int32) (0 : Int32) else sw_ix l2 32 ((F_X6_worstOf_2  M_beings M_lined M_toldMany M_line M_toldRows l1 fu) (upd M_parts l2.toNatClampNeg (0 : Int32)) (l2 + (1 : Int32)))
def F_X6_worstOf (M_beings : Int32) (M_lined : Int32) (M_toldMany : Int32) (M_line : Nat → Int32) (M_toldRows : Nat → Int32) (M_parts : Nat → Int32) (l1 : Int32) : Option (Int32 × (Nat → Int32)) := F_X6_worstOf_2 M_beings M_lined M_toldMany M_line M_toldRows l1 sw_fu M_parts (0 : Int32)
def F_X6_askOf_56 (k6 : (Nat → Int32) → Int32 → Int32 → Int32 → Option (Int32 × (Nat → Int32))) (M_beings : Int32) (M_lined : Int32) (M_toldMany : Int32) (M_line : Nat → Int32) (M_toldRows : Nat → Int32) (M_parts : Nat → Int32) (l2 : Int32) (l3 : Int32) (l4 : Int32) (l5 : Int32) (s0 : Int32) : Option (Int32 × (Nat → Int32)) := if l5 = 0 then k6 M_parts s0 l2 (l3 + (1 : Int32)) else k6 M_parts s0 l4 (l3 + (1 : Int32))
def F_X6_askOf_44 (k6 : (Nat → Int32) → Int32 → Int32 → Int32 → Option (Int32 × (Nat → Int32))) (M_beings : Int32) (M_lined : Int32) (M_toldMany : Int32) (M_line : Nat → Int32) (M_toldRows : Nat → Int32) (M_parts : Nat → Int32) (l1 : Int32) (l2 : Int32) (l3 : Int32) (l4 : Int32) (s0 : Int32) : Option (Int32 × (Nat → Int32)) := if s0 = 0 then F_X6_askOf_56 k6 M_beings M_lined M_toldMany M_line M_toldRows M_parts l2 l3 l4 s0 l1 else F_X6_askOf_56 k6 M_beings M_lined M_toldMany M_line M_toldRows M_parts l2 l3 l4 s0 l3
def F_X6_askOf_6  (M_beings : Int32) (M_lined : Int32) (M_toldMany : Int32) (M_line : Nat → Int32) (M_toldRows : Nat → Int32) : Nat → (Nat → Int32) → Int32 → Int32 → Int32 → Option (Int32 × (Nat → Int32))
  | 0, _, _, _, _ => none
  | fu + 1, M_parts, l1, l2, l3 => if M_beings ≤ l3 then some (l1, M_parts) else (F_X6_fitMany M_beings M_lined M_toldMany M_line M_toldRows).bind (fun q1 => if q1 ≤ 0 then some (l1, M_parts) else (F_X6_worstOf M_beings M_lined M_toldMany M_line M_toldRows M_parts l3).bind (fun q2 => if l1 = (-1 : Int32) then F_X6_askOf_44 (F_X6_askOf_6  M_beings M_lined M_toldMany M_line M_toldRows fu) M_beings M_lined M_toldMany M_line M_toldRows q2.2 l1 l2 l3 q2.1 (1 : Int32) else if l2 ≤ q2.1 then F_X6_askOf_44 (F_X6_askOf_6  M_beings M_lined M_toldMany M_line M_toldRows fu) M_beings M_lined M_toldMany M_line M_toldRows q2.2 l1 l2 l3 q2.1 (0 : Int32) else F_X6_askOf_44 (F_X6_askOf_6  M_beings M_lined M_toldMany M_line M_toldRows fu) M_beings M_lined M_toldMany M_line M_toldRows q2.2 l1 l2 l3 q2.1 (1 : Int32)))
def F_X6_askOf (M_beings : Int32) (M_lined : Int32) (M_toldMany : Int32) (M_line : Nat → Int32) (M_toldRows : Nat → Int32) (M_parts : Nat → Int32) : Option (Int32 × (Nat → Int32)) := F_X6_askOf_6 M_beings M_lined M_toldMany M_line M_toldRows sw_fu M_parts (-1 : Int32) (0 : Int32) (0 : Int32)
def F_X6_ask (M_beings : Int32) (M_number : Int32) (M_lined : Int32) (M_toldMany : Int32) (M_rows : Nat → Int32) (M_far : Nat → Int32) (M_firsts : Nat → Int32) (M_line : Nat → Int32) (M_toldRows : Nat → Int32) (M_parts : Nat → Int32) : Option (Int32 × Int32 × (Nat → Int32) × (Nat → Int32) × (Nat → Int32) × (Nat → Int32)) := (F_X6_lay M_beings M_number M_lined M_rows M_far M_firsts M_line).bind (fun q1 => (F_X6_askOf M_beings q1.1 M_toldMany q1.2.2.2 M_toldRows M_parts).bind (fun q2 => some (q2.1, q1.1, q1.2.1, q1.2.2.1, q1.2.2.2, q2.2)))
def F_X6_draw (M_seedNow : Int32) (l1 : Int32) : Option (Int32 × Int32) := sw_dz l1 (some ((((((((1103515245 : Int64) * ((M_seedNow).toInt64)) + (12345 : Int64)) &&& (2147483647 : Int64)).toInt32) / (65536 : Int32)) - ((((((1103515245 : Int64) * ((M_seedNow).toInt64)) + (12345 : Int64)) &&& (2147483647 : Int64)).toInt32) / (65536 : Int32)) / l1 * l1), ((((1103515245 : Int64) * ((M_seedNow).toInt64)) + (12345 : Int64)) &&& (2147483647 : Int64)).toInt32))
def F_X6_mayMany_34 (k4 : Int32 → Int32 → Option (Int32)) (M_beings : Int32) (M_rows : Nat → Int32) (l1 : Int32) (l3 : Int32) (s0 : Int32) (s1 : Int32) : Option (Int32) := k4 (s0 + s1) (l3 + (1 : Int32))
def F_X6_mayMany_4  (M_beings : Int32) (M_rows : Nat → Int32) (l1 : Int32) : Nat → Int32 → Int32 → Option (Int32)
  | 0, _, _ => none
  | fu + 1, l2, l3 => if (45 : Int32) ≤ l3 then some (l2) else (F_X6_isDeed M_beings l3).bind (fun q1 => if q1 = 0 then F_X6_mayMany_34 (F_X6_mayMany_4  M_beings M_rows l1 fu) M_beings M_rows l1 l3 l2 (0 : Int32) else (F_X6_done M_beings M_rows l1 l3).bind (fun q2 => if q2 = (-1 : Int32) then F_X6_mayMany_34 (F_X6_mayMany_4  M_beings M_rows l1 fu) M_beings M_rows l1 l3 l2 (0 : Int32) else F_X6_mayMany_34 (F_X6_mayMany_4  M_beings M_rows l1 fu) M_beings M_rows l1 l3 l2 (1 : Int32)))
def F_X6_mayMany (M_beings : Int32) (M_rows : Nat → Int32) (l1 : Int32) : Option (Int32) := F_X6_mayMany_4 M_beings M_rows l1 sw_fu (0 : Int32) (0 : Int32)
def F_X6_days_142 (k53 : Int32 → Int32 → Int32 → Int32 → Option (Int32 × Int32)) (k79 : Int32 → Int32 → Int32 → Option (Int32 × Int32)) (M_beings : Int32) (M_seedNow : Int32) (M_rows : Nat → Int32) (l1 : Int32) (l3 : Int32) (l4 : Int32) (l5 : Int32) (l8 : Int32) (l9 : Int32) (s0 : Int32) (s1 : Int32) : Option (Int32 × Int32) := k79 (s0 - s1) l8 (l9 + (1 : Int32))
def F_X6_days_127 (k53 : Int32 → Int32 → Int32 → Int32 → Option (Int32 × Int32)) (k79 : Int32 → Int32 → Int32 → Option (Int32 × Int32)) (M_beings : Int32) (M_seedNow : Int32) (M_rows : Nat → Int32) (l1 : Int32) (l3 : Int32) (l4 : Int32) (l5 : Int32) (l7 : Int32) (l9 : Int32) (l10 : Int32) (s0 : Int32) : Option (Int32 × Int32) := if l10 = (-1 : Int32) then F_X6_days_142 k53 k79 M_beings M_seedNow M_rows l1 l3 l4 l5 s0 l9 l7 (0 : Int32) else F_X6_days_142 k53 k79 M_beings M_seedNow M_rows l1 l3 l4 l5 s0 l9 l7 (1 : Int32)
def F_X6_days_107 (k53 : Int32 → Int32 → Int32 → Int32 → Option (Int32 × Int32)) (k79 : Int32 → Int32 → Int32 → Option (Int32 × Int32)) (M_beings : Int32) (M_seedNow : Int32) (M_rows : Nat → Int32) (l1 : Int32) (l3 : Int32) (l4 : Int32) (l5 : Int32) (l7 : Int32) (l8 : Int32) (l9 : Int32) (s0 : Int32) : Option (Int32 × Int32) := if s0 = (-1 : Int32) then F_X6_days_127 k53 k79 M_beings M_seedNow M_rows l1 l3 l4 l5 l7 l9 s0 l8 else if l7 = 0 then F_X6_days_127 k53 k79 M_beings M_seedNow M_rows l1 l3 l4 l5 l7 l9 s0 s0 else F_X6_days_127 k53 k79 M_beings M_seedNow M_rows l1 l3 l4 l5 l7 l9 s0 l8
def F_X6_days_79 (k53 : Int32 → Int32 → Int32 → Int32 → Option (Int32 × Int32)) (M_beings : Int32) (M_seedNow : Int32) (M_rows : Nat → Int32) (l1 : Int32) (l3 : Int32) (l4 : Int32) (l5 : Int32) : Nat → Int32 → Int32 → Int32 → Option (Int32 × Int32)
  | 0, _, _, _ => none
  | fu + 1, l7, l8, l9 => if (45 : Int32) ≤ l9 then (F_X6_mayMany M_beings M_rows l8).bind (fun q1 => k53 M_seedNow l8 (l5 + (1 : Int32)) q1) else (F_X6_isDeed M_beings l9).bind (fun q2 => if q2 = 0 then F_X6_days_107 k53 (F_X6_days_79  k53 M_beings M_seedNow M_rows l1 l3 l4 l5 fu) M_beings M_seedNow M_rows l1 l3 l4 l5 l7 l8 l9 (-1 : Int32) else (F_X6_done M_beings M_rows l4 l9).bind (fun q3 => F_X6_days_107 k53 (F_X6_days_79  k53 M_beings M_seedNow M_rows l1 l3 l4 l5 fu) M_beings M_seedNow M_rows l1 l3 l4 l5 l7 l8 l9 q3))
def F_X6_days_169  (M_seedNow : Int32) (l3 : Int32) (l4 : Int32) (l5 : Int32) : Option (Int32 × Int32) := if l3 = 0 then some (l4, M_seedNow) else if l3 = (1 : Int32) then some (l5, M_seedNow) else some (M_seedNow, M_seedNow)
def F_X6_days_53  (M_beings : Int32) (M_rows : Nat → Int32) (l1 : Int32) (l3 : Int32) : Nat → Int32 → Int32 → Int32 → Int32 → Option (Int32 × Int32)
  | 0, _, _, _, _ => none
  | fu + 1, M_seedNow, l4, l5, l6 => if l1 ≤ l5 then F_X6_days_169 M_seedNow l3 l4 l5 else if l6 ≤ 0 then F_X6_days_169 M_seedNow l3 l4 l5 else (F_X6_draw M_seedNow l6).bind (fun q4 => F_X6_days_79 (F_X6_days_53  M_beings M_rows l1 l3 fu) M_beings q4.2 M_rows l1 l3 l4 l5 sw_fu q4.1 l4 (0 : Int32))
def F_X6_days (M_beings : Int32) (M_number : Int32) (M_seedNow : Int32) (M_rows : Nat → Int32) (l1 : Int32) (l2 : Int32) (l3 : Int32) : Option (Int32 × Int32) := (F_X6_in ((l1).toInt64) (1 : Int64) (60 : Int64)).bind (fun q5 => if q5 = 0 then some ((-102 : Int32), M_seedNow) else if l2 < 0 then some ((-102 : Int32), M_seedNow) else (F_X6_in ((l3).toInt64) (0 : Int64) (2 : Int64)).bind (fun q6 => if q6 = 0 then some ((-102 : Int32), M_seedNow) else (F_X6_mayMany M_beings M_rows M_number).bind (fun q7 => F_X6_days_53 M_beings M_rows l1 l3 sw_fu l2 M_number (0 : Int32) q7)))
def F_X6_image_2  (M_beings : Int32) (M_number : Int32) (M_deedsDone : Int32) (M_toldMany : Int32) (M_toldRows : Nat → Int32) : Nat → (Nat → Int32) → Int32 → Option (Int32 × Int32 × Int32 × Int32 × Int32 × (Nat → Int32))
  | 0, _, _ => none
  | fu + 1, M_keptToldRows, l1 => if (8 : Int32) ≤ l1 then some (M_number, M_number, M_beings, M_deedsDone, M_toldMany, M_keptToldRows) else sw_ix l1 8 (sw_ix l1 8 ((F_X6_image_2  M_beings M_number M_deedsDone M_toldMany M_toldRows fu) (upd M_keptToldRows l1.toNatClampNeg (M_toldRows l1.toNatClampNeg)) (l1 + (1 : Int32))))
def F_X6_image (M_beings : Int32) (M_number : Int32) (M_deedsDone : Int32) (M_toldMany : Int32) (M_keptNumber : Int32) (M_keptBeings : Int32) (M_keptDeeds : Int32) (M_keptTold : Int32) (M_toldRows : Nat → Int32) (M_keptToldRows : Nat → Int32) : Option (Int32 × Int32 × Int32 × Int32 × Int32 × (Nat → Int32)) := F_X6_image_2 M_beings M_number M_deedsDone M_toldMany M_toldRows sw_fu M_keptToldRows (0 : Int32)
def F_X6_restore_24  (M_keptNumber : Int32) (M_keptDeeds : Int32) (M_keptTold : Int32) (M_keptToldRows : Nat → Int32) : Nat → (Nat → Int32) → Int32 → Option (Int32 × Int32 × Int32 × Int32 × (Nat → Int32))
  | 0, _, _ => none
  | fu + 1, M_toldRows, l1 => if (8 : Int32) ≤ l1 then some (M_keptNumber, M_keptNumber, M_keptDeeds, M_keptTold, M_toldRows) else sw_ix l1 8 (sw_ix l1 8 ((F_X6_restore_24  M_keptNumber M_keptDeeds M_keptTold M_keptToldRows fu) (upd M_toldRows l1.toNatClampNeg (M_keptToldRows l1.toNatClampNeg)) (l1 + (1 : Int32))))
def F_X6_restore (M_beings : Int32) (M_number : Int32) (M_deedsDone : Int32) (M_toldMany : Int32) (M_keptNumber : Int32) (M_keptBeings : Int32) (M_keptDeeds : Int32) (M_keptTold : Int32) (M_toldRows : Nat → Int32) (M_keptToldRows : Nat → Int32) : Option (Int32 × Int32 × Int32 × Int32 × (Nat → Int32)) := if M_keptNumber = (-1 : Int32) then some ((-103 : Int32), M_number, M_deedsDone, M_toldMany, M_toldRows) else if M_keptBeings = M_beings then F_X6_restore_24 M_keptNumber M_keptDeeds M_keptTold M_keptToldRows sw_fu M_toldRows (0 : Int32) else some ((-103 : Int32), M_number, M_deedsDone, M_toldMany, M_toldRows)
def F_X6_countOf_30 (k4 : Int32 → Int32 → Option (Int32)) (M_pageMany : Int32) (M_beings : Int32) (M_number : Int32) (M_deedsDone : Int32) (M_toldMany : Int32) (M_rows : Nat → Int32) (l1 : Int32) (l3 : Int32) (s0 : Int32) (s1 : Int32) : Option (Int32) := k4 (s0 + s1) (l3 + (1 : Int32))
def F_X6_countOf_4  (M_pageMany : Int32) (M_beings : Int32) (M_number : Int32) (M_deedsDone : Int32) (M_toldMany : Int32) (M_rows : Nat → Int32) (l1 : Int32) : Nat → Int32 → Int32 → Option (Int32)
  | 0, _, _ => none
  | fu + 1, l2, l3 => if M_beings ≤ l3 then if l1 = (0 : Int32) then some (M_beings) else if l1 = (1 : Int32) then some (l2) else if l1 = (2 : Int32) then some (M_deedsDone) else if l1 = (3 : Int32) then some (M_toldMany) else if l1 = (4 : Int32) then some (M_pageMany) else if l1 = (5 : Int32) then (F_X6_mayMany M_beings M_rows M_number).bind (fun q1 => some (q1)) else some ((-102 : Int32)) else (F_X6_holder M_number l3).bind (fun q2 => if q2 = (-1 : Int32) then F_X6_countOf_30 (F_X6_countOf_4  M_pageMany M_beings M_number M_deedsDone M_toldMany M_rows l1 fu) M_pageMany M_beings M_number M_deedsDone M_toldMany M_rows l1 l3 l2 (1 : Int32) else F_X6_countOf_30 (F_X6_countOf_4  M_pageMany M_beings M_number M_deedsDone M_toldMany M_rows l1 fu) M_pageMany M_beings M_number M_deedsDone M_toldMany M_rows l1 l3 l2 (0 : Int32))
def F_X6_countOf (M_pageMany : Int32) (M_beings : Int32) (M_number : Int32) (M_deedsDone : Int32) (M_toldMany : Int32) (M_rows : Nat → Int32) (l1 : Int32) : Option (Int32) := F_X6_countOf_4 M_pageMany M_beings M_number M_deedsDone M_toldMany M_rows l1 sw_fu (0 : Int32) (0 : Int32)
def F_X6_count (M_pageMany : Int32) (M_beings : Int32) (M_number : Int32) (M_deedsDone : Int32) (M_toldMany : Int32) (M_rows : Nat → Int32) (l1 : Int32) : Option (Int32) := (F_X6_countOf M_pageMany M_beings M_number M_deedsDone M_toldMany M_rows l1).bind (fun q1 => some (q1))
def F_X6_say (M_hash : Int64) (l1 : Int64) : Option (Int64) := some ((((31 : Int64) * M_hash) + l1))
def F_X6_digest_23 (k13 : Int64 → Int32 → Option (Int64 × Int32 × Int64 × (Nat → Int32) × (Nat → Int32) × (Nat → Int32) × (Nat → Int32))) (M_pageMany : Int32) (M_beings : Int32) (M_number : Int32) (M_deedsDone : Int32) (M_lined : Int32) (M_toldMany : Int32) (M_page : Nat → Int32) (M_rows : Nat → Int32) (M_far : Nat → Int32) (M_firsts : Nat → Int32) (M_line : Nat → Int32) (M_toldRows : Nat → Int32) (M_parts : Nat → Int32) (l1 : Int32) : Nat → Int64 → Int32 → Option (Int64 × Int32 × Int64 × (Nat → Int32) × (Nat → Int32) × (Nat → Int32) × (Nat → Int32))
  | 0, _, _ => none
  | fu + 1, M_hash, l2 => if (8 : Int32) ≤ l2 then (F_X6_deepest M_lined M_line l1).bind (fun q1 => (F_X6_say M_hash ((q1).toInt64)).bind (fun q2 => k13 q2 (l1 + (1 : Int32)))) else (F_X6_tell M_beings M_number M_rows l1 l2).bind (fun q3 => (F_X6_say M_hash ((q3).toInt64)).bind (fun q4 => (F_X6_digest_23  k13 M_pageMany M_beings M_number M_deedsDone M_lined M_toldMany M_page M_rows M_far M_firsts M_line M_toldRows M_parts l1 fu) q4 (l2 + (1 : Int32))))
def F_X6_digest_158  (M_pageMany : Int32) (M_beings : Int32) (M_number : Int32) (M_deedsDone : Int32) (M_lined : Int32) (M_toldMany : Int32) (M_rows : Nat → Int32) (M_far : Nat → Int32) (M_firsts : Nat → Int32) (M_line : Nat → Int32) (M_parts : Nat → Int32) : Nat → Int64 → Int32 → Option (Int64 × Int32 × Int64 × (Nat → Int32) × (Nat → Int32) × (Nat → Int32) × (Nat → Int32))
  | 0, _, _ => none
  | fu + 1, M_hash, l2 => if (6 : Int32) ≤ l2 then some (M_hash, M_lined, M_hash, M_far, M_firsts, M_line, M_parts) else (F_X6_countOf M_pageMany M_beings M_number M_deedsDone M_toldMany M_rows l2).bind (fun q5 => (F_X6_say M_hash ((q5).toInt64)).bind (fun q6 => (F_X6_digest_158  M_pageMany M_beings M_number M_deedsDone M_lined M_toldMany M_rows M_far M_firsts M_line M_parts fu) q6 (l2 + (1 : Int32))))
def F_X6_digest_131  (M_pageMany : Int32) (M_beings : Int32) (M_number : Int32) (M_deedsDone : Int32) (M_lined : Int32) (M_toldMany : Int32) (M_page : Nat → Int32) (M_rows : Nat → Int32) (M_far : Nat → Int32) (M_firsts : Nat → Int32) (M_line : Nat → Int32) (M_parts : Nat → Int32) : Nat → Int64 → Int32 → Option (Int64 × Int32 × Int64 × (Nat → Int32) × (Nat → Int32) × (Nat → Int32) × (Nat → Int32))
  | 0, _, _ => none
  | fu + 1, M_hash, l2 => if M_pageMany ≤ l2 then F_X6_digest_158 M_pageMany M_beings M_number M_deedsDone M_lined M_toldMany M_rows M_far M_firsts M_line M_parts sw_fu M_hash (0 : Int32) else sw_ix l2 40 ((F_X6_say M_hash ((M_page l2.toNatClampNeg).toInt64)).bind (fun q8 => (F_X6_digest_131  M_pageMany M_beings M_number M_deedsDone M_lined M_toldMany M_page M_rows M_far M_firsts M_line M_parts fu) q8 (l2 + (1 : Int32))))
def F_X6_digest_13  (M_pageMany : Int32) (M_beings : Int32) (M_number : Int32) (M_deedsDone : Int32) (M_lined : Int32) (M_toldMany : Int32) (M_page : Nat → Int32) (M_rows : Nat → Int32) (M_far : Nat → Int32) (M_firsts : Nat → Int32) (M_line : Nat → Int32) (M_toldRows : Nat → Int32) (M_parts : Nat → Int32) : Nat → Int64 → Int32 → Option (Int64 × Int32 × Int64 × (Nat → Int32) × (Nat → Int32) × (Nat → Int32) × (Nat → Int32))
  | 0, _, _ => none
  | fu + 1, M_hash, l1 => if M_beings ≤ l1 then (F_X6_say M_hash ((M_number).toInt64)).bind (fun q9 => (F_X6_say q9 ((M_lined).toInt64)).bind (fun q10 => (F_X6_fitMany M_beings M_lined M_toldMany M_line M_toldRows).bind (fun q11 => (F_X6_say q10 ((q11).toInt64)).bind (fun q12 => (F_X6_askOf M_beings M_lined M_toldMany M_line M_toldRows M_parts).bind (fun q13 => (F_X6_say q12 q13.1.toInt64).bind (fun q14 => (F_X6_soonestOf M_beings M_number M_lined M_rows M_far M_firsts M_line (((1 : Int32) <<< (M_beings &&& 31)) - (1 : Int32)) (0 : Int32)).bind (fun q15 => (F_X6_say q14 q15.1.toInt64).bind (fun q16 => (F_X6_soonestOf M_beings M_number q15.2.1 M_rows q15.2.2.1 q15.2.2.2.1 q15.2.2.2.2 (((1 : Int32) <<< (M_beings &&& 31)) - (1 : Int32)) (1 : Int32)).bind (fun q17 => (F_X6_say q16 q17.1.toInt64).bind (fun q18 => F_X6_digest_131 M_pageMany M_beings M_number M_deedsDone q17.2.1 M_toldMany M_page M_rows q17.2.2.1 q17.2.2.2.1 q17.2.2.2.2 q13.2 sw_fu q18 (0 : Int32))))))))))) else F_X6_digest_23 (F_X6_digest_13  M_pageMany M_beings M_number M_deedsDone M_lined M_toldMany M_page M_rows M_far M_firsts M_line M_toldRows M_parts fu) M_pageMany M_beings M_number M_deedsDone M_lined M_toldMany M_page M_rows M_far M_firsts M_line M_toldRows M_parts l1 sw_fu M_hash (0 : Int32)
def F_X6_digest (M_pageMany : Int32) (M_beings : Int32) (M_number : Int32) (M_deedsDone : Int32) (M_lined : Int32) (M_toldMany : Int32) (M_hash : Int64) (M_page : Nat → Int32) (M_rows : Nat → Int32) (M_far : Nat → Int32) (M_firsts : Nat → Int32) (M_line : Nat → Int32) (M_toldRows : Nat → Int32) (M_parts : Nat → Int32) : Option (Int64 × Int32 × Int64 × (Nat → Int32) × (Nat → Int32) × (Nat → Int32) × (Nat → Int32)) := (F_X6_lay M_beings M_number M_lined M_rows M_far M_firsts M_line).bind (fun q19 => F_X6_digest_13 M_pageMany M_beings M_number M_deedsDone q19.1 M_toldMany M_page M_rows q19.2.1 q19.2.2.1 q19.2.2.2 M_toldRows M_parts sw_fu (709 : Int64) (0 : Int32))
end
section
abbrev rm_J7_fill_53178 : Room := { frames := 0, cells := 0, slots := 0, locals := 0 }
set_option maxHeartbeats 1000000 in
set_option maxRecDepth 100000 in
theorem k_J7_fill_53178 (l : Launch) (dC : Nat → ClassId) (dI : Nat → Nat → Nat) (cI cZ : ClassId) (t0 : Nat) (sz : Nat) (nA : Nat) (aG : Nat) (G : Nat → Int32) (l1 : Int32) (G' : Nat → Int32) (hf : F_J7_fill_53178 nA G l1 = some (G')) : Met l yJ7_fill_53178 wsJ7_fill_53178 rm_J7_fill_53178 (sw_PW (dC, dI) t0 [(cI, .int), (cZ, .boolean)] [.ref aG, .int l1] [(aG, .inl (cI, nA, .inl G))] sz) (va_Qv (fun (_ : Unit) => True) (fun _ t => sw_B (dC, dI) [(cI, .int), (cZ, .boolean)] [(aG, .inl (cI, nA, .inl G'))] (va_A [(aG, .inl (cI, nA, .inl G))] sz) t) (va_A [(aG, .inl (cI, nA, .inl G))] sz)) 0 0 (va_A [(aG, .inl (cI, nA, .inl G))] sz) := by
  refine sw_metW (cc := cJ7_fill_53178) (maxL := 4) (ret := none) (lv := [(0, .ref aG), (1, .int l1)]) (by decide) rfl (Nat.le_of_ble_eq_true rfl) rfl ?_
  intro p e s m below meth c Q A hsz hAe hQ hx hb hr hts hown hlocks hml hmn hP hK hD hE hS hA ls hl
  have hS0 := hS
  have hown : s.vm.findClass RJ7 = some m.cls := hown
  have hf := (F_J7_fill_53178.eq_1 _ _ _).symm.trans hf
  have hf0 := hf
  clear hf
  have hP0 := hP
  have hD0 := hD
  clear hP hD hS
  have hl0 := hl
  clear hl
  have hB_5 : ∀ (l3 : Int32), ∀ (fu : Nat) (G : Nat → Int32) (l2 : Int32), F_J7_fill_53178_5 nA l1 l3 fu G l2 = some (G') → ∀ (H : Heap) (locs : List Loc), va_P (dC, dI) vwCl [(aG, .inl (cI, nA, .inl G))] H → va_D A [(aG, .inl (cI, nA, .inl G))] → va_S A s.heap H locs → ∀ ls : Array Slot, lv_has ls 4 [(0, .ref aG), (1, .int l1), (2, .int l2), (3, .int l3)] → W p l e rm_J7_fill_53178 s m ([.ref aG, .int l1] : List Value).toArray below meth c H locs 0 0 Q (F0 m 5 ls []) := by
    intro  l3 fu
    induction fu with
    | zero =>
      intro G l2 hf
      exact nomatch (show (none : Option ((Nat → Int32))) = some (G') from hf)
    | succ fu ih =>
      intro G l2 hf H locs hP hD hS ls hl
      have hf := (F_J7_fill_53178_5.eq_2 _ _ _ _ _ _).symm.trans hf
      refine lv_iload_n hx hb dJ7_fill_53178_5 rfl (lv_at hl 2 rfl) ?_
      refine lv_iload_n hx hb dJ7_fill_53178_6 rfl (lv_at hl 3 rfl) ?_
      refine lv_icmp_ge (tgt := 20) hx hb dJ7_fill_53178_7 (by decide) (fun c1 => ?_) (fun c1 => ?_)
      · have hf := sw_ip c1 hf
        subst hQ hAe
        cases hf
        exact W.vret hx hb hr (fun t ht hW => ⟨⟨(), rfl, trivial, ⟨by rw [ht]; exact hP, va_K.moved hW.alike hK, hD⟩⟩, hS.F ht⟩) hS.2.2 dJ7_fill_53178_20 hlocks
      · have hf := sw_in c1 hf
        refine lv_aload_n hx hb dJ7_fill_53178_10 rfl (lv_at hl 0 rfl) ?_
        refine lv_iload_n hx hb dJ7_fill_53178_11 rfl (lv_at hl 2 rfl) ?_
        refine lv_iload_n hx hb dJ7_fill_53178_12 rfl (lv_at hl 1 rfl) ?_
        obtain ⟨hi1, hf⟩ := sw_ix_s hf
        refine va_iast hx hb hK hP hD hS 0 0 rfl rfl hi1 dJ7_fill_53178_13 (fun H locs hP hD hS => ?_)
        have hP : va_P (dC, dI) vwCl [(aG, .inl (cI, nA, .inl (upd G l2.toNatClampNeg l1)))] H := hP
        have hD : va_D A [(aG, .inl (cI, nA, .inl (upd G l2.toNatClampNeg l1)))] := hD
        refine lv_iinc (v := l2 + (1 : Int32)) (lv' := [(2, .int (l2 + (1 : Int32))), (0, .ref aG), (1, .int l1), (3, .int l3)]) hx hb dJ7_fill_53178_14 hl (k := 2) rfl (sw_ii _) (by decide) rfl (fun ls hl => ?_)
        refine lv_goto (tgt := 5) hx hb dJ7_fill_53178_17 (by decide) ?_
        exact ih (upd G l2.toNatClampNeg l1) (l2 + (1 : Int32)) hf H locs hP hD hS ls (lv_sub hl [1, 2, 0, 3] rfl)
  have hf := hf0
  have hl := hl0
  have hP := hP0
  have hD := hD0
  have hS := hS0
  obtain ⟨H, hH⟩ : ∃ H, H = s.heap := ⟨_, rfl⟩
  obtain ⟨locs, hlo⟩ : ∃ locs : List Loc, locs = [] := ⟨_, rfl⟩
  rw [← hH] at hP
  have hS : va_S A s.heap H locs := by rw [hH, hlo]; exact hS0
  suffices hgo : W p l e rm_J7_fill_53178 s m ([.ref aG, .int l1] : List Value).toArray below meth c H locs 0 0 Q (F0 m 0 ls []) by rw [hH, hlo] at hgo; exact hgo
  refine lv_iconst (v := 0) hx hb dJ7_fill_53178_0 (by decide) ?_
  refine lv_istore_n (lv' := [(2, .int (0 : Int32)), (0, .ref aG), (1, .int l1)]) hx hb dJ7_fill_53178_1 rfl hl (by decide) rfl (fun ls hl => ?_)
  refine lv_aload_n hx hb dJ7_fill_53178_2 rfl (lv_at hl 1 rfl) ?_
  refine va_alen hx hb hK hP 0 0 rfl rfl (v := Int32.ofNat nA) rfl dJ7_fill_53178_3 ?_
  refine lv_istore_n (lv' := [(3, .int (Int32.ofNat nA)), (2, .int (0 : Int32)), (0, .ref aG), (1, .int l1)]) hx hb dJ7_fill_53178_4 rfl hl (by decide) rfl (fun ls hl => ?_)
  exact hB_5  (Int32.ofNat nA) sw_fu G (0 : Int32) hf H locs hP hD hS ls (lv_sub hl [2, 3, 1, 0] rfl)
end
