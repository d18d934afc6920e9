abbrev rm_X6_tale : Room := { frames := 5, cells := 0, slots := 0, locals := 119 }
set_option maxHeartbeats 1000000 in
set_option maxRecDepth 100000 in
theorem k_X6_tale (l : Launch) (dC : Nat → ClassId) (dI : Nat → Nat → Nat) (cI cZ : ClassId) (t0 : Nat) (sz : Nat) (aM aM_page aM_readDeeds aM_rows aM_far aM_firsts aM_line aM_toldRows aM_parts aM_keptToldRows : Nat) (M_pageMany : Int32) (M_readMany : Int32) (M_readBase : Int32) (M_state : Int32) (M_beings : Int32) (M_number : Int32) (M_deedsDone : Int32) (M_lined : Int32) (M_toldMany : Int32) (M_seedNow : Int32) (M_keptNumber : Int32) (M_keptBeings : Int32) (M_keptDeeds : Int32) (M_keptTold : Int32) (M_hash : Int64) (M_page : Nat → Int32) (M_readDeeds : Nat → Int32) (M_rows : Nat → Int32) (rv : Int32) (M_readMany' : Int32) (M_readBase' : Int32) (M_state' : Int32) (M_readDeeds' : Nat → Int32) (hf : F_X6_tale M_pageMany M_readMany M_readBase M_state M_beings M_number M_page M_readDeeds M_rows = some (rv, M_readMany', M_readBase', M_state', M_readDeeds')) : Met l yX6_tale wsX6_tale rm_X6_tale (sw_PW (dC, dI) t0 [(cI, .int), (cZ, .boolean)] [.ref aM] [(aM, .inr (6, [.ref aM_page, .int M_pageMany, .ref aM_readDeeds, .int M_readMany, .int M_readBase, .int M_state, .int M_beings, .int M_number, .int M_deedsDone, .ref aM_rows, .ref aM_far, .ref aM_firsts, .ref aM_line, .int M_lined, .int M_toldMany, .ref aM_toldRows, .ref aM_parts, .int M_seedNow, .int M_keptNumber, .int M_keptBeings, .int M_keptDeeds, .int M_keptTold, .ref aM_keptToldRows, .long M_hash])), (aM_page, .inl (cI, 40, .inl M_page)), (aM_readDeeds, .inl (cI, 10, .inl M_readDeeds)), (aM_rows, .inl (cI, 20, .inl M_rows))] sz) (va_Qi (fun r (_ : Unit) => r = rv) (fun _ t => sw_B (dC, dI) [(cI, .int), (cZ, .boolean)] [(aM, .inr (6, [.ref aM_page, .int M_pageMany, .ref aM_readDeeds, .int M_readMany', .int M_readBase', .int M_state', .int M_beings, .int M_number, .int M_deedsDone, .ref aM_rows, .ref aM_far, .ref aM_firsts, .ref aM_line, .int M_lined, .int M_toldMany, .ref aM_toldRows, .ref aM_parts, .int M_seedNow, .int M_keptNumber, .int M_keptBeings, .int M_keptDeeds, .int M_keptTold, .ref aM_keptToldRows, .long M_hash])), (aM_page, .inl (cI, 40, .inl M_page)), (aM_readDeeds, .inl (cI, 10, .inl M_readDeeds')), (aM_rows, .inl (cI, 20, .inl M_rows))] (va_A [(aM, .inr (6, [.ref aM_page, .int M_pageMany, .ref aM_readDeeds, .int M_readMany, .int M_readBase, .int M_state, .int M_beings, .int M_number, .int M_deedsDone, .ref aM_rows, .ref aM_far, .ref aM_firsts, .ref aM_line, .int M_lined, .int M_toldMany, .ref aM_toldRows, .ref aM_parts, .int M_seedNow, .int M_keptNumber, .int M_keptBeings, .int M_keptDeeds, .int M_keptTold, .ref aM_keptToldRows, .long M_hash])), (aM_page, .inl (cI, 40, .inl M_page)), (aM_readDeeds, .inl (cI, 10, .inl M_readDeeds)), (aM_rows, .inl (cI, 20, .inl M_rows))] sz) t) (va_A [(aM, .inr (6, [.ref aM_page, .int M_pageMany, .ref aM_readDeeds, .int M_readMany, .int M_readBase, .int M_state, .int M_beings, .int M_number, .int M_deedsDone, .ref aM_rows, .ref aM_far, .ref aM_firsts, .ref aM_line, .int M_lined, .int M_toldMany, .ref aM_toldRows, .ref aM_parts, .int M_seedNow, .int M_keptNumber, .int M_keptBeings, .int M_keptDeeds, .int M_keptTold, .ref aM_keptToldRows, .long M_hash])), (aM_page, .inl (cI, 40, .inl M_page)), (aM_readDeeds, .inl (cI, 10, .inl M_readDeeds)), (aM_rows, .inl (cI, 20, .inl M_rows))] sz)) 0 0 (va_A [(aM, .inr (6, [.ref aM_page, .int M_pageMany, .ref aM_readDeeds, .int M_readMany, .int M_readBase, .int M_state, .int M_beings, .int M_number, .int M_deedsDone, .ref aM_rows, .ref aM_far, .ref aM_firsts, .ref aM_line, .int M_lined, .int M_toldMany, .ref aM_toldRows, .ref aM_parts, .int M_seedNow, .int M_keptNumber, .int M_keptBeings, .int M_keptDeeds, .int M_keptTold, .ref aM_keptToldRows, .long M_hash])), (aM_page, .inl (cI, 40, .inl M_page)), (aM_readDeeds, .inl (cI, 10, .inl M_readDeeds)), (aM_rows, .inl (cI, 20, .inl M_rows))] sz) := by
  refine sw_metW (cc := cX6_tale) (maxL := 4) (ret := (some .int)) (lv := [(0, .ref aM)]) (by decide) rfl (Nat.le_of_ble_eq_true rfl) rfl ?_
  intro p e s m below meth c Q A hsz hAe hQ hx hb hr hts hown hlocks hml hmn hP hK hD hE hS hA ls hl
  have hS0 := hS
  have hown : s.vm.findClass RX6 = some m.cls := hown
  have hf := (F_X6_tale.eq_1 _ _ _ _ _ _ _ _ _).symm.trans hf
  have hw4 := hts (.fieldLink RX6 58 "SwallowedInTurnModel" "readMany" "I") (List.mem_of_getElem? (i := 4) (by decide +kernel))
  have iX6 : ∀ w ∈ u_ws RX6 TX6 24, w ∈ wsX6_tale := by decide +kernel
  have hw5 := hts (.fieldLink RX6 13 "SwallowedInTurnModel" "readDeeds" "[I") (List.mem_of_getElem? (i := 5) (by decide +kernel))
  have hw1 := hts (.fieldLink RX6 47 "SwallowedInTurnModel" "pageMany" "I") (List.mem_of_getElem? (i := 1) (by decide +kernel))
  have hw2 := hts (.fieldLink RX6 55 "SwallowedInTurnModel" "state" "I") (List.mem_of_getElem? (i := 2) (by decide +kernel))
  have hw3 := hts (.fieldLink RX6 115 "SwallowedInTurnModel" "number" "I") (List.mem_of_getElem? (i := 3) (by decide +kernel))
  have hf0 := hf
  clear hf
  have hP0 := hP
  have hD0 := hD
  clear hP hD hS
  have hl0 := hl
  clear hl
  have hB_65 : ∀ (M_readMany : Int32) (M_readBase : Int32) (M_state : Int32) (M_readDeeds : Nat → Int32) (l2 : Int32) (s0 : Int32),∀ (k29 : Int32 → Int32 → Option (Int32 × Int32 × Int32 × Int32 × (Nat → Int32))), (∀ (l1 : Int32) (l2 : Int32), k29 l1 l2 = some (rv, M_readMany', M_readBase', M_state', M_readDeeds') → ∀ (H : Heap) (locs : List Loc), va_P (dC, dI) vwCl [(aM, .inr (6, [.ref aM_page, .int M_pageMany, .ref aM_readDeeds, .int M_readMany, .int M_readBase, .int M_state, .int M_beings, .int M_number, .int M_deedsDone, .ref aM_rows, .ref aM_far, .ref aM_firsts, .ref aM_line, .int M_lined, .int M_toldMany, .ref aM_toldRows, .ref aM_parts, .int M_seedNow, .int M_keptNumber, .int M_keptBeings, .int M_keptDeeds, .int M_keptTold, .ref aM_keptToldRows, .long M_hash])), (aM_page, .inl (cI, 40, .inl M_page)), (aM_readDeeds, .inl (cI, 10, .inl M_readDeeds)), (aM_rows, .inl (cI, 20, .inl M_rows))] H → va_D A [(aM, .inr (6, [.ref aM_page, .int M_pageMany, .ref aM_readDeeds, .int M_readMany, .int M_readBase, .int M_state, .int M_beings, .int M_number, .int M_deedsDone, .ref aM_rows, .ref aM_far, .ref aM_firsts, .ref aM_line, .int M_lined, .int M_toldMany, .ref aM_toldRows, .ref aM_parts, .int M_seedNow, .int M_keptNumber, .int M_keptBeings, .int M_keptDeeds, .int M_keptTold, .ref aM_keptToldRows, .long M_hash])), (aM_page, .inl (cI, 40, .inl M_page)), (aM_readDeeds, .inl (cI, 10, .inl M_readDeeds)), (aM_rows, .inl (cI, 20, .inl M_rows))] → va_S A s.heap H locs → ∀ ls : Array Slot, lv_has ls 4 [(0, .ref aM), (1, .int l1), (2, .int l2)] → W p l e rm_X6_tale s m ([.ref aM] : List Value).toArray below meth c H locs 0 0 Q (F0 m 29 ls [])) →  F_X6_tale_65 k29 M_readMany M_readBase M_state M_beings M_readDeeds M_rows l2 s0 = some (rv, M_readMany', M_readBase', M_state', M_readDeeds') → ∀ (H : Heap) (locs : List Loc), va_P (dC, dI) vwCl [(aM, .inr (6, [.ref aM_page, .int M_pageMany, .ref aM_readDeeds, .int M_readMany, .int M_readBase, .int M_state, .int M_beings, .int M_number, .int M_deedsDone, .ref aM_rows, .ref aM_far, .ref aM_firsts, .ref aM_line, .int M_lined, .int M_toldMany, .ref aM_toldRows, .ref aM_parts, .int M_seedNow, .int M_keptNumber, .int M_keptBeings, .int M_keptDeeds, .int M_keptTold, .ref aM_keptToldRows, .long M_hash])), (aM_page, .inl (cI, 40, .inl M_page)), (aM_readDeeds, .inl (cI, 10, .inl M_readDeeds)), (aM_rows, .inl (cI, 20, .inl M_rows))] H → va_D A [(aM, .inr (6, [.ref aM_page, .int M_pageMany, .ref aM_readDeeds, .int M_readMany, .int M_readBase, .int M_state, .int M_beings, .int M_number, .int M_deedsDone, .ref aM_rows, .ref aM_far, .ref aM_firsts, .ref aM_line, .int M_lined, .int M_toldMany, .ref aM_toldRows, .ref aM_parts, .int M_seedNow, .int M_keptNumber, .int M_keptBeings, .int M_keptDeeds, .int M_keptTold, .ref aM_keptToldRows, .long M_hash])), (aM_page, .inl (cI, 40, .inl M_page)), (aM_readDeeds, .inl (cI, 10, .inl M_readDeeds)), (aM_rows, .inl (cI, 20, .inl M_rows))] → va_S A s.heap H locs → ∀ ls : Array Slot, lv_has ls 4 [(0, .ref aM), (2, .int l2)] → W p l e rm_X6_tale s m ([.ref aM] : List Value).toArray below meth c H locs 0 0 Q (F0 m 65 ls [.int s0]) := by
    intro M_readMany M_readBase M_state M_readDeeds l2 s0 k29 hk29 hf H locs hP hD hS ls hl
    have hf := (F_X6_tale_65.eq_1 _ _ _ _ _ _ _ _ _).symm.trans hf
    refine lv_istore_n (lv' := [(3, .int s0), (0, .ref aM), (2, .int l2)]) hx hb dX6_tale_65 rfl hl (by decide) rfl (fun ls hl => ?_)
    refine lv_iload_n hx hb dX6_tale_66 rfl (lv_at hl 0 rfl) ?_
    refine lv_iconst (v := -1) hx hb dX6_tale_67 (by decide) ?_
    refine lv_icmp_ne (tgt := 73) hx hb dX6_tale_68 (by decide) (fun c1 => ?_) (fun c1 => ?_)
    · have hf := sw_in c1 hf
      refine lv_iload_n hx hb dX6_tale_73 rfl (lv_at hl 0 rfl) ?_
      refine lv_istore_n (lv' := [(1, .int s0), (3, .int s0), (0, .ref aM), (2, .int l2)]) hx hb dX6_tale_74 rfl hl (by decide) rfl (fun ls hl => ?_)
      refine lv_iinc (v := l2 + (1 : Int32)) (lv' := [(2, .int (l2 + (1 : Int32))), (1, .int s0), (3, .int s0), (0, .ref aM)]) hx hb dX6_tale_75 hl (k := 3) rfl (sw_ii _) (by decide) rfl (fun ls hl => ?_)
      refine lv_goto (tgt := 29) hx hb dX6_tale_78 (by decide) ?_
      exact hk29 s0 (l2 + (1 : Int32)) hf H locs hP hD hS ls (lv_sub hl [3, 1, 0] rfl)
    · have hf := sw_ip c1 hf
      refine lv_iload_n hx hb dX6_tale_71 rfl (lv_at hl 2 rfl) ?_
      subst hQ hAe
      cases hf
      exact W.iret hx hb hr (fun t ht hW => ⟨⟨_, (), rfl, rfl, ⟨by rw [ht]; exact hP, va_K.moved hW.alike hK, hD⟩⟩, hS.F ht⟩) hS.2.2 dX6_tale_72 hlocks
  have hB_29 : ∀ (M_readMany : Int32) (M_readBase : Int32) (M_state : Int32) (M_readDeeds : Nat → Int32), ∀ (fu : Nat) (l1 : Int32) (l2 : Int32), F_X6_tale_29 M_readMany M_readBase M_state M_beings M_readDeeds M_rows fu l1 l2 = some (rv, M_readMany', M_readBase', M_state', M_readDeeds') → ∀ (H : Heap) (locs : List Loc), va_P (dC, dI) vwCl [(aM, .inr (6, [.ref aM_page, .int M_pageMany, .ref aM_readDeeds, .int M_readMany, .int M_readBase, .int M_state, .int M_beings, .int M_number, .int M_deedsDone, .ref aM_rows, .ref aM_far, .ref aM_firsts, .ref aM_line, .int M_lined, .int M_toldMany, .ref aM_toldRows, .ref aM_parts, .int M_seedNow, .int M_keptNumber, .int M_keptBeings, .int M_keptDeeds, .int M_keptTold, .ref aM_keptToldRows, .long M_hash])), (aM_page, .inl (cI, 40, .inl M_page)), (aM_readDeeds, .inl (cI, 10, .inl M_readDeeds)), (aM_rows, .inl (cI, 20, .inl M_rows))] H → va_D A [(aM, .inr (6, [.ref aM_page, .int M_pageMany, .ref aM_readDeeds, .int M_readMany, .int M_readBase, .int M_state, .int M_beings, .int M_number, .int M_deedsDone, .ref aM_rows, .ref aM_far, .ref aM_firsts, .ref aM_line, .int M_lined, .int M_toldMany, .ref aM_toldRows, .ref aM_parts, .int M_seedNow, .int M_keptNumber, .int M_keptBeings, .int M_keptDeeds, .int M_keptTold, .ref aM_keptToldRows, .long M_hash])), (aM_page, .inl (cI, 40, .inl M_page)), (aM_readDeeds, .inl (cI, 10, .inl M_readDeeds)), (aM_rows, .inl (cI, 20, .inl M_rows))] → va_S A s.heap H locs → ∀ ls : Array Slot, lv_has ls 4 [(0, .ref aM), (1, .int l1), (2, .int l2)] → W p l e rm_X6_tale s m ([.ref aM] : List Value).toArray below meth c H locs 0 0 Q (F0 m 29 ls []) := by
    intro M_readMany M_readBase M_state M_readDeeds  fu
    induction fu with
    | zero =>
      intro l1 l2 hf
      exact nomatch (show (none : Option (Int32 × Int32 × Int32 × Int32 × (Nat → Int32))) = some (rv, M_readMany', M_readBase', M_state', M_readDeeds') from hf)
    | succ fu ih =>
      intro l1 l2 hf H locs hP hD hS ls hl
      have hf := (F_X6_tale_29.eq_2 _ _ _ _ _ _ _ _ _).symm.trans hf
      refine lv_iload_n hx hb dX6_tale_29 rfl (lv_at hl 2 rfl) ?_
      refine lv_aload_n hx hb dX6_tale_30 rfl (lv_at hl 0 rfl) ?_
      refine va_get (D := (dC, dI)) (ci := 6) (v := .int M_readMany) (C := RX6) (T := TX6) (N := 24) hx hb hts iX6 hown hK hP 0 rfl rfl 3 (by decide) hw4 (fun _ h9 => h9) rfl dX6_tale_31 ?_
      refine lv_icmp_ge (tgt := 81) hx hb dX6_tale_34 (by decide) (fun c2 => ?_) (fun c2 => ?_)
      · have hf := sw_ip c2 hf
        refine lv_aload_n hx hb dX6_tale_81 rfl (lv_at hl 0 rfl) ?_
        refine va_get (D := (dC, dI)) (ci := 6) (v := .int M_readMany) (C := RX6) (T := TX6) (N := 24) hx hb hts iX6 hown hK hP 0 rfl rfl 3 (by decide) hw4 (fun _ h9 => h9) rfl dX6_tale_82 ?_
        subst hQ hAe
        cases hf
        exact W.iret hx hb hr (fun t ht hW => ⟨⟨_, (), rfl, rfl, ⟨by rw [ht]; exact hP, va_K.moved hW.alike hK, hD⟩⟩, hS.F ht⟩) hS.2.2 dX6_tale_85 hlocks
      · have hf := sw_in c2 hf
        refine lv_aload_n hx hb dX6_tale_37 rfl (lv_at hl 0 rfl) ?_
        refine lv_aload_n hx hb dX6_tale_38 rfl (lv_at hl 0 rfl) ?_
        refine va_get (D := (dC, dI)) (ci := 6) (v := .ref aM_readDeeds) (C := RX6) (T := TX6) (N := 24) hx hb hts iX6 hown hK hP 0 rfl rfl 2 (by decide) hw5 (fun _ h9 => h9) rfl dX6_tale_39 ?_
        refine lv_iload_n hx hb dX6_tale_42 rfl (lv_at hl 2 rfl) ?_
        obtain ⟨hi1, hf⟩ := sw_ix_s hf
        refine va_iald hx hb hK hP 2 0 rfl rfl hi1 dX6_tale_43 ?_
        obtain ⟨q2, hq2, hf⟩ := sw_bs hf
        have hPc := hP.sub (ws' := [(aM, .inr (6, [.ref aM_page, .int M_pageMany, .ref aM_readDeeds, .int M_readMany, .int M_readBase, .int M_state, .int M_beings, .int M_number, .int M_deedsDone, .ref aM_rows, .ref aM_far, .ref aM_firsts, .ref aM_line, .int M_lined, .int M_toldMany, .ref aM_toldRows, .ref aM_parts, .int M_seedNow, .int M_keptNumber, .int M_keptBeings, .int M_keptDeeds, .int M_keptTold, .ref aM_keptToldRows, .long M_hash]))]) [0] rfl
        refine sw_rd (W.runV (As := [.int (M_readDeeds l2.toNatClampNeg)]) (rest := []) ⟨hx, hb, hml, hown, hts⟩ (k_X6_isDeed l dC dI cI cZ t0 aM aM_page aM_readDeeds aM_rows aM_far aM_firsts aM_line aM_toldRows aM_parts aM_keptToldRows M_pageMany M_readMany M_readBase M_state M_beings M_number M_deedsDone M_lined M_toldMany M_seedNow M_keptNumber M_keptBeings M_keptDeeds M_keptTold M_hash (M_readDeeds l2.toNatClampNeg) q2 hq2) (cwV 1 hts gX6_tale_X6_isDeed rfl rfl rfl (by decide +kernel) ⟨Nat.le_of_ble_eq_true rfl, Nat.le_of_ble_eq_true rfl⟩) ⟨sw_PR_bl, va_recv hK hPc (ci := 6) (q0 := 0) rfl rfl, sw_PR_pre hK hPc hE hS⟩ rfl rfl hl.1 rfl (lv_room (Nat.le_of_ble_eq_true rfl)) dX6_tale_44 ⟨Nat.zero_le _, Nat.zero_le _⟩) ?_
        refine lv_if_eq (tgt := 64) hx hb dX6_tale_47 (by decide) (fun c3 => ?_) (fun c3 => ?_)
        · have hf := sw_ip c3 hf
          refine lv_iconst (v := -1) hx hb dX6_tale_64 (by decide) ?_
          exact hB_65 M_readMany M_readBase M_state M_readDeeds l2 (-1 : Int32) (F_X6_tale_29  M_readMany M_readBase M_state M_beings M_readDeeds M_rows fu) ih hf H locs hP hD hS ls (lv_sub hl [0, 2] rfl)
        · have hf := sw_in c3 hf
          refine lv_aload_n hx hb dX6_tale_50 rfl (lv_at hl 0 rfl) ?_
          refine lv_iload_n hx hb dX6_tale_51 rfl (lv_at hl 1 rfl) ?_
          refine lv_aload_n hx hb dX6_tale_52 rfl (lv_at hl 0 rfl) ?_
          refine va_get (D := (dC, dI)) (ci := 6) (v := .ref aM_readDeeds) (C := RX6) (T := TX6) (N := 24) hx hb hts iX6 hown hK hP 0 rfl rfl 2 (by decide) hw5 (fun _ h9 => h9) rfl dX6_tale_53 ?_
          refine lv_iload_n hx hb dX6_tale_56 rfl (lv_at hl 2 rfl) ?_
          obtain ⟨hi3, hf⟩ := sw_ix_s hf
          refine va_iald hx hb hK hP 2 0 rfl rfl hi3 dX6_tale_57 ?_
          obtain ⟨q4, hq4, hf⟩ := sw_bs hf
          have hPc := hP.sub (ws' := [(aM, .inr (6, [.ref aM_page, .int M_pageMany, .ref aM_readDeeds, .int M_readMany, .int M_readBase, .int M_state, .int M_beings, .int M_number, .int M_deedsDone, .ref aM_rows, .ref aM_far, .ref aM_firsts, .ref aM_line, .int M_lined, .int M_toldMany, .ref aM_toldRows, .ref aM_parts, .int M_seedNow, .int M_keptNumber, .int M_keptBeings, .int M_keptDeeds, .int M_keptTold, .ref aM_keptToldRows, .long M_hash])), (aM_rows, .inl (cI, 20, .inl M_rows))]) [0, 3] rfl
          refine sw_rd (W.runV (As := [.int l1, .int (M_readDeeds l2.toNatClampNeg)]) (rest := []) ⟨hx, hb, hml, hown, hts⟩ (k_X6_done l dC dI cI cZ t0 aM aM_page aM_readDeeds aM_rows aM_far aM_firsts aM_line aM_toldRows aM_parts aM_keptToldRows M_pageMany M_readMany M_readBase M_state M_beings M_number M_deedsDone M_lined M_toldMany M_seedNow M_keptNumber M_keptBeings M_keptDeeds M_keptTold M_hash M_rows l1 (M_readDeeds l2.toNatClampNeg) q4 hq4) (cwV 2 hts gX6_tale_X6_done rfl rfl rfl (by decide +kernel) ⟨Nat.le_of_ble_eq_true rfl, Nat.le_of_ble_eq_true rfl⟩) ⟨sw_PR_bl, va_recv hK hPc (ci := 6) (q0 := 0) rfl rfl, sw_PR_pre hK hPc hE hS⟩ rfl rfl hl.1 rfl (lv_room (Nat.le_of_ble_eq_true rfl)) dX6_tale_58 ⟨Nat.zero_le _, Nat.zero_le _⟩) ?_
          refine lv_goto (tgt := 65) hx hb dX6_tale_61 (by decide) ?_
          exact hB_65 M_readMany M_readBase M_state M_readDeeds l2 q4 (F_X6_tale_29  M_readMany M_readBase M_state M_beings M_readDeeds M_rows fu) ih hf H locs hP hD hS ls (lv_sub hl [0, 2] rfl)
  have hf := hf0
  have hl := hl0
  have hP := hP0
  have hD := hD0
  have hS := hS0
  obtain ⟨H, hH⟩ : ∃ H, H = s.heap := ⟨_, rfl⟩
  obtain ⟨locs, hlo⟩ : ∃ locs : List Loc, locs = [] := ⟨_, rfl⟩
  rw [← hH] at hP
  have hS : va_S A s.heap H locs := by rw [hH, hlo]; exact hS0
  suffices hgo : W p l e rm_X6_tale s m ([.ref aM] : List Value).toArray below meth c H locs 0 0 Q (F0 m 0 ls []) by rw [hH, hlo] at hgo; exact hgo
  refine lv_aload_n hx hb dX6_tale_0 rfl (lv_at hl 0 rfl) ?_
  obtain ⟨q5, hq5, hf⟩ := sw_bs hf
  have hPc := hP.sub (ws' := [(aM, .inr (6, [.ref aM_page, .int M_pageMany, .ref aM_readDeeds, .int M_readMany, .int M_readBase, .int M_state, .int M_beings, .int M_number, .int M_deedsDone, .ref aM_rows, .ref aM_far, .ref aM_firsts, .ref aM_line, .int M_lined, .int M_toldMany, .ref aM_toldRows, .ref aM_parts, .int M_seedNow, .int M_keptNumber, .int M_keptBeings, .int M_keptDeeds, .int M_keptTold, .ref aM_keptToldRows, .long M_hash])), (aM_page, .inl (cI, 40, .inl M_page)), (aM_readDeeds, .inl (cI, 10, .inl M_readDeeds))]) [0, 1, 2] rfl
  have hDc := hD.sub (ws' := [(aM, .inr (6, [.ref aM_page, .int M_pageMany, .ref aM_readDeeds, .int M_readMany, .int M_readBase, .int M_state, .int M_beings, .int M_number, .int M_deedsDone, .ref aM_rows, .ref aM_far, .ref aM_firsts, .ref aM_line, .int M_lined, .int M_toldMany, .ref aM_toldRows, .ref aM_parts, .int M_seedNow, .int M_keptNumber, .int M_keptBeings, .int M_keptDeeds, .int M_keptTold, .ref aM_keptToldRows, .long M_hash])), (aM_page, .inl (cI, 40, .inl M_page)), (aM_readDeeds, .inl (cI, 10, .inl M_readDeeds))]) [0, 1, 2] (by decide) rfl
  have hFc := va_free (wc := [(aM, .inr (6, [.ref aM_page, .int M_pageMany, .ref aM_readDeeds, .int M_readMany, .int M_readBase, .int M_state, .int M_beings, .int M_number, .int M_deedsDone, .ref aM_rows, .ref aM_far, .ref aM_firsts, .ref aM_line, .int M_lined, .int M_toldMany, .ref aM_toldRows, .ref aM_parts, .int M_seedNow, .int M_keptNumber, .int M_keptBeings, .int M_keptDeeds, .int M_keptTold, .ref aM_keptToldRows, .long M_hash])), (aM_page, .inl (cI, 40, .inl M_page)), (aM_readDeeds, .inl (cI, 10, .inl M_readDeeds))]) hD hS hA [0, 1, 2] rfl
  refine sw_wi (wn := [(aM, .inr (6, [.ref aM_page, .int M_pageMany, .ref aM_readDeeds, .int q5.2.1, .int q5.2.2.1, .int q5.2.2.2.1, .int M_beings, .int M_number, .int M_deedsDone, .ref aM_rows, .ref aM_far, .ref aM_firsts, .ref aM_line, .int M_lined, .int M_toldMany, .ref aM_toldRows, .ref aM_parts, .int M_seedNow, .int M_keptNumber, .int M_keptBeings, .int M_keptDeeds, .int M_keptTold, .ref aM_keptToldRows, .long M_hash])), (aM_page, .inl (cI, 40, .inl M_page)), (aM_readDeeds, .inl (cI, 10, .inl q5.2.2.2.2)), (aM_rows, .inl (cI, 20, .inl M_rows))]) (w1 := [(aM, .inr (6, [.ref aM_page, .int M_pageMany, .ref aM_readDeeds, .int q5.2.1, .int q5.2.2.1, .int q5.2.2.2.1, .int M_beings, .int M_number, .int M_deedsDone, .ref aM_rows, .ref aM_far, .ref aM_firsts, .ref aM_line, .int M_lined, .int M_toldMany, .ref aM_toldRows, .ref aM_parts, .int M_seedNow, .int M_keptNumber, .int M_keptBeings, .int M_keptDeeds, .int M_keptTold, .ref aM_keptToldRows, .long M_hash])), (aM_page, .inl (cI, 40, .inl M_page)), (aM_readDeeds, .inl (cI, 10, .inl q5.2.2.2.2))]) (wr := [(aM_rows, .inl (cI, 20, .inl M_rows))]) (va_runV (As := []) (rest := []) ⟨hx, hb, hml, hown, hts⟩ (k_X6_faultOf l dC dI cI cZ t0 H.size aM aM_page aM_readDeeds aM_rows aM_far aM_firsts aM_line aM_toldRows aM_parts aM_keptToldRows M_pageMany M_readMany M_readBase M_state M_beings M_number M_deedsDone M_lined M_toldMany M_seedNow M_keptNumber M_keptBeings M_keptDeeds M_keptTold M_hash M_page M_readDeeds q5.1 q5.2.1 q5.2.2.1 q5.2.2.2.1 q5.2.2.2.2 hq5) (cwV 0 hts gX6_tale_X6_faultOf rfl rfl rfl (by decide +kernel) ⟨Nat.le_of_ble_eq_true rfl, Nat.le_of_ble_eq_true rfl⟩) ⟨sw_PW_bl, va_recv hK hPc (ci := 6) (q0 := 0) rfl rfl, sw_PW_pre hK hPc hDc hE hS hFc⟩ rfl rfl hl.1 rfl (lv_room (Nat.le_of_ble_eq_true rfl)) dX6_tale_1 ⟨Nat.zero_le _, Nat.zero_le _⟩) hS hP hD hFc [0, 1, 2] [3] [1, 2, 3, 0] rfl rfl (by decide) (by decide) (by decide) rfl (fun H locs hP hD hS => ?_)
  refine lv_aload_n hx hb dX6_tale_4 rfl (lv_at hl 0 rfl) ?_
  refine va_get (D := (dC, dI)) (ci := 6) (v := .int M_pageMany) (C := RX6) (T := TX6) (N := 24) hx hb hts iX6 hown hK hP 0 rfl rfl 1 (by decide) hw1 (fun _ h9 => h9) rfl dX6_tale_5 ?_
  refine lv_icmp_lt (tgt := 19) hx hb dX6_tale_8 (by decide) (fun c4 => ?_) (fun c4 => ?_)
  · have hf := sw_ip c4 hf
    refine lv_bipush (v := -103) hx hb dX6_tale_19 (by decide) ?_
    subst hQ hAe
    cases hf
    exact W.iret hx hb hr (fun t ht hW => ⟨⟨_, (), rfl, rfl, ⟨by rw [ht]; exact hP, va_K.moved hW.alike hK, hD⟩⟩, hS.F ht⟩) hS.2.2 dX6_tale_21 hlocks
  · have hf := sw_in c4 hf
    refine lv_aload_n hx hb dX6_tale_11 rfl (lv_at hl 0 rfl) ?_
    refine va_get (D := (dC, dI)) (ci := 6) (v := .int q5.2.2.2.1) (C := RX6) (T := TX6) (N := 24) hx hb hts iX6 hown hK hP 0 rfl rfl 5 (by decide) hw2 (fun _ h9 => h9) rfl dX6_tale_12 ?_
    refine lv_iconst (v := 3) hx hb dX6_tale_15 (by decide) ?_
    refine lv_icmp_eq (tgt := 22) hx hb dX6_tale_16 (by decide) (fun c5 => ?_) (fun c5 => ?_)
    · have hf := sw_ip c5 hf
      refine lv_aload_n hx hb dX6_tale_22 rfl (lv_at hl 0 rfl) ?_
      refine va_get (D := (dC, dI)) (ci := 6) (v := .int M_number) (C := RX6) (T := TX6) (N := 24) hx hb hts iX6 hown hK hP 0 rfl rfl 7 (by decide) hw3 (fun _ h9 => h9) rfl dX6_tale_23 ?_
      refine lv_istore_n (lv' := [(1, .int M_number), (0, .ref aM)]) hx hb dX6_tale_26 rfl hl (by decide) rfl (fun ls hl => ?_)
      refine lv_iconst (v := 0) hx hb dX6_tale_27 (by decide) ?_
      refine lv_istore_n (lv' := [(2, .int (0 : Int32)), (1, .int M_number), (0, .ref aM)]) hx hb dX6_tale_28 rfl hl (by decide) rfl (fun ls hl => ?_)
      exact hB_29 q5.2.1 q5.2.2.1 q5.2.2.2.1 q5.2.2.2.2  sw_fu M_number (0 : Int32) hf H locs hP hD hS ls (lv_sub hl [2, 1, 0] rfl)
    · have hf := sw_in c5 hf
      refine lv_bipush (v := -103) hx hb dX6_tale_19 (by decide) ?_
      subst hQ hAe
      cases hf
      exact W.iret hx hb hr (fun t ht hW => ⟨⟨_, (), rfl, rfl, ⟨by rw [ht]; exact hP, va_K.moved hW.alike hK, hD⟩⟩, hS.F ht⟩) hS.2.2 dX6_tale_21 hlocks
abbrev rm_X6_walls : Room := { frames := 2, cells := 0, slots := 0, locals := 43 }
set_option maxHeartbeats 1000000 in
set_option maxRecDepth 100000 in
theorem k_X6_walls (l : Launch) (dC : Nat → ClassId) (dI : Nat → Nat → Nat) (cI cZ : ClassId) (t0 : Nat) (l0 : Int32) (l1 : Int32) (rv : Int32)  (hf : F_X6_walls l0 l1 = some (rv)) : Met l yX6_walls wsX6_walls rm_X6_walls (sw_PR (dC, dI) t0 [(cI, .int), (cZ, .boolean)] [.int l0, .int l1] []) (vp_Si (fun r => r = rv)) 0 0 (fun _ => False) := by
  refine sw_metR (cc := cX6_walls) (maxL := 4) (ret := (some .int)) (lv := [(0, .int l0), (1, .int l1)]) (by decide) rfl (Nat.le_of_ble_eq_true rfl) rfl ?_
  intro p e s m below meth c Q hQ hx hb hr hts hown hlocks hml hP hK hE hS ls hl
  have hown : s.vm.findClass RX6 = some m.cls := hown
  have hf := (F_X6_walls.eq_1 _ _).symm.trans hf
  have hf0 := hf
  clear hf
  have hl0 := hl
  clear hl
  have hB_8 :  ∀ (fu : Nat) (l2 : Int32) (l3 : Int32), F_X6_walls_8 l0 fu l2 l3 = some (rv) → ∀ ls : Array Slot, lv_has ls 4 [(0, .int l0), (2, .int l2), (3, .int l3)] → W p l e rm_X6_walls s m ([.int l0, .int l1] : List Value).toArray below meth c s.heap [] 0 0 Q (F0 m 8 ls []) := by
    intro   fu
    induction fu with
    | zero =>
      intro l2 l3 hf
      exact nomatch (show (none : Option (Int32)) = some (rv) from hf)
    | succ fu ih =>
      intro l2 l3 hf ls hl
      have hf := (F_X6_walls_8.eq_2 _ _ _ _).symm.trans hf
      refine lv_iload_n hx hb dX6_walls_8 rfl (lv_at hl 2 rfl) ?_
      refine lv_iconst (v := -1) hx hb dX6_walls_9 (by decide) ?_
      refine lv_icmp_eq (tgt := 25) hx hb dX6_walls_10 (by decide) (fun c1 => ?_) (fun c1 => ?_)
      · have hf := sw_ip c1 hf
        refine lv_iload_n hx hb dX6_walls_25 rfl (lv_at hl 1 rfl) ?_
        subst hQ
        exact W.iret hx hb hr (fun t ht hW => ⟨_, rfl, Option.some.inj hf, ht⟩) (fun _ h => absurd h List.not_mem_nil) dX6_walls_26 hlocks
      · have hf := sw_in c1 hf
        refine lv_iinc (v := l2 + (1 : Int32)) (lv' := [(2, .int (l2 + (1 : Int32))), (0, .int l0), (3, .int l3)]) hx hb dX6_walls_13 hl (k := 1) rfl (sw_ii _) (by decide) rfl (fun ls hl => ?_)
        refine lv_iload_n hx hb dX6_walls_16 rfl (lv_at hl 1 rfl) ?_
        refine lv_iload_n hx hb dX6_walls_17 rfl (lv_at hl 2 rfl) ?_
        obtain ⟨q1, hq1, hf⟩ := sw_bs hf
        have hPc := hP.sub (ws' := []) [] rfl
        refine sw_rd (W.runS (As := [.int l0, .int l3]) (rest := []) ⟨hx, hb, hml, hown, hts⟩ (k_X6_holder l dC dI cI cZ t0 l0 l3 q1 hq1) (va_cwS 2 hts gX6_walls_X6_holder rfl rfl rfl (by decide +kernel) ⟨Nat.le_of_ble_eq_true rfl, Nat.le_of_ble_eq_true rfl⟩) ⟨sw_PR_bl, sw_PR_pre hK hPc hE hS⟩ rfl rfl hl.1 rfl (lv_room (Nat.le_of_ble_eq_true rfl)) dX6_walls_18 ⟨Nat.zero_le _, Nat.zero_le _⟩) ?_
        refine lv_istore_n (lv' := [(3, .int q1), (2, .int (l2 + (1 : Int32))), (0, .int l0)]) hx hb dX6_walls_21 rfl hl (by decide) rfl (fun ls hl => ?_)
        refine lv_goto (tgt := 8) hx hb dX6_walls_22 (by decide) ?_
        exact ih (l2 + (1 : Int32)) q1 hf ls (lv_sub hl [2, 1, 0] rfl)
  have hf := hf0
  have hl := hl0
  refine lv_iconst (v := 0) hx hb dX6_walls_0 (by decide) ?_
  refine lv_istore_n (lv' := [(2, .int (0 : Int32)), (0, .int l0), (1, .int l1)]) hx hb dX6_walls_1 rfl hl (by decide) rfl (fun ls hl => ?_)
  refine lv_iload_n hx hb dX6_walls_2 rfl (lv_at hl 1 rfl) ?_
  refine lv_iload_n hx hb dX6_walls_3 rfl (lv_at hl 2 rfl) ?_
  obtain ⟨q2, hq2, hf⟩ := sw_bs hf
  have hPc := hP.sub (ws' := []) [] rfl
  refine sw_rd (W.runS (As := [.int l0, .int l1]) (rest := []) ⟨hx, hb, hml, hown, hts⟩ (k_X6_holder l dC dI cI cZ t0 l0 l1 q2 hq2) (va_cwS 2 hts gX6_walls_X6_holder rfl rfl rfl (by decide +kernel) ⟨Nat.le_of_ble_eq_true rfl, Nat.le_of_ble_eq_true rfl⟩) ⟨sw_PR_bl, sw_PR_pre hK hPc hE hS⟩ rfl rfl hl.1 rfl (lv_room (Nat.le_of_ble_eq_true rfl)) dX6_walls_4 ⟨Nat.zero_le _, Nat.zero_le _⟩) ?_
  refine lv_istore_n (lv' := [(3, .int q2), (2, .int (0 : Int32)), (0, .int l0), (1, .int l1)]) hx hb dX6_walls_7 rfl hl (by decide) rfl (fun ls hl => ?_)
  exact hB_8   sw_fu (0 : Int32) q2 hf ls (lv_sub hl [2, 1, 0] rfl)
abbrev rm_X6_hearsOne : Room := { frames := 2, cells := 0, slots := 0, locals := 43 }
set_option maxHeartbeats 1000000 in
set_option maxRecDepth 100000 in
theorem k_X6_hearsOne (l : Launch) (dC : Nat → ClassId) (dI : Nat → Nat → Nat) (cI cZ : ClassId) (t0 : Nat) (l0 : Int32) (l1 : Int32) (l2 : Int32) (rv : Int32)  (hf : F_X6_hearsOne l0 l1 l2 = some (rv)) : Met l yX6_hearsOne wsX6_hearsOne rm_X6_hearsOne (sw_PR (dC, dI) t0 [(cI, .int), (cZ, .boolean)] [.int l0, .int l1, .int l2] []) (vp_Si (fun r => r = rv)) 0 0 (fun _ => False) := by
  refine sw_metR (cc := cX6_hearsOne) (maxL := 6) (ret := (some .boolean)) (lv := [(0, .int l0), (1, .int l1), (2, .int l2)]) (by decide) rfl (Nat.le_of_ble_eq_true rfl) rfl ?_
  intro p e s m below meth c Q hQ hx hb hr hts hown hlocks hml hP hK hE hS ls hl
  have hown : s.vm.findClass RX6 = some m.cls := hown
  have hf := (F_X6_hearsOne.eq_1 _ _ _).symm.trans hf
  have hf0 := hf
  clear hf
  have hl0 := hl
  clear hl
  have hB_62 : ∀ (l3 : Int32) (l4 : Int32) (s0 : Int32), F_X6_hearsOne_62 l0 l3 l4 s0 = some (rv) → ∀ ls : Array Slot, lv_has ls 6 [(0, .int l0), (3, .int l3), (4, .int l4)] → W p l e rm_X6_hearsOne s m ([.int l0, .int l1, .int l2] : List Value).toArray below meth c s.heap [] 0 0 Q (F0 m 62 ls [.int s0]) := by
    intro l3 l4 s0  hf ls hl
    have hf := (F_X6_hearsOne_62.eq_1 _ _ _ _).symm.trans hf
    refine lv_istore (lv' := [(5, .int s0), (0, .int l0), (3, .int l3), (4, .int l4)]) hx hb dX6_hearsOne_62 hl (by decide) rfl (fun ls hl => ?_)
    refine lv_iload hx hb dX6_hearsOne_64 (lv_at hl 0 rfl) ?_
    refine lv_if_ne (tgt := 85) hx hb dX6_hearsOne_66 (by decide) (fun c1 => ?_) (fun c1 => ?_)
    · have hf := sw_in c1 hf
      refine lv_iconst (v := 1) hx hb dX6_hearsOne_85 (by decide) ?_
      refine lv_goto (tgt := 90) hx hb dX6_hearsOne_86 (by decide) ?_
      subst hQ
      exact W.zret hx hb hr rfl (fun t ht hW => ⟨_, rfl, Option.some.inj hf, ht⟩) (fun _ h => absurd h List.not_mem_nil) dX6_hearsOne_90 hlocks
    · have hf := sw_ip c1 hf
      refine lv_iload hx hb dX6_hearsOne_69 (lv_at hl 3 rfl) ?_
      refine lv_iconst (v := -1) hx hb dX6_hearsOne_71 (by decide) ?_
      refine lv_icmp_eq (tgt := 89) hx hb dX6_hearsOne_72 (by decide) (fun c2 => ?_) (fun c2 => ?_)
      · have hf := sw_ip c2 hf
        refine lv_iconst (v := 0) hx hb dX6_hearsOne_89 (by decide) ?_
        subst hQ
        exact W.zret hx hb hr rfl (fun t ht hW => ⟨_, rfl, Option.some.inj hf, ht⟩) (fun _ h => absurd h List.not_mem_nil) dX6_hearsOne_90 hlocks
      · have hf := sw_in c2 hf
        refine lv_iload_n hx hb dX6_hearsOne_75 rfl (lv_at hl 1 rfl) ?_
        refine lv_iload hx hb dX6_hearsOne_76 (lv_at hl 3 rfl) ?_
        obtain ⟨q1, hq1, hf⟩ := sw_bs hf
        have hPc := hP.sub (ws' := []) [] rfl
        refine sw_rd (W.runS (As := [.int l0, .int l4]) (rest := []) ⟨hx, hb, hml, hown, hts⟩ (k_X6_holder l dC dI cI cZ t0 l0 l4 q1 hq1) (va_cwS 2 hts gX6_hearsOne_X6_holder rfl rfl rfl (by decide +kernel) ⟨Nat.le_of_ble_eq_true rfl, Nat.le_of_ble_eq_true rfl⟩) ⟨sw_PR_bl, sw_PR_pre hK hPc hE hS⟩ rfl rfl hl.1 rfl (lv_room (Nat.le_of_ble_eq_true rfl)) dX6_hearsOne_78 ⟨Nat.zero_le _, Nat.zero_le _⟩) ?_
        refine lv_iload_n hx hb dX6_hearsOne_81 rfl (lv_at hl 2 rfl) ?_
        refine lv_icmp_ne (tgt := 89) hx hb dX6_hearsOne_82 (by decide) (fun c3 => ?_) (fun c3 => ?_)
        · have hf := sw_in c3 hf
          refine lv_iconst (v := 0) hx hb dX6_hearsOne_89 (by decide) ?_
          subst hQ
          exact W.zret hx hb hr rfl (fun t ht hW => ⟨_, rfl, Option.some.inj hf, ht⟩) (fun _ h => absurd h List.not_mem_nil) dX6_hearsOne_90 hlocks
        · have hf := sw_ip c3 hf
          refine lv_iconst (v := 1) hx hb dX6_hearsOne_85 (by decide) ?_
          refine lv_goto (tgt := 90) hx hb dX6_hearsOne_86 (by decide) ?_
          subst hQ
          exact W.zret hx hb hr rfl (fun t ht hW => ⟨_, rfl, Option.some.inj hf, ht⟩) (fun _ h => absurd h List.not_mem_nil) dX6_hearsOne_90 hlocks
  have hB_35 : ∀ (l3 : Int32) (l4 : Int32) (s0 : Int32), F_X6_hearsOne_35 l0 l3 l4 s0 = some (rv) → ∀ ls : Array Slot, lv_has ls 6 [(0, .int l0), (3, .int l3), (4, .int l4)] → W p l e rm_X6_hearsOne s m ([.int l0, .int l1, .int l2] : List Value).toArray below meth c s.heap [] 0 0 Q (F0 m 35 ls [.int s0]) := by
    intro l3 l4 s0  hf ls hl
    have hf := (F_X6_hearsOne_35.eq_1 _ _ _ _).symm.trans hf
    refine lv_istore (lv' := [(5, .int s0), (0, .int l0), (3, .int l3), (4, .int l4)]) hx hb dX6_hearsOne_35 hl (by decide) rfl (fun ls hl => ?_)
    refine lv_iload hx hb dX6_hearsOne_37 (lv_at hl 0 rfl) ?_
    refine lv_if_ne (tgt := 57) hx hb dX6_hearsOne_39 (by decide) (fun c4 => ?_) (fun c4 => ?_)
    · have hf := sw_in c4 hf
      refine lv_iconst (v := 1) hx hb dX6_hearsOne_57 (by decide) ?_
      refine lv_goto (tgt := 62) hx hb dX6_hearsOne_58 (by decide) ?_
      exact hB_62 l3 l4 (1 : Int32)  hf ls (lv_sub hl [1, 2, 3] rfl)
    · have hf := sw_ip c4 hf
      refine lv_iload_n hx hb dX6_hearsOne_42 rfl (lv_at hl 2 rfl) ?_
      refine lv_iconst (v := -1) hx hb dX6_hearsOne_43 (by decide) ?_
      refine lv_icmp_eq (tgt := 61) hx hb dX6_hearsOne_44 (by decide) (fun c5 => ?_) (fun c5 => ?_)
      · have hf := sw_ip c5 hf
        refine lv_iconst (v := 0) hx hb dX6_hearsOne_61 (by decide) ?_
        exact hB_62 l3 l4 (0 : Int32)  hf ls (lv_sub hl [1, 2, 3] rfl)
      · have hf := sw_in c5 hf
        refine lv_iload_n hx hb dX6_hearsOne_47 rfl (lv_at hl 1 rfl) ?_
        refine lv_iload_n hx hb dX6_hearsOne_48 rfl (lv_at hl 2 rfl) ?_
        obtain ⟨q2, hq2, hf⟩ := sw_bs hf
        have hPc := hP.sub (ws' := []) [] rfl
        refine sw_rd (W.runS (As := [.int l0, .int l3]) (rest := []) ⟨hx, hb, hml, hown, hts⟩ (k_X6_holder l dC dI cI cZ t0 l0 l3 q2 hq2) (va_cwS 2 hts gX6_hearsOne_X6_holder rfl rfl rfl (by decide +kernel) ⟨Nat.le_of_ble_eq_true rfl, Nat.le_of_ble_eq_true rfl⟩) ⟨sw_PR_bl, sw_PR_pre hK hPc hE hS⟩ rfl rfl hl.1 rfl (lv_room (Nat.le_of_ble_eq_true rfl)) dX6_hearsOne_49 ⟨Nat.zero_le _, Nat.zero_le _⟩) ?_
        refine lv_iload hx hb dX6_hearsOne_52 (lv_at hl 3 rfl) ?_
        refine lv_icmp_ne (tgt := 61) hx hb dX6_hearsOne_54 (by decide) (fun c6 => ?_) (fun c6 => ?_)
        · have hf := sw_in c6 hf
          refine lv_iconst (v := 0) hx hb dX6_hearsOne_61 (by decide) ?_
          exact hB_62 l3 l4 (0 : Int32)  hf ls (lv_sub hl [1, 2, 3] rfl)
        · have hf := sw_ip c6 hf
          refine lv_iconst (v := 1) hx hb dX6_hearsOne_57 (by decide) ?_
          refine lv_goto (tgt := 62) hx hb dX6_hearsOne_58 (by decide) ?_
          exact hB_62 l3 l4 (1 : Int32)  hf ls (lv_sub hl [1, 2, 3] rfl)
  have hf := hf0
  have hl := hl0
  refine lv_iload_n hx hb dX6_hearsOne_0 rfl (lv_at hl 0 rfl) ?_
  refine lv_iload_n hx hb dX6_hearsOne_1 rfl (lv_at hl 1 rfl) ?_
  obtain ⟨q3, hq3, hf⟩ := sw_bs hf
  have hPc := hP.sub (ws' := []) [] rfl
  refine sw_rd (W.runS (As := [.int l0, .int l1]) (rest := []) ⟨hx, hb, hml, hown, hts⟩ (k_X6_holder l dC dI cI cZ t0 l0 l1 q3 hq3) (va_cwS 2 hts gX6_hearsOne_X6_holder rfl rfl rfl (by decide +kernel) ⟨Nat.le_of_ble_eq_true rfl, Nat.le_of_ble_eq_true rfl⟩) ⟨sw_PR_bl, sw_PR_pre hK hPc hE hS⟩ rfl rfl hl.1 rfl (lv_room (Nat.le_of_ble_eq_true rfl)) dX6_hearsOne_2 ⟨Nat.zero_le _, Nat.zero_le _⟩) ?_
  refine lv_istore_n (lv' := [(3, .int q3), (0, .int l0), (1, .int l1), (2, .int l2)]) hx hb dX6_hearsOne_5 rfl hl (by decide) rfl (fun ls hl => ?_)
  refine lv_iload_n hx hb dX6_hearsOne_6 rfl (lv_at hl 1 rfl) ?_
  refine lv_iload_n hx hb dX6_hearsOne_7 rfl (lv_at hl 3 rfl) ?_
  obtain ⟨q4, hq4, hf⟩ := sw_bs hf
  have hPc := hP.sub (ws' := []) [] rfl
  refine sw_rd (W.runS (As := [.int l0, .int l2]) (rest := []) ⟨hx, hb, hml, hown, hts⟩ (k_X6_holder l dC dI cI cZ t0 l0 l2 q4 hq4) (va_cwS 2 hts gX6_hearsOne_X6_holder rfl rfl rfl (by decide +kernel) ⟨Nat.le_of_ble_eq_true rfl, Nat.le_of_ble_eq_true rfl⟩) ⟨sw_PR_bl, sw_PR_pre hK hPc hE hS⟩ rfl rfl hl.1 rfl (lv_room (Nat.le_of_ble_eq_true rfl)) dX6_hearsOne_8 ⟨Nat.zero_le _, Nat.zero_le _⟩) ?_
  refine lv_istore (lv' := [(4, .int q4), (3, .int q3), (0, .int l0), (1, .int l1), (2, .int l2)]) hx hb dX6_hearsOne_11 hl (by decide) rfl (fun ls hl => ?_)
  refine lv_iload_n hx hb dX6_hearsOne_13 rfl (lv_at hl 1 rfl) ?_
  refine lv_iload hx hb dX6_hearsOne_14 (lv_at hl 0 rfl) ?_
  refine lv_icmp_eq (tgt := 30) hx hb dX6_hearsOne_16 (by decide) (fun c7 => ?_) (fun c7 => ?_)
  · have hf := sw_ip c7 hf
    refine lv_iconst (v := 1) hx hb dX6_hearsOne_30 (by decide) ?_
    refine lv_goto (tgt := 35) hx hb dX6_hearsOne_31 (by decide) ?_
    exact hB_35 q3 q4 (1 : Int32)  hf ls (lv_sub hl [2, 1, 0] rfl)
  · have hf := sw_in c7 hf
    refine lv_iload_n hx hb dX6_hearsOne_19 rfl (lv_at hl 1 rfl) ?_
    refine lv_iload_n hx hb dX6_hearsOne_20 rfl (lv_at hl 4 rfl) ?_
    refine lv_icmp_eq (tgt := 30) hx hb dX6_hearsOne_21 (by decide) (fun c8 => ?_) (fun c8 => ?_)
    · have hf := sw_ip c8 hf
      refine lv_iconst (v := 1) hx hb dX6_hearsOne_30 (by decide) ?_
      refine lv_goto (tgt := 35) hx hb dX6_hearsOne_31 (by decide) ?_
      exact hB_35 q3 q4 (1 : Int32)  hf ls (lv_sub hl [2, 1, 0] rfl)
    · have hf := sw_in c8 hf
      refine lv_iload hx hb dX6_hearsOne_24 (lv_at hl 0 rfl) ?_
      refine lv_iload_n hx hb dX6_hearsOne_26 rfl (lv_at hl 3 rfl) ?_
      refine lv_icmp_ne (tgt := 34) hx hb dX6_hearsOne_27 (by decide) (fun c9 => ?_) (fun c9 => ?_)
      · have hf := sw_in c9 hf
        refine lv_iconst (v := 0) hx hb dX6_hearsOne_34 (by decide) ?_
        exact hB_35 q3 q4 (0 : Int32)  hf ls (lv_sub hl [2, 1, 0] rfl)
      · have hf := sw_ip c9 hf
        refine lv_iconst (v := 1) hx hb dX6_hearsOne_30 (by decide) ?_
        refine lv_goto (tgt := 35) hx hb dX6_hearsOne_31 (by decide) ?_
        exact hB_35 q3 q4 (1 : Int32)  hf ls (lv_sub hl [2, 1, 0] rfl)
abbrev rm_X6_heardBy : Room := { frames := 3, cells := 0, slots := 0, locals := 68 }
set_option maxHeartbeats 1000000 in
set_option maxRecDepth 100000 in
theorem k_X6_heardBy (l : Launch) (dC : Nat → ClassId) (dI : Nat → Nat → Nat) (cI cZ : ClassId) (t0 : Nat) (aM aM_page aM_readDeeds aM_rows aM_far aM_firsts aM_line aM_toldRows aM_parts aM_keptToldRows : Nat) (M_pageMany : Int32) (M_readMany : Int32) (M_readBase : Int32) (M_state : Int32) (M_beings : Int32) (M_number : Int32) (M_deedsDone : Int32) (M_lined : Int32) (M_toldMany : Int32) (M_seedNow : Int32) (M_keptNumber : Int32) (M_keptBeings : Int32) (M_keptDeeds : Int32) (M_keptTold : Int32) (M_hash : Int64) (l1 : Int32) (l2 : Int32) (rv : Int32)  (hf : F_X6_heardBy M_beings l1 l2 = some (rv)) : Met l yX6_heardBy wsX6_heardBy rm_X6_heardBy (sw_PR (dC, dI) t0 [(cI, .int), (cZ, .boolean)] [.ref aM, .int l1, .int l2] [(aM, .inr (6, [.ref aM_page, .int M_pageMany, .ref aM_readDeeds, .int M_readMany, .int M_readBase, .int M_state, .int M_beings, .int M_number, .int M_deedsDone, .ref aM_rows, .ref aM_far, .ref aM_firsts, .ref aM_line, .int M_lined, .int M_toldMany, .ref aM_toldRows, .ref aM_parts, .int M_seedNow, .int M_keptNumber, .int M_keptBeings, .int M_keptDeeds, .int M_keptTold, .ref aM_keptToldRows, .long M_hash]))]) (vp_Si (fun r => r = rv)) 0 0 (fun _ => False) := by
  refine sw_metR (cc := cX6_heardBy) (maxL := 5) (ret := (some .int)) (lv := [(0, .ref aM), (1, .int l1), (2, .int l2)]) (by decide) rfl (Nat.le_of_ble_eq_true rfl) rfl ?_
  intro p e s m below meth c Q hQ hx hb hr hts hown hlocks hml hP hK hE hS ls hl
  have hown : s.vm.findClass RX6 = some m.cls := hown
  have hf := (F_X6_heardBy.eq_1 _ _ _).symm.trans hf
  have hw1 := hts (.fieldLink RX6 72 "SwallowedInTurnModel" "beings" "I") (List.mem_of_getElem? (i := 1) (by decide +kernel))
  have iX6 : ∀ w ∈ u_ws RX6 TX6 24, w ∈ wsX6_heardBy := by decide +kernel
  have hf0 := hf
  clear hf
  have hl0 := hl
  clear hl
  have hB_39 : ∀ (l4 : Int32) (s0 : Int32) (s1 : Int32),∀ (k5 : Int32 → Int32 → Option (Int32)), (∀ (l3 : Int32) (l4 : Int32), k5 l3 l4 = some (rv) → ∀ ls : Array Slot, lv_has ls 5 [(0, .ref aM), (1, .int l1), (2, .int l2), (3, .int l3), (4, .int l4)] → W p l e rm_X6_heardBy s m ([.ref aM, .int l1, .int l2] : List Value).toArray below meth c s.heap [] 0 0 Q (F0 m 5 ls [])) →  F_X6_heardBy_39 k5 M_beings l1 l2 l4 s0 s1 = some (rv) → ∀ ls : Array Slot, lv_has ls 5 [(0, .ref aM), (1, .int l1), (2, .int l2), (4, .int l4)] → W p l e rm_X6_heardBy s m ([.ref aM, .int l1, .int l2] : List Value).toArray below meth c s.heap [] 0 0 Q (F0 m 39 ls [.int s1, .int s0]) := by
    intro l4 s0 s1 k5 hk5 hf ls hl
    have hf := (F_X6_heardBy_39.eq_1 _ _ _ _ _ _ _).symm.trans hf
    refine lv_ior hx hb dX6_heardBy_39 ?_
    refine lv_istore_n (lv' := [(3, .int (s0 ||| s1)), (0, .ref aM), (1, .int l1), (2, .int l2), (4, .int l4)]) hx hb dX6_heardBy_40 rfl hl (by decide) rfl (fun ls hl => ?_)
    refine lv_iinc (v := l4 + (1 : Int32)) (lv' := [(4, .int (l4 + (1 : Int32))), (3, .int (s0 ||| s1)), (0, .ref aM), (1, .int l1), (2, .int l2)]) hx hb dX6_heardBy_41 hl (k := 4) rfl (sw_ii _) (by decide) rfl (fun ls hl => ?_)
    refine lv_goto (tgt := 5) hx hb dX6_heardBy_44 (by decide) ?_
    exact hk5 (s0 ||| s1) (l4 + (1 : Int32)) hf ls (lv_sub hl [2, 3, 4, 1, 0] rfl)
  have hB_5 :  ∀ (fu : Nat) (l3 : Int32) (l4 : Int32), F_X6_heardBy_5 M_beings l1 l2 fu l3 l4 = some (rv) → ∀ ls : Array Slot, lv_has ls 5 [(0, .ref aM), (1, .int l1), (2, .int l2), (3, .int l3), (4, .int l4)] → W p l e rm_X6_heardBy s m ([.ref aM, .int l1, .int l2] : List Value).toArray below meth c s.heap [] 0 0 Q (F0 m 5 ls []) := by
    intro   fu
    induction fu with
    | zero =>
      intro l3 l4 hf
      exact nomatch (show (none : Option (Int32)) = some (rv) from hf)
    | succ fu ih =>
      intro l3 l4 hf ls hl
      have hf := (F_X6_heardBy_5.eq_2 _ _ _ _ _ _).symm.trans hf
      refine lv_iload hx hb dX6_heardBy_5 (lv_at hl 4 rfl) ?_
      refine lv_aload_n hx hb dX6_heardBy_7 rfl (lv_at hl 0 rfl) ?_
      refine va_get (D := (dC, dI)) (ci := 6) (v := .int M_beings) (C := RX6) (T := TX6) (N := 24) hx hb hts iX6 hown hK hP 0 rfl rfl 6 (by decide) hw1 (fun _ h9 => h9) rfl dX6_heardBy_8 ?_
      refine lv_icmp_ge (tgt := 47) hx hb dX6_heardBy_11 (by decide) (fun c1 => ?_) (fun c1 => ?_)
      · have hf := sw_ip c1 hf
        refine lv_iload_n hx hb dX6_heardBy_47 rfl (lv_at hl 3 rfl) ?_
        subst hQ
        exact W.iret hx hb hr (fun t ht hW => ⟨_, rfl, Option.some.inj hf, ht⟩) (fun _ h => absurd h List.not_mem_nil) dX6_heardBy_48 hlocks
      · have hf := sw_in c1 hf
        refine lv_iload_n hx hb dX6_heardBy_14 rfl (lv_at hl 3 rfl) ?_
        refine lv_iload hx hb dX6_heardBy_15 (lv_at hl 4 rfl) ?_
        refine lv_iload_n hx hb dX6_heardBy_17 rfl (lv_at hl 2 rfl) ?_
        refine lv_icmp_eq (tgt := 38) hx hb dX6_heardBy_18 (by decide) (fun c2 => ?_) (fun c2 => ?_)
        · have hf := sw_ip c2 hf
          refine lv_iconst (v := 0) hx hb dX6_heardBy_38 (by decide) ?_
          exact hB_39 l4 l3 (0 : Int32) (F_X6_heardBy_5  M_beings l1 l2 fu) ih hf ls (lv_sub hl [0, 1, 2, 4] rfl)
        · have hf := sw_in c2 hf
          refine lv_iload_n hx hb dX6_heardBy_21 rfl (lv_at hl 1 rfl) ?_
          refine lv_iload_n hx hb dX6_heardBy_22 rfl (lv_at hl 2 rfl) ?_
          refine lv_iload hx hb dX6_heardBy_23 (lv_at hl 4 rfl) ?_
          obtain ⟨q1, hq1, hf⟩ := sw_bs hf
          have hPc := hP.sub (ws' := []) [] rfl
          refine sw_rd (W.runS (As := [.int l1, .int l2, .int l4]) (rest := [.int l3]) ⟨hx, hb, hml, hown, hts⟩ (k_X6_hearsOne l dC dI cI cZ t0 l1 l2 l4 q1 hq1) (va_cwS 3 hts gX6_heardBy_X6_hearsOne rfl rfl rfl (by decide +kernel) ⟨Nat.le_of_ble_eq_true rfl, Nat.le_of_ble_eq_true rfl⟩) ⟨sw_PR_bl, sw_PR_pre hK hPc hE hS⟩ rfl rfl hl.1 rfl (lv_room (Nat.le_of_ble_eq_true rfl)) dX6_heardBy_25 ⟨Nat.zero_le _, Nat.zero_le _⟩) ?_
          refine lv_if_eq (tgt := 38) hx hb dX6_heardBy_28 (by decide) (fun c3 => ?_) (fun c3 => ?_)
          · have hf := sw_ip c3 hf
            refine lv_iconst (v := 0) hx hb dX6_heardBy_38 (by decide) ?_
            exact hB_39 l4 l3 (0 : Int32) (F_X6_heardBy_5  M_beings l1 l2 fu) ih hf ls (lv_sub hl [0, 1, 2, 4] rfl)
          · have hf := sw_in c3 hf
            refine lv_iconst (v := 1) hx hb dX6_heardBy_31 (by decide) ?_
            refine lv_iload hx hb dX6_heardBy_32 (lv_at hl 4 rfl) ?_
            refine lv_ishl hx hb dX6_heardBy_34 ?_
            refine lv_goto (tgt := 39) hx hb dX6_heardBy_35 (by decide) ?_
            exact hB_39 l4 l3 ((1 : Int32) <<< (l4 &&& 31)) (F_X6_heardBy_5  M_beings l1 l2 fu) ih hf ls (lv_sub hl [0, 1, 2, 4] rfl)
  have hf := hf0
  have hl := hl0
  refine lv_iconst (v := 0) hx hb dX6_heardBy_0 (by decide) ?_
  refine lv_istore_n (lv' := [(3, .int (0 : Int32)), (0, .ref aM), (1, .int l1), (2, .int l2)]) hx hb dX6_heardBy_1 rfl hl (by decide) rfl (fun ls hl => ?_)
  refine lv_iconst (v := 0) hx hb dX6_heardBy_2 (by decide) ?_
  refine lv_istore (lv' := [(4, .int (0 : Int32)), (3, .int (0 : Int32)), (0, .ref aM), (1, .int l1), (2, .int l2)]) hx hb dX6_heardBy_3 hl (by decide) rfl (fun ls hl => ?_)
  exact hB_5   sw_fu (0 : Int32) (0 : Int32) hf ls (lv_sub hl [2, 3, 4, 1, 0] rfl)
abbrev rm_X6_tell : Room := { frames := 4, cells := 0, slots := 0, locals := 92 }
set_option maxHeartbeats 1000000 in
set_option maxRecDepth 100000 in
theorem k_X6_tell (l : Launch) (dC : Nat → ClassId) (dI : Nat → Nat → Nat) (cI cZ : ClassId) (t0 : Nat) (aM aM_page aM_readDeeds aM_rows aM_far aM_firsts aM_line aM_toldRows aM_parts aM_keptToldRows : Nat) (M_pageMany : Int32) (M_readMany : Int32) (M_readBase : Int32) (M_state : Int32) (M_beings : Int32) (M_number : Int32) (M_deedsDone : Int32) (M_lined : Int32) (M_toldMany : Int32) (M_seedNow : Int32) (M_keptNumber : Int32) (M_keptBeings : Int32) (M_keptDeeds : Int32) (M_keptTold : Int32) (M_hash : Int64) (M_rows : Nat → Int32) (l1 : Int32) (l2 : Int32) (rv : Int32)  (hf : F_X6_tell M_beings M_number M_rows l1 l2 = some (rv)) : Met l yX6_tell wsX6_tell rm_X6_tell (sw_PR (dC, dI) t0 [(cI, .int), (cZ, .boolean)] [.ref aM, .int l1, .int l2] [(aM, .inr (6, [.ref aM_page, .int M_pageMany, .ref aM_readDeeds, .int M_readMany, .int M_readBase, .int M_state, .int M_beings, .int M_number, .int M_deedsDone, .ref aM_rows, .ref aM_far, .ref aM_firsts, .ref aM_line, .int M_lined, .int M_toldMany, .ref aM_toldRows, .ref aM_parts, .int M_seedNow, .int M_keptNumber, .int M_keptBeings, .int M_keptDeeds, .int M_keptTold, .ref aM_keptToldRows, .long M_hash])), (aM_rows, .inl (cI, 20, .inl M_rows))]) (vp_Si (fun r => r = rv)) 0 0 (fun _ => False) := by
  refine sw_metR (cc := cX6_tell) (maxL := 3) (ret := (some .int)) (lv := [(0, .ref aM), (1, .int l1), (2, .int l2)]) (by decide) rfl (Nat.le_of_ble_eq_true rfl) rfl ?_
  intro p e s m below meth c Q hQ hx hb hr hts hown hlocks hml hP hK hE hS ls hl
  have hown : s.vm.findClass RX6 = some m.cls := hown
  have hf := (F_X6_tell.eq_1 _ _ _ _ _).symm.trans hf
  have hw1 := hts (.fieldLink RX6 16 "SwallowedInTurnModel" "rows" "[I") (List.mem_of_getElem? (i := 1) (by decide +kernel))
  have iX6 : ∀ w ∈ u_ws RX6 TX6 24, w ∈ wsX6_tell := by decide +kernel
  have hw2 := hts (.fieldLink RX6 115 "SwallowedInTurnModel" "number" "I") (List.mem_of_getElem? (i := 2) (by decide +kernel))
  refine lv_iload_n hx hb dX6_tell_0 rfl (lv_at hl 2 rfl) ?_
  by_cases c1 : l2 = (0 : Int32)
  · have hf := sw_ip c1 hf
    refine lv_tableIn (off := 47) (tgt := 48) hx hb dX6_tell_1 (by rw [c1]; decide) (by rw [c1]; decide) (by rw [c1]; rfl) (by decide) ?_
    refine lv_aload_n hx hb dX6_tell_48 rfl (lv_at hl 0 rfl) ?_
    refine va_get (D := (dC, dI)) (ci := 6) (v := .ref aM_rows) (C := RX6) (T := TX6) (N := 24) hx hb hts iX6 hown hK hP 0 rfl rfl 9 (by decide) hw1 (fun _ h9 => h9) rfl dX6_tell_49 ?_
    refine lv_iconst (v := 4) hx hb dX6_tell_52 (by decide) ?_
    refine lv_iload_n hx hb dX6_tell_53 rfl (lv_at hl 1 rfl) ?_
    refine lv_imul hx hb dX6_tell_54 ?_
    refine lv_iload_n hx hb dX6_tell_55 rfl (lv_at hl 2 rfl) ?_
    refine lv_iadd hx hb dX6_tell_56 ?_
    obtain ⟨hi1, hf⟩ := sw_ix_s hf
    refine va_iald hx hb hK hP 1 0 rfl rfl hi1 dX6_tell_57 ?_
    subst hQ
    exact W.iret hx hb hr (fun t ht hW => ⟨_, rfl, Option.some.inj hf, ht⟩) (fun _ h => absurd h List.not_mem_nil) dX6_tell_58 hlocks
  · have hf := sw_in c1 hf
    by_cases c2 : l2 = (1 : Int32)
    · have hf := sw_ip c2 hf
      refine lv_tableIn (off := 47) (tgt := 48) hx hb dX6_tell_1 (by rw [c2]; decide) (by rw [c2]; decide) (by rw [c2]; rfl) (by decide) ?_
      refine lv_aload_n hx hb dX6_tell_48 rfl (lv_at hl 0 rfl) ?_
      refine va_get (D := (dC, dI)) (ci := 6) (v := .ref aM_rows) (C := RX6) (T := TX6) (N := 24) hx hb hts iX6 hown hK hP 0 rfl rfl 9 (by decide) hw1 (fun _ h9 => h9) rfl dX6_tell_49 ?_
      refine lv_iconst (v := 4) hx hb dX6_tell_52 (by decide) ?_
      refine lv_iload_n hx hb dX6_tell_53 rfl (lv_at hl 1 rfl) ?_
      refine lv_imul hx hb dX6_tell_54 ?_
      refine lv_iload_n hx hb dX6_tell_55 rfl (lv_at hl 2 rfl) ?_
      refine lv_iadd hx hb dX6_tell_56 ?_
      obtain ⟨hi2, hf⟩ := sw_ix_s hf
      refine va_iald hx hb hK hP 1 0 rfl rfl hi2 dX6_tell_57 ?_
      subst hQ
      exact W.iret hx hb hr (fun t ht hW => ⟨_, rfl, Option.some.inj hf, ht⟩) (fun _ h => absurd h List.not_mem_nil) dX6_tell_58 hlocks
    · have hf := sw_in c2 hf
      by_cases c3 : l2 = (2 : Int32)
      · have hf := sw_ip c3 hf
        refine lv_tableIn (off := 47) (tgt := 48) hx hb dX6_tell_1 (by rw [c3]; decide) (by rw [c3]; decide) (by rw [c3]; rfl) (by decide) ?_
        refine lv_aload_n hx hb dX6_tell_48 rfl (lv_at hl 0 rfl) ?_
        refine va_get (D := (dC, dI)) (ci := 6) (v := .ref aM_rows) (C := RX6) (T := TX6) (N := 24) hx hb hts iX6 hown hK hP 0 rfl rfl 9 (by decide) hw1 (fun _ h9 => h9) rfl dX6_tell_49 ?_
        refine lv_iconst (v := 4) hx hb dX6_tell_52 (by decide) ?_
        refine lv_iload_n hx hb dX6_tell_53 rfl (lv_at hl 1 rfl) ?_
        refine lv_imul hx hb dX6_tell_54 ?_
        refine lv_iload_n hx hb dX6_tell_55 rfl (lv_at hl 2 rfl) ?_
        refine lv_iadd hx hb dX6_tell_56 ?_
        obtain ⟨hi3, hf⟩ := sw_ix_s hf
        refine va_iald hx hb hK hP 1 0 rfl rfl hi3 dX6_tell_57 ?_
        subst hQ
        exact W.iret hx hb hr (fun t ht hW => ⟨_, rfl, Option.some.inj hf, ht⟩) (fun _ h => absurd h List.not_mem_nil) dX6_tell_58 hlocks
      · have hf := sw_in c3 hf
        by_cases c4 : l2 = (3 : Int32)
        · have hf := sw_ip c4 hf
          refine lv_tableIn (off := 47) (tgt := 48) hx hb dX6_tell_1 (by rw [c4]; decide) (by rw [c4]; decide) (by rw [c4]; rfl) (by decide) ?_
          refine lv_aload_n hx hb dX6_tell_48 rfl (lv_at hl 0 rfl) ?_
          refine va_get (D := (dC, dI)) (ci := 6) (v := .ref aM_rows) (C := RX6) (T := TX6) (N := 24) hx hb hts iX6 hown hK hP 0 rfl rfl 9 (by decide) hw1 (fun _ h9 => h9) rfl dX6_tell_49 ?_
          refine lv_iconst (v := 4) hx hb dX6_tell_52 (by decide) ?_
          refine lv_iload_n hx hb dX6_tell_53 rfl (lv_at hl 1 rfl) ?_
          refine lv_imul hx hb dX6_tell_54 ?_
          refine lv_iload_n hx hb dX6_tell_55 rfl (lv_at hl 2 rfl) ?_
          refine lv_iadd hx hb dX6_tell_56 ?_
          obtain ⟨hi4, hf⟩ := sw_ix_s hf
          refine va_iald hx hb hK hP 1 0 rfl rfl hi4 dX6_tell_57 ?_
          subst hQ
          exact W.iret hx hb hr (fun t ht hW => ⟨_, rfl, Option.some.inj hf, ht⟩) (fun _ h => absurd h List.not_mem_nil) dX6_tell_58 hlocks
        · have hf := sw_in c4 hf
          by_cases c5 : l2 = (4 : Int32)
          · have hf := sw_ip c5 hf
            refine lv_tableIn (off := 58) (tgt := 59) hx hb dX6_tell_1 (by rw [c5]; decide) (by rw [c5]; decide) (by rw [c5]; rfl) (by decide) ?_
            refine lv_aload_n hx hb dX6_tell_59 rfl (lv_at hl 0 rfl) ?_
            refine va_get (D := (dC, dI)) (ci := 6) (v := .int M_number) (C := RX6) (T := TX6) (N := 24) hx hb hts iX6 hown hK hP 0 rfl rfl 7 (by decide) hw2 (fun _ h9 => h9) rfl dX6_tell_60 ?_
            refine lv_iload_n hx hb dX6_tell_63 rfl (lv_at hl 1 rfl) ?_
            obtain ⟨q5, hq5, hf⟩ := sw_bs hf
            have hPc := hP.sub (ws' := []) [] rfl
            refine sw_rd (W.runS (As := [.int M_number, .int l1]) (rest := []) ⟨hx, hb, hml, hown, hts⟩ (k_X6_holder l dC dI cI cZ t0 M_number l1 q5 hq5) (va_cwS 2 hts gX6_tell_X6_holder rfl rfl rfl (by decide +kernel) ⟨Nat.le_of_ble_eq_true rfl, Nat.le_of_ble_eq_true rfl⟩) ⟨sw_PR_bl, sw_PR_pre hK hPc hE hS⟩ rfl rfl hl.1 rfl (lv_room (Nat.le_of_ble_eq_true rfl)) dX6_tell_64 ⟨Nat.zero_le _, Nat.zero_le _⟩) ?_
            subst hQ
            exact W.iret hx hb hr (fun t ht hW => ⟨_, rfl, Option.some.inj hf, ht⟩) (fun _ h => absurd h List.not_mem_nil) dX6_tell_67 hlocks
          · have hf := sw_in c5 hf
            by_cases c6 : l2 = (5 : Int32)
            · have hf := sw_ip c6 hf
              refine lv_tableIn (off := 67) (tgt := 68) hx hb dX6_tell_1 (by rw [c6]; decide) (by rw [c6]; decide) (by rw [c6]; rfl) (by decide) ?_
              refine lv_aload_n hx hb dX6_tell_68 rfl (lv_at hl 0 rfl) ?_
              refine lv_aload_n hx hb dX6_tell_69 rfl (lv_at hl 0 rfl) ?_
              refine va_get (D := (dC, dI)) (ci := 6) (v := .int M_number) (C := RX6) (T := TX6) (N := 24) hx hb hts iX6 hown hK hP 0 rfl rfl 7 (by decide) hw2 (fun _ h9 => h9) rfl dX6_tell_70 ?_
              refine lv_iload_n hx hb dX6_tell_73 rfl (lv_at hl 1 rfl) ?_
              obtain ⟨q6, hq6, hf⟩ := sw_bs hf
              have hPc := hP.sub (ws' := [(aM, .inr (6, [.ref aM_page, .int M_pageMany, .ref aM_readDeeds, .int M_readMany, .int M_readBase, .int M_state, .int M_beings, .int M_number, .int M_deedsDone, .ref aM_rows, .ref aM_far, .ref aM_firsts, .ref aM_line, .int M_lined, .int M_toldMany, .ref aM_toldRows, .ref aM_parts, .int M_seedNow, .int M_keptNumber, .int M_keptBeings, .int M_keptDeeds, .int M_keptTold, .ref aM_keptToldRows, .long M_hash])), (aM_rows, .inl (cI, 20, .inl M_rows))]) [0, 1] rfl
              refine sw_rd (W.runV (As := [.int M_number, .int l1]) (rest := []) ⟨hx, hb, hml, hown, hts⟩ (k_X6_filled l dC dI cI cZ t0 aM aM_page aM_readDeeds aM_rows aM_far aM_firsts aM_line aM_toldRows aM_parts aM_keptToldRows M_pageMany M_readMany M_readBase M_state M_beings M_number M_deedsDone M_lined M_toldMany M_seedNow M_keptNumber M_keptBeings M_keptDeeds M_keptTold M_hash M_rows M_number l1 q6 hq6) (cwV 2 hts gX6_tell_X6_filled rfl rfl rfl (by decide +kernel) ⟨Nat.le_of_ble_eq_true rfl, Nat.le_of_ble_eq_true rfl⟩) ⟨sw_PR_bl, va_recv hK hPc (ci := 6) (q0 := 0) rfl rfl, sw_PR_pre hK hPc hE hS⟩ rfl rfl hl.1 rfl (lv_room (Nat.le_of_ble_eq_true rfl)) dX6_tell_74 ⟨Nat.zero_le _, Nat.zero_le _⟩) ?_
              subst hQ
              exact W.iret hx hb hr (fun t ht hW => ⟨_, rfl, Option.some.inj hf, ht⟩) (fun _ h => absurd h List.not_mem_nil) dX6_tell_77 hlocks
            · have hf := sw_in c6 hf
              by_cases c7 : l2 = (6 : Int32)
              · have hf := sw_ip c7 hf
                refine lv_tableIn (off := 77) (tgt := 78) hx hb dX6_tell_1 (by rw [c7]; decide) (by rw [c7]; decide) (by rw [c7]; rfl) (by decide) ?_
                refine lv_aload_n hx hb dX6_tell_78 rfl (lv_at hl 0 rfl) ?_
                refine va_get (D := (dC, dI)) (ci := 6) (v := .int M_number) (C := RX6) (T := TX6) (N := 24) hx hb hts iX6 hown hK hP 0 rfl rfl 7 (by decide) hw2 (fun _ h9 => h9) rfl dX6_tell_79 ?_
                refine lv_iload_n hx hb dX6_tell_82 rfl (lv_at hl 1 rfl) ?_
                obtain ⟨q7, hq7, hf⟩ := sw_bs hf
                have hPc := hP.sub (ws' := []) [] rfl
                refine sw_rd (W.runS (As := [.int M_number, .int l1]) (rest := []) ⟨hx, hb, hml, hown, hts⟩ (k_X6_walls l dC dI cI cZ t0 M_number l1 q7 hq7) (va_cwS 2 hts gX6_tell_X6_walls rfl rfl rfl (by decide +kernel) ⟨Nat.le_of_ble_eq_true rfl, Nat.le_of_ble_eq_true rfl⟩) ⟨sw_PR_bl, sw_PR_pre hK hPc hE hS⟩ rfl rfl hl.1 rfl (lv_room (Nat.le_of_ble_eq_true rfl)) dX6_tell_83 ⟨Nat.zero_le _, Nat.zero_le _⟩) ?_
                subst hQ
                exact W.iret hx hb hr (fun t ht hW => ⟨_, rfl, Option.some.inj hf, ht⟩) (fun _ h => absurd h List.not_mem_nil) dX6_tell_86 hlocks
              · have hf := sw_in c7 hf
                by_cases c8 : l2 = (7 : Int32)
                · have hf := sw_ip c8 hf
                  refine lv_tableIn (off := 86) (tgt := 87) hx hb dX6_tell_1 (by rw [c8]; decide) (by rw [c8]; decide) (by rw [c8]; rfl) (by decide) ?_
                  refine lv_aload_n hx hb dX6_tell_87 rfl (lv_at hl 0 rfl) ?_
                  refine lv_aload_n hx hb dX6_tell_88 rfl (lv_at hl 0 rfl) ?_
                  refine va_get (D := (dC, dI)) (ci := 6) (v := .int M_number) (C := RX6) (T := TX6) (N := 24) hx hb hts iX6 hown hK hP 0 rfl rfl 7 (by decide) hw2 (fun _ h9 => h9) rfl dX6_tell_89 ?_
                  refine lv_iload_n hx hb dX6_tell_92 rfl (lv_at hl 1 rfl) ?_
                  obtain ⟨q8, hq8, hf⟩ := sw_bs hf
                  have hPc := hP.sub (ws' := [(aM, .inr (6, [.ref aM_page, .int M_pageMany, .ref aM_readDeeds, .int M_readMany, .int M_readBase, .int M_state, .int M_beings, .int M_number, .int M_deedsDone, .ref aM_rows, .ref aM_far, .ref aM_firsts, .ref aM_line, .int M_lined, .int M_toldMany, .ref aM_toldRows, .ref aM_parts, .int M_seedNow, .int M_keptNumber, .int M_keptBeings, .int M_keptDeeds, .int M_keptTold, .ref aM_keptToldRows, .long M_hash]))]) [0] rfl
                  refine sw_rd (W.runV (As := [.int M_number, .int l1]) (rest := []) ⟨hx, hb, hml, hown, hts⟩ (k_X6_heardBy l dC dI cI cZ t0 aM aM_page aM_readDeeds aM_rows aM_far aM_firsts aM_line aM_toldRows aM_parts aM_keptToldRows M_pageMany M_readMany M_readBase M_state M_beings M_number M_deedsDone M_lined M_toldMany M_seedNow M_keptNumber M_keptBeings M_keptDeeds M_keptTold M_hash M_number l1 q8 hq8) (cwV 2 hts gX6_tell_X6_heardBy rfl rfl rfl (by decide +kernel) ⟨Nat.le_of_ble_eq_true rfl, Nat.le_of_ble_eq_true rfl⟩) ⟨sw_PR_bl, va_recv hK hPc (ci := 6) (q0 := 0) rfl rfl, sw_PR_pre hK hPc hE hS⟩ rfl rfl hl.1 rfl (lv_room (Nat.le_of_ble_eq_true rfl)) dX6_tell_93 ⟨Nat.zero_le _, Nat.zero_le _⟩) ?_
                  subst hQ
                  exact W.iret hx hb hr (fun t ht hW => ⟨_, rfl, Option.some.inj hf, ht⟩) (fun _ h => absurd h List.not_mem_nil) dX6_tell_96 hlocks
                · have hf := sw_in c8 hf
                  have tc1 := lv_neT c1 (show (0 : Int32).toInt = 0 by decide)
                  have tc2 := lv_neT c2 (show (1 : Int32).toInt = 1 by decide)
                  have tc3 := lv_neT c3 (show (2 : Int32).toInt = 2 by decide)
                  have tc4 := lv_neT c4 (show (3 : Int32).toInt = 3 by decide)
                  have tc5 := lv_neT c5 (show (4 : Int32).toInt = 4 by decide)
                  have tc6 := lv_neT c6 (show (5 : Int32).toInt = 5 by decide)
                  have tc7 := lv_neT c7 (show (6 : Int32).toInt = 6 by decide)
                  have tc8 := lv_neT c8 (show (7 : Int32).toInt = 7 by decide)
                  refine lv_tableOut (tgt := 97) hx hb dX6_tell_1 (by omega) (by decide) ?_
                  refine lv_bipush (v := -102) hx hb dX6_tell_97 (by decide) ?_
                  subst hQ
                  exact W.iret hx hb hr (fun t ht hW => ⟨_, rfl, Option.some.inj hf, ht⟩) (fun _ h => absurd h List.not_mem_nil) dX6_tell_99 hlocks
abbrev rm_X6_about : Room := { frames := 5, cells := 0, slots := 0, locals := 114 }
set_option maxHeartbeats 1000000 in
set_option maxRecDepth 100000 in
theorem k_X6_about (l : Launch) (dC : Nat → ClassId) (dI : Nat → Nat → Nat) (cI cZ : ClassId) (t0 : Nat) (aM aM_page aM_readDeeds aM_rows aM_far aM_firsts aM_line aM_toldRows aM_parts aM_keptToldRows : Nat) (M_pageMany : Int32) (M_readMany : Int32) (M_readBase : Int32) (M_state : Int32) (M_beings : Int32) (M_number : Int32) (M_deedsDone : Int32) (M_lined : Int32) (M_toldMany : Int32) (M_seedNow : Int32) (M_keptNumber : Int32) (M_keptBeings : Int32) (M_keptDeeds : Int32) (M_keptTold : Int32) (M_hash : Int64) (M_rows : Nat → Int32) (l1 : Int32) (l2 : Int32) (rv : Int32)  (hf : F_X6_about M_beings M_number M_rows l1 l2 = some (rv)) : Met l yX6_about wsX6_about rm_X6_about (sw_PR (dC, dI) t0 [(cI, .int), (cZ, .boolean)] [.ref aM, .int l1, .int l2] [(aM, .inr (6, [.ref aM_page, .int M_pageMany, .ref aM_readDeeds, .int M_readMany, .int M_readBase, .int M_state, .int M_beings, .int M_number, .int M_deedsDone, .ref aM_rows, .ref aM_far, .ref aM_firsts, .ref aM_line, .int M_lined, .int M_toldMany, .ref aM_toldRows, .ref aM_parts, .int M_seedNow, .int M_keptNumber, .int M_keptBeings, .int M_keptDeeds, .int M_keptTold, .ref aM_keptToldRows, .long M_hash])), (aM_rows, .inl (cI, 20, .inl M_rows))]) (vp_Si (fun r => r = rv)) 0 0 (fun _ => False) := by
  refine sw_metR (cc := cX6_about) (maxL := 3) (ret := (some .int)) (lv := [(0, .ref aM), (1, .int l1), (2, .int l2)]) (by decide) rfl (Nat.le_of_ble_eq_true rfl) rfl ?_
  intro p e s m below meth c Q hQ hx hb hr hts hown hlocks hml hP hK hE hS ls hl
  have hown : s.vm.findClass RX6 = some m.cls := hown
  have hf := (F_X6_about.eq_1 _ _ _ _ _).symm.trans hf
  refine lv_aload_n hx hb dX6_about_0 rfl (lv_at hl 0 rfl) ?_
  refine lv_iload_n hx hb dX6_about_1 rfl (lv_at hl 1 rfl) ?_
  obtain ⟨q1, hq1, hf⟩ := sw_bs hf
  have hPc := hP.sub (ws' := [(aM, .inr (6, [.ref aM_page, .int M_pageMany, .ref aM_readDeeds, .int M_readMany, .int M_readBase, .int M_state, .int M_beings, .int M_number, .int M_deedsDone, .ref aM_rows, .ref aM_far, .ref aM_firsts, .ref aM_line, .int M_lined, .int M_toldMany, .ref aM_toldRows, .ref aM_parts, .int M_seedNow, .int M_keptNumber, .int M_keptBeings, .int M_keptDeeds, .int M_keptTold, .ref aM_keptToldRows, .long M_hash]))]) [0] rfl
  refine sw_rd (W.runV (As := [.int l1]) (rest := []) ⟨hx, hb, hml, hown, hts⟩ (k_X6_isBeing l dC dI cI cZ t0 aM aM_page aM_readDeeds aM_rows aM_far aM_firsts aM_line aM_toldRows aM_parts aM_keptToldRows M_pageMany M_readMany M_readBase M_state M_beings M_number M_deedsDone M_lined M_toldMany M_seedNow M_keptNumber M_keptBeings M_keptDeeds M_keptTold M_hash l1 q1 hq1) (cwV 1 hts gX6_about_X6_isBeing rfl rfl rfl (by decide +kernel) ⟨Nat.le_of_ble_eq_true rfl, Nat.le_of_ble_eq_true rfl⟩) ⟨sw_PR_bl, va_recv hK hPc (ci := 6) (q0 := 0) rfl rfl, sw_PR_pre hK hPc hE hS⟩ rfl rfl hl.1 rfl (lv_room (Nat.le_of_ble_eq_true rfl)) dX6_about_2 ⟨Nat.zero_le _, Nat.zero_le _⟩) ?_
  refine lv_if_eq (tgt := 17) hx hb dX6_about_5 (by decide) (fun c1 => ?_) (fun c1 => ?_)
  · have hf := sw_ip c1 hf
    refine lv_bipush (v := -101) hx hb dX6_about_17 (by decide) ?_
    subst hQ
    exact W.iret hx hb hr (fun t ht hW => ⟨_, rfl, Option.some.inj hf, ht⟩) (fun _ h => absurd h List.not_mem_nil) dX6_about_19 hlocks
  · have hf := sw_in c1 hf
    refine lv_aload_n hx hb dX6_about_8 rfl (lv_at hl 0 rfl) ?_
    refine lv_iload_n hx hb dX6_about_9 rfl (lv_at hl 1 rfl) ?_
    refine lv_iload_n hx hb dX6_about_10 rfl (lv_at hl 2 rfl) ?_
    obtain ⟨q2, hq2, hf⟩ := sw_bs hf
    have hPc := hP.sub (ws' := [(aM, .inr (6, [.ref aM_page, .int M_pageMany, .ref aM_readDeeds, .int M_readMany, .int M_readBase, .int M_state, .int M_beings, .int M_number, .int M_deedsDone, .ref aM_rows, .ref aM_far, .ref aM_firsts, .ref aM_line, .int M_lined, .int M_toldMany, .ref aM_toldRows, .ref aM_parts, .int M_seedNow, .int M_keptNumber, .int M_keptBeings, .int M_keptDeeds, .int M_keptTold, .ref aM_keptToldRows, .long M_hash])), (aM_rows, .inl (cI, 20, .inl M_rows))]) [0, 1] rfl
    refine sw_rd (W.runV (As := [.int l1, .int l2]) (rest := []) ⟨hx, hb, hml, hown, hts⟩ (k_X6_tell l dC dI cI cZ t0 aM aM_page aM_readDeeds aM_rows aM_far aM_firsts aM_line aM_toldRows aM_parts aM_keptToldRows M_pageMany M_readMany M_readBase M_state M_beings M_number M_deedsDone M_lined M_toldMany M_seedNow M_keptNumber M_keptBeings M_keptDeeds M_keptTold M_hash M_rows l1 l2 q2 hq2) (cwV 2 hts gX6_about_X6_tell rfl rfl rfl (by decide +kernel) ⟨Nat.le_of_ble_eq_true rfl, Nat.le_of_ble_eq_true rfl⟩) ⟨sw_PR_bl, va_recv hK hPc (ci := 6) (q0 := 0) rfl rfl, sw_PR_pre hK hPc hE hS⟩ rfl rfl hl.1 rfl (lv_room (Nat.le_of_ble_eq_true rfl)) dX6_about_11 ⟨Nat.zero_le _, Nat.zero_le _⟩) ?_
    refine lv_goto (tgt := 19) hx hb dX6_about_14 (by decide) ?_
    subst hQ
    exact W.iret hx hb hr (fun t ht hW => ⟨_, rfl, Option.some.inj hf, ht⟩) (fun _ h => absurd h List.not_mem_nil) dX6_about_19 hlocks
abbrev rm_X6_as : Room := { frames := 2, cells := 0, slots := 0, locals := 46 }
set_option maxHeartbeats 1000000 in
set_option maxRecDepth 100000 in
theorem k_X6_as (l : Launch) (dC : Nat → ClassId) (dI : Nat → Nat → Nat) (cI cZ : ClassId) (t0 : Nat) (aM aM_page aM_readDeeds aM_rows aM_far aM_firsts aM_line aM_toldRows aM_parts aM_keptToldRows : Nat) (M_pageMany : Int32) (M_readMany : Int32) (M_readBase : Int32) (M_state : Int32) (M_beings : Int32) (M_number : Int32) (M_deedsDone : Int32) (M_lined : Int32) (M_toldMany : Int32) (M_seedNow : Int32) (M_keptNumber : Int32) (M_keptBeings : Int32) (M_keptDeeds : Int32) (M_keptTold : Int32) (M_hash : Int64) (M_rows : Nat → Int32) (l1 : Int32) (l2 : Int32) (rv : Int32)  (hf : F_X6_as M_beings M_rows l1 l2 = some (rv)) : Met l yX6_as wsX6_as rm_X6_as (sw_PR (dC, dI) t0 [(cI, .int), (cZ, .boolean)] [.ref aM, .int l1, .int l2] [(aM, .inr (6, [.ref aM_page, .int M_pageMany, .ref aM_readDeeds, .int M_readMany, .int M_readBase, .int M_state, .int M_beings, .int M_number, .int M_deedsDone, .ref aM_rows, .ref aM_far, .ref aM_firsts, .ref aM_line, .int M_lined, .int M_toldMany, .ref aM_toldRows, .ref aM_parts, .int M_seedNow, .int M_keptNumber, .int M_keptBeings, .int M_keptDeeds, .int M_keptTold, .ref aM_keptToldRows, .long M_hash])), (aM_rows, .inl (cI, 20, .inl M_rows))]) (vp_Si (fun r => r = rv)) 0 0 (fun _ => False) := by
  refine sw_metR (cc := cX6_as) (maxL := 5) (ret := (some .int)) (lv := [(0, .ref aM), (1, .int l1), (2, .int l2)]) (by decide) rfl (Nat.le_of_ble_eq_true rfl) rfl ?_
  intro p e s m below meth c Q hQ hx hb hr hts hown hlocks hml hP hK hE hS ls hl
  have hown : s.vm.findClass RX6 = some m.cls := hown
  have hf := (F_X6_as.eq_1 _ _ _ _).symm.trans hf
  have hw1 := hts (.constantLong RX6 50 (4)) (List.mem_of_getElem? (i := 1) (by decide +kernel))
  have hw2 := hts (.fieldLink RX6 16 "SwallowedInTurnModel" "rows" "[I") (List.mem_of_getElem? (i := 2) (by decide +kernel))
  have iX6 : ∀ w ∈ u_ws RX6 TX6 24, w ∈ wsX6_as := by decide +kernel
  have hf0 := hf
  clear hf
  have hl0 := hl
  clear hl
  have hB_68 : ∀ (s0 : Int32), F_X6_as_68 l1 s0 = some (rv) → ∀ ls : Array Slot, lv_has ls 5 [(1, .int l1)] → W p l e rm_X6_as s m ([.ref aM, .int l1, .int l2] : List Value).toArray below meth c s.heap [] 0 0 Q (F0 m 68 ls [.int s0]) := by
    intro s0  hf ls hl
    have hf := (F_X6_as_68.eq_1 _ _).symm.trans hf
    refine lv_istore (lv' := [(4, .int s0), (1, .int l1)]) hx hb dX6_as_68 hl (by decide) rfl (fun ls hl => ?_)
    refine lv_iload hx hb dX6_as_70 (lv_at hl 0 rfl) ?_
    refine lv_if_eq (tgt := 79) hx hb dX6_as_72 (by decide) (fun c1 => ?_) (fun c1 => ?_)
    · have hf := sw_ip c1 hf
      refine lv_iconst (v := -1) hx hb dX6_as_79 (by decide) ?_
      subst hQ
      exact W.iret hx hb hr (fun t ht hW => ⟨_, rfl, Option.some.inj hf, ht⟩) (fun _ h => absurd h List.not_mem_nil) dX6_as_80 hlocks
    · have hf := sw_in c1 hf
      refine lv_iload_n hx hb dX6_as_75 rfl (lv_at hl 1 rfl) ?_
      refine lv_goto (tgt := 80) hx hb dX6_as_76 (by decide) ?_
      subst hQ
      exact W.iret hx hb hr (fun t ht hW => ⟨_, rfl, Option.some.inj hf, ht⟩) (fun _ h => absurd h List.not_mem_nil) dX6_as_80 hlocks
  have hB_53 : ∀ (l3 : Int32), F_X6_as_53 l1 l2 l3 = some (rv) → ∀ ls : Array Slot, lv_has ls 5 [(1, .int l1), (2, .int l2), (3, .int l3)] → W p l e rm_X6_as s m ([.ref aM, .int l1, .int l2] : List Value).toArray below meth c s.heap [] 0 0 Q (F0 m 53 ls []) := by
    intro l3  hf ls hl
    have hf := (F_X6_as_53.eq_1 _ _ _).symm.trans hf
    refine lv_iload_n hx hb dX6_as_53 rfl (lv_at hl 1 rfl) ?_
    refine lv_iconst (v := 2) hx hb dX6_as_54 (by decide) ?_
    refine lv_icmp_ne (tgt := 67) hx hb dX6_as_55 (by decide) (fun c2 => ?_) (fun c2 => ?_)
    · have hf := sw_in c2 hf
      refine lv_iconst (v := 0) hx hb dX6_as_67 (by decide) ?_
      exact hB_68 (0 : Int32)  hf ls (lv_sub hl [0] rfl)
    · have hf := sw_ip c2 hf
      refine lv_iload_n hx hb dX6_as_58 rfl (lv_at hl 2 rfl) ?_
      refine lv_iconst (v := 4) hx hb dX6_as_59 (by decide) ?_
      refine lv_icmp_ne (tgt := 67) hx hb dX6_as_60 (by decide) (fun c3 => ?_) (fun c3 => ?_)
      · have hf := sw_in c3 hf
        refine lv_iconst (v := 0) hx hb dX6_as_67 (by decide) ?_
        exact hB_68 (0 : Int32)  hf ls (lv_sub hl [0] rfl)
      · have hf := sw_ip c3 hf
        refine lv_iconst (v := 1) hx hb dX6_as_63 (by decide) ?_
        refine lv_goto (tgt := 68) hx hb dX6_as_64 (by decide) ?_
        exact hB_68 (1 : Int32)  hf ls (lv_sub hl [0] rfl)
  have hf := hf0
  have hl := hl0
  refine lv_aload_n hx hb dX6_as_0 rfl (lv_at hl 0 rfl) ?_
  refine lv_iload_n hx hb dX6_as_1 rfl (lv_at hl 1 rfl) ?_
  obtain ⟨q1, hq1, hf⟩ := sw_bs hf
  have hPc := hP.sub (ws' := [(aM, .inr (6, [.ref aM_page, .int M_pageMany, .ref aM_readDeeds, .int M_readMany, .int M_readBase, .int M_state, .int M_beings, .int M_number, .int M_deedsDone, .ref aM_rows, .ref aM_far, .ref aM_firsts, .ref aM_line, .int M_lined, .int M_toldMany, .ref aM_toldRows, .ref aM_parts, .int M_seedNow, .int M_keptNumber, .int M_keptBeings, .int M_keptDeeds, .int M_keptTold, .ref aM_keptToldRows, .long M_hash]))]) [0] rfl
  refine sw_rd (W.runV (As := [.int l1]) (rest := []) ⟨hx, hb, hml, hown, hts⟩ (k_X6_isBeing l dC dI cI cZ t0 aM aM_page aM_readDeeds aM_rows aM_far aM_firsts aM_line aM_toldRows aM_parts aM_keptToldRows M_pageMany M_readMany M_readBase M_state M_beings M_number M_deedsDone M_lined M_toldMany M_seedNow M_keptNumber M_keptBeings M_keptDeeds M_keptTold M_hash l1 q1 hq1) (cwV 1 hts gX6_as_X6_isBeing rfl rfl rfl (by decide +kernel) ⟨Nat.le_of_ble_eq_true rfl, Nat.le_of_ble_eq_true rfl⟩) ⟨sw_PR_bl, va_recv hK hPc (ci := 6) (q0 := 0) rfl rfl, sw_PR_pre hK hPc hE hS⟩ rfl rfl hl.1 rfl (lv_room (Nat.le_of_ble_eq_true rfl)) dX6_as_2 ⟨Nat.zero_le _, Nat.zero_le _⟩) ?_
  refine lv_if_ne (tgt := 11) hx hb dX6_as_5 (by decide) (fun c4 => ?_) (fun c4 => ?_)
  · have hf := sw_in c4 hf
    refine lv_iload_n hx hb dX6_as_11 rfl (lv_at hl 2 rfl) ?_
    refine lv_i2l (v := (l2).toInt64) hx hb dX6_as_12 rfl ?_
    refine lv_lconst (v := 0) hx hb dX6_as_13 (by decide) ?_
    refine lv_ldc2 (v := 4) hx hb hown hw1 dX6_as_14 ?_
    obtain ⟨q2, hq2, hf⟩ := sw_bs hf
    have hPc := hP.sub (ws' := []) [] rfl
    refine sw_rd (W.runS (As := [.long ((l2).toInt64), .long (0 : Int64), .long (4 : Int64)]) (rest := []) ⟨hx, hb, hml, hown, hts⟩ (k_X6_in l dC dI cI cZ t0 ((l2).toInt64) (0 : Int64) (4 : Int64) q2 hq2) (va_cwS 3 hts gX6_as_X6_in rfl rfl rfl (by decide +kernel) ⟨Nat.le_of_ble_eq_true rfl, Nat.le_of_ble_eq_true rfl⟩) ⟨sw_PR_bl, sw_PR_pre hK hPc hE hS⟩ rfl rfl hl.1 rfl (lv_room (Nat.le_of_ble_eq_true rfl)) dX6_as_17 ⟨Nat.zero_le _, Nat.zero_le _⟩) ?_
    refine lv_if_ne (tgt := 26) hx hb dX6_as_20 (by decide) (fun c5 => ?_) (fun c5 => ?_)
    · have hf := sw_in c5 hf
      refine lv_aload_n hx hb dX6_as_26 rfl (lv_at hl 0 rfl) ?_
      refine va_get (D := (dC, dI)) (ci := 6) (v := .ref aM_rows) (C := RX6) (T := TX6) (N := 24) hx hb hts iX6 hown hK hP 0 rfl rfl 9 (by decide) hw2 (fun _ h9 => h9) rfl dX6_as_27 ?_
      refine lv_iconst (v := 4) hx hb dX6_as_30 (by decide) ?_
      refine lv_iload_n hx hb dX6_as_31 rfl (lv_at hl 1 rfl) ?_
      refine lv_imul hx hb dX6_as_32 ?_
      obtain ⟨hi3, hf⟩ := sw_ix_s hf
      refine va_iald hx hb hK hP 1 0 rfl rfl hi3 dX6_as_33 ?_
      refine lv_istore_n (lv' := [(3, .int (M_rows ((4 : Int32) * l1).toNatClampNeg)), (0, .ref aM), (1, .int l1), (2, .int l2)]) hx hb dX6_as_34 rfl hl (by decide) rfl (fun ls hl => ?_)
      refine lv_iload_n hx hb dX6_as_35 rfl (lv_at hl 3 rfl) ?_
      refine lv_if_eq (tgt := 63) hx hb dX6_as_36 (by decide) (fun c6 => ?_) (fun c6 => ?_)
      · have hf := sw_ip c6 hf
        refine lv_iconst (v := 1) hx hb dX6_as_63 (by decide) ?_
        refine lv_goto (tgt := 68) hx hb dX6_as_64 (by decide) ?_
        exact hB_68 (1 : Int32)  hf ls (lv_sub hl [2] rfl)
      · have hf := sw_in c6 hf
        refine lv_iload_n hx hb dX6_as_39 rfl (lv_at hl 3 rfl) ?_
        refine lv_iload_n hx hb dX6_as_40 rfl (lv_at hl 0 rfl) ?_
        refine lv_icmp_eq (tgt := 63) hx hb dX6_as_41 (by decide) (fun c7 => ?_) (fun c7 => ?_)
        · have hf := sw_ip c7 hf
          refine lv_iconst (v := 1) hx hb dX6_as_63 (by decide) ?_
          refine lv_goto (tgt := 68) hx hb dX6_as_64 (by decide) ?_
          exact hB_68 (1 : Int32)  hf ls (lv_sub hl [2] rfl)
        · have hf := sw_in c7 hf
          refine lv_iload_n hx hb dX6_as_44 rfl (lv_at hl 3 rfl) ?_
          refine lv_iconst (v := 1) hx hb dX6_as_45 (by decide) ?_
          refine lv_icmp_ne (tgt := 53) hx hb dX6_as_46 (by decide) (fun c8 => ?_) (fun c8 => ?_)
          · have hf := sw_in c8 hf
            exact hB_53 (M_rows ((4 : Int32) * l1).toNatClampNeg)  hf ls (lv_sub hl [2, 3, 0] rfl)
          · have hf := sw_ip c8 hf
            refine lv_iload_n hx hb dX6_as_49 rfl (lv_at hl 0 rfl) ?_
            refine lv_if_gt (tgt := 63) hx hb dX6_as_50 (by decide) (fun c9 => ?_) (fun c9 => ?_)
            · have hf := sw_ip c9 hf
              refine lv_iconst (v := 1) hx hb dX6_as_63 (by decide) ?_
              refine lv_goto (tgt := 68) hx hb dX6_as_64 (by decide) ?_
              exact hB_68 (1 : Int32)  hf ls (lv_sub hl [2] rfl)
            · have hf := sw_in c9 hf
              exact hB_53 (M_rows ((4 : Int32) * l1).toNatClampNeg)  hf ls (lv_sub hl [2, 3, 0] rfl)
    · have hf := sw_ip c5 hf
      refine lv_bipush (v := -102) hx hb dX6_as_23 (by decide) ?_
      subst hQ
      exact W.iret hx hb hr (fun t ht hW => ⟨_, rfl, Option.some.inj hf, ht⟩) (fun _ h => absurd h List.not_mem_nil) dX6_as_25 hlocks
  · have hf := sw_ip c4 hf
    refine lv_bipush (v := -101) hx hb dX6_as_8 (by decide) ?_
    subst hQ
    exact W.iret hx hb hr (fun t ht hW => ⟨_, rfl, Option.some.inj hf, ht⟩) (fun _ h => absurd h List.not_mem_nil) dX6_as_10 hlocks
abbrev rm_X6_may : Room := { frames := 5, cells := 0, slots := 0, locals := 119 }
set_option maxHeartbeats 1000000 in
set_option maxRecDepth 100000 in
theorem k_X6_may (l : Launch) (dC : Nat → ClassId) (dI : Nat → Nat → Nat) (cI cZ : ClassId) (t0 : Nat) (aM aM_page aM_readDeeds aM_rows aM_far aM_firsts aM_line aM_toldRows aM_parts aM_keptToldRows : Nat) (M_pageMany : Int32) (M_readMany : Int32) (M_readBase : Int32) (M_state : Int32) (M_beings : Int32) (M_number : Int32) (M_deedsDone : Int32) (M_lined : Int32) (M_toldMany : Int32) (M_seedNow : Int32) (M_keptNumber : Int32) (M_keptBeings : Int32) (M_keptDeeds : Int32) (M_keptTold : Int32) (M_hash : Int64) (M_rows : Nat → Int32) (l1 : Int32) (rv : Int32)  (hf : F_X6_may M_beings M_number M_rows l1 = some (rv)) : Met l yX6_may wsX6_may rm_X6_may (sw_PR (dC, dI) t0 [(cI, .int), (cZ, .boolean)] [.ref aM, .int l1] [(aM, .inr (6, [.ref aM_page, .int M_pageMany, .ref aM_readDeeds, .int M_readMany, .int M_readBase, .int M_state, .int M_beings, .int M_number, .int M_deedsDone, .ref aM_rows, .ref aM_far, .ref aM_firsts, .ref aM_line, .int M_lined, .int M_toldMany, .ref aM_toldRows, .ref aM_parts, .int M_seedNow, .int M_keptNumber, .int M_keptBeings, .int M_keptDeeds, .int M_keptTold, .ref aM_keptToldRows, .long M_hash])), (aM_rows, .inl (cI, 20, .inl M_rows))]) (vp_Si (fun r => r = rv)) 0 0 (fun _ => False) := by
  refine sw_metR (cc := cX6_may) (maxL := 2) (ret := (some .int)) (lv := [(0, .ref aM), (1, .int l1)]) (by decide) rfl (Nat.le_of_ble_eq_true rfl) rfl ?_
  intro p e s m below meth c Q hQ hx hb hr hts hown hlocks hml hP hK hE hS ls hl
  have hown : s.vm.findClass RX6 = some m.cls := hown
  have hf := (F_X6_may.eq_1 _ _ _ _).symm.trans hf
  have hw1 := hts (.fieldLink RX6 115 "SwallowedInTurnModel" "number" "I") (List.mem_of_getElem? (i := 1) (by decide +kernel))
  have iX6 : ∀ w ∈ u_ws RX6 TX6 24, w ∈ wsX6_may := by decide +kernel
  refine lv_aload_n hx hb dX6_may_0 rfl (lv_at hl 0 rfl) ?_
  refine lv_iload_n hx hb dX6_may_1 rfl (lv_at hl 1 rfl) ?_
  obtain ⟨q1, hq1, hf⟩ := sw_bs hf
  have hPc := hP.sub (ws' := [(aM, .inr (6, [.ref aM_page, .int M_pageMany, .ref aM_readDeeds, .int M_readMany, .int M_readBase, .int M_state, .int M_beings, .int M_number, .int M_deedsDone, .ref aM_rows, .ref aM_far, .ref aM_firsts, .ref aM_line, .int M_lined, .int M_toldMany, .ref aM_toldRows, .ref aM_parts, .int M_seedNow, .int M_keptNumber, .int M_keptBeings, .int M_keptDeeds, .int M_keptTold, .ref aM_keptToldRows, .long M_hash]))]) [0] rfl
  refine sw_rd (W.runV (As := [.int l1]) (rest := []) ⟨hx, hb, hml, hown, hts⟩ (k_X6_isDeed l dC dI cI cZ t0 aM aM_page aM_readDeeds aM_rows aM_far aM_firsts aM_line aM_toldRows aM_parts aM_keptToldRows M_pageMany M_readMany M_readBase M_state M_beings M_number M_deedsDone M_lined M_toldMany M_seedNow M_keptNumber M_keptBeings M_keptDeeds M_keptTold M_hash l1 q1 hq1) (cwV 1 hts gX6_may_X6_isDeed rfl rfl rfl (by decide +kernel) ⟨Nat.le_of_ble_eq_true rfl, Nat.le_of_ble_eq_true rfl⟩) ⟨sw_PR_bl, va_recv hK hPc (ci := 6) (q0 := 0) rfl rfl, sw_PR_pre hK hPc hE hS⟩ rfl rfl hl.1 rfl (lv_room (Nat.le_of_ble_eq_true rfl)) dX6_may_2 ⟨Nat.zero_le _, Nat.zero_le _⟩) ?_
  refine lv_if_ne (tgt := 13) hx hb dX6_may_5 (by decide) (fun c1 => ?_) (fun c1 => ?_)
  · have hf := sw_in c1 hf
    refine lv_aload_n hx hb dX6_may_13 rfl (lv_at hl 0 rfl) ?_
    refine lv_aload_n hx hb dX6_may_14 rfl (lv_at hl 0 rfl) ?_
    refine va_get (D := (dC, dI)) (ci := 6) (v := .int M_number) (C := RX6) (T := TX6) (N := 24) hx hb hts iX6 hown hK hP 0 rfl rfl 7 (by decide) hw1 (fun _ h9 => h9) rfl dX6_may_15 ?_
    refine lv_iload_n hx hb dX6_may_18 rfl (lv_at hl 1 rfl) ?_
    obtain ⟨q2, hq2, hf⟩ := sw_bs hf
    have hPc := hP.sub (ws' := [(aM, .inr (6, [.ref aM_page, .int M_pageMany, .ref aM_readDeeds, .int M_readMany, .int M_readBase, .int M_state, .int M_beings, .int M_number, .int M_deedsDone, .ref aM_rows, .ref aM_far, .ref aM_firsts, .ref aM_line, .int M_lined, .int M_toldMany, .ref aM_toldRows, .ref aM_parts, .int M_seedNow, .int M_keptNumber, .int M_keptBeings, .int M_keptDeeds, .int M_keptTold, .ref aM_keptToldRows, .long M_hash])), (aM_rows, .inl (cI, 20, .inl M_rows))]) [0, 1] rfl
    refine sw_rd (W.runV (As := [.int M_number, .int l1]) (rest := []) ⟨hx, hb, hml, hown, hts⟩ (k_X6_done l dC dI cI cZ t0 aM aM_page aM_readDeeds aM_rows aM_far aM_firsts aM_line aM_toldRows aM_parts aM_keptToldRows M_pageMany M_readMany M_readBase M_state M_beings M_number M_deedsDone M_lined M_toldMany M_seedNow M_keptNumber M_keptBeings M_keptDeeds M_keptTold M_hash M_rows M_number l1 q2 hq2) (cwV 2 hts gX6_may_X6_done rfl rfl rfl (by decide +kernel) ⟨Nat.le_of_ble_eq_true rfl, Nat.le_of_ble_eq_true rfl⟩) ⟨sw_PR_bl, va_recv hK hPc (ci := 6) (q0 := 0) rfl rfl, sw_PR_pre hK hPc hE hS⟩ rfl rfl hl.1 rfl (lv_room (Nat.le_of_ble_eq_true rfl)) dX6_may_19 ⟨Nat.zero_le _, Nat.zero_le _⟩) ?_
    refine lv_iconst (v := -1) hx hb dX6_may_22 (by decide) ?_
    refine lv_icmp_ne (tgt := 30) hx hb dX6_may_23 (by decide) (fun c2 => ?_) (fun c2 => ?_)
    · have hf := sw_in c2 hf
      refine lv_iconst (v := 1) hx hb dX6_may_30 (by decide) ?_
      subst hQ
      exact W.iret hx hb hr (fun t ht hW => ⟨_, rfl, Option.some.inj hf, ht⟩) (fun _ h => absurd h List.not_mem_nil) dX6_may_31 hlocks
    · have hf := sw_ip c2 hf
      refine lv_iconst (v := 0) hx hb dX6_may_26 (by decide) ?_
      refine lv_goto (tgt := 31) hx hb dX6_may_27 (by decide) ?_
      subst hQ
      exact W.iret hx hb hr (fun t ht hW => ⟨_, rfl, Option.some.inj hf, ht⟩) (fun _ h => absurd h List.not_mem_nil) dX6_may_31 hlocks
  · have hf := sw_ip c1 hf
    refine lv_bipush (v := -101) hx hb dX6_may_8 (by decide) ?_
    refine lv_goto (tgt := 31) hx hb dX6_may_10 (by decide) ?_
    subst hQ
    exact W.iret hx hb hr (fun t ht hW => ⟨_, rfl, Option.some.inj hf, ht⟩) (fun _ h => absurd h List.not_mem_nil) dX6_may_31 hlocks
