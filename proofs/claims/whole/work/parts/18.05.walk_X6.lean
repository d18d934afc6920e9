abbrev rm_X6_worstOf : Room := { frames := 5, cells := 0, slots := 0, locals := 115 }
set_option maxHeartbeats 1000000 in
set_option maxRecDepth 100000 in
theorem k_X6_worstOf (l : Launch) (dC : Nat → ClassId) (dI : Nat → Nat → Nat) (cI cZ : ClassId) (t0 : Nat) (sz : Nat) (aM aM_page aM_readDeeds aM_rows aM_far aM_firsts aM_line aM_toldRows aM_parts aM_keptToldRows : Nat) (M_pageMany : Int32) (M_readMany : Int32) (M_readBase : Int32) (M_state : Int32) (M_beings : Int32) (M_number : Int32) (M_deedsDone : Int32) (M_lined : Int32) (M_toldMany : Int32) (M_seedNow : Int32) (M_keptNumber : Int32) (M_keptBeings : Int32) (M_keptDeeds : Int32) (M_keptTold : Int32) (M_hash : Int64) (M_line : Nat → Int32) (M_toldRows : Nat → Int32) (M_parts : Nat → Int32) (l1 : Int32) (rv : Int32) (M_parts' : Nat → Int32) (hf : F_X6_worstOf M_beings M_lined M_toldMany M_line M_toldRows M_parts l1 = some (rv, M_parts')) : Met l yX6_worstOf wsX6_worstOf rm_X6_worstOf (sw_PW (dC, dI) t0 [(cI, .int), (cZ, .boolean)] [.ref aM, .int l1] [(aM, .inr (6, [.ref aM_page, .int M_pageMany, .ref aM_readDeeds, .int M_readMany, .int M_readBase, .int M_state, .int M_beings, .int M_number, .int M_deedsDone, .ref aM_rows, .ref aM_far, .ref aM_firsts, .ref aM_line, .int M_lined, .int M_toldMany, .ref aM_toldRows, .ref aM_parts, .int M_seedNow, .int M_keptNumber, .int M_keptBeings, .int M_keptDeeds, .int M_keptTold, .ref aM_keptToldRows, .long M_hash])), (aM_line, .inl (cI, 7776, .inl M_line)), (aM_toldRows, .inl (cI, 8, .inl M_toldRows)), (aM_parts, .inl (cI, 32, .inl M_parts))] sz) (va_Qi (fun r (_ : Unit) => r = rv) (fun _ t => sw_B (dC, dI) [(cI, .int), (cZ, .boolean)] [(aM, .inr (6, [.ref aM_page, .int M_pageMany, .ref aM_readDeeds, .int M_readMany, .int M_readBase, .int M_state, .int M_beings, .int M_number, .int M_deedsDone, .ref aM_rows, .ref aM_far, .ref aM_firsts, .ref aM_line, .int M_lined, .int M_toldMany, .ref aM_toldRows, .ref aM_parts, .int M_seedNow, .int M_keptNumber, .int M_keptBeings, .int M_keptDeeds, .int M_keptTold, .ref aM_keptToldRows, .long M_hash])), (aM_line, .inl (cI, 7776, .inl M_line)), (aM_toldRows, .inl (cI, 8, .inl M_toldRows)), (aM_parts, .inl (cI, 32, .inl M_parts'))] (va_A [(aM, .inr (6, [.ref aM_page, .int M_pageMany, .ref aM_readDeeds, .int M_readMany, .int M_readBase, .int M_state, .int M_beings, .int M_number, .int M_deedsDone, .ref aM_rows, .ref aM_far, .ref aM_firsts, .ref aM_line, .int M_lined, .int M_toldMany, .ref aM_toldRows, .ref aM_parts, .int M_seedNow, .int M_keptNumber, .int M_keptBeings, .int M_keptDeeds, .int M_keptTold, .ref aM_keptToldRows, .long M_hash])), (aM_line, .inl (cI, 7776, .inl M_line)), (aM_toldRows, .inl (cI, 8, .inl M_toldRows)), (aM_parts, .inl (cI, 32, .inl M_parts))] sz) t) (va_A [(aM, .inr (6, [.ref aM_page, .int M_pageMany, .ref aM_readDeeds, .int M_readMany, .int M_readBase, .int M_state, .int M_beings, .int M_number, .int M_deedsDone, .ref aM_rows, .ref aM_far, .ref aM_firsts, .ref aM_line, .int M_lined, .int M_toldMany, .ref aM_toldRows, .ref aM_parts, .int M_seedNow, .int M_keptNumber, .int M_keptBeings, .int M_keptDeeds, .int M_keptTold, .ref aM_keptToldRows, .long M_hash])), (aM_line, .inl (cI, 7776, .inl M_line)), (aM_toldRows, .inl (cI, 8, .inl M_toldRows)), (aM_parts, .inl (cI, 32, .inl M_parts))] sz)) 0 0 (va_A [(aM, .inr (6, [.ref aM_page, .int M_pageMany, .ref aM_readDeeds, .int M_readMany, .int M_readBase, .int M_state, .int M_beings, .int M_number, .int M_deedsDone, .ref aM_rows, .ref aM_far, .ref aM_firsts, .ref aM_line, .int M_lined, .int M_toldMany, .ref aM_toldRows, .ref aM_parts, .int M_seedNow, .int M_keptNumber, .int M_keptBeings, .int M_keptDeeds, .int M_keptTold, .ref aM_keptToldRows, .long M_hash])), (aM_line, .inl (cI, 7776, .inl M_line)), (aM_toldRows, .inl (cI, 8, .inl M_toldRows)), (aM_parts, .inl (cI, 32, .inl M_parts))] sz) := by
  refine sw_metW (cc := cX6_worstOf) (maxL := 5) (ret := (some .int)) (lv := [(0, .ref aM), (1, .int l1)]) (by decide) rfl (Nat.le_of_ble_eq_true rfl) rfl ?_
  intro p e s m below meth c Q A hsz hAe hQ hx hb hr hts hown hlocks hml hmn hP hK hD hE hS hA ls hl
  have hS0 := hS
  have hown : s.vm.findClass RX6 = some m.cls := hown
  have hf := (F_X6_worstOf.eq_1 _ _ _ _ _ _ _).symm.trans hf
  have hw2 := hts (.fieldLink RX6 140 "SwallowedInTurnModel" "lined" "I") (List.mem_of_getElem? (i := 2) (by decide +kernel))
  have iX6 : ∀ w ∈ u_ws RX6 TX6 24, w ∈ wsX6_worstOf := by decide +kernel
  have hw3 := hts (.fieldLink RX6 25 "SwallowedInTurnModel" "line" "[I") (List.mem_of_getElem? (i := 3) (by decide +kernel))
  have hw1 := hts (.fieldLink RX6 31 "SwallowedInTurnModel" "parts" "[I") (List.mem_of_getElem? (i := 1) (by decide +kernel))
  have hf0 := hf
  clear hf
  have hP0 := hP
  have hD0 := hD
  clear hP hD hS
  have hl0 := hl
  clear hl
  have hB_25 :  ∀ (fu : Nat) (M_parts : Nat → Int32) (l2 : Int32) (l3 : Int32), F_X6_worstOf_25 M_beings M_lined M_toldMany M_line M_toldRows l1 fu M_parts l2 l3 = some (rv, M_parts') → ∀ (H : Heap) (locs : List Loc), va_P (dC, dI) vwCl [(aM, .inr (6, [.ref aM_page, .int M_pageMany, .ref aM_readDeeds, .int M_readMany, .int M_readBase, .int M_state, .int M_beings, .int M_number, .int M_deedsDone, .ref aM_rows, .ref aM_far, .ref aM_firsts, .ref aM_line, .int M_lined, .int M_toldMany, .ref aM_toldRows, .ref aM_parts, .int M_seedNow, .int M_keptNumber, .int M_keptBeings, .int M_keptDeeds, .int M_keptTold, .ref aM_keptToldRows, .long M_hash])), (aM_line, .inl (cI, 7776, .inl M_line)), (aM_toldRows, .inl (cI, 8, .inl M_toldRows)), (aM_parts, .inl (cI, 32, .inl M_parts))] H → va_D A [(aM, .inr (6, [.ref aM_page, .int M_pageMany, .ref aM_readDeeds, .int M_readMany, .int M_readBase, .int M_state, .int M_beings, .int M_number, .int M_deedsDone, .ref aM_rows, .ref aM_far, .ref aM_firsts, .ref aM_line, .int M_lined, .int M_toldMany, .ref aM_toldRows, .ref aM_parts, .int M_seedNow, .int M_keptNumber, .int M_keptBeings, .int M_keptDeeds, .int M_keptTold, .ref aM_keptToldRows, .long M_hash])), (aM_line, .inl (cI, 7776, .inl M_line)), (aM_toldRows, .inl (cI, 8, .inl M_toldRows)), (aM_parts, .inl (cI, 32, .inl M_parts))] → va_S A s.heap H locs → ∀ ls : Array Slot, lv_has ls 5 [(0, .ref aM), (1, .int l1), (2, .int l2), (3, .int l3)] → W p l e rm_X6_worstOf s m ([.ref aM, .int l1] : List Value).toArray below meth c H locs 0 0 Q (F0 m 25 ls []) := by
    intro   fu
    induction fu with
    | zero =>
      intro M_parts l2 l3 hf
      exact nomatch (show (none : Option (Int32 × (Nat → Int32))) = some (rv, M_parts') from hf)
    | succ fu ih =>
      intro M_parts l2 l3 hf H locs hP hD hS ls hl
      have hf := (F_X6_worstOf_25.eq_2 _ _ _ _ _ _ _ _ _ _).symm.trans hf
      refine lv_iload_n hx hb dX6_worstOf_25 rfl (lv_at hl 3 rfl) ?_
      refine lv_aload_n hx hb dX6_worstOf_26 rfl (lv_at hl 0 rfl) ?_
      refine va_get (D := (dC, dI)) (ci := 6) (v := .int M_lined) (C := RX6) (T := TX6) (N := 24) hx hb hts iX6 hown hK hP 0 rfl rfl 13 (by decide) hw2 (fun _ h9 => h9) rfl dX6_worstOf_27 ?_
      refine lv_icmp_ge (tgt := 99) hx hb dX6_worstOf_30 (by decide) (fun c1 => ?_) (fun c1 => ?_)
      · have hf := sw_ip c1 hf
        refine lv_iload_n hx hb dX6_worstOf_99 rfl (lv_at hl 2 rfl) ?_
        subst hQ hAe
        cases hf
        exact W.iret hx hb hr (fun t ht hW => ⟨⟨_, (), rfl, rfl, ⟨by rw [ht]; exact hP, va_K.moved hW.alike hK, hD⟩⟩, hS.F ht⟩) hS.2.2 dX6_worstOf_100 hlocks
      · have hf := sw_in c1 hf
        refine lv_aload_n hx hb dX6_worstOf_33 rfl (lv_at hl 0 rfl) ?_
        refine lv_aload_n hx hb dX6_worstOf_34 rfl (lv_at hl 0 rfl) ?_
        refine va_get (D := (dC, dI)) (ci := 6) (v := .ref aM_line) (C := RX6) (T := TX6) (N := 24) hx hb hts iX6 hown hK hP 0 rfl rfl 12 (by decide) hw3 (fun _ h9 => h9) rfl dX6_worstOf_35 ?_
        refine lv_iload_n hx hb dX6_worstOf_38 rfl (lv_at hl 3 rfl) ?_
        obtain ⟨hi1, hf⟩ := sw_ix_s hf
        refine va_iald hx hb hK hP 1 0 rfl rfl hi1 dX6_worstOf_39 ?_
        obtain ⟨q2, hq2, hf⟩ := sw_bs hf
        have hPc := hP.sub (ws' := [(aM, .inr (6, [.ref aM_page, .int M_pageMany, .ref aM_readDeeds, .int M_readMany, .int M_readBase, .int M_state, .int M_beings, .int M_number, .int M_deedsDone, .ref aM_rows, .ref aM_far, .ref aM_firsts, .ref aM_line, .int M_lined, .int M_toldMany, .ref aM_toldRows, .ref aM_parts, .int M_seedNow, .int M_keptNumber, .int M_keptBeings, .int M_keptDeeds, .int M_keptTold, .ref aM_keptToldRows, .long M_hash])), (aM_toldRows, .inl (cI, 8, .inl M_toldRows))]) [0, 2] rfl
        refine sw_rd (W.runV (As := [.int (M_line l3.toNatClampNeg)]) (rest := []) ⟨hx, hb, hml, hown, hts⟩ (k_X6_isToldSo l dC dI cI cZ t0 aM aM_page aM_readDeeds aM_rows aM_far aM_firsts aM_line aM_toldRows aM_parts aM_keptToldRows M_pageMany M_readMany M_readBase M_state M_beings M_number M_deedsDone M_lined M_toldMany M_seedNow M_keptNumber M_keptBeings M_keptDeeds M_keptTold M_hash M_toldRows (M_line l3.toNatClampNeg) q2 hq2) (cwV 1 hts gX6_worstOf_X6_isToldSo rfl rfl rfl (by decide +kernel) ⟨Nat.le_of_ble_eq_true rfl, Nat.le_of_ble_eq_true rfl⟩) ⟨sw_PR_bl, va_recv hK hPc (ci := 6) (q0 := 0) rfl rfl, sw_PR_pre hK hPc hE hS⟩ rfl rfl hl.1 rfl (lv_room (Nat.le_of_ble_eq_true rfl)) dX6_worstOf_40 ⟨Nat.zero_le _, Nat.zero_le _⟩) ?_
        refine lv_if_eq (tgt := 93) hx hb dX6_worstOf_43 (by decide) (fun c2 => ?_) (fun c2 => ?_)
        · have hf := sw_ip c2 hf
          refine lv_iinc (v := l3 + (1 : Int32)) (lv' := [(3, .int (l3 + (1 : Int32))), (0, .ref aM), (1, .int l1), (2, .int l2)]) hx hb dX6_worstOf_93 hl (k := 3) rfl (sw_ii _) (by decide) rfl (fun ls hl => ?_)
          refine lv_goto (tgt := 25) hx hb dX6_worstOf_96 (by decide) ?_
          exact ih M_parts l2 (l3 + (1 : Int32)) hf H locs hP hD hS ls (lv_sub hl [1, 2, 3, 0] rfl)
        · have hf := sw_in c2 hf
          refine lv_aload_n hx hb dX6_worstOf_46 rfl (lv_at hl 0 rfl) ?_
          refine lv_aload_n hx hb dX6_worstOf_47 rfl (lv_at hl 0 rfl) ?_
          refine va_get (D := (dC, dI)) (ci := 6) (v := .ref aM_line) (C := RX6) (T := TX6) (N := 24) hx hb hts iX6 hown hK hP 0 rfl rfl 12 (by decide) hw3 (fun _ h9 => h9) rfl dX6_worstOf_48 ?_
          refine lv_iload_n hx hb dX6_worstOf_51 rfl (lv_at hl 3 rfl) ?_
          obtain ⟨hi3, hf⟩ := sw_ix_s hf
          refine va_iald hx hb hK hP 1 0 rfl rfl hi3 dX6_worstOf_52 ?_
          refine lv_iload_n hx hb dX6_worstOf_53 rfl (lv_at hl 1 rfl) ?_
          obtain ⟨q4, hq4, hf⟩ := sw_bs hf
          have hPc := hP.sub (ws' := [(aM, .inr (6, [.ref aM_page, .int M_pageMany, .ref aM_readDeeds, .int M_readMany, .int M_readBase, .int M_state, .int M_beings, .int M_number, .int M_deedsDone, .ref aM_rows, .ref aM_far, .ref aM_firsts, .ref aM_line, .int M_lined, .int M_toldMany, .ref aM_toldRows, .ref aM_parts, .int M_seedNow, .int M_keptNumber, .int M_keptBeings, .int M_keptDeeds, .int M_keptTold, .ref aM_keptToldRows, .long M_hash]))]) [0] rfl
          refine sw_rd (W.runV (As := [.int (M_line l3.toNatClampNeg), .int l1]) (rest := []) ⟨hx, hb, hml, hown, hts⟩ (k_X6_heardBy l dC dI cI cZ t0 aM aM_page aM_readDeeds aM_rows aM_far aM_firsts aM_line aM_toldRows aM_parts aM_keptToldRows M_pageMany M_readMany M_readBase M_state M_beings M_number M_deedsDone M_lined M_toldMany M_seedNow M_keptNumber M_keptBeings M_keptDeeds M_keptTold M_hash (M_line l3.toNatClampNeg) l1 q4 hq4) (cwV 2 hts gX6_worstOf_X6_heardBy rfl rfl rfl (by decide +kernel) ⟨Nat.le_of_ble_eq_true rfl, Nat.le_of_ble_eq_true rfl⟩) ⟨sw_PR_bl, va_recv hK hPc (ci := 6) (q0 := 0) rfl rfl, sw_PR_pre hK hPc hE hS⟩ rfl rfl hl.1 rfl (lv_room (Nat.le_of_ble_eq_true rfl)) dX6_worstOf_54 ⟨Nat.zero_le _, Nat.zero_le _⟩) ?_
          refine lv_istore (lv' := [(4, .int q4), (0, .ref aM), (1, .int l1), (2, .int l2), (3, .int l3)]) hx hb dX6_worstOf_57 hl (by decide) rfl (fun ls hl => ?_)
          refine lv_aload_n hx hb dX6_worstOf_59 rfl (lv_at hl 1 rfl) ?_
          refine va_get (D := (dC, dI)) (ci := 6) (v := .ref aM_parts) (C := RX6) (T := TX6) (N := 24) hx hb hts iX6 hown hK hP 0 rfl rfl 16 (by decide) hw1 (fun _ h9 => h9) rfl dX6_worstOf_60 ?_
          refine lv_iload hx hb dX6_worstOf_63 (lv_at hl 0 rfl) ?_
          refine lv_dup2_11 hx hb dX6_worstOf_65 rfl rfl ?_
          obtain ⟨hi5, hf⟩ := sw_ix_s hf
          refine va_iald hx hb hK hP 3 0 rfl rfl hi5 dX6_worstOf_66 ?_
          refine lv_iconst (v := 1) hx hb dX6_worstOf_67 (by decide) ?_
          refine lv_iadd hx hb dX6_worstOf_68 ?_
          obtain ⟨hi6, hf⟩ := sw_ix_s hf
          refine va_iast hx hb hK hP hD hS 3 0 rfl rfl hi6 dX6_worstOf_69 (fun H locs hP hD hS => ?_)
          have hP : va_P (dC, dI) vwCl [(aM, .inr (6, [.ref aM_page, .int M_pageMany, .ref aM_readDeeds, .int M_readMany, .int M_readBase, .int M_state, .int M_beings, .int M_number, .int M_deedsDone, .ref aM_rows, .ref aM_far, .ref aM_firsts, .ref aM_line, .int M_lined, .int M_toldMany, .ref aM_toldRows, .ref aM_parts, .int M_seedNow, .int M_keptNumber, .int M_keptBeings, .int M_keptDeeds, .int M_keptTold, .ref aM_keptToldRows, .long M_hash])), (aM_line, .inl (cI, 7776, .inl M_line)), (aM_toldRows, .inl (cI, 8, .inl M_toldRows)), (aM_parts, .inl (cI, 32, .inl (upd M_parts q4.toNatClampNeg ((M_parts q4.toNatClampNeg) + (1 : Int32)))))] H := hP
          have hD : va_D A [(aM, .inr (6, [.ref aM_page, .int M_pageMany, .ref aM_readDeeds, .int M_readMany, .int M_readBase, .int M_state, .int M_beings, .int M_number, .int M_deedsDone, .ref aM_rows, .ref aM_far, .ref aM_firsts, .ref aM_line, .int M_lined, .int M_toldMany, .ref aM_toldRows, .ref aM_parts, .int M_seedNow, .int M_keptNumber, .int M_keptBeings, .int M_keptDeeds, .int M_keptTold, .ref aM_keptToldRows, .long M_hash])), (aM_line, .inl (cI, 7776, .inl M_line)), (aM_toldRows, .inl (cI, 8, .inl M_toldRows)), (aM_parts, .inl (cI, 32, .inl (upd M_parts q4.toNatClampNeg ((M_parts q4.toNatClampNeg) + (1 : Int32)))))] := hD
          refine lv_aload_n hx hb dX6_worstOf_70 rfl (lv_at hl 1 rfl) ?_
          refine va_get (D := (dC, dI)) (ci := 6) (v := .ref aM_parts) (C := RX6) (T := TX6) (N := 24) hx hb hts iX6 hown hK hP 0 rfl rfl 16 (by decide) hw1 (fun _ h9 => h9) rfl dX6_worstOf_71 ?_
          refine lv_iload hx hb dX6_worstOf_74 (lv_at hl 0 rfl) ?_
          obtain ⟨hi7, hf⟩ := sw_ix_s hf
          refine va_iald hx hb hK hP 3 0 rfl rfl hi7 dX6_worstOf_76 ?_
          refine lv_iload_n hx hb dX6_worstOf_77 rfl (lv_at hl 3 rfl) ?_
          refine lv_icmp_le (tgt := 91) hx hb dX6_worstOf_78 (by decide) (fun c3 => ?_) (fun c3 => ?_)
          · have hf := sw_ip c3 hf
            refine lv_iload_n hx hb dX6_worstOf_91 rfl (lv_at hl 3 rfl) ?_
            refine lv_istore_n (lv' := [(2, .int l2), (4, .int q4), (0, .ref aM), (1, .int l1), (3, .int l3)]) hx hb dX6_worstOf_92 rfl hl (by decide) rfl (fun ls hl => ?_)
            refine lv_iinc (v := l3 + (1 : Int32)) (lv' := [(3, .int (l3 + (1 : Int32))), (2, .int l2), (4, .int q4), (0, .ref aM), (1, .int l1)]) hx hb dX6_worstOf_93 hl (k := 4) rfl (sw_ii _) (by decide) rfl (fun ls hl => ?_)
            refine lv_goto (tgt := 25) hx hb dX6_worstOf_96 (by decide) ?_
            exact ih (upd M_parts q4.toNatClampNeg ((M_parts q4.toNatClampNeg) + (1 : Int32))) l2 (l3 + (1 : Int32)) hf H locs hP hD hS ls (lv_sub hl [3, 4, 1, 0] rfl)
          · have hf := sw_in c3 hf
            refine lv_aload_n hx hb dX6_worstOf_81 rfl (lv_at hl 1 rfl) ?_
            refine va_get (D := (dC, dI)) (ci := 6) (v := .ref aM_parts) (C := RX6) (T := TX6) (N := 24) hx hb hts iX6 hown hK hP 0 rfl rfl 16 (by decide) hw1 (fun _ h9 => h9) rfl dX6_worstOf_82 ?_
            refine lv_iload hx hb dX6_worstOf_85 (lv_at hl 0 rfl) ?_
            obtain ⟨hi8, hf⟩ := sw_ix_s hf
            refine va_iald hx hb hK hP 3 0 rfl rfl hi8 dX6_worstOf_87 ?_
            refine lv_goto (tgt := 92) hx hb dX6_worstOf_88 (by decide) ?_
            refine lv_istore_n (lv' := [(2, .int ((upd M_parts q4.toNatClampNeg ((M_parts q4.toNatClampNeg) + (1 : Int32))) q4.toNatClampNeg)), (4, .int q4), (0, .ref aM), (1, .int l1), (3, .int l3)]) hx hb dX6_worstOf_92 rfl hl (by decide) rfl (fun ls hl => ?_)
            refine lv_iinc (v := l3 + (1 : Int32)) (lv' := [(3, .int (l3 + (1 : Int32))), (2, .int ((upd M_parts q4.toNatClampNeg ((M_parts q4.toNatClampNeg) + (1 : Int32))) q4.toNatClampNeg)), (4, .int q4), (0, .ref aM), (1, .int l1)]) hx hb dX6_worstOf_93 hl (k := 4) rfl (sw_ii _) (by decide) rfl (fun ls hl => ?_)
            refine lv_goto (tgt := 25) hx hb dX6_worstOf_96 (by decide) ?_
            exact ih (upd M_parts q4.toNatClampNeg ((M_parts q4.toNatClampNeg) + (1 : Int32))) ((upd M_parts q4.toNatClampNeg ((M_parts q4.toNatClampNeg) + (1 : Int32))) q4.toNatClampNeg) (l3 + (1 : Int32)) hf H locs hP hD hS ls (lv_sub hl [3, 4, 1, 0] rfl)
  have hB_2 :  ∀ (fu : Nat) (M_parts : Nat → Int32) (l2 : Int32), F_X6_worstOf_2 M_beings M_lined M_toldMany M_line M_toldRows l1 fu M_parts l2 = some (rv, M_parts') → ∀ (H : Heap) (locs : List Loc), va_P (dC, dI) vwCl [(aM, .inr (6, [.ref aM_page, .int M_pageMany, .ref aM_readDeeds, .int M_readMany, .int M_readBase, .int M_state, .int M_beings, .int M_number, .int M_deedsDone, .ref aM_rows, .ref aM_far, .ref aM_firsts, .ref aM_line, .int M_lined, .int M_toldMany, .ref aM_toldRows, .ref aM_parts, .int M_seedNow, .int M_keptNumber, .int M_keptBeings, .int M_keptDeeds, .int M_keptTold, .ref aM_keptToldRows, .long M_hash])), (aM_line, .inl (cI, 7776, .inl M_line)), (aM_toldRows, .inl (cI, 8, .inl M_toldRows)), (aM_parts, .inl (cI, 32, .inl M_parts))] H → va_D A [(aM, .inr (6, [.ref aM_page, .int M_pageMany, .ref aM_readDeeds, .int M_readMany, .int M_readBase, .int M_state, .int M_beings, .int M_number, .int M_deedsDone, .ref aM_rows, .ref aM_far, .ref aM_firsts, .ref aM_line, .int M_lined, .int M_toldMany, .ref aM_toldRows, .ref aM_parts, .int M_seedNow, .int M_keptNumber, .int M_keptBeings, .int M_keptDeeds, .int M_keptTold, .ref aM_keptToldRows, .long M_hash])), (aM_line, .inl (cI, 7776, .inl M_line)), (aM_toldRows, .inl (cI, 8, .inl M_toldRows)), (aM_parts, .inl (cI, 32, .inl M_parts))] → va_S A s.heap H locs → ∀ ls : Array Slot, lv_has ls 5 [(0, .ref aM), (1, .int l1), (2, .int l2)] → W p l e rm_X6_worstOf s m ([.ref aM, .int l1] : List Value).toArray below meth c H locs 0 0 Q (F0 m 2 ls []) := by
    intro   fu
    induction fu with
    | zero =>
      intro M_parts l2 hf
      exact nomatch (show (none : Option (Int32 × (Nat → Int32))) = some (rv, M_parts') from hf)
    | succ fu ih =>
      intro M_parts l2 hf H locs hP hD hS ls hl
      have hf := (F_X6_worstOf_2.eq_2 _ _ _ _ _ _ _ _ _).symm.trans hf
      refine lv_iload_n hx hb dX6_worstOf_2 rfl (lv_at hl 2 rfl) ?_
      refine lv_bipush (v := 32) hx hb dX6_worstOf_3 (by decide) ?_
      refine lv_icmp_ge (tgt := 21) hx hb dX6_worstOf_5 (by decide) (fun c4 => ?_) (fun c4 => ?_)
      · have hf := sw_ip c4 hf
        refine lv_iconst (v := 0) hx hb dX6_worstOf_21 (by decide) ?_
        refine lv_istore_n (lv' := [(2, .int (0 : Int32)), (0, .ref aM), (1, .int l1)]) hx hb dX6_worstOf_22 rfl hl (by decide) rfl (fun ls hl => ?_)
        refine lv_iconst (v := 0) hx hb dX6_worstOf_23 (by decide) ?_
        refine lv_istore_n (lv' := [(3, .int (0 : Int32)), (2, .int (0 : Int32)), (0, .ref aM), (1, .int l1)]) hx hb dX6_worstOf_24 rfl hl (by decide) rfl (fun ls hl => ?_)
        exact hB_25   sw_fu M_parts (0 : Int32) (0 : Int32) hf H locs hP hD hS ls (lv_sub hl [2, 3, 1, 0] rfl)
      · have hf := sw_in c4 hf
        refine lv_aload_n hx hb dX6_worstOf_8 rfl (lv_at hl 0 rfl) ?_
        refine va_get (D := (dC, dI)) (ci := 6) (v := .ref aM_parts) (C := RX6) (T := TX6) (N := 24) hx hb hts iX6 hown hK hP 0 rfl rfl 16 (by decide) hw1 (fun _ h9 => h9) rfl dX6_worstOf_9 ?_
        refine lv_iload_n hx hb dX6_worstOf_12 rfl (lv_at hl 2 rfl) ?_
        refine lv_iconst (v := 0) hx hb dX6_worstOf_13 (by decide) ?_
        obtain ⟨hi9, hf⟩ := sw_ix_s hf
        refine va_iast hx hb hK hP hD hS 3 0 rfl rfl hi9 dX6_worstOf_14 (fun H locs hP hD hS => ?_)
        have hP : va_P (dC, dI) vwCl [(aM, .inr (6, [.ref aM_page, .int M_pageMany, .ref aM_readDeeds, .int M_readMany, .int M_readBase, .int M_state, .int M_beings, .int M_number, .int M_deedsDone, .ref aM_rows, .ref aM_far, .ref aM_firsts, .ref aM_line, .int M_lined, .int M_toldMany, .ref aM_toldRows, .ref aM_parts, .int M_seedNow, .int M_keptNumber, .int M_keptBeings, .int M_keptDeeds, .int M_keptTold, .ref aM_keptToldRows, .long M_hash])), (aM_line, .inl (cI, 7776, .inl M_line)), (aM_toldRows, .inl (cI, 8, .inl M_toldRows)), (aM_parts, .inl (cI, 32, .inl (upd M_parts l2.toNatClampNeg (0 : Int32))))] H := hP
        have hD : va_D A [(aM, .inr (6, [.ref aM_page, .int M_pageMany, .ref aM_readDeeds, .int M_readMany, .int M_readBase, .int M_state, .int M_beings, .int M_number, .int M_deedsDone, .ref aM_rows, .ref aM_far, .ref aM_firsts, .ref aM_line, .int M_lined, .int M_toldMany, .ref aM_toldRows, .ref aM_parts, .int M_seedNow, .int M_keptNumber, .int M_keptBeings, .int M_keptDeeds, .int M_keptTold, .ref aM_keptToldRows, .long M_hash])), (aM_line, .inl (cI, 7776, .inl M_line)), (aM_toldRows, .inl (cI, 8, .inl M_toldRows)), (aM_parts, .inl (cI, 32, .inl (upd M_parts l2.toNatClampNeg (0 : Int32))))] := hD
        refine lv_iinc (v := l2 + (1 : Int32)) (lv' := [(2, .int (l2 + (1 : Int32))), (0, .ref aM), (1, .int l1)]) hx hb dX6_worstOf_15 hl (k := 2) rfl (sw_ii _) (by decide) rfl (fun ls hl => ?_)
        refine lv_goto (tgt := 2) hx hb dX6_worstOf_18 (by decide) ?_
        exact ih (upd M_parts l2.toNatClampNeg (0 : Int32)) (l2 + (1 : Int32)) hf H locs hP hD hS ls (lv_sub hl [1, 2, 0] rfl)
  have hf := hf0
  have hl := hl0
  have hP := hP0
  have hD := hD0
  have hS := hS0
  obtain ⟨H, hH⟩ : ∃ H, H = s.heap := ⟨_, rfl⟩
  obtain ⟨locs, hlo⟩ : ∃ locs : List Loc, locs = [] := ⟨_, rfl⟩
  rw [← hH] at hP
  have hS : va_S A s.heap H locs := by rw [hH, hlo]; exact hS0
  suffices hgo : W p l e rm_X6_worstOf s m ([.ref aM, .int l1] : List Value).toArray below meth c H locs 0 0 Q (F0 m 0 ls []) by rw [hH, hlo] at hgo; exact hgo
  refine lv_iconst (v := 0) hx hb dX6_worstOf_0 (by decide) ?_
  refine lv_istore_n (lv' := [(2, .int (0 : Int32)), (0, .ref aM), (1, .int l1)]) hx hb dX6_worstOf_1 rfl hl (by decide) rfl (fun ls hl => ?_)
  exact hB_2   sw_fu M_parts (0 : Int32) hf H locs hP hD hS ls (lv_sub hl [1, 2, 0] rfl)
abbrev rm_X6_askOf : Room := { frames := 6, cells := 0, slots := 0, locals := 139 }
set_option maxHeartbeats 1000000 in
set_option maxRecDepth 100000 in
theorem k_X6_askOf (l : Launch) (dC : Nat → ClassId) (dI : Nat → Nat → Nat) (cI cZ : ClassId) (t0 : Nat) (sz : Nat) (aM aM_page aM_readDeeds aM_rows aM_far aM_firsts aM_line aM_toldRows aM_parts aM_keptToldRows : Nat) (M_pageMany : Int32) (M_readMany : Int32) (M_readBase : Int32) (M_state : Int32) (M_beings : Int32) (M_number : Int32) (M_deedsDone : Int32) (M_lined : Int32) (M_toldMany : Int32) (M_seedNow : Int32) (M_keptNumber : Int32) (M_keptBeings : Int32) (M_keptDeeds : Int32) (M_keptTold : Int32) (M_hash : Int64) (M_line : Nat → Int32) (M_toldRows : Nat → Int32) (M_parts : Nat → Int32) (rv : Int32) (M_parts' : Nat → Int32) (hf : F_X6_askOf M_beings M_lined M_toldMany M_line M_toldRows M_parts = some (rv, M_parts')) : Met l yX6_askOf wsX6_askOf rm_X6_askOf (sw_PW (dC, dI) t0 [(cI, .int), (cZ, .boolean)] [.ref aM] [(aM, .inr (6, [.ref aM_page, .int M_pageMany, .ref aM_readDeeds, .int M_readMany, .int M_readBase, .int M_state, .int M_beings, .int M_number, .int M_deedsDone, .ref aM_rows, .ref aM_far, .ref aM_firsts, .ref aM_line, .int M_lined, .int M_toldMany, .ref aM_toldRows, .ref aM_parts, .int M_seedNow, .int M_keptNumber, .int M_keptBeings, .int M_keptDeeds, .int M_keptTold, .ref aM_keptToldRows, .long M_hash])), (aM_line, .inl (cI, 7776, .inl M_line)), (aM_toldRows, .inl (cI, 8, .inl M_toldRows)), (aM_parts, .inl (cI, 32, .inl M_parts))] sz) (va_Qi (fun r (_ : Unit) => r = rv) (fun _ t => sw_B (dC, dI) [(cI, .int), (cZ, .boolean)] [(aM, .inr (6, [.ref aM_page, .int M_pageMany, .ref aM_readDeeds, .int M_readMany, .int M_readBase, .int M_state, .int M_beings, .int M_number, .int M_deedsDone, .ref aM_rows, .ref aM_far, .ref aM_firsts, .ref aM_line, .int M_lined, .int M_toldMany, .ref aM_toldRows, .ref aM_parts, .int M_seedNow, .int M_keptNumber, .int M_keptBeings, .int M_keptDeeds, .int M_keptTold, .ref aM_keptToldRows, .long M_hash])), (aM_line, .inl (cI, 7776, .inl M_line)), (aM_toldRows, .inl (cI, 8, .inl M_toldRows)), (aM_parts, .inl (cI, 32, .inl M_parts'))] (va_A [(aM, .inr (6, [.ref aM_page, .int M_pageMany, .ref aM_readDeeds, .int M_readMany, .int M_readBase, .int M_state, .int M_beings, .int M_number, .int M_deedsDone, .ref aM_rows, .ref aM_far, .ref aM_firsts, .ref aM_line, .int M_lined, .int M_toldMany, .ref aM_toldRows, .ref aM_parts, .int M_seedNow, .int M_keptNumber, .int M_keptBeings, .int M_keptDeeds, .int M_keptTold, .ref aM_keptToldRows, .long M_hash])), (aM_line, .inl (cI, 7776, .inl M_line)), (aM_toldRows, .inl (cI, 8, .inl M_toldRows)), (aM_parts, .inl (cI, 32, .inl M_parts))] sz) t) (va_A [(aM, .inr (6, [.ref aM_page, .int M_pageMany, .ref aM_readDeeds, .int M_readMany, .int M_readBase, .int M_state, .int M_beings, .int M_number, .int M_deedsDone, .ref aM_rows, .ref aM_far, .ref aM_firsts, .ref aM_line, .int M_lined, .int M_toldMany, .ref aM_toldRows, .ref aM_parts, .int M_seedNow, .int M_keptNumber, .int M_keptBeings, .int M_keptDeeds, .int M_keptTold, .ref aM_keptToldRows, .long M_hash])), (aM_line, .inl (cI, 7776, .inl M_line)), (aM_toldRows, .inl (cI, 8, .inl M_toldRows)), (aM_parts, .inl (cI, 32, .inl M_parts))] sz)) 0 0 (va_A [(aM, .inr (6, [.ref aM_page, .int M_pageMany, .ref aM_readDeeds, .int M_readMany, .int M_readBase, .int M_state, .int M_beings, .int M_number, .int M_deedsDone, .ref aM_rows, .ref aM_far, .ref aM_firsts, .ref aM_line, .int M_lined, .int M_toldMany, .ref aM_toldRows, .ref aM_parts, .int M_seedNow, .int M_keptNumber, .int M_keptBeings, .int M_keptDeeds, .int M_keptTold, .ref aM_keptToldRows, .long M_hash])), (aM_line, .inl (cI, 7776, .inl M_line)), (aM_toldRows, .inl (cI, 8, .inl M_toldRows)), (aM_parts, .inl (cI, 32, .inl M_parts))] sz) := by
  refine sw_metW (cc := cX6_askOf) (maxL := 6) (ret := (some .int)) (lv := [(0, .ref aM)]) (by decide) rfl (Nat.le_of_ble_eq_true rfl) rfl ?_
  intro p e s m below meth c Q A hsz hAe hQ hx hb hr hts hown hlocks hml hmn hP hK hD hE hS hA ls hl
  have hS0 := hS
  have hown : s.vm.findClass RX6 = some m.cls := hown
  have hf := (F_X6_askOf.eq_1 _ _ _ _ _ _).symm.trans hf
  have hw1 := hts (.fieldLink RX6 72 "SwallowedInTurnModel" "beings" "I") (List.mem_of_getElem? (i := 1) (by decide +kernel))
  have iX6 : ∀ w ∈ u_ws RX6 TX6 24, w ∈ wsX6_askOf := by decide +kernel
  have hf0 := hf
  clear hf
  have hP0 := hP
  have hD0 := hD
  clear hP hD hS
  have hl0 := hl
  clear hl
  have hB_56 : ∀ (M_parts : Nat → Int32) (l2 : Int32) (l3 : Int32) (l4 : Int32) (l5 : Int32) (s0 : Int32),∀ (k6 : (Nat → Int32) → Int32 → Int32 → Int32 → Option (Int32 × (Nat → Int32))), (∀ (M_parts : Nat → Int32) (l1 : Int32) (l2 : Int32) (l3 : Int32), k6 M_parts l1 l2 l3 = some (rv, M_parts') → ∀ (H : Heap) (locs : List Loc), va_P (dC, dI) vwCl [(aM, .inr (6, [.ref aM_page, .int M_pageMany, .ref aM_readDeeds, .int M_readMany, .int M_readBase, .int M_state, .int M_beings, .int M_number, .int M_deedsDone, .ref aM_rows, .ref aM_far, .ref aM_firsts, .ref aM_line, .int M_lined, .int M_toldMany, .ref aM_toldRows, .ref aM_parts, .int M_seedNow, .int M_keptNumber, .int M_keptBeings, .int M_keptDeeds, .int M_keptTold, .ref aM_keptToldRows, .long M_hash])), (aM_line, .inl (cI, 7776, .inl M_line)), (aM_toldRows, .inl (cI, 8, .inl M_toldRows)), (aM_parts, .inl (cI, 32, .inl M_parts))] H → va_D A [(aM, .inr (6, [.ref aM_page, .int M_pageMany, .ref aM_readDeeds, .int M_readMany, .int M_readBase, .int M_state, .int M_beings, .int M_number, .int M_deedsDone, .ref aM_rows, .ref aM_far, .ref aM_firsts, .ref aM_line, .int M_lined, .int M_toldMany, .ref aM_toldRows, .ref aM_parts, .int M_seedNow, .int M_keptNumber, .int M_keptBeings, .int M_keptDeeds, .int M_keptTold, .ref aM_keptToldRows, .long M_hash])), (aM_line, .inl (cI, 7776, .inl M_line)), (aM_toldRows, .inl (cI, 8, .inl M_toldRows)), (aM_parts, .inl (cI, 32, .inl M_parts))] → va_S A s.heap H locs → ∀ ls : Array Slot, lv_has ls 6 [(0, .ref aM), (1, .int l1), (2, .int l2), (3, .int l3)] → W p l e rm_X6_askOf s m ([.ref aM] : List Value).toArray below meth c H locs 0 0 Q (F0 m 6 ls [])) →  F_X6_askOf_56 k6 M_beings M_lined M_toldMany M_line M_toldRows M_parts l2 l3 l4 l5 s0 = some (rv, M_parts') → ∀ (H : Heap) (locs : List Loc), va_P (dC, dI) vwCl [(aM, .inr (6, [.ref aM_page, .int M_pageMany, .ref aM_readDeeds, .int M_readMany, .int M_readBase, .int M_state, .int M_beings, .int M_number, .int M_deedsDone, .ref aM_rows, .ref aM_far, .ref aM_firsts, .ref aM_line, .int M_lined, .int M_toldMany, .ref aM_toldRows, .ref aM_parts, .int M_seedNow, .int M_keptNumber, .int M_keptBeings, .int M_keptDeeds, .int M_keptTold, .ref aM_keptToldRows, .long M_hash])), (aM_line, .inl (cI, 7776, .inl M_line)), (aM_toldRows, .inl (cI, 8, .inl M_toldRows)), (aM_parts, .inl (cI, 32, .inl M_parts))] H → va_D A [(aM, .inr (6, [.ref aM_page, .int M_pageMany, .ref aM_readDeeds, .int M_readMany, .int M_readBase, .int M_state, .int M_beings, .int M_number, .int M_deedsDone, .ref aM_rows, .ref aM_far, .ref aM_firsts, .ref aM_line, .int M_lined, .int M_toldMany, .ref aM_toldRows, .ref aM_parts, .int M_seedNow, .int M_keptNumber, .int M_keptBeings, .int M_keptDeeds, .int M_keptTold, .ref aM_keptToldRows, .long M_hash])), (aM_line, .inl (cI, 7776, .inl M_line)), (aM_toldRows, .inl (cI, 8, .inl M_toldRows)), (aM_parts, .inl (cI, 32, .inl M_parts))] → va_S A s.heap H locs → ∀ ls : Array Slot, lv_has ls 6 [(0, .ref aM), (2, .int l2), (3, .int l3), (4, .int l4), (5, .int l5)] → W p l e rm_X6_askOf s m ([.ref aM] : List Value).toArray below meth c H locs 0 0 Q (F0 m 56 ls [.int s0]) := by
    intro M_parts l2 l3 l4 l5 s0 k6 hk6 hf H locs hP hD hS ls hl
    have hf := (F_X6_askOf_56.eq_1 _ _ _ _ _ _ _ _ _ _ _ _).symm.trans hf
    refine lv_istore_n (lv' := [(1, .int s0), (0, .ref aM), (2, .int l2), (3, .int l3), (4, .int l4), (5, .int l5)]) hx hb dX6_askOf_56 rfl hl (by decide) rfl (fun ls hl => ?_)
    refine lv_iload hx hb dX6_askOf_57 (lv_at hl 5 rfl) ?_
    refine lv_if_eq (tgt := 67) hx hb dX6_askOf_59 (by decide) (fun c1 => ?_) (fun c1 => ?_)
    · have hf := sw_ip c1 hf
      refine lv_iload_n hx hb dX6_askOf_67 rfl (lv_at hl 2 rfl) ?_
      refine lv_istore_n (lv' := [(2, .int l2), (1, .int s0), (0, .ref aM), (3, .int l3), (4, .int l4), (5, .int l5)]) hx hb dX6_askOf_68 rfl hl (by decide) rfl (fun ls hl => ?_)
      refine lv_iinc (v := l3 + (1 : Int32)) (lv' := [(3, .int (l3 + (1 : Int32))), (2, .int l2), (1, .int s0), (0, .ref aM), (4, .int l4), (5, .int l5)]) hx hb dX6_askOf_69 hl (k := 3) rfl (sw_ii _) (by decide) rfl (fun ls hl => ?_)
      refine lv_goto (tgt := 6) hx hb dX6_askOf_72 (by decide) ?_
      exact hk6 M_parts s0 l2 (l3 + (1 : Int32)) hf H locs hP hD hS ls (lv_sub hl [3, 2, 1, 0] rfl)
    · have hf := sw_in c1 hf
      refine lv_iload hx hb dX6_askOf_62 (lv_at hl 4 rfl) ?_
      refine lv_goto (tgt := 68) hx hb dX6_askOf_64 (by decide) ?_
      refine lv_istore_n (lv' := [(2, .int l4), (1, .int s0), (0, .ref aM), (3, .int l3), (4, .int l4), (5, .int l5)]) hx hb dX6_askOf_68 rfl hl (by decide) rfl (fun ls hl => ?_)
      refine lv_iinc (v := l3 + (1 : Int32)) (lv' := [(3, .int (l3 + (1 : Int32))), (2, .int l4), (1, .int s0), (0, .ref aM), (4, .int l4), (5, .int l5)]) hx hb dX6_askOf_69 hl (k := 3) rfl (sw_ii _) (by decide) rfl (fun ls hl => ?_)
      refine lv_goto (tgt := 6) hx hb dX6_askOf_72 (by decide) ?_
      exact hk6 M_parts s0 l4 (l3 + (1 : Int32)) hf H locs hP hD hS ls (lv_sub hl [3, 2, 1, 0] rfl)
  have hB_44 : ∀ (M_parts : Nat → Int32) (l1 : Int32) (l2 : Int32) (l3 : Int32) (l4 : Int32) (s0 : Int32),∀ (k6 : (Nat → Int32) → Int32 → Int32 → Int32 → Option (Int32 × (Nat → Int32))), (∀ (M_parts : Nat → Int32) (l1 : Int32) (l2 : Int32) (l3 : Int32), k6 M_parts l1 l2 l3 = some (rv, M_parts') → ∀ (H : Heap) (locs : List Loc), va_P (dC, dI) vwCl [(aM, .inr (6, [.ref aM_page, .int M_pageMany, .ref aM_readDeeds, .int M_readMany, .int M_readBase, .int M_state, .int M_beings, .int M_number, .int M_deedsDone, .ref aM_rows, .ref aM_far, .ref aM_firsts, .ref aM_line, .int M_lined, .int M_toldMany, .ref aM_toldRows, .ref aM_parts, .int M_seedNow, .int M_keptNumber, .int M_keptBeings, .int M_keptDeeds, .int M_keptTold, .ref aM_keptToldRows, .long M_hash])), (aM_line, .inl (cI, 7776, .inl M_line)), (aM_toldRows, .inl (cI, 8, .inl M_toldRows)), (aM_parts, .inl (cI, 32, .inl M_parts))] H → va_D A [(aM, .inr (6, [.ref aM_page, .int M_pageMany, .ref aM_readDeeds, .int M_readMany, .int M_readBase, .int M_state, .int M_beings, .int M_number, .int M_deedsDone, .ref aM_rows, .ref aM_far, .ref aM_firsts, .ref aM_line, .int M_lined, .int M_toldMany, .ref aM_toldRows, .ref aM_parts, .int M_seedNow, .int M_keptNumber, .int M_keptBeings, .int M_keptDeeds, .int M_keptTold, .ref aM_keptToldRows, .long M_hash])), (aM_line, .inl (cI, 7776, .inl M_line)), (aM_toldRows, .inl (cI, 8, .inl M_toldRows)), (aM_parts, .inl (cI, 32, .inl M_parts))] → va_S A s.heap H locs → ∀ ls : Array Slot, lv_has ls 6 [(0, .ref aM), (1, .int l1), (2, .int l2), (3, .int l3)] → W p l e rm_X6_askOf s m ([.ref aM] : List Value).toArray below meth c H locs 0 0 Q (F0 m 6 ls [])) →  F_X6_askOf_44 k6 M_beings M_lined M_toldMany M_line M_toldRows M_parts l1 l2 l3 l4 s0 = some (rv, M_parts') → ∀ (H : Heap) (locs : List Loc), va_P (dC, dI) vwCl [(aM, .inr (6, [.ref aM_page, .int M_pageMany, .ref aM_readDeeds, .int M_readMany, .int M_readBase, .int M_state, .int M_beings, .int M_number, .int M_deedsDone, .ref aM_rows, .ref aM_far, .ref aM_firsts, .ref aM_line, .int M_lined, .int M_toldMany, .ref aM_toldRows, .ref aM_parts, .int M_seedNow, .int M_keptNumber, .int M_keptBeings, .int M_keptDeeds, .int M_keptTold, .ref aM_keptToldRows, .long M_hash])), (aM_line, .inl (cI, 7776, .inl M_line)), (aM_toldRows, .inl (cI, 8, .inl M_toldRows)), (aM_parts, .inl (cI, 32, .inl M_parts))] H → va_D A [(aM, .inr (6, [.ref aM_page, .int M_pageMany, .ref aM_readDeeds, .int M_readMany, .int M_readBase, .int M_state, .int M_beings, .int M_number, .int M_deedsDone, .ref aM_rows, .ref aM_far, .ref aM_firsts, .ref aM_line, .int M_lined, .int M_toldMany, .ref aM_toldRows, .ref aM_parts, .int M_seedNow, .int M_keptNumber, .int M_keptBeings, .int M_keptDeeds, .int M_keptTold, .ref aM_keptToldRows, .long M_hash])), (aM_line, .inl (cI, 7776, .inl M_line)), (aM_toldRows, .inl (cI, 8, .inl M_toldRows)), (aM_parts, .inl (cI, 32, .inl M_parts))] → va_S A s.heap H locs → ∀ ls : Array Slot, lv_has ls 6 [(0, .ref aM), (1, .int l1), (2, .int l2), (3, .int l3), (4, .int l4)] → W p l e rm_X6_askOf s m ([.ref aM] : List Value).toArray below meth c H locs 0 0 Q (F0 m 44 ls [.int s0]) := by
    intro M_parts l1 l2 l3 l4 s0 k6 hk6 hf H locs hP hD hS ls hl
    have hf := (F_X6_askOf_44.eq_1 _ _ _ _ _ _ _ _ _ _ _ _).symm.trans hf
    refine lv_istore (lv' := [(5, .int s0), (0, .ref aM), (1, .int l1), (2, .int l2), (3, .int l3), (4, .int l4)]) hx hb dX6_askOf_44 hl (by decide) rfl (fun ls hl => ?_)
    refine lv_iload hx hb dX6_askOf_46 (lv_at hl 0 rfl) ?_
    refine lv_if_eq (tgt := 55) hx hb dX6_askOf_48 (by decide) (fun c2 => ?_) (fun c2 => ?_)
    · have hf := sw_ip c2 hf
      refine lv_iload_n hx hb dX6_askOf_55 rfl (lv_at hl 2 rfl) ?_
      exact hB_56 M_parts l2 l3 l4 s0 l1 k6 hk6 hf H locs hP hD hS ls (lv_sub hl [1, 3, 4, 5, 0] rfl)
    · have hf := sw_in c2 hf
      refine lv_iload_n hx hb dX6_askOf_51 rfl (lv_at hl 4 rfl) ?_
      refine lv_goto (tgt := 56) hx hb dX6_askOf_52 (by decide) ?_
      exact hB_56 M_parts l2 l3 l4 s0 l3 k6 hk6 hf H locs hP hD hS ls (lv_sub hl [1, 3, 4, 5, 0] rfl)
  have hB_6 :  ∀ (fu : Nat) (M_parts : Nat → Int32) (l1 : Int32) (l2 : Int32) (l3 : Int32), F_X6_askOf_6 M_beings M_lined M_toldMany M_line M_toldRows fu M_parts l1 l2 l3 = some (rv, M_parts') → ∀ (H : Heap) (locs : List Loc), va_P (dC, dI) vwCl [(aM, .inr (6, [.ref aM_page, .int M_pageMany, .ref aM_readDeeds, .int M_readMany, .int M_readBase, .int M_state, .int M_beings, .int M_number, .int M_deedsDone, .ref aM_rows, .ref aM_far, .ref aM_firsts, .ref aM_line, .int M_lined, .int M_toldMany, .ref aM_toldRows, .ref aM_parts, .int M_seedNow, .int M_keptNumber, .int M_keptBeings, .int M_keptDeeds, .int M_keptTold, .ref aM_keptToldRows, .long M_hash])), (aM_line, .inl (cI, 7776, .inl M_line)), (aM_toldRows, .inl (cI, 8, .inl M_toldRows)), (aM_parts, .inl (cI, 32, .inl M_parts))] H → va_D A [(aM, .inr (6, [.ref aM_page, .int M_pageMany, .ref aM_readDeeds, .int M_readMany, .int M_readBase, .int M_state, .int M_beings, .int M_number, .int M_deedsDone, .ref aM_rows, .ref aM_far, .ref aM_firsts, .ref aM_line, .int M_lined, .int M_toldMany, .ref aM_toldRows, .ref aM_parts, .int M_seedNow, .int M_keptNumber, .int M_keptBeings, .int M_keptDeeds, .int M_keptTold, .ref aM_keptToldRows, .long M_hash])), (aM_line, .inl (cI, 7776, .inl M_line)), (aM_toldRows, .inl (cI, 8, .inl M_toldRows)), (aM_parts, .inl (cI, 32, .inl M_parts))] → va_S A s.heap H locs → ∀ ls : Array Slot, lv_has ls 6 [(0, .ref aM), (1, .int l1), (2, .int l2), (3, .int l3)] → W p l e rm_X6_askOf s m ([.ref aM] : List Value).toArray below meth c H locs 0 0 Q (F0 m 6 ls []) := by
    intro   fu
    induction fu with
    | zero =>
      intro M_parts l1 l2 l3 hf
      exact nomatch (show (none : Option (Int32 × (Nat → Int32))) = some (rv, M_parts') from hf)
    | succ fu ih =>
      intro M_parts l1 l2 l3 hf H locs hP hD hS ls hl
      have hf := (F_X6_askOf_6.eq_2 _ _ _ _ _ _ _ _ _ _).symm.trans hf
      refine lv_iload_n hx hb dX6_askOf_6 rfl (lv_at hl 3 rfl) ?_
      refine lv_aload_n hx hb dX6_askOf_7 rfl (lv_at hl 0 rfl) ?_
      refine va_get (D := (dC, dI)) (ci := 6) (v := .int M_beings) (C := RX6) (T := TX6) (N := 24) hx hb hts iX6 hown hK hP 0 rfl rfl 6 (by decide) hw1 (fun _ h9 => h9) rfl dX6_askOf_8 ?_
      refine lv_icmp_ge (tgt := 75) hx hb dX6_askOf_11 (by decide) (fun c3 => ?_) (fun c3 => ?_)
      · have hf := sw_ip c3 hf
        refine lv_iload_n hx hb dX6_askOf_75 rfl (lv_at hl 1 rfl) ?_
        subst hQ hAe
        cases hf
        exact W.iret hx hb hr (fun t ht hW => ⟨⟨_, (), rfl, rfl, ⟨by rw [ht]; exact hP, va_K.moved hW.alike hK, hD⟩⟩, hS.F ht⟩) hS.2.2 dX6_askOf_76 hlocks
      · have hf := sw_in c3 hf
        refine lv_aload_n hx hb dX6_askOf_14 rfl (lv_at hl 0 rfl) ?_
        obtain ⟨q1, hq1, hf⟩ := sw_bs hf
        have hPc := hP.sub (ws' := [(aM, .inr (6, [.ref aM_page, .int M_pageMany, .ref aM_readDeeds, .int M_readMany, .int M_readBase, .int M_state, .int M_beings, .int M_number, .int M_deedsDone, .ref aM_rows, .ref aM_far, .ref aM_firsts, .ref aM_line, .int M_lined, .int M_toldMany, .ref aM_toldRows, .ref aM_parts, .int M_seedNow, .int M_keptNumber, .int M_keptBeings, .int M_keptDeeds, .int M_keptTold, .ref aM_keptToldRows, .long M_hash])), (aM_line, .inl (cI, 7776, .inl M_line)), (aM_toldRows, .inl (cI, 8, .inl M_toldRows))]) [0, 1, 2] rfl
        refine sw_rd (W.runV (As := []) (rest := []) ⟨hx, hb, hml, hown, hts⟩ (k_X6_fitMany l dC dI cI cZ t0 aM aM_page aM_readDeeds aM_rows aM_far aM_firsts aM_line aM_toldRows aM_parts aM_keptToldRows M_pageMany M_readMany M_readBase M_state M_beings M_number M_deedsDone M_lined M_toldMany M_seedNow M_keptNumber M_keptBeings M_keptDeeds M_keptTold M_hash M_line M_toldRows q1 hq1) (cwV 0 hts gX6_askOf_X6_fitMany rfl rfl rfl (by decide +kernel) ⟨Nat.le_of_ble_eq_true rfl, Nat.le_of_ble_eq_true rfl⟩) ⟨sw_PR_bl, va_recv hK hPc (ci := 6) (q0 := 0) rfl rfl, sw_PR_pre hK hPc hE hS⟩ rfl rfl hl.1 rfl (lv_room (Nat.le_of_ble_eq_true rfl)) dX6_askOf_15 ⟨Nat.zero_le _, Nat.zero_le _⟩) ?_
        refine lv_if_le (tgt := 75) hx hb dX6_askOf_18 (by decide) (fun c4 => ?_) (fun c4 => ?_)
        · have hf := sw_ip c4 hf
          refine lv_iload_n hx hb dX6_askOf_75 rfl (lv_at hl 1 rfl) ?_
          subst hQ hAe
          cases hf
          exact W.iret hx hb hr (fun t ht hW => ⟨⟨_, (), rfl, rfl, ⟨by rw [ht]; exact hP, va_K.moved hW.alike hK, hD⟩⟩, hS.F ht⟩) hS.2.2 dX6_askOf_76 hlocks
        · have hf := sw_in c4 hf
          refine lv_aload_n hx hb dX6_askOf_21 rfl (lv_at hl 0 rfl) ?_
          refine lv_iload_n hx hb dX6_askOf_22 rfl (lv_at hl 3 rfl) ?_
          obtain ⟨q2, hq2, hf⟩ := sw_bs hf
          have hPc := hP.sub (ws' := [(aM, .inr (6, [.ref aM_page, .int M_pageMany, .ref aM_readDeeds, .int M_readMany, .int M_readBase, .int M_state, .int M_beings, .int M_number, .int M_deedsDone, .ref aM_rows, .ref aM_far, .ref aM_firsts, .ref aM_line, .int M_lined, .int M_toldMany, .ref aM_toldRows, .ref aM_parts, .int M_seedNow, .int M_keptNumber, .int M_keptBeings, .int M_keptDeeds, .int M_keptTold, .ref aM_keptToldRows, .long M_hash])), (aM_line, .inl (cI, 7776, .inl M_line)), (aM_toldRows, .inl (cI, 8, .inl M_toldRows)), (aM_parts, .inl (cI, 32, .inl M_parts))]) [0, 1, 2, 3] rfl
          have hDc := hD.sub (ws' := [(aM, .inr (6, [.ref aM_page, .int M_pageMany, .ref aM_readDeeds, .int M_readMany, .int M_readBase, .int M_state, .int M_beings, .int M_number, .int M_deedsDone, .ref aM_rows, .ref aM_far, .ref aM_firsts, .ref aM_line, .int M_lined, .int M_toldMany, .ref aM_toldRows, .ref aM_parts, .int M_seedNow, .int M_keptNumber, .int M_keptBeings, .int M_keptDeeds, .int M_keptTold, .ref aM_keptToldRows, .long M_hash])), (aM_line, .inl (cI, 7776, .inl M_line)), (aM_toldRows, .inl (cI, 8, .inl M_toldRows)), (aM_parts, .inl (cI, 32, .inl M_parts))]) [0, 1, 2, 3] (by decide) rfl
          have hFc := va_free (wc := [(aM, .inr (6, [.ref aM_page, .int M_pageMany, .ref aM_readDeeds, .int M_readMany, .int M_readBase, .int M_state, .int M_beings, .int M_number, .int M_deedsDone, .ref aM_rows, .ref aM_far, .ref aM_firsts, .ref aM_line, .int M_lined, .int M_toldMany, .ref aM_toldRows, .ref aM_parts, .int M_seedNow, .int M_keptNumber, .int M_keptBeings, .int M_keptDeeds, .int M_keptTold, .ref aM_keptToldRows, .long M_hash])), (aM_line, .inl (cI, 7776, .inl M_line)), (aM_toldRows, .inl (cI, 8, .inl M_toldRows)), (aM_parts, .inl (cI, 32, .inl M_parts))]) hD hS hA [0, 1, 2, 3] rfl
          refine sw_wi (wn := [(aM, .inr (6, [.ref aM_page, .int M_pageMany, .ref aM_readDeeds, .int M_readMany, .int M_readBase, .int M_state, .int M_beings, .int M_number, .int M_deedsDone, .ref aM_rows, .ref aM_far, .ref aM_firsts, .ref aM_line, .int M_lined, .int M_toldMany, .ref aM_toldRows, .ref aM_parts, .int M_seedNow, .int M_keptNumber, .int M_keptBeings, .int M_keptDeeds, .int M_keptTold, .ref aM_keptToldRows, .long M_hash])), (aM_line, .inl (cI, 7776, .inl M_line)), (aM_toldRows, .inl (cI, 8, .inl M_toldRows)), (aM_parts, .inl (cI, 32, .inl q2.2))]) (w1 := [(aM, .inr (6, [.ref aM_page, .int M_pageMany, .ref aM_readDeeds, .int M_readMany, .int M_readBase, .int M_state, .int M_beings, .int M_number, .int M_deedsDone, .ref aM_rows, .ref aM_far, .ref aM_firsts, .ref aM_line, .int M_lined, .int M_toldMany, .ref aM_toldRows, .ref aM_parts, .int M_seedNow, .int M_keptNumber, .int M_keptBeings, .int M_keptDeeds, .int M_keptTold, .ref aM_keptToldRows, .long M_hash])), (aM_line, .inl (cI, 7776, .inl M_line)), (aM_toldRows, .inl (cI, 8, .inl M_toldRows)), (aM_parts, .inl (cI, 32, .inl q2.2))]) (wr := []) (va_runV (As := [.int l3]) (rest := []) ⟨hx, hb, hml, hown, hts⟩ (k_X6_worstOf l dC dI cI cZ t0 H.size aM aM_page aM_readDeeds aM_rows aM_far aM_firsts aM_line aM_toldRows aM_parts aM_keptToldRows M_pageMany M_readMany M_readBase M_state M_beings M_number M_deedsDone M_lined M_toldMany M_seedNow M_keptNumber M_keptBeings M_keptDeeds M_keptTold M_hash M_line M_toldRows M_parts l3 q2.1 q2.2 hq2) (cwV 1 hts gX6_askOf_X6_worstOf rfl rfl rfl (by decide +kernel) ⟨Nat.le_of_ble_eq_true rfl, Nat.le_of_ble_eq_true rfl⟩) ⟨sw_PW_bl, va_recv hK hPc (ci := 6) (q0 := 0) rfl rfl, sw_PW_pre hK hPc hDc hE hS hFc⟩ rfl rfl hl.1 rfl (lv_room (Nat.le_of_ble_eq_true rfl)) dX6_askOf_23 ⟨Nat.zero_le _, Nat.zero_le _⟩) hS hP hD hFc [0, 1, 2, 3] [] [0, 1, 2, 3] rfl rfl (by decide) (by decide) (by decide) rfl (fun H locs hP hD hS => ?_)
          refine lv_istore (lv' := [(4, .int q2.1), (0, .ref aM), (1, .int l1), (2, .int l2), (3, .int l3)]) hx hb dX6_askOf_26 hl (by decide) rfl (fun ls hl => ?_)
          refine lv_iload_n hx hb dX6_askOf_28 rfl (lv_at hl 2 rfl) ?_
          refine lv_iconst (v := -1) hx hb dX6_askOf_29 (by decide) ?_
          refine lv_icmp_eq (tgt := 39) hx hb dX6_askOf_30 (by decide) (fun c5 => ?_) (fun c5 => ?_)
          · have hf := sw_ip c5 hf
            refine lv_iconst (v := 1) hx hb dX6_askOf_39 (by decide) ?_
            refine lv_goto (tgt := 44) hx hb dX6_askOf_40 (by decide) ?_
            exact hB_44 q2.2 l1 l2 l3 q2.1 (1 : Int32) (F_X6_askOf_6  M_beings M_lined M_toldMany M_line M_toldRows fu) ih hf H locs hP hD hS ls (lv_sub hl [1, 2, 3, 4, 0] rfl)
          · have hf := sw_in c5 hf
            refine lv_iload hx hb dX6_askOf_33 (lv_at hl 0 rfl) ?_
            refine lv_iload_n hx hb dX6_askOf_35 rfl (lv_at hl 3 rfl) ?_
            refine lv_icmp_ge (tgt := 43) hx hb dX6_askOf_36 (by decide) (fun c6 => ?_) (fun c6 => ?_)
            · have hf := sw_ip c6 hf
              refine lv_iconst (v := 0) hx hb dX6_askOf_43 (by decide) ?_
              exact hB_44 q2.2 l1 l2 l3 q2.1 (0 : Int32) (F_X6_askOf_6  M_beings M_lined M_toldMany M_line M_toldRows fu) ih hf H locs hP hD hS ls (lv_sub hl [1, 2, 3, 4, 0] rfl)
            · have hf := sw_in c6 hf
              refine lv_iconst (v := 1) hx hb dX6_askOf_39 (by decide) ?_
              refine lv_goto (tgt := 44) hx hb dX6_askOf_40 (by decide) ?_
              exact hB_44 q2.2 l1 l2 l3 q2.1 (1 : Int32) (F_X6_askOf_6  M_beings M_lined M_toldMany M_line M_toldRows fu) ih hf H locs hP hD hS ls (lv_sub hl [1, 2, 3, 4, 0] rfl)
  have hf := hf0
  have hl := hl0
  have hP := hP0
  have hD := hD0
  have hS := hS0
  obtain ⟨H, hH⟩ : ∃ H, H = s.heap := ⟨_, rfl⟩
  obtain ⟨locs, hlo⟩ : ∃ locs : List Loc, locs = [] := ⟨_, rfl⟩
  rw [← hH] at hP
  have hS : va_S A s.heap H locs := by rw [hH, hlo]; exact hS0
  suffices hgo : W p l e rm_X6_askOf s m ([.ref aM] : List Value).toArray below meth c H locs 0 0 Q (F0 m 0 ls []) by rw [hH, hlo] at hgo; exact hgo
  refine lv_iconst (v := -1) hx hb dX6_askOf_0 (by decide) ?_
  refine lv_istore_n (lv' := [(1, .int (-1 : Int32)), (0, .ref aM)]) hx hb dX6_askOf_1 rfl hl (by decide) rfl (fun ls hl => ?_)
  refine lv_iconst (v := 0) hx hb dX6_askOf_2 (by decide) ?_
  refine lv_istore_n (lv' := [(2, .int (0 : Int32)), (1, .int (-1 : Int32)), (0, .ref aM)]) hx hb dX6_askOf_3 rfl hl (by decide) rfl (fun ls hl => ?_)
  refine lv_iconst (v := 0) hx hb dX6_askOf_4 (by decide) ?_
  refine lv_istore_n (lv' := [(3, .int (0 : Int32)), (2, .int (0 : Int32)), (1, .int (-1 : Int32)), (0, .ref aM)]) hx hb dX6_askOf_5 rfl hl (by decide) rfl (fun ls hl => ?_)
  exact hB_6   sw_fu M_parts (-1 : Int32) (0 : Int32) (0 : Int32) hf H locs hP hD hS ls (lv_sub hl [3, 2, 1, 0] rfl)
abbrev rm_X6_ask : Room := { frames := 7, cells := 0, slots := 0, locals := 164 }
set_option maxHeartbeats 1000000 in
set_option maxRecDepth 100000 in
theorem k_X6_ask (l : Launch) (dC : Nat → ClassId) (dI : Nat → Nat → Nat) (cI cZ : ClassId) (t0 : Nat) (sz : Nat) (aM aM_page aM_readDeeds aM_rows aM_far aM_firsts aM_line aM_toldRows aM_parts aM_keptToldRows : Nat) (M_pageMany : Int32) (M_readMany : Int32) (M_readBase : Int32) (M_state : Int32) (M_beings : Int32) (M_number : Int32) (M_deedsDone : Int32) (M_lined : Int32) (M_toldMany : Int32) (M_seedNow : Int32) (M_keptNumber : Int32) (M_keptBeings : Int32) (M_keptDeeds : Int32) (M_keptTold : Int32) (M_hash : Int64) (M_rows : Nat → Int32) (M_far : Nat → Int32) (M_firsts : Nat → Int32) (M_line : Nat → Int32) (M_toldRows : Nat → Int32) (M_parts : Nat → Int32) (rv : Int32) (M_lined' : Int32) (M_far' : Nat → Int32) (M_firsts' : Nat → Int32) (M_line' : Nat → Int32) (M_parts' : Nat → Int32) (hf : F_X6_ask M_beings M_number M_lined M_toldMany M_rows M_far M_firsts M_line M_toldRows M_parts = some (rv, M_lined', M_far', M_firsts', M_line', M_parts')) : Met l yX6_ask wsX6_ask rm_X6_ask (sw_PW (dC, dI) t0 [(cI, .int), (cZ, .boolean)] [.ref aM] [(aM, .inr (6, [.ref aM_page, .int M_pageMany, .ref aM_readDeeds, .int M_readMany, .int M_readBase, .int M_state, .int M_beings, .int M_number, .int M_deedsDone, .ref aM_rows, .ref aM_far, .ref aM_firsts, .ref aM_line, .int M_lined, .int M_toldMany, .ref aM_toldRows, .ref aM_parts, .int M_seedNow, .int M_keptNumber, .int M_keptBeings, .int M_keptDeeds, .int M_keptTold, .ref aM_keptToldRows, .long M_hash])), (aM_rows, .inl (cI, 20, .inl M_rows)), (aM_far, .inl (cI, 7776, .inl M_far)), (aM_firsts, .inl (cI, 7776, .inl M_firsts)), (aM_line, .inl (cI, 7776, .inl M_line)), (aM_toldRows, .inl (cI, 8, .inl M_toldRows)), (aM_parts, .inl (cI, 32, .inl M_parts))] sz) (va_Qi (fun r (_ : Unit) => r = rv) (fun _ t => sw_B (dC, dI) [(cI, .int), (cZ, .boolean)] [(aM, .inr (6, [.ref aM_page, .int M_pageMany, .ref aM_readDeeds, .int M_readMany, .int M_readBase, .int M_state, .int M_beings, .int M_number, .int M_deedsDone, .ref aM_rows, .ref aM_far, .ref aM_firsts, .ref aM_line, .int M_lined', .int M_toldMany, .ref aM_toldRows, .ref aM_parts, .int M_seedNow, .int M_keptNumber, .int M_keptBeings, .int M_keptDeeds, .int M_keptTold, .ref aM_keptToldRows, .long M_hash])), (aM_rows, .inl (cI, 20, .inl M_rows)), (aM_far, .inl (cI, 7776, .inl M_far')), (aM_firsts, .inl (cI, 7776, .inl M_firsts')), (aM_line, .inl (cI, 7776, .inl M_line')), (aM_toldRows, .inl (cI, 8, .inl M_toldRows)), (aM_parts, .inl (cI, 32, .inl M_parts'))] (va_A [(aM, .inr (6, [.ref aM_page, .int M_pageMany, .ref aM_readDeeds, .int M_readMany, .int M_readBase, .int M_state, .int M_beings, .int M_number, .int M_deedsDone, .ref aM_rows, .ref aM_far, .ref aM_firsts, .ref aM_line, .int M_lined, .int M_toldMany, .ref aM_toldRows, .ref aM_parts, .int M_seedNow, .int M_keptNumber, .int M_keptBeings, .int M_keptDeeds, .int M_keptTold, .ref aM_keptToldRows, .long M_hash])), (aM_rows, .inl (cI, 20, .inl M_rows)), (aM_far, .inl (cI, 7776, .inl M_far)), (aM_firsts, .inl (cI, 7776, .inl M_firsts)), (aM_line, .inl (cI, 7776, .inl M_line)), (aM_toldRows, .inl (cI, 8, .inl M_toldRows)), (aM_parts, .inl (cI, 32, .inl M_parts))] sz) t) (va_A [(aM, .inr (6, [.ref aM_page, .int M_pageMany, .ref aM_readDeeds, .int M_readMany, .int M_readBase, .int M_state, .int M_beings, .int M_number, .int M_deedsDone, .ref aM_rows, .ref aM_far, .ref aM_firsts, .ref aM_line, .int M_lined, .int M_toldMany, .ref aM_toldRows, .ref aM_parts, .int M_seedNow, .int M_keptNumber, .int M_keptBeings, .int M_keptDeeds, .int M_keptTold, .ref aM_keptToldRows, .long M_hash])), (aM_rows, .inl (cI, 20, .inl M_rows)), (aM_far, .inl (cI, 7776, .inl M_far)), (aM_firsts, .inl (cI, 7776, .inl M_firsts)), (aM_line, .inl (cI, 7776, .inl M_line)), (aM_toldRows, .inl (cI, 8, .inl M_toldRows)), (aM_parts, .inl (cI, 32, .inl M_parts))] sz)) 0 0 (va_A [(aM, .inr (6, [.ref aM_page, .int M_pageMany, .ref aM_readDeeds, .int M_readMany, .int M_readBase, .int M_state, .int M_beings, .int M_number, .int M_deedsDone, .ref aM_rows, .ref aM_far, .ref aM_firsts, .ref aM_line, .int M_lined, .int M_toldMany, .ref aM_toldRows, .ref aM_parts, .int M_seedNow, .int M_keptNumber, .int M_keptBeings, .int M_keptDeeds, .int M_keptTold, .ref aM_keptToldRows, .long M_hash])), (aM_rows, .inl (cI, 20, .inl M_rows)), (aM_far, .inl (cI, 7776, .inl M_far)), (aM_firsts, .inl (cI, 7776, .inl M_firsts)), (aM_line, .inl (cI, 7776, .inl M_line)), (aM_toldRows, .inl (cI, 8, .inl M_toldRows)), (aM_parts, .inl (cI, 32, .inl M_parts))] sz) := by
  refine sw_metW (cc := cX6_ask) (maxL := 1) (ret := (some .int)) (lv := [(0, .ref aM)]) (by decide) rfl (Nat.le_of_ble_eq_true rfl) rfl ?_
  intro p e s m below meth c Q A hsz hAe hQ hx hb hr hts hown hlocks hml hmn hP hK hD hE hS hA ls hl
  have hS0 := hS
  have hown : s.vm.findClass RX6 = some m.cls := hown
  have hf := (F_X6_ask.eq_1 _ _ _ _ _ _ _ _ _ _).symm.trans hf
  obtain ⟨H, hH⟩ : ∃ H, H = s.heap := ⟨_, rfl⟩
  obtain ⟨locs, hlo⟩ : ∃ locs : List Loc, locs = [] := ⟨_, rfl⟩
  rw [← hH] at hP
  have hS : va_S A s.heap H locs := by rw [hH, hlo]; exact hS0
  suffices hgo : W p l e rm_X6_ask s m ([.ref aM] : List Value).toArray below meth c H locs 0 0 Q (F0 m 0 ls []) by rw [hH, hlo] at hgo; exact hgo
  refine lv_aload_n hx hb dX6_ask_0 rfl (lv_at hl 0 rfl) ?_
  obtain ⟨q1, hq1, hf⟩ := sw_bs hf
  have hPc := hP.sub (ws' := [(aM, .inr (6, [.ref aM_page, .int M_pageMany, .ref aM_readDeeds, .int M_readMany, .int M_readBase, .int M_state, .int M_beings, .int M_number, .int M_deedsDone, .ref aM_rows, .ref aM_far, .ref aM_firsts, .ref aM_line, .int M_lined, .int M_toldMany, .ref aM_toldRows, .ref aM_parts, .int M_seedNow, .int M_keptNumber, .int M_keptBeings, .int M_keptDeeds, .int M_keptTold, .ref aM_keptToldRows, .long M_hash])), (aM_rows, .inl (cI, 20, .inl M_rows)), (aM_far, .inl (cI, 7776, .inl M_far)), (aM_firsts, .inl (cI, 7776, .inl M_firsts)), (aM_line, .inl (cI, 7776, .inl M_line))]) [0, 1, 2, 3, 4] rfl
  have hDc := hD.sub (ws' := [(aM, .inr (6, [.ref aM_page, .int M_pageMany, .ref aM_readDeeds, .int M_readMany, .int M_readBase, .int M_state, .int M_beings, .int M_number, .int M_deedsDone, .ref aM_rows, .ref aM_far, .ref aM_firsts, .ref aM_line, .int M_lined, .int M_toldMany, .ref aM_toldRows, .ref aM_parts, .int M_seedNow, .int M_keptNumber, .int M_keptBeings, .int M_keptDeeds, .int M_keptTold, .ref aM_keptToldRows, .long M_hash])), (aM_rows, .inl (cI, 20, .inl M_rows)), (aM_far, .inl (cI, 7776, .inl M_far)), (aM_firsts, .inl (cI, 7776, .inl M_firsts)), (aM_line, .inl (cI, 7776, .inl M_line))]) [0, 1, 2, 3, 4] (by decide) rfl
  have hFc := va_free (wc := [(aM, .inr (6, [.ref aM_page, .int M_pageMany, .ref aM_readDeeds, .int M_readMany, .int M_readBase, .int M_state, .int M_beings, .int M_number, .int M_deedsDone, .ref aM_rows, .ref aM_far, .ref aM_firsts, .ref aM_line, .int M_lined, .int M_toldMany, .ref aM_toldRows, .ref aM_parts, .int M_seedNow, .int M_keptNumber, .int M_keptBeings, .int M_keptDeeds, .int M_keptTold, .ref aM_keptToldRows, .long M_hash])), (aM_rows, .inl (cI, 20, .inl M_rows)), (aM_far, .inl (cI, 7776, .inl M_far)), (aM_firsts, .inl (cI, 7776, .inl M_firsts)), (aM_line, .inl (cI, 7776, .inl M_line))]) hD hS hA [0, 1, 2, 3, 4] rfl
  refine sw_wv (wn := [(aM, .inr (6, [.ref aM_page, .int M_pageMany, .ref aM_readDeeds, .int M_readMany, .int M_readBase, .int M_state, .int M_beings, .int M_number, .int M_deedsDone, .ref aM_rows, .ref aM_far, .ref aM_firsts, .ref aM_line, .int q1.1, .int M_toldMany, .ref aM_toldRows, .ref aM_parts, .int M_seedNow, .int M_keptNumber, .int M_keptBeings, .int M_keptDeeds, .int M_keptTold, .ref aM_keptToldRows, .long M_hash])), (aM_rows, .inl (cI, 20, .inl M_rows)), (aM_far, .inl (cI, 7776, .inl q1.2.1)), (aM_firsts, .inl (cI, 7776, .inl q1.2.2.1)), (aM_line, .inl (cI, 7776, .inl q1.2.2.2)), (aM_toldRows, .inl (cI, 8, .inl M_toldRows)), (aM_parts, .inl (cI, 32, .inl M_parts))]) (w1 := [(aM, .inr (6, [.ref aM_page, .int M_pageMany, .ref aM_readDeeds, .int M_readMany, .int M_readBase, .int M_state, .int M_beings, .int M_number, .int M_deedsDone, .ref aM_rows, .ref aM_far, .ref aM_firsts, .ref aM_line, .int q1.1, .int M_toldMany, .ref aM_toldRows, .ref aM_parts, .int M_seedNow, .int M_keptNumber, .int M_keptBeings, .int M_keptDeeds, .int M_keptTold, .ref aM_keptToldRows, .long M_hash])), (aM_rows, .inl (cI, 20, .inl M_rows)), (aM_far, .inl (cI, 7776, .inl q1.2.1)), (aM_firsts, .inl (cI, 7776, .inl q1.2.2.1)), (aM_line, .inl (cI, 7776, .inl q1.2.2.2))]) (wr := [(aM_toldRows, .inl (cI, 8, .inl M_toldRows)), (aM_parts, .inl (cI, 32, .inl M_parts))]) (va_runV (As := []) (rest := []) ⟨hx, hb, hml, hown, hts⟩ (k_X6_lay l dC dI cI cZ t0 H.size aM aM_page aM_readDeeds aM_rows aM_far aM_firsts aM_line aM_toldRows aM_parts aM_keptToldRows M_pageMany M_readMany M_readBase M_state M_beings M_number M_deedsDone M_lined M_toldMany M_seedNow M_keptNumber M_keptBeings M_keptDeeds M_keptTold M_hash M_rows M_far M_firsts M_line q1.1 q1.2.1 q1.2.2.1 q1.2.2.2 hq1) (cwV 0 hts gX6_ask_X6_lay rfl rfl rfl (by decide +kernel) ⟨Nat.le_of_ble_eq_true rfl, Nat.le_of_ble_eq_true rfl⟩) ⟨sw_PW_bl, va_recv hK hPc (ci := 6) (q0 := 0) rfl rfl, sw_PW_pre hK hPc hDc hE hS hFc⟩ rfl rfl hl.1 rfl (lv_room (Nat.le_of_ble_eq_true rfl)) dX6_ask_1 ⟨Nat.zero_le _, Nat.zero_le _⟩) hS hP hD hFc [0, 1, 2, 3, 4] [5, 6] [2, 3, 4, 5, 6, 0, 1] rfl rfl (by decide) (by decide) (by decide) rfl (fun H locs hP hD hS => ?_)
  refine lv_aload_n hx hb dX6_ask_4 rfl (lv_at hl 0 rfl) ?_
  obtain ⟨q2, hq2, hf⟩ := sw_bs hf
  have hPc := hP.sub (ws' := [(aM, .inr (6, [.ref aM_page, .int M_pageMany, .ref aM_readDeeds, .int M_readMany, .int M_readBase, .int M_state, .int M_beings, .int M_number, .int M_deedsDone, .ref aM_rows, .ref aM_far, .ref aM_firsts, .ref aM_line, .int q1.1, .int M_toldMany, .ref aM_toldRows, .ref aM_parts, .int M_seedNow, .int M_keptNumber, .int M_keptBeings, .int M_keptDeeds, .int M_keptTold, .ref aM_keptToldRows, .long M_hash])), (aM_line, .inl (cI, 7776, .inl q1.2.2.2)), (aM_toldRows, .inl (cI, 8, .inl M_toldRows)), (aM_parts, .inl (cI, 32, .inl M_parts))]) [0, 4, 5, 6] rfl
  have hDc := hD.sub (ws' := [(aM, .inr (6, [.ref aM_page, .int M_pageMany, .ref aM_readDeeds, .int M_readMany, .int M_readBase, .int M_state, .int M_beings, .int M_number, .int M_deedsDone, .ref aM_rows, .ref aM_far, .ref aM_firsts, .ref aM_line, .int q1.1, .int M_toldMany, .ref aM_toldRows, .ref aM_parts, .int M_seedNow, .int M_keptNumber, .int M_keptBeings, .int M_keptDeeds, .int M_keptTold, .ref aM_keptToldRows, .long M_hash])), (aM_line, .inl (cI, 7776, .inl q1.2.2.2)), (aM_toldRows, .inl (cI, 8, .inl M_toldRows)), (aM_parts, .inl (cI, 32, .inl M_parts))]) [0, 4, 5, 6] (by decide) rfl
  have hFc := va_free (wc := [(aM, .inr (6, [.ref aM_page, .int M_pageMany, .ref aM_readDeeds, .int M_readMany, .int M_readBase, .int M_state, .int M_beings, .int M_number, .int M_deedsDone, .ref aM_rows, .ref aM_far, .ref aM_firsts, .ref aM_line, .int q1.1, .int M_toldMany, .ref aM_toldRows, .ref aM_parts, .int M_seedNow, .int M_keptNumber, .int M_keptBeings, .int M_keptDeeds, .int M_keptTold, .ref aM_keptToldRows, .long M_hash])), (aM_line, .inl (cI, 7776, .inl q1.2.2.2)), (aM_toldRows, .inl (cI, 8, .inl M_toldRows)), (aM_parts, .inl (cI, 32, .inl M_parts))]) hD hS hA [0, 4, 5, 6] rfl
  refine sw_wi (wn := [(aM, .inr (6, [.ref aM_page, .int M_pageMany, .ref aM_readDeeds, .int M_readMany, .int M_readBase, .int M_state, .int M_beings, .int M_number, .int M_deedsDone, .ref aM_rows, .ref aM_far, .ref aM_firsts, .ref aM_line, .int q1.1, .int M_toldMany, .ref aM_toldRows, .ref aM_parts, .int M_seedNow, .int M_keptNumber, .int M_keptBeings, .int M_keptDeeds, .int M_keptTold, .ref aM_keptToldRows, .long M_hash])), (aM_rows, .inl (cI, 20, .inl M_rows)), (aM_far, .inl (cI, 7776, .inl q1.2.1)), (aM_firsts, .inl (cI, 7776, .inl q1.2.2.1)), (aM_line, .inl (cI, 7776, .inl q1.2.2.2)), (aM_toldRows, .inl (cI, 8, .inl M_toldRows)), (aM_parts, .inl (cI, 32, .inl q2.2))]) (w1 := [(aM, .inr (6, [.ref aM_page, .int M_pageMany, .ref aM_readDeeds, .int M_readMany, .int M_readBase, .int M_state, .int M_beings, .int M_number, .int M_deedsDone, .ref aM_rows, .ref aM_far, .ref aM_firsts, .ref aM_line, .int q1.1, .int M_toldMany, .ref aM_toldRows, .ref aM_parts, .int M_seedNow, .int M_keptNumber, .int M_keptBeings, .int M_keptDeeds, .int M_keptTold, .ref aM_keptToldRows, .long M_hash])), (aM_line, .inl (cI, 7776, .inl q1.2.2.2)), (aM_toldRows, .inl (cI, 8, .inl M_toldRows)), (aM_parts, .inl (cI, 32, .inl q2.2))]) (wr := [(aM_rows, .inl (cI, 20, .inl M_rows)), (aM_far, .inl (cI, 7776, .inl q1.2.1)), (aM_firsts, .inl (cI, 7776, .inl q1.2.2.1))]) (va_runV (As := []) (rest := []) ⟨hx, hb, hml, hown, hts⟩ (k_X6_askOf l dC dI cI cZ t0 H.size aM aM_page aM_readDeeds aM_rows aM_far aM_firsts aM_line aM_toldRows aM_parts aM_keptToldRows M_pageMany M_readMany M_readBase M_state M_beings M_number M_deedsDone q1.1 M_toldMany M_seedNow M_keptNumber M_keptBeings M_keptDeeds M_keptTold M_hash q1.2.2.2 M_toldRows M_parts q2.1 q2.2 hq2) (cwV 0 hts gX6_ask_X6_askOf rfl rfl rfl (by decide +kernel) ⟨Nat.le_of_ble_eq_true rfl, Nat.le_of_ble_eq_true rfl⟩) ⟨sw_PW_bl, va_recv hK hPc (ci := 6) (q0 := 0) rfl rfl, sw_PW_pre hK hPc hDc hE hS hFc⟩ rfl rfl hl.1 rfl (lv_room (Nat.le_of_ble_eq_true rfl)) dX6_ask_5 ⟨Nat.zero_le _, Nat.zero_le _⟩) hS hP hD hFc [0, 4, 5, 6] [1, 2, 3] [3, 0, 1, 2, 4, 5, 6] rfl rfl (by decide) (by decide) (by decide) rfl (fun H locs hP hD hS => ?_)
  subst hQ hAe
  cases hf
  exact W.iret hx hb hr (fun t ht hW => ⟨⟨_, (), rfl, rfl, ⟨by rw [ht]; exact hP, va_K.moved hW.alike hK, hD⟩⟩, hS.F ht⟩) hS.2.2 dX6_ask_8 hlocks
abbrev rm_X6_draw : Room := { frames := 0, cells := 0, slots := 0, locals := 0 }
set_option maxHeartbeats 1000000 in
set_option maxRecDepth 100000 in
theorem k_X6_draw (l : Launch) (dC : Nat → ClassId) (dI : Nat → Nat → Nat) (cI cZ : ClassId) (t0 : Nat) (sz : Nat) (aM aM_page aM_readDeeds aM_rows aM_far aM_firsts aM_line aM_toldRows aM_parts aM_keptToldRows : Nat) (M_pageMany : Int32) (M_readMany : Int32) (M_readBase : Int32) (M_state : Int32) (M_beings : Int32) (M_number : Int32) (M_deedsDone : Int32) (M_lined : Int32) (M_toldMany : Int32) (M_seedNow : Int32) (M_keptNumber : Int32) (M_keptBeings : Int32) (M_keptDeeds : Int32) (M_keptTold : Int32) (M_hash : Int64) (l1 : Int32) (rv : Int32) (M_seedNow' : Int32) (hf : F_X6_draw M_seedNow l1 = some (rv, M_seedNow')) : Met l yX6_draw wsX6_draw rm_X6_draw (sw_PW (dC, dI) t0 [(cI, .int), (cZ, .boolean)] [.ref aM, .int l1] [(aM, .inr (6, [.ref aM_page, .int M_pageMany, .ref aM_readDeeds, .int M_readMany, .int M_readBase, .int M_state, .int M_beings, .int M_number, .int M_deedsDone, .ref aM_rows, .ref aM_far, .ref aM_firsts, .ref aM_line, .int M_lined, .int M_toldMany, .ref aM_toldRows, .ref aM_parts, .int M_seedNow, .int M_keptNumber, .int M_keptBeings, .int M_keptDeeds, .int M_keptTold, .ref aM_keptToldRows, .long M_hash]))] sz) (va_Qi (fun r (_ : Unit) => r = rv) (fun _ t => sw_B (dC, dI) [(cI, .int), (cZ, .boolean)] [(aM, .inr (6, [.ref aM_page, .int M_pageMany, .ref aM_readDeeds, .int M_readMany, .int M_readBase, .int M_state, .int M_beings, .int M_number, .int M_deedsDone, .ref aM_rows, .ref aM_far, .ref aM_firsts, .ref aM_line, .int M_lined, .int M_toldMany, .ref aM_toldRows, .ref aM_parts, .int M_seedNow', .int M_keptNumber, .int M_keptBeings, .int M_keptDeeds, .int M_keptTold, .ref aM_keptToldRows, .long M_hash]))] (va_A [(aM, .inr (6, [.ref aM_page, .int M_pageMany, .ref aM_readDeeds, .int M_readMany, .int M_readBase, .int M_state, .int M_beings, .int M_number, .int M_deedsDone, .ref aM_rows, .ref aM_far, .ref aM_firsts, .ref aM_line, .int M_lined, .int M_toldMany, .ref aM_toldRows, .ref aM_parts, .int M_seedNow, .int M_keptNumber, .int M_keptBeings, .int M_keptDeeds, .int M_keptTold, .ref aM_keptToldRows, .long M_hash]))] sz) t) (va_A [(aM, .inr (6, [.ref aM_page, .int M_pageMany, .ref aM_readDeeds, .int M_readMany, .int M_readBase, .int M_state, .int M_beings, .int M_number, .int M_deedsDone, .ref aM_rows, .ref aM_far, .ref aM_firsts, .ref aM_line, .int M_lined, .int M_toldMany, .ref aM_toldRows, .ref aM_parts, .int M_seedNow, .int M_keptNumber, .int M_keptBeings, .int M_keptDeeds, .int M_keptTold, .ref aM_keptToldRows, .long M_hash]))] sz)) 0 0 (va_A [(aM, .inr (6, [.ref aM_page, .int M_pageMany, .ref aM_readDeeds, .int M_readMany, .int M_readBase, .int M_state, .int M_beings, .int M_number, .int M_deedsDone, .ref aM_rows, .ref aM_far, .ref aM_firsts, .ref aM_line, .int M_lined, .int M_toldMany, .ref aM_toldRows, .ref aM_parts, .int M_seedNow, .int M_keptNumber, .int M_keptBeings, .int M_keptDeeds, .int M_keptTold, .ref aM_keptToldRows, .long M_hash]))] sz) := by
  refine sw_metW (cc := cX6_draw) (maxL := 2) (ret := (some .int)) (lv := [(0, .ref aM), (1, .int l1)]) (by decide) rfl (Nat.le_of_ble_eq_true rfl) rfl ?_
  intro p e s m below meth c Q A hsz hAe hQ hx hb hr hts hown hlocks hml hmn hP hK hD hE hS hA ls hl
  have hS0 := hS
  have hown : s.vm.findClass RX6 = some m.cls := hown
  have hf := (F_X6_draw.eq_1 _ _).symm.trans hf
  have hw1 := hts (.constantLong RX6 171 (1103515245)) (List.mem_of_getElem? (i := 1) (by decide +kernel))
  have hw2 := hts (.fieldLink RX6 173 "SwallowedInTurnModel" "seedNow" "I") (List.mem_of_getElem? (i := 2) (by decide +kernel))
  have iX6 : ∀ w ∈ u_ws RX6 TX6 24, w ∈ wsX6_draw := by decide +kernel
  have hw3 := hts (.constantLong RX6 176 (12345)) (List.mem_of_getElem? (i := 3) (by decide +kernel))
  have hw4 := hts (.constantLong RX6 178 (2147483647)) (List.mem_of_getElem? (i := 4) (by decide +kernel))
  have hw5 := hts (.constant RX6 180 (65536)) (List.mem_of_getElem? (i := 5) (by decide +kernel))
  obtain ⟨H, hH⟩ : ∃ H, H = s.heap := ⟨_, rfl⟩
  obtain ⟨locs, hlo⟩ : ∃ locs : List Loc, locs = [] := ⟨_, rfl⟩
  rw [← hH] at hP
  have hS : va_S A s.heap H locs := by rw [hH, hlo]; exact hS0
  suffices hgo : W p l e rm_X6_draw s m ([.ref aM, .int l1] : List Value).toArray below meth c H locs 0 0 Q (F0 m 0 ls []) by rw [hH, hlo] at hgo; exact hgo
  refine lv_aload_n hx hb dX6_draw_0 rfl (lv_at hl 0 rfl) ?_
  refine lv_ldc2 (v := 1103515245) hx hb hown hw1 dX6_draw_1 ?_
  refine lv_aload_n hx hb dX6_draw_4 rfl (lv_at hl 0 rfl) ?_
  refine va_get (D := (dC, dI)) (ci := 6) (v := .int M_seedNow) (C := RX6) (T := TX6) (N := 24) hx hb hts iX6 hown hK hP 0 rfl rfl 17 (by decide) hw2 (fun _ h9 => h9) rfl dX6_draw_5 ?_
  refine lv_i2l (v := (M_seedNow).toInt64) hx hb dX6_draw_8 rfl ?_
  refine lv_lmul hx hb dX6_draw_9 ?_
  refine lv_ldc2 (v := 12345) hx hb hown hw3 dX6_draw_10 ?_
  refine lv_ladd hx hb dX6_draw_13 ?_
  refine lv_ldc2 (v := 2147483647) hx hb hown hw4 dX6_draw_14 ?_
  refine lv_land hx hb dX6_draw_17 ?_
  refine lv_l2i (v := ((((1103515245 : Int64) * ((M_seedNow).toInt64)) + (12345 : Int64)) &&& (2147483647 : Int64)).toInt32) hx hb dX6_draw_18 rfl ?_
  refine va_put (D := (dC, dI)) (ci := 6) (v := .int (((((1103515245 : Int64) * ((M_seedNow).toInt64)) + (12345 : Int64)) &&& (2147483647 : Int64)).toInt32)) (ty := .int) (C := RX6) (T := TX6) (N := 24) hx hb hts iX6 tyX6 tyX6_ok nmX6 hown hK hP hD hS 0 rfl rfl 17 (by decide) hw2 (fun _ h9 => h9) rfl (by decide +kernel) rfl rfl (Nat.le_of_ble_eq_true rfl) dX6_draw_19 (fun H locs hP hD hS => ?_)
  have hP : va_P (dC, dI) vwCl [(aM, .inr (6, [.ref aM_page, .int M_pageMany, .ref aM_readDeeds, .int M_readMany, .int M_readBase, .int M_state, .int M_beings, .int M_number, .int M_deedsDone, .ref aM_rows, .ref aM_far, .ref aM_firsts, .ref aM_line, .int M_lined, .int M_toldMany, .ref aM_toldRows, .ref aM_parts, .int (((((1103515245 : Int64) * ((M_seedNow).toInt64)) + (12345 : Int64)) &&& (2147483647 : Int64)).toInt32), .int M_keptNumber, .int M_keptBeings, .int M_keptDeeds, .int M_keptTold, .ref aM_keptToldRows, .long M_hash]))] H := hP
  have hD : va_D A [(aM, .inr (6, [.ref aM_page, .int M_pageMany, .ref aM_readDeeds, .int M_readMany, .int M_readBase, .int M_state, .int M_beings, .int M_number, .int M_deedsDone, .ref aM_rows, .ref aM_far, .ref aM_firsts, .ref aM_line, .int M_lined, .int M_toldMany, .ref aM_toldRows, .ref aM_parts, .int (((((1103515245 : Int64) * ((M_seedNow).toInt64)) + (12345 : Int64)) &&& (2147483647 : Int64)).toInt32), .int M_keptNumber, .int M_keptBeings, .int M_keptDeeds, .int M_keptTold, .ref aM_keptToldRows, .long M_hash]))] := hD
  refine lv_aload_n hx hb dX6_draw_22 rfl (lv_at hl 0 rfl) ?_
  refine va_get (D := (dC, dI)) (ci := 6) (v := .int (((((1103515245 : Int64) * ((M_seedNow).toInt64)) + (12345 : Int64)) &&& (2147483647 : Int64)).toInt32)) (C := RX6) (T := TX6) (N := 24) hx hb hts iX6 hown hK hP 0 rfl rfl 17 (by decide) hw2 (fun _ h9 => h9) rfl dX6_draw_23 ?_
  refine lv_ldc (v := 65536) hx hb hown hw5 dX6_draw_26 ?_
  refine lv_idiv hx hb dX6_draw_28 (by decide) ?_
  refine lv_iload_n hx hb dX6_draw_29 rfl (lv_at hl 1 rfl) ?_
  obtain ⟨hz1, hf⟩ := sw_dz_s hf
  refine lv_irem hx hb dX6_draw_30 hz1 ?_
  subst hQ hAe
  cases hf
  exact W.iret hx hb hr (fun t ht hW => ⟨⟨_, (), rfl, rfl, ⟨by rw [ht]; exact hP, va_K.moved hW.alike hK, hD⟩⟩, hS.F ht⟩) hS.2.2 dX6_draw_31 hlocks
abbrev rm_X6_mayMany : Room := { frames := 5, cells := 0, slots := 0, locals := 119 }
set_option maxHeartbeats 1000000 in
set_option maxRecDepth 100000 in
theorem k_X6_mayMany (l : Launch) (dC : Nat → ClassId) (dI : Nat → Nat → Nat) (cI cZ : ClassId) (t0 : Nat) (aM aM_page aM_readDeeds aM_rows aM_far aM_firsts aM_line aM_toldRows aM_parts aM_keptToldRows : Nat) (M_pageMany : Int32) (M_readMany : Int32) (M_readBase : Int32) (M_state : Int32) (M_beings : Int32) (M_number : Int32) (M_deedsDone : Int32) (M_lined : Int32) (M_toldMany : Int32) (M_seedNow : Int32) (M_keptNumber : Int32) (M_keptBeings : Int32) (M_keptDeeds : Int32) (M_keptTold : Int32) (M_hash : Int64) (M_rows : Nat → Int32) (l1 : Int32) (rv : Int32)  (hf : F_X6_mayMany M_beings M_rows l1 = some (rv)) : Met l yX6_mayMany wsX6_mayMany rm_X6_mayMany (sw_PR (dC, dI) t0 [(cI, .int), (cZ, .boolean)] [.ref aM, .int l1] [(aM, .inr (6, [.ref aM_page, .int M_pageMany, .ref aM_readDeeds, .int M_readMany, .int M_readBase, .int M_state, .int M_beings, .int M_number, .int M_deedsDone, .ref aM_rows, .ref aM_far, .ref aM_firsts, .ref aM_line, .int M_lined, .int M_toldMany, .ref aM_toldRows, .ref aM_parts, .int M_seedNow, .int M_keptNumber, .int M_keptBeings, .int M_keptDeeds, .int M_keptTold, .ref aM_keptToldRows, .long M_hash])), (aM_rows, .inl (cI, 20, .inl M_rows))]) (vp_Si (fun r => r = rv)) 0 0 (fun _ => False) := by
  refine sw_metR (cc := cX6_mayMany) (maxL := 4) (ret := (some .int)) (lv := [(0, .ref aM), (1, .int l1)]) (by decide) rfl (Nat.le_of_ble_eq_true rfl) rfl ?_
  intro p e s m below meth c Q hQ hx hb hr hts hown hlocks hml hP hK hE hS ls hl
  have hown : s.vm.findClass RX6 = some m.cls := hown
  have hf := (F_X6_mayMany.eq_1 _ _ _).symm.trans hf
  have hf0 := hf
  clear hf
  have hl0 := hl
  clear hl
  have hB_34 : ∀ (l3 : Int32) (s0 : Int32) (s1 : Int32),∀ (k4 : Int32 → Int32 → Option (Int32)), (∀ (l2 : Int32) (l3 : Int32), k4 l2 l3 = some (rv) → ∀ ls : Array Slot, lv_has ls 4 [(0, .ref aM), (1, .int l1), (2, .int l2), (3, .int l3)] → W p l e rm_X6_mayMany s m ([.ref aM, .int l1] : List Value).toArray below meth c s.heap [] 0 0 Q (F0 m 4 ls [])) →  F_X6_mayMany_34 k4 M_beings M_rows l1 l3 s0 s1 = some (rv) → ∀ ls : Array Slot, lv_has ls 4 [(0, .ref aM), (1, .int l1), (3, .int l3)] → W p l e rm_X6_mayMany s m ([.ref aM, .int l1] : List Value).toArray below meth c s.heap [] 0 0 Q (F0 m 34 ls [.int s1, .int s0]) := by
    intro l3 s0 s1 k4 hk4 hf ls hl
    have hf := (F_X6_mayMany_34.eq_1 _ _ _ _ _ _ _).symm.trans hf
    refine lv_iadd hx hb dX6_mayMany_34 ?_
    refine lv_istore_n (lv' := [(2, .int (s0 + s1)), (0, .ref aM), (1, .int l1), (3, .int l3)]) hx hb dX6_mayMany_35 rfl hl (by decide) rfl (fun ls hl => ?_)
    refine lv_iinc (v := l3 + (1 : Int32)) (lv' := [(3, .int (l3 + (1 : Int32))), (2, .int (s0 + s1)), (0, .ref aM), (1, .int l1)]) hx hb dX6_mayMany_36 hl (k := 3) rfl (sw_ii _) (by decide) rfl (fun ls hl => ?_)
    refine lv_goto (tgt := 4) hx hb dX6_mayMany_39 (by decide) ?_
    exact hk4 (s0 + s1) (l3 + (1 : Int32)) hf ls (lv_sub hl [2, 3, 1, 0] rfl)
  have hB_4 :  ∀ (fu : Nat) (l2 : Int32) (l3 : Int32), F_X6_mayMany_4 M_beings M_rows l1 fu l2 l3 = some (rv) → ∀ ls : Array Slot, lv_has ls 4 [(0, .ref aM), (1, .int l1), (2, .int l2), (3, .int l3)] → W p l e rm_X6_mayMany s m ([.ref aM, .int l1] : List Value).toArray below meth c s.heap [] 0 0 Q (F0 m 4 ls []) := by
    intro   fu
    induction fu with
    | zero =>
      intro l2 l3 hf
      exact nomatch (show (none : Option (Int32)) = some (rv) from hf)
    | succ fu ih =>
      intro l2 l3 hf ls hl
      have hf := (F_X6_mayMany_4.eq_2 _ _ _ _ _ _).symm.trans hf
      refine lv_iload_n hx hb dX6_mayMany_4 rfl (lv_at hl 3 rfl) ?_
      refine lv_bipush (v := 45) hx hb dX6_mayMany_5 (by decide) ?_
      refine lv_icmp_ge (tgt := 42) hx hb dX6_mayMany_7 (by decide) (fun c1 => ?_) (fun c1 => ?_)
      · have hf := sw_ip c1 hf
        refine lv_iload_n hx hb dX6_mayMany_42 rfl (lv_at hl 2 rfl) ?_
        subst hQ
        exact W.iret hx hb hr (fun t ht hW => ⟨_, rfl, Option.some.inj hf, ht⟩) (fun _ h => absurd h List.not_mem_nil) dX6_mayMany_43 hlocks
      · have hf := sw_in c1 hf
        refine lv_iload_n hx hb dX6_mayMany_10 rfl (lv_at hl 2 rfl) ?_
        refine lv_aload_n hx hb dX6_mayMany_11 rfl (lv_at hl 0 rfl) ?_
        refine lv_iload_n hx hb dX6_mayMany_12 rfl (lv_at hl 3 rfl) ?_
        obtain ⟨q1, hq1, hf⟩ := sw_bs hf
        have hPc := hP.sub (ws' := [(aM, .inr (6, [.ref aM_page, .int M_pageMany, .ref aM_readDeeds, .int M_readMany, .int M_readBase, .int M_state, .int M_beings, .int M_number, .int M_deedsDone, .ref aM_rows, .ref aM_far, .ref aM_firsts, .ref aM_line, .int M_lined, .int M_toldMany, .ref aM_toldRows, .ref aM_parts, .int M_seedNow, .int M_keptNumber, .int M_keptBeings, .int M_keptDeeds, .int M_keptTold, .ref aM_keptToldRows, .long M_hash]))]) [0] rfl
        refine sw_rd (W.runV (As := [.int l3]) (rest := [.int l2]) ⟨hx, hb, hml, hown, hts⟩ (k_X6_isDeed l dC dI cI cZ t0 aM aM_page aM_readDeeds aM_rows aM_far aM_firsts aM_line aM_toldRows aM_parts aM_keptToldRows M_pageMany M_readMany M_readBase M_state M_beings M_number M_deedsDone M_lined M_toldMany M_seedNow M_keptNumber M_keptBeings M_keptDeeds M_keptTold M_hash l3 q1 hq1) (cwV 1 hts gX6_mayMany_X6_isDeed rfl rfl rfl (by decide +kernel) ⟨Nat.le_of_ble_eq_true rfl, Nat.le_of_ble_eq_true rfl⟩) ⟨sw_PR_bl, va_recv hK hPc (ci := 6) (q0 := 0) rfl rfl, sw_PR_pre hK hPc hE hS⟩ rfl rfl hl.1 rfl (lv_room (Nat.le_of_ble_eq_true rfl)) dX6_mayMany_13 ⟨Nat.zero_le _, Nat.zero_le _⟩) ?_
        refine lv_if_eq (tgt := 33) hx hb dX6_mayMany_16 (by decide) (fun c2 => ?_) (fun c2 => ?_)
        · have hf := sw_ip c2 hf
          refine lv_iconst (v := 0) hx hb dX6_mayMany_33 (by decide) ?_
          exact hB_34 l3 l2 (0 : Int32) (F_X6_mayMany_4  M_beings M_rows l1 fu) ih hf ls (lv_sub hl [0, 1, 3] rfl)
        · have hf := sw_in c2 hf
          refine lv_aload_n hx hb dX6_mayMany_19 rfl (lv_at hl 0 rfl) ?_
          refine lv_iload_n hx hb dX6_mayMany_20 rfl (lv_at hl 1 rfl) ?_
          refine lv_iload_n hx hb dX6_mayMany_21 rfl (lv_at hl 3 rfl) ?_
          obtain ⟨q2, hq2, hf⟩ := sw_bs hf
          have hPc := hP.sub (ws' := [(aM, .inr (6, [.ref aM_page, .int M_pageMany, .ref aM_readDeeds, .int M_readMany, .int M_readBase, .int M_state, .int M_beings, .int M_number, .int M_deedsDone, .ref aM_rows, .ref aM_far, .ref aM_firsts, .ref aM_line, .int M_lined, .int M_toldMany, .ref aM_toldRows, .ref aM_parts, .int M_seedNow, .int M_keptNumber, .int M_keptBeings, .int M_keptDeeds, .int M_keptTold, .ref aM_keptToldRows, .long M_hash])), (aM_rows, .inl (cI, 20, .inl M_rows))]) [0, 1] rfl
          refine sw_rd (W.runV (As := [.int l1, .int l3]) (rest := [.int l2]) ⟨hx, hb, hml, hown, hts⟩ (k_X6_done l dC dI cI cZ t0 aM aM_page aM_readDeeds aM_rows aM_far aM_firsts aM_line aM_toldRows aM_parts aM_keptToldRows M_pageMany M_readMany M_readBase M_state M_beings M_number M_deedsDone M_lined M_toldMany M_seedNow M_keptNumber M_keptBeings M_keptDeeds M_keptTold M_hash M_rows l1 l3 q2 hq2) (cwV 2 hts gX6_mayMany_X6_done rfl rfl rfl (by decide +kernel) ⟨Nat.le_of_ble_eq_true rfl, Nat.le_of_ble_eq_true rfl⟩) ⟨sw_PR_bl, va_recv hK hPc (ci := 6) (q0 := 0) rfl rfl, sw_PR_pre hK hPc hE hS⟩ rfl rfl hl.1 rfl (lv_room (Nat.le_of_ble_eq_true rfl)) dX6_mayMany_22 ⟨Nat.zero_le _, Nat.zero_le _⟩) ?_
          refine lv_iconst (v := -1) hx hb dX6_mayMany_25 (by decide) ?_
          refine lv_icmp_eq (tgt := 33) hx hb dX6_mayMany_26 (by decide) (fun c3 => ?_) (fun c3 => ?_)
          · have hf := sw_ip c3 hf
            refine lv_iconst (v := 0) hx hb dX6_mayMany_33 (by decide) ?_
            exact hB_34 l3 l2 (0 : Int32) (F_X6_mayMany_4  M_beings M_rows l1 fu) ih hf ls (lv_sub hl [0, 1, 3] rfl)
          · have hf := sw_in c3 hf
            refine lv_iconst (v := 1) hx hb dX6_mayMany_29 (by decide) ?_
            refine lv_goto (tgt := 34) hx hb dX6_mayMany_30 (by decide) ?_
            exact hB_34 l3 l2 (1 : Int32) (F_X6_mayMany_4  M_beings M_rows l1 fu) ih hf ls (lv_sub hl [0, 1, 3] rfl)
  have hf := hf0
  have hl := hl0
  refine lv_iconst (v := 0) hx hb dX6_mayMany_0 (by decide) ?_
  refine lv_istore_n (lv' := [(2, .int (0 : Int32)), (0, .ref aM), (1, .int l1)]) hx hb dX6_mayMany_1 rfl hl (by decide) rfl (fun ls hl => ?_)
  refine lv_iconst (v := 0) hx hb dX6_mayMany_2 (by decide) ?_
  refine lv_istore_n (lv' := [(3, .int (0 : Int32)), (2, .int (0 : Int32)), (0, .ref aM), (1, .int l1)]) hx hb dX6_mayMany_3 rfl hl (by decide) rfl (fun ls hl => ?_)
  exact hB_4   sw_fu (0 : Int32) (0 : Int32) hf ls (lv_sub hl [2, 3, 1, 0] rfl)
abbrev rm_X6_days : Room := { frames := 6, cells := 0, slots := 0, locals := 142 }
set_option maxHeartbeats 1000000 in
set_option maxRecDepth 100000 in
theorem k_X6_days (l : Launch) (dC : Nat → ClassId) (dI : Nat → Nat → Nat) (cI cZ : ClassId) (t0 : Nat) (sz : Nat) (aM aM_page aM_readDeeds aM_rows aM_far aM_firsts aM_line aM_toldRows aM_parts aM_keptToldRows : Nat) (M_pageMany : Int32) (M_readMany : Int32) (M_readBase : Int32) (M_state : Int32) (M_beings : Int32) (M_number : Int32) (M_deedsDone : Int32) (M_lined : Int32) (M_toldMany : Int32) (M_seedNow : Int32) (M_keptNumber : Int32) (M_keptBeings : Int32) (M_keptDeeds : Int32) (M_keptTold : Int32) (M_hash : Int64) (M_rows : Nat → Int32) (l1 : Int32) (l2 : Int32) (l3 : Int32) (rv : Int32) (M_seedNow' : Int32) (hf : F_X6_days M_beings M_number M_seedNow M_rows l1 l2 l3 = some (rv, M_seedNow')) : Met l yX6_days wsX6_days rm_X6_days (sw_PW (dC, dI) t0 [(cI, .int), (cZ, .boolean)] [.ref aM, .int l1, .int l2, .int l3] [(aM, .inr (6, [.ref aM_page, .int M_pageMany, .ref aM_readDeeds, .int M_readMany, .int M_readBase, .int M_state, .int M_beings, .int M_number, .int M_deedsDone, .ref aM_rows, .ref aM_far, .ref aM_firsts, .ref aM_line, .int M_lined, .int M_toldMany, .ref aM_toldRows, .ref aM_parts, .int M_seedNow, .int M_keptNumber, .int M_keptBeings, .int M_keptDeeds, .int M_keptTold, .ref aM_keptToldRows, .long M_hash])), (aM_rows, .inl (cI, 20, .inl M_rows))] sz) (va_Qi (fun r (_ : Unit) => r = rv) (fun _ t => sw_B (dC, dI) [(cI, .int), (cZ, .boolean)] [(aM, .inr (6, [.ref aM_page, .int M_pageMany, .ref aM_readDeeds, .int M_readMany, .int M_readBase, .int M_state, .int M_beings, .int M_number, .int M_deedsDone, .ref aM_rows, .ref aM_far, .ref aM_firsts, .ref aM_line, .int M_lined, .int M_toldMany, .ref aM_toldRows, .ref aM_parts, .int M_seedNow', .int M_keptNumber, .int M_keptBeings, .int M_keptDeeds, .int M_keptTold, .ref aM_keptToldRows, .long M_hash])), (aM_rows, .inl (cI, 20, .inl M_rows))] (va_A [(aM, .inr (6, [.ref aM_page, .int M_pageMany, .ref aM_readDeeds, .int M_readMany, .int M_readBase, .int M_state, .int M_beings, .int M_number, .int M_deedsDone, .ref aM_rows, .ref aM_far, .ref aM_firsts, .ref aM_line, .int M_lined, .int M_toldMany, .ref aM_toldRows, .ref aM_parts, .int M_seedNow, .int M_keptNumber, .int M_keptBeings, .int M_keptDeeds, .int M_keptTold, .ref aM_keptToldRows, .long M_hash])), (aM_rows, .inl (cI, 20, .inl M_rows))] sz) t) (va_A [(aM, .inr (6, [.ref aM_page, .int M_pageMany, .ref aM_readDeeds, .int M_readMany, .int M_readBase, .int M_state, .int M_beings, .int M_number, .int M_deedsDone, .ref aM_rows, .ref aM_far, .ref aM_firsts, .ref aM_line, .int M_lined, .int M_toldMany, .ref aM_toldRows, .ref aM_parts, .int M_seedNow, .int M_keptNumber, .int M_keptBeings, .int M_keptDeeds, .int M_keptTold, .ref aM_keptToldRows, .long M_hash])), (aM_rows, .inl (cI, 20, .inl M_rows))] sz)) 0 0 (va_A [(aM, .inr (6, [.ref aM_page, .int M_pageMany, .ref aM_readDeeds, .int M_readMany, .int M_readBase, .int M_state, .int M_beings, .int M_number, .int M_deedsDone, .ref aM_rows, .ref aM_far, .ref aM_firsts, .ref aM_line, .int M_lined, .int M_toldMany, .ref aM_toldRows, .ref aM_parts, .int M_seedNow, .int M_keptNumber, .int M_keptBeings, .int M_keptDeeds, .int M_keptTold, .ref aM_keptToldRows, .long M_hash])), (aM_rows, .inl (cI, 20, .inl M_rows))] sz) := by
  refine sw_metW (cc := cX6_days) (maxL := 11) (ret := (some .int)) (lv := [(0, .ref aM), (1, .int l1), (2, .int l2), (3, .int l3)]) (by decide) rfl (Nat.le_of_ble_eq_true rfl) rfl ?_
  intro p e s m below meth c Q A hsz hAe hQ hx hb hr hts hown hlocks hml hmn hP hK hD hE hS hA ls hl
  have hS0 := hS
  have hown : s.vm.findClass RX6 = some m.cls := hown
  have hf := (F_X6_days.eq_1 _ _ _ _ _ _ _).symm.trans hf
  have hw3 := hts (.fieldLink RX6 173 "SwallowedInTurnModel" "seedNow" "I") (List.mem_of_getElem? (i := 3) (by decide +kernel))
  have iX6 : ∀ w ∈ u_ws RX6 TX6 24, w ∈ wsX6_days := by decide +kernel
  have hw1 := hts (.constantLong RX6 181 (60)) (List.mem_of_getElem? (i := 1) (by decide +kernel))
  have hw2 := hts (.constantLong RX6 183 (2)) (List.mem_of_getElem? (i := 2) (by decide +kernel))
  have hw4 := hts (.fieldLink RX6 115 "SwallowedInTurnModel" "number" "I") (List.mem_of_getElem? (i := 4) (by decide +kernel))
  have hf0 := hf
  clear hf
  have hP0 := hP
  have hD0 := hD
  clear hP hD hS
  have hl0 := hl
  clear hl
  have hB_142 : ∀ (M_seedNow : Int32) (l4 : Int32) (l5 : Int32) (l8 : Int32) (l9 : Int32) (s0 : Int32) (s1 : Int32),∀ (k53 : Int32 → Int32 → Int32 → Int32 → Option (Int32 × Int32)), (∀ (M_seedNow : Int32) (l4 : Int32) (l5 : Int32) (l6 : Int32), k53 M_seedNow l4 l5 l6 = some (rv, M_seedNow') → ∀ (H : Heap) (locs : List Loc), va_P (dC, dI) vwCl [(aM, .inr (6, [.ref aM_page, .int M_pageMany, .ref aM_readDeeds, .int M_readMany, .int M_readBase, .int M_state, .int M_beings, .int M_number, .int M_deedsDone, .ref aM_rows, .ref aM_far, .ref aM_firsts, .ref aM_line, .int M_lined, .int M_toldMany, .ref aM_toldRows, .ref aM_parts, .int M_seedNow, .int M_keptNumber, .int M_keptBeings, .int M_keptDeeds, .int M_keptTold, .ref aM_keptToldRows, .long M_hash])), (aM_rows, .inl (cI, 20, .inl M_rows))] H → va_D A [(aM, .inr (6, [.ref aM_page, .int M_pageMany, .ref aM_readDeeds, .int M_readMany, .int M_readBase, .int M_state, .int M_beings, .int M_number, .int M_deedsDone, .ref aM_rows, .ref aM_far, .ref aM_firsts, .ref aM_line, .int M_lined, .int M_toldMany, .ref aM_toldRows, .ref aM_parts, .int M_seedNow, .int M_keptNumber, .int M_keptBeings, .int M_keptDeeds, .int M_keptTold, .ref aM_keptToldRows, .long M_hash])), (aM_rows, .inl (cI, 20, .inl M_rows))] → va_S A s.heap H locs → ∀ ls : Array Slot, lv_has ls 11 [(0, .ref aM), (1, .int l1), (3, .int l3), (4, .int l4), (5, .int l5), (6, .int l6)] → W p l e rm_X6_days s m ([.ref aM, .int l1, .int l2, .int l3] : List Value).toArray below meth c H locs 0 0 Q (F0 m 53 ls [])) → ∀ (k79 : Int32 → Int32 → Int32 → Option (Int32 × Int32)), (∀ (l7 : Int32) (l8 : Int32) (l9 : Int32), k79 l7 l8 l9 = some (rv, M_seedNow') → ∀ (H : Heap) (locs : List Loc), va_P (dC, dI) vwCl [(aM, .inr (6, [.ref aM_page, .int M_pageMany, .ref aM_readDeeds, .int M_readMany, .int M_readBase, .int M_state, .int M_beings, .int M_number, .int M_deedsDone, .ref aM_rows, .ref aM_far, .ref aM_firsts, .ref aM_line, .int M_lined, .int M_toldMany, .ref aM_toldRows, .ref aM_parts, .int M_seedNow, .int M_keptNumber, .int M_keptBeings, .int M_keptDeeds, .int M_keptTold, .ref aM_keptToldRows, .long M_hash])), (aM_rows, .inl (cI, 20, .inl M_rows))] H → va_D A [(aM, .inr (6, [.ref aM_page, .int M_pageMany, .ref aM_readDeeds, .int M_readMany, .int M_readBase, .int M_state, .int M_beings, .int M_number, .int M_deedsDone, .ref aM_rows, .ref aM_far, .ref aM_firsts, .ref aM_line, .int M_lined, .int M_toldMany, .ref aM_toldRows, .ref aM_parts, .int M_seedNow, .int M_keptNumber, .int M_keptBeings, .int M_keptDeeds, .int M_keptTold, .ref aM_keptToldRows, .long M_hash])), (aM_rows, .inl (cI, 20, .inl M_rows))] → va_S A s.heap H locs → ∀ ls : Array Slot, lv_has ls 11 [(0, .ref aM), (1, .int l1), (3, .int l3), (4, .int l4), (5, .int l5), (7, .int l7), (8, .int l8), (9, .int l9)] → W p l e rm_X6_days s m ([.ref aM, .int l1, .int l2, .int l3] : List Value).toArray below meth c H locs 0 0 Q (F0 m 79 ls [])) →  F_X6_days_142 k53 k79 M_beings M_seedNow M_rows l1 l3 l4 l5 l8 l9 s0 s1 = some (rv, M_seedNow') → ∀ (H : Heap) (locs : List Loc), va_P (dC, dI) vwCl [(aM, .inr (6, [.ref aM_page, .int M_pageMany, .ref aM_readDeeds, .int M_readMany, .int M_readBase, .int M_state, .int M_beings, .int M_number, .int M_deedsDone, .ref aM_rows, .ref aM_far, .ref aM_firsts, .ref aM_line, .int M_lined, .int M_toldMany, .ref aM_toldRows, .ref aM_parts, .int M_seedNow, .int M_keptNumber, .int M_keptBeings, .int M_keptDeeds, .int M_keptTold, .ref aM_keptToldRows, .long M_hash])), (aM_rows, .inl (cI, 20, .inl M_rows))] H → va_D A [(aM, .inr (6, [.ref aM_page, .int M_pageMany, .ref aM_readDeeds, .int M_readMany, .int M_readBase, .int M_state, .int M_beings, .int M_number, .int M_deedsDone, .ref aM_rows, .ref aM_far, .ref aM_firsts, .ref aM_line, .int M_lined, .int M_toldMany, .ref aM_toldRows, .ref aM_parts, .int M_seedNow, .int M_keptNumber, .int M_keptBeings, .int M_keptDeeds, .int M_keptTold, .ref aM_keptToldRows, .long M_hash])), (aM_rows, .inl (cI, 20, .inl M_rows))] → va_S A s.heap H locs → ∀ ls : Array Slot, lv_has ls 11 [(0, .ref aM), (1, .int l1), (3, .int l3), (4, .int l4), (5, .int l5), (8, .int l8), (9, .int l9)] → W p l e rm_X6_days s m ([.ref aM, .int l1, .int l2, .int l3] : List Value).toArray below meth c H locs 0 0 Q (F0 m 142 ls [.int s1, .int s0]) := by
    intro M_seedNow l4 l5 l8 l9 s0 s1 k53 hk53 k79 hk79 hf H locs hP hD hS ls hl
    have hf := (F_X6_days_142.eq_1 _ _ _ _ _ _ _ _ _ _ _ _ _).symm.trans hf
    refine lv_isub hx hb dX6_days_142 ?_
    refine lv_istore (lv' := [(7, .int (s0 - s1)), (0, .ref aM), (1, .int l1), (3, .int l3), (4, .int l4), (5, .int l5), (8, .int l8), (9, .int l9)]) hx hb dX6_days_143 hl (by decide) rfl (fun ls hl => ?_)
    refine lv_iinc (v := l9 + (1 : Int32)) (lv' := [(9, .int (l9 + (1 : Int32))), (7, .int (s0 - s1)), (0, .ref aM), (1, .int l1), (3, .int l3), (4, .int l4), (5, .int l5), (8, .int l8)]) hx hb dX6_days_145 hl (k := 7) rfl (sw_ii _) (by decide) rfl (fun ls hl => ?_)
    refine lv_goto (tgt := 79) hx hb dX6_days_148 (by decide) ?_
    exact hk79 (s0 - s1) l8 (l9 + (1 : Int32)) hf H locs hP hD hS ls (lv_sub hl [2, 3, 4, 5, 6, 1, 7, 0] rfl)
  have hB_127 : ∀ (M_seedNow : Int32) (l4 : Int32) (l5 : Int32) (l7 : Int32) (l9 : Int32) (l10 : Int32) (s0 : Int32),∀ (k53 : Int32 → Int32 → Int32 → Int32 → Option (Int32 × Int32)), (∀ (M_seedNow : Int32) (l4 : Int32) (l5 : Int32) (l6 : Int32), k53 M_seedNow l4 l5 l6 = some (rv, M_seedNow') → ∀ (H : Heap) (locs : List Loc), va_P (dC, dI) vwCl [(aM, .inr (6, [.ref aM_page, .int M_pageMany, .ref aM_readDeeds, .int M_readMany, .int M_readBase, .int M_state, .int M_beings, .int M_number, .int M_deedsDone, .ref aM_rows, .ref aM_far, .ref aM_firsts, .ref aM_line, .int M_lined, .int M_toldMany, .ref aM_toldRows, .ref aM_parts, .int M_seedNow, .int M_keptNumber, .int M_keptBeings, .int M_keptDeeds, .int M_keptTold, .ref aM_keptToldRows, .long M_hash])), (aM_rows, .inl (cI, 20, .inl M_rows))] H → va_D A [(aM, .inr (6, [.ref aM_page, .int M_pageMany, .ref aM_readDeeds, .int M_readMany, .int M_readBase, .int M_state, .int M_beings, .int M_number, .int M_deedsDone, .ref aM_rows, .ref aM_far, .ref aM_firsts, .ref aM_line, .int M_lined, .int M_toldMany, .ref aM_toldRows, .ref aM_parts, .int M_seedNow, .int M_keptNumber, .int M_keptBeings, .int M_keptDeeds, .int M_keptTold, .ref aM_keptToldRows, .long M_hash])), (aM_rows, .inl (cI, 20, .inl M_rows))] → va_S A s.heap H locs → ∀ ls : Array Slot, lv_has ls 11 [(0, .ref aM), (1, .int l1), (3, .int l3), (4, .int l4), (5, .int l5), (6, .int l6)] → W p l e rm_X6_days s m ([.ref aM, .int l1, .int l2, .int l3] : List Value).toArray below meth c H locs 0 0 Q (F0 m 53 ls [])) → ∀ (k79 : Int32 → Int32 → Int32 → Option (Int32 × Int32)), (∀ (l7 : Int32) (l8 : Int32) (l9 : Int32), k79 l7 l8 l9 = some (rv, M_seedNow') → ∀ (H : Heap) (locs : List Loc), va_P (dC, dI) vwCl [(aM, .inr (6, [.ref aM_page, .int M_pageMany, .ref aM_readDeeds, .int M_readMany, .int M_readBase, .int M_state, .int M_beings, .int M_number, .int M_deedsDone, .ref aM_rows, .ref aM_far, .ref aM_firsts, .ref aM_line, .int M_lined, .int M_toldMany, .ref aM_toldRows, .ref aM_parts, .int M_seedNow, .int M_keptNumber, .int M_keptBeings, .int M_keptDeeds, .int M_keptTold, .ref aM_keptToldRows, .long M_hash])), (aM_rows, .inl (cI, 20, .inl M_rows))] H → va_D A [(aM, .inr (6, [.ref aM_page, .int M_pageMany, .ref aM_readDeeds, .int M_readMany, .int M_readBase, .int M_state, .int M_beings, .int M_number, .int M_deedsDone, .ref aM_rows, .ref aM_far, .ref aM_firsts, .ref aM_line, .int M_lined, .int M_toldMany, .ref aM_toldRows, .ref aM_parts, .int M_seedNow, .int M_keptNumber, .int M_keptBeings, .int M_keptDeeds, .int M_keptTold, .ref aM_keptToldRows, .long M_hash])), (aM_rows, .inl (cI, 20, .inl M_rows))] → va_S A s.heap H locs → ∀ ls : Array Slot, lv_has ls 11 [(0, .ref aM), (1, .int l1), (3, .int l3), (4, .int l4), (5, .int l5), (7, .int l7), (8, .int l8), (9, .int l9)] → W p l e rm_X6_days s m ([.ref aM, .int l1, .int l2, .int l3] : List Value).toArray below meth c H locs 0 0 Q (F0 m 79 ls [])) →  F_X6_days_127 k53 k79 M_beings M_seedNow M_rows l1 l3 l4 l5 l7 l9 l10 s0 = some (rv, M_seedNow') → ∀ (H : Heap) (locs : List Loc), va_P (dC, dI) vwCl [(aM, .inr (6, [.ref aM_page, .int M_pageMany, .ref aM_readDeeds, .int M_readMany, .int M_readBase, .int M_state, .int M_beings, .int M_number, .int M_deedsDone, .ref aM_rows, .ref aM_far, .ref aM_firsts, .ref aM_line, .int M_lined, .int M_toldMany, .ref aM_toldRows, .ref aM_parts, .int M_seedNow, .int M_keptNumber, .int M_keptBeings, .int M_keptDeeds, .int M_keptTold, .ref aM_keptToldRows, .long M_hash])), (aM_rows, .inl (cI, 20, .inl M_rows))] H → va_D A [(aM, .inr (6, [.ref aM_page, .int M_pageMany, .ref aM_readDeeds, .int M_readMany, .int M_readBase, .int M_state, .int M_beings, .int M_number, .int M_deedsDone, .ref aM_rows, .ref aM_far, .ref aM_firsts, .ref aM_line, .int M_lined, .int M_toldMany, .ref aM_toldRows, .ref aM_parts, .int M_seedNow, .int M_keptNumber, .int M_keptBeings, .int M_keptDeeds, .int M_keptTold, .ref aM_keptToldRows, .long M_hash])), (aM_rows, .inl (cI, 20, .inl M_rows))] → va_S A s.heap H locs → ∀ ls : Array Slot, lv_has ls 11 [(0, .ref aM), (1, .int l1), (3, .int l3), (4, .int l4), (5, .int l5), (7, .int l7), (9, .int l9), (10, .int l10)] → W p l e rm_X6_days s m ([.ref aM, .int l1, .int l2, .int l3] : List Value).toArray below meth c H locs 0 0 Q (F0 m 127 ls [.int s0]) := by
    intro M_seedNow l4 l5 l7 l9 l10 s0 k53 hk53 k79 hk79 hf H locs hP hD hS ls hl
    have hf := (F_X6_days_127.eq_1 _ _ _ _ _ _ _ _ _ _ _ _ _).symm.trans hf
    refine lv_istore (lv' := [(8, .int s0), (0, .ref aM), (1, .int l1), (3, .int l3), (4, .int l4), (5, .int l5), (7, .int l7), (9, .int l9), (10, .int l10)]) hx hb dX6_days_127 hl (by decide) rfl (fun ls hl => ?_)
    refine lv_iload hx hb dX6_days_129 (lv_at hl 6 rfl) ?_
    refine lv_iload hx hb dX6_days_131 (lv_at hl 8 rfl) ?_
    refine lv_iconst (v := -1) hx hb dX6_days_133 (by decide) ?_
    refine lv_icmp_ne (tgt := 141) hx hb dX6_days_134 (by decide) (fun c1 => ?_) (fun c1 => ?_)
    · have hf := sw_in c1 hf
      refine lv_iconst (v := 1) hx hb dX6_days_141 (by decide) ?_
      exact hB_142 M_seedNow l4 l5 s0 l9 l7 (1 : Int32) k53 hk53 k79 hk79 hf H locs hP hD hS ls (lv_sub hl [1, 2, 3, 4, 5, 0, 7] rfl)
    · have hf := sw_ip c1 hf
      refine lv_iconst (v := 0) hx hb dX6_days_137 (by decide) ?_
      refine lv_goto (tgt := 142) hx hb dX6_days_138 (by decide) ?_
      exact hB_142 M_seedNow l4 l5 s0 l9 l7 (0 : Int32) k53 hk53 k79 hk79 hf H locs hP hD hS ls (lv_sub hl [1, 2, 3, 4, 5, 0, 7] rfl)
  have hB_107 : ∀ (M_seedNow : Int32) (l4 : Int32) (l5 : Int32) (l7 : Int32) (l8 : Int32) (l9 : Int32) (s0 : Int32),∀ (k53 : Int32 → Int32 → Int32 → Int32 → Option (Int32 × Int32)), (∀ (M_seedNow : Int32) (l4 : Int32) (l5 : Int32) (l6 : Int32), k53 M_seedNow l4 l5 l6 = some (rv, M_seedNow') → ∀ (H : Heap) (locs : List Loc), va_P (dC, dI) vwCl [(aM, .inr (6, [.ref aM_page, .int M_pageMany, .ref aM_readDeeds, .int M_readMany, .int M_readBase, .int M_state, .int M_beings, .int M_number, .int M_deedsDone, .ref aM_rows, .ref aM_far, .ref aM_firsts, .ref aM_line, .int M_lined, .int M_toldMany, .ref aM_toldRows, .ref aM_parts, .int M_seedNow, .int M_keptNumber, .int M_keptBeings, .int M_keptDeeds, .int M_keptTold, .ref aM_keptToldRows, .long M_hash])), (aM_rows, .inl (cI, 20, .inl M_rows))] H → va_D A [(aM, .inr (6, [.ref aM_page, .int M_pageMany, .ref aM_readDeeds, .int M_readMany, .int M_readBase, .int M_state, .int M_beings, .int M_number, .int M_deedsDone, .ref aM_rows, .ref aM_far, .ref aM_firsts, .ref aM_line, .int M_lined, .int M_toldMany, .ref aM_toldRows, .ref aM_parts, .int M_seedNow, .int M_keptNumber, .int M_keptBeings, .int M_keptDeeds, .int M_keptTold, .ref aM_keptToldRows, .long M_hash])), (aM_rows, .inl (cI, 20, .inl M_rows))] → va_S A s.heap H locs → ∀ ls : Array Slot, lv_has ls 11 [(0, .ref aM), (1, .int l1), (3, .int l3), (4, .int l4), (5, .int l5), (6, .int l6)] → W p l e rm_X6_days s m ([.ref aM, .int l1, .int l2, .int l3] : List Value).toArray below meth c H locs 0 0 Q (F0 m 53 ls [])) → ∀ (k79 : Int32 → Int32 → Int32 → Option (Int32 × Int32)), (∀ (l7 : Int32) (l8 : Int32) (l9 : Int32), k79 l7 l8 l9 = some (rv, M_seedNow') → ∀ (H : Heap) (locs : List Loc), va_P (dC, dI) vwCl [(aM, .inr (6, [.ref aM_page, .int M_pageMany, .ref aM_readDeeds, .int M_readMany, .int M_readBase, .int M_state, .int M_beings, .int M_number, .int M_deedsDone, .ref aM_rows, .ref aM_far, .ref aM_firsts, .ref aM_line, .int M_lined, .int M_toldMany, .ref aM_toldRows, .ref aM_parts, .int M_seedNow, .int M_keptNumber, .int M_keptBeings, .int M_keptDeeds, .int M_keptTold, .ref aM_keptToldRows, .long M_hash])), (aM_rows, .inl (cI, 20, .inl M_rows))] H → va_D A [(aM, .inr (6, [.ref aM_page, .int M_pageMany, .ref aM_readDeeds, .int M_readMany, .int M_readBase, .int M_state, .int M_beings, .int M_number, .int M_deedsDone, .ref aM_rows, .ref aM_far, .ref aM_firsts, .ref aM_line, .int M_lined, .int M_toldMany, .ref aM_toldRows, .ref aM_parts, .int M_seedNow, .int M_keptNumber, .int M_keptBeings, .int M_keptDeeds, .int M_keptTold, .ref aM_keptToldRows, .long M_hash])), (aM_rows, .inl (cI, 20, .inl M_rows))] → va_S A s.heap H locs → ∀ ls : Array Slot, lv_has ls 11 [(0, .ref aM), (1, .int l1), (3, .int l3), (4, .int l4), (5, .int l5), (7, .int l7), (8, .int l8), (9, .int l9)] → W p l e rm_X6_days s m ([.ref aM, .int l1, .int l2, .int l3] : List Value).toArray below meth c H locs 0 0 Q (F0 m 79 ls [])) →  F_X6_days_107 k53 k79 M_beings M_seedNow M_rows l1 l3 l4 l5 l7 l8 l9 s0 = some (rv, M_seedNow') → ∀ (H : Heap) (locs : List Loc), va_P (dC, dI) vwCl [(aM, .inr (6, [.ref aM_page, .int M_pageMany, .ref aM_readDeeds, .int M_readMany, .int M_readBase, .int M_state, .int M_beings, .int M_number, .int M_deedsDone, .ref aM_rows, .ref aM_far, .ref aM_firsts, .ref aM_line, .int M_lined, .int M_toldMany, .ref aM_toldRows, .ref aM_parts, .int M_seedNow, .int M_keptNumber, .int M_keptBeings, .int M_keptDeeds, .int M_keptTold, .ref aM_keptToldRows, .long M_hash])), (aM_rows, .inl (cI, 20, .inl M_rows))] H → va_D A [(aM, .inr (6, [.ref aM_page, .int M_pageMany, .ref aM_readDeeds, .int M_readMany, .int M_readBase, .int M_state, .int M_beings, .int M_number, .int M_deedsDone, .ref aM_rows, .ref aM_far, .ref aM_firsts, .ref aM_line, .int M_lined, .int M_toldMany, .ref aM_toldRows, .ref aM_parts, .int M_seedNow, .int M_keptNumber, .int M_keptBeings, .int M_keptDeeds, .int M_keptTold, .ref aM_keptToldRows, .long M_hash])), (aM_rows, .inl (cI, 20, .inl M_rows))] → va_S A s.heap H locs → ∀ ls : Array Slot, lv_has ls 11 [(0, .ref aM), (1, .int l1), (3, .int l3), (4, .int l4), (5, .int l5), (7, .int l7), (8, .int l8), (9, .int l9)] → W p l e rm_X6_days s m ([.ref aM, .int l1, .int l2, .int l3] : List Value).toArray below meth c H locs 0 0 Q (F0 m 107 ls [.int s0]) := by
    intro M_seedNow l4 l5 l7 l8 l9 s0 k53 hk53 k79 hk79 hf H locs hP hD hS ls hl
    have hf := (F_X6_days_107.eq_1 _ _ _ _ _ _ _ _ _ _ _ _ _).symm.trans hf
    refine lv_istore (lv' := [(10, .int s0), (0, .ref aM), (1, .int l1), (3, .int l3), (4, .int l4), (5, .int l5), (7, .int l7), (8, .int l8), (9, .int l9)]) hx hb dX6_days_107 hl (by decide) rfl (fun ls hl => ?_)
    refine lv_iload hx hb dX6_days_109 (lv_at hl 0 rfl) ?_
    refine lv_iconst (v := -1) hx hb dX6_days_111 (by decide) ?_
    refine lv_icmp_eq (tgt := 125) hx hb dX6_days_112 (by decide) (fun c2 => ?_) (fun c2 => ?_)
    · have hf := sw_ip c2 hf
      refine lv_iload hx hb dX6_days_125 (lv_at hl 7 rfl) ?_
      exact hB_127 M_seedNow l4 l5 l7 l9 s0 l8 k53 hk53 k79 hk79 hf H locs hP hD hS ls (lv_sub hl [1, 2, 3, 4, 5, 6, 8, 0] rfl)
    · have hf := sw_in c2 hf
      refine lv_iload hx hb dX6_days_115 (lv_at hl 6 rfl) ?_
      refine lv_if_ne (tgt := 125) hx hb dX6_days_117 (by decide) (fun c3 => ?_) (fun c3 => ?_)
      · have hf := sw_in c3 hf
        refine lv_iload hx hb dX6_days_125 (lv_at hl 7 rfl) ?_
        exact hB_127 M_seedNow l4 l5 l7 l9 s0 l8 k53 hk53 k79 hk79 hf H locs hP hD hS ls (lv_sub hl [1, 2, 3, 4, 5, 6, 8, 0] rfl)
      · have hf := sw_ip c3 hf
        refine lv_iload hx hb dX6_days_120 (lv_at hl 0 rfl) ?_
        refine lv_goto (tgt := 127) hx hb dX6_days_122 (by decide) ?_
        exact hB_127 M_seedNow l4 l5 l7 l9 s0 s0 k53 hk53 k79 hk79 hf H locs hP hD hS ls (lv_sub hl [1, 2, 3, 4, 5, 6, 8, 0] rfl)
  have hB_79 : ∀ (M_seedNow : Int32) (l4 : Int32) (l5 : Int32),∀ (k53 : Int32 → Int32 → Int32 → Int32 → Option (Int32 × Int32)), (∀ (M_seedNow : Int32) (l4 : Int32) (l5 : Int32) (l6 : Int32), k53 M_seedNow l4 l5 l6 = some (rv, M_seedNow') → ∀ (H : Heap) (locs : List Loc), va_P (dC, dI) vwCl [(aM, .inr (6, [.ref aM_page, .int M_pageMany, .ref aM_readDeeds, .int M_readMany, .int M_readBase, .int M_state, .int M_beings, .int M_number, .int M_deedsDone, .ref aM_rows, .ref aM_far, .ref aM_firsts, .ref aM_line, .int M_lined, .int M_toldMany, .ref aM_toldRows, .ref aM_parts, .int M_seedNow, .int M_keptNumber, .int M_keptBeings, .int M_keptDeeds, .int M_keptTold, .ref aM_keptToldRows, .long M_hash])), (aM_rows, .inl (cI, 20, .inl M_rows))] H → va_D A [(aM, .inr (6, [.ref aM_page, .int M_pageMany, .ref aM_readDeeds, .int M_readMany, .int M_readBase, .int M_state, .int M_beings, .int M_number, .int M_deedsDone, .ref aM_rows, .ref aM_far, .ref aM_firsts, .ref aM_line, .int M_lined, .int M_toldMany, .ref aM_toldRows, .ref aM_parts, .int M_seedNow, .int M_keptNumber, .int M_keptBeings, .int M_keptDeeds, .int M_keptTold, .ref aM_keptToldRows, .long M_hash])), (aM_rows, .inl (cI, 20, .inl M_rows))] → va_S A s.heap H locs → ∀ ls : Array Slot, lv_has ls 11 [(0, .ref aM), (1, .int l1), (3, .int l3), (4, .int l4), (5, .int l5), (6, .int l6)] → W p l e rm_X6_days s m ([.ref aM, .int l1, .int l2, .int l3] : List Value).toArray below meth c H locs 0 0 Q (F0 m 53 ls [])) →  ∀ (fu : Nat) (l7 : Int32) (l8 : Int32) (l9 : Int32), F_X6_days_79 k53 M_beings M_seedNow M_rows l1 l3 l4 l5 fu l7 l8 l9 = some (rv, M_seedNow') → ∀ (H : Heap) (locs : List Loc), va_P (dC, dI) vwCl [(aM, .inr (6, [.ref aM_page, .int M_pageMany, .ref aM_readDeeds, .int M_readMany, .int M_readBase, .int M_state, .int M_beings, .int M_number, .int M_deedsDone, .ref aM_rows, .ref aM_far, .ref aM_firsts, .ref aM_line, .int M_lined, .int M_toldMany, .ref aM_toldRows, .ref aM_parts, .int M_seedNow, .int M_keptNumber, .int M_keptBeings, .int M_keptDeeds, .int M_keptTold, .ref aM_keptToldRows, .long M_hash])), (aM_rows, .inl (cI, 20, .inl M_rows))] H → va_D A [(aM, .inr (6, [.ref aM_page, .int M_pageMany, .ref aM_readDeeds, .int M_readMany, .int M_readBase, .int M_state, .int M_beings, .int M_number, .int M_deedsDone, .ref aM_rows, .ref aM_far, .ref aM_firsts, .ref aM_line, .int M_lined, .int M_toldMany, .ref aM_toldRows, .ref aM_parts, .int M_seedNow, .int M_keptNumber, .int M_keptBeings, .int M_keptDeeds, .int M_keptTold, .ref aM_keptToldRows, .long M_hash])), (aM_rows, .inl (cI, 20, .inl M_rows))] → va_S A s.heap H locs → ∀ ls : Array Slot, lv_has ls 11 [(0, .ref aM), (1, .int l1), (3, .int l3), (4, .int l4), (5, .int l5), (7, .int l7), (8, .int l8), (9, .int l9)] → W p l e rm_X6_days s m ([.ref aM, .int l1, .int l2, .int l3] : List Value).toArray below meth c H locs 0 0 Q (F0 m 79 ls []) := by
    intro M_seedNow l4 l5 k53 hk53 fu
    induction fu with
    | zero =>
      intro l7 l8 l9 hf
      exact nomatch (show (none : Option (Int32 × Int32)) = some (rv, M_seedNow') from hf)
    | succ fu ih =>
      intro l7 l8 l9 hf H locs hP hD hS ls hl
      have hf := (F_X6_days_79.eq_2 _ _ _ _ _ _ _ _ _ _ _ _).symm.trans hf
      refine lv_iload hx hb dX6_days_79 (lv_at hl 7 rfl) ?_
      refine lv_bipush (v := 45) hx hb dX6_days_81 (by decide) ?_
      refine lv_icmp_ge (tgt := 151) hx hb dX6_days_83 (by decide) (fun c4 => ?_) (fun c4 => ?_)
      · have hf := sw_ip c4 hf
        refine lv_iload hx hb dX6_days_151 (lv_at hl 6 rfl) ?_
        refine lv_istore (lv' := [(4, .int l8), (0, .ref aM), (1, .int l1), (3, .int l3), (5, .int l5), (7, .int l7), (8, .int l8), (9, .int l9)]) hx hb dX6_days_153 hl (by decide) rfl (fun ls hl => ?_)
        refine lv_iinc (v := l5 + (1 : Int32)) (lv' := [(5, .int (l5 + (1 : Int32))), (4, .int l8), (0, .ref aM), (1, .int l1), (3, .int l3), (7, .int l7), (8, .int l8), (9, .int l9)]) hx hb dX6_days_155 hl (k := 4) rfl (sw_ii _) (by decide) rfl (fun ls hl => ?_)
        refine lv_aload_n hx hb dX6_days_158 rfl (lv_at hl 2 rfl) ?_
        refine lv_iload hx hb dX6_days_159 (lv_at hl 1 rfl) ?_
        obtain ⟨q1, hq1, hf⟩ := sw_bs hf
        have hPc := hP.sub (ws' := [(aM, .inr (6, [.ref aM_page, .int M_pageMany, .ref aM_readDeeds, .int M_readMany, .int M_readBase, .int M_state, .int M_beings, .int M_number, .int M_deedsDone, .ref aM_rows, .ref aM_far, .ref aM_firsts, .ref aM_line, .int M_lined, .int M_toldMany, .ref aM_toldRows, .ref aM_parts, .int M_seedNow, .int M_keptNumber, .int M_keptBeings, .int M_keptDeeds, .int M_keptTold, .ref aM_keptToldRows, .long M_hash])), (aM_rows, .inl (cI, 20, .inl M_rows))]) [0, 1] rfl
        refine sw_rd (W.runV (As := [.int l8]) (rest := []) ⟨hx, hb, hml, hown, hts⟩ (k_X6_mayMany l dC dI cI cZ t0 aM aM_page aM_readDeeds aM_rows aM_far aM_firsts aM_line aM_toldRows aM_parts aM_keptToldRows M_pageMany M_readMany M_readBase M_state M_beings M_number M_deedsDone M_lined M_toldMany M_seedNow M_keptNumber M_keptBeings M_keptDeeds M_keptTold M_hash M_rows l8 q1 hq1) (cwV 1 hts gX6_days_X6_mayMany rfl rfl rfl (by decide +kernel) ⟨Nat.le_of_ble_eq_true rfl, Nat.le_of_ble_eq_true rfl⟩) ⟨sw_PR_bl, va_recv hK hPc (ci := 6) (q0 := 0) rfl rfl, sw_PR_pre hK hPc hE hS⟩ rfl rfl hl.1 rfl (lv_room (Nat.le_of_ble_eq_true rfl)) dX6_days_161 ⟨Nat.zero_le _, Nat.zero_le _⟩) ?_
        refine lv_istore (lv' := [(6, .int q1), (5, .int (l5 + (1 : Int32))), (4, .int l8), (0, .ref aM), (1, .int l1), (3, .int l3), (7, .int l7), (8, .int l8), (9, .int l9)]) hx hb dX6_days_164 hl (by decide) rfl (fun ls hl => ?_)
        refine lv_goto (tgt := 53) hx hb dX6_days_166 (by decide) ?_
        exact hk53 M_seedNow l8 (l5 + (1 : Int32)) q1 hf H locs hP hD hS ls (lv_sub hl [3, 4, 5, 2, 1, 0] rfl)
      · have hf := sw_in c4 hf
        refine lv_aload_n hx hb dX6_days_86 rfl (lv_at hl 0 rfl) ?_
        refine lv_iload hx hb dX6_days_87 (lv_at hl 7 rfl) ?_
        obtain ⟨q2, hq2, hf⟩ := sw_bs hf
        have hPc := hP.sub (ws' := [(aM, .inr (6, [.ref aM_page, .int M_pageMany, .ref aM_readDeeds, .int M_readMany, .int M_readBase, .int M_state, .int M_beings, .int M_number, .int M_deedsDone, .ref aM_rows, .ref aM_far, .ref aM_firsts, .ref aM_line, .int M_lined, .int M_toldMany, .ref aM_toldRows, .ref aM_parts, .int M_seedNow, .int M_keptNumber, .int M_keptBeings, .int M_keptDeeds, .int M_keptTold, .ref aM_keptToldRows, .long M_hash]))]) [0] rfl
        refine sw_rd (W.runV (As := [.int l9]) (rest := []) ⟨hx, hb, hml, hown, hts⟩ (k_X6_isDeed l dC dI cI cZ t0 aM aM_page aM_readDeeds aM_rows aM_far aM_firsts aM_line aM_toldRows aM_parts aM_keptToldRows M_pageMany M_readMany M_readBase M_state M_beings M_number M_deedsDone M_lined M_toldMany M_seedNow M_keptNumber M_keptBeings M_keptDeeds M_keptTold M_hash l9 q2 hq2) (cwV 1 hts gX6_days_X6_isDeed rfl rfl rfl (by decide +kernel) ⟨Nat.le_of_ble_eq_true rfl, Nat.le_of_ble_eq_true rfl⟩) ⟨sw_PR_bl, va_recv hK hPc (ci := 6) (q0 := 0) rfl rfl, sw_PR_pre hK hPc hE hS⟩ rfl rfl hl.1 rfl (lv_room (Nat.le_of_ble_eq_true rfl)) dX6_days_89 ⟨Nat.zero_le _, Nat.zero_le _⟩) ?_
        refine lv_if_eq (tgt := 106) hx hb dX6_days_92 (by decide) (fun c5 => ?_) (fun c5 => ?_)
        · have hf := sw_ip c5 hf
          refine lv_iconst (v := -1) hx hb dX6_days_106 (by decide) ?_
          exact hB_107 M_seedNow l4 l5 l7 l8 l9 (-1 : Int32) k53 hk53 (F_X6_days_79  k53 M_beings M_seedNow M_rows l1 l3 l4 l5 fu) ih hf H locs hP hD hS ls (lv_sub hl [0, 1, 2, 3, 4, 5, 6, 7] rfl)
        · have hf := sw_in c5 hf
          refine lv_aload_n hx hb dX6_days_95 rfl (lv_at hl 0 rfl) ?_
          refine lv_iload hx hb dX6_days_96 (lv_at hl 3 rfl) ?_
          refine lv_iload hx hb dX6_days_98 (lv_at hl 7 rfl) ?_
          obtain ⟨q3, hq3, hf⟩ := sw_bs hf
          have hPc := hP.sub (ws' := [(aM, .inr (6, [.ref aM_page, .int M_pageMany, .ref aM_readDeeds, .int M_readMany, .int M_readBase, .int M_state, .int M_beings, .int M_number, .int M_deedsDone, .ref aM_rows, .ref aM_far, .ref aM_firsts, .ref aM_line, .int M_lined, .int M_toldMany, .ref aM_toldRows, .ref aM_parts, .int M_seedNow, .int M_keptNumber, .int M_keptBeings, .int M_keptDeeds, .int M_keptTold, .ref aM_keptToldRows, .long M_hash])), (aM_rows, .inl (cI, 20, .inl M_rows))]) [0, 1] rfl
          refine sw_rd (W.runV (As := [.int l4, .int l9]) (rest := []) ⟨hx, hb, hml, hown, hts⟩ (k_X6_done l dC dI cI cZ t0 aM aM_page aM_readDeeds aM_rows aM_far aM_firsts aM_line aM_toldRows aM_parts aM_keptToldRows M_pageMany M_readMany M_readBase M_state M_beings M_number M_deedsDone M_lined M_toldMany M_seedNow M_keptNumber M_keptBeings M_keptDeeds M_keptTold M_hash M_rows l4 l9 q3 hq3) (cwV 2 hts gX6_days_X6_done rfl rfl rfl (by decide +kernel) ⟨Nat.le_of_ble_eq_true rfl, Nat.le_of_ble_eq_true rfl⟩) ⟨sw_PR_bl, va_recv hK hPc (ci := 6) (q0 := 0) rfl rfl, sw_PR_pre hK hPc hE hS⟩ rfl rfl hl.1 rfl (lv_room (Nat.le_of_ble_eq_true rfl)) dX6_days_100 ⟨Nat.zero_le _, Nat.zero_le _⟩) ?_
          refine lv_goto (tgt := 107) hx hb dX6_days_103 (by decide) ?_
          exact hB_107 M_seedNow l4 l5 l7 l8 l9 q3 k53 hk53 (F_X6_days_79  k53 M_beings M_seedNow M_rows l1 l3 l4 l5 fu) ih hf H locs hP hD hS ls (lv_sub hl [0, 1, 2, 3, 4, 5, 6, 7] rfl)
  have hB_169 : ∀ (M_seedNow : Int32) (l4 : Int32) (l5 : Int32), F_X6_days_169 M_seedNow l3 l4 l5 = some (rv, M_seedNow') → ∀ (H : Heap) (locs : List Loc), va_P (dC, dI) vwCl [(aM, .inr (6, [.ref aM_page, .int M_pageMany, .ref aM_readDeeds, .int M_readMany, .int M_readBase, .int M_state, .int M_beings, .int M_number, .int M_deedsDone, .ref aM_rows, .ref aM_far, .ref aM_firsts, .ref aM_line, .int M_lined, .int M_toldMany, .ref aM_toldRows, .ref aM_parts, .int M_seedNow, .int M_keptNumber, .int M_keptBeings, .int M_keptDeeds, .int M_keptTold, .ref aM_keptToldRows, .long M_hash])), (aM_rows, .inl (cI, 20, .inl M_rows))] H → va_D A [(aM, .inr (6, [.ref aM_page, .int M_pageMany, .ref aM_readDeeds, .int M_readMany, .int M_readBase, .int M_state, .int M_beings, .int M_number, .int M_deedsDone, .ref aM_rows, .ref aM_far, .ref aM_firsts, .ref aM_line, .int M_lined, .int M_toldMany, .ref aM_toldRows, .ref aM_parts, .int M_seedNow, .int M_keptNumber, .int M_keptBeings, .int M_keptDeeds, .int M_keptTold, .ref aM_keptToldRows, .long M_hash])), (aM_rows, .inl (cI, 20, .inl M_rows))] → va_S A s.heap H locs → ∀ ls : Array Slot, lv_has ls 11 [(0, .ref aM), (3, .int l3), (4, .int l4), (5, .int l5)] → W p l e rm_X6_days s m ([.ref aM, .int l1, .int l2, .int l3] : List Value).toArray below meth c H locs 0 0 Q (F0 m 169 ls []) := by
    intro M_seedNow l4 l5  hf H locs hP hD hS ls hl
    have hf := (F_X6_days_169.eq_1 _ _ _ _).symm.trans hf
    refine lv_iload_n hx hb dX6_days_169 rfl (lv_at hl 1 rfl) ?_
    refine lv_if_ne (tgt := 178) hx hb dX6_days_170 (by decide) (fun c6 => ?_) (fun c6 => ?_)
    · have hf := sw_in c6 hf
      refine lv_iload_n hx hb dX6_days_178 rfl (lv_at hl 1 rfl) ?_
      refine lv_iconst (v := 1) hx hb dX6_days_179 (by decide) ?_
      refine lv_icmp_ne (tgt := 188) hx hb dX6_days_180 (by decide) (fun c7 => ?_) (fun c7 => ?_)
      · have hf := sw_in c7 hf
        refine lv_aload_n hx hb dX6_days_188 rfl (lv_at hl 0 rfl) ?_
        refine va_get (D := (dC, dI)) (ci := 6) (v := .int M_seedNow) (C := RX6) (T := TX6) (N := 24) hx hb hts iX6 hown hK hP 0 rfl rfl 17 (by decide) hw3 (fun _ h9 => h9) rfl dX6_days_189 ?_
        subst hQ hAe
        cases hf
        exact W.iret hx hb hr (fun t ht hW => ⟨⟨_, (), rfl, rfl, ⟨by rw [ht]; exact hP, va_K.moved hW.alike hK, hD⟩⟩, hS.F ht⟩) hS.2.2 dX6_days_192 hlocks
      · have hf := sw_ip c7 hf
        refine lv_iload hx hb dX6_days_183 (lv_at hl 3 rfl) ?_
        refine lv_goto (tgt := 192) hx hb dX6_days_185 (by decide) ?_
        subst hQ hAe
        cases hf
        exact W.iret hx hb hr (fun t ht hW => ⟨⟨_, (), rfl, rfl, ⟨by rw [ht]; exact hP, va_K.moved hW.alike hK, hD⟩⟩, hS.F ht⟩) hS.2.2 dX6_days_192 hlocks
    · have hf := sw_ip c6 hf
      refine lv_iload hx hb dX6_days_173 (lv_at hl 2 rfl) ?_
      refine lv_goto (tgt := 192) hx hb dX6_days_175 (by decide) ?_
      subst hQ hAe
      cases hf
      exact W.iret hx hb hr (fun t ht hW => ⟨⟨_, (), rfl, rfl, ⟨by rw [ht]; exact hP, va_K.moved hW.alike hK, hD⟩⟩, hS.F ht⟩) hS.2.2 dX6_days_192 hlocks
  have hB_53 :  ∀ (fu : Nat) (M_seedNow : Int32) (l4 : Int32) (l5 : Int32) (l6 : Int32), F_X6_days_53 M_beings M_rows l1 l3 fu M_seedNow l4 l5 l6 = some (rv, M_seedNow') → ∀ (H : Heap) (locs : List Loc), va_P (dC, dI) vwCl [(aM, .inr (6, [.ref aM_page, .int M_pageMany, .ref aM_readDeeds, .int M_readMany, .int M_readBase, .int M_state, .int M_beings, .int M_number, .int M_deedsDone, .ref aM_rows, .ref aM_far, .ref aM_firsts, .ref aM_line, .int M_lined, .int M_toldMany, .ref aM_toldRows, .ref aM_parts, .int M_seedNow, .int M_keptNumber, .int M_keptBeings, .int M_keptDeeds, .int M_keptTold, .ref aM_keptToldRows, .long M_hash])), (aM_rows, .inl (cI, 20, .inl M_rows))] H → va_D A [(aM, .inr (6, [.ref aM_page, .int M_pageMany, .ref aM_readDeeds, .int M_readMany, .int M_readBase, .int M_state, .int M_beings, .int M_number, .int M_deedsDone, .ref aM_rows, .ref aM_far, .ref aM_firsts, .ref aM_line, .int M_lined, .int M_toldMany, .ref aM_toldRows, .ref aM_parts, .int M_seedNow, .int M_keptNumber, .int M_keptBeings, .int M_keptDeeds, .int M_keptTold, .ref aM_keptToldRows, .long M_hash])), (aM_rows, .inl (cI, 20, .inl M_rows))] → va_S A s.heap H locs → ∀ ls : Array Slot, lv_has ls 11 [(0, .ref aM), (1, .int l1), (3, .int l3), (4, .int l4), (5, .int l5), (6, .int l6)] → W p l e rm_X6_days s m ([.ref aM, .int l1, .int l2, .int l3] : List Value).toArray below meth c H locs 0 0 Q (F0 m 53 ls []) := by
    intro   fu
    induction fu with
    | zero =>
      intro M_seedNow l4 l5 l6 hf
      exact nomatch (show (none : Option (Int32 × Int32)) = some (rv, M_seedNow') from hf)
    | succ fu ih =>
      intro M_seedNow l4 l5 l6 hf H locs hP hD hS ls hl
      have hf := (F_X6_days_53.eq_2 _ _ _ _ _ _ _ _ _).symm.trans hf
      refine lv_iload hx hb dX6_days_53 (lv_at hl 4 rfl) ?_
      refine lv_iload_n hx hb dX6_days_55 rfl (lv_at hl 1 rfl) ?_
      refine lv_icmp_ge (tgt := 169) hx hb dX6_days_56 (by decide) (fun c8 => ?_) (fun c8 => ?_)
      · have hf := sw_ip c8 hf
        exact hB_169 M_seedNow l4 l5  hf H locs hP hD hS ls (lv_sub hl [0, 2, 3, 4] rfl)
      · have hf := sw_in c8 hf
        refine lv_iload hx hb dX6_days_59 (lv_at hl 5 rfl) ?_
        refine lv_if_le (tgt := 169) hx hb dX6_days_61 (by decide) (fun c9 => ?_) (fun c9 => ?_)
        · have hf := sw_ip c9 hf
          exact hB_169 M_seedNow l4 l5  hf H locs hP hD hS ls (lv_sub hl [0, 2, 3, 4] rfl)
        · have hf := sw_in c9 hf
          refine lv_aload_n hx hb dX6_days_64 rfl (lv_at hl 0 rfl) ?_
          refine lv_iload hx hb dX6_days_65 (lv_at hl 5 rfl) ?_
          obtain ⟨q4, hq4, hf⟩ := sw_bs hf
          have hPc := hP.sub (ws' := [(aM, .inr (6, [.ref aM_page, .int M_pageMany, .ref aM_readDeeds, .int M_readMany, .int M_readBase, .int M_state, .int M_beings, .int M_number, .int M_deedsDone, .ref aM_rows, .ref aM_far, .ref aM_firsts, .ref aM_line, .int M_lined, .int M_toldMany, .ref aM_toldRows, .ref aM_parts, .int M_seedNow, .int M_keptNumber, .int M_keptBeings, .int M_keptDeeds, .int M_keptTold, .ref aM_keptToldRows, .long M_hash]))]) [0] rfl
          have hDc := hD.sub (ws' := [(aM, .inr (6, [.ref aM_page, .int M_pageMany, .ref aM_readDeeds, .int M_readMany, .int M_readBase, .int M_state, .int M_beings, .int M_number, .int M_deedsDone, .ref aM_rows, .ref aM_far, .ref aM_firsts, .ref aM_line, .int M_lined, .int M_toldMany, .ref aM_toldRows, .ref aM_parts, .int M_seedNow, .int M_keptNumber, .int M_keptBeings, .int M_keptDeeds, .int M_keptTold, .ref aM_keptToldRows, .long M_hash]))]) [0] (by decide) rfl
          have hFc := va_free (wc := [(aM, .inr (6, [.ref aM_page, .int M_pageMany, .ref aM_readDeeds, .int M_readMany, .int M_readBase, .int M_state, .int M_beings, .int M_number, .int M_deedsDone, .ref aM_rows, .ref aM_far, .ref aM_firsts, .ref aM_line, .int M_lined, .int M_toldMany, .ref aM_toldRows, .ref aM_parts, .int M_seedNow, .int M_keptNumber, .int M_keptBeings, .int M_keptDeeds, .int M_keptTold, .ref aM_keptToldRows, .long M_hash]))]) hD hS hA [0] rfl
          refine sw_wi (wn := [(aM, .inr (6, [.ref aM_page, .int M_pageMany, .ref aM_readDeeds, .int M_readMany, .int M_readBase, .int M_state, .int M_beings, .int M_number, .int M_deedsDone, .ref aM_rows, .ref aM_far, .ref aM_firsts, .ref aM_line, .int M_lined, .int M_toldMany, .ref aM_toldRows, .ref aM_parts, .int q4.2, .int M_keptNumber, .int M_keptBeings, .int M_keptDeeds, .int M_keptTold, .ref aM_keptToldRows, .long M_hash])), (aM_rows, .inl (cI, 20, .inl M_rows))]) (w1 := [(aM, .inr (6, [.ref aM_page, .int M_pageMany, .ref aM_readDeeds, .int M_readMany, .int M_readBase, .int M_state, .int M_beings, .int M_number, .int M_deedsDone, .ref aM_rows, .ref aM_far, .ref aM_firsts, .ref aM_line, .int M_lined, .int M_toldMany, .ref aM_toldRows, .ref aM_parts, .int q4.2, .int M_keptNumber, .int M_keptBeings, .int M_keptDeeds, .int M_keptTold, .ref aM_keptToldRows, .long M_hash]))]) (wr := [(aM_rows, .inl (cI, 20, .inl M_rows))]) (va_runV (As := [.int l6]) (rest := []) ⟨hx, hb, hml, hown, hts⟩ (k_X6_draw l dC dI cI cZ t0 H.size aM aM_page aM_readDeeds aM_rows aM_far aM_firsts aM_line aM_toldRows aM_parts aM_keptToldRows M_pageMany M_readMany M_readBase M_state M_beings M_number M_deedsDone M_lined M_toldMany M_seedNow M_keptNumber M_keptBeings M_keptDeeds M_keptTold M_hash l6 q4.1 q4.2 hq4) (cwV 1 hts gX6_days_X6_draw rfl rfl rfl (by decide +kernel) ⟨Nat.le_of_ble_eq_true rfl, Nat.le_of_ble_eq_true rfl⟩) ⟨sw_PW_bl, va_recv hK hPc (ci := 6) (q0 := 0) rfl rfl, sw_PW_pre hK hPc hDc hE hS hFc⟩ rfl rfl hl.1 rfl (lv_room (Nat.le_of_ble_eq_true rfl)) dX6_days_67 ⟨Nat.zero_le _, Nat.zero_le _⟩) hS hP hD hFc [0] [1] [1, 0] rfl rfl (by decide) (by decide) (by decide) rfl (fun H locs hP hD hS => ?_)
          refine lv_istore (lv' := [(7, .int q4.1), (0, .ref aM), (1, .int l1), (3, .int l3), (4, .int l4), (5, .int l5), (6, .int l6)]) hx hb dX6_days_70 hl (by decide) rfl (fun ls hl => ?_)
          refine lv_iload hx hb dX6_days_72 (lv_at hl 4 rfl) ?_
          refine lv_istore (lv' := [(8, .int l4), (7, .int q4.1), (0, .ref aM), (1, .int l1), (3, .int l3), (4, .int l4), (5, .int l5), (6, .int l6)]) hx hb dX6_days_74 hl (by decide) rfl (fun ls hl => ?_)
          refine lv_iconst (v := 0) hx hb dX6_days_76 (by decide) ?_
          refine lv_istore (lv' := [(9, .int (0 : Int32)), (8, .int l4), (7, .int q4.1), (0, .ref aM), (1, .int l1), (3, .int l3), (4, .int l4), (5, .int l5), (6, .int l6)]) hx hb dX6_days_77 hl (by decide) rfl (fun ls hl => ?_)
          exact hB_79 q4.2 l4 l5 (F_X6_days_53  M_beings M_rows l1 l3 fu) ih sw_fu q4.1 l4 (0 : Int32) hf H locs hP hD hS ls (lv_sub hl [3, 4, 5, 6, 7, 2, 1, 0] rfl)
  have hf := hf0
  have hl := hl0
  have hP := hP0
  have hD := hD0
  have hS := hS0
  obtain ⟨H, hH⟩ : ∃ H, H = s.heap := ⟨_, rfl⟩
  obtain ⟨locs, hlo⟩ : ∃ locs : List Loc, locs = [] := ⟨_, rfl⟩
  rw [← hH] at hP
  have hS : va_S A s.heap H locs := by rw [hH, hlo]; exact hS0
  suffices hgo : W p l e rm_X6_days s m ([.ref aM, .int l1, .int l2, .int l3] : List Value).toArray below meth c H locs 0 0 Q (F0 m 0 ls []) by rw [hH, hlo] at hgo; exact hgo
  refine lv_iload_n hx hb dX6_days_0 rfl (lv_at hl 1 rfl) ?_
  refine lv_i2l (v := (l1).toInt64) hx hb dX6_days_1 rfl ?_
  refine lv_lconst (v := 1) hx hb dX6_days_2 (by decide) ?_
  refine lv_ldc2 (v := 60) hx hb hown hw1 dX6_days_3 ?_
  obtain ⟨q5, hq5, hf⟩ := sw_bs hf
  have hPc := hP.sub (ws' := []) [] rfl
  refine sw_rd (W.runS (As := [.long ((l1).toInt64), .long (1 : Int64), .long (60 : Int64)]) (rest := []) ⟨hx, hb, hml, hown, hts⟩ (k_X6_in l dC dI cI cZ t0 ((l1).toInt64) (1 : Int64) (60 : Int64) q5 hq5) (va_cwS 3 hts gX6_days_X6_in rfl rfl rfl (by decide +kernel) ⟨Nat.le_of_ble_eq_true rfl, Nat.le_of_ble_eq_true rfl⟩) ⟨sw_PR_bl, sw_PR_pre hK hPc hE hS⟩ rfl rfl hl.1 rfl (lv_room (Nat.le_of_ble_eq_true rfl)) dX6_days_6 ⟨Nat.zero_le _, Nat.zero_le _⟩) ?_
  refine lv_if_eq (tgt := 28) hx hb dX6_days_9 (by decide) (fun c10 => ?_) (fun c10 => ?_)
  · have hf := sw_ip c10 hf
    refine lv_bipush (v := -102) hx hb dX6_days_28 (by decide) ?_
    subst hQ hAe
    cases hf
    exact W.iret hx hb hr (fun t ht hW => ⟨⟨_, (), rfl, rfl, ⟨by rw [ht]; exact hP, va_K.moved hW.alike hK, hD⟩⟩, hS.F ht⟩) hS.2.2 dX6_days_30 hlocks
  · have hf := sw_in c10 hf
    refine lv_iload_n hx hb dX6_days_12 rfl (lv_at hl 2 rfl) ?_
    refine lv_if_lt (tgt := 28) hx hb dX6_days_13 (by decide) (fun c11 => ?_) (fun c11 => ?_)
    · have hf := sw_ip c11 hf
      refine lv_bipush (v := -102) hx hb dX6_days_28 (by decide) ?_
      subst hQ hAe
      cases hf
      exact W.iret hx hb hr (fun t ht hW => ⟨⟨_, (), rfl, rfl, ⟨by rw [ht]; exact hP, va_K.moved hW.alike hK, hD⟩⟩, hS.F ht⟩) hS.2.2 dX6_days_30 hlocks
    · have hf := sw_in c11 hf
      refine lv_iload_n hx hb dX6_days_16 rfl (lv_at hl 3 rfl) ?_
      refine lv_i2l (v := (l3).toInt64) hx hb dX6_days_17 rfl ?_
      refine lv_lconst (v := 0) hx hb dX6_days_18 (by decide) ?_
      refine lv_ldc2 (v := 2) hx hb hown hw2 dX6_days_19 ?_
      obtain ⟨q6, hq6, hf⟩ := sw_bs hf
      have hPc := hP.sub (ws' := []) [] rfl
      refine sw_rd (W.runS (As := [.long ((l3).toInt64), .long (0 : Int64), .long (2 : Int64)]) (rest := []) ⟨hx, hb, hml, hown, hts⟩ (k_X6_in l dC dI cI cZ t0 ((l3).toInt64) (0 : Int64) (2 : Int64) q6 hq6) (va_cwS 3 hts gX6_days_X6_in rfl rfl rfl (by decide +kernel) ⟨Nat.le_of_ble_eq_true rfl, Nat.le_of_ble_eq_true rfl⟩) ⟨sw_PR_bl, sw_PR_pre hK hPc hE hS⟩ rfl rfl hl.1 rfl (lv_room (Nat.le_of_ble_eq_true rfl)) dX6_days_22 ⟨Nat.zero_le _, Nat.zero_le _⟩) ?_
      refine lv_if_ne (tgt := 31) hx hb dX6_days_25 (by decide) (fun c12 => ?_) (fun c12 => ?_)
      · have hf := sw_in c12 hf
        refine lv_aload_n hx hb dX6_days_31 rfl (lv_at hl 0 rfl) ?_
        refine lv_iload_n hx hb dX6_days_32 rfl (lv_at hl 2 rfl) ?_
        refine va_put (D := (dC, dI)) (ci := 6) (v := .int l2) (ty := .int) (C := RX6) (T := TX6) (N := 24) hx hb hts iX6 tyX6 tyX6_ok nmX6 hown hK hP hD hS 0 rfl rfl 17 (by decide) hw3 (fun _ h9 => h9) rfl (by decide +kernel) rfl rfl (Nat.le_of_ble_eq_true rfl) dX6_days_33 (fun H locs hP hD hS => ?_)
        have hP : va_P (dC, dI) vwCl [(aM, .inr (6, [.ref aM_page, .int M_pageMany, .ref aM_readDeeds, .int M_readMany, .int M_readBase, .int M_state, .int M_beings, .int M_number, .int M_deedsDone, .ref aM_rows, .ref aM_far, .ref aM_firsts, .ref aM_line, .int M_lined, .int M_toldMany, .ref aM_toldRows, .ref aM_parts, .int l2, .int M_keptNumber, .int M_keptBeings, .int M_keptDeeds, .int M_keptTold, .ref aM_keptToldRows, .long M_hash])), (aM_rows, .inl (cI, 20, .inl M_rows))] H := hP
        have hD : va_D A [(aM, .inr (6, [.ref aM_page, .int M_pageMany, .ref aM_readDeeds, .int M_readMany, .int M_readBase, .int M_state, .int M_beings, .int M_number, .int M_deedsDone, .ref aM_rows, .ref aM_far, .ref aM_firsts, .ref aM_line, .int M_lined, .int M_toldMany, .ref aM_toldRows, .ref aM_parts, .int l2, .int M_keptNumber, .int M_keptBeings, .int M_keptDeeds, .int M_keptTold, .ref aM_keptToldRows, .long M_hash])), (aM_rows, .inl (cI, 20, .inl M_rows))] := hD
        refine lv_aload_n hx hb dX6_days_36 rfl (lv_at hl 0 rfl) ?_
        refine va_get (D := (dC, dI)) (ci := 6) (v := .int M_number) (C := RX6) (T := TX6) (N := 24) hx hb hts iX6 hown hK hP 0 rfl rfl 7 (by decide) hw4 (fun _ h9 => h9) rfl dX6_days_37 ?_
        refine lv_istore (lv' := [(4, .int M_number), (0, .ref aM), (1, .int l1), (2, .int l2), (3, .int l3)]) hx hb dX6_days_40 hl (by decide) rfl (fun ls hl => ?_)
        refine lv_iconst (v := 0) hx hb dX6_days_42 (by decide) ?_
        refine lv_istore (lv' := [(5, .int (0 : Int32)), (4, .int M_number), (0, .ref aM), (1, .int l1), (2, .int l2), (3, .int l3)]) hx hb dX6_days_43 hl (by decide) rfl (fun ls hl => ?_)
        refine lv_aload_n hx hb dX6_days_45 rfl (lv_at hl 2 rfl) ?_
        refine lv_iload hx hb dX6_days_46 (lv_at hl 1 rfl) ?_
        obtain ⟨q7, hq7, hf⟩ := sw_bs hf
        have hPc := hP.sub (ws' := [(aM, .inr (6, [.ref aM_page, .int M_pageMany, .ref aM_readDeeds, .int M_readMany, .int M_readBase, .int M_state, .int M_beings, .int M_number, .int M_deedsDone, .ref aM_rows, .ref aM_far, .ref aM_firsts, .ref aM_line, .int M_lined, .int M_toldMany, .ref aM_toldRows, .ref aM_parts, .int l2, .int M_keptNumber, .int M_keptBeings, .int M_keptDeeds, .int M_keptTold, .ref aM_keptToldRows, .long M_hash])), (aM_rows, .inl (cI, 20, .inl M_rows))]) [0, 1] rfl
        refine sw_rd (W.runV (As := [.int M_number]) (rest := []) ⟨hx, hb, hml, hown, hts⟩ (k_X6_mayMany l dC dI cI cZ t0 aM aM_page aM_readDeeds aM_rows aM_far aM_firsts aM_line aM_toldRows aM_parts aM_keptToldRows M_pageMany M_readMany M_readBase M_state M_beings M_number M_deedsDone M_lined M_toldMany l2 M_keptNumber M_keptBeings M_keptDeeds M_keptTold M_hash M_rows M_number q7 hq7) (cwV 1 hts gX6_days_X6_mayMany rfl rfl rfl (by decide +kernel) ⟨Nat.le_of_ble_eq_true rfl, Nat.le_of_ble_eq_true rfl⟩) ⟨sw_PR_bl, va_recv hK hPc (ci := 6) (q0 := 0) rfl rfl, sw_PR_pre hK hPc hE hS⟩ rfl rfl hl.1 rfl (lv_room (Nat.le_of_ble_eq_true rfl)) dX6_days_48 ⟨Nat.zero_le _, Nat.zero_le _⟩) ?_
        refine lv_istore (lv' := [(6, .int q7), (5, .int (0 : Int32)), (4, .int M_number), (0, .ref aM), (1, .int l1), (2, .int l2), (3, .int l3)]) hx hb dX6_days_51 hl (by decide) rfl (fun ls hl => ?_)
        exact hB_53   sw_fu l2 M_number (0 : Int32) q7 hf H locs hP hD hS ls (lv_sub hl [3, 4, 6, 2, 1, 0] rfl)
      · have hf := sw_ip c12 hf
        refine lv_bipush (v := -102) hx hb dX6_days_28 (by decide) ?_
        subst hQ hAe
        cases hf
        exact W.iret hx hb hr (fun t ht hW => ⟨⟨_, (), rfl, rfl, ⟨by rw [ht]; exact hP, va_K.moved hW.alike hK, hD⟩⟩, hS.F ht⟩) hS.2.2 dX6_days_30 hlocks
