abbrev rm_X6_deed : Room := { frames := 5, cells := 0, slots := 0, locals := 119 }
set_option maxHeartbeats 1000000 in
set_option maxRecDepth 100000 in
theorem k_X6_deed (l : Launch) (dC : Nat → ClassId) (dI : Nat → Nat → Nat) (cI cZ : ClassId) (t0 : Nat) (sz : Nat) (aM aM_page aM_readDeeds aM_rows aM_far aM_firsts aM_line aM_toldRows aM_parts aM_keptToldRows : Nat) (M_pageMany : Int32) (M_readMany : Int32) (M_readBase : Int32) (M_state : Int32) (M_beings : Int32) (M_number : Int32) (M_deedsDone : Int32) (M_lined : Int32) (M_toldMany : Int32) (M_seedNow : Int32) (M_keptNumber : Int32) (M_keptBeings : Int32) (M_keptDeeds : Int32) (M_keptTold : Int32) (M_hash : Int64) (M_rows : Nat → Int32) (l1 : Int32) (rv : Int32) (M_number' : Int32) (M_deedsDone' : Int32) (hf : F_X6_deed M_beings M_number M_deedsDone M_rows l1 = some (rv, M_number', M_deedsDone')) : Met l yX6_deed wsX6_deed rm_X6_deed (sw_PW (dC, dI) t0 [(cI, .int), (cZ, .boolean)] [.ref aM, .int l1] [(aM, .inr (6, [.ref aM_page, .int M_pageMany, .ref aM_readDeeds, .int M_readMany, .int M_readBase, .int M_state, .int M_beings, .int M_number, .int M_deedsDone, .ref aM_rows, .ref aM_far, .ref aM_firsts, .ref aM_line, .int M_lined, .int M_toldMany, .ref aM_toldRows, .ref aM_parts, .int M_seedNow, .int M_keptNumber, .int M_keptBeings, .int M_keptDeeds, .int M_keptTold, .ref aM_keptToldRows, .long M_hash])), (aM_rows, .inl (cI, 20, .inl M_rows))] sz) (va_Qi (fun r (_ : Unit) => r = rv) (fun _ t => sw_B (dC, dI) [(cI, .int), (cZ, .boolean)] [(aM, .inr (6, [.ref aM_page, .int M_pageMany, .ref aM_readDeeds, .int M_readMany, .int M_readBase, .int M_state, .int M_beings, .int M_number', .int M_deedsDone', .ref aM_rows, .ref aM_far, .ref aM_firsts, .ref aM_line, .int M_lined, .int M_toldMany, .ref aM_toldRows, .ref aM_parts, .int M_seedNow, .int M_keptNumber, .int M_keptBeings, .int M_keptDeeds, .int M_keptTold, .ref aM_keptToldRows, .long M_hash])), (aM_rows, .inl (cI, 20, .inl M_rows))] (va_A [(aM, .inr (6, [.ref aM_page, .int M_pageMany, .ref aM_readDeeds, .int M_readMany, .int M_readBase, .int M_state, .int M_beings, .int M_number, .int M_deedsDone, .ref aM_rows, .ref aM_far, .ref aM_firsts, .ref aM_line, .int M_lined, .int M_toldMany, .ref aM_toldRows, .ref aM_parts, .int M_seedNow, .int M_keptNumber, .int M_keptBeings, .int M_keptDeeds, .int M_keptTold, .ref aM_keptToldRows, .long M_hash])), (aM_rows, .inl (cI, 20, .inl M_rows))] sz) t) (va_A [(aM, .inr (6, [.ref aM_page, .int M_pageMany, .ref aM_readDeeds, .int M_readMany, .int M_readBase, .int M_state, .int M_beings, .int M_number, .int M_deedsDone, .ref aM_rows, .ref aM_far, .ref aM_firsts, .ref aM_line, .int M_lined, .int M_toldMany, .ref aM_toldRows, .ref aM_parts, .int M_seedNow, .int M_keptNumber, .int M_keptBeings, .int M_keptDeeds, .int M_keptTold, .ref aM_keptToldRows, .long M_hash])), (aM_rows, .inl (cI, 20, .inl M_rows))] sz)) 0 0 (va_A [(aM, .inr (6, [.ref aM_page, .int M_pageMany, .ref aM_readDeeds, .int M_readMany, .int M_readBase, .int M_state, .int M_beings, .int M_number, .int M_deedsDone, .ref aM_rows, .ref aM_far, .ref aM_firsts, .ref aM_line, .int M_lined, .int M_toldMany, .ref aM_toldRows, .ref aM_parts, .int M_seedNow, .int M_keptNumber, .int M_keptBeings, .int M_keptDeeds, .int M_keptTold, .ref aM_keptToldRows, .long M_hash])), (aM_rows, .inl (cI, 20, .inl M_rows))] sz) := by
  refine sw_metW (cc := cX6_deed) (maxL := 3) (ret := (some .int)) (lv := [(0, .ref aM), (1, .int l1)]) (by decide) rfl (Nat.le_of_ble_eq_true rfl) rfl ?_
  intro p e s m below meth c Q A hsz hAe hQ hx hb hr hts hown hlocks hml hmn hP hK hD hE hS hA ls hl
  have hS0 := hS
  have hown : s.vm.findClass RX6 = some m.cls := hown
  have hf := (F_X6_deed.eq_1 _ _ _ _ _).symm.trans hf
  have hw1 := hts (.fieldLink RX6 115 "SwallowedInTurnModel" "number" "I") (List.mem_of_getElem? (i := 1) (by decide +kernel))
  have iX6 : ∀ w ∈ u_ws RX6 TX6 24, w ∈ wsX6_deed := by decide +kernel
  have hw2 := hts (.fieldLink RX6 137 "SwallowedInTurnModel" "deedsDone" "I") (List.mem_of_getElem? (i := 2) (by decide +kernel))
  obtain ⟨H, hH⟩ : ∃ H, H = s.heap := ⟨_, rfl⟩
  obtain ⟨locs, hlo⟩ : ∃ locs : List Loc, locs = [] := ⟨_, rfl⟩
  rw [← hH] at hP
  have hS : va_S A s.heap H locs := by rw [hH, hlo]; exact hS0
  suffices hgo : W p l e rm_X6_deed s m ([.ref aM, .int l1] : List Value).toArray below meth c H locs 0 0 Q (F0 m 0 ls []) by rw [hH, hlo] at hgo; exact hgo
  refine lv_aload_n hx hb dX6_deed_0 rfl (lv_at hl 0 rfl) ?_
  refine lv_iload_n hx hb dX6_deed_1 rfl (lv_at hl 1 rfl) ?_
  obtain ⟨q1, hq1, hf⟩ := sw_bs hf
  have hPc := hP.sub (ws' := [(aM, .inr (6, [.ref aM_page, .int M_pageMany, .ref aM_readDeeds, .int M_readMany, .int M_readBase, .int M_state, .int M_beings, .int M_number, .int M_deedsDone, .ref aM_rows, .ref aM_far, .ref aM_firsts, .ref aM_line, .int M_lined, .int M_toldMany, .ref aM_toldRows, .ref aM_parts, .int M_seedNow, .int M_keptNumber, .int M_keptBeings, .int M_keptDeeds, .int M_keptTold, .ref aM_keptToldRows, .long M_hash]))]) [0] rfl
  refine sw_rd (W.runV (As := [.int l1]) (rest := []) ⟨hx, hb, hml, hown, hts⟩ (k_X6_isDeed l dC dI cI cZ t0 aM aM_page aM_readDeeds aM_rows aM_far aM_firsts aM_line aM_toldRows aM_parts aM_keptToldRows M_pageMany M_readMany M_readBase M_state M_beings M_number M_deedsDone M_lined M_toldMany M_seedNow M_keptNumber M_keptBeings M_keptDeeds M_keptTold M_hash l1 q1 hq1) (cwV 1 hts gX6_deed_X6_isDeed rfl rfl rfl (by decide +kernel) ⟨Nat.le_of_ble_eq_true rfl, Nat.le_of_ble_eq_true rfl⟩) ⟨sw_PR_bl, va_recv hK hPc (ci := 6) (q0 := 0) rfl rfl, sw_PR_pre hK hPc hE hS⟩ rfl rfl hl.1 rfl (lv_room (Nat.le_of_ble_eq_true rfl)) dX6_deed_2 ⟨Nat.zero_le _, Nat.zero_le _⟩) ?_
  refine lv_if_ne (tgt := 11) hx hb dX6_deed_5 (by decide) (fun c1 => ?_) (fun c1 => ?_)
  · have hf := sw_in c1 hf
    refine lv_aload_n hx hb dX6_deed_11 rfl (lv_at hl 0 rfl) ?_
    refine lv_aload_n hx hb dX6_deed_12 rfl (lv_at hl 0 rfl) ?_
    refine va_get (D := (dC, dI)) (ci := 6) (v := .int M_number) (C := RX6) (T := TX6) (N := 24) hx hb hts iX6 hown hK hP 0 rfl rfl 7 (by decide) hw1 (fun _ h9 => h9) rfl dX6_deed_13 ?_
    refine lv_iload_n hx hb dX6_deed_16 rfl (lv_at hl 1 rfl) ?_
    obtain ⟨q2, hq2, hf⟩ := sw_bs hf
    have hPc := hP.sub (ws' := [(aM, .inr (6, [.ref aM_page, .int M_pageMany, .ref aM_readDeeds, .int M_readMany, .int M_readBase, .int M_state, .int M_beings, .int M_number, .int M_deedsDone, .ref aM_rows, .ref aM_far, .ref aM_firsts, .ref aM_line, .int M_lined, .int M_toldMany, .ref aM_toldRows, .ref aM_parts, .int M_seedNow, .int M_keptNumber, .int M_keptBeings, .int M_keptDeeds, .int M_keptTold, .ref aM_keptToldRows, .long M_hash])), (aM_rows, .inl (cI, 20, .inl M_rows))]) [0, 1] rfl
    refine sw_rd (W.runV (As := [.int M_number, .int l1]) (rest := []) ⟨hx, hb, hml, hown, hts⟩ (k_X6_done l dC dI cI cZ t0 aM aM_page aM_readDeeds aM_rows aM_far aM_firsts aM_line aM_toldRows aM_parts aM_keptToldRows M_pageMany M_readMany M_readBase M_state M_beings M_number M_deedsDone M_lined M_toldMany M_seedNow M_keptNumber M_keptBeings M_keptDeeds M_keptTold M_hash M_rows M_number l1 q2 hq2) (cwV 2 hts gX6_deed_X6_done rfl rfl rfl (by decide +kernel) ⟨Nat.le_of_ble_eq_true rfl, Nat.le_of_ble_eq_true rfl⟩) ⟨sw_PR_bl, va_recv hK hPc (ci := 6) (q0 := 0) rfl rfl, sw_PR_pre hK hPc hE hS⟩ rfl rfl hl.1 rfl (lv_room (Nat.le_of_ble_eq_true rfl)) dX6_deed_17 ⟨Nat.zero_le _, Nat.zero_le _⟩) ?_
    refine lv_istore_n (lv' := [(2, .int q2), (0, .ref aM), (1, .int l1)]) hx hb dX6_deed_20 rfl hl (by decide) rfl (fun ls hl => ?_)
    refine lv_iload_n hx hb dX6_deed_21 rfl (lv_at hl 0 rfl) ?_
    refine lv_iconst (v := -1) hx hb dX6_deed_22 (by decide) ?_
    refine lv_icmp_ne (tgt := 29) hx hb dX6_deed_23 (by decide) (fun c2 => ?_) (fun c2 => ?_)
    · have hf := sw_in c2 hf
      refine lv_aload_n hx hb dX6_deed_29 rfl (lv_at hl 1 rfl) ?_
      refine lv_iload_n hx hb dX6_deed_30 rfl (lv_at hl 0 rfl) ?_
      refine va_put (D := (dC, dI)) (ci := 6) (v := .int q2) (ty := .int) (C := RX6) (T := TX6) (N := 24) hx hb hts iX6 tyX6 tyX6_ok nmX6 hown hK hP hD hS 0 rfl rfl 7 (by decide) hw1 (fun _ h9 => h9) rfl (by decide +kernel) rfl rfl (Nat.le_of_ble_eq_true rfl) dX6_deed_31 (fun H locs hP hD hS => ?_)
      have hP : va_P (dC, dI) vwCl [(aM, .inr (6, [.ref aM_page, .int M_pageMany, .ref aM_readDeeds, .int M_readMany, .int M_readBase, .int M_state, .int M_beings, .int q2, .int M_deedsDone, .ref aM_rows, .ref aM_far, .ref aM_firsts, .ref aM_line, .int M_lined, .int M_toldMany, .ref aM_toldRows, .ref aM_parts, .int M_seedNow, .int M_keptNumber, .int M_keptBeings, .int M_keptDeeds, .int M_keptTold, .ref aM_keptToldRows, .long M_hash])), (aM_rows, .inl (cI, 20, .inl M_rows))] H := hP
      have hD : va_D A [(aM, .inr (6, [.ref aM_page, .int M_pageMany, .ref aM_readDeeds, .int M_readMany, .int M_readBase, .int M_state, .int M_beings, .int q2, .int M_deedsDone, .ref aM_rows, .ref aM_far, .ref aM_firsts, .ref aM_line, .int M_lined, .int M_toldMany, .ref aM_toldRows, .ref aM_parts, .int M_seedNow, .int M_keptNumber, .int M_keptBeings, .int M_keptDeeds, .int M_keptTold, .ref aM_keptToldRows, .long M_hash])), (aM_rows, .inl (cI, 20, .inl M_rows))] := hD
      refine lv_aload_n hx hb dX6_deed_34 rfl (lv_at hl 1 rfl) ?_
      refine lv_dup hx hb dX6_deed_35 rfl ?_
      refine va_get (D := (dC, dI)) (ci := 6) (v := .int M_deedsDone) (C := RX6) (T := TX6) (N := 24) hx hb hts iX6 hown hK hP 0 rfl rfl 8 (by decide) hw2 (fun _ h9 => h9) rfl dX6_deed_36 ?_
      refine lv_iconst (v := 1) hx hb dX6_deed_39 (by decide) ?_
      refine lv_iadd hx hb dX6_deed_40 ?_
      refine va_put (D := (dC, dI)) (ci := 6) (v := .int (M_deedsDone + (1 : Int32))) (ty := .int) (C := RX6) (T := TX6) (N := 24) hx hb hts iX6 tyX6 tyX6_ok nmX6 hown hK hP hD hS 0 rfl rfl 8 (by decide) hw2 (fun _ h9 => h9) rfl (by decide +kernel) rfl rfl (Nat.le_of_ble_eq_true rfl) dX6_deed_41 (fun H locs hP hD hS => ?_)
      have hP : va_P (dC, dI) vwCl [(aM, .inr (6, [.ref aM_page, .int M_pageMany, .ref aM_readDeeds, .int M_readMany, .int M_readBase, .int M_state, .int M_beings, .int q2, .int (M_deedsDone + (1 : Int32)), .ref aM_rows, .ref aM_far, .ref aM_firsts, .ref aM_line, .int M_lined, .int M_toldMany, .ref aM_toldRows, .ref aM_parts, .int M_seedNow, .int M_keptNumber, .int M_keptBeings, .int M_keptDeeds, .int M_keptTold, .ref aM_keptToldRows, .long M_hash])), (aM_rows, .inl (cI, 20, .inl M_rows))] H := hP
      have hD : va_D A [(aM, .inr (6, [.ref aM_page, .int M_pageMany, .ref aM_readDeeds, .int M_readMany, .int M_readBase, .int M_state, .int M_beings, .int q2, .int (M_deedsDone + (1 : Int32)), .ref aM_rows, .ref aM_far, .ref aM_firsts, .ref aM_line, .int M_lined, .int M_toldMany, .ref aM_toldRows, .ref aM_parts, .int M_seedNow, .int M_keptNumber, .int M_keptBeings, .int M_keptDeeds, .int M_keptTold, .ref aM_keptToldRows, .long M_hash])), (aM_rows, .inl (cI, 20, .inl M_rows))] := hD
      refine lv_aload_n hx hb dX6_deed_44 rfl (lv_at hl 1 rfl) ?_
      refine va_get (D := (dC, dI)) (ci := 6) (v := .int (M_deedsDone + (1 : Int32))) (C := RX6) (T := TX6) (N := 24) hx hb hts iX6 hown hK hP 0 rfl rfl 8 (by decide) hw2 (fun _ h9 => h9) rfl dX6_deed_45 ?_
      subst hQ hAe
      cases hf
      exact W.iret hx hb hr (fun t ht hW => ⟨⟨_, (), rfl, rfl, ⟨by rw [ht]; exact hP, va_K.moved hW.alike hK, hD⟩⟩, hS.F ht⟩) hS.2.2 dX6_deed_48 hlocks
    · have hf := sw_ip c2 hf
      refine lv_bipush (v := -103) hx hb dX6_deed_26 (by decide) ?_
      subst hQ hAe
      cases hf
      exact W.iret hx hb hr (fun t ht hW => ⟨⟨_, (), rfl, rfl, ⟨by rw [ht]; exact hP, va_K.moved hW.alike hK, hD⟩⟩, hS.F ht⟩) hS.2.2 dX6_deed_28 hlocks
  · have hf := sw_ip c1 hf
    refine lv_bipush (v := -101) hx hb dX6_deed_8 (by decide) ?_
    subst hQ hAe
    cases hf
    exact W.iret hx hb hr (fun t ht hW => ⟨⟨_, (), rfl, rfl, ⟨by rw [ht]; exact hP, va_K.moved hW.alike hK, hD⟩⟩, hS.F ht⟩) hS.2.2 dX6_deed_10 hlocks
abbrev rm_X6_number : Room := { frames := 0, cells := 0, slots := 0, locals := 0 }
set_option maxHeartbeats 1000000 in
set_option maxRecDepth 100000 in
theorem k_X6_number (l : Launch) (dC : Nat → ClassId) (dI : Nat → Nat → Nat) (cI cZ : ClassId) (t0 : Nat) (aM aM_page aM_readDeeds aM_rows aM_far aM_firsts aM_line aM_toldRows aM_parts aM_keptToldRows : Nat) (M_pageMany : Int32) (M_readMany : Int32) (M_readBase : Int32) (M_state : Int32) (M_beings : Int32) (M_number : Int32) (M_deedsDone : Int32) (M_lined : Int32) (M_toldMany : Int32) (M_seedNow : Int32) (M_keptNumber : Int32) (M_keptBeings : Int32) (M_keptDeeds : Int32) (M_keptTold : Int32) (M_hash : Int64) (rv : Int32)  (hf : F_X6_number M_number = some (rv)) : Met l yX6_number wsX6_number rm_X6_number (sw_PR (dC, dI) t0 [(cI, .int), (cZ, .boolean)] [.ref aM] [(aM, .inr (6, [.ref aM_page, .int M_pageMany, .ref aM_readDeeds, .int M_readMany, .int M_readBase, .int M_state, .int M_beings, .int M_number, .int M_deedsDone, .ref aM_rows, .ref aM_far, .ref aM_firsts, .ref aM_line, .int M_lined, .int M_toldMany, .ref aM_toldRows, .ref aM_parts, .int M_seedNow, .int M_keptNumber, .int M_keptBeings, .int M_keptDeeds, .int M_keptTold, .ref aM_keptToldRows, .long M_hash]))]) (vp_Si (fun r => r = rv)) 0 0 (fun _ => False) := by
  refine sw_metR (cc := cX6_number) (maxL := 1) (ret := (some .int)) (lv := [(0, .ref aM)]) (by decide) rfl (Nat.le_of_ble_eq_true rfl) rfl ?_
  intro p e s m below meth c Q hQ hx hb hr hts hown hlocks hml hP hK hE hS ls hl
  have hown : s.vm.findClass RX6 = some m.cls := hown
  have hf := (F_X6_number.eq_1 _).symm.trans hf
  have hw1 := hts (.fieldLink RX6 115 "SwallowedInTurnModel" "number" "I") (List.mem_of_getElem? (i := 1) (by decide +kernel))
  have iX6 : ∀ w ∈ u_ws RX6 TX6 24, w ∈ wsX6_number := by decide +kernel
  refine lv_aload_n hx hb dX6_number_0 rfl (lv_at hl 0 rfl) ?_
  refine va_get (D := (dC, dI)) (ci := 6) (v := .int M_number) (C := RX6) (T := TX6) (N := 24) hx hb hts iX6 hown hK hP 0 rfl rfl 7 (by decide) hw1 (fun _ h9 => h9) rfl dX6_number_1 ?_
  subst hQ
  exact W.iret hx hb hr (fun t ht hW => ⟨_, rfl, Option.some.inj hf, ht⟩) (fun _ h => absurd h List.not_mem_nil) dX6_number_4 hlocks
abbrev rm_X6_lay : Room := { frames := 5, cells := 0, slots := 0, locals := 119 }
set_option maxHeartbeats 1000000 in
set_option maxRecDepth 100000 in
theorem k_X6_lay (l : Launch) (dC : Nat → ClassId) (dI : Nat → Nat → Nat) (cI cZ : ClassId) (t0 : Nat) (sz : Nat) (aM aM_page aM_readDeeds aM_rows aM_far aM_firsts aM_line aM_toldRows aM_parts aM_keptToldRows : Nat) (M_pageMany : Int32) (M_readMany : Int32) (M_readBase : Int32) (M_state : Int32) (M_beings : Int32) (M_number : Int32) (M_deedsDone : Int32) (M_lined : Int32) (M_toldMany : Int32) (M_seedNow : Int32) (M_keptNumber : Int32) (M_keptBeings : Int32) (M_keptDeeds : Int32) (M_keptTold : Int32) (M_hash : Int64) (M_rows : Nat → Int32) (M_far : Nat → Int32) (M_firsts : Nat → Int32) (M_line : Nat → Int32) (M_lined' : Int32) (M_far' : Nat → Int32) (M_firsts' : Nat → Int32) (M_line' : Nat → Int32) (hf : F_X6_lay M_beings M_number M_lined M_rows M_far M_firsts M_line = some (M_lined', M_far', M_firsts', M_line')) : Met l yX6_lay wsX6_lay rm_X6_lay (sw_PW (dC, dI) t0 [(cI, .int), (cZ, .boolean)] [.ref aM] [(aM, .inr (6, [.ref aM_page, .int M_pageMany, .ref aM_readDeeds, .int M_readMany, .int M_readBase, .int M_state, .int M_beings, .int M_number, .int M_deedsDone, .ref aM_rows, .ref aM_far, .ref aM_firsts, .ref aM_line, .int M_lined, .int M_toldMany, .ref aM_toldRows, .ref aM_parts, .int M_seedNow, .int M_keptNumber, .int M_keptBeings, .int M_keptDeeds, .int M_keptTold, .ref aM_keptToldRows, .long M_hash])), (aM_rows, .inl (cI, 20, .inl M_rows)), (aM_far, .inl (cI, 7776, .inl M_far)), (aM_firsts, .inl (cI, 7776, .inl M_firsts)), (aM_line, .inl (cI, 7776, .inl M_line))] sz) (va_Qv (fun (_ : Unit) => True) (fun _ t => sw_B (dC, dI) [(cI, .int), (cZ, .boolean)] [(aM, .inr (6, [.ref aM_page, .int M_pageMany, .ref aM_readDeeds, .int M_readMany, .int M_readBase, .int M_state, .int M_beings, .int M_number, .int M_deedsDone, .ref aM_rows, .ref aM_far, .ref aM_firsts, .ref aM_line, .int M_lined', .int M_toldMany, .ref aM_toldRows, .ref aM_parts, .int M_seedNow, .int M_keptNumber, .int M_keptBeings, .int M_keptDeeds, .int M_keptTold, .ref aM_keptToldRows, .long M_hash])), (aM_rows, .inl (cI, 20, .inl M_rows)), (aM_far, .inl (cI, 7776, .inl M_far')), (aM_firsts, .inl (cI, 7776, .inl M_firsts')), (aM_line, .inl (cI, 7776, .inl M_line'))] (va_A [(aM, .inr (6, [.ref aM_page, .int M_pageMany, .ref aM_readDeeds, .int M_readMany, .int M_readBase, .int M_state, .int M_beings, .int M_number, .int M_deedsDone, .ref aM_rows, .ref aM_far, .ref aM_firsts, .ref aM_line, .int M_lined, .int M_toldMany, .ref aM_toldRows, .ref aM_parts, .int M_seedNow, .int M_keptNumber, .int M_keptBeings, .int M_keptDeeds, .int M_keptTold, .ref aM_keptToldRows, .long M_hash])), (aM_rows, .inl (cI, 20, .inl M_rows)), (aM_far, .inl (cI, 7776, .inl M_far)), (aM_firsts, .inl (cI, 7776, .inl M_firsts)), (aM_line, .inl (cI, 7776, .inl M_line))] sz) t) (va_A [(aM, .inr (6, [.ref aM_page, .int M_pageMany, .ref aM_readDeeds, .int M_readMany, .int M_readBase, .int M_state, .int M_beings, .int M_number, .int M_deedsDone, .ref aM_rows, .ref aM_far, .ref aM_firsts, .ref aM_line, .int M_lined, .int M_toldMany, .ref aM_toldRows, .ref aM_parts, .int M_seedNow, .int M_keptNumber, .int M_keptBeings, .int M_keptDeeds, .int M_keptTold, .ref aM_keptToldRows, .long M_hash])), (aM_rows, .inl (cI, 20, .inl M_rows)), (aM_far, .inl (cI, 7776, .inl M_far)), (aM_firsts, .inl (cI, 7776, .inl M_firsts)), (aM_line, .inl (cI, 7776, .inl M_line))] sz)) 0 0 (va_A [(aM, .inr (6, [.ref aM_page, .int M_pageMany, .ref aM_readDeeds, .int M_readMany, .int M_readBase, .int M_state, .int M_beings, .int M_number, .int M_deedsDone, .ref aM_rows, .ref aM_far, .ref aM_firsts, .ref aM_line, .int M_lined, .int M_toldMany, .ref aM_toldRows, .ref aM_parts, .int M_seedNow, .int M_keptNumber, .int M_keptBeings, .int M_keptDeeds, .int M_keptTold, .ref aM_keptToldRows, .long M_hash])), (aM_rows, .inl (cI, 20, .inl M_rows)), (aM_far, .inl (cI, 7776, .inl M_far)), (aM_firsts, .inl (cI, 7776, .inl M_firsts)), (aM_line, .inl (cI, 7776, .inl M_line))] sz) := by
  refine sw_metW (cc := cX6_lay) (maxL := 5) (ret := none) (lv := [(0, .ref aM)]) (by decide) rfl (Nat.le_of_ble_eq_true rfl) rfl ?_
  intro p e s m below meth c Q A hsz hAe hQ hx hb hr hts hown hlocks hml hmn hP hK hD hE hS hA ls hl
  have hS0 := hS
  have hown : s.vm.findClass RX6 = some m.cls := hown
  have hf := (F_X6_lay.eq_1 _ _ _ _ _ _ _).symm.trans hf
  have hw4 := hts (.fieldLink RX6 25 "SwallowedInTurnModel" "line" "[I") (List.mem_of_getElem? (i := 4) (by decide +kernel))
  have iX6 : ∀ w ∈ u_ws RX6 TX6 24, w ∈ wsX6_lay := by decide +kernel
  have hw5 := hts (.fieldLink RX6 140 "SwallowedInTurnModel" "lined" "I") (List.mem_of_getElem? (i := 5) (by decide +kernel))
  have hw1 := hts (.fieldLink RX6 19 "SwallowedInTurnModel" "far" "[I") (List.mem_of_getElem? (i := 1) (by decide +kernel))
  have hw3 := hts (.fieldLink RX6 22 "SwallowedInTurnModel" "firsts" "[I") (List.mem_of_getElem? (i := 3) (by decide +kernel))
  have hw2 := hts (.fieldLink RX6 115 "SwallowedInTurnModel" "number" "I") (List.mem_of_getElem? (i := 2) (by decide +kernel))
  have hf0 := hf
  clear hf
  have hP0 := hP
  have hD0 := hD
  clear hP hD hS
  have hl0 := hl
  clear hl
  have hB_154 : ∀ (M_lined : Int32) (M_far : Nat → Int32) (M_firsts : Nat → Int32) (M_line : Nat → Int32) (l1 : Int32) (l2 : Int32) (l3 : Int32) (l4 : Int32) (s1 : Int32) (s2 : Int32),∀ (k59 : Int32 → (Nat → Int32) → (Nat → Int32) → (Nat → Int32) → Int32 → Option (Int32 × (Nat → Int32) × (Nat → Int32) × (Nat → Int32))), (∀ (M_lined : Int32) (M_far : Nat → Int32) (M_firsts : Nat → Int32) (M_line : Nat → Int32) (l1 : Int32), k59 M_lined M_far M_firsts M_line l1 = some (M_lined', M_far', M_firsts', M_line') → ∀ (H : Heap) (locs : List Loc), va_P (dC, dI) vwCl [(aM, .inr (6, [.ref aM_page, .int M_pageMany, .ref aM_readDeeds, .int M_readMany, .int M_readBase, .int M_state, .int M_beings, .int M_number, .int M_deedsDone, .ref aM_rows, .ref aM_far, .ref aM_firsts, .ref aM_line, .int M_lined, .int M_toldMany, .ref aM_toldRows, .ref aM_parts, .int M_seedNow, .int M_keptNumber, .int M_keptBeings, .int M_keptDeeds, .int M_keptTold, .ref aM_keptToldRows, .long M_hash])), (aM_rows, .inl (cI, 20, .inl M_rows)), (aM_far, .inl (cI, 7776, .inl M_far)), (aM_firsts, .inl (cI, 7776, .inl M_firsts)), (aM_line, .inl (cI, 7776, .inl M_line))] H → va_D A [(aM, .inr (6, [.ref aM_page, .int M_pageMany, .ref aM_readDeeds, .int M_readMany, .int M_readBase, .int M_state, .int M_beings, .int M_number, .int M_deedsDone, .ref aM_rows, .ref aM_far, .ref aM_firsts, .ref aM_line, .int M_lined, .int M_toldMany, .ref aM_toldRows, .ref aM_parts, .int M_seedNow, .int M_keptNumber, .int M_keptBeings, .int M_keptDeeds, .int M_keptTold, .ref aM_keptToldRows, .long M_hash])), (aM_rows, .inl (cI, 20, .inl M_rows)), (aM_far, .inl (cI, 7776, .inl M_far)), (aM_firsts, .inl (cI, 7776, .inl M_firsts)), (aM_line, .inl (cI, 7776, .inl M_line))] → va_S A s.heap H locs → ∀ ls : Array Slot, lv_has ls 5 [(0, .ref aM), (1, .int l1)] → W p l e rm_X6_lay s m ([.ref aM] : List Value).toArray below meth c H locs 0 0 Q (F0 m 59 ls [])) → ∀ (k76 : Int32 → (Nat → Int32) → (Nat → Int32) → (Nat → Int32) → Int32 → Option (Int32 × (Nat → Int32) × (Nat → Int32) × (Nat → Int32))), (∀ (M_lined : Int32) (M_far : Nat → Int32) (M_firsts : Nat → Int32) (M_line : Nat → Int32) (l3 : Int32), k76 M_lined M_far M_firsts M_line l3 = some (M_lined', M_far', M_firsts', M_line') → ∀ (H : Heap) (locs : List Loc), va_P (dC, dI) vwCl [(aM, .inr (6, [.ref aM_page, .int M_pageMany, .ref aM_readDeeds, .int M_readMany, .int M_readBase, .int M_state, .int M_beings, .int M_number, .int M_deedsDone, .ref aM_rows, .ref aM_far, .ref aM_firsts, .ref aM_line, .int M_lined, .int M_toldMany, .ref aM_toldRows, .ref aM_parts, .int M_seedNow, .int M_keptNumber, .int M_keptBeings, .int M_keptDeeds, .int M_keptTold, .ref aM_keptToldRows, .long M_hash])), (aM_rows, .inl (cI, 20, .inl M_rows)), (aM_far, .inl (cI, 7776, .inl M_far)), (aM_firsts, .inl (cI, 7776, .inl M_firsts)), (aM_line, .inl (cI, 7776, .inl M_line))] H → va_D A [(aM, .inr (6, [.ref aM_page, .int M_pageMany, .ref aM_readDeeds, .int M_readMany, .int M_readBase, .int M_state, .int M_beings, .int M_number, .int M_deedsDone, .ref aM_rows, .ref aM_far, .ref aM_firsts, .ref aM_line, .int M_lined, .int M_toldMany, .ref aM_toldRows, .ref aM_parts, .int M_seedNow, .int M_keptNumber, .int M_keptBeings, .int M_keptDeeds, .int M_keptTold, .ref aM_keptToldRows, .long M_hash])), (aM_rows, .inl (cI, 20, .inl M_rows)), (aM_far, .inl (cI, 7776, .inl M_far)), (aM_firsts, .inl (cI, 7776, .inl M_firsts)), (aM_line, .inl (cI, 7776, .inl M_line))] → va_S A s.heap H locs → ∀ ls : Array Slot, lv_has ls 5 [(0, .ref aM), (1, .int l1), (2, .int l2), (3, .int l3)] → W p l e rm_X6_lay s m ([.ref aM] : List Value).toArray below meth c H locs 0 0 Q (F0 m 76 ls [])) →  F_X6_lay_154 k59 k76 M_beings M_lined M_rows M_far M_firsts M_line l1 l2 l3 l4 s1 s2 = some (M_lined', M_far', M_firsts', M_line') → ∀ (H : Heap) (locs : List Loc), va_P (dC, dI) vwCl [(aM, .inr (6, [.ref aM_page, .int M_pageMany, .ref aM_readDeeds, .int M_readMany, .int M_readBase, .int M_state, .int M_beings, .int M_number, .int M_deedsDone, .ref aM_rows, .ref aM_far, .ref aM_firsts, .ref aM_line, .int M_lined, .int M_toldMany, .ref aM_toldRows, .ref aM_parts, .int M_seedNow, .int M_keptNumber, .int M_keptBeings, .int M_keptDeeds, .int M_keptTold, .ref aM_keptToldRows, .long M_hash])), (aM_rows, .inl (cI, 20, .inl M_rows)), (aM_far, .inl (cI, 7776, .inl M_far)), (aM_firsts, .inl (cI, 7776, .inl M_firsts)), (aM_line, .inl (cI, 7776, .inl M_line))] H → va_D A [(aM, .inr (6, [.ref aM_page, .int M_pageMany, .ref aM_readDeeds, .int M_readMany, .int M_readBase, .int M_state, .int M_beings, .int M_number, .int M_deedsDone, .ref aM_rows, .ref aM_far, .ref aM_firsts, .ref aM_line, .int M_lined, .int M_toldMany, .ref aM_toldRows, .ref aM_parts, .int M_seedNow, .int M_keptNumber, .int M_keptBeings, .int M_keptDeeds, .int M_keptTold, .ref aM_keptToldRows, .long M_hash])), (aM_rows, .inl (cI, 20, .inl M_rows)), (aM_far, .inl (cI, 7776, .inl M_far)), (aM_firsts, .inl (cI, 7776, .inl M_firsts)), (aM_line, .inl (cI, 7776, .inl M_line))] → va_S A s.heap H locs → ∀ ls : Array Slot, lv_has ls 5 [(0, .ref aM), (1, .int l1), (2, .int l2), (3, .int l3), (4, .int l4)] → W p l e rm_X6_lay s m ([.ref aM] : List Value).toArray below meth c H locs 0 0 Q (F0 m 154 ls [.int s2, .int s1, .ref aM_firsts]) := by
    intro M_lined M_far M_firsts M_line l1 l2 l3 l4 s1 s2 k59 hk59 k76 hk76 hf H locs hP hD hS ls hl
    have hf := (F_X6_lay_154.eq_1 _ _ _ _ _ _ _ _ _ _ _ _ _ _).symm.trans hf
    obtain ⟨hi1, hf⟩ := sw_ix_s hf
    refine va_iast hx hb hK hP hD hS 3 0 rfl rfl hi1 dX6_lay_154 (fun H locs hP hD hS => ?_)
    have hP : va_P (dC, dI) vwCl [(aM, .inr (6, [.ref aM_page, .int M_pageMany, .ref aM_readDeeds, .int M_readMany, .int M_readBase, .int M_state, .int M_beings, .int M_number, .int M_deedsDone, .ref aM_rows, .ref aM_far, .ref aM_firsts, .ref aM_line, .int M_lined, .int M_toldMany, .ref aM_toldRows, .ref aM_parts, .int M_seedNow, .int M_keptNumber, .int M_keptBeings, .int M_keptDeeds, .int M_keptTold, .ref aM_keptToldRows, .long M_hash])), (aM_rows, .inl (cI, 20, .inl M_rows)), (aM_far, .inl (cI, 7776, .inl M_far)), (aM_firsts, .inl (cI, 7776, .inl (upd M_firsts s1.toNatClampNeg s2))), (aM_line, .inl (cI, 7776, .inl M_line))] H := hP
    have hD : va_D A [(aM, .inr (6, [.ref aM_page, .int M_pageMany, .ref aM_readDeeds, .int M_readMany, .int M_readBase, .int M_state, .int M_beings, .int M_number, .int M_deedsDone, .ref aM_rows, .ref aM_far, .ref aM_firsts, .ref aM_line, .int M_lined, .int M_toldMany, .ref aM_toldRows, .ref aM_parts, .int M_seedNow, .int M_keptNumber, .int M_keptBeings, .int M_keptDeeds, .int M_keptTold, .ref aM_keptToldRows, .long M_hash])), (aM_rows, .inl (cI, 20, .inl M_rows)), (aM_far, .inl (cI, 7776, .inl M_far)), (aM_firsts, .inl (cI, 7776, .inl (upd M_firsts s1.toNatClampNeg s2))), (aM_line, .inl (cI, 7776, .inl M_line))] := hD
    refine lv_aload_n hx hb dX6_lay_155 rfl (lv_at hl 0 rfl) ?_
    refine va_get (D := (dC, dI)) (ci := 6) (v := .ref aM_line) (C := RX6) (T := TX6) (N := 24) hx hb hts iX6 hown hK hP 0 rfl rfl 12 (by decide) hw4 (fun _ h9 => h9) rfl dX6_lay_156 ?_
    refine lv_aload_n hx hb dX6_lay_159 rfl (lv_at hl 0 rfl) ?_
    refine va_get (D := (dC, dI)) (ci := 6) (v := .int M_lined) (C := RX6) (T := TX6) (N := 24) hx hb hts iX6 hown hK hP 0 rfl rfl 13 (by decide) hw5 (fun _ h9 => h9) rfl dX6_lay_160 ?_
    refine lv_iload hx hb dX6_lay_163 (lv_at hl 4 rfl) ?_
    obtain ⟨hi2, hf⟩ := sw_ix_s hf
    refine va_iast hx hb hK hP hD hS 4 0 rfl rfl hi2 dX6_lay_165 (fun H locs hP hD hS => ?_)
    have hP : va_P (dC, dI) vwCl [(aM, .inr (6, [.ref aM_page, .int M_pageMany, .ref aM_readDeeds, .int M_readMany, .int M_readBase, .int M_state, .int M_beings, .int M_number, .int M_deedsDone, .ref aM_rows, .ref aM_far, .ref aM_firsts, .ref aM_line, .int M_lined, .int M_toldMany, .ref aM_toldRows, .ref aM_parts, .int M_seedNow, .int M_keptNumber, .int M_keptBeings, .int M_keptDeeds, .int M_keptTold, .ref aM_keptToldRows, .long M_hash])), (aM_rows, .inl (cI, 20, .inl M_rows)), (aM_far, .inl (cI, 7776, .inl M_far)), (aM_firsts, .inl (cI, 7776, .inl (upd M_firsts s1.toNatClampNeg s2))), (aM_line, .inl (cI, 7776, .inl (upd M_line M_lined.toNatClampNeg l4)))] H := hP
    have hD : va_D A [(aM, .inr (6, [.ref aM_page, .int M_pageMany, .ref aM_readDeeds, .int M_readMany, .int M_readBase, .int M_state, .int M_beings, .int M_number, .int M_deedsDone, .ref aM_rows, .ref aM_far, .ref aM_firsts, .ref aM_line, .int M_lined, .int M_toldMany, .ref aM_toldRows, .ref aM_parts, .int M_seedNow, .int M_keptNumber, .int M_keptBeings, .int M_keptDeeds, .int M_keptTold, .ref aM_keptToldRows, .long M_hash])), (aM_rows, .inl (cI, 20, .inl M_rows)), (aM_far, .inl (cI, 7776, .inl M_far)), (aM_firsts, .inl (cI, 7776, .inl (upd M_firsts s1.toNatClampNeg s2))), (aM_line, .inl (cI, 7776, .inl (upd M_line M_lined.toNatClampNeg l4)))] := hD
    refine lv_aload_n hx hb dX6_lay_166 rfl (lv_at hl 0 rfl) ?_
    refine lv_dup hx hb dX6_lay_167 rfl ?_
    refine va_get (D := (dC, dI)) (ci := 6) (v := .int M_lined) (C := RX6) (T := TX6) (N := 24) hx hb hts iX6 hown hK hP 0 rfl rfl 13 (by decide) hw5 (fun _ h9 => h9) rfl dX6_lay_168 ?_
    refine lv_iconst (v := 1) hx hb dX6_lay_171 (by decide) ?_
    refine lv_iadd hx hb dX6_lay_172 ?_
    refine va_put (D := (dC, dI)) (ci := 6) (v := .int (M_lined + (1 : Int32))) (ty := .int) (C := RX6) (T := TX6) (N := 24) hx hb hts iX6 tyX6 tyX6_ok nmX6 hown hK hP hD hS 0 rfl rfl 13 (by decide) hw5 (fun _ h9 => h9) rfl (by decide +kernel) rfl rfl (Nat.le_of_ble_eq_true rfl) dX6_lay_173 (fun H locs hP hD hS => ?_)
    have hP : va_P (dC, dI) vwCl [(aM, .inr (6, [.ref aM_page, .int M_pageMany, .ref aM_readDeeds, .int M_readMany, .int M_readBase, .int M_state, .int M_beings, .int M_number, .int M_deedsDone, .ref aM_rows, .ref aM_far, .ref aM_firsts, .ref aM_line, .int (M_lined + (1 : Int32)), .int M_toldMany, .ref aM_toldRows, .ref aM_parts, .int M_seedNow, .int M_keptNumber, .int M_keptBeings, .int M_keptDeeds, .int M_keptTold, .ref aM_keptToldRows, .long M_hash])), (aM_rows, .inl (cI, 20, .inl M_rows)), (aM_far, .inl (cI, 7776, .inl M_far)), (aM_firsts, .inl (cI, 7776, .inl (upd M_firsts s1.toNatClampNeg s2))), (aM_line, .inl (cI, 7776, .inl (upd M_line M_lined.toNatClampNeg l4)))] H := hP
    have hD : va_D A [(aM, .inr (6, [.ref aM_page, .int M_pageMany, .ref aM_readDeeds, .int M_readMany, .int M_readBase, .int M_state, .int M_beings, .int M_number, .int M_deedsDone, .ref aM_rows, .ref aM_far, .ref aM_firsts, .ref aM_line, .int (M_lined + (1 : Int32)), .int M_toldMany, .ref aM_toldRows, .ref aM_parts, .int M_seedNow, .int M_keptNumber, .int M_keptBeings, .int M_keptDeeds, .int M_keptTold, .ref aM_keptToldRows, .long M_hash])), (aM_rows, .inl (cI, 20, .inl M_rows)), (aM_far, .inl (cI, 7776, .inl M_far)), (aM_firsts, .inl (cI, 7776, .inl (upd M_firsts s1.toNatClampNeg s2))), (aM_line, .inl (cI, 7776, .inl (upd M_line M_lined.toNatClampNeg l4)))] := hD
    refine lv_iinc (v := l3 + (1 : Int32)) (lv' := [(3, .int (l3 + (1 : Int32))), (0, .ref aM), (1, .int l1), (2, .int l2), (4, .int l4)]) hx hb dX6_lay_176 hl (k := 3) rfl (sw_ii _) (by decide) rfl (fun ls hl => ?_)
    refine lv_goto (tgt := 76) hx hb dX6_lay_179 (by decide) ?_
    exact hk76 (M_lined + (1 : Int32)) M_far (upd M_firsts s1.toNatClampNeg s2) (upd M_line M_lined.toNatClampNeg l4) (l3 + (1 : Int32)) hf H locs hP hD hS ls (lv_sub hl [1, 2, 3, 0] rfl)
  have hB_100 : ∀ (M_lined : Int32) (M_far : Nat → Int32) (M_firsts : Nat → Int32) (M_line : Nat → Int32) (l1 : Int32) (l2 : Int32) (l3 : Int32) (s0 : Int32),∀ (k59 : Int32 → (Nat → Int32) → (Nat → Int32) → (Nat → Int32) → Int32 → Option (Int32 × (Nat → Int32) × (Nat → Int32) × (Nat → Int32))), (∀ (M_lined : Int32) (M_far : Nat → Int32) (M_firsts : Nat → Int32) (M_line : Nat → Int32) (l1 : Int32), k59 M_lined M_far M_firsts M_line l1 = some (M_lined', M_far', M_firsts', M_line') → ∀ (H : Heap) (locs : List Loc), va_P (dC, dI) vwCl [(aM, .inr (6, [.ref aM_page, .int M_pageMany, .ref aM_readDeeds, .int M_readMany, .int M_readBase, .int M_state, .int M_beings, .int M_number, .int M_deedsDone, .ref aM_rows, .ref aM_far, .ref aM_firsts, .ref aM_line, .int M_lined, .int M_toldMany, .ref aM_toldRows, .ref aM_parts, .int M_seedNow, .int M_keptNumber, .int M_keptBeings, .int M_keptDeeds, .int M_keptTold, .ref aM_keptToldRows, .long M_hash])), (aM_rows, .inl (cI, 20, .inl M_rows)), (aM_far, .inl (cI, 7776, .inl M_far)), (aM_firsts, .inl (cI, 7776, .inl M_firsts)), (aM_line, .inl (cI, 7776, .inl M_line))] H → va_D A [(aM, .inr (6, [.ref aM_page, .int M_pageMany, .ref aM_readDeeds, .int M_readMany, .int M_readBase, .int M_state, .int M_beings, .int M_number, .int M_deedsDone, .ref aM_rows, .ref aM_far, .ref aM_firsts, .ref aM_line, .int M_lined, .int M_toldMany, .ref aM_toldRows, .ref aM_parts, .int M_seedNow, .int M_keptNumber, .int M_keptBeings, .int M_keptDeeds, .int M_keptTold, .ref aM_keptToldRows, .long M_hash])), (aM_rows, .inl (cI, 20, .inl M_rows)), (aM_far, .inl (cI, 7776, .inl M_far)), (aM_firsts, .inl (cI, 7776, .inl M_firsts)), (aM_line, .inl (cI, 7776, .inl M_line))] → va_S A s.heap H locs → ∀ ls : Array Slot, lv_has ls 5 [(0, .ref aM), (1, .int l1)] → W p l e rm_X6_lay s m ([.ref aM] : List Value).toArray below meth c H locs 0 0 Q (F0 m 59 ls [])) → ∀ (k76 : Int32 → (Nat → Int32) → (Nat → Int32) → (Nat → Int32) → Int32 → Option (Int32 × (Nat → Int32) × (Nat → Int32) × (Nat → Int32))), (∀ (M_lined : Int32) (M_far : Nat → Int32) (M_firsts : Nat → Int32) (M_line : Nat → Int32) (l3 : Int32), k76 M_lined M_far M_firsts M_line l3 = some (M_lined', M_far', M_firsts', M_line') → ∀ (H : Heap) (locs : List Loc), va_P (dC, dI) vwCl [(aM, .inr (6, [.ref aM_page, .int M_pageMany, .ref aM_readDeeds, .int M_readMany, .int M_readBase, .int M_state, .int M_beings, .int M_number, .int M_deedsDone, .ref aM_rows, .ref aM_far, .ref aM_firsts, .ref aM_line, .int M_lined, .int M_toldMany, .ref aM_toldRows, .ref aM_parts, .int M_seedNow, .int M_keptNumber, .int M_keptBeings, .int M_keptDeeds, .int M_keptTold, .ref aM_keptToldRows, .long M_hash])), (aM_rows, .inl (cI, 20, .inl M_rows)), (aM_far, .inl (cI, 7776, .inl M_far)), (aM_firsts, .inl (cI, 7776, .inl M_firsts)), (aM_line, .inl (cI, 7776, .inl M_line))] H → va_D A [(aM, .inr (6, [.ref aM_page, .int M_pageMany, .ref aM_readDeeds, .int M_readMany, .int M_readBase, .int M_state, .int M_beings, .int M_number, .int M_deedsDone, .ref aM_rows, .ref aM_far, .ref aM_firsts, .ref aM_line, .int M_lined, .int M_toldMany, .ref aM_toldRows, .ref aM_parts, .int M_seedNow, .int M_keptNumber, .int M_keptBeings, .int M_keptDeeds, .int M_keptTold, .ref aM_keptToldRows, .long M_hash])), (aM_rows, .inl (cI, 20, .inl M_rows)), (aM_far, .inl (cI, 7776, .inl M_far)), (aM_firsts, .inl (cI, 7776, .inl M_firsts)), (aM_line, .inl (cI, 7776, .inl M_line))] → va_S A s.heap H locs → ∀ ls : Array Slot, lv_has ls 5 [(0, .ref aM), (1, .int l1), (2, .int l2), (3, .int l3)] → W p l e rm_X6_lay s m ([.ref aM] : List Value).toArray below meth c H locs 0 0 Q (F0 m 76 ls [])) →  F_X6_lay_100 k59 k76 M_beings M_lined M_rows M_far M_firsts M_line l1 l2 l3 s0 = some (M_lined', M_far', M_firsts', M_line') → ∀ (H : Heap) (locs : List Loc), va_P (dC, dI) vwCl [(aM, .inr (6, [.ref aM_page, .int M_pageMany, .ref aM_readDeeds, .int M_readMany, .int M_readBase, .int M_state, .int M_beings, .int M_number, .int M_deedsDone, .ref aM_rows, .ref aM_far, .ref aM_firsts, .ref aM_line, .int M_lined, .int M_toldMany, .ref aM_toldRows, .ref aM_parts, .int M_seedNow, .int M_keptNumber, .int M_keptBeings, .int M_keptDeeds, .int M_keptTold, .ref aM_keptToldRows, .long M_hash])), (aM_rows, .inl (cI, 20, .inl M_rows)), (aM_far, .inl (cI, 7776, .inl M_far)), (aM_firsts, .inl (cI, 7776, .inl M_firsts)), (aM_line, .inl (cI, 7776, .inl M_line))] H → va_D A [(aM, .inr (6, [.ref aM_page, .int M_pageMany, .ref aM_readDeeds, .int M_readMany, .int M_readBase, .int M_state, .int M_beings, .int M_number, .int M_deedsDone, .ref aM_rows, .ref aM_far, .ref aM_firsts, .ref aM_line, .int M_lined, .int M_toldMany, .ref aM_toldRows, .ref aM_parts, .int M_seedNow, .int M_keptNumber, .int M_keptBeings, .int M_keptDeeds, .int M_keptTold, .ref aM_keptToldRows, .long M_hash])), (aM_rows, .inl (cI, 20, .inl M_rows)), (aM_far, .inl (cI, 7776, .inl M_far)), (aM_firsts, .inl (cI, 7776, .inl M_firsts)), (aM_line, .inl (cI, 7776, .inl M_line))] → va_S A s.heap H locs → ∀ ls : Array Slot, lv_has ls 5 [(0, .ref aM), (1, .int l1), (2, .int l2), (3, .int l3)] → W p l e rm_X6_lay s m ([.ref aM] : List Value).toArray below meth c H locs 0 0 Q (F0 m 100 ls [.int s0]) := by
    intro M_lined M_far M_firsts M_line l1 l2 l3 s0 k59 hk59 k76 hk76 hf H locs hP hD hS ls hl
    have hf := (F_X6_lay_100.eq_1 _ _ _ _ _ _ _ _ _ _ _ _).symm.trans hf
    refine lv_istore (lv' := [(4, .int s0), (0, .ref aM), (1, .int l1), (2, .int l2), (3, .int l3)]) hx hb dX6_lay_100 hl (by decide) rfl (fun ls hl => ?_)
    refine lv_iload hx hb dX6_lay_102 (lv_at hl 0 rfl) ?_
    refine lv_iconst (v := -1) hx hb dX6_lay_104 (by decide) ?_
    refine lv_icmp_eq (tgt := 176) hx hb dX6_lay_105 (by decide) (fun c1 => ?_) (fun c1 => ?_)
    · have hf := sw_ip c1 hf
      refine lv_iinc (v := l3 + (1 : Int32)) (lv' := [(3, .int (l3 + (1 : Int32))), (4, .int s0), (0, .ref aM), (1, .int l1), (2, .int l2)]) hx hb dX6_lay_176 hl (k := 4) rfl (sw_ii _) (by decide) rfl (fun ls hl => ?_)
      refine lv_goto (tgt := 76) hx hb dX6_lay_179 (by decide) ?_
      exact hk76 M_lined M_far M_firsts M_line (l3 + (1 : Int32)) hf H locs hP hD hS ls (lv_sub hl [2, 3, 4, 0] rfl)
    · have hf := sw_in c1 hf
      refine lv_aload_n hx hb dX6_lay_108 rfl (lv_at hl 1 rfl) ?_
      refine va_get (D := (dC, dI)) (ci := 6) (v := .ref aM_far) (C := RX6) (T := TX6) (N := 24) hx hb hts iX6 hown hK hP 0 rfl rfl 10 (by decide) hw1 (fun _ h9 => h9) rfl dX6_lay_109 ?_
      refine lv_iload hx hb dX6_lay_112 (lv_at hl 0 rfl) ?_
      obtain ⟨hi3, hf⟩ := sw_ix_s hf
      refine va_iald hx hb hK hP 2 0 rfl rfl hi3 dX6_lay_114 ?_
      refine lv_iconst (v := -1) hx hb dX6_lay_115 (by decide) ?_
      refine lv_icmp_ne (tgt := 176) hx hb dX6_lay_116 (by decide) (fun c2 => ?_) (fun c2 => ?_)
      · have hf := sw_in c2 hf
        refine lv_iinc (v := l3 + (1 : Int32)) (lv' := [(3, .int (l3 + (1 : Int32))), (4, .int s0), (0, .ref aM), (1, .int l1), (2, .int l2)]) hx hb dX6_lay_176 hl (k := 4) rfl (sw_ii _) (by decide) rfl (fun ls hl => ?_)
        refine lv_goto (tgt := 76) hx hb dX6_lay_179 (by decide) ?_
        exact hk76 M_lined M_far M_firsts M_line (l3 + (1 : Int32)) hf H locs hP hD hS ls (lv_sub hl [2, 3, 4, 0] rfl)
      · have hf := sw_ip c2 hf
        refine lv_aload_n hx hb dX6_lay_119 rfl (lv_at hl 1 rfl) ?_
        refine va_get (D := (dC, dI)) (ci := 6) (v := .ref aM_far) (C := RX6) (T := TX6) (N := 24) hx hb hts iX6 hown hK hP 0 rfl rfl 10 (by decide) hw1 (fun _ h9 => h9) rfl dX6_lay_120 ?_
        refine lv_iload hx hb dX6_lay_123 (lv_at hl 0 rfl) ?_
        refine lv_aload_n hx hb dX6_lay_125 rfl (lv_at hl 1 rfl) ?_
        refine va_get (D := (dC, dI)) (ci := 6) (v := .ref aM_far) (C := RX6) (T := TX6) (N := 24) hx hb hts iX6 hown hK hP 0 rfl rfl 10 (by decide) hw1 (fun _ h9 => h9) rfl dX6_lay_126 ?_
        refine lv_iload_n hx hb dX6_lay_129 rfl (lv_at hl 3 rfl) ?_
        obtain ⟨hi4, hf⟩ := sw_ix_s hf
        refine va_iald hx hb hK hP 2 0 rfl rfl hi4 dX6_lay_130 ?_
        refine lv_iconst (v := 1) hx hb dX6_lay_131 (by decide) ?_
        refine lv_iadd hx hb dX6_lay_132 ?_
        obtain ⟨hi5, hf⟩ := sw_ix_s hf
        refine va_iast hx hb hK hP hD hS 2 0 rfl rfl hi5 dX6_lay_133 (fun H locs hP hD hS => ?_)
        have hP : va_P (dC, dI) vwCl [(aM, .inr (6, [.ref aM_page, .int M_pageMany, .ref aM_readDeeds, .int M_readMany, .int M_readBase, .int M_state, .int M_beings, .int M_number, .int M_deedsDone, .ref aM_rows, .ref aM_far, .ref aM_firsts, .ref aM_line, .int M_lined, .int M_toldMany, .ref aM_toldRows, .ref aM_parts, .int M_seedNow, .int M_keptNumber, .int M_keptBeings, .int M_keptDeeds, .int M_keptTold, .ref aM_keptToldRows, .long M_hash])), (aM_rows, .inl (cI, 20, .inl M_rows)), (aM_far, .inl (cI, 7776, .inl (upd M_far s0.toNatClampNeg ((M_far l2.toNatClampNeg) + (1 : Int32))))), (aM_firsts, .inl (cI, 7776, .inl M_firsts)), (aM_line, .inl (cI, 7776, .inl M_line))] H := hP
        have hD : va_D A [(aM, .inr (6, [.ref aM_page, .int M_pageMany, .ref aM_readDeeds, .int M_readMany, .int M_readBase, .int M_state, .int M_beings, .int M_number, .int M_deedsDone, .ref aM_rows, .ref aM_far, .ref aM_firsts, .ref aM_line, .int M_lined, .int M_toldMany, .ref aM_toldRows, .ref aM_parts, .int M_seedNow, .int M_keptNumber, .int M_keptBeings, .int M_keptDeeds, .int M_keptTold, .ref aM_keptToldRows, .long M_hash])), (aM_rows, .inl (cI, 20, .inl M_rows)), (aM_far, .inl (cI, 7776, .inl (upd M_far s0.toNatClampNeg ((M_far l2.toNatClampNeg) + (1 : Int32))))), (aM_firsts, .inl (cI, 7776, .inl M_firsts)), (aM_line, .inl (cI, 7776, .inl M_line))] := hD
        refine lv_aload_n hx hb dX6_lay_134 rfl (lv_at hl 1 rfl) ?_
        refine va_get (D := (dC, dI)) (ci := 6) (v := .ref aM_firsts) (C := RX6) (T := TX6) (N := 24) hx hb hts iX6 hown hK hP 0 rfl rfl 11 (by decide) hw3 (fun _ h9 => h9) rfl dX6_lay_135 ?_
        refine lv_iload hx hb dX6_lay_138 (lv_at hl 0 rfl) ?_
        refine lv_iload_n hx hb dX6_lay_140 rfl (lv_at hl 2 rfl) ?_
        refine lv_if_ne (tgt := 148) hx hb dX6_lay_141 (by decide) (fun c3 => ?_) (fun c3 => ?_)
        · have hf := sw_in c3 hf
          refine lv_aload_n hx hb dX6_lay_148 rfl (lv_at hl 1 rfl) ?_
          refine va_get (D := (dC, dI)) (ci := 6) (v := .ref aM_firsts) (C := RX6) (T := TX6) (N := 24) hx hb hts iX6 hown hK hP 0 rfl rfl 11 (by decide) hw3 (fun _ h9 => h9) rfl dX6_lay_149 ?_
          refine lv_iload_n hx hb dX6_lay_152 rfl (lv_at hl 3 rfl) ?_
          obtain ⟨hi6, hf⟩ := sw_ix_s hf
          refine va_iald hx hb hK hP 3 0 rfl rfl hi6 dX6_lay_153 ?_
          exact hB_154 M_lined (upd M_far s0.toNatClampNeg ((M_far l2.toNatClampNeg) + (1 : Int32))) M_firsts M_line l1 l2 l3 s0 s0 (M_firsts l2.toNatClampNeg) k59 hk59 k76 hk76 hf H locs hP hD hS ls (lv_sub hl [1, 2, 3, 4, 0] rfl)
        · have hf := sw_ip c3 hf
          refine lv_iload_n hx hb dX6_lay_144 rfl (lv_at hl 4 rfl) ?_
          refine lv_goto (tgt := 154) hx hb dX6_lay_145 (by decide) ?_
          exact hB_154 M_lined (upd M_far s0.toNatClampNeg ((M_far l2.toNatClampNeg) + (1 : Int32))) M_firsts M_line l1 l2 l3 s0 s0 l3 k59 hk59 k76 hk76 hf H locs hP hD hS ls (lv_sub hl [1, 2, 3, 4, 0] rfl)
  have hB_76 : ∀ (l1 : Int32) (l2 : Int32),∀ (k59 : Int32 → (Nat → Int32) → (Nat → Int32) → (Nat → Int32) → Int32 → Option (Int32 × (Nat → Int32) × (Nat → Int32) × (Nat → Int32))), (∀ (M_lined : Int32) (M_far : Nat → Int32) (M_firsts : Nat → Int32) (M_line : Nat → Int32) (l1 : Int32), k59 M_lined M_far M_firsts M_line l1 = some (M_lined', M_far', M_firsts', M_line') → ∀ (H : Heap) (locs : List Loc), va_P (dC, dI) vwCl [(aM, .inr (6, [.ref aM_page, .int M_pageMany, .ref aM_readDeeds, .int M_readMany, .int M_readBase, .int M_state, .int M_beings, .int M_number, .int M_deedsDone, .ref aM_rows, .ref aM_far, .ref aM_firsts, .ref aM_line, .int M_lined, .int M_toldMany, .ref aM_toldRows, .ref aM_parts, .int M_seedNow, .int M_keptNumber, .int M_keptBeings, .int M_keptDeeds, .int M_keptTold, .ref aM_keptToldRows, .long M_hash])), (aM_rows, .inl (cI, 20, .inl M_rows)), (aM_far, .inl (cI, 7776, .inl M_far)), (aM_firsts, .inl (cI, 7776, .inl M_firsts)), (aM_line, .inl (cI, 7776, .inl M_line))] H → va_D A [(aM, .inr (6, [.ref aM_page, .int M_pageMany, .ref aM_readDeeds, .int M_readMany, .int M_readBase, .int M_state, .int M_beings, .int M_number, .int M_deedsDone, .ref aM_rows, .ref aM_far, .ref aM_firsts, .ref aM_line, .int M_lined, .int M_toldMany, .ref aM_toldRows, .ref aM_parts, .int M_seedNow, .int M_keptNumber, .int M_keptBeings, .int M_keptDeeds, .int M_keptTold, .ref aM_keptToldRows, .long M_hash])), (aM_rows, .inl (cI, 20, .inl M_rows)), (aM_far, .inl (cI, 7776, .inl M_far)), (aM_firsts, .inl (cI, 7776, .inl M_firsts)), (aM_line, .inl (cI, 7776, .inl M_line))] → va_S A s.heap H locs → ∀ ls : Array Slot, lv_has ls 5 [(0, .ref aM), (1, .int l1)] → W p l e rm_X6_lay s m ([.ref aM] : List Value).toArray below meth c H locs 0 0 Q (F0 m 59 ls [])) →  ∀ (fu : Nat) (M_lined : Int32) (M_far : Nat → Int32) (M_firsts : Nat → Int32) (M_line : Nat → Int32) (l3 : Int32), F_X6_lay_76 k59 M_beings M_rows l1 l2 fu M_lined M_far M_firsts M_line l3 = some (M_lined', M_far', M_firsts', M_line') → ∀ (H : Heap) (locs : List Loc), va_P (dC, dI) vwCl [(aM, .inr (6, [.ref aM_page, .int M_pageMany, .ref aM_readDeeds, .int M_readMany, .int M_readBase, .int M_state, .int M_beings, .int M_number, .int M_deedsDone, .ref aM_rows, .ref aM_far, .ref aM_firsts, .ref aM_line, .int M_lined, .int M_toldMany, .ref aM_toldRows, .ref aM_parts, .int M_seedNow, .int M_keptNumber, .int M_keptBeings, .int M_keptDeeds, .int M_keptTold, .ref aM_keptToldRows, .long M_hash])), (aM_rows, .inl (cI, 20, .inl M_rows)), (aM_far, .inl (cI, 7776, .inl M_far)), (aM_firsts, .inl (cI, 7776, .inl M_firsts)), (aM_line, .inl (cI, 7776, .inl M_line))] H → va_D A [(aM, .inr (6, [.ref aM_page, .int M_pageMany, .ref aM_readDeeds, .int M_readMany, .int M_readBase, .int M_state, .int M_beings, .int M_number, .int M_deedsDone, .ref aM_rows, .ref aM_far, .ref aM_firsts, .ref aM_line, .int M_lined, .int M_toldMany, .ref aM_toldRows, .ref aM_parts, .int M_seedNow, .int M_keptNumber, .int M_keptBeings, .int M_keptDeeds, .int M_keptTold, .ref aM_keptToldRows, .long M_hash])), (aM_rows, .inl (cI, 20, .inl M_rows)), (aM_far, .inl (cI, 7776, .inl M_far)), (aM_firsts, .inl (cI, 7776, .inl M_firsts)), (aM_line, .inl (cI, 7776, .inl M_line))] → va_S A s.heap H locs → ∀ ls : Array Slot, lv_has ls 5 [(0, .ref aM), (1, .int l1), (2, .int l2), (3, .int l3)] → W p l e rm_X6_lay s m ([.ref aM] : List Value).toArray below meth c H locs 0 0 Q (F0 m 76 ls []) := by
    intro l1 l2 k59 hk59 fu
    induction fu with
    | zero =>
      intro M_lined M_far M_firsts M_line l3 hf
      exact nomatch (show (none : Option (Int32 × (Nat → Int32) × (Nat → Int32) × (Nat → Int32))) = some (M_lined', M_far', M_firsts', M_line') from hf)
    | succ fu ih =>
      intro M_lined M_far M_firsts M_line l3 hf H locs hP hD hS ls hl
      have hf := (F_X6_lay_76.eq_2 _ _ _ _ _ _ _ _ _ _ _).symm.trans hf
      refine lv_iload_n hx hb dX6_lay_76 rfl (lv_at hl 3 rfl) ?_
      refine lv_bipush (v := 45) hx hb dX6_lay_77 (by decide) ?_
      refine lv_icmp_ge (tgt := 182) hx hb dX6_lay_79 (by decide) (fun c4 => ?_) (fun c4 => ?_)
      · have hf := sw_ip c4 hf
        refine lv_iinc (v := l1 + (1 : Int32)) (lv' := [(1, .int (l1 + (1 : Int32))), (0, .ref aM), (2, .int l2), (3, .int l3)]) hx hb dX6_lay_182 hl (k := 1) rfl (sw_ii _) (by decide) rfl (fun ls hl => ?_)
        refine lv_goto (tgt := 59) hx hb dX6_lay_185 (by decide) ?_
        exact hk59 M_lined M_far M_firsts M_line (l1 + (1 : Int32)) hf H locs hP hD hS ls (lv_sub hl [1, 0] rfl)
      · have hf := sw_in c4 hf
        refine lv_aload_n hx hb dX6_lay_82 rfl (lv_at hl 0 rfl) ?_
        refine lv_iload_n hx hb dX6_lay_83 rfl (lv_at hl 3 rfl) ?_
        obtain ⟨q7, hq7, hf⟩ := sw_bs hf
        have hPc := hP.sub (ws' := [(aM, .inr (6, [.ref aM_page, .int M_pageMany, .ref aM_readDeeds, .int M_readMany, .int M_readBase, .int M_state, .int M_beings, .int M_number, .int M_deedsDone, .ref aM_rows, .ref aM_far, .ref aM_firsts, .ref aM_line, .int M_lined, .int M_toldMany, .ref aM_toldRows, .ref aM_parts, .int M_seedNow, .int M_keptNumber, .int M_keptBeings, .int M_keptDeeds, .int M_keptTold, .ref aM_keptToldRows, .long M_hash]))]) [0] rfl
        refine sw_rd (W.runV (As := [.int l3]) (rest := []) ⟨hx, hb, hml, hown, hts⟩ (k_X6_isDeed l dC dI cI cZ t0 aM aM_page aM_readDeeds aM_rows aM_far aM_firsts aM_line aM_toldRows aM_parts aM_keptToldRows M_pageMany M_readMany M_readBase M_state M_beings M_number M_deedsDone M_lined M_toldMany M_seedNow M_keptNumber M_keptBeings M_keptDeeds M_keptTold M_hash l3 q7 hq7) (cwV 1 hts gX6_lay_X6_isDeed rfl rfl rfl (by decide +kernel) ⟨Nat.le_of_ble_eq_true rfl, Nat.le_of_ble_eq_true rfl⟩) ⟨sw_PR_bl, va_recv hK hPc (ci := 6) (q0 := 0) rfl rfl, sw_PR_pre hK hPc hE hS⟩ rfl rfl hl.1 rfl (lv_room (Nat.le_of_ble_eq_true rfl)) dX6_lay_84 ⟨Nat.zero_le _, Nat.zero_le _⟩) ?_
        refine lv_if_eq (tgt := 99) hx hb dX6_lay_87 (by decide) (fun c5 => ?_) (fun c5 => ?_)
        · have hf := sw_ip c5 hf
          refine lv_iconst (v := -1) hx hb dX6_lay_99 (by decide) ?_
          exact hB_100 M_lined M_far M_firsts M_line l1 l2 l3 (-1 : Int32) k59 hk59 (F_X6_lay_76  k59 M_beings M_rows l1 l2 fu) ih hf H locs hP hD hS ls (lv_sub hl [0, 1, 2, 3] rfl)
        · have hf := sw_in c5 hf
          refine lv_aload_n hx hb dX6_lay_90 rfl (lv_at hl 0 rfl) ?_
          refine lv_iload_n hx hb dX6_lay_91 rfl (lv_at hl 2 rfl) ?_
          refine lv_iload_n hx hb dX6_lay_92 rfl (lv_at hl 3 rfl) ?_
          obtain ⟨q8, hq8, hf⟩ := sw_bs hf
          have hPc := hP.sub (ws' := [(aM, .inr (6, [.ref aM_page, .int M_pageMany, .ref aM_readDeeds, .int M_readMany, .int M_readBase, .int M_state, .int M_beings, .int M_number, .int M_deedsDone, .ref aM_rows, .ref aM_far, .ref aM_firsts, .ref aM_line, .int M_lined, .int M_toldMany, .ref aM_toldRows, .ref aM_parts, .int M_seedNow, .int M_keptNumber, .int M_keptBeings, .int M_keptDeeds, .int M_keptTold, .ref aM_keptToldRows, .long M_hash])), (aM_rows, .inl (cI, 20, .inl M_rows))]) [0, 1] rfl
          refine sw_rd (W.runV (As := [.int l2, .int l3]) (rest := []) ⟨hx, hb, hml, hown, hts⟩ (k_X6_done l dC dI cI cZ t0 aM aM_page aM_readDeeds aM_rows aM_far aM_firsts aM_line aM_toldRows aM_parts aM_keptToldRows M_pageMany M_readMany M_readBase M_state M_beings M_number M_deedsDone M_lined M_toldMany M_seedNow M_keptNumber M_keptBeings M_keptDeeds M_keptTold M_hash M_rows l2 l3 q8 hq8) (cwV 2 hts gX6_lay_X6_done rfl rfl rfl (by decide +kernel) ⟨Nat.le_of_ble_eq_true rfl, Nat.le_of_ble_eq_true rfl⟩) ⟨sw_PR_bl, va_recv hK hPc (ci := 6) (q0 := 0) rfl rfl, sw_PR_pre hK hPc hE hS⟩ rfl rfl hl.1 rfl (lv_room (Nat.le_of_ble_eq_true rfl)) dX6_lay_93 ⟨Nat.zero_le _, Nat.zero_le _⟩) ?_
          refine lv_goto (tgt := 100) hx hb dX6_lay_96 (by decide) ?_
          exact hB_100 M_lined M_far M_firsts M_line l1 l2 l3 q8 k59 hk59 (F_X6_lay_76  k59 M_beings M_rows l1 l2 fu) ih hf H locs hP hD hS ls (lv_sub hl [0, 1, 2, 3] rfl)
  have hB_59 :  ∀ (fu : Nat) (M_lined : Int32) (M_far : Nat → Int32) (M_firsts : Nat → Int32) (M_line : Nat → Int32) (l1 : Int32), F_X6_lay_59 M_beings M_rows fu M_lined M_far M_firsts M_line l1 = some (M_lined', M_far', M_firsts', M_line') → ∀ (H : Heap) (locs : List Loc), va_P (dC, dI) vwCl [(aM, .inr (6, [.ref aM_page, .int M_pageMany, .ref aM_readDeeds, .int M_readMany, .int M_readBase, .int M_state, .int M_beings, .int M_number, .int M_deedsDone, .ref aM_rows, .ref aM_far, .ref aM_firsts, .ref aM_line, .int M_lined, .int M_toldMany, .ref aM_toldRows, .ref aM_parts, .int M_seedNow, .int M_keptNumber, .int M_keptBeings, .int M_keptDeeds, .int M_keptTold, .ref aM_keptToldRows, .long M_hash])), (aM_rows, .inl (cI, 20, .inl M_rows)), (aM_far, .inl (cI, 7776, .inl M_far)), (aM_firsts, .inl (cI, 7776, .inl M_firsts)), (aM_line, .inl (cI, 7776, .inl M_line))] H → va_D A [(aM, .inr (6, [.ref aM_page, .int M_pageMany, .ref aM_readDeeds, .int M_readMany, .int M_readBase, .int M_state, .int M_beings, .int M_number, .int M_deedsDone, .ref aM_rows, .ref aM_far, .ref aM_firsts, .ref aM_line, .int M_lined, .int M_toldMany, .ref aM_toldRows, .ref aM_parts, .int M_seedNow, .int M_keptNumber, .int M_keptBeings, .int M_keptDeeds, .int M_keptTold, .ref aM_keptToldRows, .long M_hash])), (aM_rows, .inl (cI, 20, .inl M_rows)), (aM_far, .inl (cI, 7776, .inl M_far)), (aM_firsts, .inl (cI, 7776, .inl M_firsts)), (aM_line, .inl (cI, 7776, .inl M_line))] → va_S A s.heap H locs → ∀ ls : Array Slot, lv_has ls 5 [(0, .ref aM), (1, .int l1)] → W p l e rm_X6_lay s m ([.ref aM] : List Value).toArray below meth c H locs 0 0 Q (F0 m 59 ls []) := by
    intro   fu
    induction fu with
    | zero =>
      intro M_lined M_far M_firsts M_line l1 hf
      exact nomatch (show (none : Option (Int32 × (Nat → Int32) × (Nat → Int32) × (Nat → Int32))) = some (M_lined', M_far', M_firsts', M_line') from hf)
    | succ fu ih =>
      intro M_lined M_far M_firsts M_line l1 hf H locs hP hD hS ls hl
      have hf := (F_X6_lay_59.eq_2 _ _ _ _ _ _ _ _).symm.trans hf
      refine lv_iload_n hx hb dX6_lay_59 rfl (lv_at hl 1 rfl) ?_
      refine lv_aload_n hx hb dX6_lay_60 rfl (lv_at hl 0 rfl) ?_
      refine va_get (D := (dC, dI)) (ci := 6) (v := .int M_lined) (C := RX6) (T := TX6) (N := 24) hx hb hts iX6 hown hK hP 0 rfl rfl 13 (by decide) hw5 (fun _ h9 => h9) rfl dX6_lay_61 ?_
      refine lv_icmp_ge (tgt := 188) hx hb dX6_lay_64 (by decide) (fun c6 => ?_) (fun c6 => ?_)
      · have hf := sw_ip c6 hf
        subst hQ hAe
        cases hf
        exact W.vret hx hb hr (fun t ht hW => ⟨⟨(), rfl, trivial, ⟨by rw [ht]; exact hP, va_K.moved hW.alike hK, hD⟩⟩, hS.F ht⟩) hS.2.2 dX6_lay_188 hlocks
      · have hf := sw_in c6 hf
        refine lv_aload_n hx hb dX6_lay_67 rfl (lv_at hl 0 rfl) ?_
        refine va_get (D := (dC, dI)) (ci := 6) (v := .ref aM_line) (C := RX6) (T := TX6) (N := 24) hx hb hts iX6 hown hK hP 0 rfl rfl 12 (by decide) hw4 (fun _ h9 => h9) rfl dX6_lay_68 ?_
        refine lv_iload_n hx hb dX6_lay_71 rfl (lv_at hl 1 rfl) ?_
        obtain ⟨hi9, hf⟩ := sw_ix_s hf
        refine va_iald hx hb hK hP 4 0 rfl rfl hi9 dX6_lay_72 ?_
        refine lv_istore_n (lv' := [(2, .int (M_line l1.toNatClampNeg)), (0, .ref aM), (1, .int l1)]) hx hb dX6_lay_73 rfl hl (by decide) rfl (fun ls hl => ?_)
        refine lv_iconst (v := 0) hx hb dX6_lay_74 (by decide) ?_
        refine lv_istore_n (lv' := [(3, .int (0 : Int32)), (2, .int (M_line l1.toNatClampNeg)), (0, .ref aM), (1, .int l1)]) hx hb dX6_lay_75 rfl hl (by decide) rfl (fun ls hl => ?_)
        exact hB_76 l1 (M_line l1.toNatClampNeg) (F_X6_lay_59  M_beings M_rows fu) ih sw_fu M_lined M_far M_firsts M_line (0 : Int32) hf H locs hP hD hS ls (lv_sub hl [2, 3, 1, 0] rfl)
  have hB_2 : ∀ (M_firsts : Nat → Int32) (M_line : Nat → Int32), ∀ (fu : Nat) (M_far : Nat → Int32) (l1 : Int32), F_X6_lay_2 M_beings M_number M_rows M_firsts M_line fu M_far l1 = some (M_lined', M_far', M_firsts', M_line') → ∀ (H : Heap) (locs : List Loc), va_P (dC, dI) vwCl [(aM, .inr (6, [.ref aM_page, .int M_pageMany, .ref aM_readDeeds, .int M_readMany, .int M_readBase, .int M_state, .int M_beings, .int M_number, .int M_deedsDone, .ref aM_rows, .ref aM_far, .ref aM_firsts, .ref aM_line, .int M_lined, .int M_toldMany, .ref aM_toldRows, .ref aM_parts, .int M_seedNow, .int M_keptNumber, .int M_keptBeings, .int M_keptDeeds, .int M_keptTold, .ref aM_keptToldRows, .long M_hash])), (aM_rows, .inl (cI, 20, .inl M_rows)), (aM_far, .inl (cI, 7776, .inl M_far)), (aM_firsts, .inl (cI, 7776, .inl M_firsts)), (aM_line, .inl (cI, 7776, .inl M_line))] H → va_D A [(aM, .inr (6, [.ref aM_page, .int M_pageMany, .ref aM_readDeeds, .int M_readMany, .int M_readBase, .int M_state, .int M_beings, .int M_number, .int M_deedsDone, .ref aM_rows, .ref aM_far, .ref aM_firsts, .ref aM_line, .int M_lined, .int M_toldMany, .ref aM_toldRows, .ref aM_parts, .int M_seedNow, .int M_keptNumber, .int M_keptBeings, .int M_keptDeeds, .int M_keptTold, .ref aM_keptToldRows, .long M_hash])), (aM_rows, .inl (cI, 20, .inl M_rows)), (aM_far, .inl (cI, 7776, .inl M_far)), (aM_firsts, .inl (cI, 7776, .inl M_firsts)), (aM_line, .inl (cI, 7776, .inl M_line))] → va_S A s.heap H locs → ∀ ls : Array Slot, lv_has ls 5 [(0, .ref aM), (1, .int l1)] → W p l e rm_X6_lay s m ([.ref aM] : List Value).toArray below meth c H locs 0 0 Q (F0 m 2 ls []) := by
    intro M_firsts M_line  fu
    induction fu with
    | zero =>
      intro M_far l1 hf
      exact nomatch (show (none : Option (Int32 × (Nat → Int32) × (Nat → Int32) × (Nat → Int32))) = some (M_lined', M_far', M_firsts', M_line') from hf)
    | succ fu ih =>
      intro M_far l1 hf H locs hP hD hS ls hl
      have hf := (F_X6_lay_2.eq_2 _ _ _ _ _ _ _ _).symm.trans hf
      refine lv_iload_n hx hb dX6_lay_2 rfl (lv_at hl 1 rfl) ?_
      refine lv_sipush (v := 7776) hx hb dX6_lay_3 (by decide +kernel) ?_
      refine lv_icmp_ge (tgt := 22) hx hb dX6_lay_6 (by decide) (fun c7 => ?_) (fun c7 => ?_)
      · have hf := sw_ip c7 hf
        refine lv_aload_n hx hb dX6_lay_22 rfl (lv_at hl 0 rfl) ?_
        refine va_get (D := (dC, dI)) (ci := 6) (v := .ref aM_far) (C := RX6) (T := TX6) (N := 24) hx hb hts iX6 hown hK hP 0 rfl rfl 10 (by decide) hw1 (fun _ h9 => h9) rfl dX6_lay_23 ?_
        refine lv_aload_n hx hb dX6_lay_26 rfl (lv_at hl 0 rfl) ?_
        refine va_get (D := (dC, dI)) (ci := 6) (v := .int M_number) (C := RX6) (T := TX6) (N := 24) hx hb hts iX6 hown hK hP 0 rfl rfl 7 (by decide) hw2 (fun _ h9 => h9) rfl dX6_lay_27 ?_
        refine lv_iconst (v := 0) hx hb dX6_lay_30 (by decide) ?_
        obtain ⟨hi10, hf⟩ := sw_ix_s hf
        refine va_iast hx hb hK hP hD hS 2 0 rfl rfl hi10 dX6_lay_31 (fun H locs hP hD hS => ?_)
        have hP : va_P (dC, dI) vwCl [(aM, .inr (6, [.ref aM_page, .int M_pageMany, .ref aM_readDeeds, .int M_readMany, .int M_readBase, .int M_state, .int M_beings, .int M_number, .int M_deedsDone, .ref aM_rows, .ref aM_far, .ref aM_firsts, .ref aM_line, .int M_lined, .int M_toldMany, .ref aM_toldRows, .ref aM_parts, .int M_seedNow, .int M_keptNumber, .int M_keptBeings, .int M_keptDeeds, .int M_keptTold, .ref aM_keptToldRows, .long M_hash])), (aM_rows, .inl (cI, 20, .inl M_rows)), (aM_far, .inl (cI, 7776, .inl (upd M_far M_number.toNatClampNeg (0 : Int32)))), (aM_firsts, .inl (cI, 7776, .inl M_firsts)), (aM_line, .inl (cI, 7776, .inl M_line))] H := hP
        have hD : va_D A [(aM, .inr (6, [.ref aM_page, .int M_pageMany, .ref aM_readDeeds, .int M_readMany, .int M_readBase, .int M_state, .int M_beings, .int M_number, .int M_deedsDone, .ref aM_rows, .ref aM_far, .ref aM_firsts, .ref aM_line, .int M_lined, .int M_toldMany, .ref aM_toldRows, .ref aM_parts, .int M_seedNow, .int M_keptNumber, .int M_keptBeings, .int M_keptDeeds, .int M_keptTold, .ref aM_keptToldRows, .long M_hash])), (aM_rows, .inl (cI, 20, .inl M_rows)), (aM_far, .inl (cI, 7776, .inl (upd M_far M_number.toNatClampNeg (0 : Int32)))), (aM_firsts, .inl (cI, 7776, .inl M_firsts)), (aM_line, .inl (cI, 7776, .inl M_line))] := hD
        refine lv_aload_n hx hb dX6_lay_32 rfl (lv_at hl 0 rfl) ?_
        refine va_get (D := (dC, dI)) (ci := 6) (v := .ref aM_firsts) (C := RX6) (T := TX6) (N := 24) hx hb hts iX6 hown hK hP 0 rfl rfl 11 (by decide) hw3 (fun _ h9 => h9) rfl dX6_lay_33 ?_
        refine lv_aload_n hx hb dX6_lay_36 rfl (lv_at hl 0 rfl) ?_
        refine va_get (D := (dC, dI)) (ci := 6) (v := .int M_number) (C := RX6) (T := TX6) (N := 24) hx hb hts iX6 hown hK hP 0 rfl rfl 7 (by decide) hw2 (fun _ h9 => h9) rfl dX6_lay_37 ?_
        refine lv_iconst (v := -1) hx hb dX6_lay_40 (by decide) ?_
        obtain ⟨hi11, hf⟩ := sw_ix_s hf
        refine va_iast hx hb hK hP hD hS 3 0 rfl rfl hi11 dX6_lay_41 (fun H locs hP hD hS => ?_)
        have hP : va_P (dC, dI) vwCl [(aM, .inr (6, [.ref aM_page, .int M_pageMany, .ref aM_readDeeds, .int M_readMany, .int M_readBase, .int M_state, .int M_beings, .int M_number, .int M_deedsDone, .ref aM_rows, .ref aM_far, .ref aM_firsts, .ref aM_line, .int M_lined, .int M_toldMany, .ref aM_toldRows, .ref aM_parts, .int M_seedNow, .int M_keptNumber, .int M_keptBeings, .int M_keptDeeds, .int M_keptTold, .ref aM_keptToldRows, .long M_hash])), (aM_rows, .inl (cI, 20, .inl M_rows)), (aM_far, .inl (cI, 7776, .inl (upd M_far M_number.toNatClampNeg (0 : Int32)))), (aM_firsts, .inl (cI, 7776, .inl (upd M_firsts M_number.toNatClampNeg (-1 : Int32)))), (aM_line, .inl (cI, 7776, .inl M_line))] H := hP
        have hD : va_D A [(aM, .inr (6, [.ref aM_page, .int M_pageMany, .ref aM_readDeeds, .int M_readMany, .int M_readBase, .int M_state, .int M_beings, .int M_number, .int M_deedsDone, .ref aM_rows, .ref aM_far, .ref aM_firsts, .ref aM_line, .int M_lined, .int M_toldMany, .ref aM_toldRows, .ref aM_parts, .int M_seedNow, .int M_keptNumber, .int M_keptBeings, .int M_keptDeeds, .int M_keptTold, .ref aM_keptToldRows, .long M_hash])), (aM_rows, .inl (cI, 20, .inl M_rows)), (aM_far, .inl (cI, 7776, .inl (upd M_far M_number.toNatClampNeg (0 : Int32)))), (aM_firsts, .inl (cI, 7776, .inl (upd M_firsts M_number.toNatClampNeg (-1 : Int32)))), (aM_line, .inl (cI, 7776, .inl M_line))] := hD
        refine lv_aload_n hx hb dX6_lay_42 rfl (lv_at hl 0 rfl) ?_
        refine va_get (D := (dC, dI)) (ci := 6) (v := .ref aM_line) (C := RX6) (T := TX6) (N := 24) hx hb hts iX6 hown hK hP 0 rfl rfl 12 (by decide) hw4 (fun _ h9 => h9) rfl dX6_lay_43 ?_
        refine lv_iconst (v := 0) hx hb dX6_lay_46 (by decide) ?_
        refine lv_aload_n hx hb dX6_lay_47 rfl (lv_at hl 0 rfl) ?_
        refine va_get (D := (dC, dI)) (ci := 6) (v := .int M_number) (C := RX6) (T := TX6) (N := 24) hx hb hts iX6 hown hK hP 0 rfl rfl 7 (by decide) hw2 (fun _ h9 => h9) rfl dX6_lay_48 ?_
        obtain ⟨hi12, hf⟩ := sw_ix_s hf
        refine va_iast hx hb hK hP hD hS 4 0 rfl rfl hi12 dX6_lay_51 (fun H locs hP hD hS => ?_)
        have hP : va_P (dC, dI) vwCl [(aM, .inr (6, [.ref aM_page, .int M_pageMany, .ref aM_readDeeds, .int M_readMany, .int M_readBase, .int M_state, .int M_beings, .int M_number, .int M_deedsDone, .ref aM_rows, .ref aM_far, .ref aM_firsts, .ref aM_line, .int M_lined, .int M_toldMany, .ref aM_toldRows, .ref aM_parts, .int M_seedNow, .int M_keptNumber, .int M_keptBeings, .int M_keptDeeds, .int M_keptTold, .ref aM_keptToldRows, .long M_hash])), (aM_rows, .inl (cI, 20, .inl M_rows)), (aM_far, .inl (cI, 7776, .inl (upd M_far M_number.toNatClampNeg (0 : Int32)))), (aM_firsts, .inl (cI, 7776, .inl (upd M_firsts M_number.toNatClampNeg (-1 : Int32)))), (aM_line, .inl (cI, 7776, .inl (upd M_line (0 : Int32).toNatClampNeg M_number)))] H := hP
        have hD : va_D A [(aM, .inr (6, [.ref aM_page, .int M_pageMany, .ref aM_readDeeds, .int M_readMany, .int M_readBase, .int M_state, .int M_beings, .int M_number, .int M_deedsDone, .ref aM_rows, .ref aM_far, .ref aM_firsts, .ref aM_line, .int M_lined, .int M_toldMany, .ref aM_toldRows, .ref aM_parts, .int M_seedNow, .int M_keptNumber, .int M_keptBeings, .int M_keptDeeds, .int M_keptTold, .ref aM_keptToldRows, .long M_hash])), (aM_rows, .inl (cI, 20, .inl M_rows)), (aM_far, .inl (cI, 7776, .inl (upd M_far M_number.toNatClampNeg (0 : Int32)))), (aM_firsts, .inl (cI, 7776, .inl (upd M_firsts M_number.toNatClampNeg (-1 : Int32)))), (aM_line, .inl (cI, 7776, .inl (upd M_line (0 : Int32).toNatClampNeg M_number)))] := hD
        refine lv_aload_n hx hb dX6_lay_52 rfl (lv_at hl 0 rfl) ?_
        refine lv_iconst (v := 1) hx hb dX6_lay_53 (by decide) ?_
        refine va_put (D := (dC, dI)) (ci := 6) (v := .int (1 : Int32)) (ty := .int) (C := RX6) (T := TX6) (N := 24) hx hb hts iX6 tyX6 tyX6_ok nmX6 hown hK hP hD hS 0 rfl rfl 13 (by decide) hw5 (fun _ h9 => h9) rfl (by decide +kernel) rfl rfl (Nat.le_of_ble_eq_true rfl) dX6_lay_54 (fun H locs hP hD hS => ?_)
        have hP : va_P (dC, dI) vwCl [(aM, .inr (6, [.ref aM_page, .int M_pageMany, .ref aM_readDeeds, .int M_readMany, .int M_readBase, .int M_state, .int M_beings, .int M_number, .int M_deedsDone, .ref aM_rows, .ref aM_far, .ref aM_firsts, .ref aM_line, .int (1 : Int32), .int M_toldMany, .ref aM_toldRows, .ref aM_parts, .int M_seedNow, .int M_keptNumber, .int M_keptBeings, .int M_keptDeeds, .int M_keptTold, .ref aM_keptToldRows, .long M_hash])), (aM_rows, .inl (cI, 20, .inl M_rows)), (aM_far, .inl (cI, 7776, .inl (upd M_far M_number.toNatClampNeg (0 : Int32)))), (aM_firsts, .inl (cI, 7776, .inl (upd M_firsts M_number.toNatClampNeg (-1 : Int32)))), (aM_line, .inl (cI, 7776, .inl (upd M_line (0 : Int32).toNatClampNeg M_number)))] H := hP
        have hD : va_D A [(aM, .inr (6, [.ref aM_page, .int M_pageMany, .ref aM_readDeeds, .int M_readMany, .int M_readBase, .int M_state, .int M_beings, .int M_number, .int M_deedsDone, .ref aM_rows, .ref aM_far, .ref aM_firsts, .ref aM_line, .int (1 : Int32), .int M_toldMany, .ref aM_toldRows, .ref aM_parts, .int M_seedNow, .int M_keptNumber, .int M_keptBeings, .int M_keptDeeds, .int M_keptTold, .ref aM_keptToldRows, .long M_hash])), (aM_rows, .inl (cI, 20, .inl M_rows)), (aM_far, .inl (cI, 7776, .inl (upd M_far M_number.toNatClampNeg (0 : Int32)))), (aM_firsts, .inl (cI, 7776, .inl (upd M_firsts M_number.toNatClampNeg (-1 : Int32)))), (aM_line, .inl (cI, 7776, .inl (upd M_line (0 : Int32).toNatClampNeg M_number)))] := hD
        refine lv_iconst (v := 0) hx hb dX6_lay_57 (by decide) ?_
        refine lv_istore_n (lv' := [(1, .int (0 : Int32)), (0, .ref aM)]) hx hb dX6_lay_58 rfl hl (by decide) rfl (fun ls hl => ?_)
        exact hB_59   sw_fu (1 : Int32) (upd M_far M_number.toNatClampNeg (0 : Int32)) (upd M_firsts M_number.toNatClampNeg (-1 : Int32)) (upd M_line (0 : Int32).toNatClampNeg M_number) (0 : Int32) hf H locs hP hD hS ls (lv_sub hl [1, 0] rfl)
      · have hf := sw_in c7 hf
        refine lv_aload_n hx hb dX6_lay_9 rfl (lv_at hl 0 rfl) ?_
        refine va_get (D := (dC, dI)) (ci := 6) (v := .ref aM_far) (C := RX6) (T := TX6) (N := 24) hx hb hts iX6 hown hK hP 0 rfl rfl 10 (by decide) hw1 (fun _ h9 => h9) rfl dX6_lay_10 ?_
        refine lv_iload_n hx hb dX6_lay_13 rfl (lv_at hl 1 rfl) ?_
        refine lv_iconst (v := -1) hx hb dX6_lay_14 (by decide) ?_
        obtain ⟨hi13, hf⟩ := sw_ix_s hf
        refine va_iast hx hb hK hP hD hS 2 0 rfl rfl hi13 dX6_lay_15 (fun H locs hP hD hS => ?_)
        have hP : va_P (dC, dI) vwCl [(aM, .inr (6, [.ref aM_page, .int M_pageMany, .ref aM_readDeeds, .int M_readMany, .int M_readBase, .int M_state, .int M_beings, .int M_number, .int M_deedsDone, .ref aM_rows, .ref aM_far, .ref aM_firsts, .ref aM_line, .int M_lined, .int M_toldMany, .ref aM_toldRows, .ref aM_parts, .int M_seedNow, .int M_keptNumber, .int M_keptBeings, .int M_keptDeeds, .int M_keptTold, .ref aM_keptToldRows, .long M_hash])), (aM_rows, .inl (cI, 20, .inl M_rows)), (aM_far, .inl (cI, 7776, .inl (upd M_far l1.toNatClampNeg (-1 : Int32)))), (aM_firsts, .inl (cI, 7776, .inl M_firsts)), (aM_line, .inl (cI, 7776, .inl M_line))] H := hP
        have hD : va_D A [(aM, .inr (6, [.ref aM_page, .int M_pageMany, .ref aM_readDeeds, .int M_readMany, .int M_readBase, .int M_state, .int M_beings, .int M_number, .int M_deedsDone, .ref aM_rows, .ref aM_far, .ref aM_firsts, .ref aM_line, .int M_lined, .int M_toldMany, .ref aM_toldRows, .ref aM_parts, .int M_seedNow, .int M_keptNumber, .int M_keptBeings, .int M_keptDeeds, .int M_keptTold, .ref aM_keptToldRows, .long M_hash])), (aM_rows, .inl (cI, 20, .inl M_rows)), (aM_far, .inl (cI, 7776, .inl (upd M_far l1.toNatClampNeg (-1 : Int32)))), (aM_firsts, .inl (cI, 7776, .inl M_firsts)), (aM_line, .inl (cI, 7776, .inl M_line))] := hD
        refine lv_iinc (v := l1 + (1 : Int32)) (lv' := [(1, .int (l1 + (1 : Int32))), (0, .ref aM)]) hx hb dX6_lay_16 hl (k := 1) rfl (sw_ii _) (by decide) rfl (fun ls hl => ?_)
        refine lv_goto (tgt := 2) hx hb dX6_lay_19 (by decide) ?_
        exact ih (upd M_far l1.toNatClampNeg (-1 : Int32)) (l1 + (1 : Int32)) hf H locs hP hD hS ls (lv_sub hl [1, 0] rfl)
  have hf := hf0
  have hl := hl0
  have hP := hP0
  have hD := hD0
  have hS := hS0
  obtain ⟨H, hH⟩ : ∃ H, H = s.heap := ⟨_, rfl⟩
  obtain ⟨locs, hlo⟩ : ∃ locs : List Loc, locs = [] := ⟨_, rfl⟩
  rw [← hH] at hP
  have hS : va_S A s.heap H locs := by rw [hH, hlo]; exact hS0
  suffices hgo : W p l e rm_X6_lay s m ([.ref aM] : List Value).toArray below meth c H locs 0 0 Q (F0 m 0 ls []) by rw [hH, hlo] at hgo; exact hgo
  refine lv_iconst (v := 0) hx hb dX6_lay_0 (by decide) ?_
  refine lv_istore_n (lv' := [(1, .int (0 : Int32)), (0, .ref aM)]) hx hb dX6_lay_1 rfl hl (by decide) rfl (fun ls hl => ?_)
  exact hB_2 M_firsts M_line  sw_fu M_far (0 : Int32) hf H locs hP hD hS ls (lv_sub hl [1, 0] rfl)
abbrev rm_X6_areOut : Room := { frames := 2, cells := 0, slots := 0, locals := 43 }
set_option maxHeartbeats 1000000 in
set_option maxRecDepth 100000 in
theorem k_X6_areOut (l : Launch) (dC : Nat → ClassId) (dI : Nat → Nat → Nat) (cI cZ : ClassId) (t0 : Nat) (l0 : Int32) (l1 : Int32) (rv : Int32)  (hf : F_X6_areOut l0 l1 = some (rv)) : Met l yX6_areOut wsX6_areOut rm_X6_areOut (sw_PR (dC, dI) t0 [(cI, .int), (cZ, .boolean)] [.int l0, .int l1] []) (vp_Si (fun r => r = rv)) 0 0 (fun _ => False) := by
  refine sw_metR (cc := cX6_areOut) (maxL := 4) (ret := (some .boolean)) (lv := [(0, .int l0), (1, .int l1)]) (by decide) rfl (Nat.le_of_ble_eq_true rfl) rfl ?_
  intro p e s m below meth c Q hQ hx hb hr hts hown hlocks hml hP hK hE hS ls hl
  have hown : s.vm.findClass RX6 = some m.cls := hown
  have hf := (F_X6_areOut.eq_1 _ _).symm.trans hf
  have hf0 := hf
  clear hf
  have hl0 := hl
  clear hl
  have hB_4 :  ∀ (fu : Nat) (l2 : Int32) (l3 : Int32), F_X6_areOut_4 l0 l1 fu l2 l3 = some (rv) → ∀ ls : Array Slot, lv_has ls 4 [(0, .int l0), (1, .int l1), (2, .int l2), (3, .int l3)] → W p l e rm_X6_areOut s m ([.int l0, .int l1] : List Value).toArray below meth c s.heap [] 0 0 Q (F0 m 4 ls []) := by
    intro   fu
    induction fu with
    | zero =>
      intro l2 l3 hf
      exact nomatch (show (none : Option (Int32)) = some (rv) from hf)
    | succ fu ih =>
      intro l2 l3 hf ls hl
      have hf := (F_X6_areOut_4.eq_2 _ _ _ _ _).symm.trans hf
      refine lv_iload_n hx hb dX6_areOut_4 rfl (lv_at hl 3 rfl) ?_
      refine lv_iconst (v := 5) hx hb dX6_areOut_5 (by decide) ?_
      refine lv_icmp_ge (tgt := 42) hx hb dX6_areOut_6 (by decide) (fun c1 => ?_) (fun c1 => ?_)
      · have hf := sw_ip c1 hf
        refine lv_iload_n hx hb dX6_areOut_42 rfl (lv_at hl 2 rfl) ?_
        obtain ⟨hn, hf⟩ := sw_zb_s hf
        subst hQ
        exact W.zret hx hb hr hn (fun t ht hW => ⟨_, rfl, Option.some.inj hf, ht⟩) (fun _ h => absurd h List.not_mem_nil) dX6_areOut_43 hlocks
      · have hf := sw_in c1 hf
        refine lv_iload_n hx hb dX6_areOut_9 rfl (lv_at hl 2 rfl) ?_
        refine lv_if_eq (tgt := 34) hx hb dX6_areOut_10 (by decide) (fun c2 => ?_) (fun c2 => ?_)
        · have hf := sw_ip c2 hf
          refine lv_iconst (v := 0) hx hb dX6_areOut_34 (by decide) ?_
          refine lv_istore_n (lv' := [(2, .int (0 : Int32)), (0, .int l0), (1, .int l1), (3, .int l3)]) hx hb dX6_areOut_35 rfl hl (by decide) rfl (fun ls hl => ?_)
          refine lv_iinc (v := l3 + (1 : Int32)) (lv' := [(3, .int (l3 + (1 : Int32))), (2, .int (0 : Int32)), (0, .int l0), (1, .int l1)]) hx hb dX6_areOut_36 hl (k := 3) rfl (sw_ii _) (by decide) rfl (fun ls hl => ?_)
          refine lv_goto (tgt := 4) hx hb dX6_areOut_39 (by decide) ?_
          exact ih (0 : Int32) (l3 + (1 : Int32)) hf ls (lv_sub hl [2, 3, 1, 0] rfl)
        · have hf := sw_in c2 hf
          refine lv_iload_n hx hb dX6_areOut_13 rfl (lv_at hl 1 rfl) ?_
          refine lv_iload_n hx hb dX6_areOut_14 rfl (lv_at hl 3 rfl) ?_
          refine lv_ishr hx hb dX6_areOut_15 ?_
          refine lv_iconst (v := 1) hx hb dX6_areOut_16 (by decide) ?_
          refine lv_iand hx hb dX6_areOut_17 ?_
          refine lv_if_eq (tgt := 30) hx hb dX6_areOut_18 (by decide) (fun c3 => ?_) (fun c3 => ?_)
          · have hf := sw_ip c3 hf
            refine lv_iconst (v := 1) hx hb dX6_areOut_30 (by decide) ?_
            refine lv_goto (tgt := 35) hx hb dX6_areOut_31 (by decide) ?_
            refine lv_istore_n (lv' := [(2, .int (1 : Int32)), (0, .int l0), (1, .int l1), (3, .int l3)]) hx hb dX6_areOut_35 rfl hl (by decide) rfl (fun ls hl => ?_)
            refine lv_iinc (v := l3 + (1 : Int32)) (lv' := [(3, .int (l3 + (1 : Int32))), (2, .int (1 : Int32)), (0, .int l0), (1, .int l1)]) hx hb dX6_areOut_36 hl (k := 3) rfl (sw_ii _) (by decide) rfl (fun ls hl => ?_)
            refine lv_goto (tgt := 4) hx hb dX6_areOut_39 (by decide) ?_
            exact ih (1 : Int32) (l3 + (1 : Int32)) hf ls (lv_sub hl [2, 3, 1, 0] rfl)
          · have hf := sw_in c3 hf
            refine lv_iload_n hx hb dX6_areOut_21 rfl (lv_at hl 0 rfl) ?_
            refine lv_iload_n hx hb dX6_areOut_22 rfl (lv_at hl 3 rfl) ?_
            obtain ⟨q1, hq1, hf⟩ := sw_bs hf
            have hPc := hP.sub (ws' := []) [] rfl
            refine sw_rd (W.runS (As := [.int l0, .int l3]) (rest := []) ⟨hx, hb, hml, hown, hts⟩ (k_X6_holder l dC dI cI cZ t0 l0 l3 q1 hq1) (va_cwS 2 hts gX6_areOut_X6_holder rfl rfl rfl (by decide +kernel) ⟨Nat.le_of_ble_eq_true rfl, Nat.le_of_ble_eq_true rfl⟩) ⟨sw_PR_bl, sw_PR_pre hK hPc hE hS⟩ rfl rfl hl.1 rfl (lv_room (Nat.le_of_ble_eq_true rfl)) dX6_areOut_23 ⟨Nat.zero_le _, Nat.zero_le _⟩) ?_
            refine lv_iconst (v := -1) hx hb dX6_areOut_26 (by decide) ?_
            refine lv_icmp_ne (tgt := 34) hx hb dX6_areOut_27 (by decide) (fun c4 => ?_) (fun c4 => ?_)
            · have hf := sw_in c4 hf
              refine lv_iconst (v := 0) hx hb dX6_areOut_34 (by decide) ?_
              refine lv_istore_n (lv' := [(2, .int (0 : Int32)), (0, .int l0), (1, .int l1), (3, .int l3)]) hx hb dX6_areOut_35 rfl hl (by decide) rfl (fun ls hl => ?_)
              refine lv_iinc (v := l3 + (1 : Int32)) (lv' := [(3, .int (l3 + (1 : Int32))), (2, .int (0 : Int32)), (0, .int l0), (1, .int l1)]) hx hb dX6_areOut_36 hl (k := 3) rfl (sw_ii _) (by decide) rfl (fun ls hl => ?_)
              refine lv_goto (tgt := 4) hx hb dX6_areOut_39 (by decide) ?_
              exact ih (0 : Int32) (l3 + (1 : Int32)) hf ls (lv_sub hl [2, 3, 1, 0] rfl)
            · have hf := sw_ip c4 hf
              refine lv_iconst (v := 1) hx hb dX6_areOut_30 (by decide) ?_
              refine lv_goto (tgt := 35) hx hb dX6_areOut_31 (by decide) ?_
              refine lv_istore_n (lv' := [(2, .int (1 : Int32)), (0, .int l0), (1, .int l1), (3, .int l3)]) hx hb dX6_areOut_35 rfl hl (by decide) rfl (fun ls hl => ?_)
              refine lv_iinc (v := l3 + (1 : Int32)) (lv' := [(3, .int (l3 + (1 : Int32))), (2, .int (1 : Int32)), (0, .int l0), (1, .int l1)]) hx hb dX6_areOut_36 hl (k := 3) rfl (sw_ii _) (by decide) rfl (fun ls hl => ?_)
              refine lv_goto (tgt := 4) hx hb dX6_areOut_39 (by decide) ?_
              exact ih (1 : Int32) (l3 + (1 : Int32)) hf ls (lv_sub hl [2, 3, 1, 0] rfl)
  have hf := hf0
  have hl := hl0
  refine lv_iconst (v := 1) hx hb dX6_areOut_0 (by decide) ?_
  refine lv_istore_n (lv' := [(2, .int (1 : Int32)), (0, .int l0), (1, .int l1)]) hx hb dX6_areOut_1 rfl hl (by decide) rfl (fun ls hl => ?_)
  refine lv_iconst (v := 0) hx hb dX6_areOut_2 (by decide) ?_
  refine lv_istore_n (lv' := [(3, .int (0 : Int32)), (2, .int (1 : Int32)), (0, .int l0), (1, .int l1)]) hx hb dX6_areOut_3 rfl hl (by decide) rfl (fun ls hl => ?_)
  exact hB_4   sw_fu (1 : Int32) (0 : Int32) hf ls (lv_sub hl [2, 3, 1, 0] rfl)
abbrev rm_X6_soonestOf : Room := { frames := 6, cells := 0, slots := 0, locals := 143 }
set_option maxHeartbeats 1000000 in
set_option maxRecDepth 100000 in
theorem k_X6_soonestOf (l : Launch) (dC : Nat → ClassId) (dI : Nat → Nat → Nat) (cI cZ : ClassId) (t0 : Nat) (sz : Nat) (aM aM_page aM_readDeeds aM_rows aM_far aM_firsts aM_line aM_toldRows aM_parts aM_keptToldRows : Nat) (M_pageMany : Int32) (M_readMany : Int32) (M_readBase : Int32) (M_state : Int32) (M_beings : Int32) (M_number : Int32) (M_deedsDone : Int32) (M_lined : Int32) (M_toldMany : Int32) (M_seedNow : Int32) (M_keptNumber : Int32) (M_keptBeings : Int32) (M_keptDeeds : Int32) (M_keptTold : Int32) (M_hash : Int64) (M_rows : Nat → Int32) (M_far : Nat → Int32) (M_firsts : Nat → Int32) (M_line : Nat → Int32) (l1 : Int32) (l2 : Int32) (rv : Int32) (M_lined' : Int32) (M_far' : Nat → Int32) (M_firsts' : Nat → Int32) (M_line' : Nat → Int32) (hf : F_X6_soonestOf M_beings M_number M_lined M_rows M_far M_firsts M_line l1 l2 = some (rv, M_lined', M_far', M_firsts', M_line')) : Met l yX6_soonestOf wsX6_soonestOf rm_X6_soonestOf (sw_PW (dC, dI) t0 [(cI, .int), (cZ, .boolean)] [.ref aM, .int l1, .int l2] [(aM, .inr (6, [.ref aM_page, .int M_pageMany, .ref aM_readDeeds, .int M_readMany, .int M_readBase, .int M_state, .int M_beings, .int M_number, .int M_deedsDone, .ref aM_rows, .ref aM_far, .ref aM_firsts, .ref aM_line, .int M_lined, .int M_toldMany, .ref aM_toldRows, .ref aM_parts, .int M_seedNow, .int M_keptNumber, .int M_keptBeings, .int M_keptDeeds, .int M_keptTold, .ref aM_keptToldRows, .long M_hash])), (aM_rows, .inl (cI, 20, .inl M_rows)), (aM_far, .inl (cI, 7776, .inl M_far)), (aM_firsts, .inl (cI, 7776, .inl M_firsts)), (aM_line, .inl (cI, 7776, .inl M_line))] sz) (va_Qi (fun r (_ : Unit) => r = rv) (fun _ t => sw_B (dC, dI) [(cI, .int), (cZ, .boolean)] [(aM, .inr (6, [.ref aM_page, .int M_pageMany, .ref aM_readDeeds, .int M_readMany, .int M_readBase, .int M_state, .int M_beings, .int M_number, .int M_deedsDone, .ref aM_rows, .ref aM_far, .ref aM_firsts, .ref aM_line, .int M_lined', .int M_toldMany, .ref aM_toldRows, .ref aM_parts, .int M_seedNow, .int M_keptNumber, .int M_keptBeings, .int M_keptDeeds, .int M_keptTold, .ref aM_keptToldRows, .long M_hash])), (aM_rows, .inl (cI, 20, .inl M_rows)), (aM_far, .inl (cI, 7776, .inl M_far')), (aM_firsts, .inl (cI, 7776, .inl M_firsts')), (aM_line, .inl (cI, 7776, .inl M_line'))] (va_A [(aM, .inr (6, [.ref aM_page, .int M_pageMany, .ref aM_readDeeds, .int M_readMany, .int M_readBase, .int M_state, .int M_beings, .int M_number, .int M_deedsDone, .ref aM_rows, .ref aM_far, .ref aM_firsts, .ref aM_line, .int M_lined, .int M_toldMany, .ref aM_toldRows, .ref aM_parts, .int M_seedNow, .int M_keptNumber, .int M_keptBeings, .int M_keptDeeds, .int M_keptTold, .ref aM_keptToldRows, .long M_hash])), (aM_rows, .inl (cI, 20, .inl M_rows)), (aM_far, .inl (cI, 7776, .inl M_far)), (aM_firsts, .inl (cI, 7776, .inl M_firsts)), (aM_line, .inl (cI, 7776, .inl M_line))] sz) t) (va_A [(aM, .inr (6, [.ref aM_page, .int M_pageMany, .ref aM_readDeeds, .int M_readMany, .int M_readBase, .int M_state, .int M_beings, .int M_number, .int M_deedsDone, .ref aM_rows, .ref aM_far, .ref aM_firsts, .ref aM_line, .int M_lined, .int M_toldMany, .ref aM_toldRows, .ref aM_parts, .int M_seedNow, .int M_keptNumber, .int M_keptBeings, .int M_keptDeeds, .int M_keptTold, .ref aM_keptToldRows, .long M_hash])), (aM_rows, .inl (cI, 20, .inl M_rows)), (aM_far, .inl (cI, 7776, .inl M_far)), (aM_firsts, .inl (cI, 7776, .inl M_firsts)), (aM_line, .inl (cI, 7776, .inl M_line))] sz)) 0 0 (va_A [(aM, .inr (6, [.ref aM_page, .int M_pageMany, .ref aM_readDeeds, .int M_readMany, .int M_readBase, .int M_state, .int M_beings, .int M_number, .int M_deedsDone, .ref aM_rows, .ref aM_far, .ref aM_firsts, .ref aM_line, .int M_lined, .int M_toldMany, .ref aM_toldRows, .ref aM_parts, .int M_seedNow, .int M_keptNumber, .int M_keptBeings, .int M_keptDeeds, .int M_keptTold, .ref aM_keptToldRows, .long M_hash])), (aM_rows, .inl (cI, 20, .inl M_rows)), (aM_far, .inl (cI, 7776, .inl M_far)), (aM_firsts, .inl (cI, 7776, .inl M_firsts)), (aM_line, .inl (cI, 7776, .inl M_line))] sz) := by
  refine sw_metW (cc := cX6_soonestOf) (maxL := 4) (ret := (some .int)) (lv := [(0, .ref aM), (1, .int l1), (2, .int l2)]) (by decide) rfl (Nat.le_of_ble_eq_true rfl) rfl ?_
  intro p e s m below meth c Q A hsz hAe hQ hx hb hr hts hown hlocks hml hmn hP hK hD hE hS hA ls hl
  have hS0 := hS
  have hown : s.vm.findClass RX6 = some m.cls := hown
  have hf := (F_X6_soonestOf.eq_1 _ _ _ _ _ _ _ _ _).symm.trans hf
  have hw1 := hts (.fieldLink RX6 140 "SwallowedInTurnModel" "lined" "I") (List.mem_of_getElem? (i := 1) (by decide +kernel))
  have iX6 : ∀ w ∈ u_ws RX6 TX6 24, w ∈ wsX6_soonestOf := by decide +kernel
  have hw2 := hts (.fieldLink RX6 25 "SwallowedInTurnModel" "line" "[I") (List.mem_of_getElem? (i := 2) (by decide +kernel))
  have hw4 := hts (.fieldLink RX6 22 "SwallowedInTurnModel" "firsts" "[I") (List.mem_of_getElem? (i := 4) (by decide +kernel))
  have hw3 := hts (.fieldLink RX6 19 "SwallowedInTurnModel" "far" "[I") (List.mem_of_getElem? (i := 3) (by decide +kernel))
  have hf0 := hf
  clear hf
  have hP0 := hP
  have hD0 := hD
  clear hP hD hS
  have hl0 := hl
  clear hl
  have hB_6 : ∀ (M_lined : Int32) (M_far : Nat → Int32) (M_firsts : Nat → Int32) (M_line : Nat → Int32), ∀ (fu : Nat) (l3 : Int32), F_X6_soonestOf_6 M_lined M_far M_firsts M_line l1 l2 fu l3 = some (rv, M_lined', M_far', M_firsts', M_line') → ∀ (H : Heap) (locs : List Loc), va_P (dC, dI) vwCl [(aM, .inr (6, [.ref aM_page, .int M_pageMany, .ref aM_readDeeds, .int M_readMany, .int M_readBase, .int M_state, .int M_beings, .int M_number, .int M_deedsDone, .ref aM_rows, .ref aM_far, .ref aM_firsts, .ref aM_line, .int M_lined, .int M_toldMany, .ref aM_toldRows, .ref aM_parts, .int M_seedNow, .int M_keptNumber, .int M_keptBeings, .int M_keptDeeds, .int M_keptTold, .ref aM_keptToldRows, .long M_hash])), (aM_rows, .inl (cI, 20, .inl M_rows)), (aM_far, .inl (cI, 7776, .inl M_far)), (aM_firsts, .inl (cI, 7776, .inl M_firsts)), (aM_line, .inl (cI, 7776, .inl M_line))] H → va_D A [(aM, .inr (6, [.ref aM_page, .int M_pageMany, .ref aM_readDeeds, .int M_readMany, .int M_readBase, .int M_state, .int M_beings, .int M_number, .int M_deedsDone, .ref aM_rows, .ref aM_far, .ref aM_firsts, .ref aM_line, .int M_lined, .int M_toldMany, .ref aM_toldRows, .ref aM_parts, .int M_seedNow, .int M_keptNumber, .int M_keptBeings, .int M_keptDeeds, .int M_keptTold, .ref aM_keptToldRows, .long M_hash])), (aM_rows, .inl (cI, 20, .inl M_rows)), (aM_far, .inl (cI, 7776, .inl M_far)), (aM_firsts, .inl (cI, 7776, .inl M_firsts)), (aM_line, .inl (cI, 7776, .inl M_line))] → va_S A s.heap H locs → ∀ ls : Array Slot, lv_has ls 4 [(0, .ref aM), (1, .int l1), (2, .int l2), (3, .int l3)] → W p l e rm_X6_soonestOf s m ([.ref aM, .int l1, .int l2] : List Value).toArray below meth c H locs 0 0 Q (F0 m 6 ls []) := by
    intro M_lined M_far M_firsts M_line  fu
    induction fu with
    | zero =>
      intro l3 hf
      exact nomatch (show (none : Option (Int32 × Int32 × (Nat → Int32) × (Nat → Int32) × (Nat → Int32))) = some (rv, M_lined', M_far', M_firsts', M_line') from hf)
    | succ fu ih =>
      intro l3 hf H locs hP hD hS ls hl
      have hf := (F_X6_soonestOf_6.eq_2 _ _ _ _ _ _ _ _).symm.trans hf
      refine lv_iload_n hx hb dX6_soonestOf_6 rfl (lv_at hl 3 rfl) ?_
      refine lv_aload_n hx hb dX6_soonestOf_7 rfl (lv_at hl 0 rfl) ?_
      refine va_get (D := (dC, dI)) (ci := 6) (v := .int M_lined) (C := RX6) (T := TX6) (N := 24) hx hb hts iX6 hown hK hP 0 rfl rfl 13 (by decide) hw1 (fun _ h9 => h9) rfl dX6_soonestOf_8 ?_
      refine lv_icmp_ge (tgt := 63) hx hb dX6_soonestOf_11 (by decide) (fun c1 => ?_) (fun c1 => ?_)
      · have hf := sw_ip c1 hf
        refine lv_iconst (v := -1) hx hb dX6_soonestOf_63 (by decide) ?_
        subst hQ hAe
        cases hf
        exact W.iret hx hb hr (fun t ht hW => ⟨⟨_, (), rfl, rfl, ⟨by rw [ht]; exact hP, va_K.moved hW.alike hK, hD⟩⟩, hS.F ht⟩) hS.2.2 dX6_soonestOf_64 hlocks
      · have hf := sw_in c1 hf
        refine lv_aload_n hx hb dX6_soonestOf_14 rfl (lv_at hl 0 rfl) ?_
        refine va_get (D := (dC, dI)) (ci := 6) (v := .ref aM_line) (C := RX6) (T := TX6) (N := 24) hx hb hts iX6 hown hK hP 0 rfl rfl 12 (by decide) hw2 (fun _ h9 => h9) rfl dX6_soonestOf_15 ?_
        refine lv_iload_n hx hb dX6_soonestOf_18 rfl (lv_at hl 3 rfl) ?_
        obtain ⟨hi1, hf⟩ := sw_ix_s hf
        refine va_iald hx hb hK hP 4 0 rfl rfl hi1 dX6_soonestOf_19 ?_
        refine lv_iload_n hx hb dX6_soonestOf_20 rfl (lv_at hl 1 rfl) ?_
        obtain ⟨q2, hq2, hf⟩ := sw_bs hf
        have hPc := hP.sub (ws' := []) [] rfl
        refine sw_rd (W.runS (As := [.int (M_line l3.toNatClampNeg), .int l1]) (rest := []) ⟨hx, hb, hml, hown, hts⟩ (k_X6_areOut l dC dI cI cZ t0 (M_line l3.toNatClampNeg) l1 q2 hq2) (va_cwS 2 hts gX6_soonestOf_X6_areOut rfl rfl rfl (by decide +kernel) ⟨Nat.le_of_ble_eq_true rfl, Nat.le_of_ble_eq_true rfl⟩) ⟨sw_PR_bl, sw_PR_pre hK hPc hE hS⟩ rfl rfl hl.1 rfl (lv_room (Nat.le_of_ble_eq_true rfl)) dX6_soonestOf_21 ⟨Nat.zero_le _, Nat.zero_le _⟩) ?_
        refine lv_if_eq (tgt := 57) hx hb dX6_soonestOf_24 (by decide) (fun c2 => ?_) (fun c2 => ?_)
        · have hf := sw_ip c2 hf
          refine lv_iinc (v := l3 + (1 : Int32)) (lv' := [(3, .int (l3 + (1 : Int32))), (0, .ref aM), (1, .int l1), (2, .int l2)]) hx hb dX6_soonestOf_57 hl (k := 3) rfl (sw_ii _) (by decide) rfl (fun ls hl => ?_)
          refine lv_goto (tgt := 6) hx hb dX6_soonestOf_60 (by decide) ?_
          exact ih (l3 + (1 : Int32)) hf H locs hP hD hS ls (lv_sub hl [1, 2, 3, 0] rfl)
        · have hf := sw_in c2 hf
          refine lv_iload_n hx hb dX6_soonestOf_27 rfl (lv_at hl 2 rfl) ?_
          refine lv_if_ne (tgt := 45) hx hb dX6_soonestOf_28 (by decide) (fun c3 => ?_) (fun c3 => ?_)
          · have hf := sw_in c3 hf
            refine lv_aload_n hx hb dX6_soonestOf_45 rfl (lv_at hl 0 rfl) ?_
            refine va_get (D := (dC, dI)) (ci := 6) (v := .ref aM_firsts) (C := RX6) (T := TX6) (N := 24) hx hb hts iX6 hown hK hP 0 rfl rfl 11 (by decide) hw4 (fun _ h9 => h9) rfl dX6_soonestOf_46 ?_
            refine lv_aload_n hx hb dX6_soonestOf_49 rfl (lv_at hl 0 rfl) ?_
            refine va_get (D := (dC, dI)) (ci := 6) (v := .ref aM_line) (C := RX6) (T := TX6) (N := 24) hx hb hts iX6 hown hK hP 0 rfl rfl 12 (by decide) hw2 (fun _ h9 => h9) rfl dX6_soonestOf_50 ?_
            refine lv_iload_n hx hb dX6_soonestOf_53 rfl (lv_at hl 3 rfl) ?_
            obtain ⟨hi3, hf⟩ := sw_ix_s hf
            refine va_iald hx hb hK hP 4 0 rfl rfl hi3 dX6_soonestOf_54 ?_
            obtain ⟨hi4, hf⟩ := sw_ix_s hf
            refine va_iald hx hb hK hP 3 0 rfl rfl hi4 dX6_soonestOf_55 ?_
            subst hQ hAe
            cases hf
            exact W.iret hx hb hr (fun t ht hW => ⟨⟨_, (), rfl, rfl, ⟨by rw [ht]; exact hP, va_K.moved hW.alike hK, hD⟩⟩, hS.F ht⟩) hS.2.2 dX6_soonestOf_56 hlocks
          · have hf := sw_ip c3 hf
            refine lv_aload_n hx hb dX6_soonestOf_31 rfl (lv_at hl 0 rfl) ?_
            refine va_get (D := (dC, dI)) (ci := 6) (v := .ref aM_far) (C := RX6) (T := TX6) (N := 24) hx hb hts iX6 hown hK hP 0 rfl rfl 10 (by decide) hw3 (fun _ h9 => h9) rfl dX6_soonestOf_32 ?_
            refine lv_aload_n hx hb dX6_soonestOf_35 rfl (lv_at hl 0 rfl) ?_
            refine va_get (D := (dC, dI)) (ci := 6) (v := .ref aM_line) (C := RX6) (T := TX6) (N := 24) hx hb hts iX6 hown hK hP 0 rfl rfl 12 (by decide) hw2 (fun _ h9 => h9) rfl dX6_soonestOf_36 ?_
            refine lv_iload_n hx hb dX6_soonestOf_39 rfl (lv_at hl 3 rfl) ?_
            obtain ⟨hi5, hf⟩ := sw_ix_s hf
            refine va_iald hx hb hK hP 4 0 rfl rfl hi5 dX6_soonestOf_40 ?_
            obtain ⟨hi6, hf⟩ := sw_ix_s hf
            refine va_iald hx hb hK hP 2 0 rfl rfl hi6 dX6_soonestOf_41 ?_
            refine lv_goto (tgt := 56) hx hb dX6_soonestOf_42 (by decide) ?_
            subst hQ hAe
            cases hf
            exact W.iret hx hb hr (fun t ht hW => ⟨⟨_, (), rfl, rfl, ⟨by rw [ht]; exact hP, va_K.moved hW.alike hK, hD⟩⟩, hS.F ht⟩) hS.2.2 dX6_soonestOf_56 hlocks
  have hf := hf0
  have hl := hl0
  have hP := hP0
  have hD := hD0
  have hS := hS0
  obtain ⟨H, hH⟩ : ∃ H, H = s.heap := ⟨_, rfl⟩
  obtain ⟨locs, hlo⟩ : ∃ locs : List Loc, locs = [] := ⟨_, rfl⟩
  rw [← hH] at hP
  have hS : va_S A s.heap H locs := by rw [hH, hlo]; exact hS0
  suffices hgo : W p l e rm_X6_soonestOf s m ([.ref aM, .int l1, .int l2] : List Value).toArray below meth c H locs 0 0 Q (F0 m 0 ls []) by rw [hH, hlo] at hgo; exact hgo
  refine lv_aload_n hx hb dX6_soonestOf_0 rfl (lv_at hl 0 rfl) ?_
  obtain ⟨q7, hq7, hf⟩ := sw_bs hf
  have hPc := hP.sub (ws' := [(aM, .inr (6, [.ref aM_page, .int M_pageMany, .ref aM_readDeeds, .int M_readMany, .int M_readBase, .int M_state, .int M_beings, .int M_number, .int M_deedsDone, .ref aM_rows, .ref aM_far, .ref aM_firsts, .ref aM_line, .int M_lined, .int M_toldMany, .ref aM_toldRows, .ref aM_parts, .int M_seedNow, .int M_keptNumber, .int M_keptBeings, .int M_keptDeeds, .int M_keptTold, .ref aM_keptToldRows, .long M_hash])), (aM_rows, .inl (cI, 20, .inl M_rows)), (aM_far, .inl (cI, 7776, .inl M_far)), (aM_firsts, .inl (cI, 7776, .inl M_firsts)), (aM_line, .inl (cI, 7776, .inl M_line))]) [0, 1, 2, 3, 4] rfl
  have hDc := hD.sub (ws' := [(aM, .inr (6, [.ref aM_page, .int M_pageMany, .ref aM_readDeeds, .int M_readMany, .int M_readBase, .int M_state, .int M_beings, .int M_number, .int M_deedsDone, .ref aM_rows, .ref aM_far, .ref aM_firsts, .ref aM_line, .int M_lined, .int M_toldMany, .ref aM_toldRows, .ref aM_parts, .int M_seedNow, .int M_keptNumber, .int M_keptBeings, .int M_keptDeeds, .int M_keptTold, .ref aM_keptToldRows, .long M_hash])), (aM_rows, .inl (cI, 20, .inl M_rows)), (aM_far, .inl (cI, 7776, .inl M_far)), (aM_firsts, .inl (cI, 7776, .inl M_firsts)), (aM_line, .inl (cI, 7776, .inl M_line))]) [0, 1, 2, 3, 4] (by decide) rfl
  have hFc := va_free (wc := [(aM, .inr (6, [.ref aM_page, .int M_pageMany, .ref aM_readDeeds, .int M_readMany, .int M_readBase, .int M_state, .int M_beings, .int M_number, .int M_deedsDone, .ref aM_rows, .ref aM_far, .ref aM_firsts, .ref aM_line, .int M_lined, .int M_toldMany, .ref aM_toldRows, .ref aM_parts, .int M_seedNow, .int M_keptNumber, .int M_keptBeings, .int M_keptDeeds, .int M_keptTold, .ref aM_keptToldRows, .long M_hash])), (aM_rows, .inl (cI, 20, .inl M_rows)), (aM_far, .inl (cI, 7776, .inl M_far)), (aM_firsts, .inl (cI, 7776, .inl M_firsts)), (aM_line, .inl (cI, 7776, .inl M_line))]) hD hS hA [0, 1, 2, 3, 4] rfl
  refine sw_wv (wn := [(aM, .inr (6, [.ref aM_page, .int M_pageMany, .ref aM_readDeeds, .int M_readMany, .int M_readBase, .int M_state, .int M_beings, .int M_number, .int M_deedsDone, .ref aM_rows, .ref aM_far, .ref aM_firsts, .ref aM_line, .int q7.1, .int M_toldMany, .ref aM_toldRows, .ref aM_parts, .int M_seedNow, .int M_keptNumber, .int M_keptBeings, .int M_keptDeeds, .int M_keptTold, .ref aM_keptToldRows, .long M_hash])), (aM_rows, .inl (cI, 20, .inl M_rows)), (aM_far, .inl (cI, 7776, .inl q7.2.1)), (aM_firsts, .inl (cI, 7776, .inl q7.2.2.1)), (aM_line, .inl (cI, 7776, .inl q7.2.2.2))]) (w1 := [(aM, .inr (6, [.ref aM_page, .int M_pageMany, .ref aM_readDeeds, .int M_readMany, .int M_readBase, .int M_state, .int M_beings, .int M_number, .int M_deedsDone, .ref aM_rows, .ref aM_far, .ref aM_firsts, .ref aM_line, .int q7.1, .int M_toldMany, .ref aM_toldRows, .ref aM_parts, .int M_seedNow, .int M_keptNumber, .int M_keptBeings, .int M_keptDeeds, .int M_keptTold, .ref aM_keptToldRows, .long M_hash])), (aM_rows, .inl (cI, 20, .inl M_rows)), (aM_far, .inl (cI, 7776, .inl q7.2.1)), (aM_firsts, .inl (cI, 7776, .inl q7.2.2.1)), (aM_line, .inl (cI, 7776, .inl q7.2.2.2))]) (wr := []) (va_runV (As := []) (rest := []) ⟨hx, hb, hml, hown, hts⟩ (k_X6_lay l dC dI cI cZ t0 H.size aM aM_page aM_readDeeds aM_rows aM_far aM_firsts aM_line aM_toldRows aM_parts aM_keptToldRows M_pageMany M_readMany M_readBase M_state M_beings M_number M_deedsDone M_lined M_toldMany M_seedNow M_keptNumber M_keptBeings M_keptDeeds M_keptTold M_hash M_rows M_far M_firsts M_line q7.1 q7.2.1 q7.2.2.1 q7.2.2.2 hq7) (cwV 0 hts gX6_soonestOf_X6_lay rfl rfl rfl (by decide +kernel) ⟨Nat.le_of_ble_eq_true rfl, Nat.le_of_ble_eq_true rfl⟩) ⟨sw_PW_bl, va_recv hK hPc (ci := 6) (q0 := 0) rfl rfl, sw_PW_pre hK hPc hDc hE hS hFc⟩ rfl rfl hl.1 rfl (lv_room (Nat.le_of_ble_eq_true rfl)) dX6_soonestOf_1 ⟨Nat.zero_le _, Nat.zero_le _⟩) hS hP hD hFc [0, 1, 2, 3, 4] [] [0, 1, 2, 3, 4] rfl rfl (by decide) (by decide) (by decide) rfl (fun H locs hP hD hS => ?_)
  refine lv_iconst (v := 0) hx hb dX6_soonestOf_4 (by decide) ?_
  refine lv_istore_n (lv' := [(3, .int (0 : Int32)), (0, .ref aM), (1, .int l1), (2, .int l2)]) hx hb dX6_soonestOf_5 rfl hl (by decide) rfl (fun ls hl => ?_)
  exact hB_6 q7.1 q7.2.1 q7.2.2.1 q7.2.2.2  sw_fu (0 : Int32) hf H locs hP hD hS ls (lv_sub hl [1, 2, 3, 0] rfl)
abbrev rm_X6_soonest : Room := { frames := 7, cells := 0, slots := 0, locals := 166 }
set_option maxHeartbeats 1000000 in
set_option maxRecDepth 100000 in
theorem k_X6_soonest (l : Launch) (dC : Nat → ClassId) (dI : Nat → Nat → Nat) (cI cZ : ClassId) (t0 : Nat) (sz : Nat) (aM aM_page aM_readDeeds aM_rows aM_far aM_firsts aM_line aM_toldRows aM_parts aM_keptToldRows : Nat) (M_pageMany : Int32) (M_readMany : Int32) (M_readBase : Int32) (M_state : Int32) (M_beings : Int32) (M_number : Int32) (M_deedsDone : Int32) (M_lined : Int32) (M_toldMany : Int32) (M_seedNow : Int32) (M_keptNumber : Int32) (M_keptBeings : Int32) (M_keptDeeds : Int32) (M_keptTold : Int32) (M_hash : Int64) (M_rows : Nat → Int32) (M_far : Nat → Int32) (M_firsts : Nat → Int32) (M_line : Nat → Int32) (l1 : Int32) (l2 : Int32) (rv : Int32) (M_lined' : Int32) (M_far' : Nat → Int32) (M_firsts' : Nat → Int32) (M_line' : Nat → Int32) (hf : F_X6_soonest M_beings M_number M_lined M_rows M_far M_firsts M_line l1 l2 = some (rv, M_lined', M_far', M_firsts', M_line')) : Met l yX6_soonest wsX6_soonest rm_X6_soonest (sw_PW (dC, dI) t0 [(cI, .int), (cZ, .boolean)] [.ref aM, .int l1, .int l2] [(aM, .inr (6, [.ref aM_page, .int M_pageMany, .ref aM_readDeeds, .int M_readMany, .int M_readBase, .int M_state, .int M_beings, .int M_number, .int M_deedsDone, .ref aM_rows, .ref aM_far, .ref aM_firsts, .ref aM_line, .int M_lined, .int M_toldMany, .ref aM_toldRows, .ref aM_parts, .int M_seedNow, .int M_keptNumber, .int M_keptBeings, .int M_keptDeeds, .int M_keptTold, .ref aM_keptToldRows, .long M_hash])), (aM_rows, .inl (cI, 20, .inl M_rows)), (aM_far, .inl (cI, 7776, .inl M_far)), (aM_firsts, .inl (cI, 7776, .inl M_firsts)), (aM_line, .inl (cI, 7776, .inl M_line))] sz) (va_Qi (fun r (_ : Unit) => r = rv) (fun _ t => sw_B (dC, dI) [(cI, .int), (cZ, .boolean)] [(aM, .inr (6, [.ref aM_page, .int M_pageMany, .ref aM_readDeeds, .int M_readMany, .int M_readBase, .int M_state, .int M_beings, .int M_number, .int M_deedsDone, .ref aM_rows, .ref aM_far, .ref aM_firsts, .ref aM_line, .int M_lined', .int M_toldMany, .ref aM_toldRows, .ref aM_parts, .int M_seedNow, .int M_keptNumber, .int M_keptBeings, .int M_keptDeeds, .int M_keptTold, .ref aM_keptToldRows, .long M_hash])), (aM_rows, .inl (cI, 20, .inl M_rows)), (aM_far, .inl (cI, 7776, .inl M_far')), (aM_firsts, .inl (cI, 7776, .inl M_firsts')), (aM_line, .inl (cI, 7776, .inl M_line'))] (va_A [(aM, .inr (6, [.ref aM_page, .int M_pageMany, .ref aM_readDeeds, .int M_readMany, .int M_readBase, .int M_state, .int M_beings, .int M_number, .int M_deedsDone, .ref aM_rows, .ref aM_far, .ref aM_firsts, .ref aM_line, .int M_lined, .int M_toldMany, .ref aM_toldRows, .ref aM_parts, .int M_seedNow, .int M_keptNumber, .int M_keptBeings, .int M_keptDeeds, .int M_keptTold, .ref aM_keptToldRows, .long M_hash])), (aM_rows, .inl (cI, 20, .inl M_rows)), (aM_far, .inl (cI, 7776, .inl M_far)), (aM_firsts, .inl (cI, 7776, .inl M_firsts)), (aM_line, .inl (cI, 7776, .inl M_line))] sz) t) (va_A [(aM, .inr (6, [.ref aM_page, .int M_pageMany, .ref aM_readDeeds, .int M_readMany, .int M_readBase, .int M_state, .int M_beings, .int M_number, .int M_deedsDone, .ref aM_rows, .ref aM_far, .ref aM_firsts, .ref aM_line, .int M_lined, .int M_toldMany, .ref aM_toldRows, .ref aM_parts, .int M_seedNow, .int M_keptNumber, .int M_keptBeings, .int M_keptDeeds, .int M_keptTold, .ref aM_keptToldRows, .long M_hash])), (aM_rows, .inl (cI, 20, .inl M_rows)), (aM_far, .inl (cI, 7776, .inl M_far)), (aM_firsts, .inl (cI, 7776, .inl M_firsts)), (aM_line, .inl (cI, 7776, .inl M_line))] sz)) 0 0 (va_A [(aM, .inr (6, [.ref aM_page, .int M_pageMany, .ref aM_readDeeds, .int M_readMany, .int M_readBase, .int M_state, .int M_beings, .int M_number, .int M_deedsDone, .ref aM_rows, .ref aM_far, .ref aM_firsts, .ref aM_line, .int M_lined, .int M_toldMany, .ref aM_toldRows, .ref aM_parts, .int M_seedNow, .int M_keptNumber, .int M_keptBeings, .int M_keptDeeds, .int M_keptTold, .ref aM_keptToldRows, .long M_hash])), (aM_rows, .inl (cI, 20, .inl M_rows)), (aM_far, .inl (cI, 7776, .inl M_far)), (aM_firsts, .inl (cI, 7776, .inl M_firsts)), (aM_line, .inl (cI, 7776, .inl M_line))] sz) := by
  refine sw_metW (cc := cX6_soonest) (maxL := 3) (ret := (some .int)) (lv := [(0, .ref aM), (1, .int l1), (2, .int l2)]) (by decide) rfl (Nat.le_of_ble_eq_true rfl) rfl ?_
  intro p e s m below meth c Q A hsz hAe hQ hx hb hr hts hown hlocks hml hmn hP hK hD hE hS hA ls hl
  have hS0 := hS
  have hown : s.vm.findClass RX6 = some m.cls := hown
  have hf := (F_X6_soonest.eq_1 _ _ _ _ _ _ _ _ _).symm.trans hf
  have hw1 := hts (.fieldLink RX6 72 "SwallowedInTurnModel" "beings" "I") (List.mem_of_getElem? (i := 1) (by decide +kernel))
  have iX6 : ∀ w ∈ u_ws RX6 TX6 24, w ∈ wsX6_soonest := by decide +kernel
  obtain ⟨H, hH⟩ : ∃ H, H = s.heap := ⟨_, rfl⟩
  obtain ⟨locs, hlo⟩ : ∃ locs : List Loc, locs = [] := ⟨_, rfl⟩
  rw [← hH] at hP
  have hS : va_S A s.heap H locs := by rw [hH, hlo]; exact hS0
  suffices hgo : W p l e rm_X6_soonest s m ([.ref aM, .int l1, .int l2] : List Value).toArray below meth c H locs 0 0 Q (F0 m 0 ls []) by rw [hH, hlo] at hgo; exact hgo
  refine lv_iload_n hx hb dX6_soonest_0 rfl (lv_at hl 1 rfl) ?_
  refine lv_i2l (v := (l1).toInt64) hx hb dX6_soonest_1 rfl ?_
  refine lv_lconst (v := 0) hx hb dX6_soonest_2 (by decide) ?_
  refine lv_iconst (v := 1) hx hb dX6_soonest_3 (by decide) ?_
  refine lv_aload_n hx hb dX6_soonest_4 rfl (lv_at hl 0 rfl) ?_
  refine va_get (D := (dC, dI)) (ci := 6) (v := .int M_beings) (C := RX6) (T := TX6) (N := 24) hx hb hts iX6 hown hK hP 0 rfl rfl 6 (by decide) hw1 (fun _ h9 => h9) rfl dX6_soonest_5 ?_
  refine lv_ishl hx hb dX6_soonest_8 ?_
  refine lv_iconst (v := 1) hx hb dX6_soonest_9 (by decide) ?_
  refine lv_isub hx hb dX6_soonest_10 ?_
  refine lv_i2l (v := (((1 : Int32) <<< (M_beings &&& 31)) - (1 : Int32)).toInt64) hx hb dX6_soonest_11 rfl ?_
  obtain ⟨q1, hq1, hf⟩ := sw_bs hf
  have hPc := hP.sub (ws' := []) [] rfl
  refine sw_rd (W.runS (As := [.long ((l1).toInt64), .long (0 : Int64), .long ((((1 : Int32) <<< (M_beings &&& 31)) - (1 : Int32)).toInt64)]) (rest := []) ⟨hx, hb, hml, hown, hts⟩ (k_X6_in l dC dI cI cZ t0 ((l1).toInt64) (0 : Int64) ((((1 : Int32) <<< (M_beings &&& 31)) - (1 : Int32)).toInt64) q1 hq1) (va_cwS 3 hts gX6_soonest_X6_in rfl rfl rfl (by decide +kernel) ⟨Nat.le_of_ble_eq_true rfl, Nat.le_of_ble_eq_true rfl⟩) ⟨sw_PR_bl, sw_PR_pre hK hPc hE hS⟩ rfl rfl hl.1 rfl (lv_room (Nat.le_of_ble_eq_true rfl)) dX6_soonest_12 ⟨Nat.zero_le _, Nat.zero_le _⟩) ?_
  refine lv_if_eq (tgt := 37) hx hb dX6_soonest_15 (by decide) (fun c1 => ?_) (fun c1 => ?_)
  · have hf := sw_ip c1 hf
    refine lv_bipush (v := -102) hx hb dX6_soonest_37 (by decide) ?_
    subst hQ hAe
    cases hf
    exact W.iret hx hb hr (fun t ht hW => ⟨⟨_, (), rfl, rfl, ⟨by rw [ht]; exact hP, va_K.moved hW.alike hK, hD⟩⟩, hS.F ht⟩) hS.2.2 dX6_soonest_39 hlocks
  · have hf := sw_in c1 hf
    refine lv_iload_n hx hb dX6_soonest_18 rfl (lv_at hl 2 rfl) ?_
    refine lv_i2l (v := (l2).toInt64) hx hb dX6_soonest_19 rfl ?_
    refine lv_lconst (v := 0) hx hb dX6_soonest_20 (by decide) ?_
    refine lv_lconst (v := 1) hx hb dX6_soonest_21 (by decide) ?_
    obtain ⟨q2, hq2, hf⟩ := sw_bs hf
    have hPc := hP.sub (ws' := []) [] rfl
    refine sw_rd (W.runS (As := [.long ((l2).toInt64), .long (0 : Int64), .long (1 : Int64)]) (rest := []) ⟨hx, hb, hml, hown, hts⟩ (k_X6_in l dC dI cI cZ t0 ((l2).toInt64) (0 : Int64) (1 : Int64) q2 hq2) (va_cwS 3 hts gX6_soonest_X6_in rfl rfl rfl (by decide +kernel) ⟨Nat.le_of_ble_eq_true rfl, Nat.le_of_ble_eq_true rfl⟩) ⟨sw_PR_bl, sw_PR_pre hK hPc hE hS⟩ rfl rfl hl.1 rfl (lv_room (Nat.le_of_ble_eq_true rfl)) dX6_soonest_22 ⟨Nat.zero_le _, Nat.zero_le _⟩) ?_
    refine lv_if_eq (tgt := 37) hx hb dX6_soonest_25 (by decide) (fun c2 => ?_) (fun c2 => ?_)
    · have hf := sw_ip c2 hf
      refine lv_bipush (v := -102) hx hb dX6_soonest_37 (by decide) ?_
      subst hQ hAe
      cases hf
      exact W.iret hx hb hr (fun t ht hW => ⟨⟨_, (), rfl, rfl, ⟨by rw [ht]; exact hP, va_K.moved hW.alike hK, hD⟩⟩, hS.F ht⟩) hS.2.2 dX6_soonest_39 hlocks
    · have hf := sw_in c2 hf
      refine lv_aload_n hx hb dX6_soonest_28 rfl (lv_at hl 0 rfl) ?_
      refine lv_iload_n hx hb dX6_soonest_29 rfl (lv_at hl 1 rfl) ?_
      refine lv_iload_n hx hb dX6_soonest_30 rfl (lv_at hl 2 rfl) ?_
      obtain ⟨q3, hq3, hf⟩ := sw_bs hf
      have hPc := hP.sub (ws' := [(aM, .inr (6, [.ref aM_page, .int M_pageMany, .ref aM_readDeeds, .int M_readMany, .int M_readBase, .int M_state, .int M_beings, .int M_number, .int M_deedsDone, .ref aM_rows, .ref aM_far, .ref aM_firsts, .ref aM_line, .int M_lined, .int M_toldMany, .ref aM_toldRows, .ref aM_parts, .int M_seedNow, .int M_keptNumber, .int M_keptBeings, .int M_keptDeeds, .int M_keptTold, .ref aM_keptToldRows, .long M_hash])), (aM_rows, .inl (cI, 20, .inl M_rows)), (aM_far, .inl (cI, 7776, .inl M_far)), (aM_firsts, .inl (cI, 7776, .inl M_firsts)), (aM_line, .inl (cI, 7776, .inl M_line))]) [0, 1, 2, 3, 4] rfl
      have hDc := hD.sub (ws' := [(aM, .inr (6, [.ref aM_page, .int M_pageMany, .ref aM_readDeeds, .int M_readMany, .int M_readBase, .int M_state, .int M_beings, .int M_number, .int M_deedsDone, .ref aM_rows, .ref aM_far, .ref aM_firsts, .ref aM_line, .int M_lined, .int M_toldMany, .ref aM_toldRows, .ref aM_parts, .int M_seedNow, .int M_keptNumber, .int M_keptBeings, .int M_keptDeeds, .int M_keptTold, .ref aM_keptToldRows, .long M_hash])), (aM_rows, .inl (cI, 20, .inl M_rows)), (aM_far, .inl (cI, 7776, .inl M_far)), (aM_firsts, .inl (cI, 7776, .inl M_firsts)), (aM_line, .inl (cI, 7776, .inl M_line))]) [0, 1, 2, 3, 4] (by decide) rfl
      have hFc := va_free (wc := [(aM, .inr (6, [.ref aM_page, .int M_pageMany, .ref aM_readDeeds, .int M_readMany, .int M_readBase, .int M_state, .int M_beings, .int M_number, .int M_deedsDone, .ref aM_rows, .ref aM_far, .ref aM_firsts, .ref aM_line, .int M_lined, .int M_toldMany, .ref aM_toldRows, .ref aM_parts, .int M_seedNow, .int M_keptNumber, .int M_keptBeings, .int M_keptDeeds, .int M_keptTold, .ref aM_keptToldRows, .long M_hash])), (aM_rows, .inl (cI, 20, .inl M_rows)), (aM_far, .inl (cI, 7776, .inl M_far)), (aM_firsts, .inl (cI, 7776, .inl M_firsts)), (aM_line, .inl (cI, 7776, .inl M_line))]) hD hS hA [0, 1, 2, 3, 4] rfl
      refine sw_wi (wn := [(aM, .inr (6, [.ref aM_page, .int M_pageMany, .ref aM_readDeeds, .int M_readMany, .int M_readBase, .int M_state, .int M_beings, .int M_number, .int M_deedsDone, .ref aM_rows, .ref aM_far, .ref aM_firsts, .ref aM_line, .int q3.2.1, .int M_toldMany, .ref aM_toldRows, .ref aM_parts, .int M_seedNow, .int M_keptNumber, .int M_keptBeings, .int M_keptDeeds, .int M_keptTold, .ref aM_keptToldRows, .long M_hash])), (aM_rows, .inl (cI, 20, .inl M_rows)), (aM_far, .inl (cI, 7776, .inl q3.2.2.1)), (aM_firsts, .inl (cI, 7776, .inl q3.2.2.2.1)), (aM_line, .inl (cI, 7776, .inl q3.2.2.2.2))]) (w1 := [(aM, .inr (6, [.ref aM_page, .int M_pageMany, .ref aM_readDeeds, .int M_readMany, .int M_readBase, .int M_state, .int M_beings, .int M_number, .int M_deedsDone, .ref aM_rows, .ref aM_far, .ref aM_firsts, .ref aM_line, .int q3.2.1, .int M_toldMany, .ref aM_toldRows, .ref aM_parts, .int M_seedNow, .int M_keptNumber, .int M_keptBeings, .int M_keptDeeds, .int M_keptTold, .ref aM_keptToldRows, .long M_hash])), (aM_rows, .inl (cI, 20, .inl M_rows)), (aM_far, .inl (cI, 7776, .inl q3.2.2.1)), (aM_firsts, .inl (cI, 7776, .inl q3.2.2.2.1)), (aM_line, .inl (cI, 7776, .inl q3.2.2.2.2))]) (wr := []) (va_runV (As := [.int l1, .int l2]) (rest := []) ⟨hx, hb, hml, hown, hts⟩ (k_X6_soonestOf l dC dI cI cZ t0 H.size aM aM_page aM_readDeeds aM_rows aM_far aM_firsts aM_line aM_toldRows aM_parts aM_keptToldRows M_pageMany M_readMany M_readBase M_state M_beings M_number M_deedsDone M_lined M_toldMany M_seedNow M_keptNumber M_keptBeings M_keptDeeds M_keptTold M_hash M_rows M_far M_firsts M_line l1 l2 q3.1 q3.2.1 q3.2.2.1 q3.2.2.2.1 q3.2.2.2.2 hq3) (cwV 2 hts gX6_soonest_X6_soonestOf rfl rfl rfl (by decide +kernel) ⟨Nat.le_of_ble_eq_true rfl, Nat.le_of_ble_eq_true rfl⟩) ⟨sw_PW_bl, va_recv hK hPc (ci := 6) (q0 := 0) rfl rfl, sw_PW_pre hK hPc hDc hE hS hFc⟩ rfl rfl hl.1 rfl (lv_room (Nat.le_of_ble_eq_true rfl)) dX6_soonest_31 ⟨Nat.zero_le _, Nat.zero_le _⟩) hS hP hD hFc [0, 1, 2, 3, 4] [] [0, 1, 2, 3, 4] rfl rfl (by decide) (by decide) (by decide) rfl (fun H locs hP hD hS => ?_)
      refine lv_goto (tgt := 39) hx hb dX6_soonest_34 (by decide) ?_
      subst hQ hAe
      cases hf
      exact W.iret hx hb hr (fun t ht hW => ⟨⟨_, (), rfl, rfl, ⟨by rw [ht]; exact hP, va_K.moved hW.alike hK, hD⟩⟩, hS.F ht⟩) hS.2.2 dX6_soonest_39 hlocks
abbrev rm_X6_together : Room := { frames := 6, cells := 0, slots := 0, locals := 143 }
set_option maxHeartbeats 1000000 in
set_option maxRecDepth 100000 in
theorem k_X6_together (l : Launch) (dC : Nat → ClassId) (dI : Nat → Nat → Nat) (cI cZ : ClassId) (t0 : Nat) (sz : Nat) (aM aM_page aM_readDeeds aM_rows aM_far aM_firsts aM_line aM_toldRows aM_parts aM_keptToldRows : Nat) (M_pageMany : Int32) (M_readMany : Int32) (M_readBase : Int32) (M_state : Int32) (M_beings : Int32) (M_number : Int32) (M_deedsDone : Int32) (M_lined : Int32) (M_toldMany : Int32) (M_seedNow : Int32) (M_keptNumber : Int32) (M_keptBeings : Int32) (M_keptDeeds : Int32) (M_keptTold : Int32) (M_hash : Int64) (M_rows : Nat → Int32) (M_far : Nat → Int32) (M_firsts : Nat → Int32) (M_line : Nat → Int32) (l1 : Int32) (l2 : Int32) (rv : Int32) (M_lined' : Int32) (M_far' : Nat → Int32) (M_firsts' : Nat → Int32) (M_line' : Nat → Int32) (hf : F_X6_together M_beings M_number M_lined M_rows M_far M_firsts M_line l1 l2 = some (rv, M_lined', M_far', M_firsts', M_line')) : Met l yX6_together wsX6_together rm_X6_together (sw_PW (dC, dI) t0 [(cI, .int), (cZ, .boolean)] [.ref aM, .int l1, .int l2] [(aM, .inr (6, [.ref aM_page, .int M_pageMany, .ref aM_readDeeds, .int M_readMany, .int M_readBase, .int M_state, .int M_beings, .int M_number, .int M_deedsDone, .ref aM_rows, .ref aM_far, .ref aM_firsts, .ref aM_line, .int M_lined, .int M_toldMany, .ref aM_toldRows, .ref aM_parts, .int M_seedNow, .int M_keptNumber, .int M_keptBeings, .int M_keptDeeds, .int M_keptTold, .ref aM_keptToldRows, .long M_hash])), (aM_rows, .inl (cI, 20, .inl M_rows)), (aM_far, .inl (cI, 7776, .inl M_far)), (aM_firsts, .inl (cI, 7776, .inl M_firsts)), (aM_line, .inl (cI, 7776, .inl M_line))] sz) (va_Qi (fun r (_ : Unit) => r = rv) (fun _ t => sw_B (dC, dI) [(cI, .int), (cZ, .boolean)] [(aM, .inr (6, [.ref aM_page, .int M_pageMany, .ref aM_readDeeds, .int M_readMany, .int M_readBase, .int M_state, .int M_beings, .int M_number, .int M_deedsDone, .ref aM_rows, .ref aM_far, .ref aM_firsts, .ref aM_line, .int M_lined', .int M_toldMany, .ref aM_toldRows, .ref aM_parts, .int M_seedNow, .int M_keptNumber, .int M_keptBeings, .int M_keptDeeds, .int M_keptTold, .ref aM_keptToldRows, .long M_hash])), (aM_rows, .inl (cI, 20, .inl M_rows)), (aM_far, .inl (cI, 7776, .inl M_far')), (aM_firsts, .inl (cI, 7776, .inl M_firsts')), (aM_line, .inl (cI, 7776, .inl M_line'))] (va_A [(aM, .inr (6, [.ref aM_page, .int M_pageMany, .ref aM_readDeeds, .int M_readMany, .int M_readBase, .int M_state, .int M_beings, .int M_number, .int M_deedsDone, .ref aM_rows, .ref aM_far, .ref aM_firsts, .ref aM_line, .int M_lined, .int M_toldMany, .ref aM_toldRows, .ref aM_parts, .int M_seedNow, .int M_keptNumber, .int M_keptBeings, .int M_keptDeeds, .int M_keptTold, .ref aM_keptToldRows, .long M_hash])), (aM_rows, .inl (cI, 20, .inl M_rows)), (aM_far, .inl (cI, 7776, .inl M_far)), (aM_firsts, .inl (cI, 7776, .inl M_firsts)), (aM_line, .inl (cI, 7776, .inl M_line))] sz) t) (va_A [(aM, .inr (6, [.ref aM_page, .int M_pageMany, .ref aM_readDeeds, .int M_readMany, .int M_readBase, .int M_state, .int M_beings, .int M_number, .int M_deedsDone, .ref aM_rows, .ref aM_far, .ref aM_firsts, .ref aM_line, .int M_lined, .int M_toldMany, .ref aM_toldRows, .ref aM_parts, .int M_seedNow, .int M_keptNumber, .int M_keptBeings, .int M_keptDeeds, .int M_keptTold, .ref aM_keptToldRows, .long M_hash])), (aM_rows, .inl (cI, 20, .inl M_rows)), (aM_far, .inl (cI, 7776, .inl M_far)), (aM_firsts, .inl (cI, 7776, .inl M_firsts)), (aM_line, .inl (cI, 7776, .inl M_line))] sz)) 0 0 (va_A [(aM, .inr (6, [.ref aM_page, .int M_pageMany, .ref aM_readDeeds, .int M_readMany, .int M_readBase, .int M_state, .int M_beings, .int M_number, .int M_deedsDone, .ref aM_rows, .ref aM_far, .ref aM_firsts, .ref aM_line, .int M_lined, .int M_toldMany, .ref aM_toldRows, .ref aM_parts, .int M_seedNow, .int M_keptNumber, .int M_keptBeings, .int M_keptDeeds, .int M_keptTold, .ref aM_keptToldRows, .long M_hash])), (aM_rows, .inl (cI, 20, .inl M_rows)), (aM_far, .inl (cI, 7776, .inl M_far)), (aM_firsts, .inl (cI, 7776, .inl M_firsts)), (aM_line, .inl (cI, 7776, .inl M_line))] sz) := by
  refine sw_metW (cc := cX6_together) (maxL := 4) (ret := (some .int)) (lv := [(0, .ref aM), (1, .int l1), (2, .int l2)]) (by decide) rfl (Nat.le_of_ble_eq_true rfl) rfl ?_
  intro p e s m below meth c Q A hsz hAe hQ hx hb hr hts hown hlocks hml hmn hP hK hD hE hS hA ls hl
  have hS0 := hS
  have hown : s.vm.findClass RX6 = some m.cls := hown
  have hf := (F_X6_together.eq_1 _ _ _ _ _ _ _ _ _).symm.trans hf
  have hw1 := hts (.fieldLink RX6 140 "SwallowedInTurnModel" "lined" "I") (List.mem_of_getElem? (i := 1) (by decide +kernel))
  have iX6 : ∀ w ∈ u_ws RX6 TX6 24, w ∈ wsX6_together := by decide +kernel
  have hw2 := hts (.fieldLink RX6 25 "SwallowedInTurnModel" "line" "[I") (List.mem_of_getElem? (i := 2) (by decide +kernel))
  have hw3 := hts (.fieldLink RX6 19 "SwallowedInTurnModel" "far" "[I") (List.mem_of_getElem? (i := 3) (by decide +kernel))
  have hf0 := hf
  clear hf
  have hP0 := hP
  have hD0 := hD
  clear hP hD hS
  have hl0 := hl
  clear hl
  have hB_30 : ∀ (M_lined : Int32) (M_far : Nat → Int32) (M_firsts : Nat → Int32) (M_line : Nat → Int32), ∀ (fu : Nat) (l3 : Int32), F_X6_together_30 M_lined M_far M_firsts M_line l1 l2 fu l3 = some (rv, M_lined', M_far', M_firsts', M_line') → ∀ (H : Heap) (locs : List Loc), va_P (dC, dI) vwCl [(aM, .inr (6, [.ref aM_page, .int M_pageMany, .ref aM_readDeeds, .int M_readMany, .int M_readBase, .int M_state, .int M_beings, .int M_number, .int M_deedsDone, .ref aM_rows, .ref aM_far, .ref aM_firsts, .ref aM_line, .int M_lined, .int M_toldMany, .ref aM_toldRows, .ref aM_parts, .int M_seedNow, .int M_keptNumber, .int M_keptBeings, .int M_keptDeeds, .int M_keptTold, .ref aM_keptToldRows, .long M_hash])), (aM_rows, .inl (cI, 20, .inl M_rows)), (aM_far, .inl (cI, 7776, .inl M_far)), (aM_firsts, .inl (cI, 7776, .inl M_firsts)), (aM_line, .inl (cI, 7776, .inl M_line))] H → va_D A [(aM, .inr (6, [.ref aM_page, .int M_pageMany, .ref aM_readDeeds, .int M_readMany, .int M_readBase, .int M_state, .int M_beings, .int M_number, .int M_deedsDone, .ref aM_rows, .ref aM_far, .ref aM_firsts, .ref aM_line, .int M_lined, .int M_toldMany, .ref aM_toldRows, .ref aM_parts, .int M_seedNow, .int M_keptNumber, .int M_keptBeings, .int M_keptDeeds, .int M_keptTold, .ref aM_keptToldRows, .long M_hash])), (aM_rows, .inl (cI, 20, .inl M_rows)), (aM_far, .inl (cI, 7776, .inl M_far)), (aM_firsts, .inl (cI, 7776, .inl M_firsts)), (aM_line, .inl (cI, 7776, .inl M_line))] → va_S A s.heap H locs → ∀ ls : Array Slot, lv_has ls 4 [(0, .ref aM), (1, .int l1), (2, .int l2), (3, .int l3)] → W p l e rm_X6_together s m ([.ref aM, .int l1, .int l2] : List Value).toArray below meth c H locs 0 0 Q (F0 m 30 ls []) := by
    intro M_lined M_far M_firsts M_line  fu
    induction fu with
    | zero =>
      intro l3 hf
      exact nomatch (show (none : Option (Int32 × Int32 × (Nat → Int32) × (Nat → Int32) × (Nat → Int32))) = some (rv, M_lined', M_far', M_firsts', M_line') from hf)
    | succ fu ih =>
      intro l3 hf H locs hP hD hS ls hl
      have hf := (F_X6_together_30.eq_2 _ _ _ _ _ _ _ _).symm.trans hf
      refine lv_iload_n hx hb dX6_together_30 rfl (lv_at hl 3 rfl) ?_
      refine lv_aload_n hx hb dX6_together_31 rfl (lv_at hl 0 rfl) ?_
      refine va_get (D := (dC, dI)) (ci := 6) (v := .int M_lined) (C := RX6) (T := TX6) (N := 24) hx hb hts iX6 hown hK hP 0 rfl rfl 13 (by decide) hw1 (fun _ h9 => h9) rfl dX6_together_32 ?_
      refine lv_icmp_ge (tgt := 79) hx hb dX6_together_35 (by decide) (fun c1 => ?_) (fun c1 => ?_)
      · have hf := sw_ip c1 hf
        refine lv_iconst (v := -1) hx hb dX6_together_79 (by decide) ?_
        subst hQ hAe
        cases hf
        exact W.iret hx hb hr (fun t ht hW => ⟨⟨_, (), rfl, rfl, ⟨by rw [ht]; exact hP, va_K.moved hW.alike hK, hD⟩⟩, hS.F ht⟩) hS.2.2 dX6_together_80 hlocks
      · have hf := sw_in c1 hf
        refine lv_aload_n hx hb dX6_together_38 rfl (lv_at hl 0 rfl) ?_
        refine va_get (D := (dC, dI)) (ci := 6) (v := .ref aM_line) (C := RX6) (T := TX6) (N := 24) hx hb hts iX6 hown hK hP 0 rfl rfl 12 (by decide) hw2 (fun _ h9 => h9) rfl dX6_together_39 ?_
        refine lv_iload_n hx hb dX6_together_42 rfl (lv_at hl 3 rfl) ?_
        obtain ⟨hi1, hf⟩ := sw_ix_s hf
        refine va_iald hx hb hK hP 4 0 rfl rfl hi1 dX6_together_43 ?_
        refine lv_iload_n hx hb dX6_together_44 rfl (lv_at hl 1 rfl) ?_
        obtain ⟨q2, hq2, hf⟩ := sw_bs hf
        have hPc := hP.sub (ws' := []) [] rfl
        refine sw_rd (W.runS (As := [.int (M_line l3.toNatClampNeg), .int l1]) (rest := []) ⟨hx, hb, hml, hown, hts⟩ (k_X6_holder l dC dI cI cZ t0 (M_line l3.toNatClampNeg) l1 q2 hq2) (va_cwS 2 hts gX6_together_X6_holder rfl rfl rfl (by decide +kernel) ⟨Nat.le_of_ble_eq_true rfl, Nat.le_of_ble_eq_true rfl⟩) ⟨sw_PR_bl, sw_PR_pre hK hPc hE hS⟩ rfl rfl hl.1 rfl (lv_room (Nat.le_of_ble_eq_true rfl)) dX6_together_45 ⟨Nat.zero_le _, Nat.zero_le _⟩) ?_
        refine lv_aload_n hx hb dX6_together_48 rfl (lv_at hl 0 rfl) ?_
        refine va_get (D := (dC, dI)) (ci := 6) (v := .ref aM_line) (C := RX6) (T := TX6) (N := 24) hx hb hts iX6 hown hK hP 0 rfl rfl 12 (by decide) hw2 (fun _ h9 => h9) rfl dX6_together_49 ?_
        refine lv_iload_n hx hb dX6_together_52 rfl (lv_at hl 3 rfl) ?_
        obtain ⟨hi3, hf⟩ := sw_ix_s hf
        refine va_iald hx hb hK hP 4 0 rfl rfl hi3 dX6_together_53 ?_
        refine lv_iload_n hx hb dX6_together_54 rfl (lv_at hl 2 rfl) ?_
        obtain ⟨q4, hq4, hf⟩ := sw_bs hf
        have hPc := hP.sub (ws' := []) [] rfl
        refine sw_rd (W.runS (As := [.int (M_line l3.toNatClampNeg), .int l2]) (rest := [.int q2]) ⟨hx, hb, hml, hown, hts⟩ (k_X6_holder l dC dI cI cZ t0 (M_line l3.toNatClampNeg) l2 q4 hq4) (va_cwS 2 hts gX6_together_X6_holder rfl rfl rfl (by decide +kernel) ⟨Nat.le_of_ble_eq_true rfl, Nat.le_of_ble_eq_true rfl⟩) ⟨sw_PR_bl, sw_PR_pre hK hPc hE hS⟩ rfl rfl hl.1 rfl (lv_room (Nat.le_of_ble_eq_true rfl)) dX6_together_55 ⟨Nat.zero_le _, Nat.zero_le _⟩) ?_
        refine lv_icmp_ne (tgt := 73) hx hb dX6_together_58 (by decide) (fun c2 => ?_) (fun c2 => ?_)
        · have hf := sw_in c2 hf
          refine lv_iinc (v := l3 + (1 : Int32)) (lv' := [(3, .int (l3 + (1 : Int32))), (0, .ref aM), (1, .int l1), (2, .int l2)]) hx hb dX6_together_73 hl (k := 3) rfl (sw_ii _) (by decide) rfl (fun ls hl => ?_)
          refine lv_goto (tgt := 30) hx hb dX6_together_76 (by decide) ?_
          exact ih (l3 + (1 : Int32)) hf H locs hP hD hS ls (lv_sub hl [1, 2, 3, 0] rfl)
        · have hf := sw_ip c2 hf
          refine lv_aload_n hx hb dX6_together_61 rfl (lv_at hl 0 rfl) ?_
          refine va_get (D := (dC, dI)) (ci := 6) (v := .ref aM_far) (C := RX6) (T := TX6) (N := 24) hx hb hts iX6 hown hK hP 0 rfl rfl 10 (by decide) hw3 (fun _ h9 => h9) rfl dX6_together_62 ?_
          refine lv_aload_n hx hb dX6_together_65 rfl (lv_at hl 0 rfl) ?_
          refine va_get (D := (dC, dI)) (ci := 6) (v := .ref aM_line) (C := RX6) (T := TX6) (N := 24) hx hb hts iX6 hown hK hP 0 rfl rfl 12 (by decide) hw2 (fun _ h9 => h9) rfl dX6_together_66 ?_
          refine lv_iload_n hx hb dX6_together_69 rfl (lv_at hl 3 rfl) ?_
          obtain ⟨hi5, hf⟩ := sw_ix_s hf
          refine va_iald hx hb hK hP 4 0 rfl rfl hi5 dX6_together_70 ?_
          obtain ⟨hi6, hf⟩ := sw_ix_s hf
          refine va_iald hx hb hK hP 2 0 rfl rfl hi6 dX6_together_71 ?_
          subst hQ hAe
          cases hf
          exact W.iret hx hb hr (fun t ht hW => ⟨⟨_, (), rfl, rfl, ⟨by rw [ht]; exact hP, va_K.moved hW.alike hK, hD⟩⟩, hS.F ht⟩) hS.2.2 dX6_together_72 hlocks
  have hf := hf0
  have hl := hl0
  have hP := hP0
  have hD := hD0
  have hS := hS0
  obtain ⟨H, hH⟩ : ∃ H, H = s.heap := ⟨_, rfl⟩
  obtain ⟨locs, hlo⟩ : ∃ locs : List Loc, locs = [] := ⟨_, rfl⟩
  rw [← hH] at hP
  have hS : va_S A s.heap H locs := by rw [hH, hlo]; exact hS0
  suffices hgo : W p l e rm_X6_together s m ([.ref aM, .int l1, .int l2] : List Value).toArray below meth c H locs 0 0 Q (F0 m 0 ls []) by rw [hH, hlo] at hgo; exact hgo
  refine lv_aload_n hx hb dX6_together_0 rfl (lv_at hl 0 rfl) ?_
  refine lv_iload_n hx hb dX6_together_1 rfl (lv_at hl 1 rfl) ?_
  obtain ⟨q7, hq7, hf⟩ := sw_bs hf
  have hPc := hP.sub (ws' := [(aM, .inr (6, [.ref aM_page, .int M_pageMany, .ref aM_readDeeds, .int M_readMany, .int M_readBase, .int M_state, .int M_beings, .int M_number, .int M_deedsDone, .ref aM_rows, .ref aM_far, .ref aM_firsts, .ref aM_line, .int M_lined, .int M_toldMany, .ref aM_toldRows, .ref aM_parts, .int M_seedNow, .int M_keptNumber, .int M_keptBeings, .int M_keptDeeds, .int M_keptTold, .ref aM_keptToldRows, .long M_hash]))]) [0] rfl
  refine sw_rd (W.runV (As := [.int l1]) (rest := []) ⟨hx, hb, hml, hown, hts⟩ (k_X6_isBeing l dC dI cI cZ t0 aM aM_page aM_readDeeds aM_rows aM_far aM_firsts aM_line aM_toldRows aM_parts aM_keptToldRows M_pageMany M_readMany M_readBase M_state M_beings M_number M_deedsDone M_lined M_toldMany M_seedNow M_keptNumber M_keptBeings M_keptDeeds M_keptTold M_hash l1 q7 hq7) (cwV 1 hts gX6_together_X6_isBeing rfl rfl rfl (by decide +kernel) ⟨Nat.le_of_ble_eq_true rfl, Nat.le_of_ble_eq_true rfl⟩) ⟨sw_PR_bl, va_recv hK hPc (ci := 6) (q0 := 0) rfl rfl, sw_PR_pre hK hPc hE hS⟩ rfl rfl hl.1 rfl (lv_room (Nat.le_of_ble_eq_true rfl)) dX6_together_2 ⟨Nat.zero_le _, Nat.zero_le _⟩) ?_
  refine lv_if_eq (tgt := 21) hx hb dX6_together_5 (by decide) (fun c3 => ?_) (fun c3 => ?_)
  · have hf := sw_ip c3 hf
    refine lv_bipush (v := -101) hx hb dX6_together_21 (by decide) ?_
    subst hQ hAe
    cases hf
    exact W.iret hx hb hr (fun t ht hW => ⟨⟨_, (), rfl, rfl, ⟨by rw [ht]; exact hP, va_K.moved hW.alike hK, hD⟩⟩, hS.F ht⟩) hS.2.2 dX6_together_23 hlocks
  · have hf := sw_in c3 hf
    refine lv_aload_n hx hb dX6_together_8 rfl (lv_at hl 0 rfl) ?_
    refine lv_iload_n hx hb dX6_together_9 rfl (lv_at hl 2 rfl) ?_
    obtain ⟨q8, hq8, hf⟩ := sw_bs hf
    have hPc := hP.sub (ws' := [(aM, .inr (6, [.ref aM_page, .int M_pageMany, .ref aM_readDeeds, .int M_readMany, .int M_readBase, .int M_state, .int M_beings, .int M_number, .int M_deedsDone, .ref aM_rows, .ref aM_far, .ref aM_firsts, .ref aM_line, .int M_lined, .int M_toldMany, .ref aM_toldRows, .ref aM_parts, .int M_seedNow, .int M_keptNumber, .int M_keptBeings, .int M_keptDeeds, .int M_keptTold, .ref aM_keptToldRows, .long M_hash]))]) [0] rfl
    refine sw_rd (W.runV (As := [.int l2]) (rest := []) ⟨hx, hb, hml, hown, hts⟩ (k_X6_isBeing l dC dI cI cZ t0 aM aM_page aM_readDeeds aM_rows aM_far aM_firsts aM_line aM_toldRows aM_parts aM_keptToldRows M_pageMany M_readMany M_readBase M_state M_beings M_number M_deedsDone M_lined M_toldMany M_seedNow M_keptNumber M_keptBeings M_keptDeeds M_keptTold M_hash l2 q8 hq8) (cwV 1 hts gX6_together_X6_isBeing rfl rfl rfl (by decide +kernel) ⟨Nat.le_of_ble_eq_true rfl, Nat.le_of_ble_eq_true rfl⟩) ⟨sw_PR_bl, va_recv hK hPc (ci := 6) (q0 := 0) rfl rfl, sw_PR_pre hK hPc hE hS⟩ rfl rfl hl.1 rfl (lv_room (Nat.le_of_ble_eq_true rfl)) dX6_together_10 ⟨Nat.zero_le _, Nat.zero_le _⟩) ?_
    refine lv_if_eq (tgt := 21) hx hb dX6_together_13 (by decide) (fun c4 => ?_) (fun c4 => ?_)
    · have hf := sw_ip c4 hf
      refine lv_bipush (v := -101) hx hb dX6_together_21 (by decide) ?_
      subst hQ hAe
      cases hf
      exact W.iret hx hb hr (fun t ht hW => ⟨⟨_, (), rfl, rfl, ⟨by rw [ht]; exact hP, va_K.moved hW.alike hK, hD⟩⟩, hS.F ht⟩) hS.2.2 dX6_together_23 hlocks
    · have hf := sw_in c4 hf
      refine lv_iload_n hx hb dX6_together_16 rfl (lv_at hl 1 rfl) ?_
      refine lv_iload_n hx hb dX6_together_17 rfl (lv_at hl 2 rfl) ?_
      refine lv_icmp_ne (tgt := 24) hx hb dX6_together_18 (by decide) (fun c5 => ?_) (fun c5 => ?_)
      · have hf := sw_in c5 hf
        refine lv_aload_n hx hb dX6_together_24 rfl (lv_at hl 0 rfl) ?_
        obtain ⟨q9, hq9, hf⟩ := sw_bs hf
        have hPc := hP.sub (ws' := [(aM, .inr (6, [.ref aM_page, .int M_pageMany, .ref aM_readDeeds, .int M_readMany, .int M_readBase, .int M_state, .int M_beings, .int M_number, .int M_deedsDone, .ref aM_rows, .ref aM_far, .ref aM_firsts, .ref aM_line, .int M_lined, .int M_toldMany, .ref aM_toldRows, .ref aM_parts, .int M_seedNow, .int M_keptNumber, .int M_keptBeings, .int M_keptDeeds, .int M_keptTold, .ref aM_keptToldRows, .long M_hash])), (aM_rows, .inl (cI, 20, .inl M_rows)), (aM_far, .inl (cI, 7776, .inl M_far)), (aM_firsts, .inl (cI, 7776, .inl M_firsts)), (aM_line, .inl (cI, 7776, .inl M_line))]) [0, 1, 2, 3, 4] rfl
        have hDc := hD.sub (ws' := [(aM, .inr (6, [.ref aM_page, .int M_pageMany, .ref aM_readDeeds, .int M_readMany, .int M_readBase, .int M_state, .int M_beings, .int M_number, .int M_deedsDone, .ref aM_rows, .ref aM_far, .ref aM_firsts, .ref aM_line, .int M_lined, .int M_toldMany, .ref aM_toldRows, .ref aM_parts, .int M_seedNow, .int M_keptNumber, .int M_keptBeings, .int M_keptDeeds, .int M_keptTold, .ref aM_keptToldRows, .long M_hash])), (aM_rows, .inl (cI, 20, .inl M_rows)), (aM_far, .inl (cI, 7776, .inl M_far)), (aM_firsts, .inl (cI, 7776, .inl M_firsts)), (aM_line, .inl (cI, 7776, .inl M_line))]) [0, 1, 2, 3, 4] (by decide) rfl
        have hFc := va_free (wc := [(aM, .inr (6, [.ref aM_page, .int M_pageMany, .ref aM_readDeeds, .int M_readMany, .int M_readBase, .int M_state, .int M_beings, .int M_number, .int M_deedsDone, .ref aM_rows, .ref aM_far, .ref aM_firsts, .ref aM_line, .int M_lined, .int M_toldMany, .ref aM_toldRows, .ref aM_parts, .int M_seedNow, .int M_keptNumber, .int M_keptBeings, .int M_keptDeeds, .int M_keptTold, .ref aM_keptToldRows, .long M_hash])), (aM_rows, .inl (cI, 20, .inl M_rows)), (aM_far, .inl (cI, 7776, .inl M_far)), (aM_firsts, .inl (cI, 7776, .inl M_firsts)), (aM_line, .inl (cI, 7776, .inl M_line))]) hD hS hA [0, 1, 2, 3, 4] rfl
        refine sw_wv (wn := [(aM, .inr (6, [.ref aM_page, .int M_pageMany, .ref aM_readDeeds, .int M_readMany, .int M_readBase, .int M_state, .int M_beings, .int M_number, .int M_deedsDone, .ref aM_rows, .ref aM_far, .ref aM_firsts, .ref aM_line, .int q9.1, .int M_toldMany, .ref aM_toldRows, .ref aM_parts, .int M_seedNow, .int M_keptNumber, .int M_keptBeings, .int M_keptDeeds, .int M_keptTold, .ref aM_keptToldRows, .long M_hash])), (aM_rows, .inl (cI, 20, .inl M_rows)), (aM_far, .inl (cI, 7776, .inl q9.2.1)), (aM_firsts, .inl (cI, 7776, .inl q9.2.2.1)), (aM_line, .inl (cI, 7776, .inl q9.2.2.2))]) (w1 := [(aM, .inr (6, [.ref aM_page, .int M_pageMany, .ref aM_readDeeds, .int M_readMany, .int M_readBase, .int M_state, .int M_beings, .int M_number, .int M_deedsDone, .ref aM_rows, .ref aM_far, .ref aM_firsts, .ref aM_line, .int q9.1, .int M_toldMany, .ref aM_toldRows, .ref aM_parts, .int M_seedNow, .int M_keptNumber, .int M_keptBeings, .int M_keptDeeds, .int M_keptTold, .ref aM_keptToldRows, .long M_hash])), (aM_rows, .inl (cI, 20, .inl M_rows)), (aM_far, .inl (cI, 7776, .inl q9.2.1)), (aM_firsts, .inl (cI, 7776, .inl q9.2.2.1)), (aM_line, .inl (cI, 7776, .inl q9.2.2.2))]) (wr := []) (va_runV (As := []) (rest := []) ⟨hx, hb, hml, hown, hts⟩ (k_X6_lay l dC dI cI cZ t0 H.size aM aM_page aM_readDeeds aM_rows aM_far aM_firsts aM_line aM_toldRows aM_parts aM_keptToldRows M_pageMany M_readMany M_readBase M_state M_beings M_number M_deedsDone M_lined M_toldMany M_seedNow M_keptNumber M_keptBeings M_keptDeeds M_keptTold M_hash M_rows M_far M_firsts M_line q9.1 q9.2.1 q9.2.2.1 q9.2.2.2 hq9) (cwV 0 hts gX6_together_X6_lay rfl rfl rfl (by decide +kernel) ⟨Nat.le_of_ble_eq_true rfl, Nat.le_of_ble_eq_true rfl⟩) ⟨sw_PW_bl, va_recv hK hPc (ci := 6) (q0 := 0) rfl rfl, sw_PW_pre hK hPc hDc hE hS hFc⟩ rfl rfl hl.1 rfl (lv_room (Nat.le_of_ble_eq_true rfl)) dX6_together_25 ⟨Nat.zero_le _, Nat.zero_le _⟩) hS hP hD hFc [0, 1, 2, 3, 4] [] [0, 1, 2, 3, 4] rfl rfl (by decide) (by decide) (by decide) rfl (fun H locs hP hD hS => ?_)
        refine lv_iconst (v := 0) hx hb dX6_together_28 (by decide) ?_
        refine lv_istore_n (lv' := [(3, .int (0 : Int32)), (0, .ref aM), (1, .int l1), (2, .int l2)]) hx hb dX6_together_29 rfl hl (by decide) rfl (fun ls hl => ?_)
        exact hB_30 q9.1 q9.2.1 q9.2.2.1 q9.2.2.2  sw_fu (0 : Int32) hf H locs hP hD hS ls (lv_sub hl [1, 2, 3, 0] rfl)
      · have hf := sw_ip c5 hf
        refine lv_bipush (v := -101) hx hb dX6_together_21 (by decide) ?_
        subst hQ hAe
        cases hf
        exact W.iret hx hb hr (fun t ht hW => ⟨⟨_, (), rfl, rfl, ⟨by rw [ht]; exact hP, va_K.moved hW.alike hK, hD⟩⟩, hS.F ht⟩) hS.2.2 dX6_together_23 hlocks
