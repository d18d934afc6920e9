abbrev rm_X6_in : Room := { frames := 0, cells := 0, slots := 0, locals := 0 }
set_option maxHeartbeats 1000000 in
set_option maxRecDepth 100000 in
theorem k_X6_in (l : Launch) (dC : Nat → ClassId) (dI : Nat → Nat → Nat) (cI cZ : ClassId) (t0 : Nat) (l0 : Int64) (l2 : Int64) (l4 : Int64) (rv : Int32)  (hf : F_X6_in l0 l2 l4 = some (rv)) : Met l yX6_in wsX6_in rm_X6_in (sw_PR (dC, dI) t0 [(cI, .int), (cZ, .boolean)] [.long l0, .long l2, .long l4] []) (vp_Si (fun r => r = rv)) 0 0 (fun _ => False) := by
  refine sw_metR (cc := cX6_in) (maxL := 6) (ret := (some .boolean)) (lv := [(0, .long l0), (2, .long l2), (4, .long l4)]) (by decide) rfl (Nat.le_of_ble_eq_true rfl) rfl ?_
  intro p e s m below meth c Q hQ hx hb hr hts hown hlocks hml hP hK hE hS ls hl
  have hown : s.vm.findClass RX6 = some m.cls := hown
  have hf := (F_X6_in.eq_1 _ _ _).symm.trans hf
  refine lv_lload_n hx hb dX6_in_0 rfl (lv_at hl 0 rfl) ?_
  refine lv_lload_n hx hb dX6_in_1 rfl (lv_at hl 1 rfl) ?_
  refine W.lcmp hx hb dX6_in_2 ?_
  refine lv_if_lt (tgt := 17) hx hb dX6_in_3 (by decide) (fun c1 => ?_) (fun c1 => ?_)
  · have hf := sw_ip c1 hf
    refine lv_iconst (v := 0) hx hb dX6_in_17 (by decide) ?_
    subst hQ
    exact W.zret hx hb hr rfl (fun t ht hW => ⟨_, rfl, Option.some.inj hf, ht⟩) (fun _ h => absurd h List.not_mem_nil) dX6_in_18 hlocks
  · have hf := sw_in c1 hf
    refine lv_lload_n hx hb dX6_in_6 rfl (lv_at hl 0 rfl) ?_
    refine lv_lload hx hb dX6_in_7 (lv_at hl 2 rfl) ?_
    refine W.lcmp hx hb dX6_in_9 ?_
    refine lv_if_gt (tgt := 17) hx hb dX6_in_10 (by decide) (fun c2 => ?_) (fun c2 => ?_)
    · have hf := sw_ip c2 hf
      refine lv_iconst (v := 0) hx hb dX6_in_17 (by decide) ?_
      subst hQ
      exact W.zret hx hb hr rfl (fun t ht hW => ⟨_, rfl, Option.some.inj hf, ht⟩) (fun _ h => absurd h List.not_mem_nil) dX6_in_18 hlocks
    · have hf := sw_in c2 hf
      refine lv_iconst (v := 1) hx hb dX6_in_13 (by decide) ?_
      refine lv_goto (tgt := 18) hx hb dX6_in_14 (by decide) ?_
      subst hQ
      exact W.zret hx hb hr rfl (fun t ht hW => ⟨_, rfl, Option.some.inj hf, ht⟩) (fun _ h => absurd h List.not_mem_nil) dX6_in_18 hlocks
abbrev rm_X6_letter : Room := { frames := 1, cells := 0, slots := 0, locals := 25 }
set_option maxHeartbeats 1000000 in
set_option maxRecDepth 100000 in
theorem k_X6_letter (l : Launch) (dC : Nat → ClassId) (dI : Nat → Nat → Nat) (cI cZ : ClassId) (t0 : Nat) (sz : Nat) (aM aM_page aM_readDeeds aM_rows aM_far aM_firsts aM_line aM_toldRows aM_parts aM_keptToldRows : Nat) (M_pageMany : Int32) (M_readMany : Int32) (M_readBase : Int32) (M_state : Int32) (M_beings : Int32) (M_number : Int32) (M_deedsDone : Int32) (M_lined : Int32) (M_toldMany : Int32) (M_seedNow : Int32) (M_keptNumber : Int32) (M_keptBeings : Int32) (M_keptDeeds : Int32) (M_keptTold : Int32) (M_hash : Int64) (M_page : Nat → Int32) (l1 : Int32) (rv : Int32) (M_pageMany' : Int32) (M_page' : Nat → Int32) (hf : F_X6_letter M_pageMany M_page l1 = some (rv, M_pageMany', M_page')) : Met l yX6_letter wsX6_letter rm_X6_letter (sw_PW (dC, dI) t0 [(cI, .int), (cZ, .boolean)] [.ref aM, .int l1] [(aM, .inr (6, [.ref aM_page, .int M_pageMany, .ref aM_readDeeds, .int M_readMany, .int M_readBase, .int M_state, .int M_beings, .int M_number, .int M_deedsDone, .ref aM_rows, .ref aM_far, .ref aM_firsts, .ref aM_line, .int M_lined, .int M_toldMany, .ref aM_toldRows, .ref aM_parts, .int M_seedNow, .int M_keptNumber, .int M_keptBeings, .int M_keptDeeds, .int M_keptTold, .ref aM_keptToldRows, .long M_hash])), (aM_page, .inl (cI, 40, .inl M_page))] sz) (va_Qi (fun r (_ : Unit) => r = rv) (fun _ t => sw_B (dC, dI) [(cI, .int), (cZ, .boolean)] [(aM, .inr (6, [.ref aM_page, .int M_pageMany', .ref aM_readDeeds, .int M_readMany, .int M_readBase, .int M_state, .int M_beings, .int M_number, .int M_deedsDone, .ref aM_rows, .ref aM_far, .ref aM_firsts, .ref aM_line, .int M_lined, .int M_toldMany, .ref aM_toldRows, .ref aM_parts, .int M_seedNow, .int M_keptNumber, .int M_keptBeings, .int M_keptDeeds, .int M_keptTold, .ref aM_keptToldRows, .long M_hash])), (aM_page, .inl (cI, 40, .inl M_page'))] (va_A [(aM, .inr (6, [.ref aM_page, .int M_pageMany, .ref aM_readDeeds, .int M_readMany, .int M_readBase, .int M_state, .int M_beings, .int M_number, .int M_deedsDone, .ref aM_rows, .ref aM_far, .ref aM_firsts, .ref aM_line, .int M_lined, .int M_toldMany, .ref aM_toldRows, .ref aM_parts, .int M_seedNow, .int M_keptNumber, .int M_keptBeings, .int M_keptDeeds, .int M_keptTold, .ref aM_keptToldRows, .long M_hash])), (aM_page, .inl (cI, 40, .inl M_page))] sz) t) (va_A [(aM, .inr (6, [.ref aM_page, .int M_pageMany, .ref aM_readDeeds, .int M_readMany, .int M_readBase, .int M_state, .int M_beings, .int M_number, .int M_deedsDone, .ref aM_rows, .ref aM_far, .ref aM_firsts, .ref aM_line, .int M_lined, .int M_toldMany, .ref aM_toldRows, .ref aM_parts, .int M_seedNow, .int M_keptNumber, .int M_keptBeings, .int M_keptDeeds, .int M_keptTold, .ref aM_keptToldRows, .long M_hash])), (aM_page, .inl (cI, 40, .inl M_page))] sz)) 0 0 (va_A [(aM, .inr (6, [.ref aM_page, .int M_pageMany, .ref aM_readDeeds, .int M_readMany, .int M_readBase, .int M_state, .int M_beings, .int M_number, .int M_deedsDone, .ref aM_rows, .ref aM_far, .ref aM_firsts, .ref aM_line, .int M_lined, .int M_toldMany, .ref aM_toldRows, .ref aM_parts, .int M_seedNow, .int M_keptNumber, .int M_keptBeings, .int M_keptDeeds, .int M_keptTold, .ref aM_keptToldRows, .long M_hash])), (aM_page, .inl (cI, 40, .inl M_page))] sz) := by
  refine sw_metW (cc := cX6_letter) (maxL := 2) (ret := (some .int)) (lv := [(0, .ref aM), (1, .int l1)]) (by decide) rfl (Nat.le_of_ble_eq_true rfl) rfl ?_
  intro p e s m below meth c Q A hsz hAe hQ hx hb hr hts hown hlocks hml hmn hP hK hD hE hS hA ls hl
  have hS0 := hS
  have hown : s.vm.findClass RX6 = some m.cls := hown
  have hf := (F_X6_letter.eq_1 _ _ _).symm.trans hf
  have hw1 := hts (.constantLong RX6 41 (126)) (List.mem_of_getElem? (i := 1) (by decide +kernel))
  have hw2 := hts (.fieldLink RX6 47 "SwallowedInTurnModel" "pageMany" "I") (List.mem_of_getElem? (i := 2) (by decide +kernel))
  have iX6 : ∀ w ∈ u_ws RX6 TX6 24, w ∈ wsX6_letter := by decide +kernel
  have hw3 := hts (.fieldLink RX6 7 "SwallowedInTurnModel" "page" "[I") (List.mem_of_getElem? (i := 3) (by decide +kernel))
  obtain ⟨H, hH⟩ : ∃ H, H = s.heap := ⟨_, rfl⟩
  obtain ⟨locs, hlo⟩ : ∃ locs : List Loc, locs = [] := ⟨_, rfl⟩
  rw [← hH] at hP
  have hS : va_S A s.heap H locs := by rw [hH, hlo]; exact hS0
  suffices hgo : W p l e rm_X6_letter s m ([.ref aM, .int l1] : List Value).toArray below meth c H locs 0 0 Q (F0 m 0 ls []) by rw [hH, hlo] at hgo; exact hgo
  refine lv_iload_n hx hb dX6_letter_0 rfl (lv_at hl 1 rfl) ?_
  refine lv_i2l (v := (l1).toInt64) hx hb dX6_letter_1 rfl ?_
  refine lv_lconst (v := 1) hx hb dX6_letter_2 (by decide) ?_
  refine lv_ldc2 (v := 126) hx hb hown hw1 dX6_letter_3 ?_
  obtain ⟨q1, hq1, hf⟩ := sw_bs hf
  have hPc := hP.sub (ws' := []) [] rfl
  refine sw_rd (W.runS (As := [.long ((l1).toInt64), .long (1 : Int64), .long (126 : Int64)]) (rest := []) ⟨hx, hb, hml, hown, hts⟩ (k_X6_in l dC dI cI cZ t0 ((l1).toInt64) (1 : Int64) (126 : Int64) q1 hq1) (va_cwS 3 hts gX6_letter_X6_in rfl rfl rfl (by decide +kernel) ⟨Nat.le_of_ble_eq_true rfl, Nat.le_of_ble_eq_true rfl⟩) ⟨sw_PR_bl, sw_PR_pre hK hPc hE hS⟩ rfl rfl hl.1 rfl (lv_room (Nat.le_of_ble_eq_true rfl)) dX6_letter_6 ⟨Nat.zero_le _, Nat.zero_le _⟩) ?_
  refine lv_if_ne (tgt := 15) hx hb dX6_letter_9 (by decide) (fun c1 => ?_) (fun c1 => ?_)
  · have hf := sw_in c1 hf
    refine lv_aload_n hx hb dX6_letter_15 rfl (lv_at hl 0 rfl) ?_
    refine va_get (D := (dC, dI)) (ci := 6) (v := .int M_pageMany) (C := RX6) (T := TX6) (N := 24) hx hb hts iX6 hown hK hP 0 rfl rfl 1 (by decide) hw2 (fun _ h9 => h9) rfl dX6_letter_16 ?_
    refine lv_bipush (v := 40) hx hb dX6_letter_19 (by decide) ?_
    refine lv_icmp_ne (tgt := 27) hx hb dX6_letter_21 (by decide) (fun c2 => ?_) (fun c2 => ?_)
    · have hf := sw_in c2 hf
      refine lv_aload_n hx hb dX6_letter_27 rfl (lv_at hl 0 rfl) ?_
      refine va_get (D := (dC, dI)) (ci := 6) (v := .ref aM_page) (C := RX6) (T := TX6) (N := 24) hx hb hts iX6 hown hK hP 0 rfl rfl 0 (by decide) hw3 (fun _ h9 => h9) rfl dX6_letter_28 ?_
      refine lv_aload_n hx hb dX6_letter_31 rfl (lv_at hl 0 rfl) ?_
      refine va_get (D := (dC, dI)) (ci := 6) (v := .int M_pageMany) (C := RX6) (T := TX6) (N := 24) hx hb hts iX6 hown hK hP 0 rfl rfl 1 (by decide) hw2 (fun _ h9 => h9) rfl dX6_letter_32 ?_
      refine lv_iload_n hx hb dX6_letter_35 rfl (lv_at hl 1 rfl) ?_
      obtain ⟨hi2, hf⟩ := sw_ix_s hf
      refine va_iast hx hb hK hP hD hS 1 0 rfl rfl hi2 dX6_letter_36 (fun H locs hP hD hS => ?_)
      have hP : va_P (dC, dI) vwCl [(aM, .inr (6, [.ref aM_page, .int M_pageMany, .ref aM_readDeeds, .int M_readMany, .int M_readBase, .int M_state, .int M_beings, .int M_number, .int M_deedsDone, .ref aM_rows, .ref aM_far, .ref aM_firsts, .ref aM_line, .int M_lined, .int M_toldMany, .ref aM_toldRows, .ref aM_parts, .int M_seedNow, .int M_keptNumber, .int M_keptBeings, .int M_keptDeeds, .int M_keptTold, .ref aM_keptToldRows, .long M_hash])), (aM_page, .inl (cI, 40, .inl (upd M_page M_pageMany.toNatClampNeg l1)))] H := hP
      have hD : va_D A [(aM, .inr (6, [.ref aM_page, .int M_pageMany, .ref aM_readDeeds, .int M_readMany, .int M_readBase, .int M_state, .int M_beings, .int M_number, .int M_deedsDone, .ref aM_rows, .ref aM_far, .ref aM_firsts, .ref aM_line, .int M_lined, .int M_toldMany, .ref aM_toldRows, .ref aM_parts, .int M_seedNow, .int M_keptNumber, .int M_keptBeings, .int M_keptDeeds, .int M_keptTold, .ref aM_keptToldRows, .long M_hash])), (aM_page, .inl (cI, 40, .inl (upd M_page M_pageMany.toNatClampNeg l1)))] := hD
      refine lv_aload_n hx hb dX6_letter_37 rfl (lv_at hl 0 rfl) ?_
      refine lv_dup hx hb dX6_letter_38 rfl ?_
      refine va_get (D := (dC, dI)) (ci := 6) (v := .int M_pageMany) (C := RX6) (T := TX6) (N := 24) hx hb hts iX6 hown hK hP 0 rfl rfl 1 (by decide) hw2 (fun _ h9 => h9) rfl dX6_letter_39 ?_
      refine lv_iconst (v := 1) hx hb dX6_letter_42 (by decide) ?_
      refine lv_iadd hx hb dX6_letter_43 ?_
      refine va_put (D := (dC, dI)) (ci := 6) (v := .int (M_pageMany + (1 : Int32))) (ty := .int) (C := RX6) (T := TX6) (N := 24) hx hb hts iX6 tyX6 tyX6_ok nmX6 hown hK hP hD hS 0 rfl rfl 1 (by decide) hw2 (fun _ h9 => h9) rfl (by decide +kernel) rfl rfl (Nat.le_of_ble_eq_true rfl) dX6_letter_44 (fun H locs hP hD hS => ?_)
      have hP : va_P (dC, dI) vwCl [(aM, .inr (6, [.ref aM_page, .int (M_pageMany + (1 : Int32)), .ref aM_readDeeds, .int M_readMany, .int M_readBase, .int M_state, .int M_beings, .int M_number, .int M_deedsDone, .ref aM_rows, .ref aM_far, .ref aM_firsts, .ref aM_line, .int M_lined, .int M_toldMany, .ref aM_toldRows, .ref aM_parts, .int M_seedNow, .int M_keptNumber, .int M_keptBeings, .int M_keptDeeds, .int M_keptTold, .ref aM_keptToldRows, .long M_hash])), (aM_page, .inl (cI, 40, .inl (upd M_page M_pageMany.toNatClampNeg l1)))] H := hP
      have hD : va_D A [(aM, .inr (6, [.ref aM_page, .int (M_pageMany + (1 : Int32)), .ref aM_readDeeds, .int M_readMany, .int M_readBase, .int M_state, .int M_beings, .int M_number, .int M_deedsDone, .ref aM_rows, .ref aM_far, .ref aM_firsts, .ref aM_line, .int M_lined, .int M_toldMany, .ref aM_toldRows, .ref aM_parts, .int M_seedNow, .int M_keptNumber, .int M_keptBeings, .int M_keptDeeds, .int M_keptTold, .ref aM_keptToldRows, .long M_hash])), (aM_page, .inl (cI, 40, .inl (upd M_page M_pageMany.toNatClampNeg l1)))] := hD
      refine lv_aload_n hx hb dX6_letter_47 rfl (lv_at hl 0 rfl) ?_
      refine va_get (D := (dC, dI)) (ci := 6) (v := .int (M_pageMany + (1 : Int32))) (C := RX6) (T := TX6) (N := 24) hx hb hts iX6 hown hK hP 0 rfl rfl 1 (by decide) hw2 (fun _ h9 => h9) rfl dX6_letter_48 ?_
      subst hQ hAe
      cases hf
      exact W.iret hx hb hr (fun t ht hW => ⟨⟨_, (), rfl, rfl, ⟨by rw [ht]; exact hP, va_K.moved hW.alike hK, hD⟩⟩, hS.F ht⟩) hS.2.2 dX6_letter_51 hlocks
    · have hf := sw_ip c2 hf
      refine lv_bipush (v := -104) hx hb dX6_letter_24 (by decide) ?_
      subst hQ hAe
      cases hf
      exact W.iret hx hb hr (fun t ht hW => ⟨⟨_, (), rfl, rfl, ⟨by rw [ht]; exact hP, va_K.moved hW.alike hK, hD⟩⟩, hS.F ht⟩) hS.2.2 dX6_letter_26 hlocks
  · have hf := sw_ip c1 hf
    refine lv_bipush (v := -102) hx hb dX6_letter_12 (by decide) ?_
    subst hQ hAe
    cases hf
    exact W.iret hx hb hr (fun t ht hW => ⟨⟨_, (), rfl, rfl, ⟨by rw [ht]; exact hP, va_K.moved hW.alike hK, hD⟩⟩, hS.F ht⟩) hS.2.2 dX6_letter_14 hlocks
abbrev rm_X6_blank : Room := { frames := 0, cells := 0, slots := 0, locals := 0 }
set_option maxHeartbeats 1000000 in
set_option maxRecDepth 100000 in
theorem k_X6_blank (l : Launch) (dC : Nat → ClassId) (dI : Nat → Nat → Nat) (cI cZ : ClassId) (t0 : Nat) (sz : Nat) (aM aM_page aM_readDeeds aM_rows aM_far aM_firsts aM_line aM_toldRows aM_parts aM_keptToldRows : Nat) (M_pageMany : Int32) (M_readMany : Int32) (M_readBase : Int32) (M_state : Int32) (M_beings : Int32) (M_number : Int32) (M_deedsDone : Int32) (M_lined : Int32) (M_toldMany : Int32) (M_seedNow : Int32) (M_keptNumber : Int32) (M_keptBeings : Int32) (M_keptDeeds : Int32) (M_keptTold : Int32) (M_hash : Int64) (rv : Int32) (M_pageMany' : Int32) (hf : F_X6_blank M_pageMany = some (rv, M_pageMany')) : Met l yX6_blank wsX6_blank rm_X6_blank (sw_PW (dC, dI) t0 [(cI, .int), (cZ, .boolean)] [.ref aM] [(aM, .inr (6, [.ref aM_page, .int M_pageMany, .ref aM_readDeeds, .int M_readMany, .int M_readBase, .int M_state, .int M_beings, .int M_number, .int M_deedsDone, .ref aM_rows, .ref aM_far, .ref aM_firsts, .ref aM_line, .int M_lined, .int M_toldMany, .ref aM_toldRows, .ref aM_parts, .int M_seedNow, .int M_keptNumber, .int M_keptBeings, .int M_keptDeeds, .int M_keptTold, .ref aM_keptToldRows, .long M_hash]))] sz) (va_Qi (fun r (_ : Unit) => r = rv) (fun _ t => sw_B (dC, dI) [(cI, .int), (cZ, .boolean)] [(aM, .inr (6, [.ref aM_page, .int M_pageMany', .ref aM_readDeeds, .int M_readMany, .int M_readBase, .int M_state, .int M_beings, .int M_number, .int M_deedsDone, .ref aM_rows, .ref aM_far, .ref aM_firsts, .ref aM_line, .int M_lined, .int M_toldMany, .ref aM_toldRows, .ref aM_parts, .int M_seedNow, .int M_keptNumber, .int M_keptBeings, .int M_keptDeeds, .int M_keptTold, .ref aM_keptToldRows, .long M_hash]))] (va_A [(aM, .inr (6, [.ref aM_page, .int M_pageMany, .ref aM_readDeeds, .int M_readMany, .int M_readBase, .int M_state, .int M_beings, .int M_number, .int M_deedsDone, .ref aM_rows, .ref aM_far, .ref aM_firsts, .ref aM_line, .int M_lined, .int M_toldMany, .ref aM_toldRows, .ref aM_parts, .int M_seedNow, .int M_keptNumber, .int M_keptBeings, .int M_keptDeeds, .int M_keptTold, .ref aM_keptToldRows, .long M_hash]))] sz) t) (va_A [(aM, .inr (6, [.ref aM_page, .int M_pageMany, .ref aM_readDeeds, .int M_readMany, .int M_readBase, .int M_state, .int M_beings, .int M_number, .int M_deedsDone, .ref aM_rows, .ref aM_far, .ref aM_firsts, .ref aM_line, .int M_lined, .int M_toldMany, .ref aM_toldRows, .ref aM_parts, .int M_seedNow, .int M_keptNumber, .int M_keptBeings, .int M_keptDeeds, .int M_keptTold, .ref aM_keptToldRows, .long M_hash]))] sz)) 0 0 (va_A [(aM, .inr (6, [.ref aM_page, .int M_pageMany, .ref aM_readDeeds, .int M_readMany, .int M_readBase, .int M_state, .int M_beings, .int M_number, .int M_deedsDone, .ref aM_rows, .ref aM_far, .ref aM_firsts, .ref aM_line, .int M_lined, .int M_toldMany, .ref aM_toldRows, .ref aM_parts, .int M_seedNow, .int M_keptNumber, .int M_keptBeings, .int M_keptDeeds, .int M_keptTold, .ref aM_keptToldRows, .long M_hash]))] sz) := by
  refine sw_metW (cc := cX6_blank) (maxL := 2) (ret := (some .int)) (lv := [(0, .ref aM)]) (by decide) rfl (Nat.le_of_ble_eq_true rfl) rfl ?_
  intro p e s m below meth c Q A hsz hAe hQ hx hb hr hts hown hlocks hml hmn hP hK hD hE hS hA ls hl
  have hS0 := hS
  have hown : s.vm.findClass RX6 = some m.cls := hown
  have hf := (F_X6_blank.eq_1 _).symm.trans hf
  have hw1 := hts (.fieldLink RX6 47 "SwallowedInTurnModel" "pageMany" "I") (List.mem_of_getElem? (i := 1) (by decide +kernel))
  have iX6 : ∀ w ∈ u_ws RX6 TX6 24, w ∈ wsX6_blank := by decide +kernel
  obtain ⟨H, hH⟩ : ∃ H, H = s.heap := ⟨_, rfl⟩
  obtain ⟨locs, hlo⟩ : ∃ locs : List Loc, locs = [] := ⟨_, rfl⟩
  rw [← hH] at hP
  have hS : va_S A s.heap H locs := by rw [hH, hlo]; exact hS0
  suffices hgo : W p l e rm_X6_blank s m ([.ref aM] : List Value).toArray below meth c H locs 0 0 Q (F0 m 0 ls []) by rw [hH, hlo] at hgo; exact hgo
  refine lv_aload_n hx hb dX6_blank_0 rfl (lv_at hl 0 rfl) ?_
  refine va_get (D := (dC, dI)) (ci := 6) (v := .int M_pageMany) (C := RX6) (T := TX6) (N := 24) hx hb hts iX6 hown hK hP 0 rfl rfl 1 (by decide) hw1 (fun _ h9 => h9) rfl dX6_blank_1 ?_
  refine lv_istore_n (lv' := [(1, .int M_pageMany), (0, .ref aM)]) hx hb dX6_blank_4 rfl hl (by decide) rfl (fun ls hl => ?_)
  refine lv_aload_n hx hb dX6_blank_5 rfl (lv_at hl 1 rfl) ?_
  refine lv_iconst (v := 0) hx hb dX6_blank_6 (by decide) ?_
  refine va_put (D := (dC, dI)) (ci := 6) (v := .int (0 : Int32)) (ty := .int) (C := RX6) (T := TX6) (N := 24) hx hb hts iX6 tyX6 tyX6_ok nmX6 hown hK hP hD hS 0 rfl rfl 1 (by decide) hw1 (fun _ h9 => h9) rfl (by decide +kernel) rfl rfl (Nat.le_of_ble_eq_true rfl) dX6_blank_7 (fun H locs hP hD hS => ?_)
  have hP : va_P (dC, dI) vwCl [(aM, .inr (6, [.ref aM_page, .int (0 : Int32), .ref aM_readDeeds, .int M_readMany, .int M_readBase, .int M_state, .int M_beings, .int M_number, .int M_deedsDone, .ref aM_rows, .ref aM_far, .ref aM_firsts, .ref aM_line, .int M_lined, .int M_toldMany, .ref aM_toldRows, .ref aM_parts, .int M_seedNow, .int M_keptNumber, .int M_keptBeings, .int M_keptDeeds, .int M_keptTold, .ref aM_keptToldRows, .long M_hash]))] H := hP
  have hD : va_D A [(aM, .inr (6, [.ref aM_page, .int (0 : Int32), .ref aM_readDeeds, .int M_readMany, .int M_readBase, .int M_state, .int M_beings, .int M_number, .int M_deedsDone, .ref aM_rows, .ref aM_far, .ref aM_firsts, .ref aM_line, .int M_lined, .int M_toldMany, .ref aM_toldRows, .ref aM_parts, .int M_seedNow, .int M_keptNumber, .int M_keptBeings, .int M_keptDeeds, .int M_keptTold, .ref aM_keptToldRows, .long M_hash]))] := hD
  refine lv_iload_n hx hb dX6_blank_10 rfl (lv_at hl 0 rfl) ?_
  subst hQ hAe
  cases hf
  exact W.iret hx hb hr (fun t ht hW => ⟨⟨_, (), rfl, rfl, ⟨by rw [ht]; exact hP, va_K.moved hW.alike hK, hD⟩⟩, hS.F ht⟩) hS.2.2 dX6_blank_11 hlocks
abbrev rm_X6_goDigit : Room := { frames := 1, cells := 0, slots := 0, locals := 25 }
set_option maxHeartbeats 1000000 in
set_option maxRecDepth 100000 in
theorem k_X6_goDigit (l : Launch) (dC : Nat → ClassId) (dI : Nat → Nat → Nat) (cI cZ : ClassId) (t0 : Nat) (sz : Nat) (aM aM_page aM_readDeeds aM_rows aM_far aM_firsts aM_line aM_toldRows aM_parts aM_keptToldRows : Nat) (M_pageMany : Int32) (M_readMany : Int32) (M_readBase : Int32) (M_state : Int32) (M_beings : Int32) (M_number : Int32) (M_deedsDone : Int32) (M_lined : Int32) (M_toldMany : Int32) (M_seedNow : Int32) (M_keptNumber : Int32) (M_keptBeings : Int32) (M_keptDeeds : Int32) (M_keptTold : Int32) (M_hash : Int64) (M_readDeeds : Nat → Int32) (l1 : Int32) (rv : Int32) (M_readMany' : Int32) (M_readBase' : Int32) (M_state' : Int32) (M_readDeeds' : Nat → Int32) (hf : F_X6_goDigit M_readMany M_readBase M_state M_readDeeds l1 = some (rv, M_readMany', M_readBase', M_state', M_readDeeds')) : Met l yX6_goDigit wsX6_goDigit rm_X6_goDigit (sw_PW (dC, dI) t0 [(cI, .int), (cZ, .boolean)] [.ref aM, .int l1] [(aM, .inr (6, [.ref aM_page, .int M_pageMany, .ref aM_readDeeds, .int M_readMany, .int M_readBase, .int M_state, .int M_beings, .int M_number, .int M_deedsDone, .ref aM_rows, .ref aM_far, .ref aM_firsts, .ref aM_line, .int M_lined, .int M_toldMany, .ref aM_toldRows, .ref aM_parts, .int M_seedNow, .int M_keptNumber, .int M_keptBeings, .int M_keptDeeds, .int M_keptTold, .ref aM_keptToldRows, .long M_hash])), (aM_readDeeds, .inl (cI, 10, .inl M_readDeeds))] sz) (va_Qi (fun r (_ : Unit) => r = rv) (fun _ t => sw_B (dC, dI) [(cI, .int), (cZ, .boolean)] [(aM, .inr (6, [.ref aM_page, .int M_pageMany, .ref aM_readDeeds, .int M_readMany', .int M_readBase', .int M_state', .int M_beings, .int M_number, .int M_deedsDone, .ref aM_rows, .ref aM_far, .ref aM_firsts, .ref aM_line, .int M_lined, .int M_toldMany, .ref aM_toldRows, .ref aM_parts, .int M_seedNow, .int M_keptNumber, .int M_keptBeings, .int M_keptDeeds, .int M_keptTold, .ref aM_keptToldRows, .long M_hash])), (aM_readDeeds, .inl (cI, 10, .inl M_readDeeds'))] (va_A [(aM, .inr (6, [.ref aM_page, .int M_pageMany, .ref aM_readDeeds, .int M_readMany, .int M_readBase, .int M_state, .int M_beings, .int M_number, .int M_deedsDone, .ref aM_rows, .ref aM_far, .ref aM_firsts, .ref aM_line, .int M_lined, .int M_toldMany, .ref aM_toldRows, .ref aM_parts, .int M_seedNow, .int M_keptNumber, .int M_keptBeings, .int M_keptDeeds, .int M_keptTold, .ref aM_keptToldRows, .long M_hash])), (aM_readDeeds, .inl (cI, 10, .inl M_readDeeds))] sz) t) (va_A [(aM, .inr (6, [.ref aM_page, .int M_pageMany, .ref aM_readDeeds, .int M_readMany, .int M_readBase, .int M_state, .int M_beings, .int M_number, .int M_deedsDone, .ref aM_rows, .ref aM_far, .ref aM_firsts, .ref aM_line, .int M_lined, .int M_toldMany, .ref aM_toldRows, .ref aM_parts, .int M_seedNow, .int M_keptNumber, .int M_keptBeings, .int M_keptDeeds, .int M_keptTold, .ref aM_keptToldRows, .long M_hash])), (aM_readDeeds, .inl (cI, 10, .inl M_readDeeds))] sz)) 0 0 (va_A [(aM, .inr (6, [.ref aM_page, .int M_pageMany, .ref aM_readDeeds, .int M_readMany, .int M_readBase, .int M_state, .int M_beings, .int M_number, .int M_deedsDone, .ref aM_rows, .ref aM_far, .ref aM_firsts, .ref aM_line, .int M_lined, .int M_toldMany, .ref aM_toldRows, .ref aM_parts, .int M_seedNow, .int M_keptNumber, .int M_keptBeings, .int M_keptDeeds, .int M_keptTold, .ref aM_keptToldRows, .long M_hash])), (aM_readDeeds, .inl (cI, 10, .inl M_readDeeds))] sz) := by
  refine sw_metW (cc := cX6_goDigit) (maxL := 2) (ret := (some .boolean)) (lv := [(0, .ref aM), (1, .int l1)]) (by decide) rfl (Nat.le_of_ble_eq_true rfl) rfl ?_
  intro p e s m below meth c Q A hsz hAe hQ hx hb hr hts hown hlocks hml hmn hP hK hD hE hS hA ls hl
  have hS0 := hS
  have hown : s.vm.findClass RX6 = some m.cls := hown
  have hf := (F_X6_goDigit.eq_1 _ _ _ _ _).symm.trans hf
  have hw3 := hts (.fieldLink RX6 55 "SwallowedInTurnModel" "state" "I") (List.mem_of_getElem? (i := 3) (by decide +kernel))
  have iX6 : ∀ w ∈ u_ws RX6 TX6 24, w ∈ wsX6_goDigit := by decide +kernel
  have hw2 := hts (.fieldLink RX6 52 "SwallowedInTurnModel" "readBase" "I") (List.mem_of_getElem? (i := 2) (by decide +kernel))
  have hw4 := hts (.fieldLink RX6 13 "SwallowedInTurnModel" "readDeeds" "[I") (List.mem_of_getElem? (i := 4) (by decide +kernel))
  have hw5 := hts (.fieldLink RX6 58 "SwallowedInTurnModel" "readMany" "I") (List.mem_of_getElem? (i := 5) (by decide +kernel))
  have hw1 := hts (.constantLong RX6 50 (4)) (List.mem_of_getElem? (i := 1) (by decide +kernel))
  have hf0 := hf
  clear hf
  have hP0 := hP
  have hD0 := hD
  clear hP hD hS
  have hl0 := hl
  clear hl
  have hB_69 : ∀ (M_readMany : Int32) (M_readBase : Int32) (M_state : Int32) (M_readDeeds : Nat → Int32), F_X6_goDigit_69 M_readMany M_readBase M_state M_readDeeds = some (rv, M_readMany', M_readBase', M_state', M_readDeeds') → ∀ (H : Heap) (locs : List Loc), va_P (dC, dI) vwCl [(aM, .inr (6, [.ref aM_page, .int M_pageMany, .ref aM_readDeeds, .int M_readMany, .int M_readBase, .int M_state, .int M_beings, .int M_number, .int M_deedsDone, .ref aM_rows, .ref aM_far, .ref aM_firsts, .ref aM_line, .int M_lined, .int M_toldMany, .ref aM_toldRows, .ref aM_parts, .int M_seedNow, .int M_keptNumber, .int M_keptBeings, .int M_keptDeeds, .int M_keptTold, .ref aM_keptToldRows, .long M_hash])), (aM_readDeeds, .inl (cI, 10, .inl M_readDeeds))] H → va_D A [(aM, .inr (6, [.ref aM_page, .int M_pageMany, .ref aM_readDeeds, .int M_readMany, .int M_readBase, .int M_state, .int M_beings, .int M_number, .int M_deedsDone, .ref aM_rows, .ref aM_far, .ref aM_firsts, .ref aM_line, .int M_lined, .int M_toldMany, .ref aM_toldRows, .ref aM_parts, .int M_seedNow, .int M_keptNumber, .int M_keptBeings, .int M_keptDeeds, .int M_keptTold, .ref aM_keptToldRows, .long M_hash])), (aM_readDeeds, .inl (cI, 10, .inl M_readDeeds))] → va_S A s.heap H locs → ∀ ls : Array Slot, lv_has ls 2 [(0, .ref aM)] → W p l e rm_X6_goDigit s m ([.ref aM, .int l1] : List Value).toArray below meth c H locs 0 0 Q (F0 m 69 ls []) := by
    intro M_readMany M_readBase M_state M_readDeeds  hf H locs hP hD hS ls hl
    have hf := (F_X6_goDigit_69.eq_1 _ _ _ _).symm.trans hf
    refine lv_aload_n hx hb dX6_goDigit_69 rfl (lv_at hl 0 rfl) ?_
    refine lv_dup hx hb dX6_goDigit_70 rfl ?_
    refine va_get (D := (dC, dI)) (ci := 6) (v := .int M_state) (C := RX6) (T := TX6) (N := 24) hx hb hts iX6 hown hK hP 0 rfl rfl 5 (by decide) hw3 (fun _ h9 => h9) rfl dX6_goDigit_71 ?_
    refine lv_iconst (v := 1) hx hb dX6_goDigit_74 (by decide) ?_
    refine lv_iadd hx hb dX6_goDigit_75 ?_
    refine va_put (D := (dC, dI)) (ci := 6) (v := .int (M_state + (1 : Int32))) (ty := .int) (C := RX6) (T := TX6) (N := 24) hx hb hts iX6 tyX6 tyX6_ok nmX6 hown hK hP hD hS 0 rfl rfl 5 (by decide) hw3 (fun _ h9 => h9) rfl (by decide +kernel) rfl rfl (Nat.le_of_ble_eq_true rfl) dX6_goDigit_76 (fun H locs hP hD hS => ?_)
    have hP : va_P (dC, dI) vwCl [(aM, .inr (6, [.ref aM_page, .int M_pageMany, .ref aM_readDeeds, .int M_readMany, .int M_readBase, .int (M_state + (1 : Int32)), .int M_beings, .int M_number, .int M_deedsDone, .ref aM_rows, .ref aM_far, .ref aM_firsts, .ref aM_line, .int M_lined, .int M_toldMany, .ref aM_toldRows, .ref aM_parts, .int M_seedNow, .int M_keptNumber, .int M_keptBeings, .int M_keptDeeds, .int M_keptTold, .ref aM_keptToldRows, .long M_hash])), (aM_readDeeds, .inl (cI, 10, .inl M_readDeeds))] H := hP
    have hD : va_D A [(aM, .inr (6, [.ref aM_page, .int M_pageMany, .ref aM_readDeeds, .int M_readMany, .int M_readBase, .int (M_state + (1 : Int32)), .int M_beings, .int M_number, .int M_deedsDone, .ref aM_rows, .ref aM_far, .ref aM_firsts, .ref aM_line, .int M_lined, .int M_toldMany, .ref aM_toldRows, .ref aM_parts, .int M_seedNow, .int M_keptNumber, .int M_keptBeings, .int M_keptDeeds, .int M_keptTold, .ref aM_keptToldRows, .long M_hash])), (aM_readDeeds, .inl (cI, 10, .inl M_readDeeds))] := hD
    refine lv_iconst (v := 1) hx hb dX6_goDigit_79 (by decide) ?_
    subst hQ hAe
    cases hf
    exact W.zret hx hb hr rfl (fun t ht hW => ⟨⟨_, (), rfl, rfl, ⟨by rw [ht]; exact hP, va_K.moved hW.alike hK, hD⟩⟩, hS.F ht⟩) hS.2.2 dX6_goDigit_80 hlocks
  have hB_34 : ∀ (M_readMany : Int32) (M_state : Int32) (M_readDeeds : Nat → Int32) (s1 : Int32) (s2 : Int32), F_X6_goDigit_34 M_readMany M_state M_readDeeds s1 s2 = some (rv, M_readMany', M_readBase', M_state', M_readDeeds') → ∀ (H : Heap) (locs : List Loc), va_P (dC, dI) vwCl [(aM, .inr (6, [.ref aM_page, .int M_pageMany, .ref aM_readDeeds, .int M_readMany, .int M_readBase, .int M_state, .int M_beings, .int M_number, .int M_deedsDone, .ref aM_rows, .ref aM_far, .ref aM_firsts, .ref aM_line, .int M_lined, .int M_toldMany, .ref aM_toldRows, .ref aM_parts, .int M_seedNow, .int M_keptNumber, .int M_keptBeings, .int M_keptDeeds, .int M_keptTold, .ref aM_keptToldRows, .long M_hash])), (aM_readDeeds, .inl (cI, 10, .inl M_readDeeds))] H → va_D A [(aM, .inr (6, [.ref aM_page, .int M_pageMany, .ref aM_readDeeds, .int M_readMany, .int M_readBase, .int M_state, .int M_beings, .int M_number, .int M_deedsDone, .ref aM_rows, .ref aM_far, .ref aM_firsts, .ref aM_line, .int M_lined, .int M_toldMany, .ref aM_toldRows, .ref aM_parts, .int M_seedNow, .int M_keptNumber, .int M_keptBeings, .int M_keptDeeds, .int M_keptTold, .ref aM_keptToldRows, .long M_hash])), (aM_readDeeds, .inl (cI, 10, .inl M_readDeeds))] → va_S A s.heap H locs → ∀ ls : Array Slot, lv_has ls 2 [(0, .ref aM)] → W p l e rm_X6_goDigit s m ([.ref aM, .int l1] : List Value).toArray below meth c H locs 0 0 Q (F0 m 34 ls [.int s2, .int s1, .ref aM]) := by
    intro M_readMany M_state M_readDeeds s1 s2  hf H locs hP hD hS ls hl
    have hf := (F_X6_goDigit_34.eq_1 _ _ _ _ _).symm.trans hf
    refine lv_iadd hx hb dX6_goDigit_34 ?_
    refine va_put (D := (dC, dI)) (ci := 6) (v := .int (s1 + s2)) (ty := .int) (C := RX6) (T := TX6) (N := 24) hx hb hts iX6 tyX6 tyX6_ok nmX6 hown hK hP hD hS 0 rfl rfl 4 (by decide) hw2 (fun _ h9 => h9) rfl (by decide +kernel) rfl rfl (Nat.le_of_ble_eq_true rfl) dX6_goDigit_35 (fun H locs hP hD hS => ?_)
    have hP : va_P (dC, dI) vwCl [(aM, .inr (6, [.ref aM_page, .int M_pageMany, .ref aM_readDeeds, .int M_readMany, .int (s1 + s2), .int M_state, .int M_beings, .int M_number, .int M_deedsDone, .ref aM_rows, .ref aM_far, .ref aM_firsts, .ref aM_line, .int M_lined, .int M_toldMany, .ref aM_toldRows, .ref aM_parts, .int M_seedNow, .int M_keptNumber, .int M_keptBeings, .int M_keptDeeds, .int M_keptTold, .ref aM_keptToldRows, .long M_hash])), (aM_readDeeds, .inl (cI, 10, .inl M_readDeeds))] H := hP
    have hD : va_D A [(aM, .inr (6, [.ref aM_page, .int M_pageMany, .ref aM_readDeeds, .int M_readMany, .int (s1 + s2), .int M_state, .int M_beings, .int M_number, .int M_deedsDone, .ref aM_rows, .ref aM_far, .ref aM_firsts, .ref aM_line, .int M_lined, .int M_toldMany, .ref aM_toldRows, .ref aM_parts, .int M_seedNow, .int M_keptNumber, .int M_keptBeings, .int M_keptDeeds, .int M_keptTold, .ref aM_keptToldRows, .long M_hash])), (aM_readDeeds, .inl (cI, 10, .inl M_readDeeds))] := hD
    refine lv_aload_n hx hb dX6_goDigit_38 rfl (lv_at hl 0 rfl) ?_
    refine va_get (D := (dC, dI)) (ci := 6) (v := .int M_state) (C := RX6) (T := TX6) (N := 24) hx hb hts iX6 hown hK hP 0 rfl rfl 5 (by decide) hw3 (fun _ h9 => h9) rfl dX6_goDigit_39 ?_
    refine lv_iconst (v := 2) hx hb dX6_goDigit_42 (by decide) ?_
    refine lv_icmp_ne (tgt := 69) hx hb dX6_goDigit_43 (by decide) (fun c1 => ?_) (fun c1 => ?_)
    · have hf := sw_in c1 hf
      exact hB_69 M_readMany (s1 + s2) M_state M_readDeeds  hf H locs hP hD hS ls (lv_sub hl [0] rfl)
    · have hf := sw_ip c1 hf
      refine lv_aload_n hx hb dX6_goDigit_46 rfl (lv_at hl 0 rfl) ?_
      refine va_get (D := (dC, dI)) (ci := 6) (v := .ref aM_readDeeds) (C := RX6) (T := TX6) (N := 24) hx hb hts iX6 hown hK hP 0 rfl rfl 2 (by decide) hw4 (fun _ h9 => h9) rfl dX6_goDigit_47 ?_
      refine lv_aload_n hx hb dX6_goDigit_50 rfl (lv_at hl 0 rfl) ?_
      refine va_get (D := (dC, dI)) (ci := 6) (v := .int M_readMany) (C := RX6) (T := TX6) (N := 24) hx hb hts iX6 hown hK hP 0 rfl rfl 3 (by decide) hw5 (fun _ h9 => h9) rfl dX6_goDigit_51 ?_
      refine lv_aload_n hx hb dX6_goDigit_54 rfl (lv_at hl 0 rfl) ?_
      refine va_get (D := (dC, dI)) (ci := 6) (v := .int (s1 + s2)) (C := RX6) (T := TX6) (N := 24) hx hb hts iX6 hown hK hP 0 rfl rfl 4 (by decide) hw2 (fun _ h9 => h9) rfl dX6_goDigit_55 ?_
      obtain ⟨hi1, hf⟩ := sw_ix_s hf
      refine va_iast hx hb hK hP hD hS 1 0 rfl rfl hi1 dX6_goDigit_58 (fun H locs hP hD hS => ?_)
      have hP : va_P (dC, dI) vwCl [(aM, .inr (6, [.ref aM_page, .int M_pageMany, .ref aM_readDeeds, .int M_readMany, .int (s1 + s2), .int M_state, .int M_beings, .int M_number, .int M_deedsDone, .ref aM_rows, .ref aM_far, .ref aM_firsts, .ref aM_line, .int M_lined, .int M_toldMany, .ref aM_toldRows, .ref aM_parts, .int M_seedNow, .int M_keptNumber, .int M_keptBeings, .int M_keptDeeds, .int M_keptTold, .ref aM_keptToldRows, .long M_hash])), (aM_readDeeds, .inl (cI, 10, .inl (upd M_readDeeds M_readMany.toNatClampNeg (s1 + s2))))] H := hP
      have hD : va_D A [(aM, .inr (6, [.ref aM_page, .int M_pageMany, .ref aM_readDeeds, .int M_readMany, .int (s1 + s2), .int M_state, .int M_beings, .int M_number, .int M_deedsDone, .ref aM_rows, .ref aM_far, .ref aM_firsts, .ref aM_line, .int M_lined, .int M_toldMany, .ref aM_toldRows, .ref aM_parts, .int M_seedNow, .int M_keptNumber, .int M_keptBeings, .int M_keptDeeds, .int M_keptTold, .ref aM_keptToldRows, .long M_hash])), (aM_readDeeds, .inl (cI, 10, .inl (upd M_readDeeds M_readMany.toNatClampNeg (s1 + s2))))] := hD
      refine lv_aload_n hx hb dX6_goDigit_59 rfl (lv_at hl 0 rfl) ?_
      refine lv_dup hx hb dX6_goDigit_60 rfl ?_
      refine va_get (D := (dC, dI)) (ci := 6) (v := .int M_readMany) (C := RX6) (T := TX6) (N := 24) hx hb hts iX6 hown hK hP 0 rfl rfl 3 (by decide) hw5 (fun _ h9 => h9) rfl dX6_goDigit_61 ?_
      refine lv_iconst (v := 1) hx hb dX6_goDigit_64 (by decide) ?_
      refine lv_iadd hx hb dX6_goDigit_65 ?_
      refine va_put (D := (dC, dI)) (ci := 6) (v := .int (M_readMany + (1 : Int32))) (ty := .int) (C := RX6) (T := TX6) (N := 24) hx hb hts iX6 tyX6 tyX6_ok nmX6 hown hK hP hD hS 0 rfl rfl 3 (by decide) hw5 (fun _ h9 => h9) rfl (by decide +kernel) rfl rfl (Nat.le_of_ble_eq_true rfl) dX6_goDigit_66 (fun H locs hP hD hS => ?_)
      have hP : va_P (dC, dI) vwCl [(aM, .inr (6, [.ref aM_page, .int M_pageMany, .ref aM_readDeeds, .int (M_readMany + (1 : Int32)), .int (s1 + s2), .int M_state, .int M_beings, .int M_number, .int M_deedsDone, .ref aM_rows, .ref aM_far, .ref aM_firsts, .ref aM_line, .int M_lined, .int M_toldMany, .ref aM_toldRows, .ref aM_parts, .int M_seedNow, .int M_keptNumber, .int M_keptBeings, .int M_keptDeeds, .int M_keptTold, .ref aM_keptToldRows, .long M_hash])), (aM_readDeeds, .inl (cI, 10, .inl (upd M_readDeeds M_readMany.toNatClampNeg (s1 + s2))))] H := hP
      have hD : va_D A [(aM, .inr (6, [.ref aM_page, .int M_pageMany, .ref aM_readDeeds, .int (M_readMany + (1 : Int32)), .int (s1 + s2), .int M_state, .int M_beings, .int M_number, .int M_deedsDone, .ref aM_rows, .ref aM_far, .ref aM_firsts, .ref aM_line, .int M_lined, .int M_toldMany, .ref aM_toldRows, .ref aM_parts, .int M_seedNow, .int M_keptNumber, .int M_keptBeings, .int M_keptDeeds, .int M_keptTold, .ref aM_keptToldRows, .long M_hash])), (aM_readDeeds, .inl (cI, 10, .inl (upd M_readDeeds M_readMany.toNatClampNeg (s1 + s2))))] := hD
      exact hB_69 (M_readMany + (1 : Int32)) (s1 + s2) M_state (upd M_readDeeds M_readMany.toNatClampNeg (s1 + s2))  hf H locs hP hD hS ls (lv_sub hl [0] rfl)
  have hf := hf0
  have hl := hl0
  have hP := hP0
  have hD := hD0
  have hS := hS0
  obtain ⟨H, hH⟩ : ∃ H, H = s.heap := ⟨_, rfl⟩
  obtain ⟨locs, hlo⟩ : ∃ locs : List Loc, locs = [] := ⟨_, rfl⟩
  rw [← hH] at hP
  have hS : va_S A s.heap H locs := by rw [hH, hlo]; exact hS0
  suffices hgo : W p l e rm_X6_goDigit s m ([.ref aM, .int l1] : List Value).toArray below meth c H locs 0 0 Q (F0 m 0 ls []) by rw [hH, hlo] at hgo; exact hgo
  refine lv_iload_n hx hb dX6_goDigit_0 rfl (lv_at hl 1 rfl) ?_
  refine lv_i2l (v := (l1).toInt64) hx hb dX6_goDigit_1 rfl ?_
  refine lv_lconst (v := 0) hx hb dX6_goDigit_2 (by decide) ?_
  refine lv_ldc2 (v := 4) hx hb hown hw1 dX6_goDigit_3 ?_
  obtain ⟨q2, hq2, hf⟩ := sw_bs hf
  have hPc := hP.sub (ws' := []) [] rfl
  refine sw_rd (W.runS (As := [.long ((l1).toInt64), .long (0 : Int64), .long (4 : Int64)]) (rest := []) ⟨hx, hb, hml, hown, hts⟩ (k_X6_in l dC dI cI cZ t0 ((l1).toInt64) (0 : Int64) (4 : Int64) q2 hq2) (va_cwS 3 hts gX6_goDigit_X6_in rfl rfl rfl (by decide +kernel) ⟨Nat.le_of_ble_eq_true rfl, Nat.le_of_ble_eq_true rfl⟩) ⟨sw_PR_bl, sw_PR_pre hK hPc hE hS⟩ rfl rfl hl.1 rfl (lv_room (Nat.le_of_ble_eq_true rfl)) dX6_goDigit_6 ⟨Nat.zero_le _, Nat.zero_le _⟩) ?_
  refine lv_if_ne (tgt := 14) hx hb dX6_goDigit_9 (by decide) (fun c2 => ?_) (fun c2 => ?_)
  · have hf := sw_in c2 hf
    refine lv_aload_n hx hb dX6_goDigit_14 rfl (lv_at hl 0 rfl) ?_
    refine lv_dup hx hb dX6_goDigit_15 rfl ?_
    refine va_get (D := (dC, dI)) (ci := 6) (v := .int M_readBase) (C := RX6) (T := TX6) (N := 24) hx hb hts iX6 hown hK hP 0 rfl rfl 4 (by decide) hw2 (fun _ h9 => h9) rfl dX6_goDigit_16 ?_
    refine lv_aload_n hx hb dX6_goDigit_19 rfl (lv_at hl 0 rfl) ?_
    refine va_get (D := (dC, dI)) (ci := 6) (v := .int M_state) (C := RX6) (T := TX6) (N := 24) hx hb hts iX6 hown hK hP 0 rfl rfl 5 (by decide) hw3 (fun _ h9 => h9) rfl dX6_goDigit_20 ?_
    refine lv_iconst (v := 1) hx hb dX6_goDigit_23 (by decide) ?_
    refine lv_icmp_ne (tgt := 33) hx hb dX6_goDigit_24 (by decide) (fun c3 => ?_) (fun c3 => ?_)
    · have hf := sw_in c3 hf
      refine lv_iload_n hx hb dX6_goDigit_33 rfl (lv_at hl 1 rfl) ?_
      exact hB_34 M_readMany M_state M_readDeeds M_readBase l1  hf H locs hP hD hS ls (lv_sub hl [0] rfl)
    · have hf := sw_ip c3 hf
      refine lv_iconst (v := 5) hx hb dX6_goDigit_27 (by decide) ?_
      refine lv_iload_n hx hb dX6_goDigit_28 rfl (lv_at hl 1 rfl) ?_
      refine lv_imul hx hb dX6_goDigit_29 ?_
      refine lv_goto (tgt := 34) hx hb dX6_goDigit_30 (by decide) ?_
      exact hB_34 M_readMany M_state M_readDeeds M_readBase ((5 : Int32) * l1)  hf H locs hP hD hS ls (lv_sub hl [0] rfl)
  · have hf := sw_ip c2 hf
    refine lv_iconst (v := 0) hx hb dX6_goDigit_12 (by decide) ?_
    subst hQ hAe
    cases hf
    exact W.zret hx hb hr rfl (fun t ht hW => ⟨⟨_, (), rfl, rfl, ⟨by rw [ht]; exact hP, va_K.moved hW.alike hK, hD⟩⟩, hS.F ht⟩) hS.2.2 dX6_goDigit_13 hlocks
abbrev rm_X6_go : Room := { frames := 2, cells := 0, slots := 0, locals := 46 }
set_option maxHeartbeats 1000000 in
set_option maxRecDepth 100000 in
theorem k_X6_go (l : Launch) (dC : Nat → ClassId) (dI : Nat → Nat → Nat) (cI cZ : ClassId) (t0 : Nat) (sz : Nat) (aM aM_page aM_readDeeds aM_rows aM_far aM_firsts aM_line aM_toldRows aM_parts aM_keptToldRows : Nat) (M_pageMany : Int32) (M_readMany : Int32) (M_readBase : Int32) (M_state : Int32) (M_beings : Int32) (M_number : Int32) (M_deedsDone : Int32) (M_lined : Int32) (M_toldMany : Int32) (M_seedNow : Int32) (M_keptNumber : Int32) (M_keptBeings : Int32) (M_keptDeeds : Int32) (M_keptTold : Int32) (M_hash : Int64) (M_readDeeds : Nat → Int32) (l1 : Int32) (rv : Int32) (M_readMany' : Int32) (M_readBase' : Int32) (M_state' : Int32) (M_readDeeds' : Nat → Int32) (hf : F_X6_go M_readMany M_readBase M_state M_readDeeds l1 = some (rv, M_readMany', M_readBase', M_state', M_readDeeds')) : Met l yX6_go wsX6_go rm_X6_go (sw_PW (dC, dI) t0 [(cI, .int), (cZ, .boolean)] [.ref aM, .int l1] [(aM, .inr (6, [.ref aM_page, .int M_pageMany, .ref aM_readDeeds, .int M_readMany, .int M_readBase, .int M_state, .int M_beings, .int M_number, .int M_deedsDone, .ref aM_rows, .ref aM_far, .ref aM_firsts, .ref aM_line, .int M_lined, .int M_toldMany, .ref aM_toldRows, .ref aM_parts, .int M_seedNow, .int M_keptNumber, .int M_keptBeings, .int M_keptDeeds, .int M_keptTold, .ref aM_keptToldRows, .long M_hash])), (aM_readDeeds, .inl (cI, 10, .inl M_readDeeds))] sz) (va_Qi (fun r (_ : Unit) => r = rv) (fun _ t => sw_B (dC, dI) [(cI, .int), (cZ, .boolean)] [(aM, .inr (6, [.ref aM_page, .int M_pageMany, .ref aM_readDeeds, .int M_readMany', .int M_readBase', .int M_state', .int M_beings, .int M_number, .int M_deedsDone, .ref aM_rows, .ref aM_far, .ref aM_firsts, .ref aM_line, .int M_lined, .int M_toldMany, .ref aM_toldRows, .ref aM_parts, .int M_seedNow, .int M_keptNumber, .int M_keptBeings, .int M_keptDeeds, .int M_keptTold, .ref aM_keptToldRows, .long M_hash])), (aM_readDeeds, .inl (cI, 10, .inl M_readDeeds'))] (va_A [(aM, .inr (6, [.ref aM_page, .int M_pageMany, .ref aM_readDeeds, .int M_readMany, .int M_readBase, .int M_state, .int M_beings, .int M_number, .int M_deedsDone, .ref aM_rows, .ref aM_far, .ref aM_firsts, .ref aM_line, .int M_lined, .int M_toldMany, .ref aM_toldRows, .ref aM_parts, .int M_seedNow, .int M_keptNumber, .int M_keptBeings, .int M_keptDeeds, .int M_keptTold, .ref aM_keptToldRows, .long M_hash])), (aM_readDeeds, .inl (cI, 10, .inl M_readDeeds))] sz) t) (va_A [(aM, .inr (6, [.ref aM_page, .int M_pageMany, .ref aM_readDeeds, .int M_readMany, .int M_readBase, .int M_state, .int M_beings, .int M_number, .int M_deedsDone, .ref aM_rows, .ref aM_far, .ref aM_firsts, .ref aM_line, .int M_lined, .int M_toldMany, .ref aM_toldRows, .ref aM_parts, .int M_seedNow, .int M_keptNumber, .int M_keptBeings, .int M_keptDeeds, .int M_keptTold, .ref aM_keptToldRows, .long M_hash])), (aM_readDeeds, .inl (cI, 10, .inl M_readDeeds))] sz)) 0 0 (va_A [(aM, .inr (6, [.ref aM_page, .int M_pageMany, .ref aM_readDeeds, .int M_readMany, .int M_readBase, .int M_state, .int M_beings, .int M_number, .int M_deedsDone, .ref aM_rows, .ref aM_far, .ref aM_firsts, .ref aM_line, .int M_lined, .int M_toldMany, .ref aM_toldRows, .ref aM_parts, .int M_seedNow, .int M_keptNumber, .int M_keptBeings, .int M_keptDeeds, .int M_keptTold, .ref aM_keptToldRows, .long M_hash])), (aM_readDeeds, .inl (cI, 10, .inl M_readDeeds))] sz) := by
  refine sw_metW (cc := cX6_go) (maxL := 2) (ret := (some .boolean)) (lv := [(0, .ref aM), (1, .int l1)]) (by decide) rfl (Nat.le_of_ble_eq_true rfl) rfl ?_
  intro p e s m below meth c Q A hsz hAe hQ hx hb hr hts hown hlocks hml hmn hP hK hD hE hS hA ls hl
  have hS0 := hS
  have hown : s.vm.findClass RX6 = some m.cls := hown
  have hf := (F_X6_go.eq_1 _ _ _ _ _).symm.trans hf
  have hw1 := hts (.fieldLink RX6 55 "SwallowedInTurnModel" "state" "I") (List.mem_of_getElem? (i := 1) (by decide +kernel))
  have iX6 : ∀ w ∈ u_ws RX6 TX6 24, w ∈ wsX6_go := by decide +kernel
  have hw2 := hts (.fieldLink RX6 52 "SwallowedInTurnModel" "readBase" "I") (List.mem_of_getElem? (i := 2) (by decide +kernel))
  have hw3 := hts (.fieldLink RX6 58 "SwallowedInTurnModel" "readMany" "I") (List.mem_of_getElem? (i := 3) (by decide +kernel))
  have hf0 := hf
  clear hf
  have hP0 := hP
  have hD0 := hD
  clear hP hD hS
  have hl0 := hl
  clear hl
  have hB_46 : ∀ (M_readMany : Int32) (M_readBase : Int32) (M_readDeeds : Nat → Int32) (s1 : Int32), F_X6_go_46 M_readMany M_readBase M_readDeeds l1 s1 = some (rv, M_readMany', M_readBase', M_state', M_readDeeds') → ∀ (H : Heap) (locs : List Loc), va_P (dC, dI) vwCl [(aM, .inr (6, [.ref aM_page, .int M_pageMany, .ref aM_readDeeds, .int M_readMany, .int M_readBase, .int M_state, .int M_beings, .int M_number, .int M_deedsDone, .ref aM_rows, .ref aM_far, .ref aM_firsts, .ref aM_line, .int M_lined, .int M_toldMany, .ref aM_toldRows, .ref aM_parts, .int M_seedNow, .int M_keptNumber, .int M_keptBeings, .int M_keptDeeds, .int M_keptTold, .ref aM_keptToldRows, .long M_hash])), (aM_readDeeds, .inl (cI, 10, .inl M_readDeeds))] H → va_D A [(aM, .inr (6, [.ref aM_page, .int M_pageMany, .ref aM_readDeeds, .int M_readMany, .int M_readBase, .int M_state, .int M_beings, .int M_number, .int M_deedsDone, .ref aM_rows, .ref aM_far, .ref aM_firsts, .ref aM_line, .int M_lined, .int M_toldMany, .ref aM_toldRows, .ref aM_parts, .int M_seedNow, .int M_keptNumber, .int M_keptBeings, .int M_keptDeeds, .int M_keptTold, .ref aM_keptToldRows, .long M_hash])), (aM_readDeeds, .inl (cI, 10, .inl M_readDeeds))] → va_S A s.heap H locs → ∀ ls : Array Slot, lv_has ls 2 [(1, .int l1)] → W p l e rm_X6_go s m ([.ref aM, .int l1] : List Value).toArray below meth c H locs 0 0 Q (F0 m 46 ls [.int s1, .ref aM]) := by
    intro M_readMany M_readBase M_readDeeds s1  hf H locs hP hD hS ls hl
    have hf := (F_X6_go_46.eq_1 _ _ _ _ _).symm.trans hf
    refine va_put (D := (dC, dI)) (ci := 6) (v := .int s1) (ty := .int) (C := RX6) (T := TX6) (N := 24) hx hb hts iX6 tyX6 tyX6_ok nmX6 hown hK hP hD hS 0 rfl rfl 5 (by decide) hw1 (fun _ h9 => h9) rfl (by decide +kernel) rfl rfl (Nat.le_of_ble_eq_true rfl) dX6_go_46 (fun H locs hP hD hS => ?_)
    have hP : va_P (dC, dI) vwCl [(aM, .inr (6, [.ref aM_page, .int M_pageMany, .ref aM_readDeeds, .int M_readMany, .int M_readBase, .int s1, .int M_beings, .int M_number, .int M_deedsDone, .ref aM_rows, .ref aM_far, .ref aM_firsts, .ref aM_line, .int M_lined, .int M_toldMany, .ref aM_toldRows, .ref aM_parts, .int M_seedNow, .int M_keptNumber, .int M_keptBeings, .int M_keptDeeds, .int M_keptTold, .ref aM_keptToldRows, .long M_hash])), (aM_readDeeds, .inl (cI, 10, .inl M_readDeeds))] H := hP
    have hD : va_D A [(aM, .inr (6, [.ref aM_page, .int M_pageMany, .ref aM_readDeeds, .int M_readMany, .int M_readBase, .int s1, .int M_beings, .int M_number, .int M_deedsDone, .ref aM_rows, .ref aM_far, .ref aM_firsts, .ref aM_line, .int M_lined, .int M_toldMany, .ref aM_toldRows, .ref aM_parts, .int M_seedNow, .int M_keptNumber, .int M_keptBeings, .int M_keptDeeds, .int M_keptTold, .ref aM_keptToldRows, .long M_hash])), (aM_readDeeds, .inl (cI, 10, .inl M_readDeeds))] := hD
    refine lv_iload_n hx hb dX6_go_49 rfl (lv_at hl 0 rfl) ?_
    refine lv_bipush (v := 115) hx hb dX6_go_50 (by decide) ?_
    refine lv_icmp_eq (tgt := 67) hx hb dX6_go_52 (by decide) (fun c1 => ?_) (fun c1 => ?_)
    · have hf := sw_ip c1 hf
      refine lv_iconst (v := 1) hx hb dX6_go_67 (by decide) ?_
      refine lv_goto (tgt := 72) hx hb dX6_go_68 (by decide) ?_
      subst hQ hAe
      cases hf
      exact W.zret hx hb hr rfl (fun t ht hW => ⟨⟨_, (), rfl, rfl, ⟨by rw [ht]; exact hP, va_K.moved hW.alike hK, hD⟩⟩, hS.F ht⟩) hS.2.2 dX6_go_72 hlocks
    · have hf := sw_in c1 hf
      refine lv_iload_n hx hb dX6_go_55 rfl (lv_at hl 0 rfl) ?_
      refine lv_bipush (v := 99) hx hb dX6_go_56 (by decide) ?_
      refine lv_icmp_eq (tgt := 67) hx hb dX6_go_58 (by decide) (fun c2 => ?_) (fun c2 => ?_)
      · have hf := sw_ip c2 hf
        refine lv_iconst (v := 1) hx hb dX6_go_67 (by decide) ?_
        refine lv_goto (tgt := 72) hx hb dX6_go_68 (by decide) ?_
        subst hQ hAe
        cases hf
        exact W.zret hx hb hr rfl (fun t ht hW => ⟨⟨_, (), rfl, rfl, ⟨by rw [ht]; exact hP, va_K.moved hW.alike hK, hD⟩⟩, hS.F ht⟩) hS.2.2 dX6_go_72 hlocks
      · have hf := sw_in c2 hf
        refine lv_iload_n hx hb dX6_go_61 rfl (lv_at hl 0 rfl) ?_
        refine lv_bipush (v := 121) hx hb dX6_go_62 (by decide) ?_
        refine lv_icmp_ne (tgt := 71) hx hb dX6_go_64 (by decide) (fun c3 => ?_) (fun c3 => ?_)
        · have hf := sw_in c3 hf
          refine lv_iconst (v := 0) hx hb dX6_go_71 (by decide) ?_
          subst hQ hAe
          cases hf
          exact W.zret hx hb hr rfl (fun t ht hW => ⟨⟨_, (), rfl, rfl, ⟨by rw [ht]; exact hP, va_K.moved hW.alike hK, hD⟩⟩, hS.F ht⟩) hS.2.2 dX6_go_72 hlocks
        · have hf := sw_ip c3 hf
          refine lv_iconst (v := 1) hx hb dX6_go_67 (by decide) ?_
          refine lv_goto (tgt := 72) hx hb dX6_go_68 (by decide) ?_
          subst hQ hAe
          cases hf
          exact W.zret hx hb hr rfl (fun t ht hW => ⟨⟨_, (), rfl, rfl, ⟨by rw [ht]; exact hP, va_K.moved hW.alike hK, hD⟩⟩, hS.F ht⟩) hS.2.2 dX6_go_72 hlocks
  have hB_31 : ∀ (M_readMany : Int32) (M_readDeeds : Nat → Int32) (s1 : Int32), F_X6_go_31 M_readMany M_readDeeds l1 s1 = some (rv, M_readMany', M_readBase', M_state', M_readDeeds') → ∀ (H : Heap) (locs : List Loc), va_P (dC, dI) vwCl [(aM, .inr (6, [.ref aM_page, .int M_pageMany, .ref aM_readDeeds, .int M_readMany, .int M_readBase, .int M_state, .int M_beings, .int M_number, .int M_deedsDone, .ref aM_rows, .ref aM_far, .ref aM_firsts, .ref aM_line, .int M_lined, .int M_toldMany, .ref aM_toldRows, .ref aM_parts, .int M_seedNow, .int M_keptNumber, .int M_keptBeings, .int M_keptDeeds, .int M_keptTold, .ref aM_keptToldRows, .long M_hash])), (aM_readDeeds, .inl (cI, 10, .inl M_readDeeds))] H → va_D A [(aM, .inr (6, [.ref aM_page, .int M_pageMany, .ref aM_readDeeds, .int M_readMany, .int M_readBase, .int M_state, .int M_beings, .int M_number, .int M_deedsDone, .ref aM_rows, .ref aM_far, .ref aM_firsts, .ref aM_line, .int M_lined, .int M_toldMany, .ref aM_toldRows, .ref aM_parts, .int M_seedNow, .int M_keptNumber, .int M_keptBeings, .int M_keptDeeds, .int M_keptTold, .ref aM_keptToldRows, .long M_hash])), (aM_readDeeds, .inl (cI, 10, .inl M_readDeeds))] → va_S A s.heap H locs → ∀ ls : Array Slot, lv_has ls 2 [(0, .ref aM), (1, .int l1)] → W p l e rm_X6_go s m ([.ref aM, .int l1] : List Value).toArray below meth c H locs 0 0 Q (F0 m 31 ls [.int s1, .ref aM]) := by
    intro M_readMany M_readDeeds s1  hf H locs hP hD hS ls hl
    have hf := (F_X6_go_31.eq_1 _ _ _ _).symm.trans hf
    refine va_put (D := (dC, dI)) (ci := 6) (v := .int s1) (ty := .int) (C := RX6) (T := TX6) (N := 24) hx hb hts iX6 tyX6 tyX6_ok nmX6 hown hK hP hD hS 0 rfl rfl 4 (by decide) hw2 (fun _ h9 => h9) rfl (by decide +kernel) rfl rfl (Nat.le_of_ble_eq_true rfl) dX6_go_31 (fun H locs hP hD hS => ?_)
    have hP : va_P (dC, dI) vwCl [(aM, .inr (6, [.ref aM_page, .int M_pageMany, .ref aM_readDeeds, .int M_readMany, .int s1, .int M_state, .int M_beings, .int M_number, .int M_deedsDone, .ref aM_rows, .ref aM_far, .ref aM_firsts, .ref aM_line, .int M_lined, .int M_toldMany, .ref aM_toldRows, .ref aM_parts, .int M_seedNow, .int M_keptNumber, .int M_keptBeings, .int M_keptDeeds, .int M_keptTold, .ref aM_keptToldRows, .long M_hash])), (aM_readDeeds, .inl (cI, 10, .inl M_readDeeds))] H := hP
    have hD : va_D A [(aM, .inr (6, [.ref aM_page, .int M_pageMany, .ref aM_readDeeds, .int M_readMany, .int s1, .int M_state, .int M_beings, .int M_number, .int M_deedsDone, .ref aM_rows, .ref aM_far, .ref aM_firsts, .ref aM_line, .int M_lined, .int M_toldMany, .ref aM_toldRows, .ref aM_parts, .int M_seedNow, .int M_keptNumber, .int M_keptBeings, .int M_keptDeeds, .int M_keptTold, .ref aM_keptToldRows, .long M_hash])), (aM_readDeeds, .inl (cI, 10, .inl M_readDeeds))] := hD
    refine lv_aload_n hx hb dX6_go_34 rfl (lv_at hl 0 rfl) ?_
    refine lv_iload_n hx hb dX6_go_35 rfl (lv_at hl 1 rfl) ?_
    refine lv_bipush (v := 115) hx hb dX6_go_36 (by decide) ?_
    refine lv_icmp_ne (tgt := 45) hx hb dX6_go_38 (by decide) (fun c4 => ?_) (fun c4 => ?_)
    · have hf := sw_in c4 hf
      refine lv_iconst (v := 2) hx hb dX6_go_45 (by decide) ?_
      exact hB_46 M_readMany s1 M_readDeeds (2 : Int32)  hf H locs hP hD hS ls (lv_sub hl [1] rfl)
    · have hf := sw_ip c4 hf
      refine lv_iconst (v := 1) hx hb dX6_go_41 (by decide) ?_
      refine lv_goto (tgt := 46) hx hb dX6_go_42 (by decide) ?_
      exact hB_46 M_readMany s1 M_readDeeds (1 : Int32)  hf H locs hP hD hS ls (lv_sub hl [1] rfl)
  have hf := hf0
  have hl := hl0
  have hP := hP0
  have hD := hD0
  have hS := hS0
  obtain ⟨H, hH⟩ : ∃ H, H = s.heap := ⟨_, rfl⟩
  obtain ⟨locs, hlo⟩ : ∃ locs : List Loc, locs = [] := ⟨_, rfl⟩
  rw [← hH] at hP
  have hS : va_S A s.heap H locs := by rw [hH, hlo]; exact hS0
  suffices hgo : W p l e rm_X6_go s m ([.ref aM, .int l1] : List Value).toArray below meth c H locs 0 0 Q (F0 m 0 ls []) by rw [hH, hlo] at hgo; exact hgo
  refine lv_aload_n hx hb dX6_go_0 rfl (lv_at hl 0 rfl) ?_
  refine va_get (D := (dC, dI)) (ci := 6) (v := .int M_state) (C := RX6) (T := TX6) (N := 24) hx hb hts iX6 hown hK hP 0 rfl rfl 5 (by decide) hw1 (fun _ h9 => h9) rfl dX6_go_1 ?_
  refine lv_if_ne (tgt := 73) hx hb dX6_go_4 (by decide) (fun c5 => ?_) (fun c5 => ?_)
  · have hf := sw_in c5 hf
    refine lv_aload_n hx hb dX6_go_73 rfl (lv_at hl 0 rfl) ?_
    refine va_get (D := (dC, dI)) (ci := 6) (v := .int M_state) (C := RX6) (T := TX6) (N := 24) hx hb hts iX6 hown hK hP 0 rfl rfl 5 (by decide) hw1 (fun _ h9 => h9) rfl dX6_go_74 ?_
    refine lv_iconst (v := 3) hx hb dX6_go_77 (by decide) ?_
    refine lv_icmp_ne (tgt := 107) hx hb dX6_go_78 (by decide) (fun c6 => ?_) (fun c6 => ?_)
    · have hf := sw_in c6 hf
      refine lv_aload_n hx hb dX6_go_107 rfl (lv_at hl 0 rfl) ?_
      refine lv_iload_n hx hb dX6_go_108 rfl (lv_at hl 1 rfl) ?_
      refine lv_bipush (v := 48) hx hb dX6_go_109 (by decide) ?_
      refine lv_isub hx hb dX6_go_111 ?_
      obtain ⟨q1, hq1, hf⟩ := sw_bs hf
      have hPc := hP.sub (ws' := [(aM, .inr (6, [.ref aM_page, .int M_pageMany, .ref aM_readDeeds, .int M_readMany, .int M_readBase, .int M_state, .int M_beings, .int M_number, .int M_deedsDone, .ref aM_rows, .ref aM_far, .ref aM_firsts, .ref aM_line, .int M_lined, .int M_toldMany, .ref aM_toldRows, .ref aM_parts, .int M_seedNow, .int M_keptNumber, .int M_keptBeings, .int M_keptDeeds, .int M_keptTold, .ref aM_keptToldRows, .long M_hash])), (aM_readDeeds, .inl (cI, 10, .inl M_readDeeds))]) [0, 1] rfl
      have hDc := hD.sub (ws' := [(aM, .inr (6, [.ref aM_page, .int M_pageMany, .ref aM_readDeeds, .int M_readMany, .int M_readBase, .int M_state, .int M_beings, .int M_number, .int M_deedsDone, .ref aM_rows, .ref aM_far, .ref aM_firsts, .ref aM_line, .int M_lined, .int M_toldMany, .ref aM_toldRows, .ref aM_parts, .int M_seedNow, .int M_keptNumber, .int M_keptBeings, .int M_keptDeeds, .int M_keptTold, .ref aM_keptToldRows, .long M_hash])), (aM_readDeeds, .inl (cI, 10, .inl M_readDeeds))]) [0, 1] (by decide) rfl
      have hFc := va_free (wc := [(aM, .inr (6, [.ref aM_page, .int M_pageMany, .ref aM_readDeeds, .int M_readMany, .int M_readBase, .int M_state, .int M_beings, .int M_number, .int M_deedsDone, .ref aM_rows, .ref aM_far, .ref aM_firsts, .ref aM_line, .int M_lined, .int M_toldMany, .ref aM_toldRows, .ref aM_parts, .int M_seedNow, .int M_keptNumber, .int M_keptBeings, .int M_keptDeeds, .int M_keptTold, .ref aM_keptToldRows, .long M_hash])), (aM_readDeeds, .inl (cI, 10, .inl M_readDeeds))]) hD hS hA [0, 1] rfl
      refine sw_wi (wn := [(aM, .inr (6, [.ref aM_page, .int M_pageMany, .ref aM_readDeeds, .int q1.2.1, .int q1.2.2.1, .int q1.2.2.2.1, .int M_beings, .int M_number, .int M_deedsDone, .ref aM_rows, .ref aM_far, .ref aM_firsts, .ref aM_line, .int M_lined, .int M_toldMany, .ref aM_toldRows, .ref aM_parts, .int M_seedNow, .int M_keptNumber, .int M_keptBeings, .int M_keptDeeds, .int M_keptTold, .ref aM_keptToldRows, .long M_hash])), (aM_readDeeds, .inl (cI, 10, .inl q1.2.2.2.2))]) (w1 := [(aM, .inr (6, [.ref aM_page, .int M_pageMany, .ref aM_readDeeds, .int q1.2.1, .int q1.2.2.1, .int q1.2.2.2.1, .int M_beings, .int M_number, .int M_deedsDone, .ref aM_rows, .ref aM_far, .ref aM_firsts, .ref aM_line, .int M_lined, .int M_toldMany, .ref aM_toldRows, .ref aM_parts, .int M_seedNow, .int M_keptNumber, .int M_keptBeings, .int M_keptDeeds, .int M_keptTold, .ref aM_keptToldRows, .long M_hash])), (aM_readDeeds, .inl (cI, 10, .inl q1.2.2.2.2))]) (wr := []) (va_runV (As := [.int (l1 - (48 : Int32))]) (rest := []) ⟨hx, hb, hml, hown, hts⟩ (k_X6_goDigit l dC dI cI cZ t0 H.size aM aM_page aM_readDeeds aM_rows aM_far aM_firsts aM_line aM_toldRows aM_parts aM_keptToldRows M_pageMany M_readMany M_readBase M_state M_beings M_number M_deedsDone M_lined M_toldMany M_seedNow M_keptNumber M_keptBeings M_keptDeeds M_keptTold M_hash M_readDeeds (l1 - (48 : Int32)) q1.1 q1.2.1 q1.2.2.1 q1.2.2.2.1 q1.2.2.2.2 hq1) (cwV 1 hts gX6_go_X6_goDigit rfl rfl rfl (by decide +kernel) ⟨Nat.le_of_ble_eq_true rfl, Nat.le_of_ble_eq_true rfl⟩) ⟨sw_PW_bl, va_recv hK hPc (ci := 6) (q0 := 0) rfl rfl, sw_PW_pre hK hPc hDc hE hS hFc⟩ rfl rfl hl.1 rfl (lv_room (Nat.le_of_ble_eq_true rfl)) dX6_go_112 ⟨Nat.zero_le _, Nat.zero_le _⟩) hS hP hD hFc [0, 1] [] [0, 1] rfl rfl (by decide) (by decide) (by decide) rfl (fun H locs hP hD hS => ?_)
      obtain ⟨hn, hf⟩ := sw_zb_s hf
      subst hQ hAe
      cases hf
      exact W.zret hx hb hr hn (fun t ht hW => ⟨⟨_, (), rfl, rfl, ⟨by rw [ht]; exact hP, va_K.moved hW.alike hK, hD⟩⟩, hS.F ht⟩) hS.2.2 dX6_go_115 hlocks
    · have hf := sw_ip c6 hf
      refine lv_aload_n hx hb dX6_go_81 rfl (lv_at hl 0 rfl) ?_
      refine lv_iconst (v := 0) hx hb dX6_go_82 (by decide) ?_
      refine va_put (D := (dC, dI)) (ci := 6) (v := .int (0 : Int32)) (ty := .int) (C := RX6) (T := TX6) (N := 24) hx hb hts iX6 tyX6 tyX6_ok nmX6 hown hK hP hD hS 0 rfl rfl 5 (by decide) hw1 (fun _ h9 => h9) rfl (by decide +kernel) rfl rfl (Nat.le_of_ble_eq_true rfl) dX6_go_83 (fun H locs hP hD hS => ?_)
      have hP : va_P (dC, dI) vwCl [(aM, .inr (6, [.ref aM_page, .int M_pageMany, .ref aM_readDeeds, .int M_readMany, .int M_readBase, .int (0 : Int32), .int M_beings, .int M_number, .int M_deedsDone, .ref aM_rows, .ref aM_far, .ref aM_firsts, .ref aM_line, .int M_lined, .int M_toldMany, .ref aM_toldRows, .ref aM_parts, .int M_seedNow, .int M_keptNumber, .int M_keptBeings, .int M_keptDeeds, .int M_keptTold, .ref aM_keptToldRows, .long M_hash])), (aM_readDeeds, .inl (cI, 10, .inl M_readDeeds))] H := hP
      have hD : va_D A [(aM, .inr (6, [.ref aM_page, .int M_pageMany, .ref aM_readDeeds, .int M_readMany, .int M_readBase, .int (0 : Int32), .int M_beings, .int M_number, .int M_deedsDone, .ref aM_rows, .ref aM_far, .ref aM_firsts, .ref aM_line, .int M_lined, .int M_toldMany, .ref aM_toldRows, .ref aM_parts, .int M_seedNow, .int M_keptNumber, .int M_keptBeings, .int M_keptDeeds, .int M_keptTold, .ref aM_keptToldRows, .long M_hash])), (aM_readDeeds, .inl (cI, 10, .inl M_readDeeds))] := hD
      refine lv_iload_n hx hb dX6_go_86 rfl (lv_at hl 1 rfl) ?_
      refine lv_bipush (v := 44) hx hb dX6_go_87 (by decide) ?_
      refine lv_icmp_ne (tgt := 105) hx hb dX6_go_89 (by decide) (fun c7 => ?_) (fun c7 => ?_)
      · have hf := sw_in c7 hf
        refine lv_iconst (v := 0) hx hb dX6_go_105 (by decide) ?_
        subst hQ hAe
        cases hf
        exact W.zret hx hb hr rfl (fun t ht hW => ⟨⟨_, (), rfl, rfl, ⟨by rw [ht]; exact hP, va_K.moved hW.alike hK, hD⟩⟩, hS.F ht⟩) hS.2.2 dX6_go_106 hlocks
      · have hf := sw_ip c7 hf
        refine lv_aload_n hx hb dX6_go_92 rfl (lv_at hl 0 rfl) ?_
        refine va_get (D := (dC, dI)) (ci := 6) (v := .int M_readMany) (C := RX6) (T := TX6) (N := 24) hx hb hts iX6 hown hK hP 0 rfl rfl 3 (by decide) hw3 (fun _ h9 => h9) rfl dX6_go_93 ?_
        refine lv_bipush (v := 10) hx hb dX6_go_96 (by decide) ?_
        refine lv_icmp_ge (tgt := 105) hx hb dX6_go_98 (by decide) (fun c8 => ?_) (fun c8 => ?_)
        · have hf := sw_ip c8 hf
          refine lv_iconst (v := 0) hx hb dX6_go_105 (by decide) ?_
          subst hQ hAe
          cases hf
          exact W.zret hx hb hr rfl (fun t ht hW => ⟨⟨_, (), rfl, rfl, ⟨by rw [ht]; exact hP, va_K.moved hW.alike hK, hD⟩⟩, hS.F ht⟩) hS.2.2 dX6_go_106 hlocks
        · have hf := sw_in c8 hf
          refine lv_iconst (v := 1) hx hb dX6_go_101 (by decide) ?_
          refine lv_goto (tgt := 106) hx hb dX6_go_102 (by decide) ?_
          subst hQ hAe
          cases hf
          exact W.zret hx hb hr rfl (fun t ht hW => ⟨⟨_, (), rfl, rfl, ⟨by rw [ht]; exact hP, va_K.moved hW.alike hK, hD⟩⟩, hS.F ht⟩) hS.2.2 dX6_go_106 hlocks
  · have hf := sw_ip c5 hf
    refine lv_aload_n hx hb dX6_go_7 rfl (lv_at hl 0 rfl) ?_
    refine lv_iload_n hx hb dX6_go_8 rfl (lv_at hl 1 rfl) ?_
    refine lv_bipush (v := 99) hx hb dX6_go_9 (by decide) ?_
    refine lv_icmp_ne (tgt := 19) hx hb dX6_go_11 (by decide) (fun c9 => ?_) (fun c9 => ?_)
    · have hf := sw_in c9 hf
      refine lv_iload_n hx hb dX6_go_19 rfl (lv_at hl 1 rfl) ?_
      refine lv_bipush (v := 121) hx hb dX6_go_20 (by decide) ?_
      refine lv_icmp_ne (tgt := 30) hx hb dX6_go_22 (by decide) (fun c10 => ?_) (fun c10 => ?_)
      · have hf := sw_in c10 hf
        refine lv_iconst (v := 0) hx hb dX6_go_30 (by decide) ?_
        exact hB_31 M_readMany M_readDeeds (0 : Int32)  hf H locs hP hD hS ls (lv_sub hl [0, 1] rfl)
      · have hf := sw_ip c10 hf
        refine lv_bipush (v := 40) hx hb dX6_go_25 (by decide) ?_
        refine lv_goto (tgt := 31) hx hb dX6_go_27 (by decide) ?_
        exact hB_31 M_readMany M_readDeeds (40 : Int32)  hf H locs hP hD hS ls (lv_sub hl [0, 1] rfl)
    · have hf := sw_ip c9 hf
      refine lv_bipush (v := 30) hx hb dX6_go_14 (by decide) ?_
      refine lv_goto (tgt := 31) hx hb dX6_go_16 (by decide) ?_
      exact hB_31 M_readMany M_readDeeds (30 : Int32)  hf H locs hP hD hS ls (lv_sub hl [0, 1] rfl)
abbrev rm_X6_faultOf : Room := { frames := 3, cells := 0, slots := 0, locals := 67 }
set_option maxHeartbeats 1000000 in
set_option maxRecDepth 100000 in
theorem k_X6_faultOf (l : Launch) (dC : Nat → ClassId) (dI : Nat → Nat → Nat) (cI cZ : ClassId) (t0 : Nat) (sz : Nat) (aM aM_page aM_readDeeds aM_rows aM_far aM_firsts aM_line aM_toldRows aM_parts aM_keptToldRows : Nat) (M_pageMany : Int32) (M_readMany : Int32) (M_readBase : Int32) (M_state : Int32) (M_beings : Int32) (M_number : Int32) (M_deedsDone : Int32) (M_lined : Int32) (M_toldMany : Int32) (M_seedNow : Int32) (M_keptNumber : Int32) (M_keptBeings : Int32) (M_keptDeeds : Int32) (M_keptTold : Int32) (M_hash : Int64) (M_page : Nat → Int32) (M_readDeeds : Nat → Int32) (rv : Int32) (M_readMany' : Int32) (M_readBase' : Int32) (M_state' : Int32) (M_readDeeds' : Nat → Int32) (hf : F_X6_faultOf M_pageMany M_readMany M_readBase M_state M_page M_readDeeds = some (rv, M_readMany', M_readBase', M_state', M_readDeeds')) : Met l yX6_faultOf wsX6_faultOf rm_X6_faultOf (sw_PW (dC, dI) t0 [(cI, .int), (cZ, .boolean)] [.ref aM] [(aM, .inr (6, [.ref aM_page, .int M_pageMany, .ref aM_readDeeds, .int M_readMany, .int M_readBase, .int M_state, .int M_beings, .int M_number, .int M_deedsDone, .ref aM_rows, .ref aM_far, .ref aM_firsts, .ref aM_line, .int M_lined, .int M_toldMany, .ref aM_toldRows, .ref aM_parts, .int M_seedNow, .int M_keptNumber, .int M_keptBeings, .int M_keptDeeds, .int M_keptTold, .ref aM_keptToldRows, .long M_hash])), (aM_page, .inl (cI, 40, .inl M_page)), (aM_readDeeds, .inl (cI, 10, .inl M_readDeeds))] sz) (va_Qi (fun r (_ : Unit) => r = rv) (fun _ t => sw_B (dC, dI) [(cI, .int), (cZ, .boolean)] [(aM, .inr (6, [.ref aM_page, .int M_pageMany, .ref aM_readDeeds, .int M_readMany', .int M_readBase', .int M_state', .int M_beings, .int M_number, .int M_deedsDone, .ref aM_rows, .ref aM_far, .ref aM_firsts, .ref aM_line, .int M_lined, .int M_toldMany, .ref aM_toldRows, .ref aM_parts, .int M_seedNow, .int M_keptNumber, .int M_keptBeings, .int M_keptDeeds, .int M_keptTold, .ref aM_keptToldRows, .long M_hash])), (aM_page, .inl (cI, 40, .inl M_page)), (aM_readDeeds, .inl (cI, 10, .inl M_readDeeds'))] (va_A [(aM, .inr (6, [.ref aM_page, .int M_pageMany, .ref aM_readDeeds, .int M_readMany, .int M_readBase, .int M_state, .int M_beings, .int M_number, .int M_deedsDone, .ref aM_rows, .ref aM_far, .ref aM_firsts, .ref aM_line, .int M_lined, .int M_toldMany, .ref aM_toldRows, .ref aM_parts, .int M_seedNow, .int M_keptNumber, .int M_keptBeings, .int M_keptDeeds, .int M_keptTold, .ref aM_keptToldRows, .long M_hash])), (aM_page, .inl (cI, 40, .inl M_page)), (aM_readDeeds, .inl (cI, 10, .inl M_readDeeds))] sz) t) (va_A [(aM, .inr (6, [.ref aM_page, .int M_pageMany, .ref aM_readDeeds, .int M_readMany, .int M_readBase, .int M_state, .int M_beings, .int M_number, .int M_deedsDone, .ref aM_rows, .ref aM_far, .ref aM_firsts, .ref aM_line, .int M_lined, .int M_toldMany, .ref aM_toldRows, .ref aM_parts, .int M_seedNow, .int M_keptNumber, .int M_keptBeings, .int M_keptDeeds, .int M_keptTold, .ref aM_keptToldRows, .long M_hash])), (aM_page, .inl (cI, 40, .inl M_page)), (aM_readDeeds, .inl (cI, 10, .inl M_readDeeds))] sz)) 0 0 (va_A [(aM, .inr (6, [.ref aM_page, .int M_pageMany, .ref aM_readDeeds, .int M_readMany, .int M_readBase, .int M_state, .int M_beings, .int M_number, .int M_deedsDone, .ref aM_rows, .ref aM_far, .ref aM_firsts, .ref aM_line, .int M_lined, .int M_toldMany, .ref aM_toldRows, .ref aM_parts, .int M_seedNow, .int M_keptNumber, .int M_keptBeings, .int M_keptDeeds, .int M_keptTold, .ref aM_keptToldRows, .long M_hash])), (aM_page, .inl (cI, 40, .inl M_page)), (aM_readDeeds, .inl (cI, 10, .inl M_readDeeds))] sz) := by
  refine sw_metW (cc := cX6_faultOf) (maxL := 2) (ret := (some .int)) (lv := [(0, .ref aM)]) (by decide) rfl (Nat.le_of_ble_eq_true rfl) rfl ?_
  intro p e s m below meth c Q A hsz hAe hQ hx hb hr hts hown hlocks hml hmn hP hK hD hE hS hA ls hl
  have hS0 := hS
  have hown : s.vm.findClass RX6 = some m.cls := hown
  have hf := (F_X6_faultOf.eq_1 _ _ _ _ _ _).symm.trans hf
  have hw3 := hts (.fieldLink RX6 47 "SwallowedInTurnModel" "pageMany" "I") (List.mem_of_getElem? (i := 3) (by decide +kernel))
  have iX6 : ∀ w ∈ u_ws RX6 TX6 24, w ∈ wsX6_faultOf := by decide +kernel
  have hw4 := hts (.fieldLink RX6 7 "SwallowedInTurnModel" "page" "[I") (List.mem_of_getElem? (i := 4) (by decide +kernel))
  have hw1 := hts (.fieldLink RX6 58 "SwallowedInTurnModel" "readMany" "I") (List.mem_of_getElem? (i := 1) (by decide +kernel))
  have hw2 := hts (.fieldLink RX6 55 "SwallowedInTurnModel" "state" "I") (List.mem_of_getElem? (i := 2) (by decide +kernel))
  have hf0 := hf
  clear hf
  have hP0 := hP
  have hD0 := hD
  clear hP hD hS
  have hl0 := hl
  clear hl
  have hB_12 :  ∀ (fu : Nat) (M_readMany : Int32) (M_readBase : Int32) (M_state : Int32) (M_readDeeds : Nat → Int32) (l1 : Int32), F_X6_faultOf_12 M_pageMany M_page fu M_readMany M_readBase M_state M_readDeeds l1 = some (rv, M_readMany', M_readBase', M_state', M_readDeeds') → ∀ (H : Heap) (locs : List Loc), va_P (dC, dI) vwCl [(aM, .inr (6, [.ref aM_page, .int M_pageMany, .ref aM_readDeeds, .int M_readMany, .int M_readBase, .int M_state, .int M_beings, .int M_number, .int M_deedsDone, .ref aM_rows, .ref aM_far, .ref aM_firsts, .ref aM_line, .int M_lined, .int M_toldMany, .ref aM_toldRows, .ref aM_parts, .int M_seedNow, .int M_keptNumber, .int M_keptBeings, .int M_keptDeeds, .int M_keptTold, .ref aM_keptToldRows, .long M_hash])), (aM_page, .inl (cI, 40, .inl M_page)), (aM_readDeeds, .inl (cI, 10, .inl M_readDeeds))] H → va_D A [(aM, .inr (6, [.ref aM_page, .int M_pageMany, .ref aM_readDeeds, .int M_readMany, .int M_readBase, .int M_state, .int M_beings, .int M_number, .int M_deedsDone, .ref aM_rows, .ref aM_far, .ref aM_firsts, .ref aM_line, .int M_lined, .int M_toldMany, .ref aM_toldRows, .ref aM_parts, .int M_seedNow, .int M_keptNumber, .int M_keptBeings, .int M_keptDeeds, .int M_keptTold, .ref aM_keptToldRows, .long M_hash])), (aM_page, .inl (cI, 40, .inl M_page)), (aM_readDeeds, .inl (cI, 10, .inl M_readDeeds))] → va_S A s.heap H locs → ∀ ls : Array Slot, lv_has ls 2 [(0, .ref aM), (1, .int l1)] → W p l e rm_X6_faultOf s m ([.ref aM] : List Value).toArray below meth c H locs 0 0 Q (F0 m 12 ls []) := by
    intro   fu
    induction fu with
    | zero =>
      intro M_readMany M_readBase M_state M_readDeeds l1 hf
      exact nomatch (show (none : Option (Int32 × Int32 × Int32 × Int32 × (Nat → Int32))) = some (rv, M_readMany', M_readBase', M_state', M_readDeeds') from hf)
    | succ fu ih =>
      intro M_readMany M_readBase M_state M_readDeeds l1 hf H locs hP hD hS ls hl
      have hf := (F_X6_faultOf_12.eq_2 _ _ _ _ _ _ _ _).symm.trans hf
      refine lv_iload_n hx hb dX6_faultOf_12 rfl (lv_at hl 1 rfl) ?_
      refine lv_aload_n hx hb dX6_faultOf_13 rfl (lv_at hl 0 rfl) ?_
      refine va_get (D := (dC, dI)) (ci := 6) (v := .int M_pageMany) (C := RX6) (T := TX6) (N := 24) hx hb hts iX6 hown hK hP 0 rfl rfl 1 (by decide) hw3 (fun _ h9 => h9) rfl dX6_faultOf_14 ?_
      refine lv_icmp_ge (tgt := 39) hx hb dX6_faultOf_17 (by decide) (fun c1 => ?_) (fun c1 => ?_)
      · have hf := sw_ip c1 hf
        refine lv_iload_n hx hb dX6_faultOf_39 rfl (lv_at hl 1 rfl) ?_
        subst hQ hAe
        cases hf
        exact W.iret hx hb hr (fun t ht hW => ⟨⟨_, (), rfl, rfl, ⟨by rw [ht]; exact hP, va_K.moved hW.alike hK, hD⟩⟩, hS.F ht⟩) hS.2.2 dX6_faultOf_40 hlocks
      · have hf := sw_in c1 hf
        refine lv_aload_n hx hb dX6_faultOf_20 rfl (lv_at hl 0 rfl) ?_
        refine lv_aload_n hx hb dX6_faultOf_21 rfl (lv_at hl 0 rfl) ?_
        refine va_get (D := (dC, dI)) (ci := 6) (v := .ref aM_page) (C := RX6) (T := TX6) (N := 24) hx hb hts iX6 hown hK hP 0 rfl rfl 0 (by decide) hw4 (fun _ h9 => h9) rfl dX6_faultOf_22 ?_
        refine lv_iload_n hx hb dX6_faultOf_25 rfl (lv_at hl 1 rfl) ?_
        obtain ⟨hi1, hf⟩ := sw_ix_s hf
        refine va_iald hx hb hK hP 1 0 rfl rfl hi1 dX6_faultOf_26 ?_
        obtain ⟨q2, hq2, hf⟩ := sw_bs hf
        have hPc := hP.sub (ws' := [(aM, .inr (6, [.ref aM_page, .int M_pageMany, .ref aM_readDeeds, .int M_readMany, .int M_readBase, .int M_state, .int M_beings, .int M_number, .int M_deedsDone, .ref aM_rows, .ref aM_far, .ref aM_firsts, .ref aM_line, .int M_lined, .int M_toldMany, .ref aM_toldRows, .ref aM_parts, .int M_seedNow, .int M_keptNumber, .int M_keptBeings, .int M_keptDeeds, .int M_keptTold, .ref aM_keptToldRows, .long M_hash])), (aM_readDeeds, .inl (cI, 10, .inl M_readDeeds))]) [0, 2] rfl
        have hDc := hD.sub (ws' := [(aM, .inr (6, [.ref aM_page, .int M_pageMany, .ref aM_readDeeds, .int M_readMany, .int M_readBase, .int M_state, .int M_beings, .int M_number, .int M_deedsDone, .ref aM_rows, .ref aM_far, .ref aM_firsts, .ref aM_line, .int M_lined, .int M_toldMany, .ref aM_toldRows, .ref aM_parts, .int M_seedNow, .int M_keptNumber, .int M_keptBeings, .int M_keptDeeds, .int M_keptTold, .ref aM_keptToldRows, .long M_hash])), (aM_readDeeds, .inl (cI, 10, .inl M_readDeeds))]) [0, 2] (by decide) rfl
        have hFc := va_free (wc := [(aM, .inr (6, [.ref aM_page, .int M_pageMany, .ref aM_readDeeds, .int M_readMany, .int M_readBase, .int M_state, .int M_beings, .int M_number, .int M_deedsDone, .ref aM_rows, .ref aM_far, .ref aM_firsts, .ref aM_line, .int M_lined, .int M_toldMany, .ref aM_toldRows, .ref aM_parts, .int M_seedNow, .int M_keptNumber, .int M_keptBeings, .int M_keptDeeds, .int M_keptTold, .ref aM_keptToldRows, .long M_hash])), (aM_readDeeds, .inl (cI, 10, .inl M_readDeeds))]) hD hS hA [0, 2] rfl
        refine sw_wi (wn := [(aM, .inr (6, [.ref aM_page, .int M_pageMany, .ref aM_readDeeds, .int q2.2.1, .int q2.2.2.1, .int q2.2.2.2.1, .int M_beings, .int M_number, .int M_deedsDone, .ref aM_rows, .ref aM_far, .ref aM_firsts, .ref aM_line, .int M_lined, .int M_toldMany, .ref aM_toldRows, .ref aM_parts, .int M_seedNow, .int M_keptNumber, .int M_keptBeings, .int M_keptDeeds, .int M_keptTold, .ref aM_keptToldRows, .long M_hash])), (aM_page, .inl (cI, 40, .inl M_page)), (aM_readDeeds, .inl (cI, 10, .inl q2.2.2.2.2))]) (w1 := [(aM, .inr (6, [.ref aM_page, .int M_pageMany, .ref aM_readDeeds, .int q2.2.1, .int q2.2.2.1, .int q2.2.2.2.1, .int M_beings, .int M_number, .int M_deedsDone, .ref aM_rows, .ref aM_far, .ref aM_firsts, .ref aM_line, .int M_lined, .int M_toldMany, .ref aM_toldRows, .ref aM_parts, .int M_seedNow, .int M_keptNumber, .int M_keptBeings, .int M_keptDeeds, .int M_keptTold, .ref aM_keptToldRows, .long M_hash])), (aM_readDeeds, .inl (cI, 10, .inl q2.2.2.2.2))]) (wr := [(aM_page, .inl (cI, 40, .inl M_page))]) (va_runV (As := [.int (M_page l1.toNatClampNeg)]) (rest := []) ⟨hx, hb, hml, hown, hts⟩ (k_X6_go l dC dI cI cZ t0 H.size aM aM_page aM_readDeeds aM_rows aM_far aM_firsts aM_line aM_toldRows aM_parts aM_keptToldRows M_pageMany M_readMany M_readBase M_state M_beings M_number M_deedsDone M_lined M_toldMany M_seedNow M_keptNumber M_keptBeings M_keptDeeds M_keptTold M_hash M_readDeeds (M_page l1.toNatClampNeg) q2.1 q2.2.1 q2.2.2.1 q2.2.2.2.1 q2.2.2.2.2 hq2) (cwV 1 hts gX6_faultOf_X6_go rfl rfl rfl (by decide +kernel) ⟨Nat.le_of_ble_eq_true rfl, Nat.le_of_ble_eq_true rfl⟩) ⟨sw_PW_bl, va_recv hK hPc (ci := 6) (q0 := 0) rfl rfl, sw_PW_pre hK hPc hDc hE hS hFc⟩ rfl rfl hl.1 rfl (lv_room (Nat.le_of_ble_eq_true rfl)) dX6_faultOf_27 ⟨Nat.zero_le _, Nat.zero_le _⟩) hS hP hD hFc [0, 2] [1] [1, 0, 2] rfl rfl (by decide) (by decide) (by decide) rfl (fun H locs hP hD hS => ?_)
        refine lv_if_eq (tgt := 39) hx hb dX6_faultOf_30 (by decide) (fun c2 => ?_) (fun c2 => ?_)
        · have hf := sw_ip c2 hf
          refine lv_iload_n hx hb dX6_faultOf_39 rfl (lv_at hl 1 rfl) ?_
          subst hQ hAe
          cases hf
          exact W.iret hx hb hr (fun t ht hW => ⟨⟨_, (), rfl, rfl, ⟨by rw [ht]; exact hP, va_K.moved hW.alike hK, hD⟩⟩, hS.F ht⟩) hS.2.2 dX6_faultOf_40 hlocks
        · have hf := sw_in c2 hf
          refine lv_iinc (v := l1 + (1 : Int32)) (lv' := [(1, .int (l1 + (1 : Int32))), (0, .ref aM)]) hx hb dX6_faultOf_33 hl (k := 1) rfl (sw_ii _) (by decide) rfl (fun ls hl => ?_)
          refine lv_goto (tgt := 12) hx hb dX6_faultOf_36 (by decide) ?_
          exact ih q2.2.1 q2.2.2.1 q2.2.2.2.1 q2.2.2.2.2 (l1 + (1 : Int32)) hf H locs hP hD hS ls (lv_sub hl [1, 0] rfl)
  have hf := hf0
  have hl := hl0
  have hP := hP0
  have hD := hD0
  have hS := hS0
  obtain ⟨H, hH⟩ : ∃ H, H = s.heap := ⟨_, rfl⟩
  obtain ⟨locs, hlo⟩ : ∃ locs : List Loc, locs = [] := ⟨_, rfl⟩
  rw [← hH] at hP
  have hS : va_S A s.heap H locs := by rw [hH, hlo]; exact hS0
  suffices hgo : W p l e rm_X6_faultOf s m ([.ref aM] : List Value).toArray below meth c H locs 0 0 Q (F0 m 0 ls []) by rw [hH, hlo] at hgo; exact hgo
  refine lv_aload_n hx hb dX6_faultOf_0 rfl (lv_at hl 0 rfl) ?_
  refine lv_iconst (v := 0) hx hb dX6_faultOf_1 (by decide) ?_
  refine va_put (D := (dC, dI)) (ci := 6) (v := .int (0 : Int32)) (ty := .int) (C := RX6) (T := TX6) (N := 24) hx hb hts iX6 tyX6 tyX6_ok nmX6 hown hK hP hD hS 0 rfl rfl 3 (by decide) hw1 (fun _ h9 => h9) rfl (by decide +kernel) rfl rfl (Nat.le_of_ble_eq_true rfl) dX6_faultOf_2 (fun H locs hP hD hS => ?_)
  have hP : va_P (dC, dI) vwCl [(aM, .inr (6, [.ref aM_page, .int M_pageMany, .ref aM_readDeeds, .int (0 : Int32), .int M_readBase, .int M_state, .int M_beings, .int M_number, .int M_deedsDone, .ref aM_rows, .ref aM_far, .ref aM_firsts, .ref aM_line, .int M_lined, .int M_toldMany, .ref aM_toldRows, .ref aM_parts, .int M_seedNow, .int M_keptNumber, .int M_keptBeings, .int M_keptDeeds, .int M_keptTold, .ref aM_keptToldRows, .long M_hash])), (aM_page, .inl (cI, 40, .inl M_page)), (aM_readDeeds, .inl (cI, 10, .inl M_readDeeds))] H := hP
  have hD : va_D A [(aM, .inr (6, [.ref aM_page, .int M_pageMany, .ref aM_readDeeds, .int (0 : Int32), .int M_readBase, .int M_state, .int M_beings, .int M_number, .int M_deedsDone, .ref aM_rows, .ref aM_far, .ref aM_firsts, .ref aM_line, .int M_lined, .int M_toldMany, .ref aM_toldRows, .ref aM_parts, .int M_seedNow, .int M_keptNumber, .int M_keptBeings, .int M_keptDeeds, .int M_keptTold, .ref aM_keptToldRows, .long M_hash])), (aM_page, .inl (cI, 40, .inl M_page)), (aM_readDeeds, .inl (cI, 10, .inl M_readDeeds))] := hD
  refine lv_aload_n hx hb dX6_faultOf_5 rfl (lv_at hl 0 rfl) ?_
  refine lv_iconst (v := 0) hx hb dX6_faultOf_6 (by decide) ?_
  refine va_put (D := (dC, dI)) (ci := 6) (v := .int (0 : Int32)) (ty := .int) (C := RX6) (T := TX6) (N := 24) hx hb hts iX6 tyX6 tyX6_ok nmX6 hown hK hP hD hS 0 rfl rfl 5 (by decide) hw2 (fun _ h9 => h9) rfl (by decide +kernel) rfl rfl (Nat.le_of_ble_eq_true rfl) dX6_faultOf_7 (fun H locs hP hD hS => ?_)
  have hP : va_P (dC, dI) vwCl [(aM, .inr (6, [.ref aM_page, .int M_pageMany, .ref aM_readDeeds, .int (0 : Int32), .int M_readBase, .int (0 : Int32), .int M_beings, .int M_number, .int M_deedsDone, .ref aM_rows, .ref aM_far, .ref aM_firsts, .ref aM_line, .int M_lined, .int M_toldMany, .ref aM_toldRows, .ref aM_parts, .int M_seedNow, .int M_keptNumber, .int M_keptBeings, .int M_keptDeeds, .int M_keptTold, .ref aM_keptToldRows, .long M_hash])), (aM_page, .inl (cI, 40, .inl M_page)), (aM_readDeeds, .inl (cI, 10, .inl M_readDeeds))] H := hP
  have hD : va_D A [(aM, .inr (6, [.ref aM_page, .int M_pageMany, .ref aM_readDeeds, .int (0 : Int32), .int M_readBase, .int (0 : Int32), .int M_beings, .int M_number, .int M_deedsDone, .ref aM_rows, .ref aM_far, .ref aM_firsts, .ref aM_line, .int M_lined, .int M_toldMany, .ref aM_toldRows, .ref aM_parts, .int M_seedNow, .int M_keptNumber, .int M_keptBeings, .int M_keptDeeds, .int M_keptTold, .ref aM_keptToldRows, .long M_hash])), (aM_page, .inl (cI, 40, .inl M_page)), (aM_readDeeds, .inl (cI, 10, .inl M_readDeeds))] := hD
  refine lv_iconst (v := 0) hx hb dX6_faultOf_10 (by decide) ?_
  refine lv_istore_n (lv' := [(1, .int (0 : Int32)), (0, .ref aM)]) hx hb dX6_faultOf_11 rfl hl (by decide) rfl (fun ls hl => ?_)
  exact hB_12   sw_fu (0 : Int32) M_readBase (0 : Int32) M_readDeeds (0 : Int32) hf H locs hP hD hS ls (lv_sub hl [1, 0] rfl)
abbrev rm_X6_fault : Room := { frames := 4, cells := 0, slots := 0, locals := 88 }
set_option maxHeartbeats 1000000 in
set_option maxRecDepth 100000 in
theorem k_X6_fault (l : Launch) (dC : Nat → ClassId) (dI : Nat → Nat → Nat) (cI cZ : ClassId) (t0 : Nat) (sz : Nat) (aM aM_page aM_readDeeds aM_rows aM_far aM_firsts aM_line aM_toldRows aM_parts aM_keptToldRows : Nat) (M_pageMany : Int32) (M_readMany : Int32) (M_readBase : Int32) (M_state : Int32) (M_beings : Int32) (M_number : Int32) (M_deedsDone : Int32) (M_lined : Int32) (M_toldMany : Int32) (M_seedNow : Int32) (M_keptNumber : Int32) (M_keptBeings : Int32) (M_keptDeeds : Int32) (M_keptTold : Int32) (M_hash : Int64) (M_page : Nat → Int32) (M_readDeeds : Nat → Int32) (rv : Int32) (M_readMany' : Int32) (M_readBase' : Int32) (M_state' : Int32) (M_readDeeds' : Nat → Int32) (hf : F_X6_fault M_pageMany M_readMany M_readBase M_state M_page M_readDeeds = some (rv, M_readMany', M_readBase', M_state', M_readDeeds')) : Met l yX6_fault wsX6_fault rm_X6_fault (sw_PW (dC, dI) t0 [(cI, .int), (cZ, .boolean)] [.ref aM] [(aM, .inr (6, [.ref aM_page, .int M_pageMany, .ref aM_readDeeds, .int M_readMany, .int M_readBase, .int M_state, .int M_beings, .int M_number, .int M_deedsDone, .ref aM_rows, .ref aM_far, .ref aM_firsts, .ref aM_line, .int M_lined, .int M_toldMany, .ref aM_toldRows, .ref aM_parts, .int M_seedNow, .int M_keptNumber, .int M_keptBeings, .int M_keptDeeds, .int M_keptTold, .ref aM_keptToldRows, .long M_hash])), (aM_page, .inl (cI, 40, .inl M_page)), (aM_readDeeds, .inl (cI, 10, .inl M_readDeeds))] sz) (va_Qi (fun r (_ : Unit) => r = rv) (fun _ t => sw_B (dC, dI) [(cI, .int), (cZ, .boolean)] [(aM, .inr (6, [.ref aM_page, .int M_pageMany, .ref aM_readDeeds, .int M_readMany', .int M_readBase', .int M_state', .int M_beings, .int M_number, .int M_deedsDone, .ref aM_rows, .ref aM_far, .ref aM_firsts, .ref aM_line, .int M_lined, .int M_toldMany, .ref aM_toldRows, .ref aM_parts, .int M_seedNow, .int M_keptNumber, .int M_keptBeings, .int M_keptDeeds, .int M_keptTold, .ref aM_keptToldRows, .long M_hash])), (aM_page, .inl (cI, 40, .inl M_page)), (aM_readDeeds, .inl (cI, 10, .inl M_readDeeds'))] (va_A [(aM, .inr (6, [.ref aM_page, .int M_pageMany, .ref aM_readDeeds, .int M_readMany, .int M_readBase, .int M_state, .int M_beings, .int M_number, .int M_deedsDone, .ref aM_rows, .ref aM_far, .ref aM_firsts, .ref aM_line, .int M_lined, .int M_toldMany, .ref aM_toldRows, .ref aM_parts, .int M_seedNow, .int M_keptNumber, .int M_keptBeings, .int M_keptDeeds, .int M_keptTold, .ref aM_keptToldRows, .long M_hash])), (aM_page, .inl (cI, 40, .inl M_page)), (aM_readDeeds, .inl (cI, 10, .inl M_readDeeds))] sz) t) (va_A [(aM, .inr (6, [.ref aM_page, .int M_pageMany, .ref aM_readDeeds, .int M_readMany, .int M_readBase, .int M_state, .int M_beings, .int M_number, .int M_deedsDone, .ref aM_rows, .ref aM_far, .ref aM_firsts, .ref aM_line, .int M_lined, .int M_toldMany, .ref aM_toldRows, .ref aM_parts, .int M_seedNow, .int M_keptNumber, .int M_keptBeings, .int M_keptDeeds, .int M_keptTold, .ref aM_keptToldRows, .long M_hash])), (aM_page, .inl (cI, 40, .inl M_page)), (aM_readDeeds, .inl (cI, 10, .inl M_readDeeds))] sz)) 0 0 (va_A [(aM, .inr (6, [.ref aM_page, .int M_pageMany, .ref aM_readDeeds, .int M_readMany, .int M_readBase, .int M_state, .int M_beings, .int M_number, .int M_deedsDone, .ref aM_rows, .ref aM_far, .ref aM_firsts, .ref aM_line, .int M_lined, .int M_toldMany, .ref aM_toldRows, .ref aM_parts, .int M_seedNow, .int M_keptNumber, .int M_keptBeings, .int M_keptDeeds, .int M_keptTold, .ref aM_keptToldRows, .long M_hash])), (aM_page, .inl (cI, 40, .inl M_page)), (aM_readDeeds, .inl (cI, 10, .inl M_readDeeds))] sz) := by
  refine sw_metW (cc := cX6_fault) (maxL := 1) (ret := (some .int)) (lv := [(0, .ref aM)]) (by decide) rfl (Nat.le_of_ble_eq_true rfl) rfl ?_
  intro p e s m below meth c Q A hsz hAe hQ hx hb hr hts hown hlocks hml hmn hP hK hD hE hS hA ls hl
  have hS0 := hS
  have hown : s.vm.findClass RX6 = some m.cls := hown
  have hf := (F_X6_fault.eq_1 _ _ _ _ _ _).symm.trans hf
  obtain ⟨H, hH⟩ : ∃ H, H = s.heap := ⟨_, rfl⟩
  obtain ⟨locs, hlo⟩ : ∃ locs : List Loc, locs = [] := ⟨_, rfl⟩
  rw [← hH] at hP
  have hS : va_S A s.heap H locs := by rw [hH, hlo]; exact hS0
  suffices hgo : W p l e rm_X6_fault s m ([.ref aM] : List Value).toArray below meth c H locs 0 0 Q (F0 m 0 ls []) by rw [hH, hlo] at hgo; exact hgo
  refine lv_aload_n hx hb dX6_fault_0 rfl (lv_at hl 0 rfl) ?_
  obtain ⟨q1, hq1, hf⟩ := sw_bs hf
  have hPc := hP.sub (ws' := [(aM, .inr (6, [.ref aM_page, .int M_pageMany, .ref aM_readDeeds, .int M_readMany, .int M_readBase, .int M_state, .int M_beings, .int M_number, .int M_deedsDone, .ref aM_rows, .ref aM_far, .ref aM_firsts, .ref aM_line, .int M_lined, .int M_toldMany, .ref aM_toldRows, .ref aM_parts, .int M_seedNow, .int M_keptNumber, .int M_keptBeings, .int M_keptDeeds, .int M_keptTold, .ref aM_keptToldRows, .long M_hash])), (aM_page, .inl (cI, 40, .inl M_page)), (aM_readDeeds, .inl (cI, 10, .inl M_readDeeds))]) [0, 1, 2] rfl
  have hDc := hD.sub (ws' := [(aM, .inr (6, [.ref aM_page, .int M_pageMany, .ref aM_readDeeds, .int M_readMany, .int M_readBase, .int M_state, .int M_beings, .int M_number, .int M_deedsDone, .ref aM_rows, .ref aM_far, .ref aM_firsts, .ref aM_line, .int M_lined, .int M_toldMany, .ref aM_toldRows, .ref aM_parts, .int M_seedNow, .int M_keptNumber, .int M_keptBeings, .int M_keptDeeds, .int M_keptTold, .ref aM_keptToldRows, .long M_hash])), (aM_page, .inl (cI, 40, .inl M_page)), (aM_readDeeds, .inl (cI, 10, .inl M_readDeeds))]) [0, 1, 2] (by decide) rfl
  have hFc := va_free (wc := [(aM, .inr (6, [.ref aM_page, .int M_pageMany, .ref aM_readDeeds, .int M_readMany, .int M_readBase, .int M_state, .int M_beings, .int M_number, .int M_deedsDone, .ref aM_rows, .ref aM_far, .ref aM_firsts, .ref aM_line, .int M_lined, .int M_toldMany, .ref aM_toldRows, .ref aM_parts, .int M_seedNow, .int M_keptNumber, .int M_keptBeings, .int M_keptDeeds, .int M_keptTold, .ref aM_keptToldRows, .long M_hash])), (aM_page, .inl (cI, 40, .inl M_page)), (aM_readDeeds, .inl (cI, 10, .inl M_readDeeds))]) hD hS hA [0, 1, 2] rfl
  refine sw_wi (wn := [(aM, .inr (6, [.ref aM_page, .int M_pageMany, .ref aM_readDeeds, .int q1.2.1, .int q1.2.2.1, .int q1.2.2.2.1, .int M_beings, .int M_number, .int M_deedsDone, .ref aM_rows, .ref aM_far, .ref aM_firsts, .ref aM_line, .int M_lined, .int M_toldMany, .ref aM_toldRows, .ref aM_parts, .int M_seedNow, .int M_keptNumber, .int M_keptBeings, .int M_keptDeeds, .int M_keptTold, .ref aM_keptToldRows, .long M_hash])), (aM_page, .inl (cI, 40, .inl M_page)), (aM_readDeeds, .inl (cI, 10, .inl q1.2.2.2.2))]) (w1 := [(aM, .inr (6, [.ref aM_page, .int M_pageMany, .ref aM_readDeeds, .int q1.2.1, .int q1.2.2.1, .int q1.2.2.2.1, .int M_beings, .int M_number, .int M_deedsDone, .ref aM_rows, .ref aM_far, .ref aM_firsts, .ref aM_line, .int M_lined, .int M_toldMany, .ref aM_toldRows, .ref aM_parts, .int M_seedNow, .int M_keptNumber, .int M_keptBeings, .int M_keptDeeds, .int M_keptTold, .ref aM_keptToldRows, .long M_hash])), (aM_page, .inl (cI, 40, .inl M_page)), (aM_readDeeds, .inl (cI, 10, .inl q1.2.2.2.2))]) (wr := []) (va_runV (As := []) (rest := []) ⟨hx, hb, hml, hown, hts⟩ (k_X6_faultOf l dC dI cI cZ t0 H.size aM aM_page aM_readDeeds aM_rows aM_far aM_firsts aM_line aM_toldRows aM_parts aM_keptToldRows M_pageMany M_readMany M_readBase M_state M_beings M_number M_deedsDone M_lined M_toldMany M_seedNow M_keptNumber M_keptBeings M_keptDeeds M_keptTold M_hash M_page M_readDeeds q1.1 q1.2.1 q1.2.2.1 q1.2.2.2.1 q1.2.2.2.2 hq1) (cwV 0 hts gX6_fault_X6_faultOf rfl rfl rfl (by decide +kernel) ⟨Nat.le_of_ble_eq_true rfl, Nat.le_of_ble_eq_true rfl⟩) ⟨sw_PW_bl, va_recv hK hPc (ci := 6) (q0 := 0) rfl rfl, sw_PW_pre hK hPc hDc hE hS hFc⟩ rfl rfl hl.1 rfl (lv_room (Nat.le_of_ble_eq_true rfl)) dX6_fault_1 ⟨Nat.zero_le _, Nat.zero_le _⟩) hS hP hD hFc [0, 1, 2] [] [0, 1, 2] rfl rfl (by decide) (by decide) (by decide) rfl (fun H locs hP hD hS => ?_)
  subst hQ hAe
  cases hf
  exact W.iret hx hb hr (fun t ht hW => ⟨⟨_, (), rfl, rfl, ⟨by rw [ht]; exact hP, va_K.moved hW.alike hK, hD⟩⟩, hS.F ht⟩) hS.2.2 dX6_fault_4 hlocks
abbrev rm_X6_isBeing : Room := { frames := 1, cells := 0, slots := 0, locals := 25 }
set_option maxHeartbeats 1000000 in
set_option maxRecDepth 100000 in
theorem k_X6_isBeing (l : Launch) (dC : Nat → ClassId) (dI : Nat → Nat → Nat) (cI cZ : ClassId) (t0 : Nat) (aM aM_page aM_readDeeds aM_rows aM_far aM_firsts aM_line aM_toldRows aM_parts aM_keptToldRows : Nat) (M_pageMany : Int32) (M_readMany : Int32) (M_readBase : Int32) (M_state : Int32) (M_beings : Int32) (M_number : Int32) (M_deedsDone : Int32) (M_lined : Int32) (M_toldMany : Int32) (M_seedNow : Int32) (M_keptNumber : Int32) (M_keptBeings : Int32) (M_keptDeeds : Int32) (M_keptTold : Int32) (M_hash : Int64) (l1 : Int32) (rv : Int32)  (hf : F_X6_isBeing M_beings l1 = some (rv)) : Met l yX6_isBeing wsX6_isBeing rm_X6_isBeing (sw_PR (dC, dI) t0 [(cI, .int), (cZ, .boolean)] [.ref aM, .int l1] [(aM, .inr (6, [.ref aM_page, .int M_pageMany, .ref aM_readDeeds, .int M_readMany, .int M_readBase, .int M_state, .int M_beings, .int M_number, .int M_deedsDone, .ref aM_rows, .ref aM_far, .ref aM_firsts, .ref aM_line, .int M_lined, .int M_toldMany, .ref aM_toldRows, .ref aM_parts, .int M_seedNow, .int M_keptNumber, .int M_keptBeings, .int M_keptDeeds, .int M_keptTold, .ref aM_keptToldRows, .long M_hash]))]) (vp_Si (fun r => r = rv)) 0 0 (fun _ => False) := by
  refine sw_metR (cc := cX6_isBeing) (maxL := 2) (ret := (some .boolean)) (lv := [(0, .ref aM), (1, .int l1)]) (by decide) rfl (Nat.le_of_ble_eq_true rfl) rfl ?_
  intro p e s m below meth c Q hQ hx hb hr hts hown hlocks hml hP hK hE hS ls hl
  have hown : s.vm.findClass RX6 = some m.cls := hown
  have hf := (F_X6_isBeing.eq_1 _ _).symm.trans hf
  have hw1 := hts (.fieldLink RX6 72 "SwallowedInTurnModel" "beings" "I") (List.mem_of_getElem? (i := 1) (by decide +kernel))
  have iX6 : ∀ w ∈ u_ws RX6 TX6 24, w ∈ wsX6_isBeing := by decide +kernel
  refine lv_iload_n hx hb dX6_isBeing_0 rfl (lv_at hl 1 rfl) ?_
  refine lv_i2l (v := (l1).toInt64) hx hb dX6_isBeing_1 rfl ?_
  refine lv_lconst (v := 0) hx hb dX6_isBeing_2 (by decide) ?_
  refine lv_aload_n hx hb dX6_isBeing_3 rfl (lv_at hl 0 rfl) ?_
  refine va_get (D := (dC, dI)) (ci := 6) (v := .int M_beings) (C := RX6) (T := TX6) (N := 24) hx hb hts iX6 hown hK hP 0 rfl rfl 6 (by decide) hw1 (fun _ h9 => h9) rfl dX6_isBeing_4 ?_
  refine lv_iconst (v := 1) hx hb dX6_isBeing_7 (by decide) ?_
  refine lv_isub hx hb dX6_isBeing_8 ?_
  refine lv_i2l (v := (M_beings - (1 : Int32)).toInt64) hx hb dX6_isBeing_9 rfl ?_
  obtain ⟨q1, hq1, hf⟩ := sw_bs hf
  have hPc := hP.sub (ws' := []) [] rfl
  refine sw_rd (W.runS (As := [.long ((l1).toInt64), .long (0 : Int64), .long ((M_beings - (1 : Int32)).toInt64)]) (rest := []) ⟨hx, hb, hml, hown, hts⟩ (k_X6_in l dC dI cI cZ t0 ((l1).toInt64) (0 : Int64) ((M_beings - (1 : Int32)).toInt64) q1 hq1) (va_cwS 3 hts gX6_isBeing_X6_in rfl rfl rfl (by decide +kernel) ⟨Nat.le_of_ble_eq_true rfl, Nat.le_of_ble_eq_true rfl⟩) ⟨sw_PR_bl, sw_PR_pre hK hPc hE hS⟩ rfl rfl hl.1 rfl (lv_room (Nat.le_of_ble_eq_true rfl)) dX6_isBeing_10 ⟨Nat.zero_le _, Nat.zero_le _⟩) ?_
  obtain ⟨hn, hf⟩ := sw_zb_s hf
  subst hQ
  exact W.zret hx hb hr hn (fun t ht hW => ⟨_, rfl, Option.some.inj hf, ht⟩) (fun _ h => absurd h List.not_mem_nil) dX6_isBeing_13 hlocks
abbrev rm_X6_being : Room := { frames := 1, cells := 0, slots := 0, locals := 25 }
set_option maxHeartbeats 1000000 in
set_option maxRecDepth 100000 in
theorem k_X6_being (l : Launch) (dC : Nat → ClassId) (dI : Nat → Nat → Nat) (cI cZ : ClassId) (t0 : Nat) (sz : Nat) (aM aM_page aM_readDeeds aM_rows aM_far aM_firsts aM_line aM_toldRows aM_parts aM_keptToldRows : Nat) (M_pageMany : Int32) (M_readMany : Int32) (M_readBase : Int32) (M_state : Int32) (M_beings : Int32) (M_number : Int32) (M_deedsDone : Int32) (M_lined : Int32) (M_toldMany : Int32) (M_seedNow : Int32) (M_keptNumber : Int32) (M_keptBeings : Int32) (M_keptDeeds : Int32) (M_keptTold : Int32) (M_hash : Int64) (M_rows : Nat → Int32) (l1 : Int32) (l2 : Int32) (l3 : Int32) (l4 : Int32) (rv : Int32) (M_beings' : Int32) (M_rows' : Nat → Int32) (hf : F_X6_being M_beings M_rows l1 l2 l3 l4 = some (rv, M_beings', M_rows')) : Met l yX6_being wsX6_being rm_X6_being (sw_PW (dC, dI) t0 [(cI, .int), (cZ, .boolean)] [.ref aM, .int l1, .int l2, .int l3, .int l4] [(aM, .inr (6, [.ref aM_page, .int M_pageMany, .ref aM_readDeeds, .int M_readMany, .int M_readBase, .int M_state, .int M_beings, .int M_number, .int M_deedsDone, .ref aM_rows, .ref aM_far, .ref aM_firsts, .ref aM_line, .int M_lined, .int M_toldMany, .ref aM_toldRows, .ref aM_parts, .int M_seedNow, .int M_keptNumber, .int M_keptBeings, .int M_keptDeeds, .int M_keptTold, .ref aM_keptToldRows, .long M_hash])), (aM_rows, .inl (cI, 20, .inl M_rows))] sz) (va_Qi (fun r (_ : Unit) => r = rv) (fun _ t => sw_B (dC, dI) [(cI, .int), (cZ, .boolean)] [(aM, .inr (6, [.ref aM_page, .int M_pageMany, .ref aM_readDeeds, .int M_readMany, .int M_readBase, .int M_state, .int M_beings', .int M_number, .int M_deedsDone, .ref aM_rows, .ref aM_far, .ref aM_firsts, .ref aM_line, .int M_lined, .int M_toldMany, .ref aM_toldRows, .ref aM_parts, .int M_seedNow, .int M_keptNumber, .int M_keptBeings, .int M_keptDeeds, .int M_keptTold, .ref aM_keptToldRows, .long M_hash])), (aM_rows, .inl (cI, 20, .inl M_rows'))] (va_A [(aM, .inr (6, [.ref aM_page, .int M_pageMany, .ref aM_readDeeds, .int M_readMany, .int M_readBase, .int M_state, .int M_beings, .int M_number, .int M_deedsDone, .ref aM_rows, .ref aM_far, .ref aM_firsts, .ref aM_line, .int M_lined, .int M_toldMany, .ref aM_toldRows, .ref aM_parts, .int M_seedNow, .int M_keptNumber, .int M_keptBeings, .int M_keptDeeds, .int M_keptTold, .ref aM_keptToldRows, .long M_hash])), (aM_rows, .inl (cI, 20, .inl M_rows))] sz) t) (va_A [(aM, .inr (6, [.ref aM_page, .int M_pageMany, .ref aM_readDeeds, .int M_readMany, .int M_readBase, .int M_state, .int M_beings, .int M_number, .int M_deedsDone, .ref aM_rows, .ref aM_far, .ref aM_firsts, .ref aM_line, .int M_lined, .int M_toldMany, .ref aM_toldRows, .ref aM_parts, .int M_seedNow, .int M_keptNumber, .int M_keptBeings, .int M_keptDeeds, .int M_keptTold, .ref aM_keptToldRows, .long M_hash])), (aM_rows, .inl (cI, 20, .inl M_rows))] sz)) 0 0 (va_A [(aM, .inr (6, [.ref aM_page, .int M_pageMany, .ref aM_readDeeds, .int M_readMany, .int M_readBase, .int M_state, .int M_beings, .int M_number, .int M_deedsDone, .ref aM_rows, .ref aM_far, .ref aM_firsts, .ref aM_line, .int M_lined, .int M_toldMany, .ref aM_toldRows, .ref aM_parts, .int M_seedNow, .int M_keptNumber, .int M_keptBeings, .int M_keptDeeds, .int M_keptTold, .ref aM_keptToldRows, .long M_hash])), (aM_rows, .inl (cI, 20, .inl M_rows))] sz) := by
  refine sw_metW (cc := cX6_being) (maxL := 5) (ret := (some .int)) (lv := [(0, .ref aM), (1, .int l1), (2, .int l2), (3, .int l3), (4, .int l4)]) (by decide) rfl (Nat.le_of_ble_eq_true rfl) rfl ?_
  intro p e s m below meth c Q A hsz hAe hQ hx hb hr hts hown hlocks hml hmn hP hK hD hE hS hA ls hl
  have hS0 := hS
  have hown : s.vm.findClass RX6 = some m.cls := hown
  have hf := (F_X6_being.eq_1 _ _ _ _ _ _).symm.trans hf
  have hw1 := hts (.constantLong RX6 50 (4)) (List.mem_of_getElem? (i := 1) (by decide +kernel))
  have hw2 := hts (.constantLong RX6 75 (9)) (List.mem_of_getElem? (i := 2) (by decide +kernel))
  have hw3 := hts (.constantLong RX6 77 (20)) (List.mem_of_getElem? (i := 3) (by decide +kernel))
  have hw4 := hts (.constantLong RX6 79 (31)) (List.mem_of_getElem? (i := 4) (by decide +kernel))
  have hw5 := hts (.fieldLink RX6 72 "SwallowedInTurnModel" "beings" "I") (List.mem_of_getElem? (i := 5) (by decide +kernel))
  have iX6 : ∀ w ∈ u_ws RX6 TX6 24, w ∈ wsX6_being := by decide +kernel
  have hw6 := hts (.fieldLink RX6 16 "SwallowedInTurnModel" "rows" "[I") (List.mem_of_getElem? (i := 6) (by decide +kernel))
  obtain ⟨H, hH⟩ : ∃ H, H = s.heap := ⟨_, rfl⟩
  obtain ⟨locs, hlo⟩ : ∃ locs : List Loc, locs = [] := ⟨_, rfl⟩
  rw [← hH] at hP
  have hS : va_S A s.heap H locs := by rw [hH, hlo]; exact hS0
  suffices hgo : W p l e rm_X6_being s m ([.ref aM, .int l1, .int l2, .int l3, .int l4] : List Value).toArray below meth c H locs 0 0 Q (F0 m 0 ls []) by rw [hH, hlo] at hgo; exact hgo
  refine lv_iload_n hx hb dX6_being_0 rfl (lv_at hl 1 rfl) ?_
  refine lv_i2l (v := (l1).toInt64) hx hb dX6_being_1 rfl ?_
  refine lv_lconst (v := 0) hx hb dX6_being_2 (by decide) ?_
  refine lv_ldc2 (v := 4) hx hb hown hw1 dX6_being_3 ?_
  obtain ⟨q1, hq1, hf⟩ := sw_bs hf
  have hPc := hP.sub (ws' := []) [] rfl
  refine sw_rd (W.runS (As := [.long ((l1).toInt64), .long (0 : Int64), .long (4 : Int64)]) (rest := []) ⟨hx, hb, hml, hown, hts⟩ (k_X6_in l dC dI cI cZ t0 ((l1).toInt64) (0 : Int64) (4 : Int64) q1 hq1) (va_cwS 3 hts gX6_being_X6_in rfl rfl rfl (by decide +kernel) ⟨Nat.le_of_ble_eq_true rfl, Nat.le_of_ble_eq_true rfl⟩) ⟨sw_PR_bl, sw_PR_pre hK hPc hE hS⟩ rfl rfl hl.1 rfl (lv_room (Nat.le_of_ble_eq_true rfl)) dX6_being_6 ⟨Nat.zero_le _, Nat.zero_le _⟩) ?_
  refine lv_if_eq (tgt := 49) hx hb dX6_being_9 (by decide) (fun c1 => ?_) (fun c1 => ?_)
  · have hf := sw_ip c1 hf
    refine lv_bipush (v := -102) hx hb dX6_being_49 (by decide) ?_
    subst hQ hAe
    cases hf
    exact W.iret hx hb hr (fun t ht hW => ⟨⟨_, (), rfl, rfl, ⟨by rw [ht]; exact hP, va_K.moved hW.alike hK, hD⟩⟩, hS.F ht⟩) hS.2.2 dX6_being_51 hlocks
  · have hf := sw_in c1 hf
    refine lv_iload_n hx hb dX6_being_12 rfl (lv_at hl 2 rfl) ?_
    refine lv_i2l (v := (l2).toInt64) hx hb dX6_being_13 rfl ?_
    refine lv_lconst (v := 1) hx hb dX6_being_14 (by decide) ?_
    refine lv_ldc2 (v := 9) hx hb hown hw2 dX6_being_15 ?_
    obtain ⟨q2, hq2, hf⟩ := sw_bs hf
    have hPc := hP.sub (ws' := []) [] rfl
    refine sw_rd (W.runS (As := [.long ((l2).toInt64), .long (1 : Int64), .long (9 : Int64)]) (rest := []) ⟨hx, hb, hml, hown, hts⟩ (k_X6_in l dC dI cI cZ t0 ((l2).toInt64) (1 : Int64) (9 : Int64) q2 hq2) (va_cwS 3 hts gX6_being_X6_in rfl rfl rfl (by decide +kernel) ⟨Nat.le_of_ble_eq_true rfl, Nat.le_of_ble_eq_true rfl⟩) ⟨sw_PR_bl, sw_PR_pre hK hPc hE hS⟩ rfl rfl hl.1 rfl (lv_room (Nat.le_of_ble_eq_true rfl)) dX6_being_18 ⟨Nat.zero_le _, Nat.zero_le _⟩) ?_
    refine lv_if_eq (tgt := 49) hx hb dX6_being_21 (by decide) (fun c2 => ?_) (fun c2 => ?_)
    · have hf := sw_ip c2 hf
      refine lv_bipush (v := -102) hx hb dX6_being_49 (by decide) ?_
      subst hQ hAe
      cases hf
      exact W.iret hx hb hr (fun t ht hW => ⟨⟨_, (), rfl, rfl, ⟨by rw [ht]; exact hP, va_K.moved hW.alike hK, hD⟩⟩, hS.F ht⟩) hS.2.2 dX6_being_51 hlocks
    · have hf := sw_in c2 hf
      refine lv_iload_n hx hb dX6_being_24 rfl (lv_at hl 3 rfl) ?_
      refine lv_i2l (v := (l3).toInt64) hx hb dX6_being_25 rfl ?_
      refine lv_lconst (v := 0) hx hb dX6_being_26 (by decide) ?_
      refine lv_ldc2 (v := 20) hx hb hown hw3 dX6_being_27 ?_
      obtain ⟨q3, hq3, hf⟩ := sw_bs hf
      have hPc := hP.sub (ws' := []) [] rfl
      refine sw_rd (W.runS (As := [.long ((l3).toInt64), .long (0 : Int64), .long (20 : Int64)]) (rest := []) ⟨hx, hb, hml, hown, hts⟩ (k_X6_in l dC dI cI cZ t0 ((l3).toInt64) (0 : Int64) (20 : Int64) q3 hq3) (va_cwS 3 hts gX6_being_X6_in rfl rfl rfl (by decide +kernel) ⟨Nat.le_of_ble_eq_true rfl, Nat.le_of_ble_eq_true rfl⟩) ⟨sw_PR_bl, sw_PR_pre hK hPc hE hS⟩ rfl rfl hl.1 rfl (lv_room (Nat.le_of_ble_eq_true rfl)) dX6_being_30 ⟨Nat.zero_le _, Nat.zero_le _⟩) ?_
      refine lv_if_eq (tgt := 49) hx hb dX6_being_33 (by decide) (fun c3 => ?_) (fun c3 => ?_)
      · have hf := sw_ip c3 hf
        refine lv_bipush (v := -102) hx hb dX6_being_49 (by decide) ?_
        subst hQ hAe
        cases hf
        exact W.iret hx hb hr (fun t ht hW => ⟨⟨_, (), rfl, rfl, ⟨by rw [ht]; exact hP, va_K.moved hW.alike hK, hD⟩⟩, hS.F ht⟩) hS.2.2 dX6_being_51 hlocks
      · have hf := sw_in c3 hf
        refine lv_iload hx hb dX6_being_36 (lv_at hl 4 rfl) ?_
        refine lv_i2l (v := (l4).toInt64) hx hb dX6_being_38 rfl ?_
        refine lv_lconst (v := 0) hx hb dX6_being_39 (by decide) ?_
        refine lv_ldc2 (v := 31) hx hb hown hw4 dX6_being_40 ?_
        obtain ⟨q4, hq4, hf⟩ := sw_bs hf
        have hPc := hP.sub (ws' := []) [] rfl
        refine sw_rd (W.runS (As := [.long ((l4).toInt64), .long (0 : Int64), .long (31 : Int64)]) (rest := []) ⟨hx, hb, hml, hown, hts⟩ (k_X6_in l dC dI cI cZ t0 ((l4).toInt64) (0 : Int64) (31 : Int64) q4 hq4) (va_cwS 3 hts gX6_being_X6_in rfl rfl rfl (by decide +kernel) ⟨Nat.le_of_ble_eq_true rfl, Nat.le_of_ble_eq_true rfl⟩) ⟨sw_PR_bl, sw_PR_pre hK hPc hE hS⟩ rfl rfl hl.1 rfl (lv_room (Nat.le_of_ble_eq_true rfl)) dX6_being_43 ⟨Nat.zero_le _, Nat.zero_le _⟩) ?_
        refine lv_if_ne (tgt := 52) hx hb dX6_being_46 (by decide) (fun c4 => ?_) (fun c4 => ?_)
        · have hf := sw_in c4 hf
          refine lv_aload_n hx hb dX6_being_52 rfl (lv_at hl 0 rfl) ?_
          refine va_get (D := (dC, dI)) (ci := 6) (v := .int M_beings) (C := RX6) (T := TX6) (N := 24) hx hb hts iX6 hown hK hP 0 rfl rfl 6 (by decide) hw5 (fun _ h9 => h9) rfl dX6_being_53 ?_
          refine lv_iconst (v := 5) hx hb dX6_being_56 (by decide) ?_
          refine lv_icmp_ne (tgt := 63) hx hb dX6_being_57 (by decide) (fun c5 => ?_) (fun c5 => ?_)
          · have hf := sw_in c5 hf
            refine lv_aload_n hx hb dX6_being_63 rfl (lv_at hl 0 rfl) ?_
            refine va_get (D := (dC, dI)) (ci := 6) (v := .ref aM_rows) (C := RX6) (T := TX6) (N := 24) hx hb hts iX6 hown hK hP 0 rfl rfl 9 (by decide) hw6 (fun _ h9 => h9) rfl dX6_being_64 ?_
            refine lv_iconst (v := 4) hx hb dX6_being_67 (by decide) ?_
            refine lv_aload_n hx hb dX6_being_68 rfl (lv_at hl 0 rfl) ?_
            refine va_get (D := (dC, dI)) (ci := 6) (v := .int M_beings) (C := RX6) (T := TX6) (N := 24) hx hb hts iX6 hown hK hP 0 rfl rfl 6 (by decide) hw5 (fun _ h9 => h9) rfl dX6_being_69 ?_
            refine lv_imul hx hb dX6_being_72 ?_
            refine lv_iload_n hx hb dX6_being_73 rfl (lv_at hl 1 rfl) ?_
            obtain ⟨hi5, hf⟩ := sw_ix_s hf
            refine va_iast hx hb hK hP hD hS 1 0 rfl rfl hi5 dX6_being_74 (fun H locs hP hD hS => ?_)
            have hP : va_P (dC, dI) vwCl [(aM, .inr (6, [.ref aM_page, .int M_pageMany, .ref aM_readDeeds, .int M_readMany, .int M_readBase, .int M_state, .int M_beings, .int M_number, .int M_deedsDone, .ref aM_rows, .ref aM_far, .ref aM_firsts, .ref aM_line, .int M_lined, .int M_toldMany, .ref aM_toldRows, .ref aM_parts, .int M_seedNow, .int M_keptNumber, .int M_keptBeings, .int M_keptDeeds, .int M_keptTold, .ref aM_keptToldRows, .long M_hash])), (aM_rows, .inl (cI, 20, .inl (upd M_rows ((4 : Int32) * M_beings).toNatClampNeg l1)))] H := hP
            have hD : va_D A [(aM, .inr (6, [.ref aM_page, .int M_pageMany, .ref aM_readDeeds, .int M_readMany, .int M_readBase, .int M_state, .int M_beings, .int M_number, .int M_deedsDone, .ref aM_rows, .ref aM_far, .ref aM_firsts, .ref aM_line, .int M_lined, .int M_toldMany, .ref aM_toldRows, .ref aM_parts, .int M_seedNow, .int M_keptNumber, .int M_keptBeings, .int M_keptDeeds, .int M_keptTold, .ref aM_keptToldRows, .long M_hash])), (aM_rows, .inl (cI, 20, .inl (upd M_rows ((4 : Int32) * M_beings).toNatClampNeg l1)))] := hD
            refine lv_aload_n hx hb dX6_being_75 rfl (lv_at hl 0 rfl) ?_
            refine va_get (D := (dC, dI)) (ci := 6) (v := .ref aM_rows) (C := RX6) (T := TX6) (N := 24) hx hb hts iX6 hown hK hP 0 rfl rfl 9 (by decide) hw6 (fun _ h9 => h9) rfl dX6_being_76 ?_
            refine lv_iconst (v := 4) hx hb dX6_being_79 (by decide) ?_
            refine lv_aload_n hx hb dX6_being_80 rfl (lv_at hl 0 rfl) ?_
            refine va_get (D := (dC, dI)) (ci := 6) (v := .int M_beings) (C := RX6) (T := TX6) (N := 24) hx hb hts iX6 hown hK hP 0 rfl rfl 6 (by decide) hw5 (fun _ h9 => h9) rfl dX6_being_81 ?_
            refine lv_imul hx hb dX6_being_84 ?_
            refine lv_iconst (v := 1) hx hb dX6_being_85 (by decide) ?_
            refine lv_iadd hx hb dX6_being_86 ?_
            refine lv_iload_n hx hb dX6_being_87 rfl (lv_at hl 2 rfl) ?_
            obtain ⟨hi6, hf⟩ := sw_ix_s hf
            refine va_iast hx hb hK hP hD hS 1 0 rfl rfl hi6 dX6_being_88 (fun H locs hP hD hS => ?_)
            have hP : va_P (dC, dI) vwCl [(aM, .inr (6, [.ref aM_page, .int M_pageMany, .ref aM_readDeeds, .int M_readMany, .int M_readBase, .int M_state, .int M_beings, .int M_number, .int M_deedsDone, .ref aM_rows, .ref aM_far, .ref aM_firsts, .ref aM_line, .int M_lined, .int M_toldMany, .ref aM_toldRows, .ref aM_parts, .int M_seedNow, .int M_keptNumber, .int M_keptBeings, .int M_keptDeeds, .int M_keptTold, .ref aM_keptToldRows, .long M_hash])), (aM_rows, .inl (cI, 20, .inl (upd (upd M_rows ((4 : Int32) * M_beings).toNatClampNeg l1) (((4 : Int32) * M_beings) + (1 : Int32)).toNatClampNeg l2)))] H := hP
            have hD : va_D A [(aM, .inr (6, [.ref aM_page, .int M_pageMany, .ref aM_readDeeds, .int M_readMany, .int M_readBase, .int M_state, .int M_beings, .int M_number, .int M_deedsDone, .ref aM_rows, .ref aM_far, .ref aM_firsts, .ref aM_line, .int M_lined, .int M_toldMany, .ref aM_toldRows, .ref aM_parts, .int M_seedNow, .int M_keptNumber, .int M_keptBeings, .int M_keptDeeds, .int M_keptTold, .ref aM_keptToldRows, .long M_hash])), (aM_rows, .inl (cI, 20, .inl (upd (upd M_rows ((4 : Int32) * M_beings).toNatClampNeg l1) (((4 : Int32) * M_beings) + (1 : Int32)).toNatClampNeg l2)))] := hD
            refine lv_aload_n hx hb dX6_being_89 rfl (lv_at hl 0 rfl) ?_
            refine va_get (D := (dC, dI)) (ci := 6) (v := .ref aM_rows) (C := RX6) (T := TX6) (N := 24) hx hb hts iX6 hown hK hP 0 rfl rfl 9 (by decide) hw6 (fun _ h9 => h9) rfl dX6_being_90 ?_
            refine lv_iconst (v := 4) hx hb dX6_being_93 (by decide) ?_
            refine lv_aload_n hx hb dX6_being_94 rfl (lv_at hl 0 rfl) ?_
            refine va_get (D := (dC, dI)) (ci := 6) (v := .int M_beings) (C := RX6) (T := TX6) (N := 24) hx hb hts iX6 hown hK hP 0 rfl rfl 6 (by decide) hw5 (fun _ h9 => h9) rfl dX6_being_95 ?_
            refine lv_imul hx hb dX6_being_98 ?_
            refine lv_iconst (v := 2) hx hb dX6_being_99 (by decide) ?_
            refine lv_iadd hx hb dX6_being_100 ?_
            refine lv_iload_n hx hb dX6_being_101 rfl (lv_at hl 3 rfl) ?_
            obtain ⟨hi7, hf⟩ := sw_ix_s hf
            refine va_iast hx hb hK hP hD hS 1 0 rfl rfl hi7 dX6_being_102 (fun H locs hP hD hS => ?_)
            have hP : va_P (dC, dI) vwCl [(aM, .inr (6, [.ref aM_page, .int M_pageMany, .ref aM_readDeeds, .int M_readMany, .int M_readBase, .int M_state, .int M_beings, .int M_number, .int M_deedsDone, .ref aM_rows, .ref aM_far, .ref aM_firsts, .ref aM_line, .int M_lined, .int M_toldMany, .ref aM_toldRows, .ref aM_parts, .int M_seedNow, .int M_keptNumber, .int M_keptBeings, .int M_keptDeeds, .int M_keptTold, .ref aM_keptToldRows, .long M_hash])), (aM_rows, .inl (cI, 20, .inl (upd (upd (upd M_rows ((4 : Int32) * M_beings).toNatClampNeg l1) (((4 : Int32) * M_beings) + (1 : Int32)).toNatClampNeg l2) (((4 : Int32) * M_beings) + (2 : Int32)).toNatClampNeg l3)))] H := hP
            have hD : va_D A [(aM, .inr (6, [.ref aM_page, .int M_pageMany, .ref aM_readDeeds, .int M_readMany, .int M_readBase, .int M_state, .int M_beings, .int M_number, .int M_deedsDone, .ref aM_rows, .ref aM_far, .ref aM_firsts, .ref aM_line, .int M_lined, .int M_toldMany, .ref aM_toldRows, .ref aM_parts, .int M_seedNow, .int M_keptNumber, .int M_keptBeings, .int M_keptDeeds, .int M_keptTold, .ref aM_keptToldRows, .long M_hash])), (aM_rows, .inl (cI, 20, .inl (upd (upd (upd M_rows ((4 : Int32) * M_beings).toNatClampNeg l1) (((4 : Int32) * M_beings) + (1 : Int32)).toNatClampNeg l2) (((4 : Int32) * M_beings) + (2 : Int32)).toNatClampNeg l3)))] := hD
            refine lv_aload_n hx hb dX6_being_103 rfl (lv_at hl 0 rfl) ?_
            refine va_get (D := (dC, dI)) (ci := 6) (v := .ref aM_rows) (C := RX6) (T := TX6) (N := 24) hx hb hts iX6 hown hK hP 0 rfl rfl 9 (by decide) hw6 (fun _ h9 => h9) rfl dX6_being_104 ?_
            refine lv_iconst (v := 4) hx hb dX6_being_107 (by decide) ?_
            refine lv_aload_n hx hb dX6_being_108 rfl (lv_at hl 0 rfl) ?_
            refine va_get (D := (dC, dI)) (ci := 6) (v := .int M_beings) (C := RX6) (T := TX6) (N := 24) hx hb hts iX6 hown hK hP 0 rfl rfl 6 (by decide) hw5 (fun _ h9 => h9) rfl dX6_being_109 ?_
            refine lv_imul hx hb dX6_being_112 ?_
            refine lv_iconst (v := 3) hx hb dX6_being_113 (by decide) ?_
            refine lv_iadd hx hb dX6_being_114 ?_
            refine lv_iload hx hb dX6_being_115 (lv_at hl 4 rfl) ?_
            obtain ⟨hi8, hf⟩ := sw_ix_s hf
            refine va_iast hx hb hK hP hD hS 1 0 rfl rfl hi8 dX6_being_117 (fun H locs hP hD hS => ?_)
            have hP : va_P (dC, dI) vwCl [(aM, .inr (6, [.ref aM_page, .int M_pageMany, .ref aM_readDeeds, .int M_readMany, .int M_readBase, .int M_state, .int M_beings, .int M_number, .int M_deedsDone, .ref aM_rows, .ref aM_far, .ref aM_firsts, .ref aM_line, .int M_lined, .int M_toldMany, .ref aM_toldRows, .ref aM_parts, .int M_seedNow, .int M_keptNumber, .int M_keptBeings, .int M_keptDeeds, .int M_keptTold, .ref aM_keptToldRows, .long M_hash])), (aM_rows, .inl (cI, 20, .inl (upd (upd (upd (upd M_rows ((4 : Int32) * M_beings).toNatClampNeg l1) (((4 : Int32) * M_beings) + (1 : Int32)).toNatClampNeg l2) (((4 : Int32) * M_beings) + (2 : Int32)).toNatClampNeg l3) (((4 : Int32) * M_beings) + (3 : Int32)).toNatClampNeg l4)))] H := hP
            have hD : va_D A [(aM, .inr (6, [.ref aM_page, .int M_pageMany, .ref aM_readDeeds, .int M_readMany, .int M_readBase, .int M_state, .int M_beings, .int M_number, .int M_deedsDone, .ref aM_rows, .ref aM_far, .ref aM_firsts, .ref aM_line, .int M_lined, .int M_toldMany, .ref aM_toldRows, .ref aM_parts, .int M_seedNow, .int M_keptNumber, .int M_keptBeings, .int M_keptDeeds, .int M_keptTold, .ref aM_keptToldRows, .long M_hash])), (aM_rows, .inl (cI, 20, .inl (upd (upd (upd (upd M_rows ((4 : Int32) * M_beings).toNatClampNeg l1) (((4 : Int32) * M_beings) + (1 : Int32)).toNatClampNeg l2) (((4 : Int32) * M_beings) + (2 : Int32)).toNatClampNeg l3) (((4 : Int32) * M_beings) + (3 : Int32)).toNatClampNeg l4)))] := hD
            refine lv_aload_n hx hb dX6_being_118 rfl (lv_at hl 0 rfl) ?_
            refine lv_dup hx hb dX6_being_119 rfl ?_
            refine va_get (D := (dC, dI)) (ci := 6) (v := .int M_beings) (C := RX6) (T := TX6) (N := 24) hx hb hts iX6 hown hK hP 0 rfl rfl 6 (by decide) hw5 (fun _ h9 => h9) rfl dX6_being_120 ?_
            refine lv_iconst (v := 1) hx hb dX6_being_123 (by decide) ?_
            refine lv_iadd hx hb dX6_being_124 ?_
            refine va_put (D := (dC, dI)) (ci := 6) (v := .int (M_beings + (1 : Int32))) (ty := .int) (C := RX6) (T := TX6) (N := 24) hx hb hts iX6 tyX6 tyX6_ok nmX6 hown hK hP hD hS 0 rfl rfl 6 (by decide) hw5 (fun _ h9 => h9) rfl (by decide +kernel) rfl rfl (Nat.le_of_ble_eq_true rfl) dX6_being_125 (fun H locs hP hD hS => ?_)
            have hP : va_P (dC, dI) vwCl [(aM, .inr (6, [.ref aM_page, .int M_pageMany, .ref aM_readDeeds, .int M_readMany, .int M_readBase, .int M_state, .int (M_beings + (1 : Int32)), .int M_number, .int M_deedsDone, .ref aM_rows, .ref aM_far, .ref aM_firsts, .ref aM_line, .int M_lined, .int M_toldMany, .ref aM_toldRows, .ref aM_parts, .int M_seedNow, .int M_keptNumber, .int M_keptBeings, .int M_keptDeeds, .int M_keptTold, .ref aM_keptToldRows, .long M_hash])), (aM_rows, .inl (cI, 20, .inl (upd (upd (upd (upd M_rows ((4 : Int32) * M_beings).toNatClampNeg l1) (((4 : Int32) * M_beings) + (1 : Int32)).toNatClampNeg l2) (((4 : Int32) * M_beings) + (2 : Int32)).toNatClampNeg l3) (((4 : Int32) * M_beings) + (3 : Int32)).toNatClampNeg l4)))] H := hP
            have hD : va_D A [(aM, .inr (6, [.ref aM_page, .int M_pageMany, .ref aM_readDeeds, .int M_readMany, .int M_readBase, .int M_state, .int (M_beings + (1 : Int32)), .int M_number, .int M_deedsDone, .ref aM_rows, .ref aM_far, .ref aM_firsts, .ref aM_line, .int M_lined, .int M_toldMany, .ref aM_toldRows, .ref aM_parts, .int M_seedNow, .int M_keptNumber, .int M_keptBeings, .int M_keptDeeds, .int M_keptTold, .ref aM_keptToldRows, .long M_hash])), (aM_rows, .inl (cI, 20, .inl (upd (upd (upd (upd M_rows ((4 : Int32) * M_beings).toNatClampNeg l1) (((4 : Int32) * M_beings) + (1 : Int32)).toNatClampNeg l2) (((4 : Int32) * M_beings) + (2 : Int32)).toNatClampNeg l3) (((4 : Int32) * M_beings) + (3 : Int32)).toNatClampNeg l4)))] := hD
            refine lv_aload_n hx hb dX6_being_128 rfl (lv_at hl 0 rfl) ?_
            refine va_get (D := (dC, dI)) (ci := 6) (v := .int (M_beings + (1 : Int32))) (C := RX6) (T := TX6) (N := 24) hx hb hts iX6 hown hK hP 0 rfl rfl 6 (by decide) hw5 (fun _ h9 => h9) rfl dX6_being_129 ?_
            refine lv_iconst (v := 1) hx hb dX6_being_132 (by decide) ?_
            refine lv_isub hx hb dX6_being_133 ?_
            subst hQ hAe
            cases hf
            exact W.iret hx hb hr (fun t ht hW => ⟨⟨_, (), rfl, rfl, ⟨by rw [ht]; exact hP, va_K.moved hW.alike hK, hD⟩⟩, hS.F ht⟩) hS.2.2 dX6_being_134 hlocks
          · have hf := sw_ip c5 hf
            refine lv_bipush (v := -104) hx hb dX6_being_60 (by decide) ?_
            subst hQ hAe
            cases hf
            exact W.iret hx hb hr (fun t ht hW => ⟨⟨_, (), rfl, rfl, ⟨by rw [ht]; exact hP, va_K.moved hW.alike hK, hD⟩⟩, hS.F ht⟩) hS.2.2 dX6_being_62 hlocks
        · have hf := sw_ip c4 hf
          refine lv_bipush (v := -102) hx hb dX6_being_49 (by decide) ?_
          subst hQ hAe
          cases hf
          exact W.iret hx hb hr (fun t ht hW => ⟨⟨_, (), rfl, rfl, ⟨by rw [ht]; exact hP, va_K.moved hW.alike hK, hD⟩⟩, hS.F ht⟩) hS.2.2 dX6_being_51 hlocks
