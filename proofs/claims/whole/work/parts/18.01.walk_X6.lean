abbrev rm_X6_unit : Room := { frames := 0, cells := 0, slots := 0, locals := 0 }
set_option maxHeartbeats 1000000 in
set_option maxRecDepth 100000 in
theorem k_X6_unit (l : Launch) (dC : Nat → ClassId) (dI : Nat → Nat → Nat) (cI cZ : ClassId) (t0 : Nat) (l0 : Int32) (rv : Int32)  (hf : F_X6_unit l0 = some (rv)) : Met l yX6_unit wsX6_unit rm_X6_unit (sw_PR (dC, dI) t0 [(cI, .int), (cZ, .boolean)] [.int l0] []) (vp_Si (fun r => r = rv)) 0 0 (fun _ => False) := by
  refine sw_metR (cc := cX6_unit) (maxL := 3) (ret := (some .int)) (lv := [(0, .int l0)]) (by decide) rfl (Nat.le_of_ble_eq_true rfl) rfl ?_
  intro p e s m below meth c Q hQ hx hb hr hts hown hlocks hml hP hK hE hS ls hl
  have hown : s.vm.findClass RX6 = some m.cls := hown
  have hf := (F_X6_unit.eq_1 _).symm.trans hf
  have hf0 := hf
  clear hf
  have hl0 := hl
  clear hl
  have hB_4 :  ∀ (fu : Nat) (l1 : Int32) (l2 : Int32), F_X6_unit_4 l0 fu l1 l2 = some (rv) → ∀ ls : Array Slot, lv_has ls 3 [(0, .int l0), (1, .int l1), (2, .int l2)] → W p l e rm_X6_unit s m ([.int l0] : List Value).toArray below meth c s.heap [] 0 0 Q (F0 m 4 ls []) := by
    intro   fu
    induction fu with
    | zero =>
      intro l1 l2 hf
      exact nomatch (show (none : Option (Int32)) = some (rv) from hf)
    | succ fu ih =>
      intro l1 l2 hf ls hl
      have hf := (F_X6_unit_4.eq_2 _ _ _ _).symm.trans hf
      refine lv_iload_n hx hb dX6_unit_4 rfl (lv_at hl 2 rfl) ?_
      refine lv_iload_n hx hb dX6_unit_5 rfl (lv_at hl 0 rfl) ?_
      refine lv_icmp_ge (tgt := 20) hx hb dX6_unit_6 (by decide) (fun c1 => ?_) (fun c1 => ?_)
      · have hf := sw_ip c1 hf
        refine lv_iload_n hx hb dX6_unit_20 rfl (lv_at hl 1 rfl) ?_
        subst hQ
        exact W.iret hx hb hr (fun t ht hW => ⟨_, rfl, Option.some.inj hf, ht⟩) (fun _ h => absurd h List.not_mem_nil) dX6_unit_21 hlocks
      · have hf := sw_in c1 hf
        refine lv_iload_n hx hb dX6_unit_9 rfl (lv_at hl 1 rfl) ?_
        refine lv_bipush (v := 6) hx hb dX6_unit_10 (by decide) ?_
        refine lv_imul hx hb dX6_unit_12 ?_
        refine lv_istore_n (lv' := [(1, .int (l1 * (6 : Int32))), (0, .int l0), (2, .int l2)]) hx hb dX6_unit_13 rfl hl (by decide) rfl (fun ls hl => ?_)
        refine lv_iinc (v := l2 + (1 : Int32)) (lv' := [(2, .int (l2 + (1 : Int32))), (1, .int (l1 * (6 : Int32))), (0, .int l0)]) hx hb dX6_unit_14 hl (k := 2) rfl (sw_ii _) (by decide) rfl (fun ls hl => ?_)
        refine lv_goto (tgt := 4) hx hb dX6_unit_17 (by decide) ?_
        exact ih (l1 * (6 : Int32)) (l2 + (1 : Int32)) hf ls (lv_sub hl [2, 1, 0] rfl)
  have hf := hf0
  have hl := hl0
  refine lv_iconst (v := 1) hx hb dX6_unit_0 (by decide) ?_
  refine lv_istore_n (lv' := [(1, .int (1 : Int32)), (0, .int l0)]) hx hb dX6_unit_1 rfl hl (by decide) rfl (fun ls hl => ?_)
  refine lv_iconst (v := 0) hx hb dX6_unit_2 (by decide) ?_
  refine lv_istore_n (lv' := [(2, .int (0 : Int32)), (1, .int (1 : Int32)), (0, .int l0)]) hx hb dX6_unit_3 rfl hl (by decide) rfl (fun ls hl => ?_)
  exact hB_4   sw_fu (1 : Int32) (0 : Int32) hf ls (lv_sub hl [2, 1, 0] rfl)
abbrev rm_X6_holder : Room := { frames := 1, cells := 0, slots := 0, locals := 22 }
set_option maxHeartbeats 1000000 in
set_option maxRecDepth 100000 in
theorem k_X6_holder (l : Launch) (dC : Nat → ClassId) (dI : Nat → Nat → Nat) (cI cZ : ClassId) (t0 : Nat) (l0 : Int32) (l1 : Int32) (rv : Int32)  (hf : F_X6_holder l0 l1 = some (rv)) : Met l yX6_holder wsX6_holder rm_X6_holder (sw_PR (dC, dI) t0 [(cI, .int), (cZ, .boolean)] [.int l0, .int l1] []) (vp_Si (fun r => r = rv)) 0 0 (fun _ => False) := by
  refine sw_metR (cc := cX6_holder) (maxL := 2) (ret := (some .int)) (lv := [(0, .int l0), (1, .int l1)]) (by decide) rfl (Nat.le_of_ble_eq_true rfl) rfl ?_
  intro p e s m below meth c Q hQ hx hb hr hts hown hlocks hml hP hK hE hS ls hl
  have hown : s.vm.findClass RX6 = some m.cls := hown
  have hf := (F_X6_holder.eq_1 _ _).symm.trans hf
  refine lv_iload_n hx hb dX6_holder_0 rfl (lv_at hl 0 rfl) ?_
  refine lv_iload_n hx hb dX6_holder_1 rfl (lv_at hl 1 rfl) ?_
  obtain ⟨q1, hq1, hf⟩ := sw_bs hf
  have hPc := hP.sub (ws' := []) [] rfl
  refine sw_rd (W.runS (As := [.int l1]) (rest := [.int l0]) ⟨hx, hb, hml, hown, hts⟩ (k_X6_unit l dC dI cI cZ t0 l1 q1 hq1) (va_cwS 1 hts gX6_holder_X6_unit rfl rfl rfl (by decide +kernel) ⟨Nat.le_of_ble_eq_true rfl, Nat.le_of_ble_eq_true rfl⟩) ⟨sw_PR_bl, sw_PR_pre hK hPc hE hS⟩ rfl rfl hl.1 rfl (lv_room (Nat.le_of_ble_eq_true rfl)) dX6_holder_2 ⟨Nat.zero_le _, Nat.zero_le _⟩) ?_
  obtain ⟨hz2, hf⟩ := sw_dz_s hf
  refine lv_idiv hx hb dX6_holder_5 hz2 ?_
  refine lv_bipush (v := 6) hx hb dX6_holder_6 (by decide) ?_
  refine lv_irem hx hb dX6_holder_8 (by decide) ?_
  refine lv_iconst (v := 1) hx hb dX6_holder_9 (by decide) ?_
  refine lv_isub hx hb dX6_holder_10 ?_
  subst hQ
  exact W.iret hx hb hr (fun t ht hW => ⟨_, rfl, Option.some.inj hf, ht⟩) (fun _ h => absurd h List.not_mem_nil) dX6_holder_11 hlocks
abbrev rm_X6_moved : Room := { frames := 2, cells := 0, slots := 0, locals := 43 }
set_option maxHeartbeats 1000000 in
set_option maxRecDepth 100000 in
theorem k_X6_moved (l : Launch) (dC : Nat → ClassId) (dI : Nat → Nat → Nat) (cI cZ : ClassId) (t0 : Nat) (l0 : Int32) (l1 : Int32) (l2 : Int32) (rv : Int32)  (hf : F_X6_moved l0 l1 l2 = some (rv)) : Met l yX6_moved wsX6_moved rm_X6_moved (sw_PR (dC, dI) t0 [(cI, .int), (cZ, .boolean)] [.int l0, .int l1, .int l2] []) (vp_Si (fun r => r = rv)) 0 0 (fun _ => False) := by
  refine sw_metR (cc := cX6_moved) (maxL := 3) (ret := (some .int)) (lv := [(0, .int l0), (1, .int l1), (2, .int l2)]) (by decide) rfl (Nat.le_of_ble_eq_true rfl) rfl ?_
  intro p e s m below meth c Q hQ hx hb hr hts hown hlocks hml hP hK hE hS ls hl
  have hown : s.vm.findClass RX6 = some m.cls := hown
  have hf := (F_X6_moved.eq_1 _ _ _).symm.trans hf
  refine lv_iload_n hx hb dX6_moved_0 rfl (lv_at hl 0 rfl) ?_
  refine lv_iload_n hx hb dX6_moved_1 rfl (lv_at hl 2 rfl) ?_
  refine lv_iload_n hx hb dX6_moved_2 rfl (lv_at hl 0 rfl) ?_
  refine lv_iload_n hx hb dX6_moved_3 rfl (lv_at hl 1 rfl) ?_
  obtain ⟨q1, hq1, hf⟩ := sw_bs hf
  have hPc := hP.sub (ws' := []) [] rfl
  refine sw_rd (W.runS (As := [.int l0, .int l1]) (rest := [.int l2, .int l0]) ⟨hx, hb, hml, hown, hts⟩ (k_X6_holder l dC dI cI cZ t0 l0 l1 q1 hq1) (va_cwS 2 hts gX6_moved_X6_holder rfl rfl rfl (by decide +kernel) ⟨Nat.le_of_ble_eq_true rfl, Nat.le_of_ble_eq_true rfl⟩) ⟨sw_PR_bl, sw_PR_pre hK hPc hE hS⟩ rfl rfl hl.1 rfl (lv_room (Nat.le_of_ble_eq_true rfl)) dX6_moved_4 ⟨Nat.zero_le _, Nat.zero_le _⟩) ?_
  refine lv_isub hx hb dX6_moved_7 ?_
  refine lv_iload_n hx hb dX6_moved_8 rfl (lv_at hl 1 rfl) ?_
  obtain ⟨q2, hq2, hf⟩ := sw_bs hf
  have hPc := hP.sub (ws' := []) [] rfl
  refine sw_rd (W.runS (As := [.int l1]) (rest := [.int (l2 - q1), .int l0]) ⟨hx, hb, hml, hown, hts⟩ (k_X6_unit l dC dI cI cZ t0 l1 q2 hq2) (va_cwS 1 hts gX6_moved_X6_unit rfl rfl rfl (by decide +kernel) ⟨Nat.le_of_ble_eq_true rfl, Nat.le_of_ble_eq_true rfl⟩) ⟨sw_PR_bl, sw_PR_pre hK hPc hE hS⟩ rfl rfl hl.1 rfl (lv_room (Nat.le_of_ble_eq_true rfl)) dX6_moved_9 ⟨Nat.zero_le _, Nat.zero_le _⟩) ?_
  refine lv_imul hx hb dX6_moved_12 ?_
  refine lv_iadd hx hb dX6_moved_13 ?_
  subst hQ
  exact W.iret hx hb hr (fun t ht hW => ⟨_, rfl, Option.some.inj hf, ht⟩) (fun _ h => absurd h List.not_mem_nil) dX6_moved_14 hlocks
abbrev rm_X6_filled : Room := { frames := 2, cells := 0, slots := 0, locals := 43 }
set_option maxHeartbeats 1000000 in
set_option maxRecDepth 100000 in
theorem k_X6_filled (l : Launch) (dC : Nat → ClassId) (dI : Nat → Nat → Nat) (cI cZ : ClassId) (t0 : Nat) (aM aM_page aM_readDeeds aM_rows aM_far aM_firsts aM_line aM_toldRows aM_parts aM_keptToldRows : Nat) (M_pageMany : Int32) (M_readMany : Int32) (M_readBase : Int32) (M_state : Int32) (M_beings : Int32) (M_number : Int32) (M_deedsDone : Int32) (M_lined : Int32) (M_toldMany : Int32) (M_seedNow : Int32) (M_keptNumber : Int32) (M_keptBeings : Int32) (M_keptDeeds : Int32) (M_keptTold : Int32) (M_hash : Int64) (M_rows : Nat → Int32) (l1 : Int32) (l2 : Int32) (rv : Int32)  (hf : F_X6_filled M_beings M_rows l1 l2 = some (rv)) : Met l yX6_filled wsX6_filled rm_X6_filled (sw_PR (dC, dI) t0 [(cI, .int), (cZ, .boolean)] [.ref aM, .int l1, .int l2] [(aM, .inr (6, [.ref aM_page, .int M_pageMany, .ref aM_readDeeds, .int M_readMany, .int M_readBase, .int M_state, .int M_beings, .int M_number, .int M_deedsDone, .ref aM_rows, .ref aM_far, .ref aM_firsts, .ref aM_line, .int M_lined, .int M_toldMany, .ref aM_toldRows, .ref aM_parts, .int M_seedNow, .int M_keptNumber, .int M_keptBeings, .int M_keptDeeds, .int M_keptTold, .ref aM_keptToldRows, .long M_hash])), (aM_rows, .inl (cI, 20, .inl M_rows))]) (vp_Si (fun r => r = rv)) 0 0 (fun _ => False) := by
  refine sw_metR (cc := cX6_filled) (maxL := 5) (ret := (some .int)) (lv := [(0, .ref aM), (1, .int l1), (2, .int l2)]) (by decide) rfl (Nat.le_of_ble_eq_true rfl) rfl ?_
  intro p e s m below meth c Q hQ hx hb hr hts hown hlocks hml hP hK hE hS ls hl
  have hown : s.vm.findClass RX6 = some m.cls := hown
  have hf := (F_X6_filled.eq_1 _ _ _ _).symm.trans hf
  have hw1 := hts (.fieldLink RX6 72 "SwallowedInTurnModel" "beings" "I") (List.mem_of_getElem? (i := 1) (by decide +kernel))
  have iX6 : ∀ w ∈ u_ws RX6 TX6 24, w ∈ wsX6_filled := by decide +kernel
  have hw2 := hts (.fieldLink RX6 16 "SwallowedInTurnModel" "rows" "[I") (List.mem_of_getElem? (i := 2) (by decide +kernel))
  have hf0 := hf
  clear hf
  have hl0 := hl
  clear hl
  have hB_40 : ∀ (l4 : Int32) (s0 : Int32) (s1 : Int32),∀ (k5 : Int32 → Int32 → Option (Int32)), (∀ (l3 : Int32) (l4 : Int32), k5 l3 l4 = some (rv) → ∀ ls : Array Slot, lv_has ls 5 [(0, .ref aM), (1, .int l1), (2, .int l2), (3, .int l3), (4, .int l4)] → W p l e rm_X6_filled s m ([.ref aM, .int l1, .int l2] : List Value).toArray below meth c s.heap [] 0 0 Q (F0 m 5 ls [])) →  F_X6_filled_40 k5 M_beings M_rows l1 l2 l4 s0 s1 = some (rv) → ∀ ls : Array Slot, lv_has ls 5 [(0, .ref aM), (1, .int l1), (2, .int l2), (4, .int l4)] → W p l e rm_X6_filled s m ([.ref aM, .int l1, .int l2] : List Value).toArray below meth c s.heap [] 0 0 Q (F0 m 40 ls [.int s1, .int s0]) := by
    intro l4 s0 s1 k5 hk5 hf ls hl
    have hf := (F_X6_filled_40.eq_1 _ _ _ _ _ _ _ _).symm.trans hf
    refine lv_iadd hx hb dX6_filled_40 ?_
    refine lv_istore_n (lv' := [(3, .int (s0 + s1)), (0, .ref aM), (1, .int l1), (2, .int l2), (4, .int l4)]) hx hb dX6_filled_41 rfl hl (by decide) rfl (fun ls hl => ?_)
    refine lv_iinc (v := l4 + (1 : Int32)) (lv' := [(4, .int (l4 + (1 : Int32))), (3, .int (s0 + s1)), (0, .ref aM), (1, .int l1), (2, .int l2)]) hx hb dX6_filled_42 hl (k := 4) rfl (sw_ii _) (by decide) rfl (fun ls hl => ?_)
    refine lv_goto (tgt := 5) hx hb dX6_filled_45 (by decide) ?_
    exact hk5 (s0 + s1) (l4 + (1 : Int32)) hf ls (lv_sub hl [2, 3, 4, 1, 0] rfl)
  have hB_5 :  ∀ (fu : Nat) (l3 : Int32) (l4 : Int32), F_X6_filled_5 M_beings M_rows l1 l2 fu l3 l4 = some (rv) → ∀ ls : Array Slot, lv_has ls 5 [(0, .ref aM), (1, .int l1), (2, .int l2), (3, .int l3), (4, .int l4)] → W p l e rm_X6_filled s m ([.ref aM, .int l1, .int l2] : List Value).toArray below meth c s.heap [] 0 0 Q (F0 m 5 ls []) := by
    intro   fu
    induction fu with
    | zero =>
      intro l3 l4 hf
      exact nomatch (show (none : Option (Int32)) = some (rv) from hf)
    | succ fu ih =>
      intro l3 l4 hf ls hl
      have hf := (F_X6_filled_5.eq_2 _ _ _ _ _ _ _).symm.trans hf
      refine lv_iload hx hb dX6_filled_5 (lv_at hl 4 rfl) ?_
      refine lv_aload_n hx hb dX6_filled_7 rfl (lv_at hl 0 rfl) ?_
      refine va_get (D := (dC, dI)) (ci := 6) (v := .int M_beings) (C := RX6) (T := TX6) (N := 24) hx hb hts iX6 hown hK hP 0 rfl rfl 6 (by decide) hw1 (fun _ h9 => h9) rfl dX6_filled_8 ?_
      refine lv_icmp_ge (tgt := 48) hx hb dX6_filled_11 (by decide) (fun c1 => ?_) (fun c1 => ?_)
      · have hf := sw_ip c1 hf
        refine lv_iload_n hx hb dX6_filled_48 rfl (lv_at hl 3 rfl) ?_
        subst hQ
        exact W.iret hx hb hr (fun t ht hW => ⟨_, rfl, Option.some.inj hf, ht⟩) (fun _ h => absurd h List.not_mem_nil) dX6_filled_49 hlocks
      · have hf := sw_in c1 hf
        refine lv_iload_n hx hb dX6_filled_14 rfl (lv_at hl 3 rfl) ?_
        refine lv_iload_n hx hb dX6_filled_15 rfl (lv_at hl 1 rfl) ?_
        refine lv_iload hx hb dX6_filled_16 (lv_at hl 4 rfl) ?_
        obtain ⟨q1, hq1, hf⟩ := sw_bs hf
        have hPc := hP.sub (ws' := []) [] rfl
        refine sw_rd (W.runS (As := [.int l1, .int l4]) (rest := [.int l3]) ⟨hx, hb, hml, hown, hts⟩ (k_X6_holder l dC dI cI cZ t0 l1 l4 q1 hq1) (va_cwS 2 hts gX6_filled_X6_holder rfl rfl rfl (by decide +kernel) ⟨Nat.le_of_ble_eq_true rfl, Nat.le_of_ble_eq_true rfl⟩) ⟨sw_PR_bl, sw_PR_pre hK hPc hE hS⟩ rfl rfl hl.1 rfl (lv_room (Nat.le_of_ble_eq_true rfl)) dX6_filled_18 ⟨Nat.zero_le _, Nat.zero_le _⟩) ?_
        refine lv_iload_n hx hb dX6_filled_21 rfl (lv_at hl 2 rfl) ?_
        refine lv_icmp_ne (tgt := 39) hx hb dX6_filled_22 (by decide) (fun c2 => ?_) (fun c2 => ?_)
        · have hf := sw_in c2 hf
          refine lv_iconst (v := 0) hx hb dX6_filled_39 (by decide) ?_
          exact hB_40 l4 l3 (0 : Int32) (F_X6_filled_5  M_beings M_rows l1 l2 fu) ih hf ls (lv_sub hl [0, 1, 2, 4] rfl)
        · have hf := sw_ip c2 hf
          refine lv_aload_n hx hb dX6_filled_25 rfl (lv_at hl 0 rfl) ?_
          refine va_get (D := (dC, dI)) (ci := 6) (v := .ref aM_rows) (C := RX6) (T := TX6) (N := 24) hx hb hts iX6 hown hK hP 0 rfl rfl 9 (by decide) hw2 (fun _ h9 => h9) rfl dX6_filled_26 ?_
          refine lv_iconst (v := 4) hx hb dX6_filled_29 (by decide) ?_
          refine lv_iload hx hb dX6_filled_30 (lv_at hl 4 rfl) ?_
          refine lv_imul hx hb dX6_filled_32 ?_
          refine lv_iconst (v := 1) hx hb dX6_filled_33 (by decide) ?_
          refine lv_iadd hx hb dX6_filled_34 ?_
          obtain ⟨hi2, hf⟩ := sw_ix_s hf
          refine va_iald hx hb hK hP 1 0 rfl rfl hi2 dX6_filled_35 ?_
          refine lv_goto (tgt := 40) hx hb dX6_filled_36 (by decide) ?_
          exact hB_40 l4 l3 (M_rows (((4 : Int32) * l4) + (1 : Int32)).toNatClampNeg) (F_X6_filled_5  M_beings M_rows l1 l2 fu) ih hf ls (lv_sub hl [0, 1, 2, 4] rfl)
  have hf := hf0
  have hl := hl0
  refine lv_iconst (v := 0) hx hb dX6_filled_0 (by decide) ?_
  refine lv_istore_n (lv' := [(3, .int (0 : Int32)), (0, .ref aM), (1, .int l1), (2, .int l2)]) hx hb dX6_filled_1 rfl hl (by decide) rfl (fun ls hl => ?_)
  refine lv_iconst (v := 0) hx hb dX6_filled_2 (by decide) ?_
  refine lv_istore (lv' := [(4, .int (0 : Int32)), (3, .int (0 : Int32)), (0, .ref aM), (1, .int l1), (2, .int l2)]) hx hb dX6_filled_3 hl (by decide) rfl (fun ls hl => ?_)
  exact hB_5   sw_fu (0 : Int32) (0 : Int32) hf ls (lv_sub hl [2, 3, 4, 1, 0] rfl)
abbrev rm_X6_swallowed : Room := { frames := 3, cells := 0, slots := 0, locals := 67 }
set_option maxHeartbeats 1000000 in
set_option maxRecDepth 100000 in
theorem k_X6_swallowed (l : Launch) (dC : Nat → ClassId) (dI : Nat → Nat → Nat) (cI cZ : ClassId) (t0 : Nat) (aM aM_page aM_readDeeds aM_rows aM_far aM_firsts aM_line aM_toldRows aM_parts aM_keptToldRows : Nat) (M_pageMany : Int32) (M_readMany : Int32) (M_readBase : Int32) (M_state : Int32) (M_beings : Int32) (M_number : Int32) (M_deedsDone : Int32) (M_lined : Int32) (M_toldMany : Int32) (M_seedNow : Int32) (M_keptNumber : Int32) (M_keptBeings : Int32) (M_keptDeeds : Int32) (M_keptTold : Int32) (M_hash : Int64) (M_rows : Nat → Int32) (l1 : Int32) (l2 : Int32) (l3 : Int32) (rv : Int32)  (hf : F_X6_swallowed M_beings M_rows l1 l2 l3 = some (rv)) : Met l yX6_swallowed wsX6_swallowed rm_X6_swallowed (sw_PR (dC, dI) t0 [(cI, .int), (cZ, .boolean)] [.ref aM, .int l1, .int l2, .int l3] [(aM, .inr (6, [.ref aM_page, .int M_pageMany, .ref aM_readDeeds, .int M_readMany, .int M_readBase, .int M_state, .int M_beings, .int M_number, .int M_deedsDone, .ref aM_rows, .ref aM_far, .ref aM_firsts, .ref aM_line, .int M_lined, .int M_toldMany, .ref aM_toldRows, .ref aM_parts, .int M_seedNow, .int M_keptNumber, .int M_keptBeings, .int M_keptDeeds, .int M_keptTold, .ref aM_keptToldRows, .long M_hash])), (aM_rows, .inl (cI, 20, .inl M_rows))]) (vp_Si (fun r => r = rv)) 0 0 (fun _ => False) := by
  refine sw_metR (cc := cX6_swallowed) (maxL := 7) (ret := (some .int)) (lv := [(0, .ref aM), (1, .int l1), (2, .int l2), (3, .int l3)]) (by decide) rfl (Nat.le_of_ble_eq_true rfl) rfl ?_
  intro p e s m below meth c Q hQ hx hb hr hts hown hlocks hml hP hK hE hS ls hl
  have hown : s.vm.findClass RX6 = some m.cls := hown
  have hf := (F_X6_swallowed.eq_1 _ _ _ _ _).symm.trans hf
  have hw1 := hts (.fieldLink RX6 16 "SwallowedInTurnModel" "rows" "[I") (List.mem_of_getElem? (i := 1) (by decide +kernel))
  have iX6 : ∀ w ∈ u_ws RX6 TX6 24, w ∈ wsX6_swallowed := by decide +kernel
  have hf0 := hf
  clear hf
  have hl0 := hl
  clear hl
  have hB_133 : ∀ (s0 : Int32), F_X6_swallowed_133 l1 l2 l3 s0 = some (rv) → ∀ ls : Array Slot, lv_has ls 7 [(1, .int l1), (2, .int l2), (3, .int l3)] → W p l e rm_X6_swallowed s m ([.ref aM, .int l1, .int l2, .int l3] : List Value).toArray below meth c s.heap [] 0 0 Q (F0 m 133 ls [.int s0]) := by
    intro s0  hf ls hl
    have hf := (F_X6_swallowed_133.eq_1 _ _ _ _).symm.trans hf
    refine lv_istore (lv' := [(6, .int s0), (1, .int l1), (2, .int l2), (3, .int l3)]) hx hb dX6_swallowed_133 hl (by decide) rfl (fun ls hl => ?_)
    refine lv_iload hx hb dX6_swallowed_135 (lv_at hl 0 rfl) ?_
    refine lv_if_eq (tgt := 149) hx hb dX6_swallowed_137 (by decide) (fun c1 => ?_) (fun c1 => ?_)
    · have hf := sw_ip c1 hf
      refine lv_iconst (v := -1) hx hb dX6_swallowed_149 (by decide) ?_
      subst hQ
      exact W.iret hx hb hr (fun t ht hW => ⟨_, rfl, Option.some.inj hf, ht⟩) (fun _ h => absurd h List.not_mem_nil) dX6_swallowed_150 hlocks
    · have hf := sw_in c1 hf
      refine lv_iload_n hx hb dX6_swallowed_140 rfl (lv_at hl 1 rfl) ?_
      refine lv_iload_n hx hb dX6_swallowed_141 rfl (lv_at hl 3 rfl) ?_
      refine lv_iload_n hx hb dX6_swallowed_142 rfl (lv_at hl 2 rfl) ?_
      obtain ⟨q1, hq1, hf⟩ := sw_bs hf
      have hPc := hP.sub (ws' := []) [] rfl
      refine sw_rd (W.runS (As := [.int l1, .int l3, .int l2]) (rest := []) ⟨hx, hb, hml, hown, hts⟩ (k_X6_moved l dC dI cI cZ t0 l1 l3 l2 q1 hq1) (va_cwS 3 hts gX6_swallowed_X6_moved rfl rfl rfl (by decide +kernel) ⟨Nat.le_of_ble_eq_true rfl, Nat.le_of_ble_eq_true rfl⟩) ⟨sw_PR_bl, sw_PR_pre hK hPc hE hS⟩ rfl rfl hl.1 rfl (lv_room (Nat.le_of_ble_eq_true rfl)) dX6_swallowed_143 ⟨Nat.zero_le _, Nat.zero_le _⟩) ?_
      refine lv_goto (tgt := 150) hx hb dX6_swallowed_146 (by decide) ?_
      subst hQ
      exact W.iret hx hb hr (fun t ht hW => ⟨_, rfl, Option.some.inj hf, ht⟩) (fun _ h => absurd h List.not_mem_nil) dX6_swallowed_150 hlocks
  have hB_71 : ∀ (l5 : Int32) (s0 : Int32), F_X6_swallowed_71 M_beings M_rows l1 l2 l3 l5 s0 = some (rv) → ∀ ls : Array Slot, lv_has ls 7 [(0, .ref aM), (1, .int l1), (2, .int l2), (3, .int l3), (5, .int l5)] → W p l e rm_X6_swallowed s m ([.ref aM, .int l1, .int l2, .int l3] : List Value).toArray below meth c s.heap [] 0 0 Q (F0 m 71 ls [.int s0]) := by
    intro l5 s0  hf ls hl
    have hf := (F_X6_swallowed_71.eq_1 _ _ _ _ _ _ _).symm.trans hf
    refine lv_istore (lv' := [(6, .int s0), (0, .ref aM), (1, .int l1), (2, .int l2), (3, .int l3), (5, .int l5)]) hx hb dX6_swallowed_71 hl (by decide) rfl (fun ls hl => ?_)
    refine lv_iload hx hb dX6_swallowed_73 (lv_at hl 0 rfl) ?_
    refine lv_if_eq (tgt := 132) hx hb dX6_swallowed_75 (by decide) (fun c2 => ?_) (fun c2 => ?_)
    · have hf := sw_ip c2 hf
      refine lv_iconst (v := 0) hx hb dX6_swallowed_132 (by decide) ?_
      exact hB_133 (0 : Int32)  hf ls (lv_sub hl [2, 3, 4] rfl)
    · have hf := sw_in c2 hf
      refine lv_aload_n hx hb dX6_swallowed_78 rfl (lv_at hl 1 rfl) ?_
      refine lv_iload_n hx hb dX6_swallowed_79 rfl (lv_at hl 2 rfl) ?_
      refine lv_iload_n hx hb dX6_swallowed_80 rfl (lv_at hl 3 rfl) ?_
      obtain ⟨q2, hq2, hf⟩ := sw_bs hf
      have hPc := hP.sub (ws' := [(aM, .inr (6, [.ref aM_page, .int M_pageMany, .ref aM_readDeeds, .int M_readMany, .int M_readBase, .int M_state, .int M_beings, .int M_number, .int M_deedsDone, .ref aM_rows, .ref aM_far, .ref aM_firsts, .ref aM_line, .int M_lined, .int M_toldMany, .ref aM_toldRows, .ref aM_parts, .int M_seedNow, .int M_keptNumber, .int M_keptBeings, .int M_keptDeeds, .int M_keptTold, .ref aM_keptToldRows, .long M_hash])), (aM_rows, .inl (cI, 20, .inl M_rows))]) [0, 1] rfl
      refine sw_rd (W.runV (As := [.int l1, .int l2]) (rest := []) ⟨hx, hb, hml, hown, hts⟩ (k_X6_filled l dC dI cI cZ t0 aM aM_page aM_readDeeds aM_rows aM_far aM_firsts aM_line aM_toldRows aM_parts aM_keptToldRows M_pageMany M_readMany M_readBase M_state M_beings M_number M_deedsDone M_lined M_toldMany M_seedNow M_keptNumber M_keptBeings M_keptDeeds M_keptTold M_hash M_rows l1 l2 q2 hq2) (cwV 2 hts gX6_swallowed_X6_filled rfl rfl rfl (by decide +kernel) ⟨Nat.le_of_ble_eq_true rfl, Nat.le_of_ble_eq_true rfl⟩) ⟨sw_PR_bl, va_recv hK hPc (ci := 6) (q0 := 0) rfl rfl, sw_PR_pre hK hPc hE hS⟩ rfl rfl hl.1 rfl (lv_room (Nat.le_of_ble_eq_true rfl)) dX6_swallowed_81 ⟨Nat.zero_le _, Nat.zero_le _⟩) ?_
      refine lv_aload_n hx hb dX6_swallowed_84 rfl (lv_at hl 1 rfl) ?_
      refine va_get (D := (dC, dI)) (ci := 6) (v := .ref aM_rows) (C := RX6) (T := TX6) (N := 24) hx hb hts iX6 hown hK hP 0 rfl rfl 9 (by decide) hw1 (fun _ h9 => h9) rfl dX6_swallowed_85 ?_
      refine lv_iconst (v := 4) hx hb dX6_swallowed_88 (by decide) ?_
      refine lv_iload_n hx hb dX6_swallowed_89 rfl (lv_at hl 4 rfl) ?_
      refine lv_imul hx hb dX6_swallowed_90 ?_
      refine lv_iconst (v := 1) hx hb dX6_swallowed_91 (by decide) ?_
      refine lv_iadd hx hb dX6_swallowed_92 ?_
      obtain ⟨hi3, hf⟩ := sw_ix_s hf
      refine va_iald hx hb hK hP 1 0 rfl rfl hi3 dX6_swallowed_93 ?_
      refine lv_iadd hx hb dX6_swallowed_94 ?_
      refine lv_aload_n hx hb dX6_swallowed_95 rfl (lv_at hl 1 rfl) ?_
      refine va_get (D := (dC, dI)) (ci := 6) (v := .ref aM_rows) (C := RX6) (T := TX6) (N := 24) hx hb hts iX6 hown hK hP 0 rfl rfl 9 (by decide) hw1 (fun _ h9 => h9) rfl dX6_swallowed_96 ?_
      refine lv_iconst (v := 4) hx hb dX6_swallowed_99 (by decide) ?_
      refine lv_iload_n hx hb dX6_swallowed_100 rfl (lv_at hl 3 rfl) ?_
      refine lv_imul hx hb dX6_swallowed_101 ?_
      refine lv_iconst (v := 2) hx hb dX6_swallowed_102 (by decide) ?_
      refine lv_iadd hx hb dX6_swallowed_103 ?_
      obtain ⟨hi4, hf⟩ := sw_ix_s hf
      refine va_iald hx hb hK hP 1 0 rfl rfl hi4 dX6_swallowed_104 ?_
      refine lv_icmp_gt (tgt := 132) hx hb dX6_swallowed_105 (by decide) (fun c3 => ?_) (fun c3 => ?_)
      · have hf := sw_ip c3 hf
        refine lv_iconst (v := 0) hx hb dX6_swallowed_132 (by decide) ?_
        exact hB_133 (0 : Int32)  hf ls (lv_sub hl [2, 3, 4] rfl)
      · have hf := sw_in c3 hf
        refine lv_iload hx hb dX6_swallowed_108 (lv_at hl 5 rfl) ?_
        refine lv_aload_n hx hb dX6_swallowed_110 rfl (lv_at hl 1 rfl) ?_
        refine va_get (D := (dC, dI)) (ci := 6) (v := .ref aM_rows) (C := RX6) (T := TX6) (N := 24) hx hb hts iX6 hown hK hP 0 rfl rfl 9 (by decide) hw1 (fun _ h9 => h9) rfl dX6_swallowed_111 ?_
        refine lv_iconst (v := 4) hx hb dX6_swallowed_114 (by decide) ?_
        refine lv_iload_n hx hb dX6_swallowed_115 rfl (lv_at hl 4 rfl) ?_
        refine lv_imul hx hb dX6_swallowed_116 ?_
        refine lv_iconst (v := 2) hx hb dX6_swallowed_117 (by decide) ?_
        refine lv_iadd hx hb dX6_swallowed_118 ?_
        obtain ⟨hi5, hf⟩ := sw_ix_s hf
        refine va_iald hx hb hK hP 1 0 rfl rfl hi5 dX6_swallowed_119 ?_
        refine lv_icmp_ne (tgt := 128) hx hb dX6_swallowed_120 (by decide) (fun c4 => ?_) (fun c4 => ?_)
        · have hf := sw_in c4 hf
          refine lv_iconst (v := 1) hx hb dX6_swallowed_128 (by decide) ?_
          refine lv_goto (tgt := 133) hx hb dX6_swallowed_129 (by decide) ?_
          exact hB_133 (1 : Int32)  hf ls (lv_sub hl [2, 3, 4] rfl)
        · have hf := sw_ip c4 hf
          refine lv_iload hx hb dX6_swallowed_123 (lv_at hl 5 rfl) ?_
          refine lv_if_ne (tgt := 132) hx hb dX6_swallowed_125 (by decide) (fun c5 => ?_) (fun c5 => ?_)
          · have hf := sw_in c5 hf
            refine lv_iconst (v := 0) hx hb dX6_swallowed_132 (by decide) ?_
            exact hB_133 (0 : Int32)  hf ls (lv_sub hl [2, 3, 4] rfl)
          · have hf := sw_ip c5 hf
            refine lv_iconst (v := 1) hx hb dX6_swallowed_128 (by decide) ?_
            refine lv_goto (tgt := 133) hx hb dX6_swallowed_129 (by decide) ?_
            exact hB_133 (1 : Int32)  hf ls (lv_sub hl [2, 3, 4] rfl)
  have hf := hf0
  have hl := hl0
  refine lv_aload_n hx hb dX6_swallowed_0 rfl (lv_at hl 0 rfl) ?_
  refine va_get (D := (dC, dI)) (ci := 6) (v := .ref aM_rows) (C := RX6) (T := TX6) (N := 24) hx hb hts iX6 hown hK hP 0 rfl rfl 9 (by decide) hw1 (fun _ h9 => h9) rfl dX6_swallowed_1 ?_
  refine lv_iconst (v := 4) hx hb dX6_swallowed_4 (by decide) ?_
  refine lv_iload_n hx hb dX6_swallowed_5 rfl (lv_at hl 2 rfl) ?_
  refine lv_imul hx hb dX6_swallowed_6 ?_
  obtain ⟨hi6, hf⟩ := sw_ix_s hf
  refine va_iald hx hb hK hP 1 0 rfl rfl hi6 dX6_swallowed_7 ?_
  refine lv_istore (lv' := [(4, .int (M_rows ((4 : Int32) * l2).toNatClampNeg)), (0, .ref aM), (1, .int l1), (2, .int l2), (3, .int l3)]) hx hb dX6_swallowed_8 hl (by decide) rfl (fun ls hl => ?_)
  refine lv_aload_n hx hb dX6_swallowed_10 rfl (lv_at hl 1 rfl) ?_
  refine lv_iload_n hx hb dX6_swallowed_11 rfl (lv_at hl 2 rfl) ?_
  refine lv_iload_n hx hb dX6_swallowed_12 rfl (lv_at hl 4 rfl) ?_
  obtain ⟨q7, hq7, hf⟩ := sw_bs hf
  have hPc := hP.sub (ws' := [(aM, .inr (6, [.ref aM_page, .int M_pageMany, .ref aM_readDeeds, .int M_readMany, .int M_readBase, .int M_state, .int M_beings, .int M_number, .int M_deedsDone, .ref aM_rows, .ref aM_far, .ref aM_firsts, .ref aM_line, .int M_lined, .int M_toldMany, .ref aM_toldRows, .ref aM_parts, .int M_seedNow, .int M_keptNumber, .int M_keptBeings, .int M_keptDeeds, .int M_keptTold, .ref aM_keptToldRows, .long M_hash])), (aM_rows, .inl (cI, 20, .inl M_rows))]) [0, 1] rfl
  refine sw_rd (W.runV (As := [.int l1, .int l3]) (rest := []) ⟨hx, hb, hml, hown, hts⟩ (k_X6_filled l dC dI cI cZ t0 aM aM_page aM_readDeeds aM_rows aM_far aM_firsts aM_line aM_toldRows aM_parts aM_keptToldRows M_pageMany M_readMany M_readBase M_state M_beings M_number M_deedsDone M_lined M_toldMany M_seedNow M_keptNumber M_keptBeings M_keptDeeds M_keptTold M_hash M_rows l1 l3 q7 hq7) (cwV 2 hts gX6_swallowed_X6_filled rfl rfl rfl (by decide +kernel) ⟨Nat.le_of_ble_eq_true rfl, Nat.le_of_ble_eq_true rfl⟩) ⟨sw_PR_bl, va_recv hK hPc (ci := 6) (q0 := 0) rfl rfl, sw_PR_pre hK hPc hE hS⟩ rfl rfl hl.1 rfl (lv_room (Nat.le_of_ble_eq_true rfl)) dX6_swallowed_13 ⟨Nat.zero_le _, Nat.zero_le _⟩) ?_
  refine lv_istore (lv' := [(5, .int q7), (4, .int (M_rows ((4 : Int32) * l2).toNatClampNeg)), (0, .ref aM), (1, .int l1), (2, .int l2), (3, .int l3)]) hx hb dX6_swallowed_16 hl (by decide) rfl (fun ls hl => ?_)
  refine lv_iload hx hb dX6_swallowed_18 (lv_at hl 1 rfl) ?_
  refine lv_if_le (tgt := 70) hx hb dX6_swallowed_20 (by decide) (fun c6 => ?_) (fun c6 => ?_)
  · have hf := sw_ip c6 hf
    refine lv_iconst (v := 0) hx hb dX6_swallowed_70 (by decide) ?_
    exact hB_71 q7 (0 : Int32)  hf ls (lv_sub hl [2, 3, 4, 5, 0] rfl)
  · have hf := sw_in c6 hf
    refine lv_iload_n hx hb dX6_swallowed_23 rfl (lv_at hl 4 rfl) ?_
    refine lv_iload_n hx hb dX6_swallowed_24 rfl (lv_at hl 5 rfl) ?_
    refine lv_icmp_eq (tgt := 70) hx hb dX6_swallowed_25 (by decide) (fun c7 => ?_) (fun c7 => ?_)
    · have hf := sw_ip c7 hf
      refine lv_iconst (v := 0) hx hb dX6_swallowed_70 (by decide) ?_
      exact hB_71 q7 (0 : Int32)  hf ls (lv_sub hl [2, 3, 4, 5, 0] rfl)
    · have hf := sw_in c7 hf
      refine lv_aload_n hx hb dX6_swallowed_28 rfl (lv_at hl 2 rfl) ?_
      refine va_get (D := (dC, dI)) (ci := 6) (v := .ref aM_rows) (C := RX6) (T := TX6) (N := 24) hx hb hts iX6 hown hK hP 0 rfl rfl 9 (by decide) hw1 (fun _ h9 => h9) rfl dX6_swallowed_29 ?_
      refine lv_iconst (v := 4) hx hb dX6_swallowed_32 (by decide) ?_
      refine lv_iload_n hx hb dX6_swallowed_33 rfl (lv_at hl 4 rfl) ?_
      refine lv_imul hx hb dX6_swallowed_34 ?_
      refine lv_iconst (v := 3) hx hb dX6_swallowed_35 (by decide) ?_
      refine lv_iadd hx hb dX6_swallowed_36 ?_
      obtain ⟨hi8, hf⟩ := sw_ix_s hf
      refine va_iald hx hb hK hP 1 0 rfl rfl hi8 dX6_swallowed_37 ?_
      refine lv_aload_n hx hb dX6_swallowed_38 rfl (lv_at hl 2 rfl) ?_
      refine va_get (D := (dC, dI)) (ci := 6) (v := .ref aM_rows) (C := RX6) (T := TX6) (N := 24) hx hb hts iX6 hown hK hP 0 rfl rfl 9 (by decide) hw1 (fun _ h9 => h9) rfl dX6_swallowed_39 ?_
      refine lv_iconst (v := 4) hx hb dX6_swallowed_42 (by decide) ?_
      refine lv_iload_n hx hb dX6_swallowed_43 rfl (lv_at hl 5 rfl) ?_
      refine lv_imul hx hb dX6_swallowed_44 ?_
      obtain ⟨hi9, hf⟩ := sw_ix_s hf
      refine va_iald hx hb hK hP 1 0 rfl rfl hi9 dX6_swallowed_45 ?_
      refine lv_ishr hx hb dX6_swallowed_46 ?_
      refine lv_iconst (v := 1) hx hb dX6_swallowed_47 (by decide) ?_
      refine lv_iand hx hb dX6_swallowed_48 ?_
      refine lv_iconst (v := 1) hx hb dX6_swallowed_49 (by decide) ?_
      refine lv_icmp_ne (tgt := 70) hx hb dX6_swallowed_50 (by decide) (fun c8 => ?_) (fun c8 => ?_)
      · have hf := sw_in c8 hf
        refine lv_iconst (v := 0) hx hb dX6_swallowed_70 (by decide) ?_
        exact hB_71 q7 (0 : Int32)  hf ls (lv_sub hl [2, 3, 4, 5, 0] rfl)
      · have hf := sw_ip c8 hf
        refine lv_iload_n hx hb dX6_swallowed_53 rfl (lv_at hl 3 rfl) ?_
        refine lv_iload_n hx hb dX6_swallowed_54 rfl (lv_at hl 4 rfl) ?_
        obtain ⟨q10, hq10, hf⟩ := sw_bs hf
        have hPc := hP.sub (ws' := []) [] rfl
        refine sw_rd (W.runS (As := [.int l1, .int l2]) (rest := []) ⟨hx, hb, hml, hown, hts⟩ (k_X6_holder l dC dI cI cZ t0 l1 l2 q10 hq10) (va_cwS 2 hts gX6_swallowed_X6_holder rfl rfl rfl (by decide +kernel) ⟨Nat.le_of_ble_eq_true rfl, Nat.le_of_ble_eq_true rfl⟩) ⟨sw_PR_bl, sw_PR_pre hK hPc hE hS⟩ rfl rfl hl.1 rfl (lv_room (Nat.le_of_ble_eq_true rfl)) dX6_swallowed_55 ⟨Nat.zero_le _, Nat.zero_le _⟩) ?_
        refine lv_iload_n hx hb dX6_swallowed_58 rfl (lv_at hl 3 rfl) ?_
        refine lv_iload_n hx hb dX6_swallowed_59 rfl (lv_at hl 5 rfl) ?_
        obtain ⟨q11, hq11, hf⟩ := sw_bs hf
        have hPc := hP.sub (ws' := []) [] rfl
        refine sw_rd (W.runS (As := [.int l1, .int l3]) (rest := [.int q10]) ⟨hx, hb, hml, hown, hts⟩ (k_X6_holder l dC dI cI cZ t0 l1 l3 q11 hq11) (va_cwS 2 hts gX6_swallowed_X6_holder rfl rfl rfl (by decide +kernel) ⟨Nat.le_of_ble_eq_true rfl, Nat.le_of_ble_eq_true rfl⟩) ⟨sw_PR_bl, sw_PR_pre hK hPc hE hS⟩ rfl rfl hl.1 rfl (lv_room (Nat.le_of_ble_eq_true rfl)) dX6_swallowed_60 ⟨Nat.zero_le _, Nat.zero_le _⟩) ?_
        refine lv_icmp_ne (tgt := 70) hx hb dX6_swallowed_63 (by decide) (fun c9 => ?_) (fun c9 => ?_)
        · have hf := sw_in c9 hf
          refine lv_iconst (v := 0) hx hb dX6_swallowed_70 (by decide) ?_
          exact hB_71 q7 (0 : Int32)  hf ls (lv_sub hl [2, 3, 4, 5, 0] rfl)
        · have hf := sw_ip c9 hf
          refine lv_iconst (v := 1) hx hb dX6_swallowed_66 (by decide) ?_
          refine lv_goto (tgt := 71) hx hb dX6_swallowed_67 (by decide) ?_
          exact hB_71 q7 (1 : Int32)  hf ls (lv_sub hl [2, 3, 4, 5, 0] rfl)
abbrev rm_X6_comeOut : Room := { frames := 3, cells := 0, slots := 0, locals := 67 }
set_option maxHeartbeats 1000000 in
set_option maxRecDepth 100000 in
theorem k_X6_comeOut (l : Launch) (dC : Nat → ClassId) (dI : Nat → Nat → Nat) (cI cZ : ClassId) (t0 : Nat) (aM aM_page aM_readDeeds aM_rows aM_far aM_firsts aM_line aM_toldRows aM_parts aM_keptToldRows : Nat) (M_pageMany : Int32) (M_readMany : Int32) (M_readBase : Int32) (M_state : Int32) (M_beings : Int32) (M_number : Int32) (M_deedsDone : Int32) (M_lined : Int32) (M_toldMany : Int32) (M_seedNow : Int32) (M_keptNumber : Int32) (M_keptBeings : Int32) (M_keptDeeds : Int32) (M_keptTold : Int32) (M_hash : Int64) (M_rows : Nat → Int32) (l1 : Int32) (l2 : Int32) (l3 : Int32) (rv : Int32)  (hf : F_X6_comeOut M_beings M_rows l1 l2 l3 = some (rv)) : Met l yX6_comeOut wsX6_comeOut rm_X6_comeOut (sw_PR (dC, dI) t0 [(cI, .int), (cZ, .boolean)] [.ref aM, .int l1, .int l2, .int l3] [(aM, .inr (6, [.ref aM_page, .int M_pageMany, .ref aM_readDeeds, .int M_readMany, .int M_readBase, .int M_state, .int M_beings, .int M_number, .int M_deedsDone, .ref aM_rows, .ref aM_far, .ref aM_firsts, .ref aM_line, .int M_lined, .int M_toldMany, .ref aM_toldRows, .ref aM_parts, .int M_seedNow, .int M_keptNumber, .int M_keptBeings, .int M_keptDeeds, .int M_keptTold, .ref aM_keptToldRows, .long M_hash])), (aM_rows, .inl (cI, 20, .inl M_rows))]) (vp_Si (fun r => r = rv)) 0 0 (fun _ => False) := by
  refine sw_metR (cc := cX6_comeOut) (maxL := 9) (ret := (some .int)) (lv := [(0, .ref aM), (1, .int l1), (2, .int l2), (3, .int l3)]) (by decide) rfl (Nat.le_of_ble_eq_true rfl) rfl ?_
  intro p e s m below meth c Q hQ hx hb hr hts hown hlocks hml hP hK hE hS ls hl
  have hown : s.vm.findClass RX6 = some m.cls := hown
  have hf := (F_X6_comeOut.eq_1 _ _ _ _ _).symm.trans hf
  have hw2 := hts (.fieldLink RX6 16 "SwallowedInTurnModel" "rows" "[I") (List.mem_of_getElem? (i := 2) (by decide +kernel))
  have iX6 : ∀ w ∈ u_ws RX6 TX6 24, w ∈ wsX6_comeOut := by decide +kernel
  have hw1 := hts (.fieldLink RX6 72 "SwallowedInTurnModel" "beings" "I") (List.mem_of_getElem? (i := 1) (by decide +kernel))
  have hf0 := hf
  clear hf
  have hl0 := hl
  clear hl
  have hB_115 : ∀ (l6 : Int32) (l7 : Int32) (s0 : Int32), F_X6_comeOut_115 l6 l7 s0 = some (rv) → ∀ ls : Array Slot, lv_has ls 9 [(6, .int l6), (7, .int l7)] → W p l e rm_X6_comeOut s m ([.ref aM, .int l1, .int l2, .int l3] : List Value).toArray below meth c s.heap [] 0 0 Q (F0 m 115 ls [.int s0]) := by
    intro l6 l7 s0  hf ls hl
    have hf := (F_X6_comeOut_115.eq_1 _ _ _).symm.trans hf
    refine lv_istore (lv' := [(8, .int s0), (6, .int l6), (7, .int l7)]) hx hb dX6_comeOut_115 hl (by decide) rfl (fun ls hl => ?_)
    refine lv_iload hx hb dX6_comeOut_117 (lv_at hl 1 rfl) ?_
    refine lv_if_le (tgt := 132) hx hb dX6_comeOut_119 (by decide) (fun c1 => ?_) (fun c1 => ?_)
    · have hf := sw_ip c1 hf
      refine lv_iconst (v := -1) hx hb dX6_comeOut_132 (by decide) ?_
      subst hQ
      exact W.iret hx hb hr (fun t ht hW => ⟨_, rfl, Option.some.inj hf, ht⟩) (fun _ h => absurd h List.not_mem_nil) dX6_comeOut_133 hlocks
    · have hf := sw_in c1 hf
      refine lv_iload hx hb dX6_comeOut_122 (lv_at hl 0 rfl) ?_
      refine lv_if_eq (tgt := 132) hx hb dX6_comeOut_124 (by decide) (fun c2 => ?_) (fun c2 => ?_)
      · have hf := sw_ip c2 hf
        refine lv_iconst (v := -1) hx hb dX6_comeOut_132 (by decide) ?_
        subst hQ
        exact W.iret hx hb hr (fun t ht hW => ⟨_, rfl, Option.some.inj hf, ht⟩) (fun _ h => absurd h List.not_mem_nil) dX6_comeOut_133 hlocks
      · have hf := sw_in c2 hf
        refine lv_iload hx hb dX6_comeOut_127 (lv_at hl 2 rfl) ?_
        refine lv_goto (tgt := 133) hx hb dX6_comeOut_129 (by decide) ?_
        subst hQ
        exact W.iret hx hb hr (fun t ht hW => ⟨_, rfl, Option.some.inj hf, ht⟩) (fun _ h => absurd h List.not_mem_nil) dX6_comeOut_133 hlocks
  have hB_24 : ∀ (l4 : Int32), ∀ (fu : Nat) (l5 : Int32) (l6 : Int32) (l7 : Int32) (l8 : Int32), F_X6_comeOut_24 M_beings M_rows l1 l2 l4 fu l5 l6 l7 l8 = some (rv) → ∀ ls : Array Slot, lv_has ls 9 [(0, .ref aM), (1, .int l1), (2, .int l2), (4, .int l4), (5, .int l5), (6, .int l6), (7, .int l7), (8, .int l8)] → W p l e rm_X6_comeOut s m ([.ref aM, .int l1, .int l2, .int l3] : List Value).toArray below meth c s.heap [] 0 0 Q (F0 m 24 ls []) := by
    intro l4  fu
    induction fu with
    | zero =>
      intro l5 l6 l7 l8 hf
      exact nomatch (show (none : Option (Int32)) = some (rv) from hf)
    | succ fu ih =>
      intro l5 l6 l7 l8 hf ls hl
      have hf := (F_X6_comeOut_24.eq_2 _ _ _ _ _ _ _ _ _ _).symm.trans hf
      refine lv_iload hx hb dX6_comeOut_24 (lv_at hl 7 rfl) ?_
      refine lv_if_lt (tgt := 80) hx hb dX6_comeOut_26 (by decide) (fun c3 => ?_) (fun c3 => ?_)
      · have hf := sw_ip c3 hf
        refine lv_iload hx hb dX6_comeOut_80 (lv_at hl 3 rfl) ?_
        refine lv_iconst (v := -1) hx hb dX6_comeOut_82 (by decide) ?_
        refine lv_icmp_eq (tgt := 110) hx hb dX6_comeOut_83 (by decide) (fun c4 => ?_) (fun c4 => ?_)
        · have hf := sw_ip c4 hf
          refine lv_iconst (v := 1) hx hb dX6_comeOut_110 (by decide) ?_
          refine lv_goto (tgt := 115) hx hb dX6_comeOut_111 (by decide) ?_
          exact hB_115 l6 l7 (1 : Int32)  hf ls (lv_sub hl [5, 6] rfl)
        · have hf := sw_in c4 hf
          refine lv_aload_n hx hb dX6_comeOut_86 rfl (lv_at hl 0 rfl) ?_
          refine lv_iload_n hx hb dX6_comeOut_87 rfl (lv_at hl 1 rfl) ?_
          refine lv_iload hx hb dX6_comeOut_88 (lv_at hl 3 rfl) ?_
          obtain ⟨q1, hq1, hf⟩ := sw_bs hf
          have hPc := hP.sub (ws' := [(aM, .inr (6, [.ref aM_page, .int M_pageMany, .ref aM_readDeeds, .int M_readMany, .int M_readBase, .int M_state, .int M_beings, .int M_number, .int M_deedsDone, .ref aM_rows, .ref aM_far, .ref aM_firsts, .ref aM_line, .int M_lined, .int M_toldMany, .ref aM_toldRows, .ref aM_parts, .int M_seedNow, .int M_keptNumber, .int M_keptBeings, .int M_keptDeeds, .int M_keptTold, .ref aM_keptToldRows, .long M_hash])), (aM_rows, .inl (cI, 20, .inl M_rows))]) [0, 1] rfl
          refine sw_rd (W.runV (As := [.int l1, .int l4]) (rest := []) ⟨hx, hb, hml, hown, hts⟩ (k_X6_filled l dC dI cI cZ t0 aM aM_page aM_readDeeds aM_rows aM_far aM_firsts aM_line aM_toldRows aM_parts aM_keptToldRows M_pageMany M_readMany M_readBase M_state M_beings M_number M_deedsDone M_lined M_toldMany M_seedNow M_keptNumber M_keptBeings M_keptDeeds M_keptTold M_hash M_rows l1 l4 q1 hq1) (cwV 2 hts gX6_comeOut_X6_filled rfl rfl rfl (by decide +kernel) ⟨Nat.le_of_ble_eq_true rfl, Nat.le_of_ble_eq_true rfl⟩) ⟨sw_PR_bl, va_recv hK hPc (ci := 6) (q0 := 0) rfl rfl, sw_PR_pre hK hPc hE hS⟩ rfl rfl hl.1 rfl (lv_room (Nat.le_of_ble_eq_true rfl)) dX6_comeOut_90 ⟨Nat.zero_le _, Nat.zero_le _⟩) ?_
          refine lv_iload hx hb dX6_comeOut_93 (lv_at hl 5 rfl) ?_
          refine lv_iadd hx hb dX6_comeOut_95 ?_
          refine lv_aload_n hx hb dX6_comeOut_96 rfl (lv_at hl 0 rfl) ?_
          refine va_get (D := (dC, dI)) (ci := 6) (v := .ref aM_rows) (C := RX6) (T := TX6) (N := 24) hx hb hts iX6 hown hK hP 0 rfl rfl 9 (by decide) hw2 (fun _ h9 => h9) rfl dX6_comeOut_97 ?_
          refine lv_iconst (v := 4) hx hb dX6_comeOut_100 (by decide) ?_
          refine lv_iload hx hb dX6_comeOut_101 (lv_at hl 3 rfl) ?_
          refine lv_imul hx hb dX6_comeOut_103 ?_
          refine lv_iconst (v := 2) hx hb dX6_comeOut_104 (by decide) ?_
          refine lv_iadd hx hb dX6_comeOut_105 ?_
          obtain ⟨hi2, hf⟩ := sw_ix_s hf
          refine va_iald hx hb hK hP 1 0 rfl rfl hi2 dX6_comeOut_106 ?_
          refine lv_icmp_gt (tgt := 114) hx hb dX6_comeOut_107 (by decide) (fun c5 => ?_) (fun c5 => ?_)
          · have hf := sw_ip c5 hf
            refine lv_iconst (v := 0) hx hb dX6_comeOut_114 (by decide) ?_
            exact hB_115 l6 l7 (0 : Int32)  hf ls (lv_sub hl [5, 6] rfl)
          · have hf := sw_in c5 hf
            refine lv_iconst (v := 1) hx hb dX6_comeOut_110 (by decide) ?_
            refine lv_goto (tgt := 115) hx hb dX6_comeOut_111 (by decide) ?_
            exact hB_115 l6 l7 (1 : Int32)  hf ls (lv_sub hl [5, 6] rfl)
      · have hf := sw_in c3 hf
        refine lv_iload_n hx hb dX6_comeOut_29 rfl (lv_at hl 1 rfl) ?_
        refine lv_iload hx hb dX6_comeOut_30 (lv_at hl 7 rfl) ?_
        obtain ⟨q3, hq3, hf⟩ := sw_bs hf
        have hPc := hP.sub (ws' := []) [] rfl
        refine sw_rd (W.runS (As := [.int l1, .int l8]) (rest := []) ⟨hx, hb, hml, hown, hts⟩ (k_X6_holder l dC dI cI cZ t0 l1 l8 q3 hq3) (va_cwS 2 hts gX6_comeOut_X6_holder rfl rfl rfl (by decide +kernel) ⟨Nat.le_of_ble_eq_true rfl, Nat.le_of_ble_eq_true rfl⟩) ⟨sw_PR_bl, sw_PR_pre hK hPc hE hS⟩ rfl rfl hl.1 rfl (lv_room (Nat.le_of_ble_eq_true rfl)) dX6_comeOut_32 ⟨Nat.zero_le _, Nat.zero_le _⟩) ?_
        refine lv_iload_n hx hb dX6_comeOut_35 rfl (lv_at hl 2 rfl) ?_
        refine lv_icmp_ne (tgt := 74) hx hb dX6_comeOut_36 (by decide) (fun c6 => ?_) (fun c6 => ?_)
        · have hf := sw_in c6 hf
          refine lv_iinc (v := l8 + (-1 : Int32)) (lv' := [(8, .int (l8 + (-1 : Int32))), (0, .ref aM), (1, .int l1), (2, .int l2), (4, .int l4), (5, .int l5), (6, .int l6), (7, .int l7)]) hx hb dX6_comeOut_74 hl (k := 7) rfl (sw_iim _) (by decide) rfl (fun ls hl => ?_)
          refine lv_goto (tgt := 24) hx hb dX6_comeOut_77 (by decide) ?_
          exact ih l5 l6 l7 (l8 + (-1 : Int32)) hf ls (lv_sub hl [1, 2, 3, 4, 5, 6, 7, 0] rfl)
        · have hf := sw_ip c6 hf
          refine lv_iload hx hb dX6_comeOut_39 (lv_at hl 4 rfl) ?_
          refine lv_if_le (tgt := 74) hx hb dX6_comeOut_41 (by decide) (fun c7 => ?_) (fun c7 => ?_)
          · have hf := sw_ip c7 hf
            refine lv_iinc (v := l8 + (-1 : Int32)) (lv' := [(8, .int (l8 + (-1 : Int32))), (0, .ref aM), (1, .int l1), (2, .int l2), (4, .int l4), (5, .int l5), (6, .int l6), (7, .int l7)]) hx hb dX6_comeOut_74 hl (k := 7) rfl (sw_iim _) (by decide) rfl (fun ls hl => ?_)
            refine lv_goto (tgt := 24) hx hb dX6_comeOut_77 (by decide) ?_
            exact ih l5 l6 l7 (l8 + (-1 : Int32)) hf ls (lv_sub hl [1, 2, 3, 4, 5, 6, 7, 0] rfl)
          · have hf := sw_in c7 hf
            refine lv_iload hx hb dX6_comeOut_44 (lv_at hl 6 rfl) ?_
            refine lv_iload hx hb dX6_comeOut_46 (lv_at hl 7 rfl) ?_
            refine lv_iload hx hb dX6_comeOut_48 (lv_at hl 3 rfl) ?_
            obtain ⟨q4, hq4, hf⟩ := sw_bs hf
            have hPc := hP.sub (ws' := []) [] rfl
            refine sw_rd (W.runS (As := [.int l7, .int l8, .int l4]) (rest := []) ⟨hx, hb, hml, hown, hts⟩ (k_X6_moved l dC dI cI cZ t0 l7 l8 l4 q4 hq4) (va_cwS 3 hts gX6_comeOut_X6_moved rfl rfl rfl (by decide +kernel) ⟨Nat.le_of_ble_eq_true rfl, Nat.le_of_ble_eq_true rfl⟩) ⟨sw_PR_bl, sw_PR_pre hK hPc hE hS⟩ rfl rfl hl.1 rfl (lv_room (Nat.le_of_ble_eq_true rfl)) dX6_comeOut_50 ⟨Nat.zero_le _, Nat.zero_le _⟩) ?_
            refine lv_istore (lv' := [(7, .int q4), (0, .ref aM), (1, .int l1), (2, .int l2), (4, .int l4), (5, .int l5), (6, .int l6), (8, .int l8)]) hx hb dX6_comeOut_53 hl (by decide) rfl (fun ls hl => ?_)
            refine lv_iload hx hb dX6_comeOut_55 (lv_at hl 6 rfl) ?_
            refine lv_aload_n hx hb dX6_comeOut_57 rfl (lv_at hl 1 rfl) ?_
            refine va_get (D := (dC, dI)) (ci := 6) (v := .ref aM_rows) (C := RX6) (T := TX6) (N := 24) hx hb hts iX6 hown hK hP 0 rfl rfl 9 (by decide) hw2 (fun _ h9 => h9) rfl dX6_comeOut_58 ?_
            refine lv_iconst (v := 4) hx hb dX6_comeOut_61 (by decide) ?_
            refine lv_iload hx hb dX6_comeOut_62 (lv_at hl 7 rfl) ?_
            refine lv_imul hx hb dX6_comeOut_64 ?_
            refine lv_iconst (v := 1) hx hb dX6_comeOut_65 (by decide) ?_
            refine lv_iadd hx hb dX6_comeOut_66 ?_
            obtain ⟨hi5, hf⟩ := sw_ix_s hf
            refine va_iald hx hb hK hP 1 0 rfl rfl hi5 dX6_comeOut_67 ?_
            refine lv_iadd hx hb dX6_comeOut_68 ?_
            refine lv_istore (lv' := [(6, .int (l6 + (M_rows (((4 : Int32) * l8) + (1 : Int32)).toNatClampNeg))), (7, .int q4), (0, .ref aM), (1, .int l1), (2, .int l2), (4, .int l4), (5, .int l5), (8, .int l8)]) hx hb dX6_comeOut_69 hl (by decide) rfl (fun ls hl => ?_)
            refine lv_iinc (v := l5 + (-1 : Int32)) (lv' := [(5, .int (l5 + (-1 : Int32))), (6, .int (l6 + (M_rows (((4 : Int32) * l8) + (1 : Int32)).toNatClampNeg))), (7, .int q4), (0, .ref aM), (1, .int l1), (2, .int l2), (4, .int l4), (8, .int l8)]) hx hb dX6_comeOut_71 hl (k := 6) rfl (sw_iim _) (by decide) rfl (fun ls hl => ?_)
            refine lv_iinc (v := l8 + (-1 : Int32)) (lv' := [(8, .int (l8 + (-1 : Int32))), (5, .int (l5 + (-1 : Int32))), (6, .int (l6 + (M_rows (((4 : Int32) * l8) + (1 : Int32)).toNatClampNeg))), (7, .int q4), (0, .ref aM), (1, .int l1), (2, .int l2), (4, .int l4)]) hx hb dX6_comeOut_74 hl (k := 7) rfl (sw_iim _) (by decide) rfl (fun ls hl => ?_)
            refine lv_goto (tgt := 24) hx hb dX6_comeOut_77 (by decide) ?_
            exact ih (l5 + (-1 : Int32)) (l6 + (M_rows (((4 : Int32) * l8) + (1 : Int32)).toNatClampNeg)) q4 (l8 + (-1 : Int32)) hf ls (lv_sub hl [4, 5, 6, 7, 1, 2, 3, 0] rfl)
  have hf := hf0
  have hl := hl0
  refine lv_iload_n hx hb dX6_comeOut_0 rfl (lv_at hl 1 rfl) ?_
  refine lv_iload_n hx hb dX6_comeOut_1 rfl (lv_at hl 2 rfl) ?_
  obtain ⟨q6, hq6, hf⟩ := sw_bs hf
  have hPc := hP.sub (ws' := []) [] rfl
  refine sw_rd (W.runS (As := [.int l1, .int l2]) (rest := []) ⟨hx, hb, hml, hown, hts⟩ (k_X6_holder l dC dI cI cZ t0 l1 l2 q6 hq6) (va_cwS 2 hts gX6_comeOut_X6_holder rfl rfl rfl (by decide +kernel) ⟨Nat.le_of_ble_eq_true rfl, Nat.le_of_ble_eq_true rfl⟩) ⟨sw_PR_bl, sw_PR_pre hK hPc hE hS⟩ rfl rfl hl.1 rfl (lv_room (Nat.le_of_ble_eq_true rfl)) dX6_comeOut_2 ⟨Nat.zero_le _, Nat.zero_le _⟩) ?_
  refine lv_istore (lv' := [(4, .int q6), (0, .ref aM), (1, .int l1), (2, .int l2), (3, .int l3)]) hx hb dX6_comeOut_5 hl (by decide) rfl (fun ls hl => ?_)
  refine lv_iload_n hx hb dX6_comeOut_7 rfl (lv_at hl 4 rfl) ?_
  refine lv_istore (lv' := [(5, .int l3), (4, .int q6), (0, .ref aM), (1, .int l1), (2, .int l2), (3, .int l3)]) hx hb dX6_comeOut_8 hl (by decide) rfl (fun ls hl => ?_)
  refine lv_iconst (v := 0) hx hb dX6_comeOut_10 (by decide) ?_
  refine lv_istore (lv' := [(6, .int (0 : Int32)), (5, .int l3), (4, .int q6), (0, .ref aM), (1, .int l1), (2, .int l2), (3, .int l3)]) hx hb dX6_comeOut_11 hl (by decide) rfl (fun ls hl => ?_)
  refine lv_iload_n hx hb dX6_comeOut_13 rfl (lv_at hl 4 rfl) ?_
  refine lv_istore (lv' := [(7, .int l1), (6, .int (0 : Int32)), (5, .int l3), (4, .int q6), (0, .ref aM), (1, .int l1), (2, .int l2), (3, .int l3)]) hx hb dX6_comeOut_14 hl (by decide) rfl (fun ls hl => ?_)
  refine lv_aload_n hx hb dX6_comeOut_16 rfl (lv_at hl 4 rfl) ?_
  refine va_get (D := (dC, dI)) (ci := 6) (v := .int M_beings) (C := RX6) (T := TX6) (N := 24) hx hb hts iX6 hown hK hP 0 rfl rfl 6 (by decide) hw1 (fun _ h9 => h9) rfl dX6_comeOut_17 ?_
  refine lv_iconst (v := 1) hx hb dX6_comeOut_20 (by decide) ?_
  refine lv_isub hx hb dX6_comeOut_21 ?_
  refine lv_istore (lv' := [(8, .int (M_beings - (1 : Int32))), (7, .int l1), (6, .int (0 : Int32)), (5, .int l3), (4, .int q6), (0, .ref aM), (1, .int l1), (2, .int l2), (3, .int l3)]) hx hb dX6_comeOut_22 hl (by decide) rfl (fun ls hl => ?_)
  exact hB_24 q6  sw_fu l3 (0 : Int32) l1 (M_beings - (1 : Int32)) hf ls (lv_sub hl [5, 6, 7, 4, 3, 2, 1, 0] rfl)
abbrev rm_X6_isDeed : Room := { frames := 2, cells := 0, slots := 0, locals := 46 }
set_option maxHeartbeats 1000000 in
set_option maxRecDepth 100000 in
theorem k_X6_isDeed (l : Launch) (dC : Nat → ClassId) (dI : Nat → Nat → Nat) (cI cZ : ClassId) (t0 : Nat) (aM aM_page aM_readDeeds aM_rows aM_far aM_firsts aM_line aM_toldRows aM_parts aM_keptToldRows : Nat) (M_pageMany : Int32) (M_readMany : Int32) (M_readBase : Int32) (M_state : Int32) (M_beings : Int32) (M_number : Int32) (M_deedsDone : Int32) (M_lined : Int32) (M_toldMany : Int32) (M_seedNow : Int32) (M_keptNumber : Int32) (M_keptBeings : Int32) (M_keptDeeds : Int32) (M_keptTold : Int32) (M_hash : Int64) (l1 : Int32) (rv : Int32)  (hf : F_X6_isDeed M_beings l1 = some (rv)) : Met l yX6_isDeed wsX6_isDeed rm_X6_isDeed (sw_PR (dC, dI) t0 [(cI, .int), (cZ, .boolean)] [.ref aM, .int l1] [(aM, .inr (6, [.ref aM_page, .int M_pageMany, .ref aM_readDeeds, .int M_readMany, .int M_readBase, .int M_state, .int M_beings, .int M_number, .int M_deedsDone, .ref aM_rows, .ref aM_far, .ref aM_firsts, .ref aM_line, .int M_lined, .int M_toldMany, .ref aM_toldRows, .ref aM_parts, .int M_seedNow, .int M_keptNumber, .int M_keptBeings, .int M_keptDeeds, .int M_keptTold, .ref aM_keptToldRows, .long M_hash]))]) (vp_Si (fun r => r = rv)) 0 0 (fun _ => False) := by
  refine sw_metR (cc := cX6_isDeed) (maxL := 2) (ret := (some .boolean)) (lv := [(0, .ref aM), (1, .int l1)]) (by decide) rfl (Nat.le_of_ble_eq_true rfl) rfl ?_
  intro p e s m below meth c Q hQ hx hb hr hts hown hlocks hml hP hK hE hS ls hl
  have hown : s.vm.findClass RX6 = some m.cls := hown
  have hf := (F_X6_isDeed.eq_1 _ _).symm.trans hf
  have hw1 := hts (.constantLong RX6 96 (24)) (List.mem_of_getElem? (i := 1) (by decide +kernel))
  have hw2 := hts (.constantLong RX6 101 (30)) (List.mem_of_getElem? (i := 2) (by decide +kernel))
  have hw3 := hts (.constantLong RX6 103 (34)) (List.mem_of_getElem? (i := 3) (by decide +kernel))
  have hw4 := hts (.constantLong RX6 105 (40)) (List.mem_of_getElem? (i := 4) (by decide +kernel))
  have hw5 := hts (.constantLong RX6 107 (44)) (List.mem_of_getElem? (i := 5) (by decide +kernel))
  have hf0 := hf
  clear hf
  have hl0 := hl
  clear hl
  have hB_66 :  F_X6_isDeed_66 M_beings l1 = some (rv) → ∀ ls : Array Slot, lv_has ls 2 [(0, .ref aM), (1, .int l1)] → W p l e rm_X6_isDeed s m ([.ref aM, .int l1] : List Value).toArray below meth c s.heap [] 0 0 Q (F0 m 66 ls []) := by
    intro   hf ls hl
    have hf := (F_X6_isDeed_66.eq_1 _ _).symm.trans hf
    refine lv_aload_n hx hb dX6_isDeed_66 rfl (lv_at hl 0 rfl) ?_
    refine lv_iload_n hx hb dX6_isDeed_67 rfl (lv_at hl 1 rfl) ?_
    refine lv_bipush (v := 10) hx hb dX6_isDeed_68 (by decide) ?_
    refine lv_irem hx hb dX6_isDeed_70 (by decide) ?_
    obtain ⟨q1, hq1, hf⟩ := sw_bs hf
    have hPc := hP.sub (ws' := [(aM, .inr (6, [.ref aM_page, .int M_pageMany, .ref aM_readDeeds, .int M_readMany, .int M_readBase, .int M_state, .int M_beings, .int M_number, .int M_deedsDone, .ref aM_rows, .ref aM_far, .ref aM_firsts, .ref aM_line, .int M_lined, .int M_toldMany, .ref aM_toldRows, .ref aM_parts, .int M_seedNow, .int M_keptNumber, .int M_keptBeings, .int M_keptDeeds, .int M_keptTold, .ref aM_keptToldRows, .long M_hash]))]) [0] rfl
    refine sw_rd (W.runV (As := [.int (l1 - l1 / (10 : Int32) * (10 : Int32))]) (rest := []) ⟨hx, hb, hml, hown, hts⟩ (k_X6_isBeing l dC dI cI cZ t0 aM aM_page aM_readDeeds aM_rows aM_far aM_firsts aM_line aM_toldRows aM_parts aM_keptToldRows M_pageMany M_readMany M_readBase M_state M_beings M_number M_deedsDone M_lined M_toldMany M_seedNow M_keptNumber M_keptBeings M_keptDeeds M_keptTold M_hash (l1 - l1 / (10 : Int32) * (10 : Int32)) q1 hq1) (cwV 1 hts gX6_isDeed_X6_isBeing rfl rfl rfl (by decide +kernel) ⟨Nat.le_of_ble_eq_true rfl, Nat.le_of_ble_eq_true rfl⟩) ⟨sw_PR_bl, va_recv hK hPc (ci := 6) (q0 := 0) rfl rfl, sw_PR_pre hK hPc hE hS⟩ rfl rfl hl.1 rfl (lv_room (Nat.le_of_ble_eq_true rfl)) dX6_isDeed_71 ⟨Nat.zero_le _, Nat.zero_le _⟩) ?_
    refine lv_if_eq (tgt := 81) hx hb dX6_isDeed_74 (by decide) (fun c1 => ?_) (fun c1 => ?_)
    · have hf := sw_ip c1 hf
      refine lv_iconst (v := 0) hx hb dX6_isDeed_81 (by decide) ?_
      subst hQ
      exact W.zret hx hb hr rfl (fun t ht hW => ⟨_, rfl, Option.some.inj hf, ht⟩) (fun _ h => absurd h List.not_mem_nil) dX6_isDeed_82 hlocks
    · have hf := sw_in c1 hf
      refine lv_iconst (v := 1) hx hb dX6_isDeed_77 (by decide) ?_
      refine lv_goto (tgt := 82) hx hb dX6_isDeed_78 (by decide) ?_
      subst hQ
      exact W.zret hx hb hr rfl (fun t ht hW => ⟨_, rfl, Option.some.inj hf, ht⟩) (fun _ h => absurd h List.not_mem_nil) dX6_isDeed_82 hlocks
  have hf := hf0
  have hl := hl0
  refine lv_iload_n hx hb dX6_isDeed_0 rfl (lv_at hl 1 rfl) ?_
  refine lv_i2l (v := (l1).toInt64) hx hb dX6_isDeed_1 rfl ?_
  refine lv_lconst (v := 0) hx hb dX6_isDeed_2 (by decide) ?_
  refine lv_ldc2 (v := 24) hx hb hown hw1 dX6_isDeed_3 ?_
  obtain ⟨q2, hq2, hf⟩ := sw_bs hf
  have hPc := hP.sub (ws' := []) [] rfl
  refine sw_rd (W.runS (As := [.long ((l1).toInt64), .long (0 : Int64), .long (24 : Int64)]) (rest := []) ⟨hx, hb, hml, hown, hts⟩ (k_X6_in l dC dI cI cZ t0 ((l1).toInt64) (0 : Int64) (24 : Int64) q2 hq2) (va_cwS 3 hts gX6_isDeed_X6_in rfl rfl rfl (by decide +kernel) ⟨Nat.le_of_ble_eq_true rfl, Nat.le_of_ble_eq_true rfl⟩) ⟨sw_PR_bl, sw_PR_pre hK hPc hE hS⟩ rfl rfl hl.1 rfl (lv_room (Nat.le_of_ble_eq_true rfl)) dX6_isDeed_6 ⟨Nat.zero_le _, Nat.zero_le _⟩) ?_
  refine lv_if_eq (tgt := 38) hx hb dX6_isDeed_9 (by decide) (fun c2 => ?_) (fun c2 => ?_)
  · have hf := sw_ip c2 hf
    refine lv_iload_n hx hb dX6_isDeed_38 rfl (lv_at hl 1 rfl) ?_
    refine lv_i2l (v := (l1).toInt64) hx hb dX6_isDeed_39 rfl ?_
    refine lv_ldc2 (v := 30) hx hb hown hw2 dX6_isDeed_40 ?_
    refine lv_ldc2 (v := 34) hx hb hown hw3 dX6_isDeed_43 ?_
    obtain ⟨q3, hq3, hf⟩ := sw_bs hf
    have hPc := hP.sub (ws' := []) [] rfl
    refine sw_rd (W.runS (As := [.long ((l1).toInt64), .long (30 : Int64), .long (34 : Int64)]) (rest := []) ⟨hx, hb, hml, hown, hts⟩ (k_X6_in l dC dI cI cZ t0 ((l1).toInt64) (30 : Int64) (34 : Int64) q3 hq3) (va_cwS 3 hts gX6_isDeed_X6_in rfl rfl rfl (by decide +kernel) ⟨Nat.le_of_ble_eq_true rfl, Nat.le_of_ble_eq_true rfl⟩) ⟨sw_PR_bl, sw_PR_pre hK hPc hE hS⟩ rfl rfl hl.1 rfl (lv_room (Nat.le_of_ble_eq_true rfl)) dX6_isDeed_46 ⟨Nat.zero_le _, Nat.zero_le _⟩) ?_
    refine lv_if_ne (tgt := 66) hx hb dX6_isDeed_49 (by decide) (fun c3 => ?_) (fun c3 => ?_)
    · have hf := sw_in c3 hf
      exact hB_66   hf ls (lv_sub hl [0, 1] rfl)
    · have hf := sw_ip c3 hf
      refine lv_iload_n hx hb dX6_isDeed_52 rfl (lv_at hl 1 rfl) ?_
      refine lv_i2l (v := (l1).toInt64) hx hb dX6_isDeed_53 rfl ?_
      refine lv_ldc2 (v := 40) hx hb hown hw4 dX6_isDeed_54 ?_
      refine lv_ldc2 (v := 44) hx hb hown hw5 dX6_isDeed_57 ?_
      obtain ⟨q4, hq4, hf⟩ := sw_bs hf
      have hPc := hP.sub (ws' := []) [] rfl
      refine sw_rd (W.runS (As := [.long ((l1).toInt64), .long (40 : Int64), .long (44 : Int64)]) (rest := []) ⟨hx, hb, hml, hown, hts⟩ (k_X6_in l dC dI cI cZ t0 ((l1).toInt64) (40 : Int64) (44 : Int64) q4 hq4) (va_cwS 3 hts gX6_isDeed_X6_in rfl rfl rfl (by decide +kernel) ⟨Nat.le_of_ble_eq_true rfl, Nat.le_of_ble_eq_true rfl⟩) ⟨sw_PR_bl, sw_PR_pre hK hPc hE hS⟩ rfl rfl hl.1 rfl (lv_room (Nat.le_of_ble_eq_true rfl)) dX6_isDeed_60 ⟨Nat.zero_le _, Nat.zero_le _⟩) ?_
      refine lv_if_eq (tgt := 81) hx hb dX6_isDeed_63 (by decide) (fun c4 => ?_) (fun c4 => ?_)
      · have hf := sw_ip c4 hf
        refine lv_iconst (v := 0) hx hb dX6_isDeed_81 (by decide) ?_
        subst hQ
        exact W.zret hx hb hr rfl (fun t ht hW => ⟨_, rfl, Option.some.inj hf, ht⟩) (fun _ h => absurd h List.not_mem_nil) dX6_isDeed_82 hlocks
      · have hf := sw_in c4 hf
        exact hB_66   hf ls (lv_sub hl [0, 1] rfl)
  · have hf := sw_in c2 hf
    refine lv_aload_n hx hb dX6_isDeed_12 rfl (lv_at hl 0 rfl) ?_
    refine lv_iload_n hx hb dX6_isDeed_13 rfl (lv_at hl 1 rfl) ?_
    refine lv_iconst (v := 5) hx hb dX6_isDeed_14 (by decide) ?_
    refine lv_idiv hx hb dX6_isDeed_15 (by decide) ?_
    obtain ⟨q5, hq5, hf⟩ := sw_bs hf
    have hPc := hP.sub (ws' := [(aM, .inr (6, [.ref aM_page, .int M_pageMany, .ref aM_readDeeds, .int M_readMany, .int M_readBase, .int M_state, .int M_beings, .int M_number, .int M_deedsDone, .ref aM_rows, .ref aM_far, .ref aM_firsts, .ref aM_line, .int M_lined, .int M_toldMany, .ref aM_toldRows, .ref aM_parts, .int M_seedNow, .int M_keptNumber, .int M_keptBeings, .int M_keptDeeds, .int M_keptTold, .ref aM_keptToldRows, .long M_hash]))]) [0] rfl
    refine sw_rd (W.runV (As := [.int (l1 / (5 : Int32))]) (rest := []) ⟨hx, hb, hml, hown, hts⟩ (k_X6_isBeing l dC dI cI cZ t0 aM aM_page aM_readDeeds aM_rows aM_far aM_firsts aM_line aM_toldRows aM_parts aM_keptToldRows M_pageMany M_readMany M_readBase M_state M_beings M_number M_deedsDone M_lined M_toldMany M_seedNow M_keptNumber M_keptBeings M_keptDeeds M_keptTold M_hash (l1 / (5 : Int32)) q5 hq5) (cwV 1 hts gX6_isDeed_X6_isBeing rfl rfl rfl (by decide +kernel) ⟨Nat.le_of_ble_eq_true rfl, Nat.le_of_ble_eq_true rfl⟩) ⟨sw_PR_bl, va_recv hK hPc (ci := 6) (q0 := 0) rfl rfl, sw_PR_pre hK hPc hE hS⟩ rfl rfl hl.1 rfl (lv_room (Nat.le_of_ble_eq_true rfl)) dX6_isDeed_16 ⟨Nat.zero_le _, Nat.zero_le _⟩) ?_
    refine lv_if_eq (tgt := 36) hx hb dX6_isDeed_19 (by decide) (fun c5 => ?_) (fun c5 => ?_)
    · have hf := sw_ip c5 hf
      refine lv_iconst (v := 0) hx hb dX6_isDeed_36 (by decide) ?_
      subst hQ
      exact W.zret hx hb hr rfl (fun t ht hW => ⟨_, rfl, Option.some.inj hf, ht⟩) (fun _ h => absurd h List.not_mem_nil) dX6_isDeed_37 hlocks
    · have hf := sw_in c5 hf
      refine lv_aload_n hx hb dX6_isDeed_22 rfl (lv_at hl 0 rfl) ?_
      refine lv_iload_n hx hb dX6_isDeed_23 rfl (lv_at hl 1 rfl) ?_
      refine lv_iconst (v := 5) hx hb dX6_isDeed_24 (by decide) ?_
      refine lv_irem hx hb dX6_isDeed_25 (by decide) ?_
      obtain ⟨q6, hq6, hf⟩ := sw_bs hf
      have hPc := hP.sub (ws' := [(aM, .inr (6, [.ref aM_page, .int M_pageMany, .ref aM_readDeeds, .int M_readMany, .int M_readBase, .int M_state, .int M_beings, .int M_number, .int M_deedsDone, .ref aM_rows, .ref aM_far, .ref aM_firsts, .ref aM_line, .int M_lined, .int M_toldMany, .ref aM_toldRows, .ref aM_parts, .int M_seedNow, .int M_keptNumber, .int M_keptBeings, .int M_keptDeeds, .int M_keptTold, .ref aM_keptToldRows, .long M_hash]))]) [0] rfl
      refine sw_rd (W.runV (As := [.int (l1 - l1 / (5 : Int32) * (5 : Int32))]) (rest := []) ⟨hx, hb, hml, hown, hts⟩ (k_X6_isBeing l dC dI cI cZ t0 aM aM_page aM_readDeeds aM_rows aM_far aM_firsts aM_line aM_toldRows aM_parts aM_keptToldRows M_pageMany M_readMany M_readBase M_state M_beings M_number M_deedsDone M_lined M_toldMany M_seedNow M_keptNumber M_keptBeings M_keptDeeds M_keptTold M_hash (l1 - l1 / (5 : Int32) * (5 : Int32)) q6 hq6) (cwV 1 hts gX6_isDeed_X6_isBeing rfl rfl rfl (by decide +kernel) ⟨Nat.le_of_ble_eq_true rfl, Nat.le_of_ble_eq_true rfl⟩) ⟨sw_PR_bl, va_recv hK hPc (ci := 6) (q0 := 0) rfl rfl, sw_PR_pre hK hPc hE hS⟩ rfl rfl hl.1 rfl (lv_room (Nat.le_of_ble_eq_true rfl)) dX6_isDeed_26 ⟨Nat.zero_le _, Nat.zero_le _⟩) ?_
      refine lv_if_eq (tgt := 36) hx hb dX6_isDeed_29 (by decide) (fun c6 => ?_) (fun c6 => ?_)
      · have hf := sw_ip c6 hf
        refine lv_iconst (v := 0) hx hb dX6_isDeed_36 (by decide) ?_
        subst hQ
        exact W.zret hx hb hr rfl (fun t ht hW => ⟨_, rfl, Option.some.inj hf, ht⟩) (fun _ h => absurd h List.not_mem_nil) dX6_isDeed_37 hlocks
      · have hf := sw_in c6 hf
        refine lv_iconst (v := 1) hx hb dX6_isDeed_32 (by decide) ?_
        refine lv_goto (tgt := 37) hx hb dX6_isDeed_33 (by decide) ?_
        subst hQ
        exact W.zret hx hb hr rfl (fun t ht hW => ⟨_, rfl, Option.some.inj hf, ht⟩) (fun _ h => absurd h List.not_mem_nil) dX6_isDeed_37 hlocks
abbrev rm_X6_done : Room := { frames := 4, cells := 0, slots := 0, locals := 95 }
set_option maxHeartbeats 1000000 in
set_option maxRecDepth 100000 in
theorem k_X6_done (l : Launch) (dC : Nat → ClassId) (dI : Nat → Nat → Nat) (cI cZ : ClassId) (t0 : Nat) (aM aM_page aM_readDeeds aM_rows aM_far aM_firsts aM_line aM_toldRows aM_parts aM_keptToldRows : Nat) (M_pageMany : Int32) (M_readMany : Int32) (M_readBase : Int32) (M_state : Int32) (M_beings : Int32) (M_number : Int32) (M_deedsDone : Int32) (M_lined : Int32) (M_toldMany : Int32) (M_seedNow : Int32) (M_keptNumber : Int32) (M_keptBeings : Int32) (M_keptDeeds : Int32) (M_keptTold : Int32) (M_hash : Int64) (M_rows : Nat → Int32) (l1 : Int32) (l2 : Int32) (rv : Int32)  (hf : F_X6_done M_beings M_rows l1 l2 = some (rv)) : Met l yX6_done wsX6_done rm_X6_done (sw_PR (dC, dI) t0 [(cI, .int), (cZ, .boolean)] [.ref aM, .int l1, .int l2] [(aM, .inr (6, [.ref aM_page, .int M_pageMany, .ref aM_readDeeds, .int M_readMany, .int M_readBase, .int M_state, .int M_beings, .int M_number, .int M_deedsDone, .ref aM_rows, .ref aM_far, .ref aM_firsts, .ref aM_line, .int M_lined, .int M_toldMany, .ref aM_toldRows, .ref aM_parts, .int M_seedNow, .int M_keptNumber, .int M_keptBeings, .int M_keptDeeds, .int M_keptTold, .ref aM_keptToldRows, .long M_hash])), (aM_rows, .inl (cI, 20, .inl M_rows))]) (vp_Si (fun r => r = rv)) 0 0 (fun _ => False) := by
  refine sw_metR (cc := cX6_done) (maxL := 5) (ret := (some .int)) (lv := [(0, .ref aM), (1, .int l1), (2, .int l2)]) (by decide) rfl (Nat.le_of_ble_eq_true rfl) rfl ?_
  intro p e s m below meth c Q hQ hx hb hr hts hown hlocks hml hP hK hE hS ls hl
  have hown : s.vm.findClass RX6 = some m.cls := hown
  have hf := (F_X6_done.eq_1 _ _ _ _).symm.trans hf
  have hw1 := hts (.fieldLink RX6 16 "SwallowedInTurnModel" "rows" "[I") (List.mem_of_getElem? (i := 1) (by decide +kernel))
  have iX6 : ∀ w ∈ u_ws RX6 TX6 24, w ∈ wsX6_done := by decide +kernel
  have hf0 := hf
  clear hf
  have hl0 := hl
  clear hl
  have hB_53 : ∀ (s1 : Int32) (s2 : Int32) (s3 : Int32), F_X6_done_53 M_beings M_rows s1 s2 s3 = some (rv) → ∀ ls : Array Slot, lv_has ls 5 [] → W p l e rm_X6_done s m ([.ref aM, .int l1, .int l2] : List Value).toArray below meth c s.heap [] 0 0 Q (F0 m 53 ls [.int s3, .int s2, .int s1, .ref aM]) := by
    intro s1 s2 s3  hf ls hl
    have hf := (F_X6_done_53.eq_1 _ _ _ _ _).symm.trans hf
    obtain ⟨q1, hq1, hf⟩ := sw_bs hf
    have hPc := hP.sub (ws' := [(aM, .inr (6, [.ref aM_page, .int M_pageMany, .ref aM_readDeeds, .int M_readMany, .int M_readBase, .int M_state, .int M_beings, .int M_number, .int M_deedsDone, .ref aM_rows, .ref aM_far, .ref aM_firsts, .ref aM_line, .int M_lined, .int M_toldMany, .ref aM_toldRows, .ref aM_parts, .int M_seedNow, .int M_keptNumber, .int M_keptBeings, .int M_keptDeeds, .int M_keptTold, .ref aM_keptToldRows, .long M_hash])), (aM_rows, .inl (cI, 20, .inl M_rows))]) [0, 1] rfl
    refine sw_rd (W.runV (As := [.int s1, .int s2, .int s3]) (rest := []) ⟨hx, hb, hml, hown, hts⟩ (k_X6_comeOut l dC dI cI cZ t0 aM aM_page aM_readDeeds aM_rows aM_far aM_firsts aM_line aM_toldRows aM_parts aM_keptToldRows M_pageMany M_readMany M_readBase M_state M_beings M_number M_deedsDone M_lined M_toldMany M_seedNow M_keptNumber M_keptBeings M_keptDeeds M_keptTold M_hash M_rows s1 s2 s3 q1 hq1) (cwV 3 hts gX6_done_X6_comeOut rfl rfl rfl (by decide +kernel) ⟨Nat.le_of_ble_eq_true rfl, Nat.le_of_ble_eq_true rfl⟩) ⟨sw_PR_bl, va_recv hK hPc (ci := 6) (q0 := 0) rfl rfl, sw_PR_pre hK hPc hE hS⟩ rfl rfl hl.1 rfl (lv_room (Nat.le_of_ble_eq_true rfl)) dX6_done_53 ⟨Nat.zero_le _, Nat.zero_le _⟩) ?_
    subst hQ
    exact W.iret hx hb hr (fun t ht hW => ⟨_, rfl, Option.some.inj hf, ht⟩) (fun _ h => absurd h List.not_mem_nil) dX6_done_56 hlocks
  have hf := hf0
  have hl := hl0
  refine lv_iload_n hx hb dX6_done_0 rfl (lv_at hl 2 rfl) ?_
  refine lv_bipush (v := 25) hx hb dX6_done_1 (by decide) ?_
  refine lv_icmp_ge (tgt := 18) hx hb dX6_done_3 (by decide) (fun c1 => ?_) (fun c1 => ?_)
  · have hf := sw_ip c1 hf
    refine lv_iload_n hx hb dX6_done_18 rfl (lv_at hl 2 rfl) ?_
    refine lv_bipush (v := 10) hx hb dX6_done_19 (by decide) ?_
    refine lv_irem hx hb dX6_done_21 (by decide) ?_
    refine lv_istore_n (lv' := [(3, .int (l2 - l2 / (10 : Int32) * (10 : Int32))), (0, .ref aM), (1, .int l1), (2, .int l2)]) hx hb dX6_done_22 rfl hl (by decide) rfl (fun ls hl => ?_)
    refine lv_aload_n hx hb dX6_done_23 rfl (lv_at hl 1 rfl) ?_
    refine va_get (D := (dC, dI)) (ci := 6) (v := .ref aM_rows) (C := RX6) (T := TX6) (N := 24) hx hb hts iX6 hown hK hP 0 rfl rfl 9 (by decide) hw1 (fun _ h9 => h9) rfl dX6_done_24 ?_
    refine lv_iconst (v := 4) hx hb dX6_done_27 (by decide) ?_
    refine lv_iload_n hx hb dX6_done_28 rfl (lv_at hl 0 rfl) ?_
    refine lv_imul hx hb dX6_done_29 ?_
    obtain ⟨hi2, hf⟩ := sw_ix_s hf
    refine va_iald hx hb hK hP 1 0 rfl rfl hi2 dX6_done_30 ?_
    refine lv_istore (lv' := [(4, .int (M_rows ((4 : Int32) * (l2 - l2 / (10 : Int32) * (10 : Int32))).toNatClampNeg)), (3, .int (l2 - l2 / (10 : Int32) * (10 : Int32))), (0, .ref aM), (1, .int l1), (2, .int l2)]) hx hb dX6_done_31 hl (by decide) rfl (fun ls hl => ?_)
    refine lv_iload_n hx hb dX6_done_33 rfl (lv_at hl 4 rfl) ?_
    refine lv_bipush (v := 40) hx hb dX6_done_34 (by decide) ?_
    refine lv_icmp_ge (tgt := 57) hx hb dX6_done_36 (by decide) (fun c2 => ?_) (fun c2 => ?_)
    · have hf := sw_ip c2 hf
      refine lv_iload hx hb dX6_done_57 (lv_at hl 0 rfl) ?_
      refine lv_iconst (v := 2) hx hb dX6_done_59 (by decide) ?_
      refine lv_icmp_eq (tgt := 69) hx hb dX6_done_60 (by decide) (fun c3 => ?_) (fun c3 => ?_)
      · have hf := sw_ip c3 hf
        refine lv_iconst (v := -1) hx hb dX6_done_69 (by decide) ?_
        refine lv_goto (tgt := 80) hx hb dX6_done_70 (by decide) ?_
        subst hQ
        exact W.iret hx hb hr (fun t ht hW => ⟨_, rfl, Option.some.inj hf, ht⟩) (fun _ h => absurd h List.not_mem_nil) dX6_done_80 hlocks
      · have hf := sw_in c3 hf
        refine lv_iload hx hb dX6_done_63 (lv_at hl 0 rfl) ?_
        refine lv_iconst (v := 4) hx hb dX6_done_65 (by decide) ?_
        refine lv_icmp_ne (tgt := 73) hx hb dX6_done_66 (by decide) (fun c4 => ?_) (fun c4 => ?_)
        · have hf := sw_in c4 hf
          refine lv_aload_n hx hb dX6_done_73 rfl (lv_at hl 2 rfl) ?_
          refine lv_iload_n hx hb dX6_done_74 rfl (lv_at hl 3 rfl) ?_
          refine lv_iload_n hx hb dX6_done_75 rfl (lv_at hl 1 rfl) ?_
          refine lv_iconst (v := 5) hx hb dX6_done_76 (by decide) ?_
          obtain ⟨q3, hq3, hf⟩ := sw_bs hf
          have hPc := hP.sub (ws' := [(aM, .inr (6, [.ref aM_page, .int M_pageMany, .ref aM_readDeeds, .int M_readMany, .int M_readBase, .int M_state, .int M_beings, .int M_number, .int M_deedsDone, .ref aM_rows, .ref aM_far, .ref aM_firsts, .ref aM_line, .int M_lined, .int M_toldMany, .ref aM_toldRows, .ref aM_parts, .int M_seedNow, .int M_keptNumber, .int M_keptBeings, .int M_keptDeeds, .int M_keptTold, .ref aM_keptToldRows, .long M_hash])), (aM_rows, .inl (cI, 20, .inl M_rows))]) [0, 1] rfl
          refine sw_rd (W.runV (As := [.int l1, .int (l2 - l2 / (10 : Int32) * (10 : Int32)), .int (5 : Int32)]) (rest := []) ⟨hx, hb, hml, hown, hts⟩ (k_X6_comeOut l dC dI cI cZ t0 aM aM_page aM_readDeeds aM_rows aM_far aM_firsts aM_line aM_toldRows aM_parts aM_keptToldRows M_pageMany M_readMany M_readBase M_state M_beings M_number M_deedsDone M_lined M_toldMany M_seedNow M_keptNumber M_keptBeings M_keptDeeds M_keptTold M_hash M_rows l1 (l2 - l2 / (10 : Int32) * (10 : Int32)) (5 : Int32) q3 hq3) (cwV 3 hts gX6_done_X6_comeOut rfl rfl rfl (by decide +kernel) ⟨Nat.le_of_ble_eq_true rfl, Nat.le_of_ble_eq_true rfl⟩) ⟨sw_PR_bl, va_recv hK hPc (ci := 6) (q0 := 0) rfl rfl, sw_PR_pre hK hPc hE hS⟩ rfl rfl hl.1 rfl (lv_room (Nat.le_of_ble_eq_true rfl)) dX6_done_77 ⟨Nat.zero_le _, Nat.zero_le _⟩) ?_
          subst hQ
          exact W.iret hx hb hr (fun t ht hW => ⟨_, rfl, Option.some.inj hf, ht⟩) (fun _ h => absurd h List.not_mem_nil) dX6_done_80 hlocks
        · have hf := sw_ip c4 hf
          refine lv_iconst (v := -1) hx hb dX6_done_69 (by decide) ?_
          refine lv_goto (tgt := 80) hx hb dX6_done_70 (by decide) ?_
          subst hQ
          exact W.iret hx hb hr (fun t ht hW => ⟨_, rfl, Option.some.inj hf, ht⟩) (fun _ h => absurd h List.not_mem_nil) dX6_done_80 hlocks
    · have hf := sw_in c2 hf
      refine lv_aload_n hx hb dX6_done_39 rfl (lv_at hl 2 rfl) ?_
      refine lv_iload_n hx hb dX6_done_40 rfl (lv_at hl 3 rfl) ?_
      refine lv_iload_n hx hb dX6_done_41 rfl (lv_at hl 1 rfl) ?_
      refine lv_iload hx hb dX6_done_42 (lv_at hl 0 rfl) ?_
      refine lv_iconst (v := 3) hx hb dX6_done_44 (by decide) ?_
      refine lv_icmp_ne (tgt := 52) hx hb dX6_done_45 (by decide) (fun c5 => ?_) (fun c5 => ?_)
      · have hf := sw_in c5 hf
        refine lv_iconst (v := 1) hx hb dX6_done_52 (by decide) ?_
        exact hB_53 l1 (l2 - l2 / (10 : Int32) * (10 : Int32)) (1 : Int32)  hf ls (lv_sub hl [] rfl)
      · have hf := sw_ip c5 hf
        refine lv_iconst (v := 2) hx hb dX6_done_48 (by decide) ?_
        refine lv_goto (tgt := 53) hx hb dX6_done_49 (by decide) ?_
        exact hB_53 l1 (l2 - l2 / (10 : Int32) * (10 : Int32)) (2 : Int32)  hf ls (lv_sub hl [] rfl)
  · have hf := sw_in c1 hf
    refine lv_aload_n hx hb dX6_done_6 rfl (lv_at hl 0 rfl) ?_
    refine lv_iload_n hx hb dX6_done_7 rfl (lv_at hl 1 rfl) ?_
    refine lv_iload_n hx hb dX6_done_8 rfl (lv_at hl 2 rfl) ?_
    refine lv_iconst (v := 5) hx hb dX6_done_9 (by decide) ?_
    refine lv_idiv hx hb dX6_done_10 (by decide) ?_
    refine lv_iload_n hx hb dX6_done_11 rfl (lv_at hl 2 rfl) ?_
    refine lv_iconst (v := 5) hx hb dX6_done_12 (by decide) ?_
    refine lv_irem hx hb dX6_done_13 (by decide) ?_
    obtain ⟨q4, hq4, hf⟩ := sw_bs hf
    have hPc := hP.sub (ws' := [(aM, .inr (6, [.ref aM_page, .int M_pageMany, .ref aM_readDeeds, .int M_readMany, .int M_readBase, .int M_state, .int M_beings, .int M_number, .int M_deedsDone, .ref aM_rows, .ref aM_far, .ref aM_firsts, .ref aM_line, .int M_lined, .int M_toldMany, .ref aM_toldRows, .ref aM_parts, .int M_seedNow, .int M_keptNumber, .int M_keptBeings, .int M_keptDeeds, .int M_keptTold, .ref aM_keptToldRows, .long M_hash])), (aM_rows, .inl (cI, 20, .inl M_rows))]) [0, 1] rfl
    refine sw_rd (W.runV (As := [.int l1, .int (l2 / (5 : Int32)), .int (l2 - l2 / (5 : Int32) * (5 : Int32))]) (rest := []) ⟨hx, hb, hml, hown, hts⟩ (k_X6_swallowed l dC dI cI cZ t0 aM aM_page aM_readDeeds aM_rows aM_far aM_firsts aM_line aM_toldRows aM_parts aM_keptToldRows M_pageMany M_readMany M_readBase M_state M_beings M_number M_deedsDone M_lined M_toldMany M_seedNow M_keptNumber M_keptBeings M_keptDeeds M_keptTold M_hash M_rows l1 (l2 / (5 : Int32)) (l2 - l2 / (5 : Int32) * (5 : Int32)) q4 hq4) (cwV 3 hts gX6_done_X6_swallowed rfl rfl rfl (by decide +kernel) ⟨Nat.le_of_ble_eq_true rfl, Nat.le_of_ble_eq_true rfl⟩) ⟨sw_PR_bl, va_recv hK hPc (ci := 6) (q0 := 0) rfl rfl, sw_PR_pre hK hPc hE hS⟩ rfl rfl hl.1 rfl (lv_room (Nat.le_of_ble_eq_true rfl)) dX6_done_14 ⟨Nat.zero_le _, Nat.zero_le _⟩) ?_
    subst hQ
    exact W.iret hx hb hr (fun t ht hW => ⟨_, rfl, Option.some.inj hf, ht⟩) (fun _ h => absurd h List.not_mem_nil) dX6_done_17 hlocks
