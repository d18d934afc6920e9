abbrev rm_X3_length : Room := { frames := 0, cells := 0, slots := 0, locals := 0 }
set_option maxHeartbeats 1000000 in
set_option maxRecDepth 100000 in
theorem k_X3_length (l : Launch) (dC : Nat → ClassId) (dI : Nat → Nat → Nat) (cI cZ : ClassId) (t0 : Nat) (aP aP_letters aP_deeds : Nat) (P_length : Int32) (P_read : Int32) (P_begun : Int32) (P_figuresDue : Int32) (P_whole : Int32) (rv : Int32)  (hf : F_X3_length P_length = some (rv)) : Met l yX3_length wsX3_length rm_X3_length (sw_PR (dC, dI) t0 [(cI, .int), (cZ, .boolean)] [.ref aP] [(aP, .inr (3, [.ref aP_letters, .int P_length, .ref aP_deeds, .int P_read, .int P_begun, .int P_figuresDue, .int P_whole]))]) (vp_Si (fun r => r = rv)) 0 0 (fun _ => False) := by
  refine sw_metR (cc := cX3_length) (maxL := 1) (ret := (some .int)) (lv := [(0, .ref aP)]) (by decide) rfl (Nat.le_of_ble_eq_true rfl) rfl ?_
  intro p e s m below meth c Q hQ hx hb hr hts hown hlocks hml hP hK hE hS ls hl
  have hown : s.vm.findClass RX3 = some m.cls := hown
  have hf := (F_X3_length.eq_1 _).symm.trans hf
  have hw1 := hts (.fieldLink RX3 18 "SwallowedInTurn$Page" "length" "I") (List.mem_of_getElem? (i := 1) (by decide +kernel))
  have iX3 : ∀ w ∈ u_ws RX3 TX3 7, w ∈ wsX3_length := by decide +kernel
  refine lv_aload_n hx hb dX3_length_0 rfl (lv_at hl 0 rfl) ?_
  refine va_get (D := (dC, dI)) (ci := 3) (v := .int P_length) (C := RX3) (T := TX3) (N := 7) hx hb hts iX3 hown hK hP 0 rfl rfl 1 (by decide) hw1 (fun _ h9 => h9) rfl dX3_length_1 ?_
  subst hQ
  exact W.iret hx hb hr (fun t ht hW => ⟨_, rfl, Option.some.inj hf, ht⟩) (fun _ h => absurd h List.not_mem_nil) dX3_length_4 hlocks
abbrev rm_X3_letterAt : Room := { frames := 0, cells := 0, slots := 0, locals := 0 }
set_option maxHeartbeats 1000000 in
set_option maxRecDepth 100000 in
theorem k_X3_letterAt (l : Launch) (dC : Nat → ClassId) (dI : Nat → Nat → Nat) (cI cZ : ClassId) (t0 : Nat) (aP aP_letters aP_deeds : Nat) (P_length : Int32) (P_read : Int32) (P_begun : Int32) (P_figuresDue : Int32) (P_whole : Int32) (P_letters : Nat → Int32) (l1 : Int32) (rv : Int32)  (hf : F_X3_letterAt P_letters l1 = some (rv)) : Met l yX3_letterAt wsX3_letterAt rm_X3_letterAt (sw_PR (dC, dI) t0 [(cI, .int), (cZ, .boolean)] [.ref aP, .int l1] [(aP, .inr (3, [.ref aP_letters, .int P_length, .ref aP_deeds, .int P_read, .int P_begun, .int P_figuresDue, .int P_whole])), (aP_letters, .inl (cI, 40, .inl P_letters))]) (vp_Si (fun r => r = rv)) 0 0 (fun _ => False) := by
  refine sw_metR (cc := cX3_letterAt) (maxL := 2) (ret := (some .int)) (lv := [(0, .ref aP), (1, .int l1)]) (by decide) rfl (Nat.le_of_ble_eq_true rfl) rfl ?_
  intro p e s m below meth c Q hQ hx hb hr hts hown hlocks hml hP hK hE hS ls hl
  have hown : s.vm.findClass RX3 = some m.cls := hown
  have hf := (F_X3_letterAt.eq_1 _ _).symm.trans hf
  have hw1 := hts (.fieldLink RX3 9 "SwallowedInTurn$Page" "letters" "[I") (List.mem_of_getElem? (i := 1) (by decide +kernel))
  have iX3 : ∀ w ∈ u_ws RX3 TX3 7, w ∈ wsX3_letterAt := by decide +kernel
  refine lv_iload_n hx hb dX3_letterAt_0 rfl (lv_at hl 1 rfl) ?_
  refine lv_if_lt (tgt := 22) hx hb dX3_letterAt_1 (by decide) (fun c1 => ?_) (fun c1 => ?_)
  · have hf := sw_ip c1 hf
    refine lv_iconst (v := 0) hx hb dX3_letterAt_22 (by decide) ?_
    subst hQ
    exact W.iret hx hb hr (fun t ht hW => ⟨_, rfl, Option.some.inj hf, ht⟩) (fun _ h => absurd h List.not_mem_nil) dX3_letterAt_23 hlocks
  · have hf := sw_in c1 hf
    refine lv_iload_n hx hb dX3_letterAt_4 rfl (lv_at hl 1 rfl) ?_
    refine lv_aload_n hx hb dX3_letterAt_5 rfl (lv_at hl 0 rfl) ?_
    refine va_get (D := (dC, dI)) (ci := 3) (v := .ref aP_letters) (C := RX3) (T := TX3) (N := 7) hx hb hts iX3 hown hK hP 0 rfl rfl 0 (by decide) hw1 (fun _ h9 => h9) rfl dX3_letterAt_6 ?_
    refine va_alen hx hb hK hP 1 0 rfl rfl (v := 40) (show Int32.ofNat 40 = 40 by decide +kernel) dX3_letterAt_9 ?_
    refine lv_icmp_ge (tgt := 22) hx hb dX3_letterAt_10 (by decide) (fun c2 => ?_) (fun c2 => ?_)
    · have hf := sw_ip c2 hf
      refine lv_iconst (v := 0) hx hb dX3_letterAt_22 (by decide) ?_
      subst hQ
      exact W.iret hx hb hr (fun t ht hW => ⟨_, rfl, Option.some.inj hf, ht⟩) (fun _ h => absurd h List.not_mem_nil) dX3_letterAt_23 hlocks
    · have hf := sw_in c2 hf
      refine lv_aload_n hx hb dX3_letterAt_13 rfl (lv_at hl 0 rfl) ?_
      refine va_get (D := (dC, dI)) (ci := 3) (v := .ref aP_letters) (C := RX3) (T := TX3) (N := 7) hx hb hts iX3 hown hK hP 0 rfl rfl 0 (by decide) hw1 (fun _ h9 => h9) rfl dX3_letterAt_14 ?_
      refine lv_iload_n hx hb dX3_letterAt_17 rfl (lv_at hl 1 rfl) ?_
      obtain ⟨hi1, hf⟩ := sw_ix_s hf
      refine va_iald hx hb hK hP 1 0 rfl rfl hi1 dX3_letterAt_18 ?_
      refine lv_goto (tgt := 23) hx hb dX3_letterAt_19 (by decide) ?_
      subst hQ
      exact W.iret hx hb hr (fun t ht hW => ⟨_, rfl, Option.some.inj hf, ht⟩) (fun _ h => absurd h List.not_mem_nil) dX3_letterAt_23 hlocks
abbrev rm_X3_write : Room := { frames := 0, cells := 0, slots := 0, locals := 0 }
set_option maxHeartbeats 1000000 in
set_option maxRecDepth 100000 in
theorem k_X3_write (l : Launch) (dC : Nat → ClassId) (dI : Nat → Nat → Nat) (cI cZ : ClassId) (t0 : Nat) (sz : Nat) (aP aP_letters aP_deeds : Nat) (P_length : Int32) (P_read : Int32) (P_begun : Int32) (P_figuresDue : Int32) (P_whole : Int32) (P_letters : Nat → Int32) (l1 : Int32) (rv : Int32) (P_length' : Int32) (P_letters' : Nat → Int32) (hf : F_X3_write P_length P_letters l1 = some (rv, P_length', P_letters')) : Met l yX3_write wsX3_write rm_X3_write (sw_PW (dC, dI) t0 [(cI, .int), (cZ, .boolean)] [.ref aP, .int l1] [(aP, .inr (3, [.ref aP_letters, .int P_length, .ref aP_deeds, .int P_read, .int P_begun, .int P_figuresDue, .int P_whole])), (aP_letters, .inl (cI, 40, .inl P_letters))] sz) (va_Qi (fun r (_ : Unit) => r = rv) (fun _ t => sw_B (dC, dI) [(cI, .int), (cZ, .boolean)] [(aP, .inr (3, [.ref aP_letters, .int P_length', .ref aP_deeds, .int P_read, .int P_begun, .int P_figuresDue, .int P_whole])), (aP_letters, .inl (cI, 40, .inl P_letters'))] (va_A [(aP, .inr (3, [.ref aP_letters, .int P_length, .ref aP_deeds, .int P_read, .int P_begun, .int P_figuresDue, .int P_whole])), (aP_letters, .inl (cI, 40, .inl P_letters))] sz) t) (va_A [(aP, .inr (3, [.ref aP_letters, .int P_length, .ref aP_deeds, .int P_read, .int P_begun, .int P_figuresDue, .int P_whole])), (aP_letters, .inl (cI, 40, .inl P_letters))] sz)) 0 0 (va_A [(aP, .inr (3, [.ref aP_letters, .int P_length, .ref aP_deeds, .int P_read, .int P_begun, .int P_figuresDue, .int P_whole])), (aP_letters, .inl (cI, 40, .inl P_letters))] sz) := by
  refine sw_metW (cc := cX3_write) (maxL := 2) (ret := (some .boolean)) (lv := [(0, .ref aP), (1, .int l1)]) (by decide) rfl (Nat.le_of_ble_eq_true rfl) rfl ?_
  intro p e s m below meth c Q A hsz hAe hQ hx hb hr hts hown hlocks hml hmn hP hK hD hE hS hA ls hl
  have hS0 := hS
  have hown : s.vm.findClass RX3 = some m.cls := hown
  have hf := (F_X3_write.eq_1 _ _ _).symm.trans hf
  have hw1 := hts (.fieldLink RX3 18 "SwallowedInTurn$Page" "length" "I") (List.mem_of_getElem? (i := 1) (by decide +kernel))
  have iX3 : ∀ w ∈ u_ws RX3 TX3 7, w ∈ wsX3_write := by decide +kernel
  have hw2 := hts (.fieldLink RX3 9 "SwallowedInTurn$Page" "letters" "[I") (List.mem_of_getElem? (i := 2) (by decide +kernel))
  obtain ⟨H, hH⟩ : ∃ H, H = s.heap := ⟨_, rfl⟩
  obtain ⟨locs, hlo⟩ : ∃ locs : List Loc, locs = [] := ⟨_, rfl⟩
  rw [← hH] at hP
  have hS : va_S A s.heap H locs := by rw [hH, hlo]; exact hS0
  suffices hgo : W p l e rm_X3_write s m ([.ref aP, .int l1] : List Value).toArray below meth c H locs 0 0 Q (F0 m 0 ls []) by rw [hH, hlo] at hgo; exact hgo
  refine lv_aload_n hx hb dX3_write_0 rfl (lv_at hl 0 rfl) ?_
  refine va_get (D := (dC, dI)) (ci := 3) (v := .int P_length) (C := RX3) (T := TX3) (N := 7) hx hb hts iX3 hown hK hP 0 rfl rfl 1 (by decide) hw1 (fun _ h9 => h9) rfl dX3_write_1 ?_
  refine lv_if_lt (tgt := 19) hx hb dX3_write_4 (by decide) (fun c1 => ?_) (fun c1 => ?_)
  · have hf := sw_ip c1 hf
    refine lv_iconst (v := 0) hx hb dX3_write_19 (by decide) ?_
    subst hQ hAe
    cases hf
    exact W.zret hx hb hr rfl (fun t ht hW => ⟨⟨_, (), rfl, rfl, ⟨by rw [ht]; exact hP, va_K.moved hW.alike hK, hD⟩⟩, hS.F ht⟩) hS.2.2 dX3_write_20 hlocks
  · have hf := sw_in c1 hf
    refine lv_aload_n hx hb dX3_write_7 rfl (lv_at hl 0 rfl) ?_
    refine va_get (D := (dC, dI)) (ci := 3) (v := .int P_length) (C := RX3) (T := TX3) (N := 7) hx hb hts iX3 hown hK hP 0 rfl rfl 1 (by decide) hw1 (fun _ h9 => h9) rfl dX3_write_8 ?_
    refine lv_aload_n hx hb dX3_write_11 rfl (lv_at hl 0 rfl) ?_
    refine va_get (D := (dC, dI)) (ci := 3) (v := .ref aP_letters) (C := RX3) (T := TX3) (N := 7) hx hb hts iX3 hown hK hP 0 rfl rfl 0 (by decide) hw2 (fun _ h9 => h9) rfl dX3_write_12 ?_
    refine va_alen hx hb hK hP 1 0 rfl rfl (v := 40) (show Int32.ofNat 40 = 40 by decide +kernel) dX3_write_15 ?_
    refine lv_icmp_lt (tgt := 21) hx hb dX3_write_16 (by decide) (fun c2 => ?_) (fun c2 => ?_)
    · have hf := sw_ip c2 hf
      refine lv_aload_n hx hb dX3_write_21 rfl (lv_at hl 0 rfl) ?_
      refine va_get (D := (dC, dI)) (ci := 3) (v := .ref aP_letters) (C := RX3) (T := TX3) (N := 7) hx hb hts iX3 hown hK hP 0 rfl rfl 0 (by decide) hw2 (fun _ h9 => h9) rfl dX3_write_22 ?_
      refine lv_aload_n hx hb dX3_write_25 rfl (lv_at hl 0 rfl) ?_
      refine va_get (D := (dC, dI)) (ci := 3) (v := .int P_length) (C := RX3) (T := TX3) (N := 7) hx hb hts iX3 hown hK hP 0 rfl rfl 1 (by decide) hw1 (fun _ h9 => h9) rfl dX3_write_26 ?_
      refine lv_iload_n hx hb dX3_write_29 rfl (lv_at hl 1 rfl) ?_
      obtain ⟨hi1, hf⟩ := sw_ix_s hf
      refine va_iast hx hb hK hP hD hS 1 0 rfl rfl hi1 dX3_write_30 (fun H locs hP hD hS => ?_)
      have hP : va_P (dC, dI) vwCl [(aP, .inr (3, [.ref aP_letters, .int P_length, .ref aP_deeds, .int P_read, .int P_begun, .int P_figuresDue, .int P_whole])), (aP_letters, .inl (cI, 40, .inl (upd P_letters P_length.toNatClampNeg l1)))] H := hP
      have hD : va_D A [(aP, .inr (3, [.ref aP_letters, .int P_length, .ref aP_deeds, .int P_read, .int P_begun, .int P_figuresDue, .int P_whole])), (aP_letters, .inl (cI, 40, .inl (upd P_letters P_length.toNatClampNeg l1)))] := hD
      refine lv_aload_n hx hb dX3_write_31 rfl (lv_at hl 0 rfl) ?_
      refine lv_dup hx hb dX3_write_32 rfl ?_
      refine va_get (D := (dC, dI)) (ci := 3) (v := .int P_length) (C := RX3) (T := TX3) (N := 7) hx hb hts iX3 hown hK hP 0 rfl rfl 1 (by decide) hw1 (fun _ h9 => h9) rfl dX3_write_33 ?_
      refine lv_iconst (v := 1) hx hb dX3_write_36 (by decide) ?_
      refine lv_iadd hx hb dX3_write_37 ?_
      refine va_put (D := (dC, dI)) (ci := 3) (v := .int (P_length + (1 : Int32))) (ty := .int) (C := RX3) (T := TX3) (N := 7) hx hb hts iX3 tyX3 tyX3_ok nmX3 hown hK hP hD hS 0 rfl rfl 1 (by decide) hw1 (fun _ h9 => h9) rfl (by decide +kernel) rfl rfl (Nat.le_of_ble_eq_true rfl) dX3_write_38 (fun H locs hP hD hS => ?_)
      have hP : va_P (dC, dI) vwCl [(aP, .inr (3, [.ref aP_letters, .int (P_length + (1 : Int32)), .ref aP_deeds, .int P_read, .int P_begun, .int P_figuresDue, .int P_whole])), (aP_letters, .inl (cI, 40, .inl (upd P_letters P_length.toNatClampNeg l1)))] H := hP
      have hD : va_D A [(aP, .inr (3, [.ref aP_letters, .int (P_length + (1 : Int32)), .ref aP_deeds, .int P_read, .int P_begun, .int P_figuresDue, .int P_whole])), (aP_letters, .inl (cI, 40, .inl (upd P_letters P_length.toNatClampNeg l1)))] := hD
      refine lv_iconst (v := 1) hx hb dX3_write_41 (by decide) ?_
      subst hQ hAe
      cases hf
      exact W.zret hx hb hr rfl (fun t ht hW => ⟨⟨_, (), rfl, rfl, ⟨by rw [ht]; exact hP, va_K.moved hW.alike hK, hD⟩⟩, hS.F ht⟩) hS.2.2 dX3_write_42 hlocks
    · have hf := sw_in c2 hf
      refine lv_iconst (v := 0) hx hb dX3_write_19 (by decide) ?_
      subst hQ hAe
      cases hf
      exact W.zret hx hb hr rfl (fun t ht hW => ⟨⟨_, (), rfl, rfl, ⟨by rw [ht]; exact hP, va_K.moved hW.alike hK, hD⟩⟩, hS.F ht⟩) hS.2.2 dX3_write_20 hlocks
abbrev rm_X3_clear : Room := { frames := 0, cells := 0, slots := 0, locals := 0 }
set_option maxHeartbeats 1000000 in
set_option maxRecDepth 100000 in
theorem k_X3_clear (l : Launch) (dC : Nat → ClassId) (dI : Nat → Nat → Nat) (cI cZ : ClassId) (t0 : Nat) (sz : Nat) (aP aP_letters aP_deeds : Nat) (P_length : Int32) (P_read : Int32) (P_begun : Int32) (P_figuresDue : Int32) (P_whole : Int32) (rv : Int32) (P_length' : Int32) (hf : F_X3_clear P_length = some (rv, P_length')) : Met l yX3_clear wsX3_clear rm_X3_clear (sw_PW (dC, dI) t0 [(cI, .int), (cZ, .boolean)] [.ref aP] [(aP, .inr (3, [.ref aP_letters, .int P_length, .ref aP_deeds, .int P_read, .int P_begun, .int P_figuresDue, .int P_whole]))] sz) (va_Qi (fun r (_ : Unit) => r = rv) (fun _ t => sw_B (dC, dI) [(cI, .int), (cZ, .boolean)] [(aP, .inr (3, [.ref aP_letters, .int P_length', .ref aP_deeds, .int P_read, .int P_begun, .int P_figuresDue, .int P_whole]))] (va_A [(aP, .inr (3, [.ref aP_letters, .int P_length, .ref aP_deeds, .int P_read, .int P_begun, .int P_figuresDue, .int P_whole]))] sz) t) (va_A [(aP, .inr (3, [.ref aP_letters, .int P_length, .ref aP_deeds, .int P_read, .int P_begun, .int P_figuresDue, .int P_whole]))] sz)) 0 0 (va_A [(aP, .inr (3, [.ref aP_letters, .int P_length, .ref aP_deeds, .int P_read, .int P_begun, .int P_figuresDue, .int P_whole]))] sz) := by
  refine sw_metW (cc := cX3_clear) (maxL := 2) (ret := (some .int)) (lv := [(0, .ref aP)]) (by decide) rfl (Nat.le_of_ble_eq_true rfl) rfl ?_
  intro p e s m below meth c Q A hsz hAe hQ hx hb hr hts hown hlocks hml hmn hP hK hD hE hS hA ls hl
  have hS0 := hS
  have hown : s.vm.findClass RX3 = some m.cls := hown
  have hf := (F_X3_clear.eq_1 _).symm.trans hf
  have hw1 := hts (.fieldLink RX3 18 "SwallowedInTurn$Page" "length" "I") (List.mem_of_getElem? (i := 1) (by decide +kernel))
  have iX3 : ∀ w ∈ u_ws RX3 TX3 7, w ∈ wsX3_clear := by decide +kernel
  obtain ⟨H, hH⟩ : ∃ H, H = s.heap := ⟨_, rfl⟩
  obtain ⟨locs, hlo⟩ : ∃ locs : List Loc, locs = [] := ⟨_, rfl⟩
  rw [← hH] at hP
  have hS : va_S A s.heap H locs := by rw [hH, hlo]; exact hS0
  suffices hgo : W p l e rm_X3_clear s m ([.ref aP] : List Value).toArray below meth c H locs 0 0 Q (F0 m 0 ls []) by rw [hH, hlo] at hgo; exact hgo
  refine lv_aload_n hx hb dX3_clear_0 rfl (lv_at hl 0 rfl) ?_
  refine va_get (D := (dC, dI)) (ci := 3) (v := .int P_length) (C := RX3) (T := TX3) (N := 7) hx hb hts iX3 hown hK hP 0 rfl rfl 1 (by decide) hw1 (fun _ h9 => h9) rfl dX3_clear_1 ?_
  refine lv_istore_n (lv' := [(1, .int P_length), (0, .ref aP)]) hx hb dX3_clear_4 rfl hl (by decide) rfl (fun ls hl => ?_)
  refine lv_aload_n hx hb dX3_clear_5 rfl (lv_at hl 1 rfl) ?_
  refine lv_iconst (v := 0) hx hb dX3_clear_6 (by decide) ?_
  refine va_put (D := (dC, dI)) (ci := 3) (v := .int (0 : Int32)) (ty := .int) (C := RX3) (T := TX3) (N := 7) hx hb hts iX3 tyX3 tyX3_ok nmX3 hown hK hP hD hS 0 rfl rfl 1 (by decide) hw1 (fun _ h9 => h9) rfl (by decide +kernel) rfl rfl (Nat.le_of_ble_eq_true rfl) dX3_clear_7 (fun H locs hP hD hS => ?_)
  have hP : va_P (dC, dI) vwCl [(aP, .inr (3, [.ref aP_letters, .int (0 : Int32), .ref aP_deeds, .int P_read, .int P_begun, .int P_figuresDue, .int P_whole]))] H := hP
  have hD : va_D A [(aP, .inr (3, [.ref aP_letters, .int (0 : Int32), .ref aP_deeds, .int P_read, .int P_begun, .int P_figuresDue, .int P_whole]))] := hD
  refine lv_iload_n hx hb dX3_clear_10 rfl (lv_at hl 0 rfl) ?_
  subst hQ hAe
  cases hf
  exact W.iret hx hb hr (fun t ht hW => ⟨⟨_, (), rfl, rfl, ⟨by rw [ht]; exact hP, va_K.moved hW.alike hK, hD⟩⟩, hS.F ht⟩) hS.2.2 dX3_clear_11 hlocks
abbrev rm_X3_deeds : Room := { frames := 0, cells := 0, slots := 0, locals := 0 }
set_option maxHeartbeats 1000000 in
set_option maxRecDepth 100000 in
theorem k_X3_deeds (l : Launch) (dC : Nat → ClassId) (dI : Nat → Nat → Nat) (cI cZ : ClassId) (t0 : Nat) (aP aP_letters aP_deeds : Nat) (P_length : Int32) (P_read : Int32) (P_begun : Int32) (P_figuresDue : Int32) (P_whole : Int32) (rv : Int32)  (hf : F_X3_deeds P_read = some (rv)) : Met l yX3_deeds wsX3_deeds rm_X3_deeds (sw_PR (dC, dI) t0 [(cI, .int), (cZ, .boolean)] [.ref aP] [(aP, .inr (3, [.ref aP_letters, .int P_length, .ref aP_deeds, .int P_read, .int P_begun, .int P_figuresDue, .int P_whole]))]) (vp_Si (fun r => r = rv)) 0 0 (fun _ => False) := by
  refine sw_metR (cc := cX3_deeds) (maxL := 1) (ret := (some .int)) (lv := [(0, .ref aP)]) (by decide) rfl (Nat.le_of_ble_eq_true rfl) rfl ?_
  intro p e s m below meth c Q hQ hx hb hr hts hown hlocks hml hP hK hE hS ls hl
  have hown : s.vm.findClass RX3 = some m.cls := hown
  have hf := (F_X3_deeds.eq_1 _).symm.trans hf
  have hw1 := hts (.fieldLink RX3 22 "SwallowedInTurn$Page" "read" "I") (List.mem_of_getElem? (i := 1) (by decide +kernel))
  have iX3 : ∀ w ∈ u_ws RX3 TX3 7, w ∈ wsX3_deeds := by decide +kernel
  refine lv_aload_n hx hb dX3_deeds_0 rfl (lv_at hl 0 rfl) ?_
  refine va_get (D := (dC, dI)) (ci := 3) (v := .int P_read) (C := RX3) (T := TX3) (N := 7) hx hb hts iX3 hown hK hP 0 rfl rfl 3 (by decide) hw1 (fun _ h9 => h9) rfl dX3_deeds_1 ?_
  subst hQ
  exact W.iret hx hb hr (fun t ht hW => ⟨_, rfl, Option.some.inj hf, ht⟩) (fun _ h => absurd h List.not_mem_nil) dX3_deeds_4 hlocks
abbrev rm_X3_deedAt : Room := { frames := 0, cells := 0, slots := 0, locals := 0 }
set_option maxHeartbeats 1000000 in
set_option maxRecDepth 100000 in
theorem k_X3_deedAt (l : Launch) (dC : Nat → ClassId) (dI : Nat → Nat → Nat) (cI cZ : ClassId) (t0 : Nat) (aP aP_letters aP_deeds : Nat) (P_length : Int32) (P_read : Int32) (P_begun : Int32) (P_figuresDue : Int32) (P_whole : Int32) (P_deeds : Nat → Int32) (l1 : Int32) (rv : Int32)  (hf : F_X3_deedAt P_deeds l1 = some (rv)) : Met l yX3_deedAt wsX3_deedAt rm_X3_deedAt (sw_PR (dC, dI) t0 [(cI, .int), (cZ, .boolean)] [.ref aP, .int l1] [(aP, .inr (3, [.ref aP_letters, .int P_length, .ref aP_deeds, .int P_read, .int P_begun, .int P_figuresDue, .int P_whole])), (aP_deeds, .inl (cI, 10, .inl P_deeds))]) (vp_Si (fun r => r = rv)) 0 0 (fun _ => False) := by
  refine sw_metR (cc := cX3_deedAt) (maxL := 2) (ret := (some .int)) (lv := [(0, .ref aP), (1, .int l1)]) (by decide) rfl (Nat.le_of_ble_eq_true rfl) rfl ?_
  intro p e s m below meth c Q hQ hx hb hr hts hown hlocks hml hP hK hE hS ls hl
  have hown : s.vm.findClass RX3 = some m.cls := hown
  have hf := (F_X3_deedAt.eq_1 _ _).symm.trans hf
  have hw1 := hts (.fieldLink RX3 15 "SwallowedInTurn$Page" "deeds" "[I") (List.mem_of_getElem? (i := 1) (by decide +kernel))
  have iX3 : ∀ w ∈ u_ws RX3 TX3 7, w ∈ wsX3_deedAt := by decide +kernel
  refine lv_iload_n hx hb dX3_deedAt_0 rfl (lv_at hl 1 rfl) ?_
  refine lv_if_lt (tgt := 22) hx hb dX3_deedAt_1 (by decide) (fun c1 => ?_) (fun c1 => ?_)
  · have hf := sw_ip c1 hf
    refine lv_iconst (v := -1) hx hb dX3_deedAt_22 (by decide) ?_
    subst hQ
    exact W.iret hx hb hr (fun t ht hW => ⟨_, rfl, Option.some.inj hf, ht⟩) (fun _ h => absurd h List.not_mem_nil) dX3_deedAt_23 hlocks
  · have hf := sw_in c1 hf
    refine lv_iload_n hx hb dX3_deedAt_4 rfl (lv_at hl 1 rfl) ?_
    refine lv_aload_n hx hb dX3_deedAt_5 rfl (lv_at hl 0 rfl) ?_
    refine va_get (D := (dC, dI)) (ci := 3) (v := .ref aP_deeds) (C := RX3) (T := TX3) (N := 7) hx hb hts iX3 hown hK hP 0 rfl rfl 2 (by decide) hw1 (fun _ h9 => h9) rfl dX3_deedAt_6 ?_
    refine va_alen hx hb hK hP 1 0 rfl rfl (v := 10) (show Int32.ofNat 10 = 10 by decide +kernel) dX3_deedAt_9 ?_
    refine lv_icmp_ge (tgt := 22) hx hb dX3_deedAt_10 (by decide) (fun c2 => ?_) (fun c2 => ?_)
    · have hf := sw_ip c2 hf
      refine lv_iconst (v := -1) hx hb dX3_deedAt_22 (by decide) ?_
      subst hQ
      exact W.iret hx hb hr (fun t ht hW => ⟨_, rfl, Option.some.inj hf, ht⟩) (fun _ h => absurd h List.not_mem_nil) dX3_deedAt_23 hlocks
    · have hf := sw_in c2 hf
      refine lv_aload_n hx hb dX3_deedAt_13 rfl (lv_at hl 0 rfl) ?_
      refine va_get (D := (dC, dI)) (ci := 3) (v := .ref aP_deeds) (C := RX3) (T := TX3) (N := 7) hx hb hts iX3 hown hK hP 0 rfl rfl 2 (by decide) hw1 (fun _ h9 => h9) rfl dX3_deedAt_14 ?_
      refine lv_iload_n hx hb dX3_deedAt_17 rfl (lv_at hl 1 rfl) ?_
      obtain ⟨hi1, hf⟩ := sw_ix_s hf
      refine va_iald hx hb hK hP 1 0 rfl rfl hi1 dX3_deedAt_18 ?_
      refine lv_goto (tgt := 23) hx hb dX3_deedAt_19 (by decide) ?_
      subst hQ
      exact W.iret hx hb hr (fun t ht hW => ⟨_, rfl, Option.some.inj hf, ht⟩) (fun _ h => absurd h List.not_mem_nil) dX3_deedAt_23 hlocks
abbrev rm_X3_isWhole : Room := { frames := 0, cells := 0, slots := 0, locals := 0 }
set_option maxHeartbeats 1000000 in
set_option maxRecDepth 100000 in
theorem k_X3_isWhole (l : Launch) (dC : Nat → ClassId) (dI : Nat → Nat → Nat) (cI cZ : ClassId) (t0 : Nat) (aP aP_letters aP_deeds : Nat) (P_length : Int32) (P_read : Int32) (P_begun : Int32) (P_figuresDue : Int32) (P_whole : Int32) (rv : Int32)  (hf : F_X3_isWhole P_whole = some (rv)) : Met l yX3_isWhole wsX3_isWhole rm_X3_isWhole (sw_PR (dC, dI) t0 [(cI, .int), (cZ, .boolean)] [.ref aP] [(aP, .inr (3, [.ref aP_letters, .int P_length, .ref aP_deeds, .int P_read, .int P_begun, .int P_figuresDue, .int P_whole]))]) (vp_Si (fun r => r = rv)) 0 0 (fun _ => False) := by
  refine sw_metR (cc := cX3_isWhole) (maxL := 1) (ret := (some .boolean)) (lv := [(0, .ref aP)]) (by decide) rfl (Nat.le_of_ble_eq_true rfl) rfl ?_
  intro p e s m below meth c Q hQ hx hb hr hts hown hlocks hml hP hK hE hS ls hl
  have hown : s.vm.findClass RX3 = some m.cls := hown
  have hf := (F_X3_isWhole.eq_1 _).symm.trans hf
  have hw1 := hts (.fieldLink RX3 25 "SwallowedInTurn$Page" "whole" "Z") (List.mem_of_getElem? (i := 1) (by decide +kernel))
  have iX3 : ∀ w ∈ u_ws RX3 TX3 7, w ∈ wsX3_isWhole := by decide +kernel
  refine lv_aload_n hx hb dX3_isWhole_0 rfl (lv_at hl 0 rfl) ?_
  refine va_get (D := (dC, dI)) (ci := 3) (v := .int P_whole) (C := RX3) (T := TX3) (N := 7) hx hb hts iX3 hown hK hP 0 rfl rfl 6 (by decide) hw1 (fun _ h9 => h9) rfl dX3_isWhole_1 ?_
  obtain ⟨hn, hf⟩ := sw_zb_s hf
  subst hQ
  exact W.zret hx hb hr hn (fun t ht hW => ⟨_, rfl, Option.some.inj hf, ht⟩) (fun _ h => absurd h List.not_mem_nil) dX3_isWhole_4 hlocks
abbrev rm_X3_takeFigure : Room := { frames := 0, cells := 0, slots := 0, locals := 0 }
set_option maxHeartbeats 1000000 in
set_option maxRecDepth 100000 in
theorem k_X3_takeFigure (l : Launch) (dC : Nat → ClassId) (dI : Nat → Nat → Nat) (cI cZ : ClassId) (t0 : Nat) (sz : Nat) (aP aP_letters aP_deeds : Nat) (P_length : Int32) (P_read : Int32) (P_begun : Int32) (P_figuresDue : Int32) (P_whole : Int32) (P_deeds : Nat → Int32) (l1 : Int32) (rv : Int32) (P_read' : Int32) (P_begun' : Int32) (P_figuresDue' : Int32) (P_whole' : Int32) (P_deeds' : Nat → Int32) (hf : F_X3_takeFigure P_read P_begun P_figuresDue P_whole P_deeds l1 = some (rv, P_read', P_begun', P_figuresDue', P_whole', P_deeds')) : Met l yX3_takeFigure wsX3_takeFigure rm_X3_takeFigure (sw_PW (dC, dI) t0 [(cI, .int), (cZ, .boolean)] [.ref aP, .int l1] [(aP, .inr (3, [.ref aP_letters, .int P_length, .ref aP_deeds, .int P_read, .int P_begun, .int P_figuresDue, .int P_whole])), (aP_deeds, .inl (cI, 10, .inl P_deeds))] sz) (va_Qi (fun r (_ : Unit) => r = rv) (fun _ t => sw_B (dC, dI) [(cI, .int), (cZ, .boolean)] [(aP, .inr (3, [.ref aP_letters, .int P_length, .ref aP_deeds, .int P_read', .int P_begun', .int P_figuresDue', .int P_whole'])), (aP_deeds, .inl (cI, 10, .inl P_deeds'))] (va_A [(aP, .inr (3, [.ref aP_letters, .int P_length, .ref aP_deeds, .int P_read, .int P_begun, .int P_figuresDue, .int P_whole])), (aP_deeds, .inl (cI, 10, .inl P_deeds))] sz) t) (va_A [(aP, .inr (3, [.ref aP_letters, .int P_length, .ref aP_deeds, .int P_read, .int P_begun, .int P_figuresDue, .int P_whole])), (aP_deeds, .inl (cI, 10, .inl P_deeds))] sz)) 0 0 (va_A [(aP, .inr (3, [.ref aP_letters, .int P_length, .ref aP_deeds, .int P_read, .int P_begun, .int P_figuresDue, .int P_whole])), (aP_deeds, .inl (cI, 10, .inl P_deeds))] sz) := by
  refine sw_metW (cc := cX3_takeFigure) (maxL := 2) (ret := (some .boolean)) (lv := [(0, .ref aP), (1, .int l1)]) (by decide) rfl (Nat.le_of_ble_eq_true rfl) rfl ?_
  intro p e s m below meth c Q A hsz hAe hQ hx hb hr hts hown hlocks hml hmn hP hK hD hE hS hA ls hl
  have hS0 := hS
  have hown : s.vm.findClass RX3 = some m.cls := hown
  have hf := (F_X3_takeFigure.eq_1 _ _ _ _ _ _).symm.trans hf
  have hw1 := hts (.fieldLink RX3 42 "SwallowedInTurn$Page" "begun" "I") (List.mem_of_getElem? (i := 1) (by decide +kernel))
  have iX3 : ∀ w ∈ u_ws RX3 TX3 7, w ∈ wsX3_takeFigure := by decide +kernel
  have hw2 := hts (.fieldLink RX3 29 "SwallowedInTurn$Page" "figuresDue" "I") (List.mem_of_getElem? (i := 2) (by decide +kernel))
  have hw3 := hts (.fieldLink RX3 22 "SwallowedInTurn$Page" "read" "I") (List.mem_of_getElem? (i := 3) (by decide +kernel))
  have hw4 := hts (.fieldLink RX3 15 "SwallowedInTurn$Page" "deeds" "[I") (List.mem_of_getElem? (i := 4) (by decide +kernel))
  have hw5 := hts (.fieldLink RX3 25 "SwallowedInTurn$Page" "whole" "Z") (List.mem_of_getElem? (i := 5) (by decide +kernel))
  obtain ⟨H, hH⟩ : ∃ H, H = s.heap := ⟨_, rfl⟩
  obtain ⟨locs, hlo⟩ : ∃ locs : List Loc, locs = [] := ⟨_, rfl⟩
  rw [← hH] at hP
  have hS : va_S A s.heap H locs := by rw [hH, hlo]; exact hS0
  suffices hgo : W p l e rm_X3_takeFigure s m ([.ref aP, .int l1] : List Value).toArray below meth c H locs 0 0 Q (F0 m 0 ls []) by rw [hH, hlo] at hgo; exact hgo
  refine lv_iload_n hx hb dX3_takeFigure_0 rfl (lv_at hl 1 rfl) ?_
  refine lv_if_lt (tgt := 9) hx hb dX3_takeFigure_1 (by decide) (fun c1 => ?_) (fun c1 => ?_)
  · have hf := sw_ip c1 hf
    refine lv_iconst (v := 0) hx hb dX3_takeFigure_9 (by decide) ?_
    subst hQ hAe
    cases hf
    exact W.zret hx hb hr rfl (fun t ht hW => ⟨⟨_, (), rfl, rfl, ⟨by rw [ht]; exact hP, va_K.moved hW.alike hK, hD⟩⟩, hS.F ht⟩) hS.2.2 dX3_takeFigure_10 hlocks
  · have hf := sw_in c1 hf
    refine lv_iload_n hx hb dX3_takeFigure_4 rfl (lv_at hl 1 rfl) ?_
    refine lv_iconst (v := 5) hx hb dX3_takeFigure_5 (by decide) ?_
    refine lv_icmp_lt (tgt := 11) hx hb dX3_takeFigure_6 (by decide) (fun c2 => ?_) (fun c2 => ?_)
    · have hf := sw_ip c2 hf
      refine lv_aload_n hx hb dX3_takeFigure_11 rfl (lv_at hl 0 rfl) ?_
      refine lv_aload_n hx hb dX3_takeFigure_12 rfl (lv_at hl 0 rfl) ?_
      refine va_get (D := (dC, dI)) (ci := 3) (v := .int P_begun) (C := RX3) (T := TX3) (N := 7) hx hb hts iX3 hown hK hP 0 rfl rfl 4 (by decide) hw1 (fun _ h9 => h9) rfl dX3_takeFigure_13 ?_
      refine lv_iconst (v := 5) hx hb dX3_takeFigure_16 (by decide) ?_
      refine lv_imul hx hb dX3_takeFigure_17 ?_
      refine lv_iload_n hx hb dX3_takeFigure_18 rfl (lv_at hl 1 rfl) ?_
      refine lv_iadd hx hb dX3_takeFigure_19 ?_
      refine va_put (D := (dC, dI)) (ci := 3) (v := .int ((P_begun * (5 : Int32)) + l1)) (ty := .int) (C := RX3) (T := TX3) (N := 7) hx hb hts iX3 tyX3 tyX3_ok nmX3 hown hK hP hD hS 0 rfl rfl 4 (by decide) hw1 (fun _ h9 => h9) rfl (by decide +kernel) rfl rfl (Nat.le_of_ble_eq_true rfl) dX3_takeFigure_20 (fun H locs hP hD hS => ?_)
      have hP : va_P (dC, dI) vwCl [(aP, .inr (3, [.ref aP_letters, .int P_length, .ref aP_deeds, .int P_read, .int ((P_begun * (5 : Int32)) + l1), .int P_figuresDue, .int P_whole])), (aP_deeds, .inl (cI, 10, .inl P_deeds))] H := hP
      have hD : va_D A [(aP, .inr (3, [.ref aP_letters, .int P_length, .ref aP_deeds, .int P_read, .int ((P_begun * (5 : Int32)) + l1), .int P_figuresDue, .int P_whole])), (aP_deeds, .inl (cI, 10, .inl P_deeds))] := hD
      refine lv_aload_n hx hb dX3_takeFigure_23 rfl (lv_at hl 0 rfl) ?_
      refine lv_dup hx hb dX3_takeFigure_24 rfl ?_
      refine va_get (D := (dC, dI)) (ci := 3) (v := .int P_figuresDue) (C := RX3) (T := TX3) (N := 7) hx hb hts iX3 hown hK hP 0 rfl rfl 5 (by decide) hw2 (fun _ h9 => h9) rfl dX3_takeFigure_25 ?_
      refine lv_iconst (v := 1) hx hb dX3_takeFigure_28 (by decide) ?_
      refine lv_isub hx hb dX3_takeFigure_29 ?_
      refine va_put (D := (dC, dI)) (ci := 3) (v := .int (P_figuresDue - (1 : Int32))) (ty := .int) (C := RX3) (T := TX3) (N := 7) hx hb hts iX3 tyX3 tyX3_ok nmX3 hown hK hP hD hS 0 rfl rfl 5 (by decide) hw2 (fun _ h9 => h9) rfl (by decide +kernel) rfl rfl (Nat.le_of_ble_eq_true rfl) dX3_takeFigure_30 (fun H locs hP hD hS => ?_)
      have hP : va_P (dC, dI) vwCl [(aP, .inr (3, [.ref aP_letters, .int P_length, .ref aP_deeds, .int P_read, .int ((P_begun * (5 : Int32)) + l1), .int (P_figuresDue - (1 : Int32)), .int P_whole])), (aP_deeds, .inl (cI, 10, .inl P_deeds))] H := hP
      have hD : va_D A [(aP, .inr (3, [.ref aP_letters, .int P_length, .ref aP_deeds, .int P_read, .int ((P_begun * (5 : Int32)) + l1), .int (P_figuresDue - (1 : Int32)), .int P_whole])), (aP_deeds, .inl (cI, 10, .inl P_deeds))] := hD
      refine lv_aload_n hx hb dX3_takeFigure_33 rfl (lv_at hl 0 rfl) ?_
      refine va_get (D := (dC, dI)) (ci := 3) (v := .int (P_figuresDue - (1 : Int32))) (C := RX3) (T := TX3) (N := 7) hx hb hts iX3 hown hK hP 0 rfl rfl 5 (by decide) hw2 (fun _ h9 => h9) rfl dX3_takeFigure_34 ?_
      refine lv_if_ne (tgt := 87) hx hb dX3_takeFigure_37 (by decide) (fun c3 => ?_) (fun c3 => ?_)
      · have hf := sw_in c3 hf
        refine lv_iconst (v := 1) hx hb dX3_takeFigure_87 (by decide) ?_
        subst hQ hAe
        cases hf
        exact W.zret hx hb hr rfl (fun t ht hW => ⟨⟨_, (), rfl, rfl, ⟨by rw [ht]; exact hP, va_K.moved hW.alike hK, hD⟩⟩, hS.F ht⟩) hS.2.2 dX3_takeFigure_88 hlocks
      · have hf := sw_ip c3 hf
        refine lv_aload_n hx hb dX3_takeFigure_40 rfl (lv_at hl 0 rfl) ?_
        refine va_get (D := (dC, dI)) (ci := 3) (v := .int P_read) (C := RX3) (T := TX3) (N := 7) hx hb hts iX3 hown hK hP 0 rfl rfl 3 (by decide) hw3 (fun _ h9 => h9) rfl dX3_takeFigure_41 ?_
        refine lv_if_lt (tgt := 87) hx hb dX3_takeFigure_44 (by decide) (fun c4 => ?_) (fun c4 => ?_)
        · have hf := sw_ip c4 hf
          refine lv_iconst (v := 1) hx hb dX3_takeFigure_87 (by decide) ?_
          subst hQ hAe
          cases hf
          exact W.zret hx hb hr rfl (fun t ht hW => ⟨⟨_, (), rfl, rfl, ⟨by rw [ht]; exact hP, va_K.moved hW.alike hK, hD⟩⟩, hS.F ht⟩) hS.2.2 dX3_takeFigure_88 hlocks
        · have hf := sw_in c4 hf
          refine lv_aload_n hx hb dX3_takeFigure_47 rfl (lv_at hl 0 rfl) ?_
          refine va_get (D := (dC, dI)) (ci := 3) (v := .int P_read) (C := RX3) (T := TX3) (N := 7) hx hb hts iX3 hown hK hP 0 rfl rfl 3 (by decide) hw3 (fun _ h9 => h9) rfl dX3_takeFigure_48 ?_
          refine lv_aload_n hx hb dX3_takeFigure_51 rfl (lv_at hl 0 rfl) ?_
          refine va_get (D := (dC, dI)) (ci := 3) (v := .ref aP_deeds) (C := RX3) (T := TX3) (N := 7) hx hb hts iX3 hown hK hP 0 rfl rfl 2 (by decide) hw4 (fun _ h9 => h9) rfl dX3_takeFigure_52 ?_
          refine va_alen hx hb hK hP 1 0 rfl rfl (v := 10) (show Int32.ofNat 10 = 10 by decide +kernel) dX3_takeFigure_55 ?_
          refine lv_icmp_ge (tgt := 87) hx hb dX3_takeFigure_56 (by decide) (fun c5 => ?_) (fun c5 => ?_)
          · have hf := sw_ip c5 hf
            refine lv_iconst (v := 1) hx hb dX3_takeFigure_87 (by decide) ?_
            subst hQ hAe
            cases hf
            exact W.zret hx hb hr rfl (fun t ht hW => ⟨⟨_, (), rfl, rfl, ⟨by rw [ht]; exact hP, va_K.moved hW.alike hK, hD⟩⟩, hS.F ht⟩) hS.2.2 dX3_takeFigure_88 hlocks
          · have hf := sw_in c5 hf
            refine lv_aload_n hx hb dX3_takeFigure_59 rfl (lv_at hl 0 rfl) ?_
            refine va_get (D := (dC, dI)) (ci := 3) (v := .ref aP_deeds) (C := RX3) (T := TX3) (N := 7) hx hb hts iX3 hown hK hP 0 rfl rfl 2 (by decide) hw4 (fun _ h9 => h9) rfl dX3_takeFigure_60 ?_
            refine lv_aload_n hx hb dX3_takeFigure_63 rfl (lv_at hl 0 rfl) ?_
            refine va_get (D := (dC, dI)) (ci := 3) (v := .int P_read) (C := RX3) (T := TX3) (N := 7) hx hb hts iX3 hown hK hP 0 rfl rfl 3 (by decide) hw3 (fun _ h9 => h9) rfl dX3_takeFigure_64 ?_
            refine lv_aload_n hx hb dX3_takeFigure_67 rfl (lv_at hl 0 rfl) ?_
            refine va_get (D := (dC, dI)) (ci := 3) (v := .int ((P_begun * (5 : Int32)) + l1)) (C := RX3) (T := TX3) (N := 7) hx hb hts iX3 hown hK hP 0 rfl rfl 4 (by decide) hw1 (fun _ h9 => h9) rfl dX3_takeFigure_68 ?_
            obtain ⟨hi1, hf⟩ := sw_ix_s hf
            refine va_iast hx hb hK hP hD hS 1 0 rfl rfl hi1 dX3_takeFigure_71 (fun H locs hP hD hS => ?_)
            have hP : va_P (dC, dI) vwCl [(aP, .inr (3, [.ref aP_letters, .int P_length, .ref aP_deeds, .int P_read, .int ((P_begun * (5 : Int32)) + l1), .int (P_figuresDue - (1 : Int32)), .int P_whole])), (aP_deeds, .inl (cI, 10, .inl (upd P_deeds P_read.toNatClampNeg ((P_begun * (5 : Int32)) + l1))))] H := hP
            have hD : va_D A [(aP, .inr (3, [.ref aP_letters, .int P_length, .ref aP_deeds, .int P_read, .int ((P_begun * (5 : Int32)) + l1), .int (P_figuresDue - (1 : Int32)), .int P_whole])), (aP_deeds, .inl (cI, 10, .inl (upd P_deeds P_read.toNatClampNeg ((P_begun * (5 : Int32)) + l1))))] := hD
            refine lv_aload_n hx hb dX3_takeFigure_72 rfl (lv_at hl 0 rfl) ?_
            refine lv_dup hx hb dX3_takeFigure_73 rfl ?_
            refine va_get (D := (dC, dI)) (ci := 3) (v := .int P_read) (C := RX3) (T := TX3) (N := 7) hx hb hts iX3 hown hK hP 0 rfl rfl 3 (by decide) hw3 (fun _ h9 => h9) rfl dX3_takeFigure_74 ?_
            refine lv_iconst (v := 1) hx hb dX3_takeFigure_77 (by decide) ?_
            refine lv_iadd hx hb dX3_takeFigure_78 ?_
            refine va_put (D := (dC, dI)) (ci := 3) (v := .int (P_read + (1 : Int32))) (ty := .int) (C := RX3) (T := TX3) (N := 7) hx hb hts iX3 tyX3 tyX3_ok nmX3 hown hK hP hD hS 0 rfl rfl 3 (by decide) hw3 (fun _ h9 => h9) rfl (by decide +kernel) rfl rfl (Nat.le_of_ble_eq_true rfl) dX3_takeFigure_79 (fun H locs hP hD hS => ?_)
            have hP : va_P (dC, dI) vwCl [(aP, .inr (3, [.ref aP_letters, .int P_length, .ref aP_deeds, .int (P_read + (1 : Int32)), .int ((P_begun * (5 : Int32)) + l1), .int (P_figuresDue - (1 : Int32)), .int P_whole])), (aP_deeds, .inl (cI, 10, .inl (upd P_deeds P_read.toNatClampNeg ((P_begun * (5 : Int32)) + l1))))] H := hP
            have hD : va_D A [(aP, .inr (3, [.ref aP_letters, .int P_length, .ref aP_deeds, .int (P_read + (1 : Int32)), .int ((P_begun * (5 : Int32)) + l1), .int (P_figuresDue - (1 : Int32)), .int P_whole])), (aP_deeds, .inl (cI, 10, .inl (upd P_deeds P_read.toNatClampNeg ((P_begun * (5 : Int32)) + l1))))] := hD
            refine lv_aload_n hx hb dX3_takeFigure_82 rfl (lv_at hl 0 rfl) ?_
            refine lv_iconst (v := 1) hx hb dX3_takeFigure_83 (by decide) ?_
            refine va_put (D := (dC, dI)) (ci := 3) (v := .int (1 : Int32)) (ty := .boolean) (C := RX3) (T := TX3) (N := 7) hx hb hts iX3 tyX3 tyX3_ok nmX3 hown hK hP hD hS 0 rfl rfl 6 (by decide) hw5 (fun _ h9 => h9) rfl (by decide +kernel) rfl rfl (Nat.le_of_ble_eq_true rfl) dX3_takeFigure_84 (fun H locs hP hD hS => ?_)
            have hP : va_P (dC, dI) vwCl [(aP, .inr (3, [.ref aP_letters, .int P_length, .ref aP_deeds, .int (P_read + (1 : Int32)), .int ((P_begun * (5 : Int32)) + l1), .int (P_figuresDue - (1 : Int32)), .int (1 : Int32)])), (aP_deeds, .inl (cI, 10, .inl (upd P_deeds P_read.toNatClampNeg ((P_begun * (5 : Int32)) + l1))))] H := hP
            have hD : va_D A [(aP, .inr (3, [.ref aP_letters, .int P_length, .ref aP_deeds, .int (P_read + (1 : Int32)), .int ((P_begun * (5 : Int32)) + l1), .int (P_figuresDue - (1 : Int32)), .int (1 : Int32)])), (aP_deeds, .inl (cI, 10, .inl (upd P_deeds P_read.toNatClampNeg ((P_begun * (5 : Int32)) + l1))))] := hD
            refine lv_iconst (v := 1) hx hb dX3_takeFigure_87 (by decide) ?_
            subst hQ hAe
            cases hf
            exact W.zret hx hb hr rfl (fun t ht hW => ⟨⟨_, (), rfl, rfl, ⟨by rw [ht]; exact hP, va_K.moved hW.alike hK, hD⟩⟩, hS.F ht⟩) hS.2.2 dX3_takeFigure_88 hlocks
    · have hf := sw_in c2 hf
      refine lv_iconst (v := 0) hx hb dX3_takeFigure_9 (by decide) ?_
      subst hQ hAe
      cases hf
      exact W.zret hx hb hr rfl (fun t ht hW => ⟨⟨_, (), rfl, rfl, ⟨by rw [ht]; exact hP, va_K.moved hW.alike hK, hD⟩⟩, hS.F ht⟩) hS.2.2 dX3_takeFigure_10 hlocks
abbrev rm_X3_takeSign : Room := { frames := 0, cells := 0, slots := 0, locals := 0 }
set_option maxHeartbeats 1000000 in
set_option maxRecDepth 100000 in
theorem k_X3_takeSign (l : Launch) (dC : Nat → ClassId) (dI : Nat → Nat → Nat) (cI cZ : ClassId) (t0 : Nat) (sz : Nat) (aP aP_letters aP_deeds : Nat) (P_length : Int32) (P_read : Int32) (P_begun : Int32) (P_figuresDue : Int32) (P_whole : Int32) (l1 : Int32) (rv : Int32) (P_begun' : Int32) (P_figuresDue' : Int32) (hf : F_X3_takeSign P_begun P_figuresDue l1 = some (rv, P_begun', P_figuresDue')) : Met l yX3_takeSign wsX3_takeSign rm_X3_takeSign (sw_PW (dC, dI) t0 [(cI, .int), (cZ, .boolean)] [.ref aP, .int l1] [(aP, .inr (3, [.ref aP_letters, .int P_length, .ref aP_deeds, .int P_read, .int P_begun, .int P_figuresDue, .int P_whole]))] sz) (va_Qi (fun r (_ : Unit) => r = rv) (fun _ t => sw_B (dC, dI) [(cI, .int), (cZ, .boolean)] [(aP, .inr (3, [.ref aP_letters, .int P_length, .ref aP_deeds, .int P_read, .int P_begun', .int P_figuresDue', .int P_whole]))] (va_A [(aP, .inr (3, [.ref aP_letters, .int P_length, .ref aP_deeds, .int P_read, .int P_begun, .int P_figuresDue, .int P_whole]))] sz) t) (va_A [(aP, .inr (3, [.ref aP_letters, .int P_length, .ref aP_deeds, .int P_read, .int P_begun, .int P_figuresDue, .int P_whole]))] sz)) 0 0 (va_A [(aP, .inr (3, [.ref aP_letters, .int P_length, .ref aP_deeds, .int P_read, .int P_begun, .int P_figuresDue, .int P_whole]))] sz) := by
  refine sw_metW (cc := cX3_takeSign) (maxL := 2) (ret := (some .boolean)) (lv := [(0, .ref aP), (1, .int l1)]) (by decide) rfl (Nat.le_of_ble_eq_true rfl) rfl ?_
  intro p e s m below meth c Q A hsz hAe hQ hx hb hr hts hown hlocks hml hmn hP hK hD hE hS hA ls hl
  have hS0 := hS
  have hown : s.vm.findClass RX3 = some m.cls := hown
  have hf := (F_X3_takeSign.eq_1 _ _ _).symm.trans hf
  have hw1 := hts (.fieldLink RX3 42 "SwallowedInTurn$Page" "begun" "I") (List.mem_of_getElem? (i := 1) (by decide +kernel))
  have iX3 : ∀ w ∈ u_ws RX3 TX3 7, w ∈ wsX3_takeSign := by decide +kernel
  have hw2 := hts (.fieldLink RX3 29 "SwallowedInTurn$Page" "figuresDue" "I") (List.mem_of_getElem? (i := 2) (by decide +kernel))
  obtain ⟨H, hH⟩ : ∃ H, H = s.heap := ⟨_, rfl⟩
  obtain ⟨locs, hlo⟩ : ∃ locs : List Loc, locs = [] := ⟨_, rfl⟩
  rw [← hH] at hP
  have hS : va_S A s.heap H locs := by rw [hH, hlo]; exact hS0
  suffices hgo : W p l e rm_X3_takeSign s m ([.ref aP, .int l1] : List Value).toArray below meth c H locs 0 0 Q (F0 m 0 ls []) by rw [hH, hlo] at hgo; exact hgo
  refine lv_iload_n hx hb dX3_takeSign_0 rfl (lv_at hl 1 rfl) ?_
  by_cases c1 : l1 = (99 : Int32)
  · have hf := sw_ip c1 hf
    refine lv_lookup (off := 47) (tgt := 48) hx hb dX3_takeSign_1 (by decide) (by rw [c1]; rfl) (by decide) ?_
    refine lv_aload_n hx hb dX3_takeSign_48 rfl (lv_at hl 0 rfl) ?_
    refine lv_bipush (v := 6) hx hb dX3_takeSign_49 (by decide) ?_
    refine va_put (D := (dC, dI)) (ci := 3) (v := .int (6 : Int32)) (ty := .int) (C := RX3) (T := TX3) (N := 7) hx hb hts iX3 tyX3 tyX3_ok nmX3 hown hK hP hD hS 0 rfl rfl 4 (by decide) hw1 (fun _ h9 => h9) rfl (by decide +kernel) rfl rfl (Nat.le_of_ble_eq_true rfl) dX3_takeSign_51 (fun H locs hP hD hS => ?_)
    have hP : va_P (dC, dI) vwCl [(aP, .inr (3, [.ref aP_letters, .int P_length, .ref aP_deeds, .int P_read, .int (6 : Int32), .int P_figuresDue, .int P_whole]))] H := hP
    have hD : va_D A [(aP, .inr (3, [.ref aP_letters, .int P_length, .ref aP_deeds, .int P_read, .int (6 : Int32), .int P_figuresDue, .int P_whole]))] := hD
    refine lv_aload_n hx hb dX3_takeSign_54 rfl (lv_at hl 0 rfl) ?_
    refine lv_iconst (v := 1) hx hb dX3_takeSign_55 (by decide) ?_
    refine va_put (D := (dC, dI)) (ci := 3) (v := .int (1 : Int32)) (ty := .int) (C := RX3) (T := TX3) (N := 7) hx hb hts iX3 tyX3 tyX3_ok nmX3 hown hK hP hD hS 0 rfl rfl 5 (by decide) hw2 (fun _ h9 => h9) rfl (by decide +kernel) rfl rfl (Nat.le_of_ble_eq_true rfl) dX3_takeSign_56 (fun H locs hP hD hS => ?_)
    have hP : va_P (dC, dI) vwCl [(aP, .inr (3, [.ref aP_letters, .int P_length, .ref aP_deeds, .int P_read, .int (6 : Int32), .int (1 : Int32), .int P_whole]))] H := hP
    have hD : va_D A [(aP, .inr (3, [.ref aP_letters, .int P_length, .ref aP_deeds, .int P_read, .int (6 : Int32), .int (1 : Int32), .int P_whole]))] := hD
    refine lv_iconst (v := 1) hx hb dX3_takeSign_59 (by decide) ?_
    subst hQ hAe
    cases hf
    exact W.zret hx hb hr rfl (fun t ht hW => ⟨⟨_, (), rfl, rfl, ⟨by rw [ht]; exact hP, va_K.moved hW.alike hK, hD⟩⟩, hS.F ht⟩) hS.2.2 dX3_takeSign_60 hlocks
  · have hf := sw_in c1 hf
    by_cases c2 : l1 = (115 : Int32)
    · have hf := sw_ip c2 hf
      refine lv_lookup (off := 35) (tgt := 36) hx hb dX3_takeSign_1 (by decide) (by rw [c2]; rfl) (by decide) ?_
      refine lv_aload_n hx hb dX3_takeSign_36 rfl (lv_at hl 0 rfl) ?_
      refine lv_iconst (v := 0) hx hb dX3_takeSign_37 (by decide) ?_
      refine va_put (D := (dC, dI)) (ci := 3) (v := .int (0 : Int32)) (ty := .int) (C := RX3) (T := TX3) (N := 7) hx hb hts iX3 tyX3 tyX3_ok nmX3 hown hK hP hD hS 0 rfl rfl 4 (by decide) hw1 (fun _ h9 => h9) rfl (by decide +kernel) rfl rfl (Nat.le_of_ble_eq_true rfl) dX3_takeSign_38 (fun H locs hP hD hS => ?_)
      have hP : va_P (dC, dI) vwCl [(aP, .inr (3, [.ref aP_letters, .int P_length, .ref aP_deeds, .int P_read, .int (0 : Int32), .int P_figuresDue, .int P_whole]))] H := hP
      have hD : va_D A [(aP, .inr (3, [.ref aP_letters, .int P_length, .ref aP_deeds, .int P_read, .int (0 : Int32), .int P_figuresDue, .int P_whole]))] := hD
      refine lv_aload_n hx hb dX3_takeSign_41 rfl (lv_at hl 0 rfl) ?_
      refine lv_iconst (v := 2) hx hb dX3_takeSign_42 (by decide) ?_
      refine va_put (D := (dC, dI)) (ci := 3) (v := .int (2 : Int32)) (ty := .int) (C := RX3) (T := TX3) (N := 7) hx hb hts iX3 tyX3 tyX3_ok nmX3 hown hK hP hD hS 0 rfl rfl 5 (by decide) hw2 (fun _ h9 => h9) rfl (by decide +kernel) rfl rfl (Nat.le_of_ble_eq_true rfl) dX3_takeSign_43 (fun H locs hP hD hS => ?_)
      have hP : va_P (dC, dI) vwCl [(aP, .inr (3, [.ref aP_letters, .int P_length, .ref aP_deeds, .int P_read, .int (0 : Int32), .int (2 : Int32), .int P_whole]))] H := hP
      have hD : va_D A [(aP, .inr (3, [.ref aP_letters, .int P_length, .ref aP_deeds, .int P_read, .int (0 : Int32), .int (2 : Int32), .int P_whole]))] := hD
      refine lv_iconst (v := 1) hx hb dX3_takeSign_46 (by decide) ?_
      subst hQ hAe
      cases hf
      exact W.zret hx hb hr rfl (fun t ht hW => ⟨⟨_, (), rfl, rfl, ⟨by rw [ht]; exact hP, va_K.moved hW.alike hK, hD⟩⟩, hS.F ht⟩) hS.2.2 dX3_takeSign_47 hlocks
    · have hf := sw_in c2 hf
      by_cases c3 : l1 = (121 : Int32)
      · have hf := sw_ip c3 hf
        refine lv_lookup (off := 60) (tgt := 61) hx hb dX3_takeSign_1 (by decide) (by rw [c3]; rfl) (by decide) ?_
        refine lv_aload_n hx hb dX3_takeSign_61 rfl (lv_at hl 0 rfl) ?_
        refine lv_bipush (v := 8) hx hb dX3_takeSign_62 (by decide) ?_
        refine va_put (D := (dC, dI)) (ci := 3) (v := .int (8 : Int32)) (ty := .int) (C := RX3) (T := TX3) (N := 7) hx hb hts iX3 tyX3 tyX3_ok nmX3 hown hK hP hD hS 0 rfl rfl 4 (by decide) hw1 (fun _ h9 => h9) rfl (by decide +kernel) rfl rfl (Nat.le_of_ble_eq_true rfl) dX3_takeSign_64 (fun H locs hP hD hS => ?_)
        have hP : va_P (dC, dI) vwCl [(aP, .inr (3, [.ref aP_letters, .int P_length, .ref aP_deeds, .int P_read, .int (8 : Int32), .int P_figuresDue, .int P_whole]))] H := hP
        have hD : va_D A [(aP, .inr (3, [.ref aP_letters, .int P_length, .ref aP_deeds, .int P_read, .int (8 : Int32), .int P_figuresDue, .int P_whole]))] := hD
        refine lv_aload_n hx hb dX3_takeSign_67 rfl (lv_at hl 0 rfl) ?_
        refine lv_iconst (v := 1) hx hb dX3_takeSign_68 (by decide) ?_
        refine va_put (D := (dC, dI)) (ci := 3) (v := .int (1 : Int32)) (ty := .int) (C := RX3) (T := TX3) (N := 7) hx hb hts iX3 tyX3 tyX3_ok nmX3 hown hK hP hD hS 0 rfl rfl 5 (by decide) hw2 (fun _ h9 => h9) rfl (by decide +kernel) rfl rfl (Nat.le_of_ble_eq_true rfl) dX3_takeSign_69 (fun H locs hP hD hS => ?_)
        have hP : va_P (dC, dI) vwCl [(aP, .inr (3, [.ref aP_letters, .int P_length, .ref aP_deeds, .int P_read, .int (8 : Int32), .int (1 : Int32), .int P_whole]))] H := hP
        have hD : va_D A [(aP, .inr (3, [.ref aP_letters, .int P_length, .ref aP_deeds, .int P_read, .int (8 : Int32), .int (1 : Int32), .int P_whole]))] := hD
        refine lv_iconst (v := 1) hx hb dX3_takeSign_72 (by decide) ?_
        subst hQ hAe
        cases hf
        exact W.zret hx hb hr rfl (fun t ht hW => ⟨⟨_, (), rfl, rfl, ⟨by rw [ht]; exact hP, va_K.moved hW.alike hK, hD⟩⟩, hS.F ht⟩) hS.2.2 dX3_takeSign_73 hlocks
      · have hf := sw_in c3 hf
        refine lv_lookup (off := 73) (tgt := 74) hx hb dX3_takeSign_1 (by decide) (by rw [show (#[(99, 47), (115, 35), (121, 60)] : Array (Int × Int)).toList = [(99, 47), (115, 35), (121, 60)] from rfl, lv_osw c1 (show (99 : Int32).toInt = 99 by decide), lv_osw c2 (show (115 : Int32).toInt = 115 by decide), lv_osw c3 (show (121 : Int32).toInt = 121 by decide)]; rfl) (by decide) ?_
        refine lv_iconst (v := 0) hx hb dX3_takeSign_74 (by decide) ?_
        subst hQ hAe
        cases hf
        exact W.zret hx hb hr rfl (fun t ht hW => ⟨⟨_, (), rfl, rfl, ⟨by rw [ht]; exact hP, va_K.moved hW.alike hK, hD⟩⟩, hS.F ht⟩) hS.2.2 dX3_takeSign_75 hlocks
abbrev rm_X3_take : Room := { frames := 1, cells := 0, slots := 0, locals := 21 }
set_option maxHeartbeats 1000000 in
set_option maxRecDepth 100000 in
theorem k_X3_take (l : Launch) (dC : Nat → ClassId) (dI : Nat → Nat → Nat) (cI cZ : ClassId) (t0 : Nat) (sz : Nat) (aP aP_letters aP_deeds : Nat) (P_length : Int32) (P_read : Int32) (P_begun : Int32) (P_figuresDue : Int32) (P_whole : Int32) (P_deeds : Nat → Int32) (l1 : Int32) (rv : Int32) (P_read' : Int32) (P_begun' : Int32) (P_figuresDue' : Int32) (P_whole' : Int32) (P_deeds' : Nat → Int32) (hf : F_X3_take P_read P_begun P_figuresDue P_whole P_deeds l1 = some (rv, P_read', P_begun', P_figuresDue', P_whole', P_deeds')) : Met l yX3_take wsX3_take rm_X3_take (sw_PW (dC, dI) t0 [(cI, .int), (cZ, .boolean)] [.ref aP, .int l1] [(aP, .inr (3, [.ref aP_letters, .int P_length, .ref aP_deeds, .int P_read, .int P_begun, .int P_figuresDue, .int P_whole])), (aP_deeds, .inl (cI, 10, .inl P_deeds))] sz) (va_Qi (fun r (_ : Unit) => r = rv) (fun _ t => sw_B (dC, dI) [(cI, .int), (cZ, .boolean)] [(aP, .inr (3, [.ref aP_letters, .int P_length, .ref aP_deeds, .int P_read', .int P_begun', .int P_figuresDue', .int P_whole'])), (aP_deeds, .inl (cI, 10, .inl P_deeds'))] (va_A [(aP, .inr (3, [.ref aP_letters, .int P_length, .ref aP_deeds, .int P_read, .int P_begun, .int P_figuresDue, .int P_whole])), (aP_deeds, .inl (cI, 10, .inl P_deeds))] sz) t) (va_A [(aP, .inr (3, [.ref aP_letters, .int P_length, .ref aP_deeds, .int P_read, .int P_begun, .int P_figuresDue, .int P_whole])), (aP_deeds, .inl (cI, 10, .inl P_deeds))] sz)) 0 0 (va_A [(aP, .inr (3, [.ref aP_letters, .int P_length, .ref aP_deeds, .int P_read, .int P_begun, .int P_figuresDue, .int P_whole])), (aP_deeds, .inl (cI, 10, .inl P_deeds))] sz) := by
  refine sw_metW (cc := cX3_take) (maxL := 2) (ret := (some .boolean)) (lv := [(0, .ref aP), (1, .int l1)]) (by decide) rfl (Nat.le_of_ble_eq_true rfl) rfl ?_
  intro p e s m below meth c Q A hsz hAe hQ hx hb hr hts hown hlocks hml hmn hP hK hD hE hS hA ls hl
  have hS0 := hS
  have hown : s.vm.findClass RX3 = some m.cls := hown
  have hf := (F_X3_take.eq_1 _ _ _ _ _ _).symm.trans hf
  have hw1 := hts (.fieldLink RX3 29 "SwallowedInTurn$Page" "figuresDue" "I") (List.mem_of_getElem? (i := 1) (by decide +kernel))
  have iX3 : ∀ w ∈ u_ws RX3 TX3 7, w ∈ wsX3_take := by decide +kernel
  have hw2 := hts (.fieldLink RX3 25 "SwallowedInTurn$Page" "whole" "Z") (List.mem_of_getElem? (i := 2) (by decide +kernel))
  have hw3 := hts (.fieldLink RX3 22 "SwallowedInTurn$Page" "read" "I") (List.mem_of_getElem? (i := 3) (by decide +kernel))
  obtain ⟨H, hH⟩ : ∃ H, H = s.heap := ⟨_, rfl⟩
  obtain ⟨locs, hlo⟩ : ∃ locs : List Loc, locs = [] := ⟨_, rfl⟩
  rw [← hH] at hP
  have hS : va_S A s.heap H locs := by rw [hH, hlo]; exact hS0
  suffices hgo : W p l e rm_X3_take s m ([.ref aP, .int l1] : List Value).toArray below meth c H locs 0 0 Q (F0 m 0 ls []) by rw [hH, hlo] at hgo; exact hgo
  refine lv_aload_n hx hb dX3_take_0 rfl (lv_at hl 0 rfl) ?_
  refine va_get (D := (dC, dI)) (ci := 3) (v := .int P_figuresDue) (C := RX3) (T := TX3) (N := 7) hx hb hts iX3 hown hK hP 0 rfl rfl 5 (by decide) hw1 (fun _ h9 => h9) rfl dX3_take_1 ?_
  refine lv_if_le (tgt := 16) hx hb dX3_take_4 (by decide) (fun c1 => ?_) (fun c1 => ?_)
  · have hf := sw_ip c1 hf
    refine lv_aload_n hx hb dX3_take_16 rfl (lv_at hl 0 rfl) ?_
    refine va_get (D := (dC, dI)) (ci := 3) (v := .int P_whole) (C := RX3) (T := TX3) (N := 7) hx hb hts iX3 hown hK hP 0 rfl rfl 6 (by decide) hw2 (fun _ h9 => h9) rfl dX3_take_17 ?_
    refine lv_if_eq (tgt := 49) hx hb dX3_take_20 (by decide) (fun c2 => ?_) (fun c2 => ?_)
    · have hf := sw_ip c2 hf
      refine lv_aload_n hx hb dX3_take_49 rfl (lv_at hl 0 rfl) ?_
      refine lv_iload_n hx hb dX3_take_50 rfl (lv_at hl 1 rfl) ?_
      obtain ⟨q1, hq1, hf⟩ := sw_bs hf
      have hPc := hP.sub (ws' := [(aP, .inr (3, [.ref aP_letters, .int P_length, .ref aP_deeds, .int P_read, .int P_begun, .int P_figuresDue, .int P_whole]))]) [0] rfl
      have hDc := hD.sub (ws' := [(aP, .inr (3, [.ref aP_letters, .int P_length, .ref aP_deeds, .int P_read, .int P_begun, .int P_figuresDue, .int P_whole]))]) [0] (by decide) rfl
      have hFc := va_free (wc := [(aP, .inr (3, [.ref aP_letters, .int P_length, .ref aP_deeds, .int P_read, .int P_begun, .int P_figuresDue, .int P_whole]))]) hD hS hA [0] rfl
      refine sw_wi (wn := [(aP, .inr (3, [.ref aP_letters, .int P_length, .ref aP_deeds, .int P_read, .int q1.2.1, .int q1.2.2, .int P_whole])), (aP_deeds, .inl (cI, 10, .inl P_deeds))]) (w1 := [(aP, .inr (3, [.ref aP_letters, .int P_length, .ref aP_deeds, .int P_read, .int q1.2.1, .int q1.2.2, .int P_whole]))]) (wr := [(aP_deeds, .inl (cI, 10, .inl P_deeds))]) (va_runV (As := [.int l1]) (rest := []) ⟨hx, hb, hml, hown, hts⟩ (k_X3_takeSign l dC dI cI cZ t0 H.size aP aP_letters aP_deeds P_length P_read P_begun P_figuresDue P_whole l1 q1.1 q1.2.1 q1.2.2 hq1) (cwV 1 hts gX3_take_X3_takeSign rfl rfl rfl (by decide +kernel) ⟨Nat.le_of_ble_eq_true rfl, Nat.le_of_ble_eq_true rfl⟩) ⟨sw_PW_bl, va_recv hK hPc (ci := 3) (q0 := 0) rfl rfl, sw_PW_pre hK hPc hDc hE hS hFc⟩ rfl rfl hl.1 rfl (lv_room (Nat.le_of_ble_eq_true rfl)) dX3_take_51 ⟨Nat.zero_le _, Nat.zero_le _⟩) hS hP hD hFc [0] [1] [1, 0] rfl rfl (by decide) (by decide) (by decide) rfl (fun H locs hP hD hS => ?_)
      obtain ⟨hn, hf⟩ := sw_zb_s hf
      subst hQ hAe
      cases hf
      exact W.zret hx hb hr hn (fun t ht hW => ⟨⟨_, (), rfl, rfl, ⟨by rw [ht]; exact hP, va_K.moved hW.alike hK, hD⟩⟩, hS.F ht⟩) hS.2.2 dX3_take_54 hlocks
    · have hf := sw_in c2 hf
      refine lv_aload_n hx hb dX3_take_23 rfl (lv_at hl 0 rfl) ?_
      refine lv_iconst (v := 0) hx hb dX3_take_24 (by decide) ?_
      refine va_put (D := (dC, dI)) (ci := 3) (v := .int (0 : Int32)) (ty := .boolean) (C := RX3) (T := TX3) (N := 7) hx hb hts iX3 tyX3 tyX3_ok nmX3 hown hK hP hD hS 0 rfl rfl 6 (by decide) hw2 (fun _ h9 => h9) rfl (by decide +kernel) rfl rfl (Nat.le_of_ble_eq_true rfl) dX3_take_25 (fun H locs hP hD hS => ?_)
      have hP : va_P (dC, dI) vwCl [(aP, .inr (3, [.ref aP_letters, .int P_length, .ref aP_deeds, .int P_read, .int P_begun, .int P_figuresDue, .int (0 : Int32)])), (aP_deeds, .inl (cI, 10, .inl P_deeds))] H := hP
      have hD : va_D A [(aP, .inr (3, [.ref aP_letters, .int P_length, .ref aP_deeds, .int P_read, .int P_begun, .int P_figuresDue, .int (0 : Int32)])), (aP_deeds, .inl (cI, 10, .inl P_deeds))] := hD
      refine lv_iload_n hx hb dX3_take_28 rfl (lv_at hl 1 rfl) ?_
      refine lv_bipush (v := 44) hx hb dX3_take_29 (by decide) ?_
      refine lv_icmp_ne (tgt := 47) hx hb dX3_take_31 (by decide) (fun c3 => ?_) (fun c3 => ?_)
      · have hf := sw_in c3 hf
        refine lv_iconst (v := 0) hx hb dX3_take_47 (by decide) ?_
        subst hQ hAe
        cases hf
        exact W.zret hx hb hr rfl (fun t ht hW => ⟨⟨_, (), rfl, rfl, ⟨by rw [ht]; exact hP, va_K.moved hW.alike hK, hD⟩⟩, hS.F ht⟩) hS.2.2 dX3_take_48 hlocks
      · have hf := sw_ip c3 hf
        refine lv_aload_n hx hb dX3_take_34 rfl (lv_at hl 0 rfl) ?_
        refine va_get (D := (dC, dI)) (ci := 3) (v := .int P_read) (C := RX3) (T := TX3) (N := 7) hx hb hts iX3 hown hK hP 0 rfl rfl 3 (by decide) hw3 (fun _ h9 => h9) rfl dX3_take_35 ?_
        refine lv_bipush (v := 10) hx hb dX3_take_38 (by decide) ?_
        refine lv_icmp_ge (tgt := 47) hx hb dX3_take_40 (by decide) (fun c4 => ?_) (fun c4 => ?_)
        · have hf := sw_ip c4 hf
          refine lv_iconst (v := 0) hx hb dX3_take_47 (by decide) ?_
          subst hQ hAe
          cases hf
          exact W.zret hx hb hr rfl (fun t ht hW => ⟨⟨_, (), rfl, rfl, ⟨by rw [ht]; exact hP, va_K.moved hW.alike hK, hD⟩⟩, hS.F ht⟩) hS.2.2 dX3_take_48 hlocks
        · have hf := sw_in c4 hf
          refine lv_iconst (v := 1) hx hb dX3_take_43 (by decide) ?_
          refine lv_goto (tgt := 48) hx hb dX3_take_44 (by decide) ?_
          subst hQ hAe
          cases hf
          exact W.zret hx hb hr rfl (fun t ht hW => ⟨⟨_, (), rfl, rfl, ⟨by rw [ht]; exact hP, va_K.moved hW.alike hK, hD⟩⟩, hS.F ht⟩) hS.2.2 dX3_take_48 hlocks
  · have hf := sw_in c1 hf
    refine lv_aload_n hx hb dX3_take_7 rfl (lv_at hl 0 rfl) ?_
    refine lv_iload_n hx hb dX3_take_8 rfl (lv_at hl 1 rfl) ?_
    refine lv_bipush (v := 48) hx hb dX3_take_9 (by decide) ?_
    refine lv_isub hx hb dX3_take_11 ?_
    obtain ⟨q2, hq2, hf⟩ := sw_bs hf
    have hPc := hP.sub (ws' := [(aP, .inr (3, [.ref aP_letters, .int P_length, .ref aP_deeds, .int P_read, .int P_begun, .int P_figuresDue, .int P_whole])), (aP_deeds, .inl (cI, 10, .inl P_deeds))]) [0, 1] rfl
    have hDc := hD.sub (ws' := [(aP, .inr (3, [.ref aP_letters, .int P_length, .ref aP_deeds, .int P_read, .int P_begun, .int P_figuresDue, .int P_whole])), (aP_deeds, .inl (cI, 10, .inl P_deeds))]) [0, 1] (by decide) rfl
    have hFc := va_free (wc := [(aP, .inr (3, [.ref aP_letters, .int P_length, .ref aP_deeds, .int P_read, .int P_begun, .int P_figuresDue, .int P_whole])), (aP_deeds, .inl (cI, 10, .inl P_deeds))]) hD hS hA [0, 1] rfl
    refine sw_wi (wn := [(aP, .inr (3, [.ref aP_letters, .int P_length, .ref aP_deeds, .int q2.2.1, .int q2.2.2.1, .int q2.2.2.2.1, .int q2.2.2.2.2.1])), (aP_deeds, .inl (cI, 10, .inl q2.2.2.2.2.2))]) (w1 := [(aP, .inr (3, [.ref aP_letters, .int P_length, .ref aP_deeds, .int q2.2.1, .int q2.2.2.1, .int q2.2.2.2.1, .int q2.2.2.2.2.1])), (aP_deeds, .inl (cI, 10, .inl q2.2.2.2.2.2))]) (wr := []) (va_runV (As := [.int (l1 - (48 : Int32))]) (rest := []) ⟨hx, hb, hml, hown, hts⟩ (k_X3_takeFigure l dC dI cI cZ t0 H.size aP aP_letters aP_deeds P_length P_read P_begun P_figuresDue P_whole P_deeds (l1 - (48 : Int32)) q2.1 q2.2.1 q2.2.2.1 q2.2.2.2.1 q2.2.2.2.2.1 q2.2.2.2.2.2 hq2) (cwV 1 hts gX3_take_X3_takeFigure rfl rfl rfl (by decide +kernel) ⟨Nat.le_of_ble_eq_true rfl, Nat.le_of_ble_eq_true rfl⟩) ⟨sw_PW_bl, va_recv hK hPc (ci := 3) (q0 := 0) rfl rfl, sw_PW_pre hK hPc hDc hE hS hFc⟩ rfl rfl hl.1 rfl (lv_room (Nat.le_of_ble_eq_true rfl)) dX3_take_12 ⟨Nat.zero_le _, Nat.zero_le _⟩) hS hP hD hFc [0, 1] [] [0, 1] rfl rfl (by decide) (by decide) (by decide) rfl (fun H locs hP hD hS => ?_)
    obtain ⟨hn, hf⟩ := sw_zb_s hf
    subst hQ hAe
    cases hf
    exact W.zret hx hb hr hn (fun t ht hW => ⟨⟨_, (), rfl, rfl, ⟨by rw [ht]; exact hP, va_K.moved hW.alike hK, hD⟩⟩, hS.F ht⟩) hS.2.2 dX3_take_15 hlocks
abbrev rm_X3_read : Room := { frames := 2, cells := 0, slots := 0, locals := 42 }
set_option maxHeartbeats 1000000 in
set_option maxRecDepth 100000 in
theorem k_X3_read (l : Launch) (dC : Nat → ClassId) (dI : Nat → Nat → Nat) (cI cZ : ClassId) (t0 : Nat) (sz : Nat) (aP aP_letters aP_deeds : Nat) (P_length : Int32) (P_read : Int32) (P_begun : Int32) (P_figuresDue : Int32) (P_whole : Int32) (P_letters : Nat → Int32) (P_deeds : Nat → Int32) (rv : Int32) (P_read' : Int32) (P_begun' : Int32) (P_figuresDue' : Int32) (P_whole' : Int32) (P_deeds' : Nat → Int32) (hf : F_X3_read P_length P_read P_begun P_figuresDue P_whole P_letters P_deeds = some (rv, P_read', P_begun', P_figuresDue', P_whole', P_deeds')) : Met l yX3_read wsX3_read rm_X3_read (sw_PW (dC, dI) t0 [(cI, .int), (cZ, .boolean)] [.ref aP] [(aP, .inr (3, [.ref aP_letters, .int P_length, .ref aP_deeds, .int P_read, .int P_begun, .int P_figuresDue, .int P_whole])), (aP_letters, .inl (cI, 40, .inl P_letters)), (aP_deeds, .inl (cI, 10, .inl P_deeds))] sz) (va_Qi (fun r (_ : Unit) => r = rv) (fun _ t => sw_B (dC, dI) [(cI, .int), (cZ, .boolean)] [(aP, .inr (3, [.ref aP_letters, .int P_length, .ref aP_deeds, .int P_read', .int P_begun', .int P_figuresDue', .int P_whole'])), (aP_letters, .inl (cI, 40, .inl P_letters)), (aP_deeds, .inl (cI, 10, .inl P_deeds'))] (va_A [(aP, .inr (3, [.ref aP_letters, .int P_length, .ref aP_deeds, .int P_read, .int P_begun, .int P_figuresDue, .int P_whole])), (aP_letters, .inl (cI, 40, .inl P_letters)), (aP_deeds, .inl (cI, 10, .inl P_deeds))] sz) t) (va_A [(aP, .inr (3, [.ref aP_letters, .int P_length, .ref aP_deeds, .int P_read, .int P_begun, .int P_figuresDue, .int P_whole])), (aP_letters, .inl (cI, 40, .inl P_letters)), (aP_deeds, .inl (cI, 10, .inl P_deeds))] sz)) 0 0 (va_A [(aP, .inr (3, [.ref aP_letters, .int P_length, .ref aP_deeds, .int P_read, .int P_begun, .int P_figuresDue, .int P_whole])), (aP_letters, .inl (cI, 40, .inl P_letters)), (aP_deeds, .inl (cI, 10, .inl P_deeds))] sz) := by
  refine sw_metW (cc := cX3_read) (maxL := 2) (ret := (some .int)) (lv := [(0, .ref aP)]) (by decide) rfl (Nat.le_of_ble_eq_true rfl) rfl ?_
  intro p e s m below meth c Q A hsz hAe hQ hx hb hr hts hown hlocks hml hmn hP hK hD hE hS hA ls hl
  have hS0 := hS
  have hown : s.vm.findClass RX3 = some m.cls := hown
  have hf := (F_X3_read.eq_1 _ _ _ _ _ _ _).symm.trans hf
  have hw4 := hts (.fieldLink RX3 18 "SwallowedInTurn$Page" "length" "I") (List.mem_of_getElem? (i := 4) (by decide +kernel))
  have iX3 : ∀ w ∈ u_ws RX3 TX3 7, w ∈ wsX3_read := by decide +kernel
  have hw5 := hts (.fieldLink RX3 9 "SwallowedInTurn$Page" "letters" "[I") (List.mem_of_getElem? (i := 5) (by decide +kernel))
  have hw1 := hts (.fieldLink RX3 22 "SwallowedInTurn$Page" "read" "I") (List.mem_of_getElem? (i := 1) (by decide +kernel))
  have hw2 := hts (.fieldLink RX3 29 "SwallowedInTurn$Page" "figuresDue" "I") (List.mem_of_getElem? (i := 2) (by decide +kernel))
  have hw3 := hts (.fieldLink RX3 25 "SwallowedInTurn$Page" "whole" "Z") (List.mem_of_getElem? (i := 3) (by decide +kernel))
  have hf0 := hf
  clear hf
  have hP0 := hP
  have hD0 := hD
  clear hP hD hS
  have hl0 := hl
  clear hl
  have hB_55 : ∀ (P_read : Int32) (P_begun : Int32) (P_figuresDue : Int32) (P_whole : Int32) (P_deeds : Nat → Int32), F_X3_read_55 P_length P_read P_begun P_figuresDue P_whole P_deeds = some (rv, P_read', P_begun', P_figuresDue', P_whole', P_deeds') → ∀ (H : Heap) (locs : List Loc), va_P (dC, dI) vwCl [(aP, .inr (3, [.ref aP_letters, .int P_length, .ref aP_deeds, .int P_read, .int P_begun, .int P_figuresDue, .int P_whole])), (aP_letters, .inl (cI, 40, .inl P_letters)), (aP_deeds, .inl (cI, 10, .inl P_deeds))] H → va_D A [(aP, .inr (3, [.ref aP_letters, .int P_length, .ref aP_deeds, .int P_read, .int P_begun, .int P_figuresDue, .int P_whole])), (aP_letters, .inl (cI, 40, .inl P_letters)), (aP_deeds, .inl (cI, 10, .inl P_deeds))] → va_S A s.heap H locs → ∀ ls : Array Slot, lv_has ls 2 [(0, .ref aP)] → W p l e rm_X3_read s m ([.ref aP] : List Value).toArray below meth c H locs 0 0 Q (F0 m 55 ls []) := by
    intro P_read P_begun P_figuresDue P_whole P_deeds  hf H locs hP hD hS ls hl
    have hf := (F_X3_read_55.eq_1 _ _ _ _ _ _).symm.trans hf
    refine lv_aload_n hx hb dX3_read_55 rfl (lv_at hl 0 rfl) ?_
    refine va_get (D := (dC, dI)) (ci := 3) (v := .int P_length) (C := RX3) (T := TX3) (N := 7) hx hb hts iX3 hown hK hP 0 rfl rfl 1 (by decide) hw4 (fun _ h9 => h9) rfl dX3_read_56 ?_
    subst hQ hAe
    cases hf
    exact W.iret hx hb hr (fun t ht hW => ⟨⟨_, (), rfl, rfl, ⟨by rw [ht]; exact hP, va_K.moved hW.alike hK, hD⟩⟩, hS.F ht⟩) hS.2.2 dX3_read_59 hlocks
  have hB_17 :  ∀ (fu : Nat) (P_read : Int32) (P_begun : Int32) (P_figuresDue : Int32) (P_whole : Int32) (P_deeds : Nat → Int32) (l1 : Int32), F_X3_read_17 P_length P_letters fu P_read P_begun P_figuresDue P_whole P_deeds l1 = some (rv, P_read', P_begun', P_figuresDue', P_whole', P_deeds') → ∀ (H : Heap) (locs : List Loc), va_P (dC, dI) vwCl [(aP, .inr (3, [.ref aP_letters, .int P_length, .ref aP_deeds, .int P_read, .int P_begun, .int P_figuresDue, .int P_whole])), (aP_letters, .inl (cI, 40, .inl P_letters)), (aP_deeds, .inl (cI, 10, .inl P_deeds))] H → va_D A [(aP, .inr (3, [.ref aP_letters, .int P_length, .ref aP_deeds, .int P_read, .int P_begun, .int P_figuresDue, .int P_whole])), (aP_letters, .inl (cI, 40, .inl P_letters)), (aP_deeds, .inl (cI, 10, .inl P_deeds))] → va_S A s.heap H locs → ∀ ls : Array Slot, lv_has ls 2 [(0, .ref aP), (1, .int l1)] → W p l e rm_X3_read s m ([.ref aP] : List Value).toArray below meth c H locs 0 0 Q (F0 m 17 ls []) := by
    intro   fu
    induction fu with
    | zero =>
      intro P_read P_begun P_figuresDue P_whole P_deeds l1 hf
      exact nomatch (show (none : Option (Int32 × Int32 × Int32 × Int32 × Int32 × (Nat → Int32))) = some (rv, P_read', P_begun', P_figuresDue', P_whole', P_deeds') from hf)
    | succ fu ih =>
      intro P_read P_begun P_figuresDue P_whole P_deeds l1 hf H locs hP hD hS ls hl
      have hf := (F_X3_read_17.eq_2 _ _ _ _ _ _ _ _ _).symm.trans hf
      refine lv_iload_n hx hb dX3_read_17 rfl (lv_at hl 1 rfl) ?_
      refine lv_aload_n hx hb dX3_read_18 rfl (lv_at hl 0 rfl) ?_
      refine va_get (D := (dC, dI)) (ci := 3) (v := .int P_length) (C := RX3) (T := TX3) (N := 7) hx hb hts iX3 hown hK hP 0 rfl rfl 1 (by decide) hw4 (fun _ h9 => h9) rfl dX3_read_19 ?_
      refine lv_icmp_ge (tgt := 55) hx hb dX3_read_22 (by decide) (fun c1 => ?_) (fun c1 => ?_)
      · have hf := sw_ip c1 hf
        exact hB_55 P_read P_begun P_figuresDue P_whole P_deeds  hf H locs hP hD hS ls (lv_sub hl [0] rfl)
      · have hf := sw_in c1 hf
        refine lv_iload_n hx hb dX3_read_25 rfl (lv_at hl 1 rfl) ?_
        refine lv_aload_n hx hb dX3_read_26 rfl (lv_at hl 0 rfl) ?_
        refine va_get (D := (dC, dI)) (ci := 3) (v := .ref aP_letters) (C := RX3) (T := TX3) (N := 7) hx hb hts iX3 hown hK hP 0 rfl rfl 0 (by decide) hw5 (fun _ h9 => h9) rfl dX3_read_27 ?_
        refine va_alen hx hb hK hP 1 0 rfl rfl (v := 40) (show Int32.ofNat 40 = 40 by decide +kernel) dX3_read_30 ?_
        refine lv_icmp_ge (tgt := 55) hx hb dX3_read_31 (by decide) (fun c2 => ?_) (fun c2 => ?_)
        · have hf := sw_ip c2 hf
          exact hB_55 P_read P_begun P_figuresDue P_whole P_deeds  hf H locs hP hD hS ls (lv_sub hl [0] rfl)
        · have hf := sw_in c2 hf
          refine lv_aload_n hx hb dX3_read_34 rfl (lv_at hl 0 rfl) ?_
          refine lv_aload_n hx hb dX3_read_35 rfl (lv_at hl 0 rfl) ?_
          refine va_get (D := (dC, dI)) (ci := 3) (v := .ref aP_letters) (C := RX3) (T := TX3) (N := 7) hx hb hts iX3 hown hK hP 0 rfl rfl 0 (by decide) hw5 (fun _ h9 => h9) rfl dX3_read_36 ?_
          refine lv_iload_n hx hb dX3_read_39 rfl (lv_at hl 1 rfl) ?_
          obtain ⟨hi1, hf⟩ := sw_ix_s hf
          refine va_iald hx hb hK hP 1 0 rfl rfl hi1 dX3_read_40 ?_
          obtain ⟨q2, hq2, hf⟩ := sw_bs hf
          have hPc := hP.sub (ws' := [(aP, .inr (3, [.ref aP_letters, .int P_length, .ref aP_deeds, .int P_read, .int P_begun, .int P_figuresDue, .int P_whole])), (aP_deeds, .inl (cI, 10, .inl P_deeds))]) [0, 2] rfl
          have hDc := hD.sub (ws' := [(aP, .inr (3, [.ref aP_letters, .int P_length, .ref aP_deeds, .int P_read, .int P_begun, .int P_figuresDue, .int P_whole])), (aP_deeds, .inl (cI, 10, .inl P_deeds))]) [0, 2] (by decide) rfl
          have hFc := va_free (wc := [(aP, .inr (3, [.ref aP_letters, .int P_length, .ref aP_deeds, .int P_read, .int P_begun, .int P_figuresDue, .int P_whole])), (aP_deeds, .inl (cI, 10, .inl P_deeds))]) hD hS hA [0, 2] rfl
          refine sw_wi (wn := [(aP, .inr (3, [.ref aP_letters, .int P_length, .ref aP_deeds, .int q2.2.1, .int q2.2.2.1, .int q2.2.2.2.1, .int q2.2.2.2.2.1])), (aP_letters, .inl (cI, 40, .inl P_letters)), (aP_deeds, .inl (cI, 10, .inl q2.2.2.2.2.2))]) (w1 := [(aP, .inr (3, [.ref aP_letters, .int P_length, .ref aP_deeds, .int q2.2.1, .int q2.2.2.1, .int q2.2.2.2.1, .int q2.2.2.2.2.1])), (aP_deeds, .inl (cI, 10, .inl q2.2.2.2.2.2))]) (wr := [(aP_letters, .inl (cI, 40, .inl P_letters))]) (va_runV (As := [.int (P_letters l1.toNatClampNeg)]) (rest := []) ⟨hx, hb, hml, hown, hts⟩ (k_X3_take l dC dI cI cZ t0 H.size aP aP_letters aP_deeds P_length P_read P_begun P_figuresDue P_whole P_deeds (P_letters l1.toNatClampNeg) q2.1 q2.2.1 q2.2.2.1 q2.2.2.2.1 q2.2.2.2.2.1 q2.2.2.2.2.2 hq2) (cwV 1 hts gX3_read_X3_take rfl rfl rfl (by decide +kernel) ⟨Nat.le_of_ble_eq_true rfl, Nat.le_of_ble_eq_true rfl⟩) ⟨sw_PW_bl, va_recv hK hPc (ci := 3) (q0 := 0) rfl rfl, sw_PW_pre hK hPc hDc hE hS hFc⟩ rfl rfl hl.1 rfl (lv_room (Nat.le_of_ble_eq_true rfl)) dX3_read_41 ⟨Nat.zero_le _, Nat.zero_le _⟩) hS hP hD hFc [0, 2] [1] [1, 0, 2] rfl rfl (by decide) (by decide) (by decide) rfl (fun H locs hP hD hS => ?_)
          refine lv_if_ne (tgt := 49) hx hb dX3_read_44 (by decide) (fun c3 => ?_) (fun c3 => ?_)
          · have hf := sw_in c3 hf
            refine lv_iinc (v := l1 + (1 : Int32)) (lv' := [(1, .int (l1 + (1 : Int32))), (0, .ref aP)]) hx hb dX3_read_49 hl (k := 1) rfl (sw_ii _) (by decide) rfl (fun ls hl => ?_)
            refine lv_goto (tgt := 17) hx hb dX3_read_52 (by decide) ?_
            exact ih q2.2.1 q2.2.2.1 q2.2.2.2.1 q2.2.2.2.2.1 q2.2.2.2.2.2 (l1 + (1 : Int32)) hf H locs hP hD hS ls (lv_sub hl [1, 0] rfl)
          · have hf := sw_ip c3 hf
            refine lv_iload_n hx hb dX3_read_47 rfl (lv_at hl 1 rfl) ?_
            subst hQ hAe
            cases hf
            exact W.iret hx hb hr (fun t ht hW => ⟨⟨_, (), rfl, rfl, ⟨by rw [ht]; exact hP, va_K.moved hW.alike hK, hD⟩⟩, hS.F ht⟩) hS.2.2 dX3_read_48 hlocks
  have hf := hf0
  have hl := hl0
  have hP := hP0
  have hD := hD0
  have hS := hS0
  obtain ⟨H, hH⟩ : ∃ H, H = s.heap := ⟨_, rfl⟩
  obtain ⟨locs, hlo⟩ : ∃ locs : List Loc, locs = [] := ⟨_, rfl⟩
  rw [← hH] at hP
  have hS : va_S A s.heap H locs := by rw [hH, hlo]; exact hS0
  suffices hgo : W p l e rm_X3_read s m ([.ref aP] : List Value).toArray below meth c H locs 0 0 Q (F0 m 0 ls []) by rw [hH, hlo] at hgo; exact hgo
  refine lv_aload_n hx hb dX3_read_0 rfl (lv_at hl 0 rfl) ?_
  refine lv_iconst (v := 0) hx hb dX3_read_1 (by decide) ?_
  refine va_put (D := (dC, dI)) (ci := 3) (v := .int (0 : Int32)) (ty := .int) (C := RX3) (T := TX3) (N := 7) hx hb hts iX3 tyX3 tyX3_ok nmX3 hown hK hP hD hS 0 rfl rfl 3 (by decide) hw1 (fun _ h9 => h9) rfl (by decide +kernel) rfl rfl (Nat.le_of_ble_eq_true rfl) dX3_read_2 (fun H locs hP hD hS => ?_)
  have hP : va_P (dC, dI) vwCl [(aP, .inr (3, [.ref aP_letters, .int P_length, .ref aP_deeds, .int (0 : Int32), .int P_begun, .int P_figuresDue, .int P_whole])), (aP_letters, .inl (cI, 40, .inl P_letters)), (aP_deeds, .inl (cI, 10, .inl P_deeds))] H := hP
  have hD : va_D A [(aP, .inr (3, [.ref aP_letters, .int P_length, .ref aP_deeds, .int (0 : Int32), .int P_begun, .int P_figuresDue, .int P_whole])), (aP_letters, .inl (cI, 40, .inl P_letters)), (aP_deeds, .inl (cI, 10, .inl P_deeds))] := hD
  refine lv_aload_n hx hb dX3_read_5 rfl (lv_at hl 0 rfl) ?_
  refine lv_iconst (v := 0) hx hb dX3_read_6 (by decide) ?_
  refine va_put (D := (dC, dI)) (ci := 3) (v := .int (0 : Int32)) (ty := .int) (C := RX3) (T := TX3) (N := 7) hx hb hts iX3 tyX3 tyX3_ok nmX3 hown hK hP hD hS 0 rfl rfl 5 (by decide) hw2 (fun _ h9 => h9) rfl (by decide +kernel) rfl rfl (Nat.le_of_ble_eq_true rfl) dX3_read_7 (fun H locs hP hD hS => ?_)
  have hP : va_P (dC, dI) vwCl [(aP, .inr (3, [.ref aP_letters, .int P_length, .ref aP_deeds, .int (0 : Int32), .int P_begun, .int (0 : Int32), .int P_whole])), (aP_letters, .inl (cI, 40, .inl P_letters)), (aP_deeds, .inl (cI, 10, .inl P_deeds))] H := hP
  have hD : va_D A [(aP, .inr (3, [.ref aP_letters, .int P_length, .ref aP_deeds, .int (0 : Int32), .int P_begun, .int (0 : Int32), .int P_whole])), (aP_letters, .inl (cI, 40, .inl P_letters)), (aP_deeds, .inl (cI, 10, .inl P_deeds))] := hD
  refine lv_aload_n hx hb dX3_read_10 rfl (lv_at hl 0 rfl) ?_
  refine lv_iconst (v := 0) hx hb dX3_read_11 (by decide) ?_
  refine va_put (D := (dC, dI)) (ci := 3) (v := .int (0 : Int32)) (ty := .boolean) (C := RX3) (T := TX3) (N := 7) hx hb hts iX3 tyX3 tyX3_ok nmX3 hown hK hP hD hS 0 rfl rfl 6 (by decide) hw3 (fun _ h9 => h9) rfl (by decide +kernel) rfl rfl (Nat.le_of_ble_eq_true rfl) dX3_read_12 (fun H locs hP hD hS => ?_)
  have hP : va_P (dC, dI) vwCl [(aP, .inr (3, [.ref aP_letters, .int P_length, .ref aP_deeds, .int (0 : Int32), .int P_begun, .int (0 : Int32), .int (0 : Int32)])), (aP_letters, .inl (cI, 40, .inl P_letters)), (aP_deeds, .inl (cI, 10, .inl P_deeds))] H := hP
  have hD : va_D A [(aP, .inr (3, [.ref aP_letters, .int P_length, .ref aP_deeds, .int (0 : Int32), .int P_begun, .int (0 : Int32), .int (0 : Int32)])), (aP_letters, .inl (cI, 40, .inl P_letters)), (aP_deeds, .inl (cI, 10, .inl P_deeds))] := hD
  refine lv_iconst (v := 0) hx hb dX3_read_15 (by decide) ?_
  refine lv_istore_n (lv' := [(1, .int (0 : Int32)), (0, .ref aP)]) hx hb dX3_read_16 rfl hl (by decide) rfl (fun ls hl => ?_)
  exact hB_17   sw_fu (0 : Int32) P_begun (0 : Int32) (0 : Int32) P_deeds (0 : Int32) hf H locs hP hD hS ls (lv_sub hl [1, 0] rfl)
