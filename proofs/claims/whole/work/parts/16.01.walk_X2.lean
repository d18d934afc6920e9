abbrev rm_X2_placeWhereOut : Room := { frames := 1, cells := 0, slots := 0, locals := 23 }
set_option maxHeartbeats 1000000 in
set_option maxRecDepth 100000 in
theorem k_X2_placeWhereOut (l : Launch) (dC : Nat → ClassId) (dI : Nat → Nat → Nat) (cI cZ : ClassId) (t0 : Nat) (sz : Nat) (aL aC aE aF aL_reached aL_steps aL_firsts aL_isReached aL_answers aE_holders : Nat) (L_total : Int32) (L_startNumber : Int32) (L_startTotal : Int32) (L_reached : Nat → Int32) (E_holders : Nat → Int32) (l1 : Int32) (rv : Int32) (E_holders' : Nat → Int32) (hf : F_X2_placeWhereOut L_total L_reached E_holders l1 = some (rv, E_holders')) : Met l yX2_placeWhereOut wsX2_placeWhereOut rm_X2_placeWhereOut (sw_PW (dC, dI) t0 [(cI, .int), (cZ, .boolean)] [.ref aL, .int l1] [(aL, .inr (2, [.ref aC, .ref aE, .ref aF, .ref aL_reached, .ref aL_steps, .ref aL_firsts, .int L_total, .ref aL_isReached, .ref aL_answers, .int L_startNumber, .int L_startTotal])), (aL_reached, .inl (cI, 1296, .inl L_reached)), (aE, .inr (1, [.ref aC, .ref aE_holders])), (aE_holders, .inl (cI, 5, .inl E_holders))] sz) (va_Qi (fun r (_ : Unit) => r = rv) (fun _ t => sw_B (dC, dI) [(cI, .int), (cZ, .boolean)] [(aL, .inr (2, [.ref aC, .ref aE, .ref aF, .ref aL_reached, .ref aL_steps, .ref aL_firsts, .int L_total, .ref aL_isReached, .ref aL_answers, .int L_startNumber, .int L_startTotal])), (aL_reached, .inl (cI, 1296, .inl L_reached)), (aE, .inr (1, [.ref aC, .ref aE_holders])), (aE_holders, .inl (cI, 5, .inl E_holders'))] (va_A [(aL, .inr (2, [.ref aC, .ref aE, .ref aF, .ref aL_reached, .ref aL_steps, .ref aL_firsts, .int L_total, .ref aL_isReached, .ref aL_answers, .int L_startNumber, .int L_startTotal])), (aL_reached, .inl (cI, 1296, .inl L_reached)), (aE, .inr (1, [.ref aC, .ref aE_holders])), (aE_holders, .inl (cI, 5, .inl E_holders))] sz) t) (va_A [(aL, .inr (2, [.ref aC, .ref aE, .ref aF, .ref aL_reached, .ref aL_steps, .ref aL_firsts, .int L_total, .ref aL_isReached, .ref aL_answers, .int L_startNumber, .int L_startTotal])), (aL_reached, .inl (cI, 1296, .inl L_reached)), (aE, .inr (1, [.ref aC, .ref aE_holders])), (aE_holders, .inl (cI, 5, .inl E_holders))] sz)) 0 0 (va_A [(aL, .inr (2, [.ref aC, .ref aE, .ref aF, .ref aL_reached, .ref aL_steps, .ref aL_firsts, .int L_total, .ref aL_isReached, .ref aL_answers, .int L_startNumber, .int L_startTotal])), (aL_reached, .inl (cI, 1296, .inl L_reached)), (aE, .inr (1, [.ref aC, .ref aE_holders])), (aE_holders, .inl (cI, 5, .inl E_holders))] sz) := by
  refine sw_metW (cc := cX2_placeWhereOut) (maxL := 3) (ret := (some .int)) (lv := [(0, .ref aL), (1, .int l1)]) (by decide) rfl (Nat.le_of_ble_eq_true rfl) rfl ?_
  intro p e s m below meth c Q A hsz hAe hQ hx hb hr hts hown hlocks hml hmn hP hK hD hE hS hA ls hl
  have hS0 := hS
  have hown : s.vm.findClass RX2 = some m.cls := hown
  have hf := (F_X2_placeWhereOut.eq_1 _ _ _ _).symm.trans hf
  have hw1 := hts (.fieldLink RX2 60 "SwallowedInTurn$Outlook" "total" "I") (List.mem_of_getElem? (i := 1) (by decide +kernel))
  have iX2 : ∀ w ∈ u_ws RX2 TX2 11, w ∈ wsX2_placeWhereOut := by decide +kernel
  have hw2 := hts (.fieldLink RX2 11 "SwallowedInTurn$Outlook" "reached" "[I") (List.mem_of_getElem? (i := 2) (by decide +kernel))
  have hw3 := hts (.fieldLink RX2 44 "SwallowedInTurn$Outlook" "here" "LSwallowedInTurn$Nesting;") (List.mem_of_getElem? (i := 3) (by decide +kernel))
  have hf0 := hf
  clear hf
  have hP0 := hP
  have hD0 := hD
  clear hP hD hS
  have hl0 := hl
  clear hl
  have hB_2 :  ∀ (fu : Nat) (E_holders : Nat → Int32) (l2 : Int32), F_X2_placeWhereOut_2 L_total L_reached l1 fu E_holders l2 = some (rv, E_holders') → ∀ (H : Heap) (locs : List Loc), va_P (dC, dI) vwCl [(aL, .inr (2, [.ref aC, .ref aE, .ref aF, .ref aL_reached, .ref aL_steps, .ref aL_firsts, .int L_total, .ref aL_isReached, .ref aL_answers, .int L_startNumber, .int L_startTotal])), (aL_reached, .inl (cI, 1296, .inl L_reached)), (aE, .inr (1, [.ref aC, .ref aE_holders])), (aE_holders, .inl (cI, 5, .inl E_holders))] H → va_D A [(aL, .inr (2, [.ref aC, .ref aE, .ref aF, .ref aL_reached, .ref aL_steps, .ref aL_firsts, .int L_total, .ref aL_isReached, .ref aL_answers, .int L_startNumber, .int L_startTotal])), (aL_reached, .inl (cI, 1296, .inl L_reached)), (aE, .inr (1, [.ref aC, .ref aE_holders])), (aE_holders, .inl (cI, 5, .inl E_holders))] → va_S A s.heap H locs → ∀ ls : Array Slot, lv_has ls 3 [(0, .ref aL), (1, .int l1), (2, .int l2)] → W p l e rm_X2_placeWhereOut s m ([.ref aL, .int l1] : List Value).toArray below meth c H locs 0 0 Q (F0 m 2 ls []) := by
    intro   fu
    induction fu with
    | zero =>
      intro E_holders l2 hf
      exact nomatch (show (none : Option (Int32 × (Nat → Int32))) = some (rv, E_holders') from hf)
    | succ fu ih =>
      intro E_holders l2 hf H locs hP hD hS ls hl
      have hf := (F_X2_placeWhereOut_2.eq_2 _ _ _ _ _ _).symm.trans hf
      refine lv_iload_n hx hb dX2_placeWhereOut_2 rfl (lv_at hl 2 rfl) ?_
      refine lv_aload_n hx hb dX2_placeWhereOut_3 rfl (lv_at hl 0 rfl) ?_
      refine va_get (D := (dC, dI)) (ci := 2) (v := .int L_total) (C := RX2) (T := TX2) (N := 11) hx hb hts iX2 hown hK hP 0 rfl rfl 6 (by decide) hw1 (fun _ h9 => h9) rfl dX2_placeWhereOut_4 ?_
      refine lv_icmp_ge (tgt := 51) hx hb dX2_placeWhereOut_7 (by decide) (fun c1 => ?_) (fun c1 => ?_)
      · have hf := sw_ip c1 hf
        refine lv_iconst (v := -1) hx hb dX2_placeWhereOut_51 (by decide) ?_
        subst hQ hAe
        cases hf
        exact W.iret hx hb hr (fun t ht hW => ⟨⟨_, (), rfl, rfl, ⟨by rw [ht]; exact hP, va_K.moved hW.alike hK, hD⟩⟩, hS.F ht⟩) hS.2.2 dX2_placeWhereOut_52 hlocks
      · have hf := sw_in c1 hf
        refine lv_iload_n hx hb dX2_placeWhereOut_10 rfl (lv_at hl 2 rfl) ?_
        refine lv_aload_n hx hb dX2_placeWhereOut_11 rfl (lv_at hl 0 rfl) ?_
        refine va_get (D := (dC, dI)) (ci := 2) (v := .ref aL_reached) (C := RX2) (T := TX2) (N := 11) hx hb hts iX2 hown hK hP 0 rfl rfl 3 (by decide) hw2 (fun _ h9 => h9) rfl dX2_placeWhereOut_12 ?_
        refine va_alen hx hb hK hP 1 0 rfl rfl (v := 1296) (show Int32.ofNat 1296 = 1296 by decide +kernel) dX2_placeWhereOut_15 ?_
        refine lv_icmp_ge (tgt := 51) hx hb dX2_placeWhereOut_16 (by decide) (fun c2 => ?_) (fun c2 => ?_)
        · have hf := sw_ip c2 hf
          refine lv_iconst (v := -1) hx hb dX2_placeWhereOut_51 (by decide) ?_
          subst hQ hAe
          cases hf
          exact W.iret hx hb hr (fun t ht hW => ⟨⟨_, (), rfl, rfl, ⟨by rw [ht]; exact hP, va_K.moved hW.alike hK, hD⟩⟩, hS.F ht⟩) hS.2.2 dX2_placeWhereOut_52 hlocks
        · have hf := sw_in c2 hf
          refine lv_aload_n hx hb dX2_placeWhereOut_19 rfl (lv_at hl 0 rfl) ?_
          refine va_get (D := (dC, dI)) (ci := 2) (v := .ref aE) (C := RX2) (T := TX2) (N := 11) hx hb hts iX2 hown hK hP 0 rfl rfl 1 (by decide) hw3 (fun _ h9 => h9) rfl dX2_placeWhereOut_20 ?_
          refine lv_aload_n hx hb dX2_placeWhereOut_23 rfl (lv_at hl 0 rfl) ?_
          refine va_get (D := (dC, dI)) (ci := 2) (v := .ref aL_reached) (C := RX2) (T := TX2) (N := 11) hx hb hts iX2 hown hK hP 0 rfl rfl 3 (by decide) hw2 (fun _ h9 => h9) rfl dX2_placeWhereOut_24 ?_
          refine lv_iload_n hx hb dX2_placeWhereOut_27 rfl (lv_at hl 2 rfl) ?_
          obtain ⟨hi1, hf⟩ := sw_ix_s hf
          refine va_iald hx hb hK hP 1 0 rfl rfl hi1 dX2_placeWhereOut_28 ?_
          obtain ⟨q2, hq2, hf⟩ := sw_bs hf
          have hPc := hP.sub (ws' := [(aE, .inr (1, [.ref aC, .ref aE_holders])), (aE_holders, .inl (cI, 5, .inl E_holders))]) [2, 3] rfl
          have hDc := hD.sub (ws' := [(aE, .inr (1, [.ref aC, .ref aE_holders])), (aE_holders, .inl (cI, 5, .inl E_holders))]) [2, 3] (by decide) rfl
          have hFc := va_free (wc := [(aE, .inr (1, [.ref aC, .ref aE_holders])), (aE_holders, .inl (cI, 5, .inl E_holders))]) hD hS hA [2, 3] rfl
          refine sw_wv (wn := [(aL, .inr (2, [.ref aC, .ref aE, .ref aF, .ref aL_reached, .ref aL_steps, .ref aL_firsts, .int L_total, .ref aL_isReached, .ref aL_answers, .int L_startNumber, .int L_startTotal])), (aL_reached, .inl (cI, 1296, .inl L_reached)), (aE, .inr (1, [.ref aC, .ref aE_holders])), (aE_holders, .inl (cI, 5, .inl q2))]) (w1 := [(aE, .inr (1, [.ref aC, .ref aE_holders])), (aE_holders, .inl (cI, 5, .inl q2))]) (wr := [(aL, .inr (2, [.ref aC, .ref aE, .ref aF, .ref aL_reached, .ref aL_steps, .ref aL_firsts, .int L_total, .ref aL_isReached, .ref aL_answers, .int L_startNumber, .int L_startTotal])), (aL_reached, .inl (cI, 1296, .inl L_reached))]) (va_runV (As := [.int (L_reached l2.toNatClampNeg)]) (rest := []) ⟨hx, hb, hml, hown, hts⟩ (k_X1_become l dC dI cI cZ t0 H.size aE aC aE_holders E_holders (L_reached l2.toNatClampNeg) q2 hq2) (cwV 1 hts gX2_placeWhereOut_X1_become rfl rfl rfl (by decide +kernel) ⟨Nat.le_of_ble_eq_true rfl, Nat.le_of_ble_eq_true rfl⟩) ⟨sw_PW_bl, va_recv hK hPc (ci := 1) (q0 := 0) rfl rfl, sw_PW_pre hK hPc hDc hE hS hFc⟩ rfl rfl hl.1 rfl (lv_room (Nat.le_of_ble_eq_true rfl)) dX2_placeWhereOut_29 ⟨Nat.zero_le _, Nat.zero_le _⟩) hS hP hD hFc [2, 3] [0, 1] [0, 1, 2, 3] rfl rfl (by decide) (by decide) (by decide) rfl (fun H locs hP hD hS => ?_)
          refine lv_aload_n hx hb dX2_placeWhereOut_32 rfl (lv_at hl 0 rfl) ?_
          refine va_get (D := (dC, dI)) (ci := 2) (v := .ref aE) (C := RX2) (T := TX2) (N := 11) hx hb hts iX2 hown hK hP 0 rfl rfl 1 (by decide) hw3 (fun _ h9 => h9) rfl dX2_placeWhereOut_33 ?_
          refine lv_iload_n hx hb dX2_placeWhereOut_36 rfl (lv_at hl 1 rfl) ?_
          obtain ⟨q3, hq3, hf⟩ := sw_bs hf
          have hPc := hP.sub (ws' := [(aE, .inr (1, [.ref aC, .ref aE_holders])), (aE_holders, .inl (cI, 5, .inl q2))]) [2, 3] rfl
          refine sw_rd (W.runV (As := [.int l1]) (rest := []) ⟨hx, hb, hml, hown, hts⟩ (k_X1_areOutside l dC dI cI cZ t0 aE aC aE_holders q2 l1 q3 hq3) (cwV 1 hts gX2_placeWhereOut_X1_areOutside rfl rfl rfl (by decide +kernel) ⟨Nat.le_of_ble_eq_true rfl, Nat.le_of_ble_eq_true rfl⟩) ⟨sw_PR_bl, va_recv hK hPc (ci := 1) (q0 := 0) rfl rfl, sw_PR_pre hK hPc hE hS⟩ rfl rfl hl.1 rfl (lv_room (Nat.le_of_ble_eq_true rfl)) dX2_placeWhereOut_37 ⟨Nat.zero_le _, Nat.zero_le _⟩) ?_
          refine lv_if_eq (tgt := 45) hx hb dX2_placeWhereOut_40 (by decide) (fun c3 => ?_) (fun c3 => ?_)
          · have hf := sw_ip c3 hf
            refine lv_iinc (v := l2 + (1 : Int32)) (lv' := [(2, .int (l2 + (1 : Int32))), (0, .ref aL), (1, .int l1)]) hx hb dX2_placeWhereOut_45 hl (k := 2) rfl (sw_ii _) (by decide) rfl (fun ls hl => ?_)
            refine lv_goto (tgt := 2) hx hb dX2_placeWhereOut_48 (by decide) ?_
            exact ih q2 (l2 + (1 : Int32)) hf H locs hP hD hS ls (lv_sub hl [1, 2, 0] rfl)
          · have hf := sw_in c3 hf
            refine lv_iload_n hx hb dX2_placeWhereOut_43 rfl (lv_at hl 2 rfl) ?_
            subst hQ hAe
            cases hf
            exact W.iret hx hb hr (fun t ht hW => ⟨⟨_, (), rfl, rfl, ⟨by rw [ht]; exact hP, va_K.moved hW.alike hK, hD⟩⟩, hS.F ht⟩) hS.2.2 dX2_placeWhereOut_44 hlocks
  have hf := hf0
  have hl := hl0
  have hP := hP0
  have hD := hD0
  have hS := hS0
  obtain ⟨H, hH⟩ : ∃ H, H = s.heap := ⟨_, rfl⟩
  obtain ⟨locs, hlo⟩ : ∃ locs : List Loc, locs = [] := ⟨_, rfl⟩
  rw [← hH] at hP
  have hS : va_S A s.heap H locs := by rw [hH, hlo]; exact hS0
  suffices hgo : W p l e rm_X2_placeWhereOut s m ([.ref aL, .int l1] : List Value).toArray below meth c H locs 0 0 Q (F0 m 0 ls []) by rw [hH, hlo] at hgo; exact hgo
  refine lv_iconst (v := 0) hx hb dX2_placeWhereOut_0 (by decide) ?_
  refine lv_istore_n (lv' := [(2, .int (0 : Int32)), (0, .ref aL), (1, .int l1)]) hx hb dX2_placeWhereOut_1 rfl hl (by decide) rfl (fun ls hl => ?_)
  exact hB_2   sw_fu E_holders (0 : Int32) hf H locs hP hD hS ls (lv_sub hl [1, 2, 0] rfl)
abbrev rm_X2_placeWhereTogether : Room := { frames := 1, cells := 0, slots := 0, locals := 23 }
set_option maxHeartbeats 1000000 in
set_option maxRecDepth 100000 in
theorem k_X2_placeWhereTogether (l : Launch) (dC : Nat → ClassId) (dI : Nat → Nat → Nat) (cI cZ : ClassId) (t0 : Nat) (sz : Nat) (aL aC aE aF aL_reached aL_steps aL_firsts aL_isReached aL_answers aE_holders : Nat) (L_total : Int32) (L_startNumber : Int32) (L_startTotal : Int32) (L_reached : Nat → Int32) (E_holders : Nat → Int32) (l1 : Int32) (l2 : Int32) (rv : Int32) (E_holders' : Nat → Int32) (hf : F_X2_placeWhereTogether L_total L_reached E_holders l1 l2 = some (rv, E_holders')) : Met l yX2_placeWhereTogether wsX2_placeWhereTogether rm_X2_placeWhereTogether (sw_PW (dC, dI) t0 [(cI, .int), (cZ, .boolean)] [.ref aL, .int l1, .int l2] [(aL, .inr (2, [.ref aC, .ref aE, .ref aF, .ref aL_reached, .ref aL_steps, .ref aL_firsts, .int L_total, .ref aL_isReached, .ref aL_answers, .int L_startNumber, .int L_startTotal])), (aL_reached, .inl (cI, 1296, .inl L_reached)), (aE, .inr (1, [.ref aC, .ref aE_holders])), (aE_holders, .inl (cI, 5, .inl E_holders))] sz) (va_Qi (fun r (_ : Unit) => r = rv) (fun _ t => sw_B (dC, dI) [(cI, .int), (cZ, .boolean)] [(aL, .inr (2, [.ref aC, .ref aE, .ref aF, .ref aL_reached, .ref aL_steps, .ref aL_firsts, .int L_total, .ref aL_isReached, .ref aL_answers, .int L_startNumber, .int L_startTotal])), (aL_reached, .inl (cI, 1296, .inl L_reached)), (aE, .inr (1, [.ref aC, .ref aE_holders])), (aE_holders, .inl (cI, 5, .inl E_holders'))] (va_A [(aL, .inr (2, [.ref aC, .ref aE, .ref aF, .ref aL_reached, .ref aL_steps, .ref aL_firsts, .int L_total, .ref aL_isReached, .ref aL_answers, .int L_startNumber, .int L_startTotal])), (aL_reached, .inl (cI, 1296, .inl L_reached)), (aE, .inr (1, [.ref aC, .ref aE_holders])), (aE_holders, .inl (cI, 5, .inl E_holders))] sz) t) (va_A [(aL, .inr (2, [.ref aC, .ref aE, .ref aF, .ref aL_reached, .ref aL_steps, .ref aL_firsts, .int L_total, .ref aL_isReached, .ref aL_answers, .int L_startNumber, .int L_startTotal])), (aL_reached, .inl (cI, 1296, .inl L_reached)), (aE, .inr (1, [.ref aC, .ref aE_holders])), (aE_holders, .inl (cI, 5, .inl E_holders))] sz)) 0 0 (va_A [(aL, .inr (2, [.ref aC, .ref aE, .ref aF, .ref aL_reached, .ref aL_steps, .ref aL_firsts, .int L_total, .ref aL_isReached, .ref aL_answers, .int L_startNumber, .int L_startTotal])), (aL_reached, .inl (cI, 1296, .inl L_reached)), (aE, .inr (1, [.ref aC, .ref aE_holders])), (aE_holders, .inl (cI, 5, .inl E_holders))] sz) := by
  refine sw_metW (cc := cX2_placeWhereTogether) (maxL := 4) (ret := (some .int)) (lv := [(0, .ref aL), (1, .int l1), (2, .int l2)]) (by decide) rfl (Nat.le_of_ble_eq_true rfl) rfl ?_
  intro p e s m below meth c Q A hsz hAe hQ hx hb hr hts hown hlocks hml hmn hP hK hD hE hS hA ls hl
  have hS0 := hS
  have hown : s.vm.findClass RX2 = some m.cls := hown
  have hf := (F_X2_placeWhereTogether.eq_1 _ _ _ _ _).symm.trans hf
  have hw1 := hts (.fieldLink RX2 60 "SwallowedInTurn$Outlook" "total" "I") (List.mem_of_getElem? (i := 1) (by decide +kernel))
  have iX2 : ∀ w ∈ u_ws RX2 TX2 11, w ∈ wsX2_placeWhereTogether := by decide +kernel
  have hw2 := hts (.fieldLink RX2 11 "SwallowedInTurn$Outlook" "reached" "[I") (List.mem_of_getElem? (i := 2) (by decide +kernel))
  have hw3 := hts (.fieldLink RX2 44 "SwallowedInTurn$Outlook" "here" "LSwallowedInTurn$Nesting;") (List.mem_of_getElem? (i := 3) (by decide +kernel))
  have hf0 := hf
  clear hf
  have hP0 := hP
  have hD0 := hD
  clear hP hD hS
  have hl0 := hl
  clear hl
  have hB_2 :  ∀ (fu : Nat) (E_holders : Nat → Int32) (l3 : Int32), F_X2_placeWhereTogether_2 L_total L_reached l1 l2 fu E_holders l3 = some (rv, E_holders') → ∀ (H : Heap) (locs : List Loc), va_P (dC, dI) vwCl [(aL, .inr (2, [.ref aC, .ref aE, .ref aF, .ref aL_reached, .ref aL_steps, .ref aL_firsts, .int L_total, .ref aL_isReached, .ref aL_answers, .int L_startNumber, .int L_startTotal])), (aL_reached, .inl (cI, 1296, .inl L_reached)), (aE, .inr (1, [.ref aC, .ref aE_holders])), (aE_holders, .inl (cI, 5, .inl E_holders))] H → va_D A [(aL, .inr (2, [.ref aC, .ref aE, .ref aF, .ref aL_reached, .ref aL_steps, .ref aL_firsts, .int L_total, .ref aL_isReached, .ref aL_answers, .int L_startNumber, .int L_startTotal])), (aL_reached, .inl (cI, 1296, .inl L_reached)), (aE, .inr (1, [.ref aC, .ref aE_holders])), (aE_holders, .inl (cI, 5, .inl E_holders))] → va_S A s.heap H locs → ∀ ls : Array Slot, lv_has ls 4 [(0, .ref aL), (1, .int l1), (2, .int l2), (3, .int l3)] → W p l e rm_X2_placeWhereTogether s m ([.ref aL, .int l1, .int l2] : List Value).toArray below meth c H locs 0 0 Q (F0 m 2 ls []) := by
    intro   fu
    induction fu with
    | zero =>
      intro E_holders l3 hf
      exact nomatch (show (none : Option (Int32 × (Nat → Int32))) = some (rv, E_holders') from hf)
    | succ fu ih =>
      intro E_holders l3 hf H locs hP hD hS ls hl
      have hf := (F_X2_placeWhereTogether_2.eq_2 _ _ _ _ _ _ _).symm.trans hf
      refine lv_iload_n hx hb dX2_placeWhereTogether_2 rfl (lv_at hl 3 rfl) ?_
      refine lv_aload_n hx hb dX2_placeWhereTogether_3 rfl (lv_at hl 0 rfl) ?_
      refine va_get (D := (dC, dI)) (ci := 2) (v := .int L_total) (C := RX2) (T := TX2) (N := 11) hx hb hts iX2 hown hK hP 0 rfl rfl 6 (by decide) hw1 (fun _ h9 => h9) rfl dX2_placeWhereTogether_4 ?_
      refine lv_icmp_ge (tgt := 59) hx hb dX2_placeWhereTogether_7 (by decide) (fun c1 => ?_) (fun c1 => ?_)
      · have hf := sw_ip c1 hf
        refine lv_iconst (v := -1) hx hb dX2_placeWhereTogether_59 (by decide) ?_
        subst hQ hAe
        cases hf
        exact W.iret hx hb hr (fun t ht hW => ⟨⟨_, (), rfl, rfl, ⟨by rw [ht]; exact hP, va_K.moved hW.alike hK, hD⟩⟩, hS.F ht⟩) hS.2.2 dX2_placeWhereTogether_60 hlocks
      · have hf := sw_in c1 hf
        refine lv_iload_n hx hb dX2_placeWhereTogether_10 rfl (lv_at hl 3 rfl) ?_
        refine lv_aload_n hx hb dX2_placeWhereTogether_11 rfl (lv_at hl 0 rfl) ?_
        refine va_get (D := (dC, dI)) (ci := 2) (v := .ref aL_reached) (C := RX2) (T := TX2) (N := 11) hx hb hts iX2 hown hK hP 0 rfl rfl 3 (by decide) hw2 (fun _ h9 => h9) rfl dX2_placeWhereTogether_12 ?_
        refine va_alen hx hb hK hP 1 0 rfl rfl (v := 1296) (show Int32.ofNat 1296 = 1296 by decide +kernel) dX2_placeWhereTogether_15 ?_
        refine lv_icmp_ge (tgt := 59) hx hb dX2_placeWhereTogether_16 (by decide) (fun c2 => ?_) (fun c2 => ?_)
        · have hf := sw_ip c2 hf
          refine lv_iconst (v := -1) hx hb dX2_placeWhereTogether_59 (by decide) ?_
          subst hQ hAe
          cases hf
          exact W.iret hx hb hr (fun t ht hW => ⟨⟨_, (), rfl, rfl, ⟨by rw [ht]; exact hP, va_K.moved hW.alike hK, hD⟩⟩, hS.F ht⟩) hS.2.2 dX2_placeWhereTogether_60 hlocks
        · have hf := sw_in c2 hf
          refine lv_aload_n hx hb dX2_placeWhereTogether_19 rfl (lv_at hl 0 rfl) ?_
          refine va_get (D := (dC, dI)) (ci := 2) (v := .ref aE) (C := RX2) (T := TX2) (N := 11) hx hb hts iX2 hown hK hP 0 rfl rfl 1 (by decide) hw3 (fun _ h9 => h9) rfl dX2_placeWhereTogether_20 ?_
          refine lv_aload_n hx hb dX2_placeWhereTogether_23 rfl (lv_at hl 0 rfl) ?_
          refine va_get (D := (dC, dI)) (ci := 2) (v := .ref aL_reached) (C := RX2) (T := TX2) (N := 11) hx hb hts iX2 hown hK hP 0 rfl rfl 3 (by decide) hw2 (fun _ h9 => h9) rfl dX2_placeWhereTogether_24 ?_
          refine lv_iload_n hx hb dX2_placeWhereTogether_27 rfl (lv_at hl 3 rfl) ?_
          obtain ⟨hi1, hf⟩ := sw_ix_s hf
          refine va_iald hx hb hK hP 1 0 rfl rfl hi1 dX2_placeWhereTogether_28 ?_
          obtain ⟨q2, hq2, hf⟩ := sw_bs hf
          have hPc := hP.sub (ws' := [(aE, .inr (1, [.ref aC, .ref aE_holders])), (aE_holders, .inl (cI, 5, .inl E_holders))]) [2, 3] rfl
          have hDc := hD.sub (ws' := [(aE, .inr (1, [.ref aC, .ref aE_holders])), (aE_holders, .inl (cI, 5, .inl E_holders))]) [2, 3] (by decide) rfl
          have hFc := va_free (wc := [(aE, .inr (1, [.ref aC, .ref aE_holders])), (aE_holders, .inl (cI, 5, .inl E_holders))]) hD hS hA [2, 3] rfl
          refine sw_wv (wn := [(aL, .inr (2, [.ref aC, .ref aE, .ref aF, .ref aL_reached, .ref aL_steps, .ref aL_firsts, .int L_total, .ref aL_isReached, .ref aL_answers, .int L_startNumber, .int L_startTotal])), (aL_reached, .inl (cI, 1296, .inl L_reached)), (aE, .inr (1, [.ref aC, .ref aE_holders])), (aE_holders, .inl (cI, 5, .inl q2))]) (w1 := [(aE, .inr (1, [.ref aC, .ref aE_holders])), (aE_holders, .inl (cI, 5, .inl q2))]) (wr := [(aL, .inr (2, [.ref aC, .ref aE, .ref aF, .ref aL_reached, .ref aL_steps, .ref aL_firsts, .int L_total, .ref aL_isReached, .ref aL_answers, .int L_startNumber, .int L_startTotal])), (aL_reached, .inl (cI, 1296, .inl L_reached))]) (va_runV (As := [.int (L_reached l3.toNatClampNeg)]) (rest := []) ⟨hx, hb, hml, hown, hts⟩ (k_X1_become l dC dI cI cZ t0 H.size aE aC aE_holders E_holders (L_reached l3.toNatClampNeg) q2 hq2) (cwV 1 hts gX2_placeWhereTogether_X1_become rfl rfl rfl (by decide +kernel) ⟨Nat.le_of_ble_eq_true rfl, Nat.le_of_ble_eq_true rfl⟩) ⟨sw_PW_bl, va_recv hK hPc (ci := 1) (q0 := 0) rfl rfl, sw_PW_pre hK hPc hDc hE hS hFc⟩ rfl rfl hl.1 rfl (lv_room (Nat.le_of_ble_eq_true rfl)) dX2_placeWhereTogether_29 ⟨Nat.zero_le _, Nat.zero_le _⟩) hS hP hD hFc [2, 3] [0, 1] [0, 1, 2, 3] rfl rfl (by decide) (by decide) (by decide) rfl (fun H locs hP hD hS => ?_)
          refine lv_aload_n hx hb dX2_placeWhereTogether_32 rfl (lv_at hl 0 rfl) ?_
          refine va_get (D := (dC, dI)) (ci := 2) (v := .ref aE) (C := RX2) (T := TX2) (N := 11) hx hb hts iX2 hown hK hP 0 rfl rfl 1 (by decide) hw3 (fun _ h9 => h9) rfl dX2_placeWhereTogether_33 ?_
          refine lv_iload_n hx hb dX2_placeWhereTogether_36 rfl (lv_at hl 1 rfl) ?_
          obtain ⟨q3, hq3, hf⟩ := sw_bs hf
          have hPc := hP.sub (ws' := [(aE, .inr (1, [.ref aC, .ref aE_holders])), (aE_holders, .inl (cI, 5, .inl q2))]) [2, 3] rfl
          refine sw_rd (W.runV (As := [.int l1]) (rest := []) ⟨hx, hb, hml, hown, hts⟩ (k_X1_holder l dC dI cI cZ t0 aE aC aE_holders q2 l1 q3 hq3) (cwV 1 hts gX2_placeWhereTogether_X1_holder rfl rfl rfl (by decide +kernel) ⟨Nat.le_of_ble_eq_true rfl, Nat.le_of_ble_eq_true rfl⟩) ⟨sw_PR_bl, va_recv hK hPc (ci := 1) (q0 := 0) rfl rfl, sw_PR_pre hK hPc hE hS⟩ rfl rfl hl.1 rfl (lv_room (Nat.le_of_ble_eq_true rfl)) dX2_placeWhereTogether_37 ⟨Nat.zero_le _, Nat.zero_le _⟩) ?_
          refine lv_aload_n hx hb dX2_placeWhereTogether_40 rfl (lv_at hl 0 rfl) ?_
          refine va_get (D := (dC, dI)) (ci := 2) (v := .ref aE) (C := RX2) (T := TX2) (N := 11) hx hb hts iX2 hown hK hP 0 rfl rfl 1 (by decide) hw3 (fun _ h9 => h9) rfl dX2_placeWhereTogether_41 ?_
          refine lv_iload_n hx hb dX2_placeWhereTogether_44 rfl (lv_at hl 2 rfl) ?_
          obtain ⟨q4, hq4, hf⟩ := sw_bs hf
          have hPc := hP.sub (ws' := [(aE, .inr (1, [.ref aC, .ref aE_holders])), (aE_holders, .inl (cI, 5, .inl q2))]) [2, 3] rfl
          refine sw_rd (W.runV (As := [.int l2]) (rest := [.int q3]) ⟨hx, hb, hml, hown, hts⟩ (k_X1_holder l dC dI cI cZ t0 aE aC aE_holders q2 l2 q4 hq4) (cwV 1 hts gX2_placeWhereTogether_X1_holder rfl rfl rfl (by decide +kernel) ⟨Nat.le_of_ble_eq_true rfl, Nat.le_of_ble_eq_true rfl⟩) ⟨sw_PR_bl, va_recv hK hPc (ci := 1) (q0 := 0) rfl rfl, sw_PR_pre hK hPc hE hS⟩ rfl rfl hl.1 rfl (lv_room (Nat.le_of_ble_eq_true rfl)) dX2_placeWhereTogether_45 ⟨Nat.zero_le _, Nat.zero_le _⟩) ?_
          refine lv_icmp_ne (tgt := 53) hx hb dX2_placeWhereTogether_48 (by decide) (fun c3 => ?_) (fun c3 => ?_)
          · have hf := sw_in c3 hf
            refine lv_iinc (v := l3 + (1 : Int32)) (lv' := [(3, .int (l3 + (1 : Int32))), (0, .ref aL), (1, .int l1), (2, .int l2)]) hx hb dX2_placeWhereTogether_53 hl (k := 3) rfl (sw_ii _) (by decide) rfl (fun ls hl => ?_)
            refine lv_goto (tgt := 2) hx hb dX2_placeWhereTogether_56 (by decide) ?_
            exact ih q2 (l3 + (1 : Int32)) hf H locs hP hD hS ls (lv_sub hl [1, 2, 3, 0] rfl)
          · have hf := sw_ip c3 hf
            refine lv_iload_n hx hb dX2_placeWhereTogether_51 rfl (lv_at hl 3 rfl) ?_
            subst hQ hAe
            cases hf
            exact W.iret hx hb hr (fun t ht hW => ⟨⟨_, (), rfl, rfl, ⟨by rw [ht]; exact hP, va_K.moved hW.alike hK, hD⟩⟩, hS.F ht⟩) hS.2.2 dX2_placeWhereTogether_52 hlocks
  have hf := hf0
  have hl := hl0
  have hP := hP0
  have hD := hD0
  have hS := hS0
  obtain ⟨H, hH⟩ : ∃ H, H = s.heap := ⟨_, rfl⟩
  obtain ⟨locs, hlo⟩ : ∃ locs : List Loc, locs = [] := ⟨_, rfl⟩
  rw [← hH] at hP
  have hS : va_S A s.heap H locs := by rw [hH, hlo]; exact hS0
  suffices hgo : W p l e rm_X2_placeWhereTogether s m ([.ref aL, .int l1, .int l2] : List Value).toArray below meth c H locs 0 0 Q (F0 m 0 ls []) by rw [hH, hlo] at hgo; exact hgo
  refine lv_iconst (v := 0) hx hb dX2_placeWhereTogether_0 (by decide) ?_
  refine lv_istore_n (lv' := [(3, .int (0 : Int32)), (0, .ref aL), (1, .int l1), (2, .int l2)]) hx hb dX2_placeWhereTogether_1 rfl hl (by decide) rfl (fun ls hl => ?_)
  exact hB_2   sw_fu E_holders (0 : Int32) hf H locs hP hD hS ls (lv_sub hl [1, 2, 3, 0] rfl)
abbrev rm_X2_mostWalls : Room := { frames := 2, cells := 0, slots := 0, locals := 44 }
set_option maxHeartbeats 1000000 in
set_option maxRecDepth 100000 in
theorem k_X2_mostWalls (l : Launch) (dC : Nat → ClassId) (dI : Nat → Nat → Nat) (cI cZ : ClassId) (t0 : Nat) (sz : Nat) (aL aC aE aF aL_reached aL_steps aL_firsts aL_isReached aL_answers aE_holders : Nat) (L_total : Int32) (L_startNumber : Int32) (L_startTotal : Int32) (L_reached : Nat → Int32) (E_holders : Nat → Int32) (l1 : Int32) (rv : Int32) (E_holders' : Nat → Int32) (hf : F_X2_mostWalls L_total L_reached E_holders l1 = some (rv, E_holders')) : Met l yX2_mostWalls wsX2_mostWalls rm_X2_mostWalls (sw_PW (dC, dI) t0 [(cI, .int), (cZ, .boolean)] [.ref aL, .int l1] [(aL, .inr (2, [.ref aC, .ref aE, .ref aF, .ref aL_reached, .ref aL_steps, .ref aL_firsts, .int L_total, .ref aL_isReached, .ref aL_answers, .int L_startNumber, .int L_startTotal])), (aL_reached, .inl (cI, 1296, .inl L_reached)), (aE, .inr (1, [.ref aC, .ref aE_holders])), (aE_holders, .inl (cI, 5, .inl E_holders))] sz) (va_Qi (fun r (_ : Unit) => r = rv) (fun _ t => sw_B (dC, dI) [(cI, .int), (cZ, .boolean)] [(aL, .inr (2, [.ref aC, .ref aE, .ref aF, .ref aL_reached, .ref aL_steps, .ref aL_firsts, .int L_total, .ref aL_isReached, .ref aL_answers, .int L_startNumber, .int L_startTotal])), (aL_reached, .inl (cI, 1296, .inl L_reached)), (aE, .inr (1, [.ref aC, .ref aE_holders])), (aE_holders, .inl (cI, 5, .inl E_holders'))] (va_A [(aL, .inr (2, [.ref aC, .ref aE, .ref aF, .ref aL_reached, .ref aL_steps, .ref aL_firsts, .int L_total, .ref aL_isReached, .ref aL_answers, .int L_startNumber, .int L_startTotal])), (aL_reached, .inl (cI, 1296, .inl L_reached)), (aE, .inr (1, [.ref aC, .ref aE_holders])), (aE_holders, .inl (cI, 5, .inl E_holders))] sz) t) (va_A [(aL, .inr (2, [.ref aC, .ref aE, .ref aF, .ref aL_reached, .ref aL_steps, .ref aL_firsts, .int L_total, .ref aL_isReached, .ref aL_answers, .int L_startNumber, .int L_startTotal])), (aL_reached, .inl (cI, 1296, .inl L_reached)), (aE, .inr (1, [.ref aC, .ref aE_holders])), (aE_holders, .inl (cI, 5, .inl E_holders))] sz)) 0 0 (va_A [(aL, .inr (2, [.ref aC, .ref aE, .ref aF, .ref aL_reached, .ref aL_steps, .ref aL_firsts, .int L_total, .ref aL_isReached, .ref aL_answers, .int L_startNumber, .int L_startTotal])), (aL_reached, .inl (cI, 1296, .inl L_reached)), (aE, .inr (1, [.ref aC, .ref aE_holders])), (aE_holders, .inl (cI, 5, .inl E_holders))] sz) := by
  refine sw_metW (cc := cX2_mostWalls) (maxL := 4) (ret := (some .int)) (lv := [(0, .ref aL), (1, .int l1)]) (by decide) rfl (Nat.le_of_ble_eq_true rfl) rfl ?_
  intro p e s m below meth c Q A hsz hAe hQ hx hb hr hts hown hlocks hml hmn hP hK hD hE hS hA ls hl
  have hS0 := hS
  have hown : s.vm.findClass RX2 = some m.cls := hown
  have hf := (F_X2_mostWalls.eq_1 _ _ _ _).symm.trans hf
  have hw1 := hts (.fieldLink RX2 60 "SwallowedInTurn$Outlook" "total" "I") (List.mem_of_getElem? (i := 1) (by decide +kernel))
  have iX2 : ∀ w ∈ u_ws RX2 TX2 11, w ∈ wsX2_mostWalls := by decide +kernel
  have hw2 := hts (.fieldLink RX2 11 "SwallowedInTurn$Outlook" "reached" "[I") (List.mem_of_getElem? (i := 2) (by decide +kernel))
  have hw3 := hts (.fieldLink RX2 44 "SwallowedInTurn$Outlook" "here" "LSwallowedInTurn$Nesting;") (List.mem_of_getElem? (i := 3) (by decide +kernel))
  have hw4 := hts (.methodLink RX2 103 Lib.Math.max.name) (List.mem_of_getElem? (i := 4) (by decide +kernel))
  have hw5 := hts (.static Lib.Math.max.name) (List.mem_of_getElem? (i := 5) (by decide +kernel))
  have hw6 := hts (.initialized "java/lang/Math") (List.mem_of_getElem? (i := 6) (by decide +kernel))
  have hw7 := hts (.code Lib.Math.max.name Lib.Math.max.code 2 (some .int)) (List.mem_of_getElem? (i := 7) (by decide +kernel))
  have hf0 := hf
  clear hf
  have hP0 := hP
  have hD0 := hD
  clear hP hD hS
  have hl0 := hl
  clear hl
  have hB_4 :  ∀ (fu : Nat) (E_holders : Nat → Int32) (l2 : Int32) (l3 : Int32), F_X2_mostWalls_4 L_total L_reached l1 fu E_holders l2 l3 = some (rv, E_holders') → ∀ (H : Heap) (locs : List Loc), va_P (dC, dI) vwCl [(aL, .inr (2, [.ref aC, .ref aE, .ref aF, .ref aL_reached, .ref aL_steps, .ref aL_firsts, .int L_total, .ref aL_isReached, .ref aL_answers, .int L_startNumber, .int L_startTotal])), (aL_reached, .inl (cI, 1296, .inl L_reached)), (aE, .inr (1, [.ref aC, .ref aE_holders])), (aE_holders, .inl (cI, 5, .inl E_holders))] H → va_D A [(aL, .inr (2, [.ref aC, .ref aE, .ref aF, .ref aL_reached, .ref aL_steps, .ref aL_firsts, .int L_total, .ref aL_isReached, .ref aL_answers, .int L_startNumber, .int L_startTotal])), (aL_reached, .inl (cI, 1296, .inl L_reached)), (aE, .inr (1, [.ref aC, .ref aE_holders])), (aE_holders, .inl (cI, 5, .inl E_holders))] → va_S A s.heap H locs → ∀ ls : Array Slot, lv_has ls 4 [(0, .ref aL), (1, .int l1), (2, .int l2), (3, .int l3)] → W p l e rm_X2_mostWalls s m ([.ref aL, .int l1] : List Value).toArray below meth c H locs 0 0 Q (F0 m 4 ls []) := by
    intro   fu
    induction fu with
    | zero =>
      intro E_holders l2 l3 hf
      exact nomatch (show (none : Option (Int32 × (Nat → Int32))) = some (rv, E_holders') from hf)
    | succ fu ih =>
      intro E_holders l2 l3 hf H locs hP hD hS ls hl
      have hf := (F_X2_mostWalls_4.eq_2 _ _ _ _ _ _ _).symm.trans hf
      refine lv_iload_n hx hb dX2_mostWalls_4 rfl (lv_at hl 3 rfl) ?_
      refine lv_aload_n hx hb dX2_mostWalls_5 rfl (lv_at hl 0 rfl) ?_
      refine va_get (D := (dC, dI)) (ci := 2) (v := .int L_total) (C := RX2) (T := TX2) (N := 11) hx hb hts iX2 hown hK hP 0 rfl rfl 6 (by decide) hw1 (fun _ h9 => h9) rfl dX2_mostWalls_6 ?_
      refine lv_icmp_ge (tgt := 53) hx hb dX2_mostWalls_9 (by decide) (fun c1 => ?_) (fun c1 => ?_)
      · have hf := sw_ip c1 hf
        refine lv_iload_n hx hb dX2_mostWalls_53 rfl (lv_at hl 2 rfl) ?_
        subst hQ hAe
        cases hf
        exact W.iret hx hb hr (fun t ht hW => ⟨⟨_, (), rfl, rfl, ⟨by rw [ht]; exact hP, va_K.moved hW.alike hK, hD⟩⟩, hS.F ht⟩) hS.2.2 dX2_mostWalls_54 hlocks
      · have hf := sw_in c1 hf
        refine lv_iload_n hx hb dX2_mostWalls_12 rfl (lv_at hl 3 rfl) ?_
        refine lv_aload_n hx hb dX2_mostWalls_13 rfl (lv_at hl 0 rfl) ?_
        refine va_get (D := (dC, dI)) (ci := 2) (v := .ref aL_reached) (C := RX2) (T := TX2) (N := 11) hx hb hts iX2 hown hK hP 0 rfl rfl 3 (by decide) hw2 (fun _ h9 => h9) rfl dX2_mostWalls_14 ?_
        refine va_alen hx hb hK hP 1 0 rfl rfl (v := 1296) (show Int32.ofNat 1296 = 1296 by decide +kernel) dX2_mostWalls_17 ?_
        refine lv_icmp_ge (tgt := 53) hx hb dX2_mostWalls_18 (by decide) (fun c2 => ?_) (fun c2 => ?_)
        · have hf := sw_ip c2 hf
          refine lv_iload_n hx hb dX2_mostWalls_53 rfl (lv_at hl 2 rfl) ?_
          subst hQ hAe
          cases hf
          exact W.iret hx hb hr (fun t ht hW => ⟨⟨_, (), rfl, rfl, ⟨by rw [ht]; exact hP, va_K.moved hW.alike hK, hD⟩⟩, hS.F ht⟩) hS.2.2 dX2_mostWalls_54 hlocks
        · have hf := sw_in c2 hf
          refine lv_aload_n hx hb dX2_mostWalls_21 rfl (lv_at hl 0 rfl) ?_
          refine va_get (D := (dC, dI)) (ci := 2) (v := .ref aE) (C := RX2) (T := TX2) (N := 11) hx hb hts iX2 hown hK hP 0 rfl rfl 1 (by decide) hw3 (fun _ h9 => h9) rfl dX2_mostWalls_22 ?_
          refine lv_aload_n hx hb dX2_mostWalls_25 rfl (lv_at hl 0 rfl) ?_
          refine va_get (D := (dC, dI)) (ci := 2) (v := .ref aL_reached) (C := RX2) (T := TX2) (N := 11) hx hb hts iX2 hown hK hP 0 rfl rfl 3 (by decide) hw2 (fun _ h9 => h9) rfl dX2_mostWalls_26 ?_
          refine lv_iload_n hx hb dX2_mostWalls_29 rfl (lv_at hl 3 rfl) ?_
          obtain ⟨hi1, hf⟩ := sw_ix_s hf
          refine va_iald hx hb hK hP 1 0 rfl rfl hi1 dX2_mostWalls_30 ?_
          obtain ⟨q2, hq2, hf⟩ := sw_bs hf
          have hPc := hP.sub (ws' := [(aE, .inr (1, [.ref aC, .ref aE_holders])), (aE_holders, .inl (cI, 5, .inl E_holders))]) [2, 3] rfl
          have hDc := hD.sub (ws' := [(aE, .inr (1, [.ref aC, .ref aE_holders])), (aE_holders, .inl (cI, 5, .inl E_holders))]) [2, 3] (by decide) rfl
          have hFc := va_free (wc := [(aE, .inr (1, [.ref aC, .ref aE_holders])), (aE_holders, .inl (cI, 5, .inl E_holders))]) hD hS hA [2, 3] rfl
          refine sw_wv (wn := [(aL, .inr (2, [.ref aC, .ref aE, .ref aF, .ref aL_reached, .ref aL_steps, .ref aL_firsts, .int L_total, .ref aL_isReached, .ref aL_answers, .int L_startNumber, .int L_startTotal])), (aL_reached, .inl (cI, 1296, .inl L_reached)), (aE, .inr (1, [.ref aC, .ref aE_holders])), (aE_holders, .inl (cI, 5, .inl q2))]) (w1 := [(aE, .inr (1, [.ref aC, .ref aE_holders])), (aE_holders, .inl (cI, 5, .inl q2))]) (wr := [(aL, .inr (2, [.ref aC, .ref aE, .ref aF, .ref aL_reached, .ref aL_steps, .ref aL_firsts, .int L_total, .ref aL_isReached, .ref aL_answers, .int L_startNumber, .int L_startTotal])), (aL_reached, .inl (cI, 1296, .inl L_reached))]) (va_runV (As := [.int (L_reached l3.toNatClampNeg)]) (rest := []) ⟨hx, hb, hml, hown, hts⟩ (k_X1_become l dC dI cI cZ t0 H.size aE aC aE_holders E_holders (L_reached l3.toNatClampNeg) q2 hq2) (cwV 1 hts gX2_mostWalls_X1_become rfl rfl rfl (by decide +kernel) ⟨Nat.le_of_ble_eq_true rfl, Nat.le_of_ble_eq_true rfl⟩) ⟨sw_PW_bl, va_recv hK hPc (ci := 1) (q0 := 0) rfl rfl, sw_PW_pre hK hPc hDc hE hS hFc⟩ rfl rfl hl.1 rfl (lv_room (Nat.le_of_ble_eq_true rfl)) dX2_mostWalls_31 ⟨Nat.zero_le _, Nat.zero_le _⟩) hS hP hD hFc [2, 3] [0, 1] [0, 1, 2, 3] rfl rfl (by decide) (by decide) (by decide) rfl (fun H locs hP hD hS => ?_)
          refine lv_iload_n hx hb dX2_mostWalls_34 rfl (lv_at hl 2 rfl) ?_
          refine lv_aload_n hx hb dX2_mostWalls_35 rfl (lv_at hl 0 rfl) ?_
          refine va_get (D := (dC, dI)) (ci := 2) (v := .ref aE) (C := RX2) (T := TX2) (N := 11) hx hb hts iX2 hown hK hP 0 rfl rfl 1 (by decide) hw3 (fun _ h9 => h9) rfl dX2_mostWalls_36 ?_
          refine lv_iload_n hx hb dX2_mostWalls_39 rfl (lv_at hl 1 rfl) ?_
          obtain ⟨q3, hq3, hf⟩ := sw_bs hf
          have hPc := hP.sub (ws' := [(aE, .inr (1, [.ref aC, .ref aE_holders])), (aE_holders, .inl (cI, 5, .inl q2))]) [2, 3] rfl
          refine sw_rd (W.runV (As := [.int l1]) (rest := [.int l2]) ⟨hx, hb, hml, hown, hts⟩ (k_X1_walls l dC dI cI cZ t0 aE aC aE_holders q2 l1 q3 hq3) (cwV 1 hts gX2_mostWalls_X1_walls rfl rfl rfl (by decide +kernel) ⟨Nat.le_of_ble_eq_true rfl, Nat.le_of_ble_eq_true rfl⟩) ⟨sw_PR_bl, va_recv hK hPc (ci := 1) (q0 := 0) rfl rfl, sw_PR_pre hK hPc hE hS⟩ rfl rfl hl.1 rfl (lv_room (Nat.le_of_ble_eq_true rfl)) dX2_mostWalls_40 ⟨Nat.zero_le _, Nat.zero_le _⟩) ?_
          refine va_mmax hx hb (hml.trans hl.1.symm) hown hw4 hw5 hw6 hw7 (Nat.le_of_ble_eq_true rfl) (Nat.le_of_ble_eq_true rfl) (Nat.zero_le _) (Nat.zero_le _) dX2_mostWalls_43 ?_
          refine lv_istore_n (lv' := [(2, .int (if l2 < q3 then q3 else l2)), (0, .ref aL), (1, .int l1), (3, .int l3)]) hx hb dX2_mostWalls_46 rfl hl (by decide) rfl (fun ls hl => ?_)
          refine lv_iinc (v := l3 + (1 : Int32)) (lv' := [(3, .int (l3 + (1 : Int32))), (2, .int (if l2 < q3 then q3 else l2)), (0, .ref aL), (1, .int l1)]) hx hb dX2_mostWalls_47 hl (k := 3) rfl (sw_ii _) (by decide) rfl (fun ls hl => ?_)
          refine lv_goto (tgt := 4) hx hb dX2_mostWalls_50 (by decide) ?_
          exact ih q2 (if l2 < q3 then q3 else l2) (l3 + (1 : Int32)) hf H locs hP hD hS ls (lv_sub hl [2, 3, 1, 0] rfl)
  have hf := hf0
  have hl := hl0
  have hP := hP0
  have hD := hD0
  have hS := hS0
  obtain ⟨H, hH⟩ : ∃ H, H = s.heap := ⟨_, rfl⟩
  obtain ⟨locs, hlo⟩ : ∃ locs : List Loc, locs = [] := ⟨_, rfl⟩
  rw [← hH] at hP
  have hS : va_S A s.heap H locs := by rw [hH, hlo]; exact hS0
  suffices hgo : W p l e rm_X2_mostWalls s m ([.ref aL, .int l1] : List Value).toArray below meth c H locs 0 0 Q (F0 m 0 ls []) by rw [hH, hlo] at hgo; exact hgo
  refine lv_iconst (v := 0) hx hb dX2_mostWalls_0 (by decide) ?_
  refine lv_istore_n (lv' := [(2, .int (0 : Int32)), (0, .ref aL), (1, .int l1)]) hx hb dX2_mostWalls_1 rfl hl (by decide) rfl (fun ls hl => ?_)
  refine lv_iconst (v := 0) hx hb dX2_mostWalls_2 (by decide) ?_
  refine lv_istore_n (lv' := [(3, .int (0 : Int32)), (2, .int (0 : Int32)), (0, .ref aL), (1, .int l1)]) hx hb dX2_mostWalls_3 rfl hl (by decide) rfl (fun ls hl => ?_)
  exact hB_4   sw_fu E_holders (0 : Int32) (0 : Int32) hf H locs hP hD hS ls (lv_sub hl [2, 3, 1, 0] rfl)
abbrev rm_X2_fitting : Room := { frames := 4, cells := 0, slots := 0, locals := 90 }
set_option maxHeartbeats 1000000 in
set_option maxRecDepth 100000 in
theorem k_X2_fitting (l : Launch) (dC : Nat → ClassId) (dI : Nat → Nat → Nat) (cI cZ : ClassId) (t0 : Nat) (sz : Nat) (aC aC_traits aL aE aF aL_reached aL_steps aL_firsts aL_isReached aL_answers aE_holders aT aT_tellers aT_heard : Nat) (C_total : Int32) (L_total : Int32) (L_startNumber : Int32) (L_startTotal : Int32) (L_reached : Nat → Int32) (E_holders : Nat → Int32) (T_length : Int32) (T_tellers : Nat → Int32) (T_heard : Nat → Int32) (rv : Int32) (E_holders' : Nat → Int32) (hf : F_X2_fitting C_total L_total L_reached E_holders T_length T_tellers T_heard = some (rv, E_holders')) : Met l yX2_fitting wsX2_fitting rm_X2_fitting (sw_PW (dC, dI) t0 [(cI, .int), (cZ, .boolean)] [.ref aL, .ref aT] [(aC, .inr (0, [.ref aC_traits, .int C_total])), (aL, .inr (2, [.ref aC, .ref aE, .ref aF, .ref aL_reached, .ref aL_steps, .ref aL_firsts, .int L_total, .ref aL_isReached, .ref aL_answers, .int L_startNumber, .int L_startTotal])), (aL_reached, .inl (cI, 1296, .inl L_reached)), (aE, .inr (1, [.ref aC, .ref aE_holders])), (aE_holders, .inl (cI, 5, .inl E_holders)), (aT, .inr (4, [.ref aT_tellers, .ref aT_heard, .int T_length])), (aT_tellers, .inl (cI, 4, .inl T_tellers)), (aT_heard, .inl (cI, 4, .inl T_heard))] sz) (va_Qi (fun r (_ : Unit) => r = rv) (fun _ t => sw_B (dC, dI) [(cI, .int), (cZ, .boolean)] [(aC, .inr (0, [.ref aC_traits, .int C_total])), (aL, .inr (2, [.ref aC, .ref aE, .ref aF, .ref aL_reached, .ref aL_steps, .ref aL_firsts, .int L_total, .ref aL_isReached, .ref aL_answers, .int L_startNumber, .int L_startTotal])), (aL_reached, .inl (cI, 1296, .inl L_reached)), (aE, .inr (1, [.ref aC, .ref aE_holders])), (aE_holders, .inl (cI, 5, .inl E_holders')), (aT, .inr (4, [.ref aT_tellers, .ref aT_heard, .int T_length])), (aT_tellers, .inl (cI, 4, .inl T_tellers)), (aT_heard, .inl (cI, 4, .inl T_heard))] (va_A [(aC, .inr (0, [.ref aC_traits, .int C_total])), (aL, .inr (2, [.ref aC, .ref aE, .ref aF, .ref aL_reached, .ref aL_steps, .ref aL_firsts, .int L_total, .ref aL_isReached, .ref aL_answers, .int L_startNumber, .int L_startTotal])), (aL_reached, .inl (cI, 1296, .inl L_reached)), (aE, .inr (1, [.ref aC, .ref aE_holders])), (aE_holders, .inl (cI, 5, .inl E_holders)), (aT, .inr (4, [.ref aT_tellers, .ref aT_heard, .int T_length])), (aT_tellers, .inl (cI, 4, .inl T_tellers)), (aT_heard, .inl (cI, 4, .inl T_heard))] sz) t) (va_A [(aC, .inr (0, [.ref aC_traits, .int C_total])), (aL, .inr (2, [.ref aC, .ref aE, .ref aF, .ref aL_reached, .ref aL_steps, .ref aL_firsts, .int L_total, .ref aL_isReached, .ref aL_answers, .int L_startNumber, .int L_startTotal])), (aL_reached, .inl (cI, 1296, .inl L_reached)), (aE, .inr (1, [.ref aC, .ref aE_holders])), (aE_holders, .inl (cI, 5, .inl E_holders)), (aT, .inr (4, [.ref aT_tellers, .ref aT_heard, .int T_length])), (aT_tellers, .inl (cI, 4, .inl T_tellers)), (aT_heard, .inl (cI, 4, .inl T_heard))] sz)) 0 0 (va_A [(aC, .inr (0, [.ref aC_traits, .int C_total])), (aL, .inr (2, [.ref aC, .ref aE, .ref aF, .ref aL_reached, .ref aL_steps, .ref aL_firsts, .int L_total, .ref aL_isReached, .ref aL_answers, .int L_startNumber, .int L_startTotal])), (aL_reached, .inl (cI, 1296, .inl L_reached)), (aE, .inr (1, [.ref aC, .ref aE_holders])), (aE_holders, .inl (cI, 5, .inl E_holders)), (aT, .inr (4, [.ref aT_tellers, .ref aT_heard, .int T_length])), (aT_tellers, .inl (cI, 4, .inl T_tellers)), (aT_heard, .inl (cI, 4, .inl T_heard))] sz) := by
  refine sw_metW (cc := cX2_fitting) (maxL := 4) (ret := (some .int)) (lv := [(0, .ref aL), (1, .ref aT)]) (by decide) rfl (Nat.le_of_ble_eq_true rfl) rfl ?_
  intro p e s m below meth c Q A hsz hAe hQ hx hb hr hts hown hlocks hml hmn hP hK hD hE hS hA ls hl
  have hS0 := hS
  have hown : s.vm.findClass RX2 = some m.cls := hown
  have hf := (F_X2_fitting.eq_1 _ _ _ _ _ _ _).symm.trans hf
  have hw1 := hts (.fieldLink RX2 60 "SwallowedInTurn$Outlook" "total" "I") (List.mem_of_getElem? (i := 1) (by decide +kernel))
  have iX2 : ∀ w ∈ u_ws RX2 TX2 11, w ∈ wsX2_fitting := by decide +kernel
  have hw2 := hts (.fieldLink RX2 11 "SwallowedInTurn$Outlook" "reached" "[I") (List.mem_of_getElem? (i := 2) (by decide +kernel))
  have hw3 := hts (.fieldLink RX2 44 "SwallowedInTurn$Outlook" "here" "LSwallowedInTurn$Nesting;") (List.mem_of_getElem? (i := 3) (by decide +kernel))
  have hf0 := hf
  clear hf
  have hP0 := hP
  have hD0 := hD
  clear hP hD hS
  have hl0 := hl
  clear hl
  have hB_4 :  ∀ (fu : Nat) (E_holders : Nat → Int32) (l2 : Int32) (l3 : Int32), F_X2_fitting_4 C_total L_total L_reached T_length T_tellers T_heard fu E_holders l2 l3 = some (rv, E_holders') → ∀ (H : Heap) (locs : List Loc), va_P (dC, dI) vwCl [(aC, .inr (0, [.ref aC_traits, .int C_total])), (aL, .inr (2, [.ref aC, .ref aE, .ref aF, .ref aL_reached, .ref aL_steps, .ref aL_firsts, .int L_total, .ref aL_isReached, .ref aL_answers, .int L_startNumber, .int L_startTotal])), (aL_reached, .inl (cI, 1296, .inl L_reached)), (aE, .inr (1, [.ref aC, .ref aE_holders])), (aE_holders, .inl (cI, 5, .inl E_holders)), (aT, .inr (4, [.ref aT_tellers, .ref aT_heard, .int T_length])), (aT_tellers, .inl (cI, 4, .inl T_tellers)), (aT_heard, .inl (cI, 4, .inl T_heard))] H → va_D A [(aC, .inr (0, [.ref aC_traits, .int C_total])), (aL, .inr (2, [.ref aC, .ref aE, .ref aF, .ref aL_reached, .ref aL_steps, .ref aL_firsts, .int L_total, .ref aL_isReached, .ref aL_answers, .int L_startNumber, .int L_startTotal])), (aL_reached, .inl (cI, 1296, .inl L_reached)), (aE, .inr (1, [.ref aC, .ref aE_holders])), (aE_holders, .inl (cI, 5, .inl E_holders)), (aT, .inr (4, [.ref aT_tellers, .ref aT_heard, .int T_length])), (aT_tellers, .inl (cI, 4, .inl T_tellers)), (aT_heard, .inl (cI, 4, .inl T_heard))] → va_S A s.heap H locs → ∀ ls : Array Slot, lv_has ls 4 [(0, .ref aL), (1, .ref aT), (2, .int l2), (3, .int l3)] → W p l e rm_X2_fitting s m ([.ref aL, .ref aT] : List Value).toArray below meth c H locs 0 0 Q (F0 m 4 ls []) := by
    intro   fu
    induction fu with
    | zero =>
      intro E_holders l2 l3 hf
      exact nomatch (show (none : Option (Int32 × (Nat → Int32))) = some (rv, E_holders') from hf)
    | succ fu ih =>
      intro E_holders l2 l3 hf H locs hP hD hS ls hl
      have hf := (F_X2_fitting_4.eq_2 _ _ _ _ _ _ _ _ _ _).symm.trans hf
      refine lv_iload_n hx hb dX2_fitting_4 rfl (lv_at hl 3 rfl) ?_
      refine lv_aload_n hx hb dX2_fitting_5 rfl (lv_at hl 0 rfl) ?_
      refine va_get (D := (dC, dI)) (ci := 2) (v := .int L_total) (C := RX2) (T := TX2) (N := 11) hx hb hts iX2 hown hK hP 1 rfl rfl 6 (by decide) hw1 (fun _ h9 => h9) rfl dX2_fitting_6 ?_
      refine lv_icmp_ge (tgt := 54) hx hb dX2_fitting_9 (by decide) (fun c1 => ?_) (fun c1 => ?_)
      · have hf := sw_ip c1 hf
        refine lv_iload_n hx hb dX2_fitting_54 rfl (lv_at hl 2 rfl) ?_
        subst hQ hAe
        cases hf
        exact W.iret hx hb hr (fun t ht hW => ⟨⟨_, (), rfl, rfl, ⟨by rw [ht]; exact hP, va_K.moved hW.alike hK, hD⟩⟩, hS.F ht⟩) hS.2.2 dX2_fitting_55 hlocks
      · have hf := sw_in c1 hf
        refine lv_iload_n hx hb dX2_fitting_12 rfl (lv_at hl 3 rfl) ?_
        refine lv_aload_n hx hb dX2_fitting_13 rfl (lv_at hl 0 rfl) ?_
        refine va_get (D := (dC, dI)) (ci := 2) (v := .ref aL_reached) (C := RX2) (T := TX2) (N := 11) hx hb hts iX2 hown hK hP 1 rfl rfl 3 (by decide) hw2 (fun _ h9 => h9) rfl dX2_fitting_14 ?_
        refine va_alen hx hb hK hP 2 0 rfl rfl (v := 1296) (show Int32.ofNat 1296 = 1296 by decide +kernel) dX2_fitting_17 ?_
        refine lv_icmp_ge (tgt := 54) hx hb dX2_fitting_18 (by decide) (fun c2 => ?_) (fun c2 => ?_)
        · have hf := sw_ip c2 hf
          refine lv_iload_n hx hb dX2_fitting_54 rfl (lv_at hl 2 rfl) ?_
          subst hQ hAe
          cases hf
          exact W.iret hx hb hr (fun t ht hW => ⟨⟨_, (), rfl, rfl, ⟨by rw [ht]; exact hP, va_K.moved hW.alike hK, hD⟩⟩, hS.F ht⟩) hS.2.2 dX2_fitting_55 hlocks
        · have hf := sw_in c2 hf
          refine lv_aload_n hx hb dX2_fitting_21 rfl (lv_at hl 0 rfl) ?_
          refine va_get (D := (dC, dI)) (ci := 2) (v := .ref aE) (C := RX2) (T := TX2) (N := 11) hx hb hts iX2 hown hK hP 1 rfl rfl 1 (by decide) hw3 (fun _ h9 => h9) rfl dX2_fitting_22 ?_
          refine lv_aload_n hx hb dX2_fitting_25 rfl (lv_at hl 0 rfl) ?_
          refine va_get (D := (dC, dI)) (ci := 2) (v := .ref aL_reached) (C := RX2) (T := TX2) (N := 11) hx hb hts iX2 hown hK hP 1 rfl rfl 3 (by decide) hw2 (fun _ h9 => h9) rfl dX2_fitting_26 ?_
          refine lv_iload_n hx hb dX2_fitting_29 rfl (lv_at hl 3 rfl) ?_
          obtain ⟨hi1, hf⟩ := sw_ix_s hf
          refine va_iald hx hb hK hP 2 0 rfl rfl hi1 dX2_fitting_30 ?_
          obtain ⟨q2, hq2, hf⟩ := sw_bs hf
          have hPc := hP.sub (ws' := [(aE, .inr (1, [.ref aC, .ref aE_holders])), (aE_holders, .inl (cI, 5, .inl E_holders))]) [3, 4] rfl
          have hDc := hD.sub (ws' := [(aE, .inr (1, [.ref aC, .ref aE_holders])), (aE_holders, .inl (cI, 5, .inl E_holders))]) [3, 4] (by decide) rfl
          have hFc := va_free (wc := [(aE, .inr (1, [.ref aC, .ref aE_holders])), (aE_holders, .inl (cI, 5, .inl E_holders))]) hD hS hA [3, 4] rfl
          refine sw_wv (wn := [(aC, .inr (0, [.ref aC_traits, .int C_total])), (aL, .inr (2, [.ref aC, .ref aE, .ref aF, .ref aL_reached, .ref aL_steps, .ref aL_firsts, .int L_total, .ref aL_isReached, .ref aL_answers, .int L_startNumber, .int L_startTotal])), (aL_reached, .inl (cI, 1296, .inl L_reached)), (aE, .inr (1, [.ref aC, .ref aE_holders])), (aE_holders, .inl (cI, 5, .inl q2)), (aT, .inr (4, [.ref aT_tellers, .ref aT_heard, .int T_length])), (aT_tellers, .inl (cI, 4, .inl T_tellers)), (aT_heard, .inl (cI, 4, .inl T_heard))]) (w1 := [(aE, .inr (1, [.ref aC, .ref aE_holders])), (aE_holders, .inl (cI, 5, .inl q2))]) (wr := [(aC, .inr (0, [.ref aC_traits, .int C_total])), (aL, .inr (2, [.ref aC, .ref aE, .ref aF, .ref aL_reached, .ref aL_steps, .ref aL_firsts, .int L_total, .ref aL_isReached, .ref aL_answers, .int L_startNumber, .int L_startTotal])), (aL_reached, .inl (cI, 1296, .inl L_reached)), (aT, .inr (4, [.ref aT_tellers, .ref aT_heard, .int T_length])), (aT_tellers, .inl (cI, 4, .inl T_tellers)), (aT_heard, .inl (cI, 4, .inl T_heard))]) (va_runV (As := [.int (L_reached l3.toNatClampNeg)]) (rest := []) ⟨hx, hb, hml, hown, hts⟩ (k_X1_become l dC dI cI cZ t0 H.size aE aC aE_holders E_holders (L_reached l3.toNatClampNeg) q2 hq2) (cwV 1 hts gX2_fitting_X1_become rfl rfl rfl (by decide +kernel) ⟨Nat.le_of_ble_eq_true rfl, Nat.le_of_ble_eq_true rfl⟩) ⟨sw_PW_bl, va_recv hK hPc (ci := 1) (q0 := 0) rfl rfl, sw_PW_pre hK hPc hDc hE hS hFc⟩ rfl rfl hl.1 rfl (lv_room (Nat.le_of_ble_eq_true rfl)) dX2_fitting_31 ⟨Nat.zero_le _, Nat.zero_le _⟩) hS hP hD hFc [3, 4] [0, 1, 2, 5, 6, 7] [0, 1, 2, 6, 7, 3, 4, 5] rfl rfl (by decide) (by decide) (by decide) rfl (fun H locs hP hD hS => ?_)
          refine lv_aload_n hx hb dX2_fitting_34 rfl (lv_at hl 1 rfl) ?_
          refine lv_aload_n hx hb dX2_fitting_35 rfl (lv_at hl 0 rfl) ?_
          refine va_get (D := (dC, dI)) (ci := 2) (v := .ref aE) (C := RX2) (T := TX2) (N := 11) hx hb hts iX2 hown hK hP 1 rfl rfl 1 (by decide) hw3 (fun _ h9 => h9) rfl dX2_fitting_36 ?_
          obtain ⟨q3, hq3, hf⟩ := sw_bs hf
          have hPc := hP.sub (ws' := [(aC, .inr (0, [.ref aC_traits, .int C_total])), (aE, .inr (1, [.ref aC, .ref aE_holders])), (aE_holders, .inl (cI, 5, .inl q2)), (aT, .inr (4, [.ref aT_tellers, .ref aT_heard, .int T_length])), (aT_tellers, .inl (cI, 4, .inl T_tellers)), (aT_heard, .inl (cI, 4, .inl T_heard))]) [0, 3, 4, 5, 6, 7] rfl
          refine sw_rd (W.runV (As := [.ref aE]) (rest := []) ⟨hx, hb, hml, hown, hts⟩ (k_X4_isSoIn l dC dI cI cZ t0 aC aC_traits aE aE_holders aT aT_tellers aT_heard C_total q2 T_length T_tellers T_heard q3 hq3) (cwV 1 hts gX2_fitting_X4_isSoIn rfl rfl rfl (by decide +kernel) ⟨Nat.le_of_ble_eq_true rfl, Nat.le_of_ble_eq_true rfl⟩) ⟨sw_PR_bl, va_recv hK hPc (ci := 4) (q0 := 3) rfl rfl, sw_PR_pre hK hPc hE hS⟩ rfl rfl hl.1 rfl (lv_room (Nat.le_of_ble_eq_true rfl)) dX2_fitting_39 ⟨Nat.zero_le _, Nat.zero_le _⟩) ?_
          refine lv_if_eq (tgt := 48) hx hb dX2_fitting_42 (by decide) (fun c3 => ?_) (fun c3 => ?_)
          · have hf := sw_ip c3 hf
            refine lv_iinc (v := l3 + (1 : Int32)) (lv' := [(3, .int (l3 + (1 : Int32))), (0, .ref aL), (1, .ref aT), (2, .int l2)]) hx hb dX2_fitting_48 hl (k := 3) rfl (sw_ii _) (by decide) rfl (fun ls hl => ?_)
            refine lv_goto (tgt := 4) hx hb dX2_fitting_51 (by decide) ?_
            exact ih q2 l2 (l3 + (1 : Int32)) hf H locs hP hD hS ls (lv_sub hl [1, 2, 3, 0] rfl)
          · have hf := sw_in c3 hf
            refine lv_iinc (v := l2 + (1 : Int32)) (lv' := [(2, .int (l2 + (1 : Int32))), (0, .ref aL), (1, .ref aT), (3, .int l3)]) hx hb dX2_fitting_45 hl (k := 2) rfl (sw_ii _) (by decide) rfl (fun ls hl => ?_)
            refine lv_iinc (v := l3 + (1 : Int32)) (lv' := [(3, .int (l3 + (1 : Int32))), (2, .int (l2 + (1 : Int32))), (0, .ref aL), (1, .ref aT)]) hx hb dX2_fitting_48 hl (k := 3) rfl (sw_ii _) (by decide) rfl (fun ls hl => ?_)
            refine lv_goto (tgt := 4) hx hb dX2_fitting_51 (by decide) ?_
            exact ih q2 (l2 + (1 : Int32)) (l3 + (1 : Int32)) hf H locs hP hD hS ls (lv_sub hl [2, 3, 1, 0] rfl)
  have hf := hf0
  have hl := hl0
  have hP := hP0
  have hD := hD0
  have hS := hS0
  obtain ⟨H, hH⟩ : ∃ H, H = s.heap := ⟨_, rfl⟩
  obtain ⟨locs, hlo⟩ : ∃ locs : List Loc, locs = [] := ⟨_, rfl⟩
  rw [← hH] at hP
  have hS : va_S A s.heap H locs := by rw [hH, hlo]; exact hS0
  suffices hgo : W p l e rm_X2_fitting s m ([.ref aL, .ref aT] : List Value).toArray below meth c H locs 0 0 Q (F0 m 0 ls []) by rw [hH, hlo] at hgo; exact hgo
  refine lv_iconst (v := 0) hx hb dX2_fitting_0 (by decide) ?_
  refine lv_istore_n (lv' := [(2, .int (0 : Int32)), (0, .ref aL), (1, .ref aT)]) hx hb dX2_fitting_1 rfl hl (by decide) rfl (fun ls hl => ?_)
  refine lv_iconst (v := 0) hx hb dX2_fitting_2 (by decide) ?_
  refine lv_istore_n (lv' := [(3, .int (0 : Int32)), (2, .int (0 : Int32)), (0, .ref aL), (1, .ref aT)]) hx hb dX2_fitting_3 rfl hl (by decide) rfl (fun ls hl => ?_)
  exact hB_4   sw_fu E_holders (0 : Int32) (0 : Int32) hf H locs hP hD hS ls (lv_sub hl [2, 3, 1, 0] rfl)
abbrev rm_X2_sureHolder : Room := { frames := 4, cells := 0, slots := 0, locals := 90 }
set_option maxHeartbeats 1000000 in
set_option maxRecDepth 100000 in
theorem k_X2_sureHolder (l : Launch) (dC : Nat → ClassId) (dI : Nat → Nat → Nat) (cI cZ : ClassId) (t0 : Nat) (sz : Nat) (aC aC_traits aL aE aF aL_reached aL_steps aL_firsts aL_isReached aL_answers aE_holders aT aT_tellers aT_heard : Nat) (C_total : Int32) (L_total : Int32) (L_startNumber : Int32) (L_startTotal : Int32) (L_reached : Nat → Int32) (E_holders : Nat → Int32) (T_length : Int32) (T_tellers : Nat → Int32) (T_heard : Nat → Int32) (l1 : Int32) (rv : Int32) (E_holders' : Nat → Int32) (hf : F_X2_sureHolder C_total L_total L_reached E_holders T_length T_tellers T_heard l1 = some (rv, E_holders')) : Met l yX2_sureHolder wsX2_sureHolder rm_X2_sureHolder (sw_PW (dC, dI) t0 [(cI, .int), (cZ, .boolean)] [.ref aL, .int l1, .ref aT] [(aC, .inr (0, [.ref aC_traits, .int C_total])), (aL, .inr (2, [.ref aC, .ref aE, .ref aF, .ref aL_reached, .ref aL_steps, .ref aL_firsts, .int L_total, .ref aL_isReached, .ref aL_answers, .int L_startNumber, .int L_startTotal])), (aL_reached, .inl (cI, 1296, .inl L_reached)), (aE, .inr (1, [.ref aC, .ref aE_holders])), (aE_holders, .inl (cI, 5, .inl E_holders)), (aT, .inr (4, [.ref aT_tellers, .ref aT_heard, .int T_length])), (aT_tellers, .inl (cI, 4, .inl T_tellers)), (aT_heard, .inl (cI, 4, .inl T_heard))] sz) (va_Qi (fun r (_ : Unit) => r = rv) (fun _ t => sw_B (dC, dI) [(cI, .int), (cZ, .boolean)] [(aC, .inr (0, [.ref aC_traits, .int C_total])), (aL, .inr (2, [.ref aC, .ref aE, .ref aF, .ref aL_reached, .ref aL_steps, .ref aL_firsts, .int L_total, .ref aL_isReached, .ref aL_answers, .int L_startNumber, .int L_startTotal])), (aL_reached, .inl (cI, 1296, .inl L_reached)), (aE, .inr (1, [.ref aC, .ref aE_holders])), (aE_holders, .inl (cI, 5, .inl E_holders')), (aT, .inr (4, [.ref aT_tellers, .ref aT_heard, .int T_length])), (aT_tellers, .inl (cI, 4, .inl T_tellers)), (aT_heard, .inl (cI, 4, .inl T_heard))] (va_A [(aC, .inr (0, [.ref aC_traits, .int C_total])), (aL, .inr (2, [.ref aC, .ref aE, .ref aF, .ref aL_reached, .ref aL_steps, .ref aL_firsts, .int L_total, .ref aL_isReached, .ref aL_answers, .int L_startNumber, .int L_startTotal])), (aL_reached, .inl (cI, 1296, .inl L_reached)), (aE, .inr (1, [.ref aC, .ref aE_holders])), (aE_holders, .inl (cI, 5, .inl E_holders)), (aT, .inr (4, [.ref aT_tellers, .ref aT_heard, .int T_length])), (aT_tellers, .inl (cI, 4, .inl T_tellers)), (aT_heard, .inl (cI, 4, .inl T_heard))] sz) t) (va_A [(aC, .inr (0, [.ref aC_traits, .int C_total])), (aL, .inr (2, [.ref aC, .ref aE, .ref aF, .ref aL_reached, .ref aL_steps, .ref aL_firsts, .int L_total, .ref aL_isReached, .ref aL_answers, .int L_startNumber, .int L_startTotal])), (aL_reached, .inl (cI, 1296, .inl L_reached)), (aE, .inr (1, [.ref aC, .ref aE_holders])), (aE_holders, .inl (cI, 5, .inl E_holders)), (aT, .inr (4, [.ref aT_tellers, .ref aT_heard, .int T_length])), (aT_tellers, .inl (cI, 4, .inl T_tellers)), (aT_heard, .inl (cI, 4, .inl T_heard))] sz)) 0 0 (va_A [(aC, .inr (0, [.ref aC_traits, .int C_total])), (aL, .inr (2, [.ref aC, .ref aE, .ref aF, .ref aL_reached, .ref aL_steps, .ref aL_firsts, .int L_total, .ref aL_isReached, .ref aL_answers, .int L_startNumber, .int L_startTotal])), (aL_reached, .inl (cI, 1296, .inl L_reached)), (aE, .inr (1, [.ref aC, .ref aE_holders])), (aE_holders, .inl (cI, 5, .inl E_holders)), (aT, .inr (4, [.ref aT_tellers, .ref aT_heard, .int T_length])), (aT_tellers, .inl (cI, 4, .inl T_tellers)), (aT_heard, .inl (cI, 4, .inl T_heard))] sz) := by
  refine sw_metW (cc := cX2_sureHolder) (maxL := 5) (ret := (some .int)) (lv := [(0, .ref aL), (1, .int l1), (2, .ref aT)]) (by decide) rfl (Nat.le_of_ble_eq_true rfl) rfl ?_
  intro p e s m below meth c Q A hsz hAe hQ hx hb hr hts hown hlocks hml hmn hP hK hD hE hS hA ls hl
  have hS0 := hS
  have hown : s.vm.findClass RX2 = some m.cls := hown
  have hf := (F_X2_sureHolder.eq_1 _ _ _ _ _ _ _ _).symm.trans hf
  have hw3 := hts (.fieldLink RX2 44 "SwallowedInTurn$Outlook" "here" "LSwallowedInTurn$Nesting;") (List.mem_of_getElem? (i := 3) (by decide +kernel))
  have iX2 : ∀ w ∈ u_ws RX2 TX2 11, w ∈ wsX2_sureHolder := by decide +kernel
  have hw1 := hts (.fieldLink RX2 60 "SwallowedInTurn$Outlook" "total" "I") (List.mem_of_getElem? (i := 1) (by decide +kernel))
  have hw2 := hts (.fieldLink RX2 11 "SwallowedInTurn$Outlook" "reached" "[I") (List.mem_of_getElem? (i := 2) (by decide +kernel))
  have hf0 := hf
  clear hf
  have hP0 := hP
  have hD0 := hD
  clear hP hD hS
  have hl0 := hl
  clear hl
  have hB_71 : ∀ (E_holders : Nat → Int32) (l4 : Int32),∀ (k6 : (Nat → Int32) → Int32 → Int32 → Option (Int32 × (Nat → Int32))), (∀ (E_holders : Nat → Int32) (l3 : Int32) (l4 : Int32), k6 E_holders l3 l4 = some (rv, E_holders') → ∀ (H : Heap) (locs : List Loc), va_P (dC, dI) vwCl [(aC, .inr (0, [.ref aC_traits, .int C_total])), (aL, .inr (2, [.ref aC, .ref aE, .ref aF, .ref aL_reached, .ref aL_steps, .ref aL_firsts, .int L_total, .ref aL_isReached, .ref aL_answers, .int L_startNumber, .int L_startTotal])), (aL_reached, .inl (cI, 1296, .inl L_reached)), (aE, .inr (1, [.ref aC, .ref aE_holders])), (aE_holders, .inl (cI, 5, .inl E_holders)), (aT, .inr (4, [.ref aT_tellers, .ref aT_heard, .int T_length])), (aT_tellers, .inl (cI, 4, .inl T_tellers)), (aT_heard, .inl (cI, 4, .inl T_heard))] H → va_D A [(aC, .inr (0, [.ref aC_traits, .int C_total])), (aL, .inr (2, [.ref aC, .ref aE, .ref aF, .ref aL_reached, .ref aL_steps, .ref aL_firsts, .int L_total, .ref aL_isReached, .ref aL_answers, .int L_startNumber, .int L_startTotal])), (aL_reached, .inl (cI, 1296, .inl L_reached)), (aE, .inr (1, [.ref aC, .ref aE_holders])), (aE_holders, .inl (cI, 5, .inl E_holders)), (aT, .inr (4, [.ref aT_tellers, .ref aT_heard, .int T_length])), (aT_tellers, .inl (cI, 4, .inl T_tellers)), (aT_heard, .inl (cI, 4, .inl T_heard))] → va_S A s.heap H locs → ∀ ls : Array Slot, lv_has ls 5 [(0, .ref aL), (1, .int l1), (2, .ref aT), (3, .int l3), (4, .int l4)] → W p l e rm_X2_sureHolder s m ([.ref aL, .int l1, .ref aT] : List Value).toArray below meth c H locs 0 0 Q (F0 m 6 ls [])) →  F_X2_sureHolder_71 k6 C_total L_total L_reached E_holders T_length T_tellers T_heard l1 l4 = some (rv, E_holders') → ∀ (H : Heap) (locs : List Loc), va_P (dC, dI) vwCl [(aC, .inr (0, [.ref aC_traits, .int C_total])), (aL, .inr (2, [.ref aC, .ref aE, .ref aF, .ref aL_reached, .ref aL_steps, .ref aL_firsts, .int L_total, .ref aL_isReached, .ref aL_answers, .int L_startNumber, .int L_startTotal])), (aL_reached, .inl (cI, 1296, .inl L_reached)), (aE, .inr (1, [.ref aC, .ref aE_holders])), (aE_holders, .inl (cI, 5, .inl E_holders)), (aT, .inr (4, [.ref aT_tellers, .ref aT_heard, .int T_length])), (aT_tellers, .inl (cI, 4, .inl T_tellers)), (aT_heard, .inl (cI, 4, .inl T_heard))] H → va_D A [(aC, .inr (0, [.ref aC_traits, .int C_total])), (aL, .inr (2, [.ref aC, .ref aE, .ref aF, .ref aL_reached, .ref aL_steps, .ref aL_firsts, .int L_total, .ref aL_isReached, .ref aL_answers, .int L_startNumber, .int L_startTotal])), (aL_reached, .inl (cI, 1296, .inl L_reached)), (aE, .inr (1, [.ref aC, .ref aE_holders])), (aE_holders, .inl (cI, 5, .inl E_holders)), (aT, .inr (4, [.ref aT_tellers, .ref aT_heard, .int T_length])), (aT_tellers, .inl (cI, 4, .inl T_tellers)), (aT_heard, .inl (cI, 4, .inl T_heard))] → va_S A s.heap H locs → ∀ ls : Array Slot, lv_has ls 5 [(0, .ref aL), (1, .int l1), (2, .ref aT), (4, .int l4)] → W p l e rm_X2_sureHolder s m ([.ref aL, .int l1, .ref aT] : List Value).toArray below meth c H locs 0 0 Q (F0 m 71 ls []) := by
    intro E_holders l4 k6 hk6 hf H locs hP hD hS ls hl
    have hf := (F_X2_sureHolder_71.eq_1 _ _ _ _ _ _ _ _ _ _).symm.trans hf
    refine lv_aload_n hx hb dX2_sureHolder_71 rfl (lv_at hl 0 rfl) ?_
    refine va_get (D := (dC, dI)) (ci := 2) (v := .ref aE) (C := RX2) (T := TX2) (N := 11) hx hb hts iX2 hown hK hP 1 rfl rfl 1 (by decide) hw3 (fun _ h9 => h9) rfl dX2_sureHolder_72 ?_
    refine lv_iload_n hx hb dX2_sureHolder_75 rfl (lv_at hl 1 rfl) ?_
    obtain ⟨q1, hq1, hf⟩ := sw_bs hf
    have hPc := hP.sub (ws' := [(aE, .inr (1, [.ref aC, .ref aE_holders])), (aE_holders, .inl (cI, 5, .inl E_holders))]) [3, 4] rfl
    refine sw_rd (W.runV (As := [.int l1]) (rest := []) ⟨hx, hb, hml, hown, hts⟩ (k_X1_holder l dC dI cI cZ t0 aE aC aE_holders E_holders l1 q1 hq1) (cwV 1 hts gX2_sureHolder_X1_holder rfl rfl rfl (by decide +kernel) ⟨Nat.le_of_ble_eq_true rfl, Nat.le_of_ble_eq_true rfl⟩) ⟨sw_PR_bl, va_recv hK hPc (ci := 1) (q0 := 0) rfl rfl, sw_PR_pre hK hPc hE hS⟩ rfl rfl hl.1 rfl (lv_room (Nat.le_of_ble_eq_true rfl)) dX2_sureHolder_76 ⟨Nat.zero_le _, Nat.zero_le _⟩) ?_
    refine lv_istore_n (lv' := [(3, .int q1), (0, .ref aL), (1, .int l1), (2, .ref aT), (4, .int l4)]) hx hb dX2_sureHolder_79 rfl hl (by decide) rfl (fun ls hl => ?_)
    refine lv_iinc (v := l4 + (1 : Int32)) (lv' := [(4, .int (l4 + (1 : Int32))), (3, .int q1), (0, .ref aL), (1, .int l1), (2, .ref aT)]) hx hb dX2_sureHolder_80 hl (k := 4) rfl (sw_ii _) (by decide) rfl (fun ls hl => ?_)
    refine lv_goto (tgt := 6) hx hb dX2_sureHolder_83 (by decide) ?_
    exact hk6 E_holders q1 (l4 + (1 : Int32)) hf H locs hP hD hS ls (lv_sub hl [2, 3, 4, 1, 0] rfl)
  have hB_6 :  ∀ (fu : Nat) (E_holders : Nat → Int32) (l3 : Int32) (l4 : Int32), F_X2_sureHolder_6 C_total L_total L_reached T_length T_tellers T_heard l1 fu E_holders l3 l4 = some (rv, E_holders') → ∀ (H : Heap) (locs : List Loc), va_P (dC, dI) vwCl [(aC, .inr (0, [.ref aC_traits, .int C_total])), (aL, .inr (2, [.ref aC, .ref aE, .ref aF, .ref aL_reached, .ref aL_steps, .ref aL_firsts, .int L_total, .ref aL_isReached, .ref aL_answers, .int L_startNumber, .int L_startTotal])), (aL_reached, .inl (cI, 1296, .inl L_reached)), (aE, .inr (1, [.ref aC, .ref aE_holders])), (aE_holders, .inl (cI, 5, .inl E_holders)), (aT, .inr (4, [.ref aT_tellers, .ref aT_heard, .int T_length])), (aT_tellers, .inl (cI, 4, .inl T_tellers)), (aT_heard, .inl (cI, 4, .inl T_heard))] H → va_D A [(aC, .inr (0, [.ref aC_traits, .int C_total])), (aL, .inr (2, [.ref aC, .ref aE, .ref aF, .ref aL_reached, .ref aL_steps, .ref aL_firsts, .int L_total, .ref aL_isReached, .ref aL_answers, .int L_startNumber, .int L_startTotal])), (aL_reached, .inl (cI, 1296, .inl L_reached)), (aE, .inr (1, [.ref aC, .ref aE_holders])), (aE_holders, .inl (cI, 5, .inl E_holders)), (aT, .inr (4, [.ref aT_tellers, .ref aT_heard, .int T_length])), (aT_tellers, .inl (cI, 4, .inl T_tellers)), (aT_heard, .inl (cI, 4, .inl T_heard))] → va_S A s.heap H locs → ∀ ls : Array Slot, lv_has ls 5 [(0, .ref aL), (1, .int l1), (2, .ref aT), (3, .int l3), (4, .int l4)] → W p l e rm_X2_sureHolder s m ([.ref aL, .int l1, .ref aT] : List Value).toArray below meth c H locs 0 0 Q (F0 m 6 ls []) := by
    intro   fu
    induction fu with
    | zero =>
      intro E_holders l3 l4 hf
      exact nomatch (show (none : Option (Int32 × (Nat → Int32))) = some (rv, E_holders') from hf)
    | succ fu ih =>
      intro E_holders l3 l4 hf H locs hP hD hS ls hl
      have hf := (F_X2_sureHolder_6.eq_2 _ _ _ _ _ _ _ _ _ _ _).symm.trans hf
      refine lv_iload hx hb dX2_sureHolder_6 (lv_at hl 4 rfl) ?_
      refine lv_aload_n hx hb dX2_sureHolder_8 rfl (lv_at hl 0 rfl) ?_
      refine va_get (D := (dC, dI)) (ci := 2) (v := .int L_total) (C := RX2) (T := TX2) (N := 11) hx hb hts iX2 hown hK hP 1 rfl rfl 6 (by decide) hw1 (fun _ h9 => h9) rfl dX2_sureHolder_9 ?_
      refine lv_icmp_ge (tgt := 86) hx hb dX2_sureHolder_12 (by decide) (fun c1 => ?_) (fun c1 => ?_)
      · have hf := sw_ip c1 hf
        refine lv_iload_n hx hb dX2_sureHolder_86 rfl (lv_at hl 3 rfl) ?_
        subst hQ hAe
        cases hf
        exact W.iret hx hb hr (fun t ht hW => ⟨⟨_, (), rfl, rfl, ⟨by rw [ht]; exact hP, va_K.moved hW.alike hK, hD⟩⟩, hS.F ht⟩) hS.2.2 dX2_sureHolder_87 hlocks
      · have hf := sw_in c1 hf
        refine lv_iload hx hb dX2_sureHolder_15 (lv_at hl 4 rfl) ?_
        refine lv_aload_n hx hb dX2_sureHolder_17 rfl (lv_at hl 0 rfl) ?_
        refine va_get (D := (dC, dI)) (ci := 2) (v := .ref aL_reached) (C := RX2) (T := TX2) (N := 11) hx hb hts iX2 hown hK hP 1 rfl rfl 3 (by decide) hw2 (fun _ h9 => h9) rfl dX2_sureHolder_18 ?_
        refine va_alen hx hb hK hP 2 0 rfl rfl (v := 1296) (show Int32.ofNat 1296 = 1296 by decide +kernel) dX2_sureHolder_21 ?_
        refine lv_icmp_ge (tgt := 86) hx hb dX2_sureHolder_22 (by decide) (fun c2 => ?_) (fun c2 => ?_)
        · have hf := sw_ip c2 hf
          refine lv_iload_n hx hb dX2_sureHolder_86 rfl (lv_at hl 3 rfl) ?_
          subst hQ hAe
          cases hf
          exact W.iret hx hb hr (fun t ht hW => ⟨⟨_, (), rfl, rfl, ⟨by rw [ht]; exact hP, va_K.moved hW.alike hK, hD⟩⟩, hS.F ht⟩) hS.2.2 dX2_sureHolder_87 hlocks
        · have hf := sw_in c2 hf
          refine lv_aload_n hx hb dX2_sureHolder_25 rfl (lv_at hl 0 rfl) ?_
          refine va_get (D := (dC, dI)) (ci := 2) (v := .ref aE) (C := RX2) (T := TX2) (N := 11) hx hb hts iX2 hown hK hP 1 rfl rfl 1 (by decide) hw3 (fun _ h9 => h9) rfl dX2_sureHolder_26 ?_
          refine lv_aload_n hx hb dX2_sureHolder_29 rfl (lv_at hl 0 rfl) ?_
          refine va_get (D := (dC, dI)) (ci := 2) (v := .ref aL_reached) (C := RX2) (T := TX2) (N := 11) hx hb hts iX2 hown hK hP 1 rfl rfl 3 (by decide) hw2 (fun _ h9 => h9) rfl dX2_sureHolder_30 ?_
          refine lv_iload hx hb dX2_sureHolder_33 (lv_at hl 4 rfl) ?_
          obtain ⟨hi2, hf⟩ := sw_ix_s hf
          refine va_iald hx hb hK hP 2 0 rfl rfl hi2 dX2_sureHolder_35 ?_
          obtain ⟨q3, hq3, hf⟩ := sw_bs hf
          have hPc := hP.sub (ws' := [(aE, .inr (1, [.ref aC, .ref aE_holders])), (aE_holders, .inl (cI, 5, .inl E_holders))]) [3, 4] rfl
          have hDc := hD.sub (ws' := [(aE, .inr (1, [.ref aC, .ref aE_holders])), (aE_holders, .inl (cI, 5, .inl E_holders))]) [3, 4] (by decide) rfl
          have hFc := va_free (wc := [(aE, .inr (1, [.ref aC, .ref aE_holders])), (aE_holders, .inl (cI, 5, .inl E_holders))]) hD hS hA [3, 4] rfl
          refine sw_wv (wn := [(aC, .inr (0, [.ref aC_traits, .int C_total])), (aL, .inr (2, [.ref aC, .ref aE, .ref aF, .ref aL_reached, .ref aL_steps, .ref aL_firsts, .int L_total, .ref aL_isReached, .ref aL_answers, .int L_startNumber, .int L_startTotal])), (aL_reached, .inl (cI, 1296, .inl L_reached)), (aE, .inr (1, [.ref aC, .ref aE_holders])), (aE_holders, .inl (cI, 5, .inl q3)), (aT, .inr (4, [.ref aT_tellers, .ref aT_heard, .int T_length])), (aT_tellers, .inl (cI, 4, .inl T_tellers)), (aT_heard, .inl (cI, 4, .inl T_heard))]) (w1 := [(aE, .inr (1, [.ref aC, .ref aE_holders])), (aE_holders, .inl (cI, 5, .inl q3))]) (wr := [(aC, .inr (0, [.ref aC_traits, .int C_total])), (aL, .inr (2, [.ref aC, .ref aE, .ref aF, .ref aL_reached, .ref aL_steps, .ref aL_firsts, .int L_total, .ref aL_isReached, .ref aL_answers, .int L_startNumber, .int L_startTotal])), (aL_reached, .inl (cI, 1296, .inl L_reached)), (aT, .inr (4, [.ref aT_tellers, .ref aT_heard, .int T_length])), (aT_tellers, .inl (cI, 4, .inl T_tellers)), (aT_heard, .inl (cI, 4, .inl T_heard))]) (va_runV (As := [.int (L_reached l4.toNatClampNeg)]) (rest := []) ⟨hx, hb, hml, hown, hts⟩ (k_X1_become l dC dI cI cZ t0 H.size aE aC aE_holders E_holders (L_reached l4.toNatClampNeg) q3 hq3) (cwV 1 hts gX2_sureHolder_X1_become rfl rfl rfl (by decide +kernel) ⟨Nat.le_of_ble_eq_true rfl, Nat.le_of_ble_eq_true rfl⟩) ⟨sw_PW_bl, va_recv hK hPc (ci := 1) (q0 := 0) rfl rfl, sw_PW_pre hK hPc hDc hE hS hFc⟩ rfl rfl hl.1 rfl (lv_room (Nat.le_of_ble_eq_true rfl)) dX2_sureHolder_36 ⟨Nat.zero_le _, Nat.zero_le _⟩) hS hP hD hFc [3, 4] [0, 1, 2, 5, 6, 7] [0, 1, 2, 6, 7, 3, 4, 5] rfl rfl (by decide) (by decide) (by decide) rfl (fun H locs hP hD hS => ?_)
          refine lv_aload_n hx hb dX2_sureHolder_39 rfl (lv_at hl 2 rfl) ?_
          refine lv_aload_n hx hb dX2_sureHolder_40 rfl (lv_at hl 0 rfl) ?_
          refine va_get (D := (dC, dI)) (ci := 2) (v := .ref aE) (C := RX2) (T := TX2) (N := 11) hx hb hts iX2 hown hK hP 1 rfl rfl 1 (by decide) hw3 (fun _ h9 => h9) rfl dX2_sureHolder_41 ?_
          obtain ⟨q4, hq4, hf⟩ := sw_bs hf
          have hPc := hP.sub (ws' := [(aC, .inr (0, [.ref aC_traits, .int C_total])), (aE, .inr (1, [.ref aC, .ref aE_holders])), (aE_holders, .inl (cI, 5, .inl q3)), (aT, .inr (4, [.ref aT_tellers, .ref aT_heard, .int T_length])), (aT_tellers, .inl (cI, 4, .inl T_tellers)), (aT_heard, .inl (cI, 4, .inl T_heard))]) [0, 3, 4, 5, 6, 7] rfl
          refine sw_rd (W.runV (As := [.ref aE]) (rest := []) ⟨hx, hb, hml, hown, hts⟩ (k_X4_isSoIn l dC dI cI cZ t0 aC aC_traits aE aE_holders aT aT_tellers aT_heard C_total q3 T_length T_tellers T_heard q4 hq4) (cwV 1 hts gX2_sureHolder_X4_isSoIn rfl rfl rfl (by decide +kernel) ⟨Nat.le_of_ble_eq_true rfl, Nat.le_of_ble_eq_true rfl⟩) ⟨sw_PR_bl, va_recv hK hPc (ci := 4) (q0 := 3) rfl rfl, sw_PR_pre hK hPc hE hS⟩ rfl rfl hl.1 rfl (lv_room (Nat.le_of_ble_eq_true rfl)) dX2_sureHolder_44 ⟨Nat.zero_le _, Nat.zero_le _⟩) ?_
          refine lv_if_eq (tgt := 80) hx hb dX2_sureHolder_47 (by decide) (fun c3 => ?_) (fun c3 => ?_)
          · have hf := sw_ip c3 hf
            refine lv_iinc (v := l4 + (1 : Int32)) (lv' := [(4, .int (l4 + (1 : Int32))), (0, .ref aL), (1, .int l1), (2, .ref aT), (3, .int l3)]) hx hb dX2_sureHolder_80 hl (k := 4) rfl (sw_ii _) (by decide) rfl (fun ls hl => ?_)
            refine lv_goto (tgt := 6) hx hb dX2_sureHolder_83 (by decide) ?_
            exact ih q3 l3 (l4 + (1 : Int32)) hf H locs hP hD hS ls (lv_sub hl [1, 2, 3, 4, 0] rfl)
          · have hf := sw_in c3 hf
            refine lv_iload_n hx hb dX2_sureHolder_50 rfl (lv_at hl 3 rfl) ?_
            refine lv_bipush (v := -2) hx hb dX2_sureHolder_51 (by decide) ?_
            refine lv_icmp_eq (tgt := 71) hx hb dX2_sureHolder_53 (by decide) (fun c4 => ?_) (fun c4 => ?_)
            · have hf := sw_ip c4 hf
              exact hB_71 q3 l4 (F_X2_sureHolder_6  C_total L_total L_reached T_length T_tellers T_heard l1 fu) ih hf H locs hP hD hS ls (lv_sub hl [0, 1, 2, 4] rfl)
            · have hf := sw_in c4 hf
              refine lv_iload_n hx hb dX2_sureHolder_56 rfl (lv_at hl 3 rfl) ?_
              refine lv_aload_n hx hb dX2_sureHolder_57 rfl (lv_at hl 0 rfl) ?_
              refine va_get (D := (dC, dI)) (ci := 2) (v := .ref aE) (C := RX2) (T := TX2) (N := 11) hx hb hts iX2 hown hK hP 1 rfl rfl 1 (by decide) hw3 (fun _ h9 => h9) rfl dX2_sureHolder_58 ?_
              refine lv_iload_n hx hb dX2_sureHolder_61 rfl (lv_at hl 1 rfl) ?_
              obtain ⟨q5, hq5, hf⟩ := sw_bs hf
              have hPc := hP.sub (ws' := [(aE, .inr (1, [.ref aC, .ref aE_holders])), (aE_holders, .inl (cI, 5, .inl q3))]) [3, 4] rfl
              refine sw_rd (W.runV (As := [.int l1]) (rest := [.int l3]) ⟨hx, hb, hml, hown, hts⟩ (k_X1_holder l dC dI cI cZ t0 aE aC aE_holders q3 l1 q5 hq5) (cwV 1 hts gX2_sureHolder_X1_holder rfl rfl rfl (by decide +kernel) ⟨Nat.le_of_ble_eq_true rfl, Nat.le_of_ble_eq_true rfl⟩) ⟨sw_PR_bl, va_recv hK hPc (ci := 1) (q0 := 0) rfl rfl, sw_PR_pre hK hPc hE hS⟩ rfl rfl hl.1 rfl (lv_room (Nat.le_of_ble_eq_true rfl)) dX2_sureHolder_62 ⟨Nat.zero_le _, Nat.zero_le _⟩) ?_
              refine lv_icmp_eq (tgt := 71) hx hb dX2_sureHolder_65 (by decide) (fun c5 => ?_) (fun c5 => ?_)
              · have hf := sw_ip c5 hf
                exact hB_71 q3 l4 (F_X2_sureHolder_6  C_total L_total L_reached T_length T_tellers T_heard l1 fu) ih hf H locs hP hD hS ls (lv_sub hl [0, 1, 2, 4] rfl)
              · have hf := sw_in c5 hf
                refine lv_bipush (v := -2) hx hb dX2_sureHolder_68 (by decide) ?_
                subst hQ hAe
                cases hf
                exact W.iret hx hb hr (fun t ht hW => ⟨⟨_, (), rfl, rfl, ⟨by rw [ht]; exact hP, va_K.moved hW.alike hK, hD⟩⟩, hS.F ht⟩) hS.2.2 dX2_sureHolder_70 hlocks
  have hf := hf0
  have hl := hl0
  have hP := hP0
  have hD := hD0
  have hS := hS0
  obtain ⟨H, hH⟩ : ∃ H, H = s.heap := ⟨_, rfl⟩
  obtain ⟨locs, hlo⟩ : ∃ locs : List Loc, locs = [] := ⟨_, rfl⟩
  rw [← hH] at hP
  have hS : va_S A s.heap H locs := by rw [hH, hlo]; exact hS0
  suffices hgo : W p l e rm_X2_sureHolder s m ([.ref aL, .int l1, .ref aT] : List Value).toArray below meth c H locs 0 0 Q (F0 m 0 ls []) by rw [hH, hlo] at hgo; exact hgo
  refine lv_bipush (v := -2) hx hb dX2_sureHolder_0 (by decide) ?_
  refine lv_istore_n (lv' := [(3, .int (-2 : Int32)), (0, .ref aL), (1, .int l1), (2, .ref aT)]) hx hb dX2_sureHolder_2 rfl hl (by decide) rfl (fun ls hl => ?_)
  refine lv_iconst (v := 0) hx hb dX2_sureHolder_3 (by decide) ?_
  refine lv_istore (lv' := [(4, .int (0 : Int32)), (3, .int (-2 : Int32)), (0, .ref aL), (1, .int l1), (2, .ref aT)]) hx hb dX2_sureHolder_4 hl (by decide) rfl (fun ls hl => ?_)
  exact hB_6   sw_fu E_holders (-2 : Int32) (0 : Int32) hf H locs hP hD hS ls (lv_sub hl [2, 3, 4, 1, 0] rfl)
abbrev rm_X2_mostLeft : Room := { frames := 4, cells := 0, slots := 0, locals := 90 }
set_option maxHeartbeats 1000000 in
set_option maxRecDepth 100000 in
theorem k_X2_mostLeft (l : Launch) (dC : Nat → ClassId) (dI : Nat → Nat → Nat) (cI cZ : ClassId) (t0 : Nat) (sz : Nat) (aC aC_traits aL aE aF aL_reached aL_steps aL_firsts aL_isReached aL_answers aE_holders aT aT_tellers aT_heard : Nat) (C_total : Int32) (L_total : Int32) (L_startNumber : Int32) (L_startTotal : Int32) (L_reached : Nat → Int32) (L_answers : Nat → Int32) (E_holders : Nat → Int32) (T_length : Int32) (T_tellers : Nat → Int32) (T_heard : Nat → Int32) (l1 : Int32) (rv : Int32) (L_answers' : Nat → Int32) (E_holders' : Nat → Int32) (hf : F_X2_mostLeft C_total L_total L_reached L_answers E_holders T_length T_tellers T_heard l1 = some (rv, L_answers', E_holders')) : Met l yX2_mostLeft wsX2_mostLeft rm_X2_mostLeft (sw_PW (dC, dI) t0 [(cI, .int), (cZ, .boolean)] [.ref aL, .int l1, .ref aT] [(aC, .inr (0, [.ref aC_traits, .int C_total])), (aL, .inr (2, [.ref aC, .ref aE, .ref aF, .ref aL_reached, .ref aL_steps, .ref aL_firsts, .int L_total, .ref aL_isReached, .ref aL_answers, .int L_startNumber, .int L_startTotal])), (aL_reached, .inl (cI, 1296, .inl L_reached)), (aL_answers, .inl (cI, 32, .inl L_answers)), (aE, .inr (1, [.ref aC, .ref aE_holders])), (aE_holders, .inl (cI, 5, .inl E_holders)), (aT, .inr (4, [.ref aT_tellers, .ref aT_heard, .int T_length])), (aT_tellers, .inl (cI, 4, .inl T_tellers)), (aT_heard, .inl (cI, 4, .inl T_heard))] sz) (va_Qi (fun r (_ : Unit) => r = rv) (fun _ t => sw_B (dC, dI) [(cI, .int), (cZ, .boolean)] [(aC, .inr (0, [.ref aC_traits, .int C_total])), (aL, .inr (2, [.ref aC, .ref aE, .ref aF, .ref aL_reached, .ref aL_steps, .ref aL_firsts, .int L_total, .ref aL_isReached, .ref aL_answers, .int L_startNumber, .int L_startTotal])), (aL_reached, .inl (cI, 1296, .inl L_reached)), (aL_answers, .inl (cI, 32, .inl L_answers')), (aE, .inr (1, [.ref aC, .ref aE_holders])), (aE_holders, .inl (cI, 5, .inl E_holders')), (aT, .inr (4, [.ref aT_tellers, .ref aT_heard, .int T_length])), (aT_tellers, .inl (cI, 4, .inl T_tellers)), (aT_heard, .inl (cI, 4, .inl T_heard))] (va_A [(aC, .inr (0, [.ref aC_traits, .int C_total])), (aL, .inr (2, [.ref aC, .ref aE, .ref aF, .ref aL_reached, .ref aL_steps, .ref aL_firsts, .int L_total, .ref aL_isReached, .ref aL_answers, .int L_startNumber, .int L_startTotal])), (aL_reached, .inl (cI, 1296, .inl L_reached)), (aL_answers, .inl (cI, 32, .inl L_answers)), (aE, .inr (1, [.ref aC, .ref aE_holders])), (aE_holders, .inl (cI, 5, .inl E_holders)), (aT, .inr (4, [.ref aT_tellers, .ref aT_heard, .int T_length])), (aT_tellers, .inl (cI, 4, .inl T_tellers)), (aT_heard, .inl (cI, 4, .inl T_heard))] sz) t) (va_A [(aC, .inr (0, [.ref aC_traits, .int C_total])), (aL, .inr (2, [.ref aC, .ref aE, .ref aF, .ref aL_reached, .ref aL_steps, .ref aL_firsts, .int L_total, .ref aL_isReached, .ref aL_answers, .int L_startNumber, .int L_startTotal])), (aL_reached, .inl (cI, 1296, .inl L_reached)), (aL_answers, .inl (cI, 32, .inl L_answers)), (aE, .inr (1, [.ref aC, .ref aE_holders])), (aE_holders, .inl (cI, 5, .inl E_holders)), (aT, .inr (4, [.ref aT_tellers, .ref aT_heard, .int T_length])), (aT_tellers, .inl (cI, 4, .inl T_tellers)), (aT_heard, .inl (cI, 4, .inl T_heard))] sz)) 0 0 (va_A [(aC, .inr (0, [.ref aC_traits, .int C_total])), (aL, .inr (2, [.ref aC, .ref aE, .ref aF, .ref aL_reached, .ref aL_steps, .ref aL_firsts, .int L_total, .ref aL_isReached, .ref aL_answers, .int L_startNumber, .int L_startTotal])), (aL_reached, .inl (cI, 1296, .inl L_reached)), (aL_answers, .inl (cI, 32, .inl L_answers)), (aE, .inr (1, [.ref aC, .ref aE_holders])), (aE_holders, .inl (cI, 5, .inl E_holders)), (aT, .inr (4, [.ref aT_tellers, .ref aT_heard, .int T_length])), (aT_tellers, .inl (cI, 4, .inl T_tellers)), (aT_heard, .inl (cI, 4, .inl T_heard))] sz) := by
  refine sw_metW (cc := cX2_mostLeft) (maxL := 6) (ret := (some .int)) (lv := [(0, .ref aL), (1, .int l1), (2, .ref aT)]) (by decide) rfl (Nat.le_of_ble_eq_true rfl) rfl ?_
  intro p e s m below meth c Q A hsz hAe hQ hx hb hr hts hown hlocks hml hmn hP hK hD hE hS hA ls hl
  have hS0 := hS
  have hown : s.vm.findClass RX2 = some m.cls := hown
  have hf := (F_X2_mostLeft.eq_1 _ _ _ _ _ _ _ _ _).symm.trans hf
  have hw2 := hts (.fieldLink RX2 60 "SwallowedInTurn$Outlook" "total" "I") (List.mem_of_getElem? (i := 2) (by decide +kernel))
  have iX2 : ∀ w ∈ u_ws RX2 TX2 11, w ∈ wsX2_mostLeft := by decide +kernel
  have hw3 := hts (.fieldLink RX2 11 "SwallowedInTurn$Outlook" "reached" "[I") (List.mem_of_getElem? (i := 3) (by decide +kernel))
  have hw4 := hts (.fieldLink RX2 44 "SwallowedInTurn$Outlook" "here" "LSwallowedInTurn$Nesting;") (List.mem_of_getElem? (i := 4) (by decide +kernel))
  have hw1 := hts (.fieldLink RX2 25 "SwallowedInTurn$Outlook" "answers" "[I") (List.mem_of_getElem? (i := 1) (by decide +kernel))
  have hw5 := hts (.methodLink RX2 103 Lib.Math.max.name) (List.mem_of_getElem? (i := 5) (by decide +kernel))
  have hw6 := hts (.static Lib.Math.max.name) (List.mem_of_getElem? (i := 6) (by decide +kernel))
  have hw7 := hts (.initialized "java/lang/Math") (List.mem_of_getElem? (i := 7) (by decide +kernel))
  have hw8 := hts (.code Lib.Math.max.name Lib.Math.max.code 2 (some .int)) (List.mem_of_getElem? (i := 8) (by decide +kernel))
  have hf0 := hf
  clear hf
  have hP0 := hP
  have hD0 := hD
  clear hP hD hS
  have hl0 := hl
  clear hl
  have hB_13 :  ∀ (fu : Nat) (L_answers : Nat → Int32) (E_holders : Nat → Int32) (l3 : Int32) (l4 : Int32), F_X2_mostLeft_13 C_total L_total L_reached T_length T_tellers T_heard l1 fu L_answers E_holders l3 l4 = some (rv, L_answers', E_holders') → ∀ (H : Heap) (locs : List Loc), va_P (dC, dI) vwCl [(aC, .inr (0, [.ref aC_traits, .int C_total])), (aL, .inr (2, [.ref aC, .ref aE, .ref aF, .ref aL_reached, .ref aL_steps, .ref aL_firsts, .int L_total, .ref aL_isReached, .ref aL_answers, .int L_startNumber, .int L_startTotal])), (aL_reached, .inl (cI, 1296, .inl L_reached)), (aL_answers, .inl (cI, 32, .inl L_answers)), (aE, .inr (1, [.ref aC, .ref aE_holders])), (aE_holders, .inl (cI, 5, .inl E_holders)), (aT, .inr (4, [.ref aT_tellers, .ref aT_heard, .int T_length])), (aT_tellers, .inl (cI, 4, .inl T_tellers)), (aT_heard, .inl (cI, 4, .inl T_heard))] H → va_D A [(aC, .inr (0, [.ref aC_traits, .int C_total])), (aL, .inr (2, [.ref aC, .ref aE, .ref aF, .ref aL_reached, .ref aL_steps, .ref aL_firsts, .int L_total, .ref aL_isReached, .ref aL_answers, .int L_startNumber, .int L_startTotal])), (aL_reached, .inl (cI, 1296, .inl L_reached)), (aL_answers, .inl (cI, 32, .inl L_answers)), (aE, .inr (1, [.ref aC, .ref aE_holders])), (aE_holders, .inl (cI, 5, .inl E_holders)), (aT, .inr (4, [.ref aT_tellers, .ref aT_heard, .int T_length])), (aT_tellers, .inl (cI, 4, .inl T_tellers)), (aT_heard, .inl (cI, 4, .inl T_heard))] → va_S A s.heap H locs → ∀ ls : Array Slot, lv_has ls 6 [(0, .ref aL), (1, .int l1), (2, .ref aT), (3, .int l3), (4, .int l4)] → W p l e rm_X2_mostLeft s m ([.ref aL, .int l1, .ref aT] : List Value).toArray below meth c H locs 0 0 Q (F0 m 13 ls []) := by
    intro   fu
    induction fu with
    | zero =>
      intro L_answers E_holders l3 l4 hf
      exact nomatch (show (none : Option (Int32 × (Nat → Int32) × (Nat → Int32))) = some (rv, L_answers', E_holders') from hf)
    | succ fu ih =>
      intro L_answers E_holders l3 l4 hf H locs hP hD hS ls hl
      have hf := (F_X2_mostLeft_13.eq_2 _ _ _ _ _ _ _ _ _ _ _ _).symm.trans hf
      refine lv_iload hx hb dX2_mostLeft_13 (lv_at hl 4 rfl) ?_
      refine lv_aload_n hx hb dX2_mostLeft_15 rfl (lv_at hl 0 rfl) ?_
      refine va_get (D := (dC, dI)) (ci := 2) (v := .int L_total) (C := RX2) (T := TX2) (N := 11) hx hb hts iX2 hown hK hP 1 rfl rfl 6 (by decide) hw2 (fun _ h9 => h9) rfl dX2_mostLeft_16 ?_
      refine lv_icmp_ge (tgt := 111) hx hb dX2_mostLeft_19 (by decide) (fun c1 => ?_) (fun c1 => ?_)
      · have hf := sw_ip c1 hf
        refine lv_iload_n hx hb dX2_mostLeft_111 rfl (lv_at hl 3 rfl) ?_
        subst hQ hAe
        cases hf
        exact W.iret hx hb hr (fun t ht hW => ⟨⟨_, (), rfl, rfl, ⟨by rw [ht]; exact hP, va_K.moved hW.alike hK, hD⟩⟩, hS.F ht⟩) hS.2.2 dX2_mostLeft_112 hlocks
      · have hf := sw_in c1 hf
        refine lv_iload hx hb dX2_mostLeft_22 (lv_at hl 4 rfl) ?_
        refine lv_aload_n hx hb dX2_mostLeft_24 rfl (lv_at hl 0 rfl) ?_
        refine va_get (D := (dC, dI)) (ci := 2) (v := .ref aL_reached) (C := RX2) (T := TX2) (N := 11) hx hb hts iX2 hown hK hP 1 rfl rfl 3 (by decide) hw3 (fun _ h9 => h9) rfl dX2_mostLeft_25 ?_
        refine va_alen hx hb hK hP 2 0 rfl rfl (v := 1296) (show Int32.ofNat 1296 = 1296 by decide +kernel) dX2_mostLeft_28 ?_
        refine lv_icmp_ge (tgt := 111) hx hb dX2_mostLeft_29 (by decide) (fun c2 => ?_) (fun c2 => ?_)
        · have hf := sw_ip c2 hf
          refine lv_iload_n hx hb dX2_mostLeft_111 rfl (lv_at hl 3 rfl) ?_
          subst hQ hAe
          cases hf
          exact W.iret hx hb hr (fun t ht hW => ⟨⟨_, (), rfl, rfl, ⟨by rw [ht]; exact hP, va_K.moved hW.alike hK, hD⟩⟩, hS.F ht⟩) hS.2.2 dX2_mostLeft_112 hlocks
        · have hf := sw_in c2 hf
          refine lv_aload_n hx hb dX2_mostLeft_32 rfl (lv_at hl 0 rfl) ?_
          refine va_get (D := (dC, dI)) (ci := 2) (v := .ref aE) (C := RX2) (T := TX2) (N := 11) hx hb hts iX2 hown hK hP 1 rfl rfl 1 (by decide) hw4 (fun _ h9 => h9) rfl dX2_mostLeft_33 ?_
          refine lv_aload_n hx hb dX2_mostLeft_36 rfl (lv_at hl 0 rfl) ?_
          refine va_get (D := (dC, dI)) (ci := 2) (v := .ref aL_reached) (C := RX2) (T := TX2) (N := 11) hx hb hts iX2 hown hK hP 1 rfl rfl 3 (by decide) hw3 (fun _ h9 => h9) rfl dX2_mostLeft_37 ?_
          refine lv_iload hx hb dX2_mostLeft_40 (lv_at hl 4 rfl) ?_
          obtain ⟨hi1, hf⟩ := sw_ix_s hf
          refine va_iald hx hb hK hP 2 0 rfl rfl hi1 dX2_mostLeft_42 ?_
          obtain ⟨q2, hq2, hf⟩ := sw_bs hf
          have hPc := hP.sub (ws' := [(aE, .inr (1, [.ref aC, .ref aE_holders])), (aE_holders, .inl (cI, 5, .inl E_holders))]) [4, 5] rfl
          have hDc := hD.sub (ws' := [(aE, .inr (1, [.ref aC, .ref aE_holders])), (aE_holders, .inl (cI, 5, .inl E_holders))]) [4, 5] (by decide) rfl
          have hFc := va_free (wc := [(aE, .inr (1, [.ref aC, .ref aE_holders])), (aE_holders, .inl (cI, 5, .inl E_holders))]) hD hS hA [4, 5] rfl
          refine sw_wv (wn := [(aC, .inr (0, [.ref aC_traits, .int C_total])), (aL, .inr (2, [.ref aC, .ref aE, .ref aF, .ref aL_reached, .ref aL_steps, .ref aL_firsts, .int L_total, .ref aL_isReached, .ref aL_answers, .int L_startNumber, .int L_startTotal])), (aL_reached, .inl (cI, 1296, .inl L_reached)), (aL_answers, .inl (cI, 32, .inl L_answers)), (aE, .inr (1, [.ref aC, .ref aE_holders])), (aE_holders, .inl (cI, 5, .inl q2)), (aT, .inr (4, [.ref aT_tellers, .ref aT_heard, .int T_length])), (aT_tellers, .inl (cI, 4, .inl T_tellers)), (aT_heard, .inl (cI, 4, .inl T_heard))]) (w1 := [(aE, .inr (1, [.ref aC, .ref aE_holders])), (aE_holders, .inl (cI, 5, .inl q2))]) (wr := [(aC, .inr (0, [.ref aC_traits, .int C_total])), (aL, .inr (2, [.ref aC, .ref aE, .ref aF, .ref aL_reached, .ref aL_steps, .ref aL_firsts, .int L_total, .ref aL_isReached, .ref aL_answers, .int L_startNumber, .int L_startTotal])), (aL_reached, .inl (cI, 1296, .inl L_reached)), (aL_answers, .inl (cI, 32, .inl L_answers)), (aT, .inr (4, [.ref aT_tellers, .ref aT_heard, .int T_length])), (aT_tellers, .inl (cI, 4, .inl T_tellers)), (aT_heard, .inl (cI, 4, .inl T_heard))]) (va_runV (As := [.int (L_reached l4.toNatClampNeg)]) (rest := []) ⟨hx, hb, hml, hown, hts⟩ (k_X1_become l dC dI cI cZ t0 H.size aE aC aE_holders E_holders (L_reached l4.toNatClampNeg) q2 hq2) (cwV 1 hts gX2_mostLeft_X1_become rfl rfl rfl (by decide +kernel) ⟨Nat.le_of_ble_eq_true rfl, Nat.le_of_ble_eq_true rfl⟩) ⟨sw_PW_bl, va_recv hK hPc (ci := 1) (q0 := 0) rfl rfl, sw_PW_pre hK hPc hDc hE hS hFc⟩ rfl rfl hl.1 rfl (lv_room (Nat.le_of_ble_eq_true rfl)) dX2_mostLeft_43 ⟨Nat.zero_le _, Nat.zero_le _⟩) hS hP hD hFc [4, 5] [0, 1, 2, 3, 6, 7, 8] [0, 1, 2, 3, 7, 8, 4, 5, 6] rfl rfl (by decide) (by decide) (by decide) rfl (fun H locs hP hD hS => ?_)
          refine lv_aload_n hx hb dX2_mostLeft_46 rfl (lv_at hl 0 rfl) ?_
          refine va_get (D := (dC, dI)) (ci := 2) (v := .ref aE) (C := RX2) (T := TX2) (N := 11) hx hb hts iX2 hown hK hP 1 rfl rfl 1 (by decide) hw4 (fun _ h9 => h9) rfl dX2_mostLeft_47 ?_
          refine lv_iload_n hx hb dX2_mostLeft_50 rfl (lv_at hl 1 rfl) ?_
          obtain ⟨q3, hq3, hf⟩ := sw_bs hf
          have hPc := hP.sub (ws' := [(aC, .inr (0, [.ref aC_traits, .int C_total])), (aE, .inr (1, [.ref aC, .ref aE_holders])), (aE_holders, .inl (cI, 5, .inl q2))]) [0, 4, 5] rfl
          refine sw_rd (W.runV (As := [.int l1]) (rest := []) ⟨hx, hb, hml, hown, hts⟩ (k_X1_heardBy l dC dI cI cZ t0 aC aC_traits aE aE_holders C_total q2 l1 q3 hq3) (cwV 1 hts gX2_mostLeft_X1_heardBy rfl rfl rfl (by decide +kernel) ⟨Nat.le_of_ble_eq_true rfl, Nat.le_of_ble_eq_true rfl⟩) ⟨sw_PR_bl, va_recv hK hPc (ci := 1) (q0 := 1) rfl rfl, sw_PR_pre hK hPc hE hS⟩ rfl rfl hl.1 rfl (lv_room (Nat.le_of_ble_eq_true rfl)) dX2_mostLeft_51 ⟨Nat.zero_le _, Nat.zero_le _⟩) ?_
          refine lv_istore (lv' := [(5, .int q3), (0, .ref aL), (1, .int l1), (2, .ref aT), (3, .int l3), (4, .int l4)]) hx hb dX2_mostLeft_54 hl (by decide) rfl (fun ls hl => ?_)
          refine lv_iload hx hb dX2_mostLeft_56 (lv_at hl 0 rfl) ?_
          refine lv_if_lt (tgt := 105) hx hb dX2_mostLeft_58 (by decide) (fun c3 => ?_) (fun c3 => ?_)
          · have hf := sw_ip c3 hf
            refine lv_iinc (v := l4 + (1 : Int32)) (lv' := [(4, .int (l4 + (1 : Int32))), (5, .int q3), (0, .ref aL), (1, .int l1), (2, .ref aT), (3, .int l3)]) hx hb dX2_mostLeft_105 hl (k := 5) rfl (sw_ii _) (by decide) rfl (fun ls hl => ?_)
            refine lv_goto (tgt := 13) hx hb dX2_mostLeft_108 (by decide) ?_
            exact ih L_answers q2 l3 (l4 + (1 : Int32)) hf H locs hP hD hS ls (lv_sub hl [2, 3, 4, 5, 0] rfl)
          · have hf := sw_in c3 hf
            refine lv_iload hx hb dX2_mostLeft_61 (lv_at hl 0 rfl) ?_
            refine lv_aload_n hx hb dX2_mostLeft_63 rfl (lv_at hl 1 rfl) ?_
            refine va_get (D := (dC, dI)) (ci := 2) (v := .ref aL_answers) (C := RX2) (T := TX2) (N := 11) hx hb hts iX2 hown hK hP 1 rfl rfl 8 (by decide) hw1 (fun _ h9 => h9) rfl dX2_mostLeft_64 ?_
            refine va_alen hx hb hK hP 3 0 rfl rfl (v := 32) (show Int32.ofNat 32 = 32 by decide +kernel) dX2_mostLeft_67 ?_
            refine lv_icmp_ge (tgt := 105) hx hb dX2_mostLeft_68 (by decide) (fun c4 => ?_) (fun c4 => ?_)
            · have hf := sw_ip c4 hf
              refine lv_iinc (v := l4 + (1 : Int32)) (lv' := [(4, .int (l4 + (1 : Int32))), (5, .int q3), (0, .ref aL), (1, .int l1), (2, .ref aT), (3, .int l3)]) hx hb dX2_mostLeft_105 hl (k := 5) rfl (sw_ii _) (by decide) rfl (fun ls hl => ?_)
              refine lv_goto (tgt := 13) hx hb dX2_mostLeft_108 (by decide) ?_
              exact ih L_answers q2 l3 (l4 + (1 : Int32)) hf H locs hP hD hS ls (lv_sub hl [2, 3, 4, 5, 0] rfl)
            · have hf := sw_in c4 hf
              refine lv_aload_n hx hb dX2_mostLeft_71 rfl (lv_at hl 3 rfl) ?_
              refine lv_aload_n hx hb dX2_mostLeft_72 rfl (lv_at hl 1 rfl) ?_
              refine va_get (D := (dC, dI)) (ci := 2) (v := .ref aE) (C := RX2) (T := TX2) (N := 11) hx hb hts iX2 hown hK hP 1 rfl rfl 1 (by decide) hw4 (fun _ h9 => h9) rfl dX2_mostLeft_73 ?_
              obtain ⟨q4, hq4, hf⟩ := sw_bs hf
              have hPc := hP.sub (ws' := [(aC, .inr (0, [.ref aC_traits, .int C_total])), (aE, .inr (1, [.ref aC, .ref aE_holders])), (aE_holders, .inl (cI, 5, .inl q2)), (aT, .inr (4, [.ref aT_tellers, .ref aT_heard, .int T_length])), (aT_tellers, .inl (cI, 4, .inl T_tellers)), (aT_heard, .inl (cI, 4, .inl T_heard))]) [0, 4, 5, 6, 7, 8] rfl
              refine sw_rd (W.runV (As := [.ref aE]) (rest := []) ⟨hx, hb, hml, hown, hts⟩ (k_X4_isSoIn l dC dI cI cZ t0 aC aC_traits aE aE_holders aT aT_tellers aT_heard C_total q2 T_length T_tellers T_heard q4 hq4) (cwV 1 hts gX2_mostLeft_X4_isSoIn rfl rfl rfl (by decide +kernel) ⟨Nat.le_of_ble_eq_true rfl, Nat.le_of_ble_eq_true rfl⟩) ⟨sw_PR_bl, va_recv hK hPc (ci := 4) (q0 := 3) rfl rfl, sw_PR_pre hK hPc hE hS⟩ rfl rfl hl.1 rfl (lv_room (Nat.le_of_ble_eq_true rfl)) dX2_mostLeft_76 ⟨Nat.zero_le _, Nat.zero_le _⟩) ?_
              refine lv_if_eq (tgt := 105) hx hb dX2_mostLeft_79 (by decide) (fun c5 => ?_) (fun c5 => ?_)
              · have hf := sw_ip c5 hf
                refine lv_iinc (v := l4 + (1 : Int32)) (lv' := [(4, .int (l4 + (1 : Int32))), (5, .int q3), (0, .ref aL), (1, .int l1), (2, .ref aT), (3, .int l3)]) hx hb dX2_mostLeft_105 hl (k := 5) rfl (sw_ii _) (by decide) rfl (fun ls hl => ?_)
                refine lv_goto (tgt := 13) hx hb dX2_mostLeft_108 (by decide) ?_
                exact ih L_answers q2 l3 (l4 + (1 : Int32)) hf H locs hP hD hS ls (lv_sub hl [2, 3, 4, 5, 0] rfl)
              · have hf := sw_in c5 hf
                refine lv_aload_n hx hb dX2_mostLeft_82 rfl (lv_at hl 1 rfl) ?_
                refine va_get (D := (dC, dI)) (ci := 2) (v := .ref aL_answers) (C := RX2) (T := TX2) (N := 11) hx hb hts iX2 hown hK hP 1 rfl rfl 8 (by decide) hw1 (fun _ h9 => h9) rfl dX2_mostLeft_83 ?_
                refine lv_iload hx hb dX2_mostLeft_86 (lv_at hl 0 rfl) ?_
                refine lv_dup2_11 hx hb dX2_mostLeft_88 rfl rfl ?_
                obtain ⟨hi5, hf⟩ := sw_ix_s hf
                refine va_iald hx hb hK hP 3 0 rfl rfl hi5 dX2_mostLeft_89 ?_
                refine lv_iconst (v := 1) hx hb dX2_mostLeft_90 (by decide) ?_
                refine lv_iadd hx hb dX2_mostLeft_91 ?_
                obtain ⟨hi6, hf⟩ := sw_ix_s hf
                refine va_iast hx hb hK hP hD hS 3 0 rfl rfl hi6 dX2_mostLeft_92 (fun H locs hP hD hS => ?_)
                have hP : va_P (dC, dI) vwCl [(aC, .inr (0, [.ref aC_traits, .int C_total])), (aL, .inr (2, [.ref aC, .ref aE, .ref aF, .ref aL_reached, .ref aL_steps, .ref aL_firsts, .int L_total, .ref aL_isReached, .ref aL_answers, .int L_startNumber, .int L_startTotal])), (aL_reached, .inl (cI, 1296, .inl L_reached)), (aL_answers, .inl (cI, 32, .inl (upd L_answers q3.toNatClampNeg ((L_answers q3.toNatClampNeg) + (1 : Int32))))), (aE, .inr (1, [.ref aC, .ref aE_holders])), (aE_holders, .inl (cI, 5, .inl q2)), (aT, .inr (4, [.ref aT_tellers, .ref aT_heard, .int T_length])), (aT_tellers, .inl (cI, 4, .inl T_tellers)), (aT_heard, .inl (cI, 4, .inl T_heard))] H := hP
                have hD : va_D A [(aC, .inr (0, [.ref aC_traits, .int C_total])), (aL, .inr (2, [.ref aC, .ref aE, .ref aF, .ref aL_reached, .ref aL_steps, .ref aL_firsts, .int L_total, .ref aL_isReached, .ref aL_answers, .int L_startNumber, .int L_startTotal])), (aL_reached, .inl (cI, 1296, .inl L_reached)), (aL_answers, .inl (cI, 32, .inl (upd L_answers q3.toNatClampNeg ((L_answers q3.toNatClampNeg) + (1 : Int32))))), (aE, .inr (1, [.ref aC, .ref aE_holders])), (aE_holders, .inl (cI, 5, .inl q2)), (aT, .inr (4, [.ref aT_tellers, .ref aT_heard, .int T_length])), (aT_tellers, .inl (cI, 4, .inl T_tellers)), (aT_heard, .inl (cI, 4, .inl T_heard))] := hD
                refine lv_iload_n hx hb dX2_mostLeft_93 rfl (lv_at hl 4 rfl) ?_
                refine lv_aload_n hx hb dX2_mostLeft_94 rfl (lv_at hl 1 rfl) ?_
                refine va_get (D := (dC, dI)) (ci := 2) (v := .ref aL_answers) (C := RX2) (T := TX2) (N := 11) hx hb hts iX2 hown hK hP 1 rfl rfl 8 (by decide) hw1 (fun _ h9 => h9) rfl dX2_mostLeft_95 ?_
                refine lv_iload hx hb dX2_mostLeft_98 (lv_at hl 0 rfl) ?_
                obtain ⟨hi7, hf⟩ := sw_ix_s hf
                refine va_iald hx hb hK hP 3 0 rfl rfl hi7 dX2_mostLeft_100 ?_
                refine va_mmax hx hb (hml.trans hl.1.symm) hown hw5 hw6 hw7 hw8 (Nat.le_of_ble_eq_true rfl) (Nat.le_of_ble_eq_true rfl) (Nat.zero_le _) (Nat.zero_le _) dX2_mostLeft_101 ?_
                refine lv_istore_n (lv' := [(3, .int (if l3 < ((upd L_answers q3.toNatClampNeg ((L_answers q3.toNatClampNeg) + (1 : Int32))) q3.toNatClampNeg) then ((upd L_answers q3.toNatClampNeg ((L_answers q3.toNatClampNeg) + (1 : Int32))) q3.toNatClampNeg) else l3)), (5, .int q3), (0, .ref aL), (1, .int l1), (2, .ref aT), (4, .int l4)]) hx hb dX2_mostLeft_104 rfl hl (by decide) rfl (fun ls hl => ?_)
                refine lv_iinc (v := l4 + (1 : Int32)) (lv' := [(4, .int (l4 + (1 : Int32))), (3, .int (if l3 < ((upd L_answers q3.toNatClampNeg ((L_answers q3.toNatClampNeg) + (1 : Int32))) q3.toNatClampNeg) then ((upd L_answers q3.toNatClampNeg ((L_answers q3.toNatClampNeg) + (1 : Int32))) q3.toNatClampNeg) else l3)), (5, .int q3), (0, .ref aL), (1, .int l1), (2, .ref aT)]) hx hb dX2_mostLeft_105 hl (k := 5) rfl (sw_ii _) (by decide) rfl (fun ls hl => ?_)
                refine lv_goto (tgt := 13) hx hb dX2_mostLeft_108 (by decide) ?_
                exact ih (upd L_answers q3.toNatClampNeg ((L_answers q3.toNatClampNeg) + (1 : Int32))) q2 (if l3 < ((upd L_answers q3.toNatClampNeg ((L_answers q3.toNatClampNeg) + (1 : Int32))) q3.toNatClampNeg) then ((upd L_answers q3.toNatClampNeg ((L_answers q3.toNatClampNeg) + (1 : Int32))) q3.toNatClampNeg) else l3) (l4 + (1 : Int32)) hf H locs hP hD hS ls (lv_sub hl [3, 4, 5, 1, 0] rfl)
  have hf := hf0
  have hl := hl0
  have hP := hP0
  have hD := hD0
  have hS := hS0
  obtain ⟨H, hH⟩ : ∃ H, H = s.heap := ⟨_, rfl⟩
  obtain ⟨locs, hlo⟩ : ∃ locs : List Loc, locs = [] := ⟨_, rfl⟩
  rw [← hH] at hP
  have hS : va_S A s.heap H locs := by rw [hH, hlo]; exact hS0
  suffices hgo : W p l e rm_X2_mostLeft s m ([.ref aL, .int l1, .ref aT] : List Value).toArray below meth c H locs 0 0 Q (F0 m 0 ls []) by rw [hH, hlo] at hgo; exact hgo
  refine lv_aload_n hx hb dX2_mostLeft_0 rfl (lv_at hl 0 rfl) ?_
  refine va_get (D := (dC, dI)) (ci := 2) (v := .ref aL_answers) (C := RX2) (T := TX2) (N := 11) hx hb hts iX2 hown hK hP 1 rfl rfl 8 (by decide) hw1 (fun _ h9 => h9) rfl dX2_mostLeft_1 ?_
  refine lv_iconst (v := 0) hx hb dX2_mostLeft_4 (by decide) ?_
  obtain ⟨q8, hq8, hf⟩ := sw_bs hf
  have hPc := hP.sub (ws' := [(aL_answers, .inl (cI, 32, .inl L_answers))]) [3] rfl
  have hDc := hD.sub (ws' := [(aL_answers, .inl (cI, 32, .inl L_answers))]) [3] (by decide) rfl
  have hFc := va_free (wc := [(aL_answers, .inl (cI, 32, .inl L_answers))]) hD hS hA [3] rfl
  refine sw_wv (wn := [(aC, .inr (0, [.ref aC_traits, .int C_total])), (aL, .inr (2, [.ref aC, .ref aE, .ref aF, .ref aL_reached, .ref aL_steps, .ref aL_firsts, .int L_total, .ref aL_isReached, .ref aL_answers, .int L_startNumber, .int L_startTotal])), (aL_reached, .inl (cI, 1296, .inl L_reached)), (aL_answers, .inl (cI, 32, .inl q8)), (aE, .inr (1, [.ref aC, .ref aE_holders])), (aE_holders, .inl (cI, 5, .inl E_holders)), (aT, .inr (4, [.ref aT_tellers, .ref aT_heard, .int T_length])), (aT_tellers, .inl (cI, 4, .inl T_tellers)), (aT_heard, .inl (cI, 4, .inl T_heard))]) (w1 := [(aL_answers, .inl (cI, 32, .inl q8))]) (wr := [(aC, .inr (0, [.ref aC_traits, .int C_total])), (aL, .inr (2, [.ref aC, .ref aE, .ref aF, .ref aL_reached, .ref aL_steps, .ref aL_firsts, .int L_total, .ref aL_isReached, .ref aL_answers, .int L_startNumber, .int L_startTotal])), (aL_reached, .inl (cI, 1296, .inl L_reached)), (aE, .inr (1, [.ref aC, .ref aE_holders])), (aE_holders, .inl (cI, 5, .inl E_holders)), (aT, .inr (4, [.ref aT_tellers, .ref aT_heard, .int T_length])), (aT_tellers, .inl (cI, 4, .inl T_tellers)), (aT_heard, .inl (cI, 4, .inl T_heard))]) (va_runS (As := [.ref aL_answers, .int (0 : Int32)]) (rest := []) ⟨hx, hb, hml, hown, hts⟩ (k_J7_fill_53178 l dC dI cI cZ t0 H.size 32 aL_answers L_answers (0 : Int32) q8 hq8) (va_cwS 2 hts gX2_mostLeft_J7_fill_53178 rfl rfl rfl (by decide +kernel) ⟨Nat.le_of_ble_eq_true rfl, Nat.le_of_ble_eq_true rfl⟩) ⟨sw_PW_bl, sw_PW_pre hK hPc hDc hE hS hFc⟩ rfl rfl hl.1 rfl (lv_room (Nat.le_of_ble_eq_true rfl)) dX2_mostLeft_5 ⟨Nat.zero_le _, Nat.zero_le _⟩) hS hP hD hFc [3] [0, 1, 2, 4, 5, 6, 7, 8] [0, 1, 2, 8, 3, 4, 5, 6, 7] rfl rfl (by decide) (by decide) (by decide) rfl (fun H locs hP hD hS => ?_)
  refine lv_iconst (v := 0) hx hb dX2_mostLeft_8 (by decide) ?_
  refine lv_istore_n (lv' := [(3, .int (0 : Int32)), (0, .ref aL), (1, .int l1), (2, .ref aT)]) hx hb dX2_mostLeft_9 rfl hl (by decide) rfl (fun ls hl => ?_)
  refine lv_iconst (v := 0) hx hb dX2_mostLeft_10 (by decide) ?_
  refine lv_istore (lv' := [(4, .int (0 : Int32)), (3, .int (0 : Int32)), (0, .ref aL), (1, .int l1), (2, .ref aT)]) hx hb dX2_mostLeft_11 hl (by decide) rfl (fun ls hl => ?_)
  exact hB_13   sw_fu q8 E_holders (0 : Int32) (0 : Int32) hf H locs hP hD hS ls (lv_sub hl [2, 3, 4, 1, 0] rfl)
