abbrev rm_X2_reach : Room := { frames := 0, cells := 0, slots := 0, locals := 0 }
set_option maxHeartbeats 1000000 in
set_option maxRecDepth 100000 in
theorem k_X2_reach (l : Launch) (dC : Nat → ClassId) (dI : Nat → Nat → Nat) (cI cZ : ClassId) (t0 : Nat) (sz : Nat) (aL aC aE aF aL_reached aL_steps aL_firsts aL_isReached aL_answers : Nat) (L_total : Int32) (L_startNumber : Int32) (L_startTotal : Int32) (L_reached : Nat → Int32) (L_steps : Nat → Int32) (L_firsts : Nat → Int32) (L_isReached : Nat → Int32) (l1 : Int32) (l2 : Int32) (l3 : Int32) (L_total' : Int32) (L_reached' : Nat → Int32) (L_steps' : Nat → Int32) (L_firsts' : Nat → Int32) (L_isReached' : Nat → Int32) (hf : F_X2_reach L_total L_reached L_steps L_firsts L_isReached l1 l2 l3 = some (L_total', L_reached', L_steps', L_firsts', L_isReached')) : Met l yX2_reach wsX2_reach rm_X2_reach (sw_PW (dC, dI) t0 [(cI, .int), (cZ, .boolean)] [.ref aL, .int l1, .int l2, .int l3] [(aL, .inr (2, [.ref aC, .ref aE, .ref aF, .ref aL_reached, .ref aL_steps, .ref aL_firsts, .int L_total, .ref aL_isReached, .ref aL_answers, .int L_startNumber, .int L_startTotal])), (aL_reached, .inl (cI, 1296, .inl L_reached)), (aL_steps, .inl (cI, 1296, .inl L_steps)), (aL_firsts, .inl (cI, 1296, .inl L_firsts)), (aL_isReached, .inl (cZ, 7776, .inl L_isReached))] sz) (va_Qv (fun (_ : Unit) => True) (fun _ t => sw_B (dC, dI) [(cI, .int), (cZ, .boolean)] [(aL, .inr (2, [.ref aC, .ref aE, .ref aF, .ref aL_reached, .ref aL_steps, .ref aL_firsts, .int L_total', .ref aL_isReached, .ref aL_answers, .int L_startNumber, .int L_startTotal])), (aL_reached, .inl (cI, 1296, .inl L_reached')), (aL_steps, .inl (cI, 1296, .inl L_steps')), (aL_firsts, .inl (cI, 1296, .inl L_firsts')), (aL_isReached, .inl (cZ, 7776, .inl L_isReached'))] (va_A [(aL, .inr (2, [.ref aC, .ref aE, .ref aF, .ref aL_reached, .ref aL_steps, .ref aL_firsts, .int L_total, .ref aL_isReached, .ref aL_answers, .int L_startNumber, .int L_startTotal])), (aL_reached, .inl (cI, 1296, .inl L_reached)), (aL_steps, .inl (cI, 1296, .inl L_steps)), (aL_firsts, .inl (cI, 1296, .inl L_firsts)), (aL_isReached, .inl (cZ, 7776, .inl L_isReached))] sz) t) (va_A [(aL, .inr (2, [.ref aC, .ref aE, .ref aF, .ref aL_reached, .ref aL_steps, .ref aL_firsts, .int L_total, .ref aL_isReached, .ref aL_answers, .int L_startNumber, .int L_startTotal])), (aL_reached, .inl (cI, 1296, .inl L_reached)), (aL_steps, .inl (cI, 1296, .inl L_steps)), (aL_firsts, .inl (cI, 1296, .inl L_firsts)), (aL_isReached, .inl (cZ, 7776, .inl L_isReached))] sz)) 0 0 (va_A [(aL, .inr (2, [.ref aC, .ref aE, .ref aF, .ref aL_reached, .ref aL_steps, .ref aL_firsts, .int L_total, .ref aL_isReached, .ref aL_answers, .int L_startNumber, .int L_startTotal])), (aL_reached, .inl (cI, 1296, .inl L_reached)), (aL_steps, .inl (cI, 1296, .inl L_steps)), (aL_firsts, .inl (cI, 1296, .inl L_firsts)), (aL_isReached, .inl (cZ, 7776, .inl L_isReached))] sz) := by
  refine sw_metW (cc := cX2_reach) (maxL := 4) (ret := none) (lv := [(0, .ref aL), (1, .int l1), (2, .int l2), (3, .int l3)]) (by decide) rfl (Nat.le_of_ble_eq_true rfl) rfl ?_
  intro p e s m below meth c Q A hsz hAe hQ hx hb hr hts hown hlocks hml hmn hP hK hD hE hS hA ls hl
  have hS0 := hS
  have hown : s.vm.findClass RX2 = some m.cls := hown
  have hf := (F_X2_reach.eq_1 _ _ _ _ _ _ _ _).symm.trans hf
  have hw1 := hts (.fieldLink RX2 21 "SwallowedInTurn$Outlook" "isReached" "[Z") (List.mem_of_getElem? (i := 1) (by decide +kernel))
  have iX2 : ∀ w ∈ u_ws RX2 TX2 11, w ∈ wsX2_reach := by decide +kernel
  have hw2 := hts (.fieldLink RX2 60 "SwallowedInTurn$Outlook" "total" "I") (List.mem_of_getElem? (i := 2) (by decide +kernel))
  have hw3 := hts (.fieldLink RX2 11 "SwallowedInTurn$Outlook" "reached" "[I") (List.mem_of_getElem? (i := 3) (by decide +kernel))
  have hw4 := hts (.fieldLink RX2 15 "SwallowedInTurn$Outlook" "steps" "[I") (List.mem_of_getElem? (i := 4) (by decide +kernel))
  have hw5 := hts (.fieldLink RX2 18 "SwallowedInTurn$Outlook" "firsts" "[I") (List.mem_of_getElem? (i := 5) (by decide +kernel))
  obtain ⟨H, hH⟩ : ∃ H, H = s.heap := ⟨_, rfl⟩
  obtain ⟨locs, hlo⟩ : ∃ locs : List Loc, locs = [] := ⟨_, rfl⟩
  rw [← hH] at hP
  have hS : va_S A s.heap H locs := by rw [hH, hlo]; exact hS0
  suffices hgo : W p l e rm_X2_reach s m ([.ref aL, .int l1, .int l2, .int l3] : List Value).toArray below meth c H locs 0 0 Q (F0 m 0 ls []) by rw [hH, hlo] at hgo; exact hgo
  refine lv_iload_n hx hb dX2_reach_0 rfl (lv_at hl 1 rfl) ?_
  refine lv_if_lt (tgt := 22) hx hb dX2_reach_1 (by decide) (fun c1 => ?_) (fun c1 => ?_)
  · have hf := sw_ip c1 hf
    subst hQ hAe
    cases hf
    exact W.vret hx hb hr (fun t ht hW => ⟨⟨(), rfl, trivial, ⟨by rw [ht]; exact hP, va_K.moved hW.alike hK, hD⟩⟩, hS.F ht⟩) hS.2.2 dX2_reach_22 hlocks
  · have hf := sw_in c1 hf
    refine lv_iload_n hx hb dX2_reach_4 rfl (lv_at hl 1 rfl) ?_
    refine lv_aload_n hx hb dX2_reach_5 rfl (lv_at hl 0 rfl) ?_
    refine va_get (D := (dC, dI)) (ci := 2) (v := .ref aL_isReached) (C := RX2) (T := TX2) (N := 11) hx hb hts iX2 hown hK hP 0 rfl rfl 7 (by decide) hw1 (fun _ h9 => h9) rfl dX2_reach_6 ?_
    refine va_alen hx hb hK hP 4 1 rfl rfl (v := 7776) (show Int32.ofNat 7776 = 7776 by decide +kernel) dX2_reach_9 ?_
    refine lv_icmp_ge (tgt := 22) hx hb dX2_reach_10 (by decide) (fun c2 => ?_) (fun c2 => ?_)
    · have hf := sw_ip c2 hf
      subst hQ hAe
      cases hf
      exact W.vret hx hb hr (fun t ht hW => ⟨⟨(), rfl, trivial, ⟨by rw [ht]; exact hP, va_K.moved hW.alike hK, hD⟩⟩, hS.F ht⟩) hS.2.2 dX2_reach_22 hlocks
    · have hf := sw_in c2 hf
      refine lv_aload_n hx hb dX2_reach_13 rfl (lv_at hl 0 rfl) ?_
      refine va_get (D := (dC, dI)) (ci := 2) (v := .ref aL_isReached) (C := RX2) (T := TX2) (N := 11) hx hb hts iX2 hown hK hP 0 rfl rfl 7 (by decide) hw1 (fun _ h9 => h9) rfl dX2_reach_14 ?_
      refine lv_iload_n hx hb dX2_reach_17 rfl (lv_at hl 1 rfl) ?_
      obtain ⟨hi1, hf⟩ := sw_ix_s hf
      refine va_zald hx hb hK hP 4 1 rfl rfl hi1 dX2_reach_18 ?_
      refine lv_if_eq (tgt := 23) hx hb dX2_reach_19 (by decide) (fun c3 => ?_) (fun c3 => ?_)
      · have hf := sw_ip c3 hf
        refine lv_aload_n hx hb dX2_reach_23 rfl (lv_at hl 0 rfl) ?_
        refine va_get (D := (dC, dI)) (ci := 2) (v := .int L_total) (C := RX2) (T := TX2) (N := 11) hx hb hts iX2 hown hK hP 0 rfl rfl 6 (by decide) hw2 (fun _ h9 => h9) rfl dX2_reach_24 ?_
        refine lv_if_lt (tgt := 66) hx hb dX2_reach_27 (by decide) (fun c4 => ?_) (fun c4 => ?_)
        · have hf := sw_ip c4 hf
          subst hQ hAe
          cases hf
          exact W.vret hx hb hr (fun t ht hW => ⟨⟨(), rfl, trivial, ⟨by rw [ht]; exact hP, va_K.moved hW.alike hK, hD⟩⟩, hS.F ht⟩) hS.2.2 dX2_reach_66 hlocks
        · have hf := sw_in c4 hf
          refine lv_aload_n hx hb dX2_reach_30 rfl (lv_at hl 0 rfl) ?_
          refine va_get (D := (dC, dI)) (ci := 2) (v := .int L_total) (C := RX2) (T := TX2) (N := 11) hx hb hts iX2 hown hK hP 0 rfl rfl 6 (by decide) hw2 (fun _ h9 => h9) rfl dX2_reach_31 ?_
          refine lv_aload_n hx hb dX2_reach_34 rfl (lv_at hl 0 rfl) ?_
          refine va_get (D := (dC, dI)) (ci := 2) (v := .ref aL_reached) (C := RX2) (T := TX2) (N := 11) hx hb hts iX2 hown hK hP 0 rfl rfl 3 (by decide) hw3 (fun _ h9 => h9) rfl dX2_reach_35 ?_
          refine va_alen hx hb hK hP 1 0 rfl rfl (v := 1296) (show Int32.ofNat 1296 = 1296 by decide +kernel) dX2_reach_38 ?_
          refine lv_icmp_ge (tgt := 66) hx hb dX2_reach_39 (by decide) (fun c5 => ?_) (fun c5 => ?_)
          · have hf := sw_ip c5 hf
            subst hQ hAe
            cases hf
            exact W.vret hx hb hr (fun t ht hW => ⟨⟨(), rfl, trivial, ⟨by rw [ht]; exact hP, va_K.moved hW.alike hK, hD⟩⟩, hS.F ht⟩) hS.2.2 dX2_reach_66 hlocks
          · have hf := sw_in c5 hf
            refine lv_aload_n hx hb dX2_reach_42 rfl (lv_at hl 0 rfl) ?_
            refine va_get (D := (dC, dI)) (ci := 2) (v := .int L_total) (C := RX2) (T := TX2) (N := 11) hx hb hts iX2 hown hK hP 0 rfl rfl 6 (by decide) hw2 (fun _ h9 => h9) rfl dX2_reach_43 ?_
            refine lv_aload_n hx hb dX2_reach_46 rfl (lv_at hl 0 rfl) ?_
            refine va_get (D := (dC, dI)) (ci := 2) (v := .ref aL_steps) (C := RX2) (T := TX2) (N := 11) hx hb hts iX2 hown hK hP 0 rfl rfl 4 (by decide) hw4 (fun _ h9 => h9) rfl dX2_reach_47 ?_
            refine va_alen hx hb hK hP 2 0 rfl rfl (v := 1296) (show Int32.ofNat 1296 = 1296 by decide +kernel) dX2_reach_50 ?_
            refine lv_icmp_ge (tgt := 66) hx hb dX2_reach_51 (by decide) (fun c6 => ?_) (fun c6 => ?_)
            · have hf := sw_ip c6 hf
              subst hQ hAe
              cases hf
              exact W.vret hx hb hr (fun t ht hW => ⟨⟨(), rfl, trivial, ⟨by rw [ht]; exact hP, va_K.moved hW.alike hK, hD⟩⟩, hS.F ht⟩) hS.2.2 dX2_reach_66 hlocks
            · have hf := sw_in c6 hf
              refine lv_aload_n hx hb dX2_reach_54 rfl (lv_at hl 0 rfl) ?_
              refine va_get (D := (dC, dI)) (ci := 2) (v := .int L_total) (C := RX2) (T := TX2) (N := 11) hx hb hts iX2 hown hK hP 0 rfl rfl 6 (by decide) hw2 (fun _ h9 => h9) rfl dX2_reach_55 ?_
              refine lv_aload_n hx hb dX2_reach_58 rfl (lv_at hl 0 rfl) ?_
              refine va_get (D := (dC, dI)) (ci := 2) (v := .ref aL_firsts) (C := RX2) (T := TX2) (N := 11) hx hb hts iX2 hown hK hP 0 rfl rfl 5 (by decide) hw5 (fun _ h9 => h9) rfl dX2_reach_59 ?_
              refine va_alen hx hb hK hP 3 0 rfl rfl (v := 1296) (show Int32.ofNat 1296 = 1296 by decide +kernel) dX2_reach_62 ?_
              refine lv_icmp_lt (tgt := 67) hx hb dX2_reach_63 (by decide) (fun c7 => ?_) (fun c7 => ?_)
              · have hf := sw_ip c7 hf
                refine lv_aload_n hx hb dX2_reach_67 rfl (lv_at hl 0 rfl) ?_
                refine va_get (D := (dC, dI)) (ci := 2) (v := .ref aL_isReached) (C := RX2) (T := TX2) (N := 11) hx hb hts iX2 hown hK hP 0 rfl rfl 7 (by decide) hw1 (fun _ h9 => h9) rfl dX2_reach_68 ?_
                refine lv_iload_n hx hb dX2_reach_71 rfl (lv_at hl 1 rfl) ?_
                refine lv_iconst (v := 1) hx hb dX2_reach_72 (by decide) ?_
                obtain ⟨hi2, hf⟩ := sw_ix_s hf
                refine va_zast hx hb hK hP hD hS 4 1 rfl rfl hi2 dX2_reach_73 (fun H locs hP hD hS => ?_)
                have hP : va_P (dC, dI) vwCl [(aL, .inr (2, [.ref aC, .ref aE, .ref aF, .ref aL_reached, .ref aL_steps, .ref aL_firsts, .int L_total, .ref aL_isReached, .ref aL_answers, .int L_startNumber, .int L_startTotal])), (aL_reached, .inl (cI, 1296, .inl L_reached)), (aL_steps, .inl (cI, 1296, .inl L_steps)), (aL_firsts, .inl (cI, 1296, .inl L_firsts)), (aL_isReached, .inl (cZ, 7776, .inl (upd L_isReached l1.toNatClampNeg (1 : Int32))))] H := hP
                have hD : va_D A [(aL, .inr (2, [.ref aC, .ref aE, .ref aF, .ref aL_reached, .ref aL_steps, .ref aL_firsts, .int L_total, .ref aL_isReached, .ref aL_answers, .int L_startNumber, .int L_startTotal])), (aL_reached, .inl (cI, 1296, .inl L_reached)), (aL_steps, .inl (cI, 1296, .inl L_steps)), (aL_firsts, .inl (cI, 1296, .inl L_firsts)), (aL_isReached, .inl (cZ, 7776, .inl (upd L_isReached l1.toNatClampNeg (1 : Int32))))] := hD
                refine lv_aload_n hx hb dX2_reach_74 rfl (lv_at hl 0 rfl) ?_
                refine va_get (D := (dC, dI)) (ci := 2) (v := .ref aL_reached) (C := RX2) (T := TX2) (N := 11) hx hb hts iX2 hown hK hP 0 rfl rfl 3 (by decide) hw3 (fun _ h9 => h9) rfl dX2_reach_75 ?_
                refine lv_aload_n hx hb dX2_reach_78 rfl (lv_at hl 0 rfl) ?_
                refine va_get (D := (dC, dI)) (ci := 2) (v := .int L_total) (C := RX2) (T := TX2) (N := 11) hx hb hts iX2 hown hK hP 0 rfl rfl 6 (by decide) hw2 (fun _ h9 => h9) rfl dX2_reach_79 ?_
                refine lv_iload_n hx hb dX2_reach_82 rfl (lv_at hl 1 rfl) ?_
                obtain ⟨hi3, hf⟩ := sw_ix_s hf
                refine va_iast hx hb hK hP hD hS 1 0 rfl rfl hi3 dX2_reach_83 (fun H locs hP hD hS => ?_)
                have hP : va_P (dC, dI) vwCl [(aL, .inr (2, [.ref aC, .ref aE, .ref aF, .ref aL_reached, .ref aL_steps, .ref aL_firsts, .int L_total, .ref aL_isReached, .ref aL_answers, .int L_startNumber, .int L_startTotal])), (aL_reached, .inl (cI, 1296, .inl (upd L_reached L_total.toNatClampNeg l1))), (aL_steps, .inl (cI, 1296, .inl L_steps)), (aL_firsts, .inl (cI, 1296, .inl L_firsts)), (aL_isReached, .inl (cZ, 7776, .inl (upd L_isReached l1.toNatClampNeg (1 : Int32))))] H := hP
                have hD : va_D A [(aL, .inr (2, [.ref aC, .ref aE, .ref aF, .ref aL_reached, .ref aL_steps, .ref aL_firsts, .int L_total, .ref aL_isReached, .ref aL_answers, .int L_startNumber, .int L_startTotal])), (aL_reached, .inl (cI, 1296, .inl (upd L_reached L_total.toNatClampNeg l1))), (aL_steps, .inl (cI, 1296, .inl L_steps)), (aL_firsts, .inl (cI, 1296, .inl L_firsts)), (aL_isReached, .inl (cZ, 7776, .inl (upd L_isReached l1.toNatClampNeg (1 : Int32))))] := hD
                refine lv_aload_n hx hb dX2_reach_84 rfl (lv_at hl 0 rfl) ?_
                refine va_get (D := (dC, dI)) (ci := 2) (v := .ref aL_steps) (C := RX2) (T := TX2) (N := 11) hx hb hts iX2 hown hK hP 0 rfl rfl 4 (by decide) hw4 (fun _ h9 => h9) rfl dX2_reach_85 ?_
                refine lv_aload_n hx hb dX2_reach_88 rfl (lv_at hl 0 rfl) ?_
                refine va_get (D := (dC, dI)) (ci := 2) (v := .int L_total) (C := RX2) (T := TX2) (N := 11) hx hb hts iX2 hown hK hP 0 rfl rfl 6 (by decide) hw2 (fun _ h9 => h9) rfl dX2_reach_89 ?_
                refine lv_iload_n hx hb dX2_reach_92 rfl (lv_at hl 2 rfl) ?_
                obtain ⟨hi4, hf⟩ := sw_ix_s hf
                refine va_iast hx hb hK hP hD hS 2 0 rfl rfl hi4 dX2_reach_93 (fun H locs hP hD hS => ?_)
                have hP : va_P (dC, dI) vwCl [(aL, .inr (2, [.ref aC, .ref aE, .ref aF, .ref aL_reached, .ref aL_steps, .ref aL_firsts, .int L_total, .ref aL_isReached, .ref aL_answers, .int L_startNumber, .int L_startTotal])), (aL_reached, .inl (cI, 1296, .inl (upd L_reached L_total.toNatClampNeg l1))), (aL_steps, .inl (cI, 1296, .inl (upd L_steps L_total.toNatClampNeg l2))), (aL_firsts, .inl (cI, 1296, .inl L_firsts)), (aL_isReached, .inl (cZ, 7776, .inl (upd L_isReached l1.toNatClampNeg (1 : Int32))))] H := hP
                have hD : va_D A [(aL, .inr (2, [.ref aC, .ref aE, .ref aF, .ref aL_reached, .ref aL_steps, .ref aL_firsts, .int L_total, .ref aL_isReached, .ref aL_answers, .int L_startNumber, .int L_startTotal])), (aL_reached, .inl (cI, 1296, .inl (upd L_reached L_total.toNatClampNeg l1))), (aL_steps, .inl (cI, 1296, .inl (upd L_steps L_total.toNatClampNeg l2))), (aL_firsts, .inl (cI, 1296, .inl L_firsts)), (aL_isReached, .inl (cZ, 7776, .inl (upd L_isReached l1.toNatClampNeg (1 : Int32))))] := hD
                refine lv_aload_n hx hb dX2_reach_94 rfl (lv_at hl 0 rfl) ?_
                refine va_get (D := (dC, dI)) (ci := 2) (v := .ref aL_firsts) (C := RX2) (T := TX2) (N := 11) hx hb hts iX2 hown hK hP 0 rfl rfl 5 (by decide) hw5 (fun _ h9 => h9) rfl dX2_reach_95 ?_
                refine lv_aload_n hx hb dX2_reach_98 rfl (lv_at hl 0 rfl) ?_
                refine va_get (D := (dC, dI)) (ci := 2) (v := .int L_total) (C := RX2) (T := TX2) (N := 11) hx hb hts iX2 hown hK hP 0 rfl rfl 6 (by decide) hw2 (fun _ h9 => h9) rfl dX2_reach_99 ?_
                refine lv_iload_n hx hb dX2_reach_102 rfl (lv_at hl 3 rfl) ?_
                obtain ⟨hi5, hf⟩ := sw_ix_s hf
                refine va_iast hx hb hK hP hD hS 3 0 rfl rfl hi5 dX2_reach_103 (fun H locs hP hD hS => ?_)
                have hP : va_P (dC, dI) vwCl [(aL, .inr (2, [.ref aC, .ref aE, .ref aF, .ref aL_reached, .ref aL_steps, .ref aL_firsts, .int L_total, .ref aL_isReached, .ref aL_answers, .int L_startNumber, .int L_startTotal])), (aL_reached, .inl (cI, 1296, .inl (upd L_reached L_total.toNatClampNeg l1))), (aL_steps, .inl (cI, 1296, .inl (upd L_steps L_total.toNatClampNeg l2))), (aL_firsts, .inl (cI, 1296, .inl (upd L_firsts L_total.toNatClampNeg l3))), (aL_isReached, .inl (cZ, 7776, .inl (upd L_isReached l1.toNatClampNeg (1 : Int32))))] H := hP
                have hD : va_D A [(aL, .inr (2, [.ref aC, .ref aE, .ref aF, .ref aL_reached, .ref aL_steps, .ref aL_firsts, .int L_total, .ref aL_isReached, .ref aL_answers, .int L_startNumber, .int L_startTotal])), (aL_reached, .inl (cI, 1296, .inl (upd L_reached L_total.toNatClampNeg l1))), (aL_steps, .inl (cI, 1296, .inl (upd L_steps L_total.toNatClampNeg l2))), (aL_firsts, .inl (cI, 1296, .inl (upd L_firsts L_total.toNatClampNeg l3))), (aL_isReached, .inl (cZ, 7776, .inl (upd L_isReached l1.toNatClampNeg (1 : Int32))))] := hD
                refine lv_aload_n hx hb dX2_reach_104 rfl (lv_at hl 0 rfl) ?_
                refine lv_dup hx hb dX2_reach_105 rfl ?_
                refine va_get (D := (dC, dI)) (ci := 2) (v := .int L_total) (C := RX2) (T := TX2) (N := 11) hx hb hts iX2 hown hK hP 0 rfl rfl 6 (by decide) hw2 (fun _ h9 => h9) rfl dX2_reach_106 ?_
                refine lv_iconst (v := 1) hx hb dX2_reach_109 (by decide) ?_
                refine lv_iadd hx hb dX2_reach_110 ?_
                refine va_put (D := (dC, dI)) (ci := 2) (v := .int (L_total + (1 : Int32))) (ty := .int) (C := RX2) (T := TX2) (N := 11) hx hb hts iX2 tyX2 tyX2_ok nmX2 hown hK hP hD hS 0 rfl rfl 6 (by decide) hw2 (fun _ h9 => h9) rfl (by decide +kernel) rfl rfl (Nat.le_of_ble_eq_true rfl) dX2_reach_111 (fun H locs hP hD hS => ?_)
                have hP : va_P (dC, dI) vwCl [(aL, .inr (2, [.ref aC, .ref aE, .ref aF, .ref aL_reached, .ref aL_steps, .ref aL_firsts, .int (L_total + (1 : Int32)), .ref aL_isReached, .ref aL_answers, .int L_startNumber, .int L_startTotal])), (aL_reached, .inl (cI, 1296, .inl (upd L_reached L_total.toNatClampNeg l1))), (aL_steps, .inl (cI, 1296, .inl (upd L_steps L_total.toNatClampNeg l2))), (aL_firsts, .inl (cI, 1296, .inl (upd L_firsts L_total.toNatClampNeg l3))), (aL_isReached, .inl (cZ, 7776, .inl (upd L_isReached l1.toNatClampNeg (1 : Int32))))] H := hP
                have hD : va_D A [(aL, .inr (2, [.ref aC, .ref aE, .ref aF, .ref aL_reached, .ref aL_steps, .ref aL_firsts, .int (L_total + (1 : Int32)), .ref aL_isReached, .ref aL_answers, .int L_startNumber, .int L_startTotal])), (aL_reached, .inl (cI, 1296, .inl (upd L_reached L_total.toNatClampNeg l1))), (aL_steps, .inl (cI, 1296, .inl (upd L_steps L_total.toNatClampNeg l2))), (aL_firsts, .inl (cI, 1296, .inl (upd L_firsts L_total.toNatClampNeg l3))), (aL_isReached, .inl (cZ, 7776, .inl (upd L_isReached l1.toNatClampNeg (1 : Int32))))] := hD
                subst hQ hAe
                cases hf
                exact W.vret hx hb hr (fun t ht hW => ⟨⟨(), rfl, trivial, ⟨by rw [ht]; exact hP, va_K.moved hW.alike hK, hD⟩⟩, hS.F ht⟩) hS.2.2 dX2_reach_114 hlocks
              · have hf := sw_in c7 hf
                subst hQ hAe
                cases hf
                exact W.vret hx hb hr (fun t ht hW => ⟨⟨(), rfl, trivial, ⟨by rw [ht]; exact hP, va_K.moved hW.alike hK, hD⟩⟩, hS.F ht⟩) hS.2.2 dX2_reach_66 hlocks
      · have hf := sw_in c3 hf
        subst hQ hAe
        cases hf
        exact W.vret hx hb hr (fun t ht hW => ⟨⟨(), rfl, trivial, ⟨by rw [ht]; exact hP, va_K.moved hW.alike hK, hD⟩⟩, hS.F ht⟩) hS.2.2 dX2_reach_22 hlocks
abbrev rm_X2_firstAt : Room := { frames := 0, cells := 0, slots := 0, locals := 0 }
set_option maxHeartbeats 1000000 in
set_option maxRecDepth 100000 in
theorem k_X2_firstAt (l : Launch) (dC : Nat → ClassId) (dI : Nat → Nat → Nat) (cI cZ : ClassId) (t0 : Nat) (aL aC aE aF aL_reached aL_steps aL_firsts aL_isReached aL_answers : Nat) (L_total : Int32) (L_startNumber : Int32) (L_startTotal : Int32) (L_firsts : Nat → Int32) (l1 : Int32) (rv : Int32)  (hf : F_X2_firstAt L_firsts l1 = some (rv)) : Met l yX2_firstAt wsX2_firstAt rm_X2_firstAt (sw_PR (dC, dI) t0 [(cI, .int), (cZ, .boolean)] [.ref aL, .int l1] [(aL, .inr (2, [.ref aC, .ref aE, .ref aF, .ref aL_reached, .ref aL_steps, .ref aL_firsts, .int L_total, .ref aL_isReached, .ref aL_answers, .int L_startNumber, .int L_startTotal])), (aL_firsts, .inl (cI, 1296, .inl L_firsts))]) (vp_Si (fun r => r = rv)) 0 0 (fun _ => False) := by
  refine sw_metR (cc := cX2_firstAt) (maxL := 2) (ret := (some .int)) (lv := [(0, .ref aL), (1, .int l1)]) (by decide) rfl (Nat.le_of_ble_eq_true rfl) rfl ?_
  intro p e s m below meth c Q hQ hx hb hr hts hown hlocks hml hP hK hE hS ls hl
  have hown : s.vm.findClass RX2 = some m.cls := hown
  have hf := (F_X2_firstAt.eq_1 _ _).symm.trans hf
  have hw1 := hts (.fieldLink RX2 18 "SwallowedInTurn$Outlook" "firsts" "[I") (List.mem_of_getElem? (i := 1) (by decide +kernel))
  have iX2 : ∀ w ∈ u_ws RX2 TX2 11, w ∈ wsX2_firstAt := by decide +kernel
  refine lv_iload_n hx hb dX2_firstAt_0 rfl (lv_at hl 1 rfl) ?_
  refine lv_if_lt (tgt := 22) hx hb dX2_firstAt_1 (by decide) (fun c1 => ?_) (fun c1 => ?_)
  · have hf := sw_ip c1 hf
    refine lv_iconst (v := -1) hx hb dX2_firstAt_22 (by decide) ?_
    subst hQ
    exact W.iret hx hb hr (fun t ht hW => ⟨_, rfl, Option.some.inj hf, ht⟩) (fun _ h => absurd h List.not_mem_nil) dX2_firstAt_23 hlocks
  · have hf := sw_in c1 hf
    refine lv_iload_n hx hb dX2_firstAt_4 rfl (lv_at hl 1 rfl) ?_
    refine lv_aload_n hx hb dX2_firstAt_5 rfl (lv_at hl 0 rfl) ?_
    refine va_get (D := (dC, dI)) (ci := 2) (v := .ref aL_firsts) (C := RX2) (T := TX2) (N := 11) hx hb hts iX2 hown hK hP 0 rfl rfl 5 (by decide) hw1 (fun _ h9 => h9) rfl dX2_firstAt_6 ?_
    refine va_alen hx hb hK hP 1 0 rfl rfl (v := 1296) (show Int32.ofNat 1296 = 1296 by decide +kernel) dX2_firstAt_9 ?_
    refine lv_icmp_ge (tgt := 22) hx hb dX2_firstAt_10 (by decide) (fun c2 => ?_) (fun c2 => ?_)
    · have hf := sw_ip c2 hf
      refine lv_iconst (v := -1) hx hb dX2_firstAt_22 (by decide) ?_
      subst hQ
      exact W.iret hx hb hr (fun t ht hW => ⟨_, rfl, Option.some.inj hf, ht⟩) (fun _ h => absurd h List.not_mem_nil) dX2_firstAt_23 hlocks
    · have hf := sw_in c2 hf
      refine lv_aload_n hx hb dX2_firstAt_13 rfl (lv_at hl 0 rfl) ?_
      refine va_get (D := (dC, dI)) (ci := 2) (v := .ref aL_firsts) (C := RX2) (T := TX2) (N := 11) hx hb hts iX2 hown hK hP 0 rfl rfl 5 (by decide) hw1 (fun _ h9 => h9) rfl dX2_firstAt_14 ?_
      refine lv_iload_n hx hb dX2_firstAt_17 rfl (lv_at hl 1 rfl) ?_
      obtain ⟨hi1, hf⟩ := sw_ix_s hf
      refine va_iald hx hb hK hP 1 0 rfl rfl hi1 dX2_firstAt_18 ?_
      refine lv_goto (tgt := 23) hx hb dX2_firstAt_19 (by decide) ?_
      subst hQ
      exact W.iret hx hb hr (fun t ht hW => ⟨_, rfl, Option.some.inj hf, ht⟩) (fun _ h => absurd h List.not_mem_nil) dX2_firstAt_23 hlocks
abbrev rm_X2_reachedAt : Room := { frames := 0, cells := 0, slots := 0, locals := 0 }
set_option maxHeartbeats 1000000 in
set_option maxRecDepth 100000 in
theorem k_X2_reachedAt (l : Launch) (dC : Nat → ClassId) (dI : Nat → Nat → Nat) (cI cZ : ClassId) (t0 : Nat) (aL aC aE aF aL_reached aL_steps aL_firsts aL_isReached aL_answers : Nat) (L_total : Int32) (L_startNumber : Int32) (L_startTotal : Int32) (L_reached : Nat → Int32) (l1 : Int32) (rv : Int32)  (hf : F_X2_reachedAt L_reached l1 = some (rv)) : Met l yX2_reachedAt wsX2_reachedAt rm_X2_reachedAt (sw_PR (dC, dI) t0 [(cI, .int), (cZ, .boolean)] [.ref aL, .int l1] [(aL, .inr (2, [.ref aC, .ref aE, .ref aF, .ref aL_reached, .ref aL_steps, .ref aL_firsts, .int L_total, .ref aL_isReached, .ref aL_answers, .int L_startNumber, .int L_startTotal])), (aL_reached, .inl (cI, 1296, .inl L_reached))]) (vp_Si (fun r => r = rv)) 0 0 (fun _ => False) := by
  refine sw_metR (cc := cX2_reachedAt) (maxL := 2) (ret := (some .int)) (lv := [(0, .ref aL), (1, .int l1)]) (by decide) rfl (Nat.le_of_ble_eq_true rfl) rfl ?_
  intro p e s m below meth c Q hQ hx hb hr hts hown hlocks hml hP hK hE hS ls hl
  have hown : s.vm.findClass RX2 = some m.cls := hown
  have hf := (F_X2_reachedAt.eq_1 _ _).symm.trans hf
  have hw1 := hts (.fieldLink RX2 11 "SwallowedInTurn$Outlook" "reached" "[I") (List.mem_of_getElem? (i := 1) (by decide +kernel))
  have iX2 : ∀ w ∈ u_ws RX2 TX2 11, w ∈ wsX2_reachedAt := by decide +kernel
  refine lv_iload_n hx hb dX2_reachedAt_0 rfl (lv_at hl 1 rfl) ?_
  refine lv_if_lt (tgt := 22) hx hb dX2_reachedAt_1 (by decide) (fun c1 => ?_) (fun c1 => ?_)
  · have hf := sw_ip c1 hf
    refine lv_iconst (v := 0) hx hb dX2_reachedAt_22 (by decide) ?_
    subst hQ
    exact W.iret hx hb hr (fun t ht hW => ⟨_, rfl, Option.some.inj hf, ht⟩) (fun _ h => absurd h List.not_mem_nil) dX2_reachedAt_23 hlocks
  · have hf := sw_in c1 hf
    refine lv_iload_n hx hb dX2_reachedAt_4 rfl (lv_at hl 1 rfl) ?_
    refine lv_aload_n hx hb dX2_reachedAt_5 rfl (lv_at hl 0 rfl) ?_
    refine va_get (D := (dC, dI)) (ci := 2) (v := .ref aL_reached) (C := RX2) (T := TX2) (N := 11) hx hb hts iX2 hown hK hP 0 rfl rfl 3 (by decide) hw1 (fun _ h9 => h9) rfl dX2_reachedAt_6 ?_
    refine va_alen hx hb hK hP 1 0 rfl rfl (v := 1296) (show Int32.ofNat 1296 = 1296 by decide +kernel) dX2_reachedAt_9 ?_
    refine lv_icmp_ge (tgt := 22) hx hb dX2_reachedAt_10 (by decide) (fun c2 => ?_) (fun c2 => ?_)
    · have hf := sw_ip c2 hf
      refine lv_iconst (v := 0) hx hb dX2_reachedAt_22 (by decide) ?_
      subst hQ
      exact W.iret hx hb hr (fun t ht hW => ⟨_, rfl, Option.some.inj hf, ht⟩) (fun _ h => absurd h List.not_mem_nil) dX2_reachedAt_23 hlocks
    · have hf := sw_in c2 hf
      refine lv_aload_n hx hb dX2_reachedAt_13 rfl (lv_at hl 0 rfl) ?_
      refine va_get (D := (dC, dI)) (ci := 2) (v := .ref aL_reached) (C := RX2) (T := TX2) (N := 11) hx hb hts iX2 hown hK hP 0 rfl rfl 3 (by decide) hw1 (fun _ h9 => h9) rfl dX2_reachedAt_14 ?_
      refine lv_iload_n hx hb dX2_reachedAt_17 rfl (lv_at hl 1 rfl) ?_
      obtain ⟨hi1, hf⟩ := sw_ix_s hf
      refine va_iald hx hb hK hP 1 0 rfl rfl hi1 dX2_reachedAt_18 ?_
      refine lv_goto (tgt := 23) hx hb dX2_reachedAt_19 (by decide) ?_
      subst hQ
      exact W.iret hx hb hr (fun t ht hW => ⟨_, rfl, Option.some.inj hf, ht⟩) (fun _ h => absurd h List.not_mem_nil) dX2_reachedAt_23 hlocks
abbrev rm_X2_stepsAt : Room := { frames := 0, cells := 0, slots := 0, locals := 0 }
set_option maxHeartbeats 1000000 in
set_option maxRecDepth 100000 in
theorem k_X2_stepsAt (l : Launch) (dC : Nat → ClassId) (dI : Nat → Nat → Nat) (cI cZ : ClassId) (t0 : Nat) (aL aC aE aF aL_reached aL_steps aL_firsts aL_isReached aL_answers : Nat) (L_total : Int32) (L_startNumber : Int32) (L_startTotal : Int32) (L_steps : Nat → Int32) (l1 : Int32) (rv : Int32)  (hf : F_X2_stepsAt L_steps l1 = some (rv)) : Met l yX2_stepsAt wsX2_stepsAt rm_X2_stepsAt (sw_PR (dC, dI) t0 [(cI, .int), (cZ, .boolean)] [.ref aL, .int l1] [(aL, .inr (2, [.ref aC, .ref aE, .ref aF, .ref aL_reached, .ref aL_steps, .ref aL_firsts, .int L_total, .ref aL_isReached, .ref aL_answers, .int L_startNumber, .int L_startTotal])), (aL_steps, .inl (cI, 1296, .inl L_steps))]) (vp_Si (fun r => r = rv)) 0 0 (fun _ => False) := by
  refine sw_metR (cc := cX2_stepsAt) (maxL := 2) (ret := (some .int)) (lv := [(0, .ref aL), (1, .int l1)]) (by decide) rfl (Nat.le_of_ble_eq_true rfl) rfl ?_
  intro p e s m below meth c Q hQ hx hb hr hts hown hlocks hml hP hK hE hS ls hl
  have hown : s.vm.findClass RX2 = some m.cls := hown
  have hf := (F_X2_stepsAt.eq_1 _ _).symm.trans hf
  have hw1 := hts (.fieldLink RX2 15 "SwallowedInTurn$Outlook" "steps" "[I") (List.mem_of_getElem? (i := 1) (by decide +kernel))
  have iX2 : ∀ w ∈ u_ws RX2 TX2 11, w ∈ wsX2_stepsAt := by decide +kernel
  refine lv_iload_n hx hb dX2_stepsAt_0 rfl (lv_at hl 1 rfl) ?_
  refine lv_if_lt (tgt := 22) hx hb dX2_stepsAt_1 (by decide) (fun c1 => ?_) (fun c1 => ?_)
  · have hf := sw_ip c1 hf
    refine lv_iconst (v := -1) hx hb dX2_stepsAt_22 (by decide) ?_
    subst hQ
    exact W.iret hx hb hr (fun t ht hW => ⟨_, rfl, Option.some.inj hf, ht⟩) (fun _ h => absurd h List.not_mem_nil) dX2_stepsAt_23 hlocks
  · have hf := sw_in c1 hf
    refine lv_iload_n hx hb dX2_stepsAt_4 rfl (lv_at hl 1 rfl) ?_
    refine lv_aload_n hx hb dX2_stepsAt_5 rfl (lv_at hl 0 rfl) ?_
    refine va_get (D := (dC, dI)) (ci := 2) (v := .ref aL_steps) (C := RX2) (T := TX2) (N := 11) hx hb hts iX2 hown hK hP 0 rfl rfl 4 (by decide) hw1 (fun _ h9 => h9) rfl dX2_stepsAt_6 ?_
    refine va_alen hx hb hK hP 1 0 rfl rfl (v := 1296) (show Int32.ofNat 1296 = 1296 by decide +kernel) dX2_stepsAt_9 ?_
    refine lv_icmp_ge (tgt := 22) hx hb dX2_stepsAt_10 (by decide) (fun c2 => ?_) (fun c2 => ?_)
    · have hf := sw_ip c2 hf
      refine lv_iconst (v := -1) hx hb dX2_stepsAt_22 (by decide) ?_
      subst hQ
      exact W.iret hx hb hr (fun t ht hW => ⟨_, rfl, Option.some.inj hf, ht⟩) (fun _ h => absurd h List.not_mem_nil) dX2_stepsAt_23 hlocks
    · have hf := sw_in c2 hf
      refine lv_aload_n hx hb dX2_stepsAt_13 rfl (lv_at hl 0 rfl) ?_
      refine va_get (D := (dC, dI)) (ci := 2) (v := .ref aL_steps) (C := RX2) (T := TX2) (N := 11) hx hb hts iX2 hown hK hP 0 rfl rfl 4 (by decide) hw1 (fun _ h9 => h9) rfl dX2_stepsAt_14 ?_
      refine lv_iload_n hx hb dX2_stepsAt_17 rfl (lv_at hl 1 rfl) ?_
      obtain ⟨hi1, hf⟩ := sw_ix_s hf
      refine va_iald hx hb hK hP 1 0 rfl rfl hi1 dX2_stepsAt_18 ?_
      refine lv_goto (tgt := 23) hx hb dX2_stepsAt_19 (by decide) ?_
      subst hQ
      exact W.iret hx hb hr (fun t ht hW => ⟨_, rfl, Option.some.inj hf, ht⟩) (fun _ h => absurd h List.not_mem_nil) dX2_stepsAt_23 hlocks
abbrev rm_X2_spread : Room := { frames := 4, cells := 0, slots := 0, locals := 97 }
set_option maxHeartbeats 1000000 in
set_option maxRecDepth 100000 in
theorem k_X2_spread (l : Launch) (dC : Nat → ClassId) (dI : Nat → Nat → Nat) (cI cZ : ClassId) (t0 : Nat) (sz : Nat) (aC aC_traits aL aE aF aL_reached aL_steps aL_firsts aL_isReached aL_answers aE_holders aF_holders : Nat) (C_total : Int32) (C_traits : Nat → Int32) (L_total : Int32) (L_startNumber : Int32) (L_startTotal : Int32) (L_reached : Nat → Int32) (L_steps : Nat → Int32) (L_firsts : Nat → Int32) (L_isReached : Nat → Int32) (E_holders : Nat → Int32) (F_holders : Nat → Int32) (l1 : Int32) (L_total' : Int32) (L_reached' : Nat → Int32) (L_steps' : Nat → Int32) (L_firsts' : Nat → Int32) (L_isReached' : Nat → Int32) (E_holders' : Nat → Int32) (F_holders' : Nat → Int32) (hf : F_X2_spread C_total C_traits L_total L_reached L_steps L_firsts L_isReached E_holders F_holders l1 = some (L_total', L_reached', L_steps', L_firsts', L_isReached', E_holders', F_holders')) : Met l yX2_spread wsX2_spread rm_X2_spread (sw_PW (dC, dI) t0 [(cI, .int), (cZ, .boolean)] [.ref aL, .int l1] [(aC, .inr (0, [.ref aC_traits, .int C_total])), (aC_traits, .inl (cI, 20, .inl C_traits)), (aL, .inr (2, [.ref aC, .ref aE, .ref aF, .ref aL_reached, .ref aL_steps, .ref aL_firsts, .int L_total, .ref aL_isReached, .ref aL_answers, .int L_startNumber, .int L_startTotal])), (aL_reached, .inl (cI, 1296, .inl L_reached)), (aL_steps, .inl (cI, 1296, .inl L_steps)), (aL_firsts, .inl (cI, 1296, .inl L_firsts)), (aL_isReached, .inl (cZ, 7776, .inl L_isReached)), (aE, .inr (1, [.ref aC, .ref aE_holders])), (aE_holders, .inl (cI, 5, .inl E_holders)), (aF, .inr (1, [.ref aC, .ref aF_holders])), (aF_holders, .inl (cI, 5, .inl F_holders))] sz) (va_Qv (fun (_ : Unit) => True) (fun _ t => sw_B (dC, dI) [(cI, .int), (cZ, .boolean)] [(aC, .inr (0, [.ref aC_traits, .int C_total])), (aC_traits, .inl (cI, 20, .inl C_traits)), (aL, .inr (2, [.ref aC, .ref aE, .ref aF, .ref aL_reached, .ref aL_steps, .ref aL_firsts, .int L_total', .ref aL_isReached, .ref aL_answers, .int L_startNumber, .int L_startTotal])), (aL_reached, .inl (cI, 1296, .inl L_reached')), (aL_steps, .inl (cI, 1296, .inl L_steps')), (aL_firsts, .inl (cI, 1296, .inl L_firsts')), (aL_isReached, .inl (cZ, 7776, .inl L_isReached')), (aE, .inr (1, [.ref aC, .ref aE_holders])), (aE_holders, .inl (cI, 5, .inl E_holders')), (aF, .inr (1, [.ref aC, .ref aF_holders])), (aF_holders, .inl (cI, 5, .inl F_holders'))] (va_A [(aC, .inr (0, [.ref aC_traits, .int C_total])), (aC_traits, .inl (cI, 20, .inl C_traits)), (aL, .inr (2, [.ref aC, .ref aE, .ref aF, .ref aL_reached, .ref aL_steps, .ref aL_firsts, .int L_total, .ref aL_isReached, .ref aL_answers, .int L_startNumber, .int L_startTotal])), (aL_reached, .inl (cI, 1296, .inl L_reached)), (aL_steps, .inl (cI, 1296, .inl L_steps)), (aL_firsts, .inl (cI, 1296, .inl L_firsts)), (aL_isReached, .inl (cZ, 7776, .inl L_isReached)), (aE, .inr (1, [.ref aC, .ref aE_holders])), (aE_holders, .inl (cI, 5, .inl E_holders)), (aF, .inr (1, [.ref aC, .ref aF_holders])), (aF_holders, .inl (cI, 5, .inl F_holders))] sz) t) (va_A [(aC, .inr (0, [.ref aC_traits, .int C_total])), (aC_traits, .inl (cI, 20, .inl C_traits)), (aL, .inr (2, [.ref aC, .ref aE, .ref aF, .ref aL_reached, .ref aL_steps, .ref aL_firsts, .int L_total, .ref aL_isReached, .ref aL_answers, .int L_startNumber, .int L_startTotal])), (aL_reached, .inl (cI, 1296, .inl L_reached)), (aL_steps, .inl (cI, 1296, .inl L_steps)), (aL_firsts, .inl (cI, 1296, .inl L_firsts)), (aL_isReached, .inl (cZ, 7776, .inl L_isReached)), (aE, .inr (1, [.ref aC, .ref aE_holders])), (aE_holders, .inl (cI, 5, .inl E_holders)), (aF, .inr (1, [.ref aC, .ref aF_holders])), (aF_holders, .inl (cI, 5, .inl F_holders))] sz)) 0 0 (va_A [(aC, .inr (0, [.ref aC_traits, .int C_total])), (aC_traits, .inl (cI, 20, .inl C_traits)), (aL, .inr (2, [.ref aC, .ref aE, .ref aF, .ref aL_reached, .ref aL_steps, .ref aL_firsts, .int L_total, .ref aL_isReached, .ref aL_answers, .int L_startNumber, .int L_startTotal])), (aL_reached, .inl (cI, 1296, .inl L_reached)), (aL_steps, .inl (cI, 1296, .inl L_steps)), (aL_firsts, .inl (cI, 1296, .inl L_firsts)), (aL_isReached, .inl (cZ, 7776, .inl L_isReached)), (aE, .inr (1, [.ref aC, .ref aE_holders])), (aE_holders, .inl (cI, 5, .inl E_holders)), (aF, .inr (1, [.ref aC, .ref aF_holders])), (aF_holders, .inl (cI, 5, .inl F_holders))] sz) := by
  refine sw_metW (cc := cX2_spread) (maxL := 5) (ret := none) (lv := [(0, .ref aL), (1, .int l1)]) (by decide) rfl (Nat.le_of_ble_eq_true rfl) rfl ?_
  intro p e s m below meth c Q A hsz hAe hQ hx hb hr hts hown hlocks hml hmn hP hK hD hE hS hA ls hl
  have hS0 := hS
  have hown : s.vm.findClass RX2 = some m.cls := hown
  have hf := (F_X2_spread.eq_1 _ _ _ _ _ _ _ _ _ _).symm.trans hf
  have hw1 := hts (.fieldLink RX2 44 "SwallowedInTurn$Outlook" "here" "LSwallowedInTurn$Nesting;") (List.mem_of_getElem? (i := 1) (by decide +kernel))
  have iX2 : ∀ w ∈ u_ws RX2 TX2 11, w ∈ wsX2_spread := by decide +kernel
  have hw2 := hts (.fieldLink RX2 48 "SwallowedInTurn$Outlook" "next" "LSwallowedInTurn$Nesting;") (List.mem_of_getElem? (i := 2) (by decide +kernel))
  have hf0 := hf
  clear hf
  have hP0 := hP
  have hD0 := hD
  clear hP hD hS
  have hl0 := hl
  clear hl
  have hB_88 : ∀ (L_total : Int32) (L_reached : Nat → Int32) (L_steps : Nat → Int32) (L_firsts : Nat → Int32) (L_isReached : Nat → Int32) (E_holders : Nat → Int32) (F_holders : Nat → Int32) (l2 : Int32) (l3 : Int32) (l4 : Int32) (s1 : Int32) (s2 : Int32) (s3 : Int32),∀ (k29 : Int32 → (Nat → Int32) → (Nat → Int32) → (Nat → Int32) → (Nat → Int32) → (Nat → Int32) → Int32 → Option (Int32 × (Nat → Int32) × (Nat → Int32) × (Nat → Int32) × (Nat → Int32) × (Nat → Int32) × (Nat → Int32))), (∀ (L_total : Int32) (L_reached : Nat → Int32) (L_steps : Nat → Int32) (L_firsts : Nat → Int32) (L_isReached : Nat → Int32) (F_holders : Nat → Int32) (l4 : Int32), k29 L_total L_reached L_steps L_firsts L_isReached F_holders l4 = some (L_total', L_reached', L_steps', L_firsts', L_isReached', E_holders', F_holders') → ∀ (H : Heap) (locs : List Loc), va_P (dC, dI) vwCl [(aC, .inr (0, [.ref aC_traits, .int C_total])), (aC_traits, .inl (cI, 20, .inl C_traits)), (aL, .inr (2, [.ref aC, .ref aE, .ref aF, .ref aL_reached, .ref aL_steps, .ref aL_firsts, .int L_total, .ref aL_isReached, .ref aL_answers, .int L_startNumber, .int L_startTotal])), (aL_reached, .inl (cI, 1296, .inl L_reached)), (aL_steps, .inl (cI, 1296, .inl L_steps)), (aL_firsts, .inl (cI, 1296, .inl L_firsts)), (aL_isReached, .inl (cZ, 7776, .inl L_isReached)), (aE, .inr (1, [.ref aC, .ref aE_holders])), (aE_holders, .inl (cI, 5, .inl E_holders)), (aF, .inr (1, [.ref aC, .ref aF_holders])), (aF_holders, .inl (cI, 5, .inl F_holders))] H → va_D A [(aC, .inr (0, [.ref aC_traits, .int C_total])), (aC_traits, .inl (cI, 20, .inl C_traits)), (aL, .inr (2, [.ref aC, .ref aE, .ref aF, .ref aL_reached, .ref aL_steps, .ref aL_firsts, .int L_total, .ref aL_isReached, .ref aL_answers, .int L_startNumber, .int L_startTotal])), (aL_reached, .inl (cI, 1296, .inl L_reached)), (aL_steps, .inl (cI, 1296, .inl L_steps)), (aL_firsts, .inl (cI, 1296, .inl L_firsts)), (aL_isReached, .inl (cZ, 7776, .inl L_isReached)), (aE, .inr (1, [.ref aC, .ref aE_holders])), (aE_holders, .inl (cI, 5, .inl E_holders)), (aF, .inr (1, [.ref aC, .ref aF_holders])), (aF_holders, .inl (cI, 5, .inl F_holders))] → va_S A s.heap H locs → ∀ ls : Array Slot, lv_has ls 5 [(0, .ref aL), (2, .int l2), (3, .int l3), (4, .int l4)] → W p l e rm_X2_spread s m ([.ref aL, .int l1] : List Value).toArray below meth c H locs 0 0 Q (F0 m 29 ls [])) →  F_X2_spread_88 k29 C_total C_traits L_total L_reached L_steps L_firsts L_isReached E_holders F_holders l2 l3 l4 s1 s2 s3 = some (L_total', L_reached', L_steps', L_firsts', L_isReached', E_holders', F_holders') → ∀ (H : Heap) (locs : List Loc), va_P (dC, dI) vwCl [(aC, .inr (0, [.ref aC_traits, .int C_total])), (aC_traits, .inl (cI, 20, .inl C_traits)), (aL, .inr (2, [.ref aC, .ref aE, .ref aF, .ref aL_reached, .ref aL_steps, .ref aL_firsts, .int L_total, .ref aL_isReached, .ref aL_answers, .int L_startNumber, .int L_startTotal])), (aL_reached, .inl (cI, 1296, .inl L_reached)), (aL_steps, .inl (cI, 1296, .inl L_steps)), (aL_firsts, .inl (cI, 1296, .inl L_firsts)), (aL_isReached, .inl (cZ, 7776, .inl L_isReached)), (aE, .inr (1, [.ref aC, .ref aE_holders])), (aE_holders, .inl (cI, 5, .inl E_holders)), (aF, .inr (1, [.ref aC, .ref aF_holders])), (aF_holders, .inl (cI, 5, .inl F_holders))] H → va_D A [(aC, .inr (0, [.ref aC_traits, .int C_total])), (aC_traits, .inl (cI, 20, .inl C_traits)), (aL, .inr (2, [.ref aC, .ref aE, .ref aF, .ref aL_reached, .ref aL_steps, .ref aL_firsts, .int L_total, .ref aL_isReached, .ref aL_answers, .int L_startNumber, .int L_startTotal])), (aL_reached, .inl (cI, 1296, .inl L_reached)), (aL_steps, .inl (cI, 1296, .inl L_steps)), (aL_firsts, .inl (cI, 1296, .inl L_firsts)), (aL_isReached, .inl (cZ, 7776, .inl L_isReached)), (aE, .inr (1, [.ref aC, .ref aE_holders])), (aE_holders, .inl (cI, 5, .inl E_holders)), (aF, .inr (1, [.ref aC, .ref aF_holders])), (aF_holders, .inl (cI, 5, .inl F_holders))] → va_S A s.heap H locs → ∀ ls : Array Slot, lv_has ls 5 [(0, .ref aL), (2, .int l2), (3, .int l3), (4, .int l4)] → W p l e rm_X2_spread s m ([.ref aL, .int l1] : List Value).toArray below meth c H locs 0 0 Q (F0 m 88 ls [.int s3, .int s2, .int s1, .ref aL]) := by
    intro L_total L_reached L_steps L_firsts L_isReached E_holders F_holders l2 l3 l4 s1 s2 s3 k29 hk29 hf H locs hP hD hS ls hl
    have hf := (F_X2_spread_88.eq_1 _ _ _ _ _ _ _ _ _ _ _ _ _ _ _ _).symm.trans hf
    obtain ⟨q1, hq1, hf⟩ := sw_bs hf
    have hPc := hP.sub (ws' := [(aL, .inr (2, [.ref aC, .ref aE, .ref aF, .ref aL_reached, .ref aL_steps, .ref aL_firsts, .int L_total, .ref aL_isReached, .ref aL_answers, .int L_startNumber, .int L_startTotal])), (aL_reached, .inl (cI, 1296, .inl L_reached)), (aL_steps, .inl (cI, 1296, .inl L_steps)), (aL_firsts, .inl (cI, 1296, .inl L_firsts)), (aL_isReached, .inl (cZ, 7776, .inl L_isReached))]) [2, 3, 4, 5, 6] rfl
    have hDc := hD.sub (ws' := [(aL, .inr (2, [.ref aC, .ref aE, .ref aF, .ref aL_reached, .ref aL_steps, .ref aL_firsts, .int L_total, .ref aL_isReached, .ref aL_answers, .int L_startNumber, .int L_startTotal])), (aL_reached, .inl (cI, 1296, .inl L_reached)), (aL_steps, .inl (cI, 1296, .inl L_steps)), (aL_firsts, .inl (cI, 1296, .inl L_firsts)), (aL_isReached, .inl (cZ, 7776, .inl L_isReached))]) [2, 3, 4, 5, 6] (by decide) rfl
    have hFc := va_free (wc := [(aL, .inr (2, [.ref aC, .ref aE, .ref aF, .ref aL_reached, .ref aL_steps, .ref aL_firsts, .int L_total, .ref aL_isReached, .ref aL_answers, .int L_startNumber, .int L_startTotal])), (aL_reached, .inl (cI, 1296, .inl L_reached)), (aL_steps, .inl (cI, 1296, .inl L_steps)), (aL_firsts, .inl (cI, 1296, .inl L_firsts)), (aL_isReached, .inl (cZ, 7776, .inl L_isReached))]) hD hS hA [2, 3, 4, 5, 6] rfl
    refine sw_wv (wn := [(aC, .inr (0, [.ref aC_traits, .int C_total])), (aC_traits, .inl (cI, 20, .inl C_traits)), (aL, .inr (2, [.ref aC, .ref aE, .ref aF, .ref aL_reached, .ref aL_steps, .ref aL_firsts, .int q1.1, .ref aL_isReached, .ref aL_answers, .int L_startNumber, .int L_startTotal])), (aL_reached, .inl (cI, 1296, .inl q1.2.1)), (aL_steps, .inl (cI, 1296, .inl q1.2.2.1)), (aL_firsts, .inl (cI, 1296, .inl q1.2.2.2.1)), (aL_isReached, .inl (cZ, 7776, .inl q1.2.2.2.2)), (aE, .inr (1, [.ref aC, .ref aE_holders])), (aE_holders, .inl (cI, 5, .inl E_holders)), (aF, .inr (1, [.ref aC, .ref aF_holders])), (aF_holders, .inl (cI, 5, .inl F_holders))]) (w1 := [(aL, .inr (2, [.ref aC, .ref aE, .ref aF, .ref aL_reached, .ref aL_steps, .ref aL_firsts, .int q1.1, .ref aL_isReached, .ref aL_answers, .int L_startNumber, .int L_startTotal])), (aL_reached, .inl (cI, 1296, .inl q1.2.1)), (aL_steps, .inl (cI, 1296, .inl q1.2.2.1)), (aL_firsts, .inl (cI, 1296, .inl q1.2.2.2.1)), (aL_isReached, .inl (cZ, 7776, .inl q1.2.2.2.2))]) (wr := [(aC, .inr (0, [.ref aC_traits, .int C_total])), (aC_traits, .inl (cI, 20, .inl C_traits)), (aE, .inr (1, [.ref aC, .ref aE_holders])), (aE_holders, .inl (cI, 5, .inl E_holders)), (aF, .inr (1, [.ref aC, .ref aF_holders])), (aF_holders, .inl (cI, 5, .inl F_holders))]) (va_runV (As := [.int s1, .int s2, .int s3]) (rest := []) ⟨hx, hb, hml, hown, hts⟩ (k_X2_reach l dC dI cI cZ t0 H.size aL aC aE aF aL_reached aL_steps aL_firsts aL_isReached aL_answers L_total L_startNumber L_startTotal L_reached L_steps L_firsts L_isReached s1 s2 s3 q1.1 q1.2.1 q1.2.2.1 q1.2.2.2.1 q1.2.2.2.2 hq1) (cwV 3 hts gX2_spread_X2_reach rfl rfl rfl (by decide +kernel) ⟨Nat.le_of_ble_eq_true rfl, Nat.le_of_ble_eq_true rfl⟩) ⟨sw_PW_bl, va_recv hK hPc (ci := 2) (q0 := 0) rfl rfl, sw_PW_pre hK hPc hDc hE hS hFc⟩ rfl rfl hl.1 rfl (lv_room (Nat.le_of_ble_eq_true rfl)) dX2_spread_88 ⟨Nat.zero_le _, Nat.zero_le _⟩) hS hP hD hFc [2, 3, 4, 5, 6] [0, 1, 7, 8, 9, 10] [0, 1, 6, 7, 8, 9, 10, 2, 3, 4, 5] rfl rfl (by decide) (by decide) (by decide) rfl (fun H locs hP hD hS => ?_)
    refine lv_iinc (v := l4 + (1 : Int32)) (lv' := [(4, .int (l4 + (1 : Int32))), (0, .ref aL), (2, .int l2), (3, .int l3)]) hx hb dX2_spread_91 hl (k := 3) rfl (sw_ii _) (by decide) rfl (fun ls hl => ?_)
    refine lv_goto (tgt := 29) hx hb dX2_spread_94 (by decide) ?_
    exact hk29 q1.1 q1.2.1 q1.2.2.1 q1.2.2.2.1 q1.2.2.2.2 F_holders (l4 + (1 : Int32)) hf H locs hP hD hS ls (lv_sub hl [1, 2, 3, 0] rfl)
  have hB_29 : ∀ (E_holders : Nat → Int32) (l2 : Int32) (l3 : Int32), ∀ (fu : Nat) (L_total : Int32) (L_reached : Nat → Int32) (L_steps : Nat → Int32) (L_firsts : Nat → Int32) (L_isReached : Nat → Int32) (F_holders : Nat → Int32) (l4 : Int32), F_X2_spread_29 C_total C_traits E_holders l2 l3 fu L_total L_reached L_steps L_firsts L_isReached F_holders l4 = some (L_total', L_reached', L_steps', L_firsts', L_isReached', E_holders', F_holders') → ∀ (H : Heap) (locs : List Loc), va_P (dC, dI) vwCl [(aC, .inr (0, [.ref aC_traits, .int C_total])), (aC_traits, .inl (cI, 20, .inl C_traits)), (aL, .inr (2, [.ref aC, .ref aE, .ref aF, .ref aL_reached, .ref aL_steps, .ref aL_firsts, .int L_total, .ref aL_isReached, .ref aL_answers, .int L_startNumber, .int L_startTotal])), (aL_reached, .inl (cI, 1296, .inl L_reached)), (aL_steps, .inl (cI, 1296, .inl L_steps)), (aL_firsts, .inl (cI, 1296, .inl L_firsts)), (aL_isReached, .inl (cZ, 7776, .inl L_isReached)), (aE, .inr (1, [.ref aC, .ref aE_holders])), (aE_holders, .inl (cI, 5, .inl E_holders)), (aF, .inr (1, [.ref aC, .ref aF_holders])), (aF_holders, .inl (cI, 5, .inl F_holders))] H → va_D A [(aC, .inr (0, [.ref aC_traits, .int C_total])), (aC_traits, .inl (cI, 20, .inl C_traits)), (aL, .inr (2, [.ref aC, .ref aE, .ref aF, .ref aL_reached, .ref aL_steps, .ref aL_firsts, .int L_total, .ref aL_isReached, .ref aL_answers, .int L_startNumber, .int L_startTotal])), (aL_reached, .inl (cI, 1296, .inl L_reached)), (aL_steps, .inl (cI, 1296, .inl L_steps)), (aL_firsts, .inl (cI, 1296, .inl L_firsts)), (aL_isReached, .inl (cZ, 7776, .inl L_isReached)), (aE, .inr (1, [.ref aC, .ref aE_holders])), (aE_holders, .inl (cI, 5, .inl E_holders)), (aF, .inr (1, [.ref aC, .ref aF_holders])), (aF_holders, .inl (cI, 5, .inl F_holders))] → va_S A s.heap H locs → ∀ ls : Array Slot, lv_has ls 5 [(0, .ref aL), (2, .int l2), (3, .int l3), (4, .int l4)] → W p l e rm_X2_spread s m ([.ref aL, .int l1] : List Value).toArray below meth c H locs 0 0 Q (F0 m 29 ls []) := by
    intro E_holders l2 l3  fu
    induction fu with
    | zero =>
      intro L_total L_reached L_steps L_firsts L_isReached F_holders l4 hf
      exact nomatch (show (none : Option (Int32 × (Nat → Int32) × (Nat → Int32) × (Nat → Int32) × (Nat → Int32) × (Nat → Int32) × (Nat → Int32))) = some (L_total', L_reached', L_steps', L_firsts', L_isReached', E_holders', F_holders') from hf)
    | succ fu ih =>
      intro L_total L_reached L_steps L_firsts L_isReached F_holders l4 hf H locs hP hD hS ls hl
      have hf := (F_X2_spread_29.eq_2 _ _ _ _ _ _ _ _ _ _ _ _ _).symm.trans hf
      refine lv_iload hx hb dX2_spread_29 (lv_at hl 3 rfl) ?_
      refine lv_bipush (v := 45) hx hb dX2_spread_31 (by decide) ?_
      refine lv_icmp_ge (tgt := 97) hx hb dX2_spread_33 (by decide) (fun c1 => ?_) (fun c1 => ?_)
      · have hf := sw_ip c1 hf
        subst hQ hAe
        cases hf
        exact W.vret hx hb hr (fun t ht hW => ⟨⟨(), rfl, trivial, ⟨by rw [ht]; exact hP, va_K.moved hW.alike hK, hD⟩⟩, hS.F ht⟩) hS.2.2 dX2_spread_97 hlocks
      · have hf := sw_in c1 hf
        refine lv_aload_n hx hb dX2_spread_36 rfl (lv_at hl 0 rfl) ?_
        refine va_get (D := (dC, dI)) (ci := 2) (v := .ref aE) (C := RX2) (T := TX2) (N := 11) hx hb hts iX2 hown hK hP 2 rfl rfl 1 (by decide) hw1 (fun _ h9 => h9) rfl dX2_spread_37 ?_
        refine lv_iload hx hb dX2_spread_40 (lv_at hl 3 rfl) ?_
        obtain ⟨q2, hq2, hf⟩ := sw_bs hf
        have hPc := hP.sub (ws' := [(aC, .inr (0, [.ref aC_traits, .int C_total])), (aC_traits, .inl (cI, 20, .inl C_traits)), (aE, .inr (1, [.ref aC, .ref aE_holders])), (aE_holders, .inl (cI, 5, .inl E_holders))]) [0, 1, 7, 8] rfl
        refine sw_rd (W.runV (As := [.int l4]) (rest := []) ⟨hx, hb, hml, hown, hts⟩ (k_X1_allows l dC dI cI cZ t0 aC aC_traits aE aE_holders C_total C_traits E_holders l4 q2 hq2) (cwV 1 hts gX2_spread_X1_allows rfl rfl rfl (by decide +kernel) ⟨Nat.le_of_ble_eq_true rfl, Nat.le_of_ble_eq_true rfl⟩) ⟨sw_PR_bl, va_recv hK hPc (ci := 1) (q0 := 2) rfl rfl, sw_PR_pre hK hPc hE hS⟩ rfl rfl hl.1 rfl (lv_room (Nat.le_of_ble_eq_true rfl)) dX2_spread_42 ⟨Nat.zero_le _, Nat.zero_le _⟩) ?_
        refine lv_if_eq (tgt := 91) hx hb dX2_spread_45 (by decide) (fun c2 => ?_) (fun c2 => ?_)
        · have hf := sw_ip c2 hf
          refine lv_iinc (v := l4 + (1 : Int32)) (lv' := [(4, .int (l4 + (1 : Int32))), (0, .ref aL), (2, .int l2), (3, .int l3)]) hx hb dX2_spread_91 hl (k := 3) rfl (sw_ii _) (by decide) rfl (fun ls hl => ?_)
          refine lv_goto (tgt := 29) hx hb dX2_spread_94 (by decide) ?_
          exact ih L_total L_reached L_steps L_firsts L_isReached F_holders (l4 + (1 : Int32)) hf H locs hP hD hS ls (lv_sub hl [1, 2, 3, 0] rfl)
        · have hf := sw_in c2 hf
          refine lv_aload_n hx hb dX2_spread_48 rfl (lv_at hl 0 rfl) ?_
          refine va_get (D := (dC, dI)) (ci := 2) (v := .ref aF) (C := RX2) (T := TX2) (N := 11) hx hb hts iX2 hown hK hP 2 rfl rfl 2 (by decide) hw2 (fun _ h9 => h9) rfl dX2_spread_49 ?_
          refine lv_aload_n hx hb dX2_spread_52 rfl (lv_at hl 0 rfl) ?_
          refine va_get (D := (dC, dI)) (ci := 2) (v := .ref aE) (C := RX2) (T := TX2) (N := 11) hx hb hts iX2 hown hK hP 2 rfl rfl 1 (by decide) hw1 (fun _ h9 => h9) rfl dX2_spread_53 ?_
          obtain ⟨q3, hq3, hf⟩ := sw_bs hf
          have hPc := hP.sub (ws' := [(aF, .inr (1, [.ref aC, .ref aF_holders])), (aF_holders, .inl (cI, 5, .inl F_holders)), (aE, .inr (1, [.ref aC, .ref aE_holders])), (aE_holders, .inl (cI, 5, .inl E_holders))]) [9, 10, 7, 8] rfl
          have hDc := hD.sub (ws' := [(aF, .inr (1, [.ref aC, .ref aF_holders])), (aF_holders, .inl (cI, 5, .inl F_holders)), (aE, .inr (1, [.ref aC, .ref aE_holders])), (aE_holders, .inl (cI, 5, .inl E_holders))]) [9, 10, 7, 8] (by decide) rfl
          have hFc := va_free (wc := [(aF, .inr (1, [.ref aC, .ref aF_holders])), (aF_holders, .inl (cI, 5, .inl F_holders)), (aE, .inr (1, [.ref aC, .ref aE_holders])), (aE_holders, .inl (cI, 5, .inl E_holders))]) hD hS hA [9, 10, 7, 8] rfl
          refine sw_wv (wn := [(aC, .inr (0, [.ref aC_traits, .int C_total])), (aC_traits, .inl (cI, 20, .inl C_traits)), (aL, .inr (2, [.ref aC, .ref aE, .ref aF, .ref aL_reached, .ref aL_steps, .ref aL_firsts, .int L_total, .ref aL_isReached, .ref aL_answers, .int L_startNumber, .int L_startTotal])), (aL_reached, .inl (cI, 1296, .inl L_reached)), (aL_steps, .inl (cI, 1296, .inl L_steps)), (aL_firsts, .inl (cI, 1296, .inl L_firsts)), (aL_isReached, .inl (cZ, 7776, .inl L_isReached)), (aE, .inr (1, [.ref aC, .ref aE_holders])), (aE_holders, .inl (cI, 5, .inl E_holders)), (aF, .inr (1, [.ref aC, .ref aF_holders])), (aF_holders, .inl (cI, 5, .inl q3))]) (w1 := [(aF, .inr (1, [.ref aC, .ref aF_holders])), (aF_holders, .inl (cI, 5, .inl q3)), (aE, .inr (1, [.ref aC, .ref aE_holders])), (aE_holders, .inl (cI, 5, .inl E_holders))]) (wr := [(aC, .inr (0, [.ref aC_traits, .int C_total])), (aC_traits, .inl (cI, 20, .inl C_traits)), (aL, .inr (2, [.ref aC, .ref aE, .ref aF, .ref aL_reached, .ref aL_steps, .ref aL_firsts, .int L_total, .ref aL_isReached, .ref aL_answers, .int L_startNumber, .int L_startTotal])), (aL_reached, .inl (cI, 1296, .inl L_reached)), (aL_steps, .inl (cI, 1296, .inl L_steps)), (aL_firsts, .inl (cI, 1296, .inl L_firsts)), (aL_isReached, .inl (cZ, 7776, .inl L_isReached))]) (va_runV (As := [.ref aE]) (rest := []) ⟨hx, hb, hml, hown, hts⟩ (k_X1_copy l dC dI cI cZ t0 H.size aF aC aF_holders aE aE_holders F_holders E_holders q3 hq3) (cwV 1 hts gX2_spread_X1_copy rfl rfl rfl (by decide +kernel) ⟨Nat.le_of_ble_eq_true rfl, Nat.le_of_ble_eq_true rfl⟩) ⟨sw_PW_bl, va_recv hK hPc (ci := 1) (q0 := 0) rfl rfl, sw_PW_pre hK hPc hDc hE hS hFc⟩ rfl rfl hl.1 rfl (lv_room (Nat.le_of_ble_eq_true rfl)) dX2_spread_56 ⟨Nat.zero_le _, Nat.zero_le _⟩) hS hP hD hFc [9, 10, 7, 8] [0, 1, 2, 3, 4, 5, 6] [0, 1, 2, 3, 4, 5, 6, 9, 10, 7, 8] rfl rfl (by decide) (by decide) (by decide) rfl (fun H locs hP hD hS => ?_)
          refine lv_aload_n hx hb dX2_spread_59 rfl (lv_at hl 0 rfl) ?_
          refine va_get (D := (dC, dI)) (ci := 2) (v := .ref aF) (C := RX2) (T := TX2) (N := 11) hx hb hts iX2 hown hK hP 2 rfl rfl 2 (by decide) hw2 (fun _ h9 => h9) rfl dX2_spread_60 ?_
          refine lv_iload hx hb dX2_spread_63 (lv_at hl 3 rfl) ?_
          obtain ⟨q4, hq4, hf⟩ := sw_bs hf
          have hPc := hP.sub (ws' := [(aC, .inr (0, [.ref aC_traits, .int C_total])), (aC_traits, .inl (cI, 20, .inl C_traits)), (aF, .inr (1, [.ref aC, .ref aF_holders])), (aF_holders, .inl (cI, 5, .inl q3))]) [0, 1, 9, 10] rfl
          have hDc := hD.sub (ws' := [(aC, .inr (0, [.ref aC_traits, .int C_total])), (aC_traits, .inl (cI, 20, .inl C_traits)), (aF, .inr (1, [.ref aC, .ref aF_holders])), (aF_holders, .inl (cI, 5, .inl q3))]) [0, 1, 9, 10] (by decide) rfl
          have hFc := va_free (wc := [(aC, .inr (0, [.ref aC_traits, .int C_total])), (aC_traits, .inl (cI, 20, .inl C_traits)), (aF, .inr (1, [.ref aC, .ref aF_holders])), (aF_holders, .inl (cI, 5, .inl q3))]) hD hS hA [0, 1, 9, 10] rfl
          refine sw_wv (wn := [(aC, .inr (0, [.ref aC_traits, .int C_total])), (aC_traits, .inl (cI, 20, .inl C_traits)), (aL, .inr (2, [.ref aC, .ref aE, .ref aF, .ref aL_reached, .ref aL_steps, .ref aL_firsts, .int L_total, .ref aL_isReached, .ref aL_answers, .int L_startNumber, .int L_startTotal])), (aL_reached, .inl (cI, 1296, .inl L_reached)), (aL_steps, .inl (cI, 1296, .inl L_steps)), (aL_firsts, .inl (cI, 1296, .inl L_firsts)), (aL_isReached, .inl (cZ, 7776, .inl L_isReached)), (aE, .inr (1, [.ref aC, .ref aE_holders])), (aE_holders, .inl (cI, 5, .inl E_holders)), (aF, .inr (1, [.ref aC, .ref aF_holders])), (aF_holders, .inl (cI, 5, .inl q4))]) (w1 := [(aC, .inr (0, [.ref aC_traits, .int C_total])), (aC_traits, .inl (cI, 20, .inl C_traits)), (aF, .inr (1, [.ref aC, .ref aF_holders])), (aF_holders, .inl (cI, 5, .inl q4))]) (wr := [(aL, .inr (2, [.ref aC, .ref aE, .ref aF, .ref aL_reached, .ref aL_steps, .ref aL_firsts, .int L_total, .ref aL_isReached, .ref aL_answers, .int L_startNumber, .int L_startTotal])), (aL_reached, .inl (cI, 1296, .inl L_reached)), (aL_steps, .inl (cI, 1296, .inl L_steps)), (aL_firsts, .inl (cI, 1296, .inl L_firsts)), (aL_isReached, .inl (cZ, 7776, .inl L_isReached)), (aE, .inr (1, [.ref aC, .ref aE_holders])), (aE_holders, .inl (cI, 5, .inl E_holders))]) (va_runV (As := [.int l4]) (rest := []) ⟨hx, hb, hml, hown, hts⟩ (k_X1_carryOut l dC dI cI cZ t0 H.size aC aC_traits aF aF_holders C_total C_traits q3 l4 q4 hq4) (cwV 1 hts gX2_spread_X1_carryOut rfl rfl rfl (by decide +kernel) ⟨Nat.le_of_ble_eq_true rfl, Nat.le_of_ble_eq_true rfl⟩) ⟨sw_PW_bl, va_recv hK hPc (ci := 1) (q0 := 2) rfl rfl, sw_PW_pre hK hPc hDc hE hS hFc⟩ rfl rfl hl.1 rfl (lv_room (Nat.le_of_ble_eq_true rfl)) dX2_spread_65 ⟨Nat.zero_le _, Nat.zero_le _⟩) hS hP hD hFc [0, 1, 9, 10] [2, 3, 4, 5, 6, 7, 8] [7, 8, 0, 1, 2, 3, 4, 5, 6, 9, 10] rfl rfl (by decide) (by decide) (by decide) rfl (fun H locs hP hD hS => ?_)
          refine lv_aload_n hx hb dX2_spread_68 rfl (lv_at hl 0 rfl) ?_
          refine lv_aload_n hx hb dX2_spread_69 rfl (lv_at hl 0 rfl) ?_
          refine va_get (D := (dC, dI)) (ci := 2) (v := .ref aF) (C := RX2) (T := TX2) (N := 11) hx hb hts iX2 hown hK hP 2 rfl rfl 2 (by decide) hw2 (fun _ h9 => h9) rfl dX2_spread_70 ?_
          obtain ⟨q5, hq5, hf⟩ := sw_bs hf
          have hPc := hP.sub (ws' := [(aF, .inr (1, [.ref aC, .ref aF_holders])), (aF_holders, .inl (cI, 5, .inl q4))]) [9, 10] rfl
          refine sw_rd (W.runV (As := []) (rest := [.ref aL]) ⟨hx, hb, hml, hown, hts⟩ (k_X1_toNumber l dC dI cI cZ t0 aF aC aF_holders q4 q5 hq5) (cwV 0 hts gX2_spread_X1_toNumber rfl rfl rfl (by decide +kernel) ⟨Nat.le_of_ble_eq_true rfl, Nat.le_of_ble_eq_true rfl⟩) ⟨sw_PR_bl, va_recv hK hPc (ci := 1) (q0 := 0) rfl rfl, sw_PR_pre hK hPc hE hS⟩ rfl rfl hl.1 rfl (lv_room (Nat.le_of_ble_eq_true rfl)) dX2_spread_73 ⟨Nat.zero_le _, Nat.zero_le _⟩) ?_
          refine lv_iload_n hx hb dX2_spread_76 rfl (lv_at hl 1 rfl) ?_
          refine lv_iload_n hx hb dX2_spread_77 rfl (lv_at hl 2 rfl) ?_
          refine lv_iconst (v := -1) hx hb dX2_spread_78 (by decide) ?_
          refine lv_icmp_ne (tgt := 87) hx hb dX2_spread_79 (by decide) (fun c3 => ?_) (fun c3 => ?_)
          · have hf := sw_in c3 hf
            refine lv_iload_n hx hb dX2_spread_87 rfl (lv_at hl 2 rfl) ?_
            exact hB_88 L_total L_reached L_steps L_firsts L_isReached E_holders q4 l2 l3 l4 q5 l2 l3 (F_X2_spread_29  C_total C_traits E_holders l2 l3 fu) ih hf H locs hP hD hS ls (lv_sub hl [0, 1, 2, 3] rfl)
          · have hf := sw_ip c3 hf
            refine lv_iload hx hb dX2_spread_82 (lv_at hl 3 rfl) ?_
            refine lv_goto (tgt := 88) hx hb dX2_spread_84 (by decide) ?_
            exact hB_88 L_total L_reached L_steps L_firsts L_isReached E_holders q4 l2 l3 l4 q5 l2 l4 (F_X2_spread_29  C_total C_traits E_holders l2 l3 fu) ih hf H locs hP hD hS ls (lv_sub hl [0, 1, 2, 3] rfl)
  have hf := hf0
  have hl := hl0
  have hP := hP0
  have hD := hD0
  have hS := hS0
  obtain ⟨H, hH⟩ : ∃ H, H = s.heap := ⟨_, rfl⟩
  obtain ⟨locs, hlo⟩ : ∃ locs : List Loc, locs = [] := ⟨_, rfl⟩
  rw [← hH] at hP
  have hS : va_S A s.heap H locs := by rw [hH, hlo]; exact hS0
  suffices hgo : W p l e rm_X2_spread s m ([.ref aL, .int l1] : List Value).toArray below meth c H locs 0 0 Q (F0 m 0 ls []) by rw [hH, hlo] at hgo; exact hgo
  refine lv_aload_n hx hb dX2_spread_0 rfl (lv_at hl 0 rfl) ?_
  refine va_get (D := (dC, dI)) (ci := 2) (v := .ref aE) (C := RX2) (T := TX2) (N := 11) hx hb hts iX2 hown hK hP 2 rfl rfl 1 (by decide) hw1 (fun _ h9 => h9) rfl dX2_spread_1 ?_
  refine lv_aload_n hx hb dX2_spread_4 rfl (lv_at hl 0 rfl) ?_
  refine lv_iload_n hx hb dX2_spread_5 rfl (lv_at hl 1 rfl) ?_
  obtain ⟨q6, hq6, hf⟩ := sw_bs hf
  have hPc := hP.sub (ws' := [(aL, .inr (2, [.ref aC, .ref aE, .ref aF, .ref aL_reached, .ref aL_steps, .ref aL_firsts, .int L_total, .ref aL_isReached, .ref aL_answers, .int L_startNumber, .int L_startTotal])), (aL_reached, .inl (cI, 1296, .inl L_reached))]) [2, 3] rfl
  refine sw_rd (W.runV (As := [.int l1]) (rest := [.ref aE]) ⟨hx, hb, hml, hown, hts⟩ (k_X2_reachedAt l dC dI cI cZ t0 aL aC aE aF aL_reached aL_steps aL_firsts aL_isReached aL_answers L_total L_startNumber L_startTotal L_reached l1 q6 hq6) (cwV 1 hts gX2_spread_X2_reachedAt rfl rfl rfl (by decide +kernel) ⟨Nat.le_of_ble_eq_true rfl, Nat.le_of_ble_eq_true rfl⟩) ⟨sw_PR_bl, va_recv hK hPc (ci := 2) (q0 := 0) rfl rfl, sw_PR_pre hK hPc hE hS⟩ rfl rfl hl.1 rfl (lv_room (Nat.le_of_ble_eq_true rfl)) dX2_spread_6 ⟨Nat.zero_le _, Nat.zero_le _⟩) ?_
  obtain ⟨q7, hq7, hf⟩ := sw_bs hf
  have hPc := hP.sub (ws' := [(aE, .inr (1, [.ref aC, .ref aE_holders])), (aE_holders, .inl (cI, 5, .inl E_holders))]) [7, 8] rfl
  have hDc := hD.sub (ws' := [(aE, .inr (1, [.ref aC, .ref aE_holders])), (aE_holders, .inl (cI, 5, .inl E_holders))]) [7, 8] (by decide) rfl
  have hFc := va_free (wc := [(aE, .inr (1, [.ref aC, .ref aE_holders])), (aE_holders, .inl (cI, 5, .inl E_holders))]) hD hS hA [7, 8] rfl
  refine sw_wv (wn := [(aC, .inr (0, [.ref aC_traits, .int C_total])), (aC_traits, .inl (cI, 20, .inl C_traits)), (aL, .inr (2, [.ref aC, .ref aE, .ref aF, .ref aL_reached, .ref aL_steps, .ref aL_firsts, .int L_total, .ref aL_isReached, .ref aL_answers, .int L_startNumber, .int L_startTotal])), (aL_reached, .inl (cI, 1296, .inl L_reached)), (aL_steps, .inl (cI, 1296, .inl L_steps)), (aL_firsts, .inl (cI, 1296, .inl L_firsts)), (aL_isReached, .inl (cZ, 7776, .inl L_isReached)), (aE, .inr (1, [.ref aC, .ref aE_holders])), (aE_holders, .inl (cI, 5, .inl q7)), (aF, .inr (1, [.ref aC, .ref aF_holders])), (aF_holders, .inl (cI, 5, .inl F_holders))]) (w1 := [(aE, .inr (1, [.ref aC, .ref aE_holders])), (aE_holders, .inl (cI, 5, .inl q7))]) (wr := [(aC, .inr (0, [.ref aC_traits, .int C_total])), (aC_traits, .inl (cI, 20, .inl C_traits)), (aL, .inr (2, [.ref aC, .ref aE, .ref aF, .ref aL_reached, .ref aL_steps, .ref aL_firsts, .int L_total, .ref aL_isReached, .ref aL_answers, .int L_startNumber, .int L_startTotal])), (aL_reached, .inl (cI, 1296, .inl L_reached)), (aL_steps, .inl (cI, 1296, .inl L_steps)), (aL_firsts, .inl (cI, 1296, .inl L_firsts)), (aL_isReached, .inl (cZ, 7776, .inl L_isReached)), (aF, .inr (1, [.ref aC, .ref aF_holders])), (aF_holders, .inl (cI, 5, .inl F_holders))]) (va_runV (As := [.int q6]) (rest := []) ⟨hx, hb, hml, hown, hts⟩ (k_X1_become l dC dI cI cZ t0 H.size aE aC aE_holders E_holders q6 q7 hq7) (cwV 1 hts gX2_spread_X1_become rfl rfl rfl (by decide +kernel) ⟨Nat.le_of_ble_eq_true rfl, Nat.le_of_ble_eq_true rfl⟩) ⟨sw_PW_bl, va_recv hK hPc (ci := 1) (q0 := 0) rfl rfl, sw_PW_pre hK hPc hDc hE hS hFc⟩ rfl rfl hl.1 rfl (lv_room (Nat.le_of_ble_eq_true rfl)) dX2_spread_9 ⟨Nat.zero_le _, Nat.zero_le _⟩) hS hP hD hFc [7, 8] [0, 1, 2, 3, 4, 5, 6, 9, 10] [0, 1, 2, 3, 4, 5, 6, 9, 10, 7, 8] rfl rfl (by decide) (by decide) (by decide) rfl (fun H locs hP hD hS => ?_)
  refine lv_aload_n hx hb dX2_spread_12 rfl (lv_at hl 0 rfl) ?_
  refine lv_iload_n hx hb dX2_spread_13 rfl (lv_at hl 1 rfl) ?_
  obtain ⟨q8, hq8, hf⟩ := sw_bs hf
  have hPc := hP.sub (ws' := [(aL, .inr (2, [.ref aC, .ref aE, .ref aF, .ref aL_reached, .ref aL_steps, .ref aL_firsts, .int L_total, .ref aL_isReached, .ref aL_answers, .int L_startNumber, .int L_startTotal])), (aL_steps, .inl (cI, 1296, .inl L_steps))]) [2, 4] rfl
  refine sw_rd (W.runV (As := [.int l1]) (rest := []) ⟨hx, hb, hml, hown, hts⟩ (k_X2_stepsAt l dC dI cI cZ t0 aL aC aE aF aL_reached aL_steps aL_firsts aL_isReached aL_answers L_total L_startNumber L_startTotal L_steps l1 q8 hq8) (cwV 1 hts gX2_spread_X2_stepsAt rfl rfl rfl (by decide +kernel) ⟨Nat.le_of_ble_eq_true rfl, Nat.le_of_ble_eq_true rfl⟩) ⟨sw_PR_bl, va_recv hK hPc (ci := 2) (q0 := 0) rfl rfl, sw_PR_pre hK hPc hE hS⟩ rfl rfl hl.1 rfl (lv_room (Nat.le_of_ble_eq_true rfl)) dX2_spread_14 ⟨Nat.zero_le _, Nat.zero_le _⟩) ?_
  refine lv_iconst (v := 1) hx hb dX2_spread_17 (by decide) ?_
  refine lv_iadd hx hb dX2_spread_18 ?_
  refine lv_istore_n (lv' := [(2, .int (q8 + (1 : Int32))), (0, .ref aL), (1, .int l1)]) hx hb dX2_spread_19 rfl hl (by decide) rfl (fun ls hl => ?_)
  refine lv_aload_n hx hb dX2_spread_20 rfl (lv_at hl 1 rfl) ?_
  refine lv_iload_n hx hb dX2_spread_21 rfl (lv_at hl 2 rfl) ?_
  obtain ⟨q9, hq9, hf⟩ := sw_bs hf
  have hPc := hP.sub (ws' := [(aL, .inr (2, [.ref aC, .ref aE, .ref aF, .ref aL_reached, .ref aL_steps, .ref aL_firsts, .int L_total, .ref aL_isReached, .ref aL_answers, .int L_startNumber, .int L_startTotal])), (aL_firsts, .inl (cI, 1296, .inl L_firsts))]) [2, 5] rfl
  refine sw_rd (W.runV (As := [.int l1]) (rest := []) ⟨hx, hb, hml, hown, hts⟩ (k_X2_firstAt l dC dI cI cZ t0 aL aC aE aF aL_reached aL_steps aL_firsts aL_isReached aL_answers L_total L_startNumber L_startTotal L_firsts l1 q9 hq9) (cwV 1 hts gX2_spread_X2_firstAt rfl rfl rfl (by decide +kernel) ⟨Nat.le_of_ble_eq_true rfl, Nat.le_of_ble_eq_true rfl⟩) ⟨sw_PR_bl, va_recv hK hPc (ci := 2) (q0 := 0) rfl rfl, sw_PR_pre hK hPc hE hS⟩ rfl rfl hl.1 rfl (lv_room (Nat.le_of_ble_eq_true rfl)) dX2_spread_22 ⟨Nat.zero_le _, Nat.zero_le _⟩) ?_
  refine lv_istore_n (lv' := [(3, .int q9), (2, .int (q8 + (1 : Int32))), (0, .ref aL), (1, .int l1)]) hx hb dX2_spread_25 rfl hl (by decide) rfl (fun ls hl => ?_)
  refine lv_iconst (v := 0) hx hb dX2_spread_26 (by decide) ?_
  refine lv_istore (lv' := [(4, .int (0 : Int32)), (3, .int q9), (2, .int (q8 + (1 : Int32))), (0, .ref aL), (1, .int l1)]) hx hb dX2_spread_27 hl (by decide) rfl (fun ls hl => ?_)
  exact hB_29 q7 (q8 + (1 : Int32)) q9  sw_fu L_total L_reached L_steps L_firsts L_isReached F_holders (0 : Int32) hf H locs hP hD hS ls (lv_sub hl [3, 2, 1, 0] rfl)
abbrev rm_X2_lookFrom : Room := { frames := 5, cells := 0, slots := 0, locals := 121 }
set_option maxHeartbeats 1000000 in
set_option maxRecDepth 100000 in
theorem k_X2_lookFrom (l : Launch) (dC : Nat → ClassId) (dI : Nat → Nat → Nat) (cI cZ : ClassId) (t0 : Nat) (sz : Nat) (aC aC_traits aN aN_holders aL aE aF aL_reached aL_steps aL_firsts aL_isReached aL_answers aE_holders aF_holders : Nat) (C_total : Int32) (C_traits : Nat → Int32) (N_holders : Nat → Int32) (L_total : Int32) (L_startNumber : Int32) (L_startTotal : Int32) (L_reached : Nat → Int32) (L_steps : Nat → Int32) (L_firsts : Nat → Int32) (L_isReached : Nat → Int32) (E_holders : Nat → Int32) (F_holders : Nat → Int32) (L_total' : Int32) (L_startNumber' : Int32) (L_startTotal' : Int32) (L_reached' : Nat → Int32) (L_steps' : Nat → Int32) (L_firsts' : Nat → Int32) (L_isReached' : Nat → Int32) (E_holders' : Nat → Int32) (F_holders' : Nat → Int32) (hf : F_X2_lookFrom C_total C_traits N_holders L_total L_startNumber L_startTotal L_reached L_steps L_firsts L_isReached E_holders F_holders = some (L_total', L_startNumber', L_startTotal', L_reached', L_steps', L_firsts', L_isReached', E_holders', F_holders')) : Met l yX2_lookFrom wsX2_lookFrom rm_X2_lookFrom (sw_PW (dC, dI) t0 [(cI, .int), (cZ, .boolean)] [.ref aL, .ref aN] [(aC, .inr (0, [.ref aC_traits, .int C_total])), (aC_traits, .inl (cI, 20, .inl C_traits)), (aN, .inr (1, [.ref aC, .ref aN_holders])), (aN_holders, .inl (cI, 5, .inl N_holders)), (aL, .inr (2, [.ref aC, .ref aE, .ref aF, .ref aL_reached, .ref aL_steps, .ref aL_firsts, .int L_total, .ref aL_isReached, .ref aL_answers, .int L_startNumber, .int L_startTotal])), (aL_reached, .inl (cI, 1296, .inl L_reached)), (aL_steps, .inl (cI, 1296, .inl L_steps)), (aL_firsts, .inl (cI, 1296, .inl L_firsts)), (aL_isReached, .inl (cZ, 7776, .inl L_isReached)), (aE, .inr (1, [.ref aC, .ref aE_holders])), (aE_holders, .inl (cI, 5, .inl E_holders)), (aF, .inr (1, [.ref aC, .ref aF_holders])), (aF_holders, .inl (cI, 5, .inl F_holders))] sz) (va_Qv (fun (_ : Unit) => True) (fun _ t => sw_B (dC, dI) [(cI, .int), (cZ, .boolean)] [(aC, .inr (0, [.ref aC_traits, .int C_total])), (aC_traits, .inl (cI, 20, .inl C_traits)), (aN, .inr (1, [.ref aC, .ref aN_holders])), (aN_holders, .inl (cI, 5, .inl N_holders)), (aL, .inr (2, [.ref aC, .ref aE, .ref aF, .ref aL_reached, .ref aL_steps, .ref aL_firsts, .int L_total', .ref aL_isReached, .ref aL_answers, .int L_startNumber', .int L_startTotal'])), (aL_reached, .inl (cI, 1296, .inl L_reached')), (aL_steps, .inl (cI, 1296, .inl L_steps')), (aL_firsts, .inl (cI, 1296, .inl L_firsts')), (aL_isReached, .inl (cZ, 7776, .inl L_isReached')), (aE, .inr (1, [.ref aC, .ref aE_holders])), (aE_holders, .inl (cI, 5, .inl E_holders')), (aF, .inr (1, [.ref aC, .ref aF_holders])), (aF_holders, .inl (cI, 5, .inl F_holders'))] (va_A [(aC, .inr (0, [.ref aC_traits, .int C_total])), (aC_traits, .inl (cI, 20, .inl C_traits)), (aN, .inr (1, [.ref aC, .ref aN_holders])), (aN_holders, .inl (cI, 5, .inl N_holders)), (aL, .inr (2, [.ref aC, .ref aE, .ref aF, .ref aL_reached, .ref aL_steps, .ref aL_firsts, .int L_total, .ref aL_isReached, .ref aL_answers, .int L_startNumber, .int L_startTotal])), (aL_reached, .inl (cI, 1296, .inl L_reached)), (aL_steps, .inl (cI, 1296, .inl L_steps)), (aL_firsts, .inl (cI, 1296, .inl L_firsts)), (aL_isReached, .inl (cZ, 7776, .inl L_isReached)), (aE, .inr (1, [.ref aC, .ref aE_holders])), (aE_holders, .inl (cI, 5, .inl E_holders)), (aF, .inr (1, [.ref aC, .ref aF_holders])), (aF_holders, .inl (cI, 5, .inl F_holders))] sz) t) (va_A [(aC, .inr (0, [.ref aC_traits, .int C_total])), (aC_traits, .inl (cI, 20, .inl C_traits)), (aN, .inr (1, [.ref aC, .ref aN_holders])), (aN_holders, .inl (cI, 5, .inl N_holders)), (aL, .inr (2, [.ref aC, .ref aE, .ref aF, .ref aL_reached, .ref aL_steps, .ref aL_firsts, .int L_total, .ref aL_isReached, .ref aL_answers, .int L_startNumber, .int L_startTotal])), (aL_reached, .inl (cI, 1296, .inl L_reached)), (aL_steps, .inl (cI, 1296, .inl L_steps)), (aL_firsts, .inl (cI, 1296, .inl L_firsts)), (aL_isReached, .inl (cZ, 7776, .inl L_isReached)), (aE, .inr (1, [.ref aC, .ref aE_holders])), (aE_holders, .inl (cI, 5, .inl E_holders)), (aF, .inr (1, [.ref aC, .ref aF_holders])), (aF_holders, .inl (cI, 5, .inl F_holders))] sz)) 0 0 (va_A [(aC, .inr (0, [.ref aC_traits, .int C_total])), (aC_traits, .inl (cI, 20, .inl C_traits)), (aN, .inr (1, [.ref aC, .ref aN_holders])), (aN_holders, .inl (cI, 5, .inl N_holders)), (aL, .inr (2, [.ref aC, .ref aE, .ref aF, .ref aL_reached, .ref aL_steps, .ref aL_firsts, .int L_total, .ref aL_isReached, .ref aL_answers, .int L_startNumber, .int L_startTotal])), (aL_reached, .inl (cI, 1296, .inl L_reached)), (aL_steps, .inl (cI, 1296, .inl L_steps)), (aL_firsts, .inl (cI, 1296, .inl L_firsts)), (aL_isReached, .inl (cZ, 7776, .inl L_isReached)), (aE, .inr (1, [.ref aC, .ref aE_holders])), (aE_holders, .inl (cI, 5, .inl E_holders)), (aF, .inr (1, [.ref aC, .ref aF_holders])), (aF_holders, .inl (cI, 5, .inl F_holders))] sz) := by
  refine sw_metW (cc := cX2_lookFrom) (maxL := 4) (ret := none) (lv := [(0, .ref aL), (1, .ref aN)]) (by decide) rfl (Nat.le_of_ble_eq_true rfl) rfl ?_
  intro p e s m below meth c Q A hsz hAe hQ hx hb hr hts hown hlocks hml hmn hP hK hD hE hS hA ls hl
  have hS0 := hS
  have hown : s.vm.findClass RX2 = some m.cls := hown
  have hf := (F_X2_lookFrom.eq_1 _ _ _ _ _ _ _ _ _ _ _ _).symm.trans hf
  have hw5 := hts (.fieldLink RX2 60 "SwallowedInTurn$Outlook" "total" "I") (List.mem_of_getElem? (i := 5) (by decide +kernel))
  have iX2 : ∀ w ∈ u_ws RX2 TX2 11, w ∈ wsX2_lookFrom := by decide +kernel
  have hw6 := hts (.fieldLink RX2 11 "SwallowedInTurn$Outlook" "reached" "[I") (List.mem_of_getElem? (i := 6) (by decide +kernel))
  have hw4 := hts (.fieldLink RX2 21 "SwallowedInTurn$Outlook" "isReached" "[Z") (List.mem_of_getElem? (i := 4) (by decide +kernel))
  have hw1 := hts (.fieldLink RX2 28 "SwallowedInTurn$Outlook" "startNumber" "I") (List.mem_of_getElem? (i := 1) (by decide +kernel))
  have hw2 := hts (.fieldLink RX2 35 "SwallowedInTurn$Outlook" "crowd" "LSwallowedInTurn$Crowd;") (List.mem_of_getElem? (i := 2) (by decide +kernel))
  have hw3 := hts (.fieldLink RX2 32 "SwallowedInTurn$Outlook" "startTotal" "I") (List.mem_of_getElem? (i := 3) (by decide +kernel))
  have hf0 := hf
  clear hf
  have hP0 := hP
  have hD0 := hD
  clear hP hD hS
  have hl0 := hl
  clear hl
  have hB_82 : ∀ (L_startNumber : Int32) (L_startTotal : Int32), ∀ (fu : Nat) (L_total : Int32) (L_reached : Nat → Int32) (L_steps : Nat → Int32) (L_firsts : Nat → Int32) (L_isReached : Nat → Int32) (E_holders : Nat → Int32) (F_holders : Nat → Int32) (l3 : Int32), F_X2_lookFrom_82 C_total C_traits L_startNumber L_startTotal fu L_total L_reached L_steps L_firsts L_isReached E_holders F_holders l3 = some (L_total', L_startNumber', L_startTotal', L_reached', L_steps', L_firsts', L_isReached', E_holders', F_holders') → ∀ (H : Heap) (locs : List Loc), va_P (dC, dI) vwCl [(aC, .inr (0, [.ref aC_traits, .int C_total])), (aC_traits, .inl (cI, 20, .inl C_traits)), (aN, .inr (1, [.ref aC, .ref aN_holders])), (aN_holders, .inl (cI, 5, .inl N_holders)), (aL, .inr (2, [.ref aC, .ref aE, .ref aF, .ref aL_reached, .ref aL_steps, .ref aL_firsts, .int L_total, .ref aL_isReached, .ref aL_answers, .int L_startNumber, .int L_startTotal])), (aL_reached, .inl (cI, 1296, .inl L_reached)), (aL_steps, .inl (cI, 1296, .inl L_steps)), (aL_firsts, .inl (cI, 1296, .inl L_firsts)), (aL_isReached, .inl (cZ, 7776, .inl L_isReached)), (aE, .inr (1, [.ref aC, .ref aE_holders])), (aE_holders, .inl (cI, 5, .inl E_holders)), (aF, .inr (1, [.ref aC, .ref aF_holders])), (aF_holders, .inl (cI, 5, .inl F_holders))] H → va_D A [(aC, .inr (0, [.ref aC_traits, .int C_total])), (aC_traits, .inl (cI, 20, .inl C_traits)), (aN, .inr (1, [.ref aC, .ref aN_holders])), (aN_holders, .inl (cI, 5, .inl N_holders)), (aL, .inr (2, [.ref aC, .ref aE, .ref aF, .ref aL_reached, .ref aL_steps, .ref aL_firsts, .int L_total, .ref aL_isReached, .ref aL_answers, .int L_startNumber, .int L_startTotal])), (aL_reached, .inl (cI, 1296, .inl L_reached)), (aL_steps, .inl (cI, 1296, .inl L_steps)), (aL_firsts, .inl (cI, 1296, .inl L_firsts)), (aL_isReached, .inl (cZ, 7776, .inl L_isReached)), (aE, .inr (1, [.ref aC, .ref aE_holders])), (aE_holders, .inl (cI, 5, .inl E_holders)), (aF, .inr (1, [.ref aC, .ref aF_holders])), (aF_holders, .inl (cI, 5, .inl F_holders))] → va_S A s.heap H locs → ∀ ls : Array Slot, lv_has ls 4 [(0, .ref aL), (3, .int l3)] → W p l e rm_X2_lookFrom s m ([.ref aL, .ref aN] : List Value).toArray below meth c H locs 0 0 Q (F0 m 82 ls []) := by
    intro L_startNumber L_startTotal  fu
    induction fu with
    | zero =>
      intro L_total L_reached L_steps L_firsts L_isReached E_holders F_holders l3 hf
      exact nomatch (show (none : Option (Int32 × Int32 × Int32 × (Nat → Int32) × (Nat → Int32) × (Nat → Int32) × (Nat → Int32) × (Nat → Int32) × (Nat → Int32))) = some (L_total', L_startNumber', L_startTotal', L_reached', L_steps', L_firsts', L_isReached', E_holders', F_holders') from hf)
    | succ fu ih =>
      intro L_total L_reached L_steps L_firsts L_isReached E_holders F_holders l3 hf H locs hP hD hS ls hl
      have hf := (F_X2_lookFrom_82.eq_2 _ _ _ _ _ _ _ _ _ _ _ _ _).symm.trans hf
      refine lv_iload_n hx hb dX2_lookFrom_82 rfl (lv_at hl 1 rfl) ?_
      refine lv_aload_n hx hb dX2_lookFrom_83 rfl (lv_at hl 0 rfl) ?_
      refine va_get (D := (dC, dI)) (ci := 2) (v := .int L_total) (C := RX2) (T := TX2) (N := 11) hx hb hts iX2 hown hK hP 4 rfl rfl 6 (by decide) hw5 (fun _ h9 => h9) rfl dX2_lookFrom_84 ?_
      refine lv_icmp_ge (tgt := 110) hx hb dX2_lookFrom_87 (by decide) (fun c1 => ?_) (fun c1 => ?_)
      · have hf := sw_ip c1 hf
        subst hQ hAe
        cases hf
        exact W.vret hx hb hr (fun t ht hW => ⟨⟨(), rfl, trivial, ⟨by rw [ht]; exact hP, va_K.moved hW.alike hK, hD⟩⟩, hS.F ht⟩) hS.2.2 dX2_lookFrom_110 hlocks
      · have hf := sw_in c1 hf
        refine lv_iload_n hx hb dX2_lookFrom_90 rfl (lv_at hl 1 rfl) ?_
        refine lv_aload_n hx hb dX2_lookFrom_91 rfl (lv_at hl 0 rfl) ?_
        refine va_get (D := (dC, dI)) (ci := 2) (v := .ref aL_reached) (C := RX2) (T := TX2) (N := 11) hx hb hts iX2 hown hK hP 4 rfl rfl 3 (by decide) hw6 (fun _ h9 => h9) rfl dX2_lookFrom_92 ?_
        refine va_alen hx hb hK hP 5 0 rfl rfl (v := 1296) (show Int32.ofNat 1296 = 1296 by decide +kernel) dX2_lookFrom_95 ?_
        refine lv_icmp_ge (tgt := 110) hx hb dX2_lookFrom_96 (by decide) (fun c2 => ?_) (fun c2 => ?_)
        · have hf := sw_ip c2 hf
          subst hQ hAe
          cases hf
          exact W.vret hx hb hr (fun t ht hW => ⟨⟨(), rfl, trivial, ⟨by rw [ht]; exact hP, va_K.moved hW.alike hK, hD⟩⟩, hS.F ht⟩) hS.2.2 dX2_lookFrom_110 hlocks
        · have hf := sw_in c2 hf
          refine lv_aload_n hx hb dX2_lookFrom_99 rfl (lv_at hl 0 rfl) ?_
          refine lv_iload_n hx hb dX2_lookFrom_100 rfl (lv_at hl 1 rfl) ?_
          obtain ⟨q1, hq1, hf⟩ := sw_bs hf
          have hPc := hP.sub (ws' := [(aC, .inr (0, [.ref aC_traits, .int C_total])), (aC_traits, .inl (cI, 20, .inl C_traits)), (aL, .inr (2, [.ref aC, .ref aE, .ref aF, .ref aL_reached, .ref aL_steps, .ref aL_firsts, .int L_total, .ref aL_isReached, .ref aL_answers, .int L_startNumber, .int L_startTotal])), (aL_reached, .inl (cI, 1296, .inl L_reached)), (aL_steps, .inl (cI, 1296, .inl L_steps)), (aL_firsts, .inl (cI, 1296, .inl L_firsts)), (aL_isReached, .inl (cZ, 7776, .inl L_isReached)), (aE, .inr (1, [.ref aC, .ref aE_holders])), (aE_holders, .inl (cI, 5, .inl E_holders)), (aF, .inr (1, [.ref aC, .ref aF_holders])), (aF_holders, .inl (cI, 5, .inl F_holders))]) [0, 1, 4, 5, 6, 7, 8, 9, 10, 11, 12] rfl
          have hDc := hD.sub (ws' := [(aC, .inr (0, [.ref aC_traits, .int C_total])), (aC_traits, .inl (cI, 20, .inl C_traits)), (aL, .inr (2, [.ref aC, .ref aE, .ref aF, .ref aL_reached, .ref aL_steps, .ref aL_firsts, .int L_total, .ref aL_isReached, .ref aL_answers, .int L_startNumber, .int L_startTotal])), (aL_reached, .inl (cI, 1296, .inl L_reached)), (aL_steps, .inl (cI, 1296, .inl L_steps)), (aL_firsts, .inl (cI, 1296, .inl L_firsts)), (aL_isReached, .inl (cZ, 7776, .inl L_isReached)), (aE, .inr (1, [.ref aC, .ref aE_holders])), (aE_holders, .inl (cI, 5, .inl E_holders)), (aF, .inr (1, [.ref aC, .ref aF_holders])), (aF_holders, .inl (cI, 5, .inl F_holders))]) [0, 1, 4, 5, 6, 7, 8, 9, 10, 11, 12] (by decide) rfl
          have hFc := va_free (wc := [(aC, .inr (0, [.ref aC_traits, .int C_total])), (aC_traits, .inl (cI, 20, .inl C_traits)), (aL, .inr (2, [.ref aC, .ref aE, .ref aF, .ref aL_reached, .ref aL_steps, .ref aL_firsts, .int L_total, .ref aL_isReached, .ref aL_answers, .int L_startNumber, .int L_startTotal])), (aL_reached, .inl (cI, 1296, .inl L_reached)), (aL_steps, .inl (cI, 1296, .inl L_steps)), (aL_firsts, .inl (cI, 1296, .inl L_firsts)), (aL_isReached, .inl (cZ, 7776, .inl L_isReached)), (aE, .inr (1, [.ref aC, .ref aE_holders])), (aE_holders, .inl (cI, 5, .inl E_holders)), (aF, .inr (1, [.ref aC, .ref aF_holders])), (aF_holders, .inl (cI, 5, .inl F_holders))]) hD hS hA [0, 1, 4, 5, 6, 7, 8, 9, 10, 11, 12] rfl
          refine sw_wv (wn := [(aC, .inr (0, [.ref aC_traits, .int C_total])), (aC_traits, .inl (cI, 20, .inl C_traits)), (aN, .inr (1, [.ref aC, .ref aN_holders])), (aN_holders, .inl (cI, 5, .inl N_holders)), (aL, .inr (2, [.ref aC, .ref aE, .ref aF, .ref aL_reached, .ref aL_steps, .ref aL_firsts, .int q1.1, .ref aL_isReached, .ref aL_answers, .int L_startNumber, .int L_startTotal])), (aL_reached, .inl (cI, 1296, .inl q1.2.1)), (aL_steps, .inl (cI, 1296, .inl q1.2.2.1)), (aL_firsts, .inl (cI, 1296, .inl q1.2.2.2.1)), (aL_isReached, .inl (cZ, 7776, .inl q1.2.2.2.2.1)), (aE, .inr (1, [.ref aC, .ref aE_holders])), (aE_holders, .inl (cI, 5, .inl q1.2.2.2.2.2.1)), (aF, .inr (1, [.ref aC, .ref aF_holders])), (aF_holders, .inl (cI, 5, .inl q1.2.2.2.2.2.2))]) (w1 := [(aC, .inr (0, [.ref aC_traits, .int C_total])), (aC_traits, .inl (cI, 20, .inl C_traits)), (aL, .inr (2, [.ref aC, .ref aE, .ref aF, .ref aL_reached, .ref aL_steps, .ref aL_firsts, .int q1.1, .ref aL_isReached, .ref aL_answers, .int L_startNumber, .int L_startTotal])), (aL_reached, .inl (cI, 1296, .inl q1.2.1)), (aL_steps, .inl (cI, 1296, .inl q1.2.2.1)), (aL_firsts, .inl (cI, 1296, .inl q1.2.2.2.1)), (aL_isReached, .inl (cZ, 7776, .inl q1.2.2.2.2.1)), (aE, .inr (1, [.ref aC, .ref aE_holders])), (aE_holders, .inl (cI, 5, .inl q1.2.2.2.2.2.1)), (aF, .inr (1, [.ref aC, .ref aF_holders])), (aF_holders, .inl (cI, 5, .inl q1.2.2.2.2.2.2))]) (wr := [(aN, .inr (1, [.ref aC, .ref aN_holders])), (aN_holders, .inl (cI, 5, .inl N_holders))]) (va_runV (As := [.int l3]) (rest := []) ⟨hx, hb, hml, hown, hts⟩ (k_X2_spread l dC dI cI cZ t0 H.size aC aC_traits aL aE aF aL_reached aL_steps aL_firsts aL_isReached aL_answers aE_holders aF_holders C_total C_traits L_total L_startNumber L_startTotal L_reached L_steps L_firsts L_isReached E_holders F_holders l3 q1.1 q1.2.1 q1.2.2.1 q1.2.2.2.1 q1.2.2.2.2.1 q1.2.2.2.2.2.1 q1.2.2.2.2.2.2 hq1) (cwV 1 hts gX2_lookFrom_X2_spread rfl rfl rfl (by decide +kernel) ⟨Nat.le_of_ble_eq_true rfl, Nat.le_of_ble_eq_true rfl⟩) ⟨sw_PW_bl, va_recv hK hPc (ci := 2) (q0 := 2) rfl rfl, sw_PW_pre hK hPc hDc hE hS hFc⟩ rfl rfl hl.1 rfl (lv_room (Nat.le_of_ble_eq_true rfl)) dX2_lookFrom_101 ⟨Nat.zero_le _, Nat.zero_le _⟩) hS hP hD hFc [0, 1, 4, 5, 6, 7, 8, 9, 10, 11, 12] [2, 3] [2, 3, 0, 1, 4, 5, 6, 7, 8, 9, 10, 11, 12] rfl rfl (by decide) (by decide) (by decide) rfl (fun H locs hP hD hS => ?_)
          refine lv_iinc (v := l3 + (1 : Int32)) (lv' := [(3, .int (l3 + (1 : Int32))), (0, .ref aL)]) hx hb dX2_lookFrom_104 hl (k := 1) rfl (sw_ii _) (by decide) rfl (fun ls hl => ?_)
          refine lv_goto (tgt := 82) hx hb dX2_lookFrom_107 (by decide) ?_
          exact ih q1.1 q1.2.1 q1.2.2.1 q1.2.2.2.1 q1.2.2.2.2.1 q1.2.2.2.2.2.1 q1.2.2.2.2.2.2 (l3 + (1 : Int32)) hf H locs hP hD hS ls (lv_sub hl [1, 0] rfl)
  have hB_46 : ∀ (L_startNumber : Int32) (L_startTotal : Int32) (L_reached : Nat → Int32) (L_steps : Nat → Int32) (L_firsts : Nat → Int32) (E_holders : Nat → Int32) (F_holders : Nat → Int32) (l2 : Int32), ∀ (fu : Nat) (L_isReached : Nat → Int32) (l3 : Int32), F_X2_lookFrom_46 C_total C_traits L_startNumber L_startTotal L_reached L_steps L_firsts E_holders F_holders l2 fu L_isReached l3 = some (L_total', L_startNumber', L_startTotal', L_reached', L_steps', L_firsts', L_isReached', E_holders', F_holders') → ∀ (H : Heap) (locs : List Loc), va_P (dC, dI) vwCl [(aC, .inr (0, [.ref aC_traits, .int C_total])), (aC_traits, .inl (cI, 20, .inl C_traits)), (aN, .inr (1, [.ref aC, .ref aN_holders])), (aN_holders, .inl (cI, 5, .inl N_holders)), (aL, .inr (2, [.ref aC, .ref aE, .ref aF, .ref aL_reached, .ref aL_steps, .ref aL_firsts, .int L_total, .ref aL_isReached, .ref aL_answers, .int L_startNumber, .int L_startTotal])), (aL_reached, .inl (cI, 1296, .inl L_reached)), (aL_steps, .inl (cI, 1296, .inl L_steps)), (aL_firsts, .inl (cI, 1296, .inl L_firsts)), (aL_isReached, .inl (cZ, 7776, .inl L_isReached)), (aE, .inr (1, [.ref aC, .ref aE_holders])), (aE_holders, .inl (cI, 5, .inl E_holders)), (aF, .inr (1, [.ref aC, .ref aF_holders])), (aF_holders, .inl (cI, 5, .inl F_holders))] H → va_D A [(aC, .inr (0, [.ref aC_traits, .int C_total])), (aC_traits, .inl (cI, 20, .inl C_traits)), (aN, .inr (1, [.ref aC, .ref aN_holders])), (aN_holders, .inl (cI, 5, .inl N_holders)), (aL, .inr (2, [.ref aC, .ref aE, .ref aF, .ref aL_reached, .ref aL_steps, .ref aL_firsts, .int L_total, .ref aL_isReached, .ref aL_answers, .int L_startNumber, .int L_startTotal])), (aL_reached, .inl (cI, 1296, .inl L_reached)), (aL_steps, .inl (cI, 1296, .inl L_steps)), (aL_firsts, .inl (cI, 1296, .inl L_firsts)), (aL_isReached, .inl (cZ, 7776, .inl L_isReached)), (aE, .inr (1, [.ref aC, .ref aE_holders])), (aE_holders, .inl (cI, 5, .inl E_holders)), (aF, .inr (1, [.ref aC, .ref aF_holders])), (aF_holders, .inl (cI, 5, .inl F_holders))] → va_S A s.heap H locs → ∀ ls : Array Slot, lv_has ls 4 [(0, .ref aL), (2, .int l2), (3, .int l3)] → W p l e rm_X2_lookFrom s m ([.ref aL, .ref aN] : List Value).toArray below meth c H locs 0 0 Q (F0 m 46 ls []) := by
    intro L_startNumber L_startTotal L_reached L_steps L_firsts E_holders F_holders l2  fu
    induction fu with
    | zero =>
      intro L_isReached l3 hf
      exact nomatch (show (none : Option (Int32 × Int32 × Int32 × (Nat → Int32) × (Nat → Int32) × (Nat → Int32) × (Nat → Int32) × (Nat → Int32) × (Nat → Int32))) = some (L_total', L_startNumber', L_startTotal', L_reached', L_steps', L_firsts', L_isReached', E_holders', F_holders') from hf)
    | succ fu ih =>
      intro L_isReached l3 hf H locs hP hD hS ls hl
      have hf := (F_X2_lookFrom_46.eq_2 _ _ _ _ _ _ _ _ _ _ _ _ _).symm.trans hf
      refine lv_iload_n hx hb dX2_lookFrom_46 rfl (lv_at hl 2 rfl) ?_
      refine lv_aload_n hx hb dX2_lookFrom_47 rfl (lv_at hl 0 rfl) ?_
      refine va_get (D := (dC, dI)) (ci := 2) (v := .ref aL_isReached) (C := RX2) (T := TX2) (N := 11) hx hb hts iX2 hown hK hP 4 rfl rfl 7 (by decide) hw4 (fun _ h9 => h9) rfl dX2_lookFrom_48 ?_
      refine va_alen hx hb hK hP 8 1 rfl rfl (v := 7776) (show Int32.ofNat 7776 = 7776 by decide +kernel) dX2_lookFrom_51 ?_
      refine lv_icmp_ge (tgt := 68) hx hb dX2_lookFrom_52 (by decide) (fun c3 => ?_) (fun c3 => ?_)
      · have hf := sw_ip c3 hf
        refine lv_aload_n hx hb dX2_lookFrom_68 rfl (lv_at hl 0 rfl) ?_
        refine lv_iconst (v := 0) hx hb dX2_lookFrom_69 (by decide) ?_
        refine va_put (D := (dC, dI)) (ci := 2) (v := .int (0 : Int32)) (ty := .int) (C := RX2) (T := TX2) (N := 11) hx hb hts iX2 tyX2 tyX2_ok nmX2 hown hK hP hD hS 4 rfl rfl 6 (by decide) hw5 (fun _ h9 => h9) rfl (by decide +kernel) rfl rfl (Nat.le_of_ble_eq_true rfl) dX2_lookFrom_70 (fun H locs hP hD hS => ?_)
        have hP : va_P (dC, dI) vwCl [(aC, .inr (0, [.ref aC_traits, .int C_total])), (aC_traits, .inl (cI, 20, .inl C_traits)), (aN, .inr (1, [.ref aC, .ref aN_holders])), (aN_holders, .inl (cI, 5, .inl N_holders)), (aL, .inr (2, [.ref aC, .ref aE, .ref aF, .ref aL_reached, .ref aL_steps, .ref aL_firsts, .int (0 : Int32), .ref aL_isReached, .ref aL_answers, .int L_startNumber, .int L_startTotal])), (aL_reached, .inl (cI, 1296, .inl L_reached)), (aL_steps, .inl (cI, 1296, .inl L_steps)), (aL_firsts, .inl (cI, 1296, .inl L_firsts)), (aL_isReached, .inl (cZ, 7776, .inl L_isReached)), (aE, .inr (1, [.ref aC, .ref aE_holders])), (aE_holders, .inl (cI, 5, .inl E_holders)), (aF, .inr (1, [.ref aC, .ref aF_holders])), (aF_holders, .inl (cI, 5, .inl F_holders))] H := hP
        have hD : va_D A [(aC, .inr (0, [.ref aC_traits, .int C_total])), (aC_traits, .inl (cI, 20, .inl C_traits)), (aN, .inr (1, [.ref aC, .ref aN_holders])), (aN_holders, .inl (cI, 5, .inl N_holders)), (aL, .inr (2, [.ref aC, .ref aE, .ref aF, .ref aL_reached, .ref aL_steps, .ref aL_firsts, .int (0 : Int32), .ref aL_isReached, .ref aL_answers, .int L_startNumber, .int L_startTotal])), (aL_reached, .inl (cI, 1296, .inl L_reached)), (aL_steps, .inl (cI, 1296, .inl L_steps)), (aL_firsts, .inl (cI, 1296, .inl L_firsts)), (aL_isReached, .inl (cZ, 7776, .inl L_isReached)), (aE, .inr (1, [.ref aC, .ref aE_holders])), (aE_holders, .inl (cI, 5, .inl E_holders)), (aF, .inr (1, [.ref aC, .ref aF_holders])), (aF_holders, .inl (cI, 5, .inl F_holders))] := hD
        refine lv_aload_n hx hb dX2_lookFrom_73 rfl (lv_at hl 0 rfl) ?_
        refine lv_iload_n hx hb dX2_lookFrom_74 rfl (lv_at hl 1 rfl) ?_
        refine lv_iconst (v := 0) hx hb dX2_lookFrom_75 (by decide) ?_
        refine lv_iconst (v := -1) hx hb dX2_lookFrom_76 (by decide) ?_
        obtain ⟨q2, hq2, hf⟩ := sw_bs hf
        have hPc := hP.sub (ws' := [(aL, .inr (2, [.ref aC, .ref aE, .ref aF, .ref aL_reached, .ref aL_steps, .ref aL_firsts, .int (0 : Int32), .ref aL_isReached, .ref aL_answers, .int L_startNumber, .int L_startTotal])), (aL_reached, .inl (cI, 1296, .inl L_reached)), (aL_steps, .inl (cI, 1296, .inl L_steps)), (aL_firsts, .inl (cI, 1296, .inl L_firsts)), (aL_isReached, .inl (cZ, 7776, .inl L_isReached))]) [4, 5, 6, 7, 8] rfl
        have hDc := hD.sub (ws' := [(aL, .inr (2, [.ref aC, .ref aE, .ref aF, .ref aL_reached, .ref aL_steps, .ref aL_firsts, .int (0 : Int32), .ref aL_isReached, .ref aL_answers, .int L_startNumber, .int L_startTotal])), (aL_reached, .inl (cI, 1296, .inl L_reached)), (aL_steps, .inl (cI, 1296, .inl L_steps)), (aL_firsts, .inl (cI, 1296, .inl L_firsts)), (aL_isReached, .inl (cZ, 7776, .inl L_isReached))]) [4, 5, 6, 7, 8] (by decide) rfl
        have hFc := va_free (wc := [(aL, .inr (2, [.ref aC, .ref aE, .ref aF, .ref aL_reached, .ref aL_steps, .ref aL_firsts, .int (0 : Int32), .ref aL_isReached, .ref aL_answers, .int L_startNumber, .int L_startTotal])), (aL_reached, .inl (cI, 1296, .inl L_reached)), (aL_steps, .inl (cI, 1296, .inl L_steps)), (aL_firsts, .inl (cI, 1296, .inl L_firsts)), (aL_isReached, .inl (cZ, 7776, .inl L_isReached))]) hD hS hA [4, 5, 6, 7, 8] rfl
        refine sw_wv (wn := [(aC, .inr (0, [.ref aC_traits, .int C_total])), (aC_traits, .inl (cI, 20, .inl C_traits)), (aN, .inr (1, [.ref aC, .ref aN_holders])), (aN_holders, .inl (cI, 5, .inl N_holders)), (aL, .inr (2, [.ref aC, .ref aE, .ref aF, .ref aL_reached, .ref aL_steps, .ref aL_firsts, .int q2.1, .ref aL_isReached, .ref aL_answers, .int L_startNumber, .int L_startTotal])), (aL_reached, .inl (cI, 1296, .inl q2.2.1)), (aL_steps, .inl (cI, 1296, .inl q2.2.2.1)), (aL_firsts, .inl (cI, 1296, .inl q2.2.2.2.1)), (aL_isReached, .inl (cZ, 7776, .inl q2.2.2.2.2)), (aE, .inr (1, [.ref aC, .ref aE_holders])), (aE_holders, .inl (cI, 5, .inl E_holders)), (aF, .inr (1, [.ref aC, .ref aF_holders])), (aF_holders, .inl (cI, 5, .inl F_holders))]) (w1 := [(aL, .inr (2, [.ref aC, .ref aE, .ref aF, .ref aL_reached, .ref aL_steps, .ref aL_firsts, .int q2.1, .ref aL_isReached, .ref aL_answers, .int L_startNumber, .int L_startTotal])), (aL_reached, .inl (cI, 1296, .inl q2.2.1)), (aL_steps, .inl (cI, 1296, .inl q2.2.2.1)), (aL_firsts, .inl (cI, 1296, .inl q2.2.2.2.1)), (aL_isReached, .inl (cZ, 7776, .inl q2.2.2.2.2))]) (wr := [(aC, .inr (0, [.ref aC_traits, .int C_total])), (aC_traits, .inl (cI, 20, .inl C_traits)), (aN, .inr (1, [.ref aC, .ref aN_holders])), (aN_holders, .inl (cI, 5, .inl N_holders)), (aE, .inr (1, [.ref aC, .ref aE_holders])), (aE_holders, .inl (cI, 5, .inl E_holders)), (aF, .inr (1, [.ref aC, .ref aF_holders])), (aF_holders, .inl (cI, 5, .inl F_holders))]) (va_runV (As := [.int l2, .int (0 : Int32), .int (-1 : Int32)]) (rest := []) ⟨hx, hb, hml, hown, hts⟩ (k_X2_reach l dC dI cI cZ t0 H.size aL aC aE aF aL_reached aL_steps aL_firsts aL_isReached aL_answers (0 : Int32) L_startNumber L_startTotal L_reached L_steps L_firsts L_isReached l2 (0 : Int32) (-1 : Int32) q2.1 q2.2.1 q2.2.2.1 q2.2.2.2.1 q2.2.2.2.2 hq2) (cwV 3 hts gX2_lookFrom_X2_reach rfl rfl rfl (by decide +kernel) ⟨Nat.le_of_ble_eq_true rfl, Nat.le_of_ble_eq_true rfl⟩) ⟨sw_PW_bl, va_recv hK hPc (ci := 2) (q0 := 0) rfl rfl, sw_PW_pre hK hPc hDc hE hS hFc⟩ rfl rfl hl.1 rfl (lv_room (Nat.le_of_ble_eq_true rfl)) dX2_lookFrom_77 ⟨Nat.zero_le _, Nat.zero_le _⟩) hS hP hD hFc [4, 5, 6, 7, 8] [0, 1, 2, 3, 9, 10, 11, 12] [0, 1, 2, 3, 8, 9, 10, 11, 12, 4, 5, 6, 7] rfl rfl (by decide) (by decide) (by decide) rfl (fun H locs hP hD hS => ?_)
        refine lv_iconst (v := 0) hx hb dX2_lookFrom_80 (by decide) ?_
        refine lv_istore_n (lv' := [(3, .int (0 : Int32)), (0, .ref aL), (2, .int l2)]) hx hb dX2_lookFrom_81 rfl hl (by decide) rfl (fun ls hl => ?_)
        exact hB_82 L_startNumber L_startTotal  sw_fu q2.1 q2.2.1 q2.2.2.1 q2.2.2.2.1 q2.2.2.2.2 E_holders F_holders (0 : Int32) hf H locs hP hD hS ls (lv_sub hl [1, 0] rfl)
      · have hf := sw_in c3 hf
        refine lv_aload_n hx hb dX2_lookFrom_55 rfl (lv_at hl 0 rfl) ?_
        refine va_get (D := (dC, dI)) (ci := 2) (v := .ref aL_isReached) (C := RX2) (T := TX2) (N := 11) hx hb hts iX2 hown hK hP 4 rfl rfl 7 (by decide) hw4 (fun _ h9 => h9) rfl dX2_lookFrom_56 ?_
        refine lv_iload_n hx hb dX2_lookFrom_59 rfl (lv_at hl 2 rfl) ?_
        refine lv_iconst (v := 0) hx hb dX2_lookFrom_60 (by decide) ?_
        obtain ⟨hi3, hf⟩ := sw_ix_s hf
        refine va_zast hx hb hK hP hD hS 8 1 rfl rfl hi3 dX2_lookFrom_61 (fun H locs hP hD hS => ?_)
        have hP : va_P (dC, dI) vwCl [(aC, .inr (0, [.ref aC_traits, .int C_total])), (aC_traits, .inl (cI, 20, .inl C_traits)), (aN, .inr (1, [.ref aC, .ref aN_holders])), (aN_holders, .inl (cI, 5, .inl N_holders)), (aL, .inr (2, [.ref aC, .ref aE, .ref aF, .ref aL_reached, .ref aL_steps, .ref aL_firsts, .int L_total, .ref aL_isReached, .ref aL_answers, .int L_startNumber, .int L_startTotal])), (aL_reached, .inl (cI, 1296, .inl L_reached)), (aL_steps, .inl (cI, 1296, .inl L_steps)), (aL_firsts, .inl (cI, 1296, .inl L_firsts)), (aL_isReached, .inl (cZ, 7776, .inl (upd L_isReached l3.toNatClampNeg (0 : Int32)))), (aE, .inr (1, [.ref aC, .ref aE_holders])), (aE_holders, .inl (cI, 5, .inl E_holders)), (aF, .inr (1, [.ref aC, .ref aF_holders])), (aF_holders, .inl (cI, 5, .inl F_holders))] H := hP
        have hD : va_D A [(aC, .inr (0, [.ref aC_traits, .int C_total])), (aC_traits, .inl (cI, 20, .inl C_traits)), (aN, .inr (1, [.ref aC, .ref aN_holders])), (aN_holders, .inl (cI, 5, .inl N_holders)), (aL, .inr (2, [.ref aC, .ref aE, .ref aF, .ref aL_reached, .ref aL_steps, .ref aL_firsts, .int L_total, .ref aL_isReached, .ref aL_answers, .int L_startNumber, .int L_startTotal])), (aL_reached, .inl (cI, 1296, .inl L_reached)), (aL_steps, .inl (cI, 1296, .inl L_steps)), (aL_firsts, .inl (cI, 1296, .inl L_firsts)), (aL_isReached, .inl (cZ, 7776, .inl (upd L_isReached l3.toNatClampNeg (0 : Int32)))), (aE, .inr (1, [.ref aC, .ref aE_holders])), (aE_holders, .inl (cI, 5, .inl E_holders)), (aF, .inr (1, [.ref aC, .ref aF_holders])), (aF_holders, .inl (cI, 5, .inl F_holders))] := hD
        refine lv_iinc (v := l3 + (1 : Int32)) (lv' := [(3, .int (l3 + (1 : Int32))), (0, .ref aL), (2, .int l2)]) hx hb dX2_lookFrom_62 hl (k := 2) rfl (sw_ii _) (by decide) rfl (fun ls hl => ?_)
        refine lv_goto (tgt := 46) hx hb dX2_lookFrom_65 (by decide) ?_
        exact ih (upd L_isReached l3.toNatClampNeg (0 : Int32)) (l3 + (1 : Int32)) hf H locs hP hD hS ls (lv_sub hl [1, 2, 0] rfl)
  have hB_28 : ∀ (L_reached : Nat → Int32) (L_steps : Nat → Int32) (L_firsts : Nat → Int32) (L_isReached : Nat → Int32) (E_holders : Nat → Int32) (F_holders : Nat → Int32) (l2 : Int32), F_X2_lookFrom_28 C_total C_traits L_reached L_steps L_firsts L_isReached E_holders F_holders l2 = some (L_total', L_startNumber', L_startTotal', L_reached', L_steps', L_firsts', L_isReached', E_holders', F_holders') → ∀ (H : Heap) (locs : List Loc), va_P (dC, dI) vwCl [(aC, .inr (0, [.ref aC_traits, .int C_total])), (aC_traits, .inl (cI, 20, .inl C_traits)), (aN, .inr (1, [.ref aC, .ref aN_holders])), (aN_holders, .inl (cI, 5, .inl N_holders)), (aL, .inr (2, [.ref aC, .ref aE, .ref aF, .ref aL_reached, .ref aL_steps, .ref aL_firsts, .int L_total, .ref aL_isReached, .ref aL_answers, .int L_startNumber, .int L_startTotal])), (aL_reached, .inl (cI, 1296, .inl L_reached)), (aL_steps, .inl (cI, 1296, .inl L_steps)), (aL_firsts, .inl (cI, 1296, .inl L_firsts)), (aL_isReached, .inl (cZ, 7776, .inl L_isReached)), (aE, .inr (1, [.ref aC, .ref aE_holders])), (aE_holders, .inl (cI, 5, .inl E_holders)), (aF, .inr (1, [.ref aC, .ref aF_holders])), (aF_holders, .inl (cI, 5, .inl F_holders))] H → va_D A [(aC, .inr (0, [.ref aC_traits, .int C_total])), (aC_traits, .inl (cI, 20, .inl C_traits)), (aN, .inr (1, [.ref aC, .ref aN_holders])), (aN_holders, .inl (cI, 5, .inl N_holders)), (aL, .inr (2, [.ref aC, .ref aE, .ref aF, .ref aL_reached, .ref aL_steps, .ref aL_firsts, .int L_total, .ref aL_isReached, .ref aL_answers, .int L_startNumber, .int L_startTotal])), (aL_reached, .inl (cI, 1296, .inl L_reached)), (aL_steps, .inl (cI, 1296, .inl L_steps)), (aL_firsts, .inl (cI, 1296, .inl L_firsts)), (aL_isReached, .inl (cZ, 7776, .inl L_isReached)), (aE, .inr (1, [.ref aC, .ref aE_holders])), (aE_holders, .inl (cI, 5, .inl E_holders)), (aF, .inr (1, [.ref aC, .ref aF_holders])), (aF_holders, .inl (cI, 5, .inl F_holders))] → va_S A s.heap H locs → ∀ ls : Array Slot, lv_has ls 4 [(0, .ref aL), (2, .int l2)] → W p l e rm_X2_lookFrom s m ([.ref aL, .ref aN] : List Value).toArray below meth c H locs 0 0 Q (F0 m 28 ls []) := by
    intro L_reached L_steps L_firsts L_isReached E_holders F_holders l2  hf H locs hP hD hS ls hl
    have hf := (F_X2_lookFrom_28.eq_1 _ _ _ _ _ _ _ _ _).symm.trans hf
    refine lv_aload_n hx hb dX2_lookFrom_28 rfl (lv_at hl 0 rfl) ?_
    refine lv_iload_n hx hb dX2_lookFrom_29 rfl (lv_at hl 1 rfl) ?_
    refine va_put (D := (dC, dI)) (ci := 2) (v := .int l2) (ty := .int) (C := RX2) (T := TX2) (N := 11) hx hb hts iX2 tyX2 tyX2_ok nmX2 hown hK hP hD hS 4 rfl rfl 9 (by decide) hw1 (fun _ h9 => h9) rfl (by decide +kernel) rfl rfl (Nat.le_of_ble_eq_true rfl) dX2_lookFrom_30 (fun H locs hP hD hS => ?_)
    have hP : va_P (dC, dI) vwCl [(aC, .inr (0, [.ref aC_traits, .int C_total])), (aC_traits, .inl (cI, 20, .inl C_traits)), (aN, .inr (1, [.ref aC, .ref aN_holders])), (aN_holders, .inl (cI, 5, .inl N_holders)), (aL, .inr (2, [.ref aC, .ref aE, .ref aF, .ref aL_reached, .ref aL_steps, .ref aL_firsts, .int L_total, .ref aL_isReached, .ref aL_answers, .int l2, .int L_startTotal])), (aL_reached, .inl (cI, 1296, .inl L_reached)), (aL_steps, .inl (cI, 1296, .inl L_steps)), (aL_firsts, .inl (cI, 1296, .inl L_firsts)), (aL_isReached, .inl (cZ, 7776, .inl L_isReached)), (aE, .inr (1, [.ref aC, .ref aE_holders])), (aE_holders, .inl (cI, 5, .inl E_holders)), (aF, .inr (1, [.ref aC, .ref aF_holders])), (aF_holders, .inl (cI, 5, .inl F_holders))] H := hP
    have hD : va_D A [(aC, .inr (0, [.ref aC_traits, .int C_total])), (aC_traits, .inl (cI, 20, .inl C_traits)), (aN, .inr (1, [.ref aC, .ref aN_holders])), (aN_holders, .inl (cI, 5, .inl N_holders)), (aL, .inr (2, [.ref aC, .ref aE, .ref aF, .ref aL_reached, .ref aL_steps, .ref aL_firsts, .int L_total, .ref aL_isReached, .ref aL_answers, .int l2, .int L_startTotal])), (aL_reached, .inl (cI, 1296, .inl L_reached)), (aL_steps, .inl (cI, 1296, .inl L_steps)), (aL_firsts, .inl (cI, 1296, .inl L_firsts)), (aL_isReached, .inl (cZ, 7776, .inl L_isReached)), (aE, .inr (1, [.ref aC, .ref aE_holders])), (aE_holders, .inl (cI, 5, .inl E_holders)), (aF, .inr (1, [.ref aC, .ref aF_holders])), (aF_holders, .inl (cI, 5, .inl F_holders))] := hD
    refine lv_aload_n hx hb dX2_lookFrom_33 rfl (lv_at hl 0 rfl) ?_
    refine lv_aload_n hx hb dX2_lookFrom_34 rfl (lv_at hl 0 rfl) ?_
    refine va_get (D := (dC, dI)) (ci := 2) (v := .ref aC) (C := RX2) (T := TX2) (N := 11) hx hb hts iX2 hown hK hP 4 rfl rfl 0 (by decide) hw2 (fun _ h9 => h9) rfl dX2_lookFrom_35 ?_
    obtain ⟨q4, hq4, hf⟩ := sw_bs hf
    have hPc := hP.sub (ws' := [(aC, .inr (0, [.ref aC_traits, .int C_total]))]) [0] rfl
    refine sw_rd (W.runV (As := []) (rest := [.ref aL]) ⟨hx, hb, hml, hown, hts⟩ (k_X0_total l dC dI cI cZ t0 aC aC_traits C_total q4 hq4) (cwV 0 hts gX2_lookFrom_X0_total rfl rfl rfl (by decide +kernel) ⟨Nat.le_of_ble_eq_true rfl, Nat.le_of_ble_eq_true rfl⟩) ⟨sw_PR_bl, va_recv hK hPc (ci := 0) (q0 := 0) rfl rfl, sw_PR_pre hK hPc hE hS⟩ rfl rfl hl.1 rfl (lv_room (Nat.le_of_ble_eq_true rfl)) dX2_lookFrom_38 ⟨Nat.zero_le _, Nat.zero_le _⟩) ?_
    refine va_put (D := (dC, dI)) (ci := 2) (v := .int q4) (ty := .int) (C := RX2) (T := TX2) (N := 11) hx hb hts iX2 tyX2 tyX2_ok nmX2 hown hK hP hD hS 4 rfl rfl 10 (by decide) hw3 (fun _ h9 => h9) rfl (by decide +kernel) rfl rfl (Nat.le_of_ble_eq_true rfl) dX2_lookFrom_41 (fun H locs hP hD hS => ?_)
    have hP : va_P (dC, dI) vwCl [(aC, .inr (0, [.ref aC_traits, .int C_total])), (aC_traits, .inl (cI, 20, .inl C_traits)), (aN, .inr (1, [.ref aC, .ref aN_holders])), (aN_holders, .inl (cI, 5, .inl N_holders)), (aL, .inr (2, [.ref aC, .ref aE, .ref aF, .ref aL_reached, .ref aL_steps, .ref aL_firsts, .int L_total, .ref aL_isReached, .ref aL_answers, .int l2, .int q4])), (aL_reached, .inl (cI, 1296, .inl L_reached)), (aL_steps, .inl (cI, 1296, .inl L_steps)), (aL_firsts, .inl (cI, 1296, .inl L_firsts)), (aL_isReached, .inl (cZ, 7776, .inl L_isReached)), (aE, .inr (1, [.ref aC, .ref aE_holders])), (aE_holders, .inl (cI, 5, .inl E_holders)), (aF, .inr (1, [.ref aC, .ref aF_holders])), (aF_holders, .inl (cI, 5, .inl F_holders))] H := hP
    have hD : va_D A [(aC, .inr (0, [.ref aC_traits, .int C_total])), (aC_traits, .inl (cI, 20, .inl C_traits)), (aN, .inr (1, [.ref aC, .ref aN_holders])), (aN_holders, .inl (cI, 5, .inl N_holders)), (aL, .inr (2, [.ref aC, .ref aE, .ref aF, .ref aL_reached, .ref aL_steps, .ref aL_firsts, .int L_total, .ref aL_isReached, .ref aL_answers, .int l2, .int q4])), (aL_reached, .inl (cI, 1296, .inl L_reached)), (aL_steps, .inl (cI, 1296, .inl L_steps)), (aL_firsts, .inl (cI, 1296, .inl L_firsts)), (aL_isReached, .inl (cZ, 7776, .inl L_isReached)), (aE, .inr (1, [.ref aC, .ref aE_holders])), (aE_holders, .inl (cI, 5, .inl E_holders)), (aF, .inr (1, [.ref aC, .ref aF_holders])), (aF_holders, .inl (cI, 5, .inl F_holders))] := hD
    refine lv_iconst (v := 0) hx hb dX2_lookFrom_44 (by decide) ?_
    refine lv_istore_n (lv' := [(3, .int (0 : Int32)), (0, .ref aL), (2, .int l2)]) hx hb dX2_lookFrom_45 rfl hl (by decide) rfl (fun ls hl => ?_)
    exact hB_46 l2 q4 L_reached L_steps L_firsts E_holders F_holders l2  sw_fu L_isReached (0 : Int32) hf H locs hP hD hS ls (lv_sub hl [1, 2, 0] rfl)
  have hf := hf0
  have hl := hl0
  have hP := hP0
  have hD := hD0
  have hS := hS0
  obtain ⟨H, hH⟩ : ∃ H, H = s.heap := ⟨_, rfl⟩
  obtain ⟨locs, hlo⟩ : ∃ locs : List Loc, locs = [] := ⟨_, rfl⟩
  rw [← hH] at hP
  have hS : va_S A s.heap H locs := by rw [hH, hlo]; exact hS0
  suffices hgo : W p l e rm_X2_lookFrom s m ([.ref aL, .ref aN] : List Value).toArray below meth c H locs 0 0 Q (F0 m 0 ls []) by rw [hH, hlo] at hgo; exact hgo
  refine lv_aload_n hx hb dX2_lookFrom_0 rfl (lv_at hl 1 rfl) ?_
  obtain ⟨q5, hq5, hf⟩ := sw_bs hf
  have hPc := hP.sub (ws' := [(aN, .inr (1, [.ref aC, .ref aN_holders])), (aN_holders, .inl (cI, 5, .inl N_holders))]) [2, 3] rfl
  refine sw_rd (W.runV (As := []) (rest := []) ⟨hx, hb, hml, hown, hts⟩ (k_X1_toNumber l dC dI cI cZ t0 aN aC aN_holders N_holders q5 hq5) (cwV 0 hts gX2_lookFrom_X1_toNumber rfl rfl rfl (by decide +kernel) ⟨Nat.le_of_ble_eq_true rfl, Nat.le_of_ble_eq_true rfl⟩) ⟨sw_PR_bl, va_recv hK hPc (ci := 1) (q0 := 0) rfl rfl, sw_PR_pre hK hPc hE hS⟩ rfl rfl hl.1 rfl (lv_room (Nat.le_of_ble_eq_true rfl)) dX2_lookFrom_1 ⟨Nat.zero_le _, Nat.zero_le _⟩) ?_
  refine lv_istore_n (lv' := [(2, .int q5), (0, .ref aL), (1, .ref aN)]) hx hb dX2_lookFrom_4 rfl hl (by decide) rfl (fun ls hl => ?_)
  refine lv_iload_n hx hb dX2_lookFrom_5 rfl (lv_at hl 0 rfl) ?_
  refine lv_aload_n hx hb dX2_lookFrom_6 rfl (lv_at hl 1 rfl) ?_
  refine va_get (D := (dC, dI)) (ci := 2) (v := .int L_startNumber) (C := RX2) (T := TX2) (N := 11) hx hb hts iX2 hown hK hP 4 rfl rfl 9 (by decide) hw1 (fun _ h9 => h9) rfl dX2_lookFrom_7 ?_
  refine lv_icmp_ne (tgt := 28) hx hb dX2_lookFrom_10 (by decide) (fun c4 => ?_) (fun c4 => ?_)
  · have hf := sw_in c4 hf
    exact hB_28 L_reached L_steps L_firsts L_isReached E_holders F_holders q5  hf H locs hP hD hS ls (lv_sub hl [1, 0] rfl)
  · have hf := sw_ip c4 hf
    refine lv_aload_n hx hb dX2_lookFrom_13 rfl (lv_at hl 1 rfl) ?_
    refine va_get (D := (dC, dI)) (ci := 2) (v := .ref aC) (C := RX2) (T := TX2) (N := 11) hx hb hts iX2 hown hK hP 4 rfl rfl 0 (by decide) hw2 (fun _ h9 => h9) rfl dX2_lookFrom_14 ?_
    obtain ⟨q6, hq6, hf⟩ := sw_bs hf
    have hPc := hP.sub (ws' := [(aC, .inr (0, [.ref aC_traits, .int C_total]))]) [0] rfl
    refine sw_rd (W.runV (As := []) (rest := []) ⟨hx, hb, hml, hown, hts⟩ (k_X0_total l dC dI cI cZ t0 aC aC_traits C_total q6 hq6) (cwV 0 hts gX2_lookFrom_X0_total rfl rfl rfl (by decide +kernel) ⟨Nat.le_of_ble_eq_true rfl, Nat.le_of_ble_eq_true rfl⟩) ⟨sw_PR_bl, va_recv hK hPc (ci := 0) (q0 := 0) rfl rfl, sw_PR_pre hK hPc hE hS⟩ rfl rfl hl.1 rfl (lv_room (Nat.le_of_ble_eq_true rfl)) dX2_lookFrom_17 ⟨Nat.zero_le _, Nat.zero_le _⟩) ?_
    refine lv_aload_n hx hb dX2_lookFrom_20 rfl (lv_at hl 1 rfl) ?_
    refine va_get (D := (dC, dI)) (ci := 2) (v := .int L_startTotal) (C := RX2) (T := TX2) (N := 11) hx hb hts iX2 hown hK hP 4 rfl rfl 10 (by decide) hw3 (fun _ h9 => h9) rfl dX2_lookFrom_21 ?_
    refine lv_icmp_ne (tgt := 28) hx hb dX2_lookFrom_24 (by decide) (fun c5 => ?_) (fun c5 => ?_)
    · have hf := sw_in c5 hf
      exact hB_28 L_reached L_steps L_firsts L_isReached E_holders F_holders q5  hf H locs hP hD hS ls (lv_sub hl [1, 0] rfl)
    · have hf := sw_ip c5 hf
      subst hQ hAe
      cases hf
      exact W.vret hx hb hr (fun t ht hW => ⟨⟨(), rfl, trivial, ⟨by rw [ht]; exact hP, va_K.moved hW.alike hK, hD⟩⟩, hS.F ht⟩) hS.2.2 dX2_lookFrom_27 hlocks
abbrev rm_X2_total : Room := { frames := 0, cells := 0, slots := 0, locals := 0 }
set_option maxHeartbeats 1000000 in
set_option maxRecDepth 100000 in
theorem k_X2_total (l : Launch) (dC : Nat → ClassId) (dI : Nat → Nat → Nat) (cI cZ : ClassId) (t0 : Nat) (aL aC aE aF aL_reached aL_steps aL_firsts aL_isReached aL_answers : Nat) (L_total : Int32) (L_startNumber : Int32) (L_startTotal : Int32) (rv : Int32)  (hf : F_X2_total L_total = some (rv)) : Met l yX2_total wsX2_total rm_X2_total (sw_PR (dC, dI) t0 [(cI, .int), (cZ, .boolean)] [.ref aL] [(aL, .inr (2, [.ref aC, .ref aE, .ref aF, .ref aL_reached, .ref aL_steps, .ref aL_firsts, .int L_total, .ref aL_isReached, .ref aL_answers, .int L_startNumber, .int L_startTotal]))]) (vp_Si (fun r => r = rv)) 0 0 (fun _ => False) := by
  refine sw_metR (cc := cX2_total) (maxL := 1) (ret := (some .int)) (lv := [(0, .ref aL)]) (by decide) rfl (Nat.le_of_ble_eq_true rfl) rfl ?_
  intro p e s m below meth c Q hQ hx hb hr hts hown hlocks hml hP hK hE hS ls hl
  have hown : s.vm.findClass RX2 = some m.cls := hown
  have hf := (F_X2_total.eq_1 _).symm.trans hf
  have hw1 := hts (.fieldLink RX2 60 "SwallowedInTurn$Outlook" "total" "I") (List.mem_of_getElem? (i := 1) (by decide +kernel))
  have iX2 : ∀ w ∈ u_ws RX2 TX2 11, w ∈ wsX2_total := by decide +kernel
  refine lv_aload_n hx hb dX2_total_0 rfl (lv_at hl 0 rfl) ?_
  refine va_get (D := (dC, dI)) (ci := 2) (v := .int L_total) (C := RX2) (T := TX2) (N := 11) hx hb hts iX2 hown hK hP 0 rfl rfl 6 (by decide) hw1 (fun _ h9 => h9) rfl dX2_total_1 ?_
  subst hQ
  exact W.iret hx hb hr (fun t ht hW => ⟨_, rfl, Option.some.inj hf, ht⟩) (fun _ h => absurd h List.not_mem_nil) dX2_total_4 hlocks
abbrev rm_X2_numberAt : Room := { frames := 0, cells := 0, slots := 0, locals := 0 }
set_option maxHeartbeats 1000000 in
set_option maxRecDepth 100000 in
theorem k_X2_numberAt (l : Launch) (dC : Nat → ClassId) (dI : Nat → Nat → Nat) (cI cZ : ClassId) (t0 : Nat) (aL aC aE aF aL_reached aL_steps aL_firsts aL_isReached aL_answers : Nat) (L_total : Int32) (L_startNumber : Int32) (L_startTotal : Int32) (L_isReached : Nat → Int32) (l1 : Int32) (rv : Int32)  (hf : F_X2_numberAt L_isReached l1 = some (rv)) : Met l yX2_numberAt wsX2_numberAt rm_X2_numberAt (sw_PR (dC, dI) t0 [(cI, .int), (cZ, .boolean)] [.ref aL, .int l1] [(aL, .inr (2, [.ref aC, .ref aE, .ref aF, .ref aL_reached, .ref aL_steps, .ref aL_firsts, .int L_total, .ref aL_isReached, .ref aL_answers, .int L_startNumber, .int L_startTotal])), (aL_isReached, .inl (cZ, 7776, .inl L_isReached))]) (vp_Si (fun r => r = rv)) 0 0 (fun _ => False) := by
  refine sw_metR (cc := cX2_numberAt) (maxL := 4) (ret := (some .int)) (lv := [(0, .ref aL), (1, .int l1)]) (by decide) rfl (Nat.le_of_ble_eq_true rfl) rfl ?_
  intro p e s m below meth c Q hQ hx hb hr hts hown hlocks hml hP hK hE hS ls hl
  have hown : s.vm.findClass RX2 = some m.cls := hown
  have hf := (F_X2_numberAt.eq_1 _ _).symm.trans hf
  have hw1 := hts (.fieldLink RX2 21 "SwallowedInTurn$Outlook" "isReached" "[Z") (List.mem_of_getElem? (i := 1) (by decide +kernel))
  have iX2 : ∀ w ∈ u_ws RX2 TX2 11, w ∈ wsX2_numberAt := by decide +kernel
  have hf0 := hf
  clear hf
  have hl0 := hl
  clear hl
  have hB_4 :  ∀ (fu : Nat) (l2 : Int32) (l3 : Int32), F_X2_numberAt_4 L_isReached l1 fu l2 l3 = some (rv) → ∀ ls : Array Slot, lv_has ls 4 [(0, .ref aL), (1, .int l1), (2, .int l2), (3, .int l3)] → W p l e rm_X2_numberAt s m ([.ref aL, .int l1] : List Value).toArray below meth c s.heap [] 0 0 Q (F0 m 4 ls []) := by
    intro   fu
    induction fu with
    | zero =>
      intro l2 l3 hf
      exact nomatch (show (none : Option (Int32)) = some (rv) from hf)
    | succ fu ih =>
      intro l2 l3 hf ls hl
      have hf := (F_X2_numberAt_4.eq_2 _ _ _ _ _).symm.trans hf
      refine lv_iload_n hx hb dX2_numberAt_4 rfl (lv_at hl 3 rfl) ?_
      refine lv_aload_n hx hb dX2_numberAt_5 rfl (lv_at hl 0 rfl) ?_
      refine va_get (D := (dC, dI)) (ci := 2) (v := .ref aL_isReached) (C := RX2) (T := TX2) (N := 11) hx hb hts iX2 hown hK hP 0 rfl rfl 7 (by decide) hw1 (fun _ h9 => h9) rfl dX2_numberAt_6 ?_
      refine va_alen hx hb hK hP 1 1 rfl rfl (v := 7776) (show Int32.ofNat 7776 = 7776 by decide +kernel) dX2_numberAt_9 ?_
      refine lv_icmp_ge (tgt := 38) hx hb dX2_numberAt_10 (by decide) (fun c1 => ?_) (fun c1 => ?_)
      · have hf := sw_ip c1 hf
        refine lv_iconst (v := -1) hx hb dX2_numberAt_38 (by decide) ?_
        subst hQ
        exact W.iret hx hb hr (fun t ht hW => ⟨_, rfl, Option.some.inj hf, ht⟩) (fun _ h => absurd h List.not_mem_nil) dX2_numberAt_39 hlocks
      · have hf := sw_in c1 hf
        refine lv_aload_n hx hb dX2_numberAt_13 rfl (lv_at hl 0 rfl) ?_
        refine va_get (D := (dC, dI)) (ci := 2) (v := .ref aL_isReached) (C := RX2) (T := TX2) (N := 11) hx hb hts iX2 hown hK hP 0 rfl rfl 7 (by decide) hw1 (fun _ h9 => h9) rfl dX2_numberAt_14 ?_
        refine lv_iload_n hx hb dX2_numberAt_17 rfl (lv_at hl 3 rfl) ?_
        obtain ⟨hi1, hf⟩ := sw_ix_s hf
        refine va_zald hx hb hK hP 1 1 rfl rfl hi1 dX2_numberAt_18 ?_
        refine lv_if_eq (tgt := 32) hx hb dX2_numberAt_19 (by decide) (fun c2 => ?_) (fun c2 => ?_)
        · have hf := sw_ip c2 hf
          refine lv_iinc (v := l3 + (1 : Int32)) (lv' := [(3, .int (l3 + (1 : Int32))), (0, .ref aL), (1, .int l1), (2, .int l2)]) hx hb dX2_numberAt_32 hl (k := 3) rfl (sw_ii _) (by decide) rfl (fun ls hl => ?_)
          refine lv_goto (tgt := 4) hx hb dX2_numberAt_35 (by decide) ?_
          exact ih l2 (l3 + (1 : Int32)) hf ls (lv_sub hl [1, 2, 3, 0] rfl)
        · have hf := sw_in c2 hf
          refine lv_iload_n hx hb dX2_numberAt_22 rfl (lv_at hl 2 rfl) ?_
          refine lv_iload_n hx hb dX2_numberAt_23 rfl (lv_at hl 1 rfl) ?_
          refine lv_icmp_ne (tgt := 29) hx hb dX2_numberAt_24 (by decide) (fun c3 => ?_) (fun c3 => ?_)
          · have hf := sw_in c3 hf
            refine lv_iinc (v := l2 + (1 : Int32)) (lv' := [(2, .int (l2 + (1 : Int32))), (0, .ref aL), (1, .int l1), (3, .int l3)]) hx hb dX2_numberAt_29 hl (k := 2) rfl (sw_ii _) (by decide) rfl (fun ls hl => ?_)
            refine lv_iinc (v := l3 + (1 : Int32)) (lv' := [(3, .int (l3 + (1 : Int32))), (2, .int (l2 + (1 : Int32))), (0, .ref aL), (1, .int l1)]) hx hb dX2_numberAt_32 hl (k := 3) rfl (sw_ii _) (by decide) rfl (fun ls hl => ?_)
            refine lv_goto (tgt := 4) hx hb dX2_numberAt_35 (by decide) ?_
            exact ih (l2 + (1 : Int32)) (l3 + (1 : Int32)) hf ls (lv_sub hl [2, 3, 1, 0] rfl)
          · have hf := sw_ip c3 hf
            refine lv_iload_n hx hb dX2_numberAt_27 rfl (lv_at hl 3 rfl) ?_
            subst hQ
            exact W.iret hx hb hr (fun t ht hW => ⟨_, rfl, Option.some.inj hf, ht⟩) (fun _ h => absurd h List.not_mem_nil) dX2_numberAt_28 hlocks
  have hf := hf0
  have hl := hl0
  refine lv_iconst (v := 0) hx hb dX2_numberAt_0 (by decide) ?_
  refine lv_istore_n (lv' := [(2, .int (0 : Int32)), (0, .ref aL), (1, .int l1)]) hx hb dX2_numberAt_1 rfl hl (by decide) rfl (fun ls hl => ?_)
  refine lv_iconst (v := 0) hx hb dX2_numberAt_2 (by decide) ?_
  refine lv_istore_n (lv' := [(3, .int (0 : Int32)), (2, .int (0 : Int32)), (0, .ref aL), (1, .int l1)]) hx hb dX2_numberAt_3 rfl hl (by decide) rfl (fun ls hl => ?_)
  exact hB_4   sw_fu (0 : Int32) (0 : Int32) hf ls (lv_sub hl [2, 3, 1, 0] rfl)
