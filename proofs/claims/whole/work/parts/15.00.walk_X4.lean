abbrev rm_X4_isSoIn : Room := { frames := 3, cells := 0, slots := 0, locals := 68 }
set_option maxHeartbeats 1000000 in
set_option maxRecDepth 100000 in
theorem k_X4_isSoIn (l : Launch) (dC : Nat → ClassId) (dI : Nat → Nat → Nat) (cI cZ : ClassId) (t0 : Nat) (aC aC_traits aN aN_holders aT aT_tellers aT_heard : Nat) (C_total : Int32) (N_holders : Nat → Int32) (T_length : Int32) (T_tellers : Nat → Int32) (T_heard : Nat → Int32) (rv : Int32)  (hf : F_X4_isSoIn C_total N_holders T_length T_tellers T_heard = some (rv)) : Met l yX4_isSoIn wsX4_isSoIn rm_X4_isSoIn (sw_PR (dC, dI) t0 [(cI, .int), (cZ, .boolean)] [.ref aT, .ref aN] [(aC, .inr (0, [.ref aC_traits, .int C_total])), (aN, .inr (1, [.ref aC, .ref aN_holders])), (aN_holders, .inl (cI, 5, .inl N_holders)), (aT, .inr (4, [.ref aT_tellers, .ref aT_heard, .int T_length])), (aT_tellers, .inl (cI, 4, .inl T_tellers)), (aT_heard, .inl (cI, 4, .inl T_heard))]) (vp_Si (fun r => r = rv)) 0 0 (fun _ => False) := by
  refine sw_metR (cc := cX4_isSoIn) (maxL := 3) (ret := (some .boolean)) (lv := [(0, .ref aT), (1, .ref aN)]) (by decide) rfl (Nat.le_of_ble_eq_true rfl) rfl ?_
  intro p e s m below meth c Q hQ hx hb hr hts hown hlocks hml hP hK hE hS ls hl
  have hown : s.vm.findClass RX4 = some m.cls := hown
  have hf := (F_X4_isSoIn.eq_1 _ _ _ _ _).symm.trans hf
  have hw1 := hts (.fieldLink RX4 16 "SwallowedInTurn$Talk" "length" "I") (List.mem_of_getElem? (i := 1) (by decide +kernel))
  have iX4 : ∀ w ∈ u_ws RX4 TX4 3, w ∈ wsX4_isSoIn := by decide +kernel
  have hw2 := hts (.fieldLink RX4 7 "SwallowedInTurn$Talk" "tellers" "[I") (List.mem_of_getElem? (i := 2) (by decide +kernel))
  have hw3 := hts (.fieldLink RX4 13 "SwallowedInTurn$Talk" "heard" "[I") (List.mem_of_getElem? (i := 3) (by decide +kernel))
  have hf0 := hf
  clear hf
  have hl0 := hl
  clear hl
  have hB_2 :  ∀ (fu : Nat) (l2 : Int32), F_X4_isSoIn_2 C_total N_holders T_length T_tellers T_heard fu l2 = some (rv) → ∀ ls : Array Slot, lv_has ls 3 [(0, .ref aT), (1, .ref aN), (2, .int l2)] → W p l e rm_X4_isSoIn s m ([.ref aT, .ref aN] : List Value).toArray below meth c s.heap [] 0 0 Q (F0 m 2 ls []) := by
    intro   fu
    induction fu with
    | zero =>
      intro l2 hf
      exact nomatch (show (none : Option (Int32)) = some (rv) from hf)
    | succ fu ih =>
      intro l2 hf ls hl
      have hf := (F_X4_isSoIn_2.eq_2 _ _ _ _ _ _ _).symm.trans hf
      refine lv_iload_n hx hb dX4_isSoIn_2 rfl (lv_at hl 2 rfl) ?_
      refine lv_aload_n hx hb dX4_isSoIn_3 rfl (lv_at hl 0 rfl) ?_
      refine va_get (D := (dC, dI)) (ci := 4) (v := .int T_length) (C := RX4) (T := TX4) (N := 3) hx hb hts iX4 hown hK hP 3 rfl rfl 2 (by decide) hw1 (fun _ h9 => h9) rfl dX4_isSoIn_4 ?_
      refine lv_icmp_ge (tgt := 55) hx hb dX4_isSoIn_7 (by decide) (fun c1 => ?_) (fun c1 => ?_)
      · have hf := sw_ip c1 hf
        refine lv_iconst (v := 1) hx hb dX4_isSoIn_55 (by decide) ?_
        subst hQ
        exact W.zret hx hb hr rfl (fun t ht hW => ⟨_, rfl, Option.some.inj hf, ht⟩) (fun _ h => absurd h List.not_mem_nil) dX4_isSoIn_56 hlocks
      · have hf := sw_in c1 hf
        refine lv_iload_n hx hb dX4_isSoIn_10 rfl (lv_at hl 2 rfl) ?_
        refine lv_aload_n hx hb dX4_isSoIn_11 rfl (lv_at hl 0 rfl) ?_
        refine va_get (D := (dC, dI)) (ci := 4) (v := .ref aT_tellers) (C := RX4) (T := TX4) (N := 3) hx hb hts iX4 hown hK hP 3 rfl rfl 0 (by decide) hw2 (fun _ h9 => h9) rfl dX4_isSoIn_12 ?_
        refine va_alen hx hb hK hP 4 0 rfl rfl (v := 4) (show Int32.ofNat 4 = 4 by decide +kernel) dX4_isSoIn_15 ?_
        refine lv_icmp_ge (tgt := 55) hx hb dX4_isSoIn_16 (by decide) (fun c2 => ?_) (fun c2 => ?_)
        · have hf := sw_ip c2 hf
          refine lv_iconst (v := 1) hx hb dX4_isSoIn_55 (by decide) ?_
          subst hQ
          exact W.zret hx hb hr rfl (fun t ht hW => ⟨_, rfl, Option.some.inj hf, ht⟩) (fun _ h => absurd h List.not_mem_nil) dX4_isSoIn_56 hlocks
        · have hf := sw_in c2 hf
          refine lv_iload_n hx hb dX4_isSoIn_19 rfl (lv_at hl 2 rfl) ?_
          refine lv_aload_n hx hb dX4_isSoIn_20 rfl (lv_at hl 0 rfl) ?_
          refine va_get (D := (dC, dI)) (ci := 4) (v := .ref aT_heard) (C := RX4) (T := TX4) (N := 3) hx hb hts iX4 hown hK hP 3 rfl rfl 1 (by decide) hw3 (fun _ h9 => h9) rfl dX4_isSoIn_21 ?_
          refine va_alen hx hb hK hP 5 0 rfl rfl (v := 4) (show Int32.ofNat 4 = 4 by decide +kernel) dX4_isSoIn_24 ?_
          refine lv_icmp_ge (tgt := 55) hx hb dX4_isSoIn_25 (by decide) (fun c3 => ?_) (fun c3 => ?_)
          · have hf := sw_ip c3 hf
            refine lv_iconst (v := 1) hx hb dX4_isSoIn_55 (by decide) ?_
            subst hQ
            exact W.zret hx hb hr rfl (fun t ht hW => ⟨_, rfl, Option.some.inj hf, ht⟩) (fun _ h => absurd h List.not_mem_nil) dX4_isSoIn_56 hlocks
          · have hf := sw_in c3 hf
            refine lv_aload_n hx hb dX4_isSoIn_28 rfl (lv_at hl 1 rfl) ?_
            refine lv_aload_n hx hb dX4_isSoIn_29 rfl (lv_at hl 0 rfl) ?_
            refine va_get (D := (dC, dI)) (ci := 4) (v := .ref aT_tellers) (C := RX4) (T := TX4) (N := 3) hx hb hts iX4 hown hK hP 3 rfl rfl 0 (by decide) hw2 (fun _ h9 => h9) rfl dX4_isSoIn_30 ?_
            refine lv_iload_n hx hb dX4_isSoIn_33 rfl (lv_at hl 2 rfl) ?_
            obtain ⟨hi1, hf⟩ := sw_ix_s hf
            refine va_iald hx hb hK hP 4 0 rfl rfl hi1 dX4_isSoIn_34 ?_
            obtain ⟨q2, hq2, hf⟩ := sw_bs hf
            have hPc := hP.sub (ws' := [(aC, .inr (0, [.ref aC_traits, .int C_total])), (aN, .inr (1, [.ref aC, .ref aN_holders])), (aN_holders, .inl (cI, 5, .inl N_holders))]) [0, 1, 2] rfl
            refine sw_rd (W.runV (As := [.int (T_tellers l2.toNatClampNeg)]) (rest := []) ⟨hx, hb, hml, hown, hts⟩ (k_X1_heardBy l dC dI cI cZ t0 aC aC_traits aN aN_holders C_total N_holders (T_tellers l2.toNatClampNeg) q2 hq2) (cwV 1 hts gX4_isSoIn_X1_heardBy rfl rfl rfl (by decide +kernel) ⟨Nat.le_of_ble_eq_true rfl, Nat.le_of_ble_eq_true rfl⟩) ⟨sw_PR_bl, va_recv hK hPc (ci := 1) (q0 := 1) rfl rfl, sw_PR_pre hK hPc hE hS⟩ rfl rfl hl.1 rfl (lv_room (Nat.le_of_ble_eq_true rfl)) dX4_isSoIn_35 ⟨Nat.zero_le _, Nat.zero_le _⟩) ?_
            refine lv_aload_n hx hb dX4_isSoIn_38 rfl (lv_at hl 0 rfl) ?_
            refine va_get (D := (dC, dI)) (ci := 4) (v := .ref aT_heard) (C := RX4) (T := TX4) (N := 3) hx hb hts iX4 hown hK hP 3 rfl rfl 1 (by decide) hw3 (fun _ h9 => h9) rfl dX4_isSoIn_39 ?_
            refine lv_iload_n hx hb dX4_isSoIn_42 rfl (lv_at hl 2 rfl) ?_
            obtain ⟨hi3, hf⟩ := sw_ix_s hf
            refine va_iald hx hb hK hP 5 0 rfl rfl hi3 dX4_isSoIn_43 ?_
            refine lv_icmp_eq (tgt := 49) hx hb dX4_isSoIn_44 (by decide) (fun c4 => ?_) (fun c4 => ?_)
            · have hf := sw_ip c4 hf
              refine lv_iinc (v := l2 + (1 : Int32)) (lv' := [(2, .int (l2 + (1 : Int32))), (0, .ref aT), (1, .ref aN)]) hx hb dX4_isSoIn_49 hl (k := 2) rfl (sw_ii _) (by decide) rfl (fun ls hl => ?_)
              refine lv_goto (tgt := 2) hx hb dX4_isSoIn_52 (by decide) ?_
              exact ih (l2 + (1 : Int32)) hf ls (lv_sub hl [1, 2, 0] rfl)
            · have hf := sw_in c4 hf
              refine lv_iconst (v := 0) hx hb dX4_isSoIn_47 (by decide) ?_
              subst hQ
              exact W.zret hx hb hr rfl (fun t ht hW => ⟨_, rfl, Option.some.inj hf, ht⟩) (fun _ h => absurd h List.not_mem_nil) dX4_isSoIn_48 hlocks
  have hf := hf0
  have hl := hl0
  refine lv_iconst (v := 0) hx hb dX4_isSoIn_0 (by decide) ?_
  refine lv_istore_n (lv' := [(2, .int (0 : Int32)), (0, .ref aT), (1, .ref aN)]) hx hb dX4_isSoIn_1 rfl hl (by decide) rfl (fun ls hl => ?_)
  exact hB_2   sw_fu (0 : Int32) hf ls (lv_sub hl [1, 2, 0] rfl)
abbrev rm_X4_length : Room := { frames := 0, cells := 0, slots := 0, locals := 0 }
set_option maxHeartbeats 1000000 in
set_option maxRecDepth 100000 in
theorem k_X4_length (l : Launch) (dC : Nat → ClassId) (dI : Nat → Nat → Nat) (cI cZ : ClassId) (t0 : Nat) (aT aT_tellers aT_heard : Nat) (T_length : Int32) (rv : Int32)  (hf : F_X4_length T_length = some (rv)) : Met l yX4_length wsX4_length rm_X4_length (sw_PR (dC, dI) t0 [(cI, .int), (cZ, .boolean)] [.ref aT] [(aT, .inr (4, [.ref aT_tellers, .ref aT_heard, .int T_length]))]) (vp_Si (fun r => r = rv)) 0 0 (fun _ => False) := by
  refine sw_metR (cc := cX4_length) (maxL := 1) (ret := (some .int)) (lv := [(0, .ref aT)]) (by decide) rfl (Nat.le_of_ble_eq_true rfl) rfl ?_
  intro p e s m below meth c Q hQ hx hb hr hts hown hlocks hml hP hK hE hS ls hl
  have hown : s.vm.findClass RX4 = some m.cls := hown
  have hf := (F_X4_length.eq_1 _).symm.trans hf
  have hw1 := hts (.fieldLink RX4 16 "SwallowedInTurn$Talk" "length" "I") (List.mem_of_getElem? (i := 1) (by decide +kernel))
  have iX4 : ∀ w ∈ u_ws RX4 TX4 3, w ∈ wsX4_length := by decide +kernel
  refine lv_aload_n hx hb dX4_length_0 rfl (lv_at hl 0 rfl) ?_
  refine va_get (D := (dC, dI)) (ci := 4) (v := .int T_length) (C := RX4) (T := TX4) (N := 3) hx hb hts iX4 hown hK hP 0 rfl rfl 2 (by decide) hw1 (fun _ h9 => h9) rfl dX4_length_1 ?_
  subst hQ
  exact W.iret hx hb hr (fun t ht hW => ⟨_, rfl, Option.some.inj hf, ht⟩) (fun _ h => absurd h List.not_mem_nil) dX4_length_4 hlocks
abbrev rm_X4_keep : Room := { frames := 0, cells := 0, slots := 0, locals := 0 }
set_option maxHeartbeats 1000000 in
set_option maxRecDepth 100000 in
theorem k_X4_keep (l : Launch) (dC : Nat → ClassId) (dI : Nat → Nat → Nat) (cI cZ : ClassId) (t0 : Nat) (sz : Nat) (aT aT_tellers aT_heard : Nat) (T_length : Int32) (T_tellers : Nat → Int32) (T_heard : Nat → Int32) (l1 : Int32) (l2 : Int32) (rv : Int32) (T_length' : Int32) (T_tellers' : Nat → Int32) (T_heard' : Nat → Int32) (hf : F_X4_keep T_length T_tellers T_heard l1 l2 = some (rv, T_length', T_tellers', T_heard')) : Met l yX4_keep wsX4_keep rm_X4_keep (sw_PW (dC, dI) t0 [(cI, .int), (cZ, .boolean)] [.ref aT, .int l1, .int l2] [(aT, .inr (4, [.ref aT_tellers, .ref aT_heard, .int T_length])), (aT_tellers, .inl (cI, 4, .inl T_tellers)), (aT_heard, .inl (cI, 4, .inl T_heard))] sz) (va_Qi (fun r (_ : Unit) => r = rv) (fun _ t => sw_B (dC, dI) [(cI, .int), (cZ, .boolean)] [(aT, .inr (4, [.ref aT_tellers, .ref aT_heard, .int T_length'])), (aT_tellers, .inl (cI, 4, .inl T_tellers')), (aT_heard, .inl (cI, 4, .inl T_heard'))] (va_A [(aT, .inr (4, [.ref aT_tellers, .ref aT_heard, .int T_length])), (aT_tellers, .inl (cI, 4, .inl T_tellers)), (aT_heard, .inl (cI, 4, .inl T_heard))] sz) t) (va_A [(aT, .inr (4, [.ref aT_tellers, .ref aT_heard, .int T_length])), (aT_tellers, .inl (cI, 4, .inl T_tellers)), (aT_heard, .inl (cI, 4, .inl T_heard))] sz)) 0 0 (va_A [(aT, .inr (4, [.ref aT_tellers, .ref aT_heard, .int T_length])), (aT_tellers, .inl (cI, 4, .inl T_tellers)), (aT_heard, .inl (cI, 4, .inl T_heard))] sz) := by
  refine sw_metW (cc := cX4_keep) (maxL := 3) (ret := (some .boolean)) (lv := [(0, .ref aT), (1, .int l1), (2, .int l2)]) (by decide) rfl (Nat.le_of_ble_eq_true rfl) rfl ?_
  intro p e s m below meth c Q A hsz hAe hQ hx hb hr hts hown hlocks hml hmn hP hK hD hE hS hA ls hl
  have hS0 := hS
  have hown : s.vm.findClass RX4 = some m.cls := hown
  have hf := (F_X4_keep.eq_1 _ _ _ _ _).symm.trans hf
  have hw1 := hts (.fieldLink RX4 16 "SwallowedInTurn$Talk" "length" "I") (List.mem_of_getElem? (i := 1) (by decide +kernel))
  have iX4 : ∀ w ∈ u_ws RX4 TX4 3, w ∈ wsX4_keep := by decide +kernel
  have hw2 := hts (.fieldLink RX4 7 "SwallowedInTurn$Talk" "tellers" "[I") (List.mem_of_getElem? (i := 2) (by decide +kernel))
  have hw3 := hts (.fieldLink RX4 13 "SwallowedInTurn$Talk" "heard" "[I") (List.mem_of_getElem? (i := 3) (by decide +kernel))
  obtain ⟨H, hH⟩ : ∃ H, H = s.heap := ⟨_, rfl⟩
  obtain ⟨locs, hlo⟩ : ∃ locs : List Loc, locs = [] := ⟨_, rfl⟩
  rw [← hH] at hP
  have hS : va_S A s.heap H locs := by rw [hH, hlo]; exact hS0
  suffices hgo : W p l e rm_X4_keep s m ([.ref aT, .int l1, .int l2] : List Value).toArray below meth c H locs 0 0 Q (F0 m 0 ls []) by rw [hH, hlo] at hgo; exact hgo
  refine lv_aload_n hx hb dX4_keep_0 rfl (lv_at hl 0 rfl) ?_
  refine va_get (D := (dC, dI)) (ci := 4) (v := .int T_length) (C := RX4) (T := TX4) (N := 3) hx hb hts iX4 hown hK hP 0 rfl rfl 2 (by decide) hw1 (fun _ h9 => h9) rfl dX4_keep_1 ?_
  refine lv_if_lt (tgt := 31) hx hb dX4_keep_4 (by decide) (fun c1 => ?_) (fun c1 => ?_)
  · have hf := sw_ip c1 hf
    refine lv_iconst (v := 0) hx hb dX4_keep_31 (by decide) ?_
    subst hQ hAe
    cases hf
    exact W.zret hx hb hr rfl (fun t ht hW => ⟨⟨_, (), rfl, rfl, ⟨by rw [ht]; exact hP, va_K.moved hW.alike hK, hD⟩⟩, hS.F ht⟩) hS.2.2 dX4_keep_32 hlocks
  · have hf := sw_in c1 hf
    refine lv_aload_n hx hb dX4_keep_7 rfl (lv_at hl 0 rfl) ?_
    refine va_get (D := (dC, dI)) (ci := 4) (v := .int T_length) (C := RX4) (T := TX4) (N := 3) hx hb hts iX4 hown hK hP 0 rfl rfl 2 (by decide) hw1 (fun _ h9 => h9) rfl dX4_keep_8 ?_
    refine lv_aload_n hx hb dX4_keep_11 rfl (lv_at hl 0 rfl) ?_
    refine va_get (D := (dC, dI)) (ci := 4) (v := .ref aT_tellers) (C := RX4) (T := TX4) (N := 3) hx hb hts iX4 hown hK hP 0 rfl rfl 0 (by decide) hw2 (fun _ h9 => h9) rfl dX4_keep_12 ?_
    refine va_alen hx hb hK hP 1 0 rfl rfl (v := 4) (show Int32.ofNat 4 = 4 by decide +kernel) dX4_keep_15 ?_
    refine lv_icmp_ge (tgt := 31) hx hb dX4_keep_16 (by decide) (fun c2 => ?_) (fun c2 => ?_)
    · have hf := sw_ip c2 hf
      refine lv_iconst (v := 0) hx hb dX4_keep_31 (by decide) ?_
      subst hQ hAe
      cases hf
      exact W.zret hx hb hr rfl (fun t ht hW => ⟨⟨_, (), rfl, rfl, ⟨by rw [ht]; exact hP, va_K.moved hW.alike hK, hD⟩⟩, hS.F ht⟩) hS.2.2 dX4_keep_32 hlocks
    · have hf := sw_in c2 hf
      refine lv_aload_n hx hb dX4_keep_19 rfl (lv_at hl 0 rfl) ?_
      refine va_get (D := (dC, dI)) (ci := 4) (v := .int T_length) (C := RX4) (T := TX4) (N := 3) hx hb hts iX4 hown hK hP 0 rfl rfl 2 (by decide) hw1 (fun _ h9 => h9) rfl dX4_keep_20 ?_
      refine lv_aload_n hx hb dX4_keep_23 rfl (lv_at hl 0 rfl) ?_
      refine va_get (D := (dC, dI)) (ci := 4) (v := .ref aT_heard) (C := RX4) (T := TX4) (N := 3) hx hb hts iX4 hown hK hP 0 rfl rfl 1 (by decide) hw3 (fun _ h9 => h9) rfl dX4_keep_24 ?_
      refine va_alen hx hb hK hP 2 0 rfl rfl (v := 4) (show Int32.ofNat 4 = 4 by decide +kernel) dX4_keep_27 ?_
      refine lv_icmp_lt (tgt := 33) hx hb dX4_keep_28 (by decide) (fun c3 => ?_) (fun c3 => ?_)
      · have hf := sw_ip c3 hf
        refine lv_aload_n hx hb dX4_keep_33 rfl (lv_at hl 0 rfl) ?_
        refine va_get (D := (dC, dI)) (ci := 4) (v := .ref aT_tellers) (C := RX4) (T := TX4) (N := 3) hx hb hts iX4 hown hK hP 0 rfl rfl 0 (by decide) hw2 (fun _ h9 => h9) rfl dX4_keep_34 ?_
        refine lv_aload_n hx hb dX4_keep_37 rfl (lv_at hl 0 rfl) ?_
        refine va_get (D := (dC, dI)) (ci := 4) (v := .int T_length) (C := RX4) (T := TX4) (N := 3) hx hb hts iX4 hown hK hP 0 rfl rfl 2 (by decide) hw1 (fun _ h9 => h9) rfl dX4_keep_38 ?_
        refine lv_iload_n hx hb dX4_keep_41 rfl (lv_at hl 1 rfl) ?_
        obtain ⟨hi1, hf⟩ := sw_ix_s hf
        refine va_iast hx hb hK hP hD hS 1 0 rfl rfl hi1 dX4_keep_42 (fun H locs hP hD hS => ?_)
        have hP : va_P (dC, dI) vwCl [(aT, .inr (4, [.ref aT_tellers, .ref aT_heard, .int T_length])), (aT_tellers, .inl (cI, 4, .inl (upd T_tellers T_length.toNatClampNeg l1))), (aT_heard, .inl (cI, 4, .inl T_heard))] H := hP
        have hD : va_D A [(aT, .inr (4, [.ref aT_tellers, .ref aT_heard, .int T_length])), (aT_tellers, .inl (cI, 4, .inl (upd T_tellers T_length.toNatClampNeg l1))), (aT_heard, .inl (cI, 4, .inl T_heard))] := hD
        refine lv_aload_n hx hb dX4_keep_43 rfl (lv_at hl 0 rfl) ?_
        refine va_get (D := (dC, dI)) (ci := 4) (v := .ref aT_heard) (C := RX4) (T := TX4) (N := 3) hx hb hts iX4 hown hK hP 0 rfl rfl 1 (by decide) hw3 (fun _ h9 => h9) rfl dX4_keep_44 ?_
        refine lv_aload_n hx hb dX4_keep_47 rfl (lv_at hl 0 rfl) ?_
        refine va_get (D := (dC, dI)) (ci := 4) (v := .int T_length) (C := RX4) (T := TX4) (N := 3) hx hb hts iX4 hown hK hP 0 rfl rfl 2 (by decide) hw1 (fun _ h9 => h9) rfl dX4_keep_48 ?_
        refine lv_iload_n hx hb dX4_keep_51 rfl (lv_at hl 2 rfl) ?_
        obtain ⟨hi2, hf⟩ := sw_ix_s hf
        refine va_iast hx hb hK hP hD hS 2 0 rfl rfl hi2 dX4_keep_52 (fun H locs hP hD hS => ?_)
        have hP : va_P (dC, dI) vwCl [(aT, .inr (4, [.ref aT_tellers, .ref aT_heard, .int T_length])), (aT_tellers, .inl (cI, 4, .inl (upd T_tellers T_length.toNatClampNeg l1))), (aT_heard, .inl (cI, 4, .inl (upd T_heard T_length.toNatClampNeg l2)))] H := hP
        have hD : va_D A [(aT, .inr (4, [.ref aT_tellers, .ref aT_heard, .int T_length])), (aT_tellers, .inl (cI, 4, .inl (upd T_tellers T_length.toNatClampNeg l1))), (aT_heard, .inl (cI, 4, .inl (upd T_heard T_length.toNatClampNeg l2)))] := hD
        refine lv_aload_n hx hb dX4_keep_53 rfl (lv_at hl 0 rfl) ?_
        refine lv_dup hx hb dX4_keep_54 rfl ?_
        refine va_get (D := (dC, dI)) (ci := 4) (v := .int T_length) (C := RX4) (T := TX4) (N := 3) hx hb hts iX4 hown hK hP 0 rfl rfl 2 (by decide) hw1 (fun _ h9 => h9) rfl dX4_keep_55 ?_
        refine lv_iconst (v := 1) hx hb dX4_keep_58 (by decide) ?_
        refine lv_iadd hx hb dX4_keep_59 ?_
        refine va_put (D := (dC, dI)) (ci := 4) (v := .int (T_length + (1 : Int32))) (ty := .int) (C := RX4) (T := TX4) (N := 3) hx hb hts iX4 tyX4 tyX4_ok nmX4 hown hK hP hD hS 0 rfl rfl 2 (by decide) hw1 (fun _ h9 => h9) rfl (by decide +kernel) rfl rfl (Nat.le_of_ble_eq_true rfl) dX4_keep_60 (fun H locs hP hD hS => ?_)
        have hP : va_P (dC, dI) vwCl [(aT, .inr (4, [.ref aT_tellers, .ref aT_heard, .int (T_length + (1 : Int32))])), (aT_tellers, .inl (cI, 4, .inl (upd T_tellers T_length.toNatClampNeg l1))), (aT_heard, .inl (cI, 4, .inl (upd T_heard T_length.toNatClampNeg l2)))] H := hP
        have hD : va_D A [(aT, .inr (4, [.ref aT_tellers, .ref aT_heard, .int (T_length + (1 : Int32))])), (aT_tellers, .inl (cI, 4, .inl (upd T_tellers T_length.toNatClampNeg l1))), (aT_heard, .inl (cI, 4, .inl (upd T_heard T_length.toNatClampNeg l2)))] := hD
        refine lv_iconst (v := 1) hx hb dX4_keep_63 (by decide) ?_
        subst hQ hAe
        cases hf
        exact W.zret hx hb hr rfl (fun t ht hW => ⟨⟨_, (), rfl, rfl, ⟨by rw [ht]; exact hP, va_K.moved hW.alike hK, hD⟩⟩, hS.F ht⟩) hS.2.2 dX4_keep_64 hlocks
      · have hf := sw_in c3 hf
        refine lv_iconst (v := 0) hx hb dX4_keep_31 (by decide) ?_
        subst hQ hAe
        cases hf
        exact W.zret hx hb hr rfl (fun t ht hW => ⟨⟨_, (), rfl, rfl, ⟨by rw [ht]; exact hP, va_K.moved hW.alike hK, hD⟩⟩, hS.F ht⟩) hS.2.2 dX4_keep_32 hlocks
abbrev rm_X4_clear : Room := { frames := 0, cells := 0, slots := 0, locals := 0 }
set_option maxHeartbeats 1000000 in
set_option maxRecDepth 100000 in
theorem k_X4_clear (l : Launch) (dC : Nat → ClassId) (dI : Nat → Nat → Nat) (cI cZ : ClassId) (t0 : Nat) (sz : Nat) (aT aT_tellers aT_heard : Nat) (T_length : Int32) (rv : Int32) (T_length' : Int32) (hf : F_X4_clear T_length = some (rv, T_length')) : Met l yX4_clear wsX4_clear rm_X4_clear (sw_PW (dC, dI) t0 [(cI, .int), (cZ, .boolean)] [.ref aT] [(aT, .inr (4, [.ref aT_tellers, .ref aT_heard, .int T_length]))] sz) (va_Qi (fun r (_ : Unit) => r = rv) (fun _ t => sw_B (dC, dI) [(cI, .int), (cZ, .boolean)] [(aT, .inr (4, [.ref aT_tellers, .ref aT_heard, .int T_length']))] (va_A [(aT, .inr (4, [.ref aT_tellers, .ref aT_heard, .int T_length]))] sz) t) (va_A [(aT, .inr (4, [.ref aT_tellers, .ref aT_heard, .int T_length]))] sz)) 0 0 (va_A [(aT, .inr (4, [.ref aT_tellers, .ref aT_heard, .int T_length]))] sz) := by
  refine sw_metW (cc := cX4_clear) (maxL := 2) (ret := (some .int)) (lv := [(0, .ref aT)]) (by decide) rfl (Nat.le_of_ble_eq_true rfl) rfl ?_
  intro p e s m below meth c Q A hsz hAe hQ hx hb hr hts hown hlocks hml hmn hP hK hD hE hS hA ls hl
  have hS0 := hS
  have hown : s.vm.findClass RX4 = some m.cls := hown
  have hf := (F_X4_clear.eq_1 _).symm.trans hf
  have hw1 := hts (.fieldLink RX4 16 "SwallowedInTurn$Talk" "length" "I") (List.mem_of_getElem? (i := 1) (by decide +kernel))
  have iX4 : ∀ w ∈ u_ws RX4 TX4 3, w ∈ wsX4_clear := by decide +kernel
  obtain ⟨H, hH⟩ : ∃ H, H = s.heap := ⟨_, rfl⟩
  obtain ⟨locs, hlo⟩ : ∃ locs : List Loc, locs = [] := ⟨_, rfl⟩
  rw [← hH] at hP
  have hS : va_S A s.heap H locs := by rw [hH, hlo]; exact hS0
  suffices hgo : W p l e rm_X4_clear s m ([.ref aT] : List Value).toArray below meth c H locs 0 0 Q (F0 m 0 ls []) by rw [hH, hlo] at hgo; exact hgo
  refine lv_aload_n hx hb dX4_clear_0 rfl (lv_at hl 0 rfl) ?_
  refine va_get (D := (dC, dI)) (ci := 4) (v := .int T_length) (C := RX4) (T := TX4) (N := 3) hx hb hts iX4 hown hK hP 0 rfl rfl 2 (by decide) hw1 (fun _ h9 => h9) rfl dX4_clear_1 ?_
  refine lv_istore_n (lv' := [(1, .int T_length), (0, .ref aT)]) hx hb dX4_clear_4 rfl hl (by decide) rfl (fun ls hl => ?_)
  refine lv_aload_n hx hb dX4_clear_5 rfl (lv_at hl 1 rfl) ?_
  refine lv_iconst (v := 0) hx hb dX4_clear_6 (by decide) ?_
  refine va_put (D := (dC, dI)) (ci := 4) (v := .int (0 : Int32)) (ty := .int) (C := RX4) (T := TX4) (N := 3) hx hb hts iX4 tyX4 tyX4_ok nmX4 hown hK hP hD hS 0 rfl rfl 2 (by decide) hw1 (fun _ h9 => h9) rfl (by decide +kernel) rfl rfl (Nat.le_of_ble_eq_true rfl) dX4_clear_7 (fun H locs hP hD hS => ?_)
  have hP : va_P (dC, dI) vwCl [(aT, .inr (4, [.ref aT_tellers, .ref aT_heard, .int (0 : Int32)]))] H := hP
  have hD : va_D A [(aT, .inr (4, [.ref aT_tellers, .ref aT_heard, .int (0 : Int32)]))] := hD
  refine lv_iload_n hx hb dX4_clear_10 rfl (lv_at hl 0 rfl) ?_
  subst hQ hAe
  cases hf
  exact W.iret hx hb hr (fun t ht hW => ⟨⟨_, (), rfl, rfl, ⟨by rw [ht]; exact hP, va_K.moved hW.alike hK, hD⟩⟩, hS.F ht⟩) hS.2.2 dX4_clear_11 hlocks
abbrev rm_X4_copy : Room := { frames := 0, cells := 0, slots := 0, locals := 0 }
set_option maxHeartbeats 1000000 in
set_option maxRecDepth 100000 in
theorem k_X4_copy (l : Launch) (dC : Nat → ClassId) (dI : Nat → Nat → Nat) (cI cZ : ClassId) (t0 : Nat) (sz : Nat) (aT aT_tellers aT_heard aU aU_tellers aU_heard : Nat) (T_length : Int32) (T_tellers : Nat → Int32) (T_heard : Nat → Int32) (U_length : Int32) (U_tellers : Nat → Int32) (U_heard : Nat → Int32) (T_length' : Int32) (T_tellers' : Nat → Int32) (T_heard' : Nat → Int32) (hf : F_X4_copy T_length T_tellers T_heard U_length U_tellers U_heard = some (T_length', T_tellers', T_heard')) : Met l yX4_copy wsX4_copy rm_X4_copy (sw_PW (dC, dI) t0 [(cI, .int), (cZ, .boolean)] [.ref aT, .ref aU] [(aT, .inr (4, [.ref aT_tellers, .ref aT_heard, .int T_length])), (aT_tellers, .inl (cI, 4, .inl T_tellers)), (aT_heard, .inl (cI, 4, .inl T_heard)), (aU, .inr (4, [.ref aU_tellers, .ref aU_heard, .int U_length])), (aU_tellers, .inl (cI, 4, .inl U_tellers)), (aU_heard, .inl (cI, 4, .inl U_heard))] sz) (va_Qv (fun (_ : Unit) => True) (fun _ t => sw_B (dC, dI) [(cI, .int), (cZ, .boolean)] [(aT, .inr (4, [.ref aT_tellers, .ref aT_heard, .int T_length'])), (aT_tellers, .inl (cI, 4, .inl T_tellers')), (aT_heard, .inl (cI, 4, .inl T_heard')), (aU, .inr (4, [.ref aU_tellers, .ref aU_heard, .int U_length])), (aU_tellers, .inl (cI, 4, .inl U_tellers)), (aU_heard, .inl (cI, 4, .inl U_heard))] (va_A [(aT, .inr (4, [.ref aT_tellers, .ref aT_heard, .int T_length])), (aT_tellers, .inl (cI, 4, .inl T_tellers)), (aT_heard, .inl (cI, 4, .inl T_heard)), (aU, .inr (4, [.ref aU_tellers, .ref aU_heard, .int U_length])), (aU_tellers, .inl (cI, 4, .inl U_tellers)), (aU_heard, .inl (cI, 4, .inl U_heard))] sz) t) (va_A [(aT, .inr (4, [.ref aT_tellers, .ref aT_heard, .int T_length])), (aT_tellers, .inl (cI, 4, .inl T_tellers)), (aT_heard, .inl (cI, 4, .inl T_heard)), (aU, .inr (4, [.ref aU_tellers, .ref aU_heard, .int U_length])), (aU_tellers, .inl (cI, 4, .inl U_tellers)), (aU_heard, .inl (cI, 4, .inl U_heard))] sz)) 0 0 (va_A [(aT, .inr (4, [.ref aT_tellers, .ref aT_heard, .int T_length])), (aT_tellers, .inl (cI, 4, .inl T_tellers)), (aT_heard, .inl (cI, 4, .inl T_heard)), (aU, .inr (4, [.ref aU_tellers, .ref aU_heard, .int U_length])), (aU_tellers, .inl (cI, 4, .inl U_tellers)), (aU_heard, .inl (cI, 4, .inl U_heard))] sz) := by
  refine sw_metW (cc := cX4_copy) (maxL := 3) (ret := none) (lv := [(0, .ref aT), (1, .ref aU)]) (by decide) rfl (Nat.le_of_ble_eq_true rfl) rfl ?_
  intro p e s m below meth c Q A hsz hAe hQ hx hb hr hts hown hlocks hml hmn hP hK hD hE hS hA ls hl
  have hS0 := hS
  have hown : s.vm.findClass RX4 = some m.cls := hown
  have hf := (F_X4_copy.eq_1 _ _ _ _ _ _).symm.trans hf
  have hw3 := hts (.fieldLink RX4 16 "SwallowedInTurn$Talk" "length" "I") (List.mem_of_getElem? (i := 3) (by decide +kernel))
  have iX4 : ∀ w ∈ u_ws RX4 TX4 3, w ∈ wsX4_copy := by decide +kernel
  have hw2 := hts (.fieldLink RX4 13 "SwallowedInTurn$Talk" "heard" "[I") (List.mem_of_getElem? (i := 2) (by decide +kernel))
  have hw1 := hts (.fieldLink RX4 7 "SwallowedInTurn$Talk" "tellers" "[I") (List.mem_of_getElem? (i := 1) (by decide +kernel))
  have hf0 := hf
  clear hf
  have hP0 := hP
  have hD0 := hD
  clear hP hD hS
  have hl0 := hl
  clear hl
  have hB_76 : ∀ (T_tellers : Nat → Int32) (T_heard : Nat → Int32), F_X4_copy_76 T_tellers T_heard U_length = some (T_length', T_tellers', T_heard') → ∀ (H : Heap) (locs : List Loc), va_P (dC, dI) vwCl [(aT, .inr (4, [.ref aT_tellers, .ref aT_heard, .int T_length])), (aT_tellers, .inl (cI, 4, .inl T_tellers)), (aT_heard, .inl (cI, 4, .inl T_heard)), (aU, .inr (4, [.ref aU_tellers, .ref aU_heard, .int U_length])), (aU_tellers, .inl (cI, 4, .inl U_tellers)), (aU_heard, .inl (cI, 4, .inl U_heard))] H → va_D A [(aT, .inr (4, [.ref aT_tellers, .ref aT_heard, .int T_length])), (aT_tellers, .inl (cI, 4, .inl T_tellers)), (aT_heard, .inl (cI, 4, .inl T_heard)), (aU, .inr (4, [.ref aU_tellers, .ref aU_heard, .int U_length])), (aU_tellers, .inl (cI, 4, .inl U_tellers)), (aU_heard, .inl (cI, 4, .inl U_heard))] → va_S A s.heap H locs → ∀ ls : Array Slot, lv_has ls 3 [(0, .ref aT), (1, .ref aU)] → W p l e rm_X4_copy s m ([.ref aT, .ref aU] : List Value).toArray below meth c H locs 0 0 Q (F0 m 76 ls []) := by
    intro T_tellers T_heard  hf H locs hP hD hS ls hl
    have hf := (F_X4_copy_76.eq_1 _ _ _).symm.trans hf
    refine lv_aload_n hx hb dX4_copy_76 rfl (lv_at hl 0 rfl) ?_
    refine lv_aload_n hx hb dX4_copy_77 rfl (lv_at hl 1 rfl) ?_
    refine va_get (D := (dC, dI)) (ci := 4) (v := .int U_length) (C := RX4) (T := TX4) (N := 3) hx hb hts iX4 hown hK hP 3 rfl rfl 2 (by decide) hw3 (fun _ h9 => h9) rfl dX4_copy_78 ?_
    refine va_put (D := (dC, dI)) (ci := 4) (v := .int U_length) (ty := .int) (C := RX4) (T := TX4) (N := 3) hx hb hts iX4 tyX4 tyX4_ok nmX4 hown hK hP hD hS 0 rfl rfl 2 (by decide) hw3 (fun _ h9 => h9) rfl (by decide +kernel) rfl rfl (Nat.le_of_ble_eq_true rfl) dX4_copy_81 (fun H locs hP hD hS => ?_)
    have hP : va_P (dC, dI) vwCl [(aT, .inr (4, [.ref aT_tellers, .ref aT_heard, .int U_length])), (aT_tellers, .inl (cI, 4, .inl T_tellers)), (aT_heard, .inl (cI, 4, .inl T_heard)), (aU, .inr (4, [.ref aU_tellers, .ref aU_heard, .int U_length])), (aU_tellers, .inl (cI, 4, .inl U_tellers)), (aU_heard, .inl (cI, 4, .inl U_heard))] H := hP
    have hD : va_D A [(aT, .inr (4, [.ref aT_tellers, .ref aT_heard, .int U_length])), (aT_tellers, .inl (cI, 4, .inl T_tellers)), (aT_heard, .inl (cI, 4, .inl T_heard)), (aU, .inr (4, [.ref aU_tellers, .ref aU_heard, .int U_length])), (aU_tellers, .inl (cI, 4, .inl U_tellers)), (aU_heard, .inl (cI, 4, .inl U_heard))] := hD
    subst hQ hAe
    cases hf
    exact W.vret hx hb hr (fun t ht hW => ⟨⟨(), rfl, trivial, ⟨by rw [ht]; exact hP, va_K.moved hW.alike hK, hD⟩⟩, hS.F ht⟩) hS.2.2 dX4_copy_84 hlocks
  have hB_40 : ∀ (T_tellers : Nat → Int32), ∀ (fu : Nat) (T_heard : Nat → Int32) (l2 : Int32), F_X4_copy_40 T_tellers U_length U_heard fu T_heard l2 = some (T_length', T_tellers', T_heard') → ∀ (H : Heap) (locs : List Loc), va_P (dC, dI) vwCl [(aT, .inr (4, [.ref aT_tellers, .ref aT_heard, .int T_length])), (aT_tellers, .inl (cI, 4, .inl T_tellers)), (aT_heard, .inl (cI, 4, .inl T_heard)), (aU, .inr (4, [.ref aU_tellers, .ref aU_heard, .int U_length])), (aU_tellers, .inl (cI, 4, .inl U_tellers)), (aU_heard, .inl (cI, 4, .inl U_heard))] H → va_D A [(aT, .inr (4, [.ref aT_tellers, .ref aT_heard, .int T_length])), (aT_tellers, .inl (cI, 4, .inl T_tellers)), (aT_heard, .inl (cI, 4, .inl T_heard)), (aU, .inr (4, [.ref aU_tellers, .ref aU_heard, .int U_length])), (aU_tellers, .inl (cI, 4, .inl U_tellers)), (aU_heard, .inl (cI, 4, .inl U_heard))] → va_S A s.heap H locs → ∀ ls : Array Slot, lv_has ls 3 [(0, .ref aT), (1, .ref aU), (2, .int l2)] → W p l e rm_X4_copy s m ([.ref aT, .ref aU] : List Value).toArray below meth c H locs 0 0 Q (F0 m 40 ls []) := by
    intro T_tellers  fu
    induction fu with
    | zero =>
      intro T_heard l2 hf
      exact nomatch (show (none : Option (Int32 × (Nat → Int32) × (Nat → Int32))) = some (T_length', T_tellers', T_heard') from hf)
    | succ fu ih =>
      intro T_heard l2 hf H locs hP hD hS ls hl
      have hf := (F_X4_copy_40.eq_2 _ _ _ _ _ _).symm.trans hf
      refine lv_iload_n hx hb dX4_copy_40 rfl (lv_at hl 2 rfl) ?_
      refine lv_aload_n hx hb dX4_copy_41 rfl (lv_at hl 0 rfl) ?_
      refine va_get (D := (dC, dI)) (ci := 4) (v := .ref aT_heard) (C := RX4) (T := TX4) (N := 3) hx hb hts iX4 hown hK hP 0 rfl rfl 1 (by decide) hw2 (fun _ h9 => h9) rfl dX4_copy_42 ?_
      refine va_alen hx hb hK hP 2 0 rfl rfl (v := 4) (show Int32.ofNat 4 = 4 by decide +kernel) dX4_copy_45 ?_
      refine lv_icmp_ge (tgt := 76) hx hb dX4_copy_46 (by decide) (fun c1 => ?_) (fun c1 => ?_)
      · have hf := sw_ip c1 hf
        exact hB_76 T_tellers T_heard  hf H locs hP hD hS ls (lv_sub hl [0, 1] rfl)
      · have hf := sw_in c1 hf
        refine lv_iload_n hx hb dX4_copy_49 rfl (lv_at hl 2 rfl) ?_
        refine lv_aload_n hx hb dX4_copy_50 rfl (lv_at hl 1 rfl) ?_
        refine va_get (D := (dC, dI)) (ci := 4) (v := .ref aU_heard) (C := RX4) (T := TX4) (N := 3) hx hb hts iX4 hown hK hP 3 rfl rfl 1 (by decide) hw2 (fun _ h9 => h9) rfl dX4_copy_51 ?_
        refine va_alen hx hb hK hP 5 0 rfl rfl (v := 4) (show Int32.ofNat 4 = 4 by decide +kernel) dX4_copy_54 ?_
        refine lv_icmp_ge (tgt := 76) hx hb dX4_copy_55 (by decide) (fun c2 => ?_) (fun c2 => ?_)
        · have hf := sw_ip c2 hf
          exact hB_76 T_tellers T_heard  hf H locs hP hD hS ls (lv_sub hl [0, 1] rfl)
        · have hf := sw_in c2 hf
          refine lv_aload_n hx hb dX4_copy_58 rfl (lv_at hl 0 rfl) ?_
          refine va_get (D := (dC, dI)) (ci := 4) (v := .ref aT_heard) (C := RX4) (T := TX4) (N := 3) hx hb hts iX4 hown hK hP 0 rfl rfl 1 (by decide) hw2 (fun _ h9 => h9) rfl dX4_copy_59 ?_
          refine lv_iload_n hx hb dX4_copy_62 rfl (lv_at hl 2 rfl) ?_
          refine lv_aload_n hx hb dX4_copy_63 rfl (lv_at hl 1 rfl) ?_
          refine va_get (D := (dC, dI)) (ci := 4) (v := .ref aU_heard) (C := RX4) (T := TX4) (N := 3) hx hb hts iX4 hown hK hP 3 rfl rfl 1 (by decide) hw2 (fun _ h9 => h9) rfl dX4_copy_64 ?_
          refine lv_iload_n hx hb dX4_copy_67 rfl (lv_at hl 2 rfl) ?_
          obtain ⟨hi1, hf⟩ := sw_ix_s hf
          refine va_iald hx hb hK hP 5 0 rfl rfl hi1 dX4_copy_68 ?_
          obtain ⟨hi2, hf⟩ := sw_ix_s hf
          refine va_iast hx hb hK hP hD hS 2 0 rfl rfl hi2 dX4_copy_69 (fun H locs hP hD hS => ?_)
          have hP : va_P (dC, dI) vwCl [(aT, .inr (4, [.ref aT_tellers, .ref aT_heard, .int T_length])), (aT_tellers, .inl (cI, 4, .inl T_tellers)), (aT_heard, .inl (cI, 4, .inl (upd T_heard l2.toNatClampNeg (U_heard l2.toNatClampNeg)))), (aU, .inr (4, [.ref aU_tellers, .ref aU_heard, .int U_length])), (aU_tellers, .inl (cI, 4, .inl U_tellers)), (aU_heard, .inl (cI, 4, .inl U_heard))] H := hP
          have hD : va_D A [(aT, .inr (4, [.ref aT_tellers, .ref aT_heard, .int T_length])), (aT_tellers, .inl (cI, 4, .inl T_tellers)), (aT_heard, .inl (cI, 4, .inl (upd T_heard l2.toNatClampNeg (U_heard l2.toNatClampNeg)))), (aU, .inr (4, [.ref aU_tellers, .ref aU_heard, .int U_length])), (aU_tellers, .inl (cI, 4, .inl U_tellers)), (aU_heard, .inl (cI, 4, .inl U_heard))] := hD
          refine lv_iinc (v := l2 + (1 : Int32)) (lv' := [(2, .int (l2 + (1 : Int32))), (0, .ref aT), (1, .ref aU)]) hx hb dX4_copy_70 hl (k := 2) rfl (sw_ii _) (by decide) rfl (fun ls hl => ?_)
          refine lv_goto (tgt := 40) hx hb dX4_copy_73 (by decide) ?_
          exact ih (upd T_heard l2.toNatClampNeg (U_heard l2.toNatClampNeg)) (l2 + (1 : Int32)) hf H locs hP hD hS ls (lv_sub hl [1, 2, 0] rfl)
  have hB_2 : ∀ (T_heard : Nat → Int32), ∀ (fu : Nat) (T_tellers : Nat → Int32) (l2 : Int32), F_X4_copy_2 T_heard U_length U_tellers U_heard fu T_tellers l2 = some (T_length', T_tellers', T_heard') → ∀ (H : Heap) (locs : List Loc), va_P (dC, dI) vwCl [(aT, .inr (4, [.ref aT_tellers, .ref aT_heard, .int T_length])), (aT_tellers, .inl (cI, 4, .inl T_tellers)), (aT_heard, .inl (cI, 4, .inl T_heard)), (aU, .inr (4, [.ref aU_tellers, .ref aU_heard, .int U_length])), (aU_tellers, .inl (cI, 4, .inl U_tellers)), (aU_heard, .inl (cI, 4, .inl U_heard))] H → va_D A [(aT, .inr (4, [.ref aT_tellers, .ref aT_heard, .int T_length])), (aT_tellers, .inl (cI, 4, .inl T_tellers)), (aT_heard, .inl (cI, 4, .inl T_heard)), (aU, .inr (4, [.ref aU_tellers, .ref aU_heard, .int U_length])), (aU_tellers, .inl (cI, 4, .inl U_tellers)), (aU_heard, .inl (cI, 4, .inl U_heard))] → va_S A s.heap H locs → ∀ ls : Array Slot, lv_has ls 3 [(0, .ref aT), (1, .ref aU), (2, .int l2)] → W p l e rm_X4_copy s m ([.ref aT, .ref aU] : List Value).toArray below meth c H locs 0 0 Q (F0 m 2 ls []) := by
    intro T_heard  fu
    induction fu with
    | zero =>
      intro T_tellers l2 hf
      exact nomatch (show (none : Option (Int32 × (Nat → Int32) × (Nat → Int32))) = some (T_length', T_tellers', T_heard') from hf)
    | succ fu ih =>
      intro T_tellers l2 hf H locs hP hD hS ls hl
      have hf := (F_X4_copy_2.eq_2 _ _ _ _ _ _ _).symm.trans hf
      refine lv_iload_n hx hb dX4_copy_2 rfl (lv_at hl 2 rfl) ?_
      refine lv_aload_n hx hb dX4_copy_3 rfl (lv_at hl 0 rfl) ?_
      refine va_get (D := (dC, dI)) (ci := 4) (v := .ref aT_tellers) (C := RX4) (T := TX4) (N := 3) hx hb hts iX4 hown hK hP 0 rfl rfl 0 (by decide) hw1 (fun _ h9 => h9) rfl dX4_copy_4 ?_
      refine va_alen hx hb hK hP 1 0 rfl rfl (v := 4) (show Int32.ofNat 4 = 4 by decide +kernel) dX4_copy_7 ?_
      refine lv_icmp_ge (tgt := 38) hx hb dX4_copy_8 (by decide) (fun c3 => ?_) (fun c3 => ?_)
      · have hf := sw_ip c3 hf
        refine lv_iconst (v := 0) hx hb dX4_copy_38 (by decide) ?_
        refine lv_istore_n (lv' := [(2, .int (0 : Int32)), (0, .ref aT), (1, .ref aU)]) hx hb dX4_copy_39 rfl hl (by decide) rfl (fun ls hl => ?_)
        exact hB_40 T_tellers  sw_fu T_heard (0 : Int32) hf H locs hP hD hS ls (lv_sub hl [1, 2, 0] rfl)
      · have hf := sw_in c3 hf
        refine lv_iload_n hx hb dX4_copy_11 rfl (lv_at hl 2 rfl) ?_
        refine lv_aload_n hx hb dX4_copy_12 rfl (lv_at hl 1 rfl) ?_
        refine va_get (D := (dC, dI)) (ci := 4) (v := .ref aU_tellers) (C := RX4) (T := TX4) (N := 3) hx hb hts iX4 hown hK hP 3 rfl rfl 0 (by decide) hw1 (fun _ h9 => h9) rfl dX4_copy_13 ?_
        refine va_alen hx hb hK hP 4 0 rfl rfl (v := 4) (show Int32.ofNat 4 = 4 by decide +kernel) dX4_copy_16 ?_
        refine lv_icmp_ge (tgt := 38) hx hb dX4_copy_17 (by decide) (fun c4 => ?_) (fun c4 => ?_)
        · have hf := sw_ip c4 hf
          refine lv_iconst (v := 0) hx hb dX4_copy_38 (by decide) ?_
          refine lv_istore_n (lv' := [(2, .int (0 : Int32)), (0, .ref aT), (1, .ref aU)]) hx hb dX4_copy_39 rfl hl (by decide) rfl (fun ls hl => ?_)
          exact hB_40 T_tellers  sw_fu T_heard (0 : Int32) hf H locs hP hD hS ls (lv_sub hl [1, 2, 0] rfl)
        · have hf := sw_in c4 hf
          refine lv_aload_n hx hb dX4_copy_20 rfl (lv_at hl 0 rfl) ?_
          refine va_get (D := (dC, dI)) (ci := 4) (v := .ref aT_tellers) (C := RX4) (T := TX4) (N := 3) hx hb hts iX4 hown hK hP 0 rfl rfl 0 (by decide) hw1 (fun _ h9 => h9) rfl dX4_copy_21 ?_
          refine lv_iload_n hx hb dX4_copy_24 rfl (lv_at hl 2 rfl) ?_
          refine lv_aload_n hx hb dX4_copy_25 rfl (lv_at hl 1 rfl) ?_
          refine va_get (D := (dC, dI)) (ci := 4) (v := .ref aU_tellers) (C := RX4) (T := TX4) (N := 3) hx hb hts iX4 hown hK hP 3 rfl rfl 0 (by decide) hw1 (fun _ h9 => h9) rfl dX4_copy_26 ?_
          refine lv_iload_n hx hb dX4_copy_29 rfl (lv_at hl 2 rfl) ?_
          obtain ⟨hi3, hf⟩ := sw_ix_s hf
          refine va_iald hx hb hK hP 4 0 rfl rfl hi3 dX4_copy_30 ?_
          obtain ⟨hi4, hf⟩ := sw_ix_s hf
          refine va_iast hx hb hK hP hD hS 1 0 rfl rfl hi4 dX4_copy_31 (fun H locs hP hD hS => ?_)
          have hP : va_P (dC, dI) vwCl [(aT, .inr (4, [.ref aT_tellers, .ref aT_heard, .int T_length])), (aT_tellers, .inl (cI, 4, .inl (upd T_tellers l2.toNatClampNeg (U_tellers l2.toNatClampNeg)))), (aT_heard, .inl (cI, 4, .inl T_heard)), (aU, .inr (4, [.ref aU_tellers, .ref aU_heard, .int U_length])), (aU_tellers, .inl (cI, 4, .inl U_tellers)), (aU_heard, .inl (cI, 4, .inl U_heard))] H := hP
          have hD : va_D A [(aT, .inr (4, [.ref aT_tellers, .ref aT_heard, .int T_length])), (aT_tellers, .inl (cI, 4, .inl (upd T_tellers l2.toNatClampNeg (U_tellers l2.toNatClampNeg)))), (aT_heard, .inl (cI, 4, .inl T_heard)), (aU, .inr (4, [.ref aU_tellers, .ref aU_heard, .int U_length])), (aU_tellers, .inl (cI, 4, .inl U_tellers)), (aU_heard, .inl (cI, 4, .inl U_heard))] := hD
          refine lv_iinc (v := l2 + (1 : Int32)) (lv' := [(2, .int (l2 + (1 : Int32))), (0, .ref aT), (1, .ref aU)]) hx hb dX4_copy_32 hl (k := 2) rfl (sw_ii _) (by decide) rfl (fun ls hl => ?_)
          refine lv_goto (tgt := 2) hx hb dX4_copy_35 (by decide) ?_
          exact ih (upd T_tellers l2.toNatClampNeg (U_tellers l2.toNatClampNeg)) (l2 + (1 : Int32)) hf H locs hP hD hS ls (lv_sub hl [1, 2, 0] rfl)
  have hf := hf0
  have hl := hl0
  have hP := hP0
  have hD := hD0
  have hS := hS0
  obtain ⟨H, hH⟩ : ∃ H, H = s.heap := ⟨_, rfl⟩
  obtain ⟨locs, hlo⟩ : ∃ locs : List Loc, locs = [] := ⟨_, rfl⟩
  rw [← hH] at hP
  have hS : va_S A s.heap H locs := by rw [hH, hlo]; exact hS0
  suffices hgo : W p l e rm_X4_copy s m ([.ref aT, .ref aU] : List Value).toArray below meth c H locs 0 0 Q (F0 m 0 ls []) by rw [hH, hlo] at hgo; exact hgo
  refine lv_iconst (v := 0) hx hb dX4_copy_0 (by decide) ?_
  refine lv_istore_n (lv' := [(2, .int (0 : Int32)), (0, .ref aT), (1, .ref aU)]) hx hb dX4_copy_1 rfl hl (by decide) rfl (fun ls hl => ?_)
  exact hB_2 T_heard  sw_fu T_tellers (0 : Int32) hf H locs hP hD hS ls (lv_sub hl [1, 2, 0] rfl)
