abbrev rm_X1_canSwallow : Room := { frames := 2, cells := 0, slots := 0, locals := 46 }
set_option maxHeartbeats 1000000 in
set_option maxRecDepth 100000 in
theorem k_X1_canSwallow (l : Launch) (dC : Nat → ClassId) (dI : Nat → Nat → Nat) (cI cZ : ClassId) (t0 : Nat) (aC aC_traits aN aN_holders : Nat) (C_total : Int32) (C_traits : Nat → Int32) (N_holders : Nat → Int32) (l1 : Int32) (l2 : Int32) (rv : Int32)  (hf : F_X1_canSwallow C_total C_traits N_holders l1 l2 = some (rv)) : Met l yX1_canSwallow wsX1_canSwallow rm_X1_canSwallow (sw_PR (dC, dI) t0 [(cI, .int), (cZ, .boolean)] [.ref aN, .int l1, .int l2] [(aC, .inr (0, [.ref aC_traits, .int C_total])), (aC_traits, .inl (cI, 20, .inl C_traits)), (aN, .inr (1, [.ref aC, .ref aN_holders])), (aN_holders, .inl (cI, 5, .inl N_holders))]) (vp_Si (fun r => r = rv)) 0 0 (fun _ => False) := by
  refine sw_metR (cc := cX1_canSwallow) (maxL := 5) (ret := (some .boolean)) (lv := [(0, .ref aN), (1, .int l1), (2, .int l2)]) (by decide) rfl (Nat.le_of_ble_eq_true rfl) rfl ?_
  intro p e s m below meth c Q hQ hx hb hr hts hown hlocks hml hP hK hE hS ls hl
  have hown : s.vm.findClass RX1 = some m.cls := hown
  have hf := (F_X1_canSwallow.eq_1 _ _ _ _ _).symm.trans hf
  have hw1 := hts (.fieldLink RX1 15 "SwallowedInTurn$Nesting" "crowd" "LSwallowedInTurn$Crowd;") (List.mem_of_getElem? (i := 1) (by decide +kernel))
  have iX1 : ∀ w ∈ u_ws RX1 TX1 2, w ∈ wsX1_canSwallow := by decide +kernel
  have hf0 := hf
  clear hf
  have hl0 := hl
  clear hl
  have hB_62 : ∀ (s0 : Int32), F_X1_canSwallow_62 C_total C_traits N_holders l1 l2 s0 = some (rv) → ∀ ls : Array Slot, lv_has ls 5 [(0, .ref aN), (1, .int l1), (2, .int l2)] → W p l e rm_X1_canSwallow s m ([.ref aN, .int l1, .int l2] : List Value).toArray below meth c s.heap [] 0 0 Q (F0 m 62 ls [.int s0]) := by
    intro s0  hf ls hl
    have hf := (F_X1_canSwallow_62.eq_1 _ _ _ _ _ _).symm.trans hf
    refine lv_istore_n (lv' := [(3, .int s0), (0, .ref aN), (1, .int l1), (2, .int l2)]) hx hb dX1_canSwallow_62 rfl hl (by decide) rfl (fun ls hl => ?_)
    refine lv_iload_n hx hb dX1_canSwallow_63 rfl (lv_at hl 0 rfl) ?_
    refine lv_if_eq (tgt := 94) hx hb dX1_canSwallow_64 (by decide) (fun c1 => ?_) (fun c1 => ?_)
    · have hf := sw_ip c1 hf
      refine lv_iconst (v := 0) hx hb dX1_canSwallow_94 (by decide) ?_
      subst hQ
      exact W.zret hx hb hr rfl (fun t ht hW => ⟨_, rfl, Option.some.inj hf, ht⟩) (fun _ h => absurd h List.not_mem_nil) dX1_canSwallow_95 hlocks
    · have hf := sw_in c1 hf
      refine lv_aload_n hx hb dX1_canSwallow_67 rfl (lv_at hl 1 rfl) ?_
      refine lv_iload_n hx hb dX1_canSwallow_68 rfl (lv_at hl 2 rfl) ?_
      obtain ⟨q1, hq1, hf⟩ := sw_bs hf
      have hPc := hP.sub (ws' := [(aC, .inr (0, [.ref aC_traits, .int C_total])), (aC_traits, .inl (cI, 20, .inl C_traits)), (aN, .inr (1, [.ref aC, .ref aN_holders])), (aN_holders, .inl (cI, 5, .inl N_holders))]) [0, 1, 2, 3] rfl
      refine sw_rd (W.runV (As := [.int l1]) (rest := []) ⟨hx, hb, hml, hown, hts⟩ (k_X1_filled l dC dI cI cZ t0 aC aC_traits aN aN_holders C_total C_traits N_holders l1 q1 hq1) (cwV 1 hts gX1_canSwallow_X1_filled rfl rfl rfl (by decide +kernel) ⟨Nat.le_of_ble_eq_true rfl, Nat.le_of_ble_eq_true rfl⟩) ⟨sw_PR_bl, va_recv hK hPc (ci := 1) (q0 := 2) rfl rfl, sw_PR_pre hK hPc hE hS⟩ rfl rfl hl.1 rfl (lv_room (Nat.le_of_ble_eq_true rfl)) dX1_canSwallow_69 ⟨Nat.zero_le _, Nat.zero_le _⟩) ?_
      refine lv_aload_n hx hb dX1_canSwallow_72 rfl (lv_at hl 1 rfl) ?_
      refine va_get (D := (dC, dI)) (ci := 1) (v := .ref aC) (C := RX1) (T := TX1) (N := 2) hx hb hts iX1 hown hK hP 2 rfl rfl 0 (by decide) hw1 (fun _ h9 => h9) rfl dX1_canSwallow_73 ?_
      refine lv_iload_n hx hb dX1_canSwallow_76 rfl (lv_at hl 3 rfl) ?_
      refine lv_iconst (v := 1) hx hb dX1_canSwallow_77 (by decide) ?_
      obtain ⟨q2, hq2, hf⟩ := sw_bs hf
      have hPc := hP.sub (ws' := [(aC, .inr (0, [.ref aC_traits, .int C_total])), (aC_traits, .inl (cI, 20, .inl C_traits))]) [0, 1] rfl
      refine sw_rd (W.runV (As := [.int l2, .int (1 : Int32)]) (rest := [.int q1]) ⟨hx, hb, hml, hown, hts⟩ (k_X0_trait l dC dI cI cZ t0 aC aC_traits C_total C_traits l2 (1 : Int32) q2 hq2) (cwV 2 hts gX1_canSwallow_X0_trait rfl rfl rfl (by decide +kernel) ⟨Nat.le_of_ble_eq_true rfl, Nat.le_of_ble_eq_true rfl⟩) ⟨sw_PR_bl, va_recv hK hPc (ci := 0) (q0 := 0) rfl rfl, sw_PR_pre hK hPc hE hS⟩ rfl rfl hl.1 rfl (lv_room (Nat.le_of_ble_eq_true rfl)) dX1_canSwallow_78 ⟨Nat.zero_le _, Nat.zero_le _⟩) ?_
      refine lv_iadd hx hb dX1_canSwallow_81 ?_
      refine lv_aload_n hx hb dX1_canSwallow_82 rfl (lv_at hl 1 rfl) ?_
      refine va_get (D := (dC, dI)) (ci := 1) (v := .ref aC) (C := RX1) (T := TX1) (N := 2) hx hb hts iX1 hown hK hP 2 rfl rfl 0 (by decide) hw1 (fun _ h9 => h9) rfl dX1_canSwallow_83 ?_
      refine lv_iload_n hx hb dX1_canSwallow_86 rfl (lv_at hl 2 rfl) ?_
      refine lv_iconst (v := 2) hx hb dX1_canSwallow_87 (by decide) ?_
      obtain ⟨q3, hq3, hf⟩ := sw_bs hf
      have hPc := hP.sub (ws' := [(aC, .inr (0, [.ref aC_traits, .int C_total])), (aC_traits, .inl (cI, 20, .inl C_traits))]) [0, 1] rfl
      refine sw_rd (W.runV (As := [.int l1, .int (2 : Int32)]) (rest := [.int (q1 + q2)]) ⟨hx, hb, hml, hown, hts⟩ (k_X0_trait l dC dI cI cZ t0 aC aC_traits C_total C_traits l1 (2 : Int32) q3 hq3) (cwV 2 hts gX1_canSwallow_X0_trait rfl rfl rfl (by decide +kernel) ⟨Nat.le_of_ble_eq_true rfl, Nat.le_of_ble_eq_true rfl⟩) ⟨sw_PR_bl, va_recv hK hPc (ci := 0) (q0 := 0) rfl rfl, sw_PR_pre hK hPc hE hS⟩ rfl rfl hl.1 rfl (lv_room (Nat.le_of_ble_eq_true rfl)) dX1_canSwallow_88 ⟨Nat.zero_le _, Nat.zero_le _⟩) ?_
      refine lv_icmp_le (tgt := 96) hx hb dX1_canSwallow_91 (by decide) (fun c2 => ?_) (fun c2 => ?_)
      · have hf := sw_ip c2 hf
        refine lv_aload_n hx hb dX1_canSwallow_96 rfl (lv_at hl 1 rfl) ?_
        refine va_get (D := (dC, dI)) (ci := 1) (v := .ref aC) (C := RX1) (T := TX1) (N := 2) hx hb hts iX1 hown hK hP 2 rfl rfl 0 (by decide) hw1 (fun _ h9 => h9) rfl dX1_canSwallow_97 ?_
        refine lv_iload_n hx hb dX1_canSwallow_100 rfl (lv_at hl 3 rfl) ?_
        refine lv_iconst (v := 2) hx hb dX1_canSwallow_101 (by decide) ?_
        obtain ⟨q4, hq4, hf⟩ := sw_bs hf
        have hPc := hP.sub (ws' := [(aC, .inr (0, [.ref aC_traits, .int C_total])), (aC_traits, .inl (cI, 20, .inl C_traits))]) [0, 1] rfl
        refine sw_rd (W.runV (As := [.int l2, .int (2 : Int32)]) (rest := []) ⟨hx, hb, hml, hown, hts⟩ (k_X0_trait l dC dI cI cZ t0 aC aC_traits C_total C_traits l2 (2 : Int32) q4 hq4) (cwV 2 hts gX1_canSwallow_X0_trait rfl rfl rfl (by decide +kernel) ⟨Nat.le_of_ble_eq_true rfl, Nat.le_of_ble_eq_true rfl⟩) ⟨sw_PR_bl, va_recv hK hPc (ci := 0) (q0 := 0) rfl rfl, sw_PR_pre hK hPc hE hS⟩ rfl rfl hl.1 rfl (lv_room (Nat.le_of_ble_eq_true rfl)) dX1_canSwallow_102 ⟨Nat.zero_le _, Nat.zero_le _⟩) ?_
        refine lv_istore (lv' := [(4, .int q4), (3, .int s0), (0, .ref aN), (1, .int l1), (2, .int l2)]) hx hb dX1_canSwallow_105 hl (by decide) rfl (fun ls hl => ?_)
        refine lv_iload hx hb dX1_canSwallow_107 (lv_at hl 0 rfl) ?_
        refine lv_if_eq (tgt := 122) hx hb dX1_canSwallow_109 (by decide) (fun c3 => ?_) (fun c3 => ?_)
        · have hf := sw_ip c3 hf
          refine lv_iconst (v := 1) hx hb dX1_canSwallow_122 (by decide) ?_
          refine lv_goto (tgt := 127) hx hb dX1_canSwallow_123 (by decide) ?_
          subst hQ
          exact W.zret hx hb hr rfl (fun t ht hW => ⟨_, rfl, Option.some.inj hf, ht⟩) (fun _ h => absurd h List.not_mem_nil) dX1_canSwallow_127 hlocks
        · have hf := sw_in c3 hf
          refine lv_aload_n hx hb dX1_canSwallow_112 rfl (lv_at hl 2 rfl) ?_
          refine lv_iload_n hx hb dX1_canSwallow_113 rfl (lv_at hl 4 rfl) ?_
          obtain ⟨q5, hq5, hf⟩ := sw_bs hf
          have hPc := hP.sub (ws' := [(aC, .inr (0, [.ref aC_traits, .int C_total])), (aC_traits, .inl (cI, 20, .inl C_traits)), (aN, .inr (1, [.ref aC, .ref aN_holders])), (aN_holders, .inl (cI, 5, .inl N_holders))]) [0, 1, 2, 3] rfl
          refine sw_rd (W.runV (As := [.int l2]) (rest := []) ⟨hx, hb, hml, hown, hts⟩ (k_X1_filled l dC dI cI cZ t0 aC aC_traits aN aN_holders C_total C_traits N_holders l2 q5 hq5) (cwV 1 hts gX1_canSwallow_X1_filled rfl rfl rfl (by decide +kernel) ⟨Nat.le_of_ble_eq_true rfl, Nat.le_of_ble_eq_true rfl⟩) ⟨sw_PR_bl, va_recv hK hPc (ci := 1) (q0 := 2) rfl rfl, sw_PR_pre hK hPc hE hS⟩ rfl rfl hl.1 rfl (lv_room (Nat.le_of_ble_eq_true rfl)) dX1_canSwallow_114 ⟨Nat.zero_le _, Nat.zero_le _⟩) ?_
          refine lv_iload hx hb dX1_canSwallow_117 (lv_at hl 0 rfl) ?_
          refine lv_icmp_eq (tgt := 126) hx hb dX1_canSwallow_119 (by decide) (fun c4 => ?_) (fun c4 => ?_)
          · have hf := sw_ip c4 hf
            refine lv_iconst (v := 0) hx hb dX1_canSwallow_126 (by decide) ?_
            subst hQ
            exact W.zret hx hb hr rfl (fun t ht hW => ⟨_, rfl, Option.some.inj hf, ht⟩) (fun _ h => absurd h List.not_mem_nil) dX1_canSwallow_127 hlocks
          · have hf := sw_in c4 hf
            refine lv_iconst (v := 1) hx hb dX1_canSwallow_122 (by decide) ?_
            refine lv_goto (tgt := 127) hx hb dX1_canSwallow_123 (by decide) ?_
            subst hQ
            exact W.zret hx hb hr rfl (fun t ht hW => ⟨_, rfl, Option.some.inj hf, ht⟩) (fun _ h => absurd h List.not_mem_nil) dX1_canSwallow_127 hlocks
      · have hf := sw_in c2 hf
        refine lv_iconst (v := 0) hx hb dX1_canSwallow_94 (by decide) ?_
        subst hQ
        exact W.zret hx hb hr rfl (fun t ht hW => ⟨_, rfl, Option.some.inj hf, ht⟩) (fun _ h => absurd h List.not_mem_nil) dX1_canSwallow_95 hlocks
  have hf := hf0
  have hl := hl0
  refine lv_iload_n hx hb dX1_canSwallow_0 rfl (lv_at hl 1 rfl) ?_
  refine lv_iload_n hx hb dX1_canSwallow_1 rfl (lv_at hl 2 rfl) ?_
  refine lv_icmp_eq (tgt := 30) hx hb dX1_canSwallow_2 (by decide) (fun c5 => ?_) (fun c5 => ?_)
  · have hf := sw_ip c5 hf
    refine lv_iconst (v := 0) hx hb dX1_canSwallow_30 (by decide) ?_
    subst hQ
    exact W.zret hx hb hr rfl (fun t ht hW => ⟨_, rfl, Option.some.inj hf, ht⟩) (fun _ h => absurd h List.not_mem_nil) dX1_canSwallow_31 hlocks
  · have hf := sw_in c5 hf
    refine lv_aload_n hx hb dX1_canSwallow_5 rfl (lv_at hl 0 rfl) ?_
    refine lv_iload_n hx hb dX1_canSwallow_6 rfl (lv_at hl 1 rfl) ?_
    obtain ⟨q6, hq6, hf⟩ := sw_bs hf
    have hPc := hP.sub (ws' := [(aN, .inr (1, [.ref aC, .ref aN_holders])), (aN_holders, .inl (cI, 5, .inl N_holders))]) [2, 3] rfl
    refine sw_rd (W.runV (As := [.int l1]) (rest := []) ⟨hx, hb, hml, hown, hts⟩ (k_X1_holder l dC dI cI cZ t0 aN aC aN_holders N_holders l1 q6 hq6) (cwV 1 hts gX1_canSwallow_X1_holder rfl rfl rfl (by decide +kernel) ⟨Nat.le_of_ble_eq_true rfl, Nat.le_of_ble_eq_true rfl⟩) ⟨sw_PR_bl, va_recv hK hPc (ci := 1) (q0 := 0) rfl rfl, sw_PR_pre hK hPc hE hS⟩ rfl rfl hl.1 rfl (lv_room (Nat.le_of_ble_eq_true rfl)) dX1_canSwallow_7 ⟨Nat.zero_le _, Nat.zero_le _⟩) ?_
    refine lv_aload_n hx hb dX1_canSwallow_10 rfl (lv_at hl 0 rfl) ?_
    refine lv_iload_n hx hb dX1_canSwallow_11 rfl (lv_at hl 2 rfl) ?_
    obtain ⟨q7, hq7, hf⟩ := sw_bs hf
    have hPc := hP.sub (ws' := [(aN, .inr (1, [.ref aC, .ref aN_holders])), (aN_holders, .inl (cI, 5, .inl N_holders))]) [2, 3] rfl
    refine sw_rd (W.runV (As := [.int l2]) (rest := [.int q6]) ⟨hx, hb, hml, hown, hts⟩ (k_X1_holder l dC dI cI cZ t0 aN aC aN_holders N_holders l2 q7 hq7) (cwV 1 hts gX1_canSwallow_X1_holder rfl rfl rfl (by decide +kernel) ⟨Nat.le_of_ble_eq_true rfl, Nat.le_of_ble_eq_true rfl⟩) ⟨sw_PR_bl, va_recv hK hPc (ci := 1) (q0 := 0) rfl rfl, sw_PR_pre hK hPc hE hS⟩ rfl rfl hl.1 rfl (lv_room (Nat.le_of_ble_eq_true rfl)) dX1_canSwallow_12 ⟨Nat.zero_le _, Nat.zero_le _⟩) ?_
    refine lv_icmp_ne (tgt := 30) hx hb dX1_canSwallow_15 (by decide) (fun c6 => ?_) (fun c6 => ?_)
    · have hf := sw_in c6 hf
      refine lv_iconst (v := 0) hx hb dX1_canSwallow_30 (by decide) ?_
      subst hQ
      exact W.zret hx hb hr rfl (fun t ht hW => ⟨_, rfl, Option.some.inj hf, ht⟩) (fun _ h => absurd h List.not_mem_nil) dX1_canSwallow_31 hlocks
    · have hf := sw_ip c6 hf
      refine lv_aload_n hx hb dX1_canSwallow_18 rfl (lv_at hl 0 rfl) ?_
      refine va_get (D := (dC, dI)) (ci := 1) (v := .ref aC) (C := RX1) (T := TX1) (N := 2) hx hb hts iX1 hown hK hP 2 rfl rfl 0 (by decide) hw1 (fun _ h9 => h9) rfl dX1_canSwallow_19 ?_
      refine lv_iload_n hx hb dX1_canSwallow_22 rfl (lv_at hl 1 rfl) ?_
      refine lv_iconst (v := 1) hx hb dX1_canSwallow_23 (by decide) ?_
      obtain ⟨q8, hq8, hf⟩ := sw_bs hf
      have hPc := hP.sub (ws' := [(aC, .inr (0, [.ref aC_traits, .int C_total])), (aC_traits, .inl (cI, 20, .inl C_traits))]) [0, 1] rfl
      refine sw_rd (W.runV (As := [.int l1, .int (1 : Int32)]) (rest := []) ⟨hx, hb, hml, hown, hts⟩ (k_X0_isOf l dC dI cI cZ t0 aC aC_traits C_total C_traits l1 (1 : Int32) q8 hq8) (cwV 2 hts gX1_canSwallow_X0_isOf rfl rfl rfl (by decide +kernel) ⟨Nat.le_of_ble_eq_true rfl, Nat.le_of_ble_eq_true rfl⟩) ⟨sw_PR_bl, va_recv hK hPc (ci := 0) (q0 := 0) rfl rfl, sw_PR_pre hK hPc hE hS⟩ rfl rfl hl.1 rfl (lv_room (Nat.le_of_ble_eq_true rfl)) dX1_canSwallow_24 ⟨Nat.zero_le _, Nat.zero_le _⟩) ?_
      refine lv_if_ne (tgt := 32) hx hb dX1_canSwallow_27 (by decide) (fun c7 => ?_) (fun c7 => ?_)
      · have hf := sw_in c7 hf
        refine lv_aload_n hx hb dX1_canSwallow_32 rfl (lv_at hl 0 rfl) ?_
        refine va_get (D := (dC, dI)) (ci := 1) (v := .ref aC) (C := RX1) (T := TX1) (N := 2) hx hb hts iX1 hown hK hP 2 rfl rfl 0 (by decide) hw1 (fun _ h9 => h9) rfl dX1_canSwallow_33 ?_
        refine lv_iload_n hx hb dX1_canSwallow_36 rfl (lv_at hl 1 rfl) ?_
        refine lv_iconst (v := 3) hx hb dX1_canSwallow_37 (by decide) ?_
        obtain ⟨q9, hq9, hf⟩ := sw_bs hf
        have hPc := hP.sub (ws' := [(aC, .inr (0, [.ref aC_traits, .int C_total])), (aC_traits, .inl (cI, 20, .inl C_traits))]) [0, 1] rfl
        refine sw_rd (W.runV (As := [.int l1, .int (3 : Int32)]) (rest := []) ⟨hx, hb, hml, hown, hts⟩ (k_X0_trait l dC dI cI cZ t0 aC aC_traits C_total C_traits l1 (3 : Int32) q9 hq9) (cwV 2 hts gX1_canSwallow_X0_trait rfl rfl rfl (by decide +kernel) ⟨Nat.le_of_ble_eq_true rfl, Nat.le_of_ble_eq_true rfl⟩) ⟨sw_PR_bl, va_recv hK hPc (ci := 0) (q0 := 0) rfl rfl, sw_PR_pre hK hPc hE hS⟩ rfl rfl hl.1 rfl (lv_room (Nat.le_of_ble_eq_true rfl)) dX1_canSwallow_38 ⟨Nat.zero_le _, Nat.zero_le _⟩) ?_
        refine lv_aload_n hx hb dX1_canSwallow_41 rfl (lv_at hl 0 rfl) ?_
        refine va_get (D := (dC, dI)) (ci := 1) (v := .ref aC) (C := RX1) (T := TX1) (N := 2) hx hb hts iX1 hown hK hP 2 rfl rfl 0 (by decide) hw1 (fun _ h9 => h9) rfl dX1_canSwallow_42 ?_
        refine lv_iload_n hx hb dX1_canSwallow_45 rfl (lv_at hl 2 rfl) ?_
        refine lv_iconst (v := 0) hx hb dX1_canSwallow_46 (by decide) ?_
        obtain ⟨q10, hq10, hf⟩ := sw_bs hf
        have hPc := hP.sub (ws' := [(aC, .inr (0, [.ref aC_traits, .int C_total])), (aC_traits, .inl (cI, 20, .inl C_traits))]) [0, 1] rfl
        refine sw_rd (W.runV (As := [.int l2, .int (0 : Int32)]) (rest := [.int q9]) ⟨hx, hb, hml, hown, hts⟩ (k_X0_trait l dC dI cI cZ t0 aC aC_traits C_total C_traits l2 (0 : Int32) q10 hq10) (cwV 2 hts gX1_canSwallow_X0_trait rfl rfl rfl (by decide +kernel) ⟨Nat.le_of_ble_eq_true rfl, Nat.le_of_ble_eq_true rfl⟩) ⟨sw_PR_bl, va_recv hK hPc (ci := 0) (q0 := 0) rfl rfl, sw_PR_pre hK hPc hE hS⟩ rfl rfl hl.1 rfl (lv_room (Nat.le_of_ble_eq_true rfl)) dX1_canSwallow_47 ⟨Nat.zero_le _, Nat.zero_le _⟩) ?_
        refine lv_ishr hx hb dX1_canSwallow_50 ?_
        refine lv_iconst (v := 1) hx hb dX1_canSwallow_51 (by decide) ?_
        refine lv_iand hx hb dX1_canSwallow_52 ?_
        refine lv_iconst (v := 1) hx hb dX1_canSwallow_53 (by decide) ?_
        refine lv_icmp_ne (tgt := 61) hx hb dX1_canSwallow_54 (by decide) (fun c8 => ?_) (fun c8 => ?_)
        · have hf := sw_in c8 hf
          refine lv_iconst (v := 0) hx hb dX1_canSwallow_61 (by decide) ?_
          exact hB_62 (0 : Int32)  hf ls (lv_sub hl [0, 1, 2] rfl)
        · have hf := sw_ip c8 hf
          refine lv_iconst (v := 1) hx hb dX1_canSwallow_57 (by decide) ?_
          refine lv_goto (tgt := 62) hx hb dX1_canSwallow_58 (by decide) ?_
          exact hB_62 (1 : Int32)  hf ls (lv_sub hl [0, 1, 2] rfl)
      · have hf := sw_ip c7 hf
        refine lv_iconst (v := 0) hx hb dX1_canSwallow_30 (by decide) ?_
        subst hQ
        exact W.zret hx hb hr rfl (fun t ht hW => ⟨_, rfl, Option.some.inj hf, ht⟩) (fun _ h => absurd h List.not_mem_nil) dX1_canSwallow_31 hlocks
abbrev rm_X1_canTake : Room := { frames := 2, cells := 0, slots := 0, locals := 46 }
set_option maxHeartbeats 1000000 in
set_option maxRecDepth 100000 in
theorem k_X1_canTake (l : Launch) (dC : Nat → ClassId) (dI : Nat → Nat → Nat) (cI cZ : ClassId) (t0 : Nat) (aC aC_traits aN aN_holders : Nat) (C_total : Int32) (C_traits : Nat → Int32) (N_holders : Nat → Int32) (l1 : Int32) (l2 : Int32) (rv : Int32)  (hf : F_X1_canTake C_total C_traits N_holders l1 l2 = some (rv)) : Met l yX1_canTake wsX1_canTake rm_X1_canTake (sw_PR (dC, dI) t0 [(cI, .int), (cZ, .boolean)] [.ref aN, .int l1, .int l2] [(aC, .inr (0, [.ref aC_traits, .int C_total])), (aC_traits, .inl (cI, 20, .inl C_traits)), (aN, .inr (1, [.ref aC, .ref aN_holders])), (aN_holders, .inl (cI, 5, .inl N_holders))]) (vp_Si (fun r => r = rv)) 0 0 (fun _ => False) := by
  refine sw_metR (cc := cX1_canTake) (maxL := 5) (ret := (some .boolean)) (lv := [(0, .ref aN), (1, .int l1), (2, .int l2)]) (by decide) rfl (Nat.le_of_ble_eq_true rfl) rfl ?_
  intro p e s m below meth c Q hQ hx hb hr hts hown hlocks hml hP hK hE hS ls hl
  have hown : s.vm.findClass RX1 = some m.cls := hown
  have hf := (F_X1_canTake.eq_1 _ _ _ _ _).symm.trans hf
  have hw1 := hts (.fieldLink RX1 15 "SwallowedInTurn$Nesting" "crowd" "LSwallowedInTurn$Crowd;") (List.mem_of_getElem? (i := 1) (by decide +kernel))
  have iX1 : ∀ w ∈ u_ws RX1 TX1 2, w ∈ wsX1_canTake := by decide +kernel
  have hf0 := hf
  clear hf
  have hl0 := hl
  clear hl
  have hB_16 :  ∀ (fu : Nat) (l3 : Int32) (l4 : Int32), F_X1_canTake_16 C_total C_traits l1 l2 fu l3 l4 = some (rv) → ∀ ls : Array Slot, lv_has ls 5 [(0, .ref aN), (1, .int l1), (2, .int l2), (3, .int l3), (4, .int l4)] → W p l e rm_X1_canTake s m ([.ref aN, .int l1, .int l2] : List Value).toArray below meth c s.heap [] 0 0 Q (F0 m 16 ls []) := by
    intro   fu
    induction fu with
    | zero =>
      intro l3 l4 hf
      exact nomatch (show (none : Option (Int32)) = some (rv) from hf)
    | succ fu ih =>
      intro l3 l4 hf ls hl
      have hf := (F_X1_canTake_16.eq_2 _ _ _ _ _ _ _).symm.trans hf
      refine lv_iload hx hb dX1_canTake_16 (lv_at hl 4 rfl) ?_
      refine lv_aload_n hx hb dX1_canTake_18 rfl (lv_at hl 0 rfl) ?_
      refine va_get (D := (dC, dI)) (ci := 1) (v := .ref aC) (C := RX1) (T := TX1) (N := 2) hx hb hts iX1 hown hK hP 2 rfl rfl 0 (by decide) hw1 (fun _ h9 => h9) rfl dX1_canTake_19 ?_
      obtain ⟨q1, hq1, hf⟩ := sw_bs hf
      have hPc := hP.sub (ws' := [(aC, .inr (0, [.ref aC_traits, .int C_total]))]) [0] rfl
      refine sw_rd (W.runV (As := []) (rest := [.int l4]) ⟨hx, hb, hml, hown, hts⟩ (k_X0_total l dC dI cI cZ t0 aC aC_traits C_total q1 hq1) (cwV 0 hts gX1_canTake_X0_total rfl rfl rfl (by decide +kernel) ⟨Nat.le_of_ble_eq_true rfl, Nat.le_of_ble_eq_true rfl⟩) ⟨sw_PR_bl, va_recv hK hPc (ci := 0) (q0 := 0) rfl rfl, sw_PR_pre hK hPc hE hS⟩ rfl rfl hl.1 rfl (lv_room (Nat.le_of_ble_eq_true rfl)) dX1_canTake_22 ⟨Nat.zero_le _, Nat.zero_le _⟩) ?_
      refine lv_icmp_ge (tgt := 57) hx hb dX1_canTake_25 (by decide) (fun c1 => ?_) (fun c1 => ?_)
      · have hf := sw_ip c1 hf
        refine lv_iload_n hx hb dX1_canTake_57 rfl (lv_at hl 3 rfl) ?_
        refine lv_aload_n hx hb dX1_canTake_58 rfl (lv_at hl 0 rfl) ?_
        refine va_get (D := (dC, dI)) (ci := 1) (v := .ref aC) (C := RX1) (T := TX1) (N := 2) hx hb hts iX1 hown hK hP 2 rfl rfl 0 (by decide) hw1 (fun _ h9 => h9) rfl dX1_canTake_59 ?_
        refine lv_iload_n hx hb dX1_canTake_62 rfl (lv_at hl 1 rfl) ?_
        refine lv_iconst (v := 2) hx hb dX1_canTake_63 (by decide) ?_
        obtain ⟨q2, hq2, hf⟩ := sw_bs hf
        have hPc := hP.sub (ws' := [(aC, .inr (0, [.ref aC_traits, .int C_total])), (aC_traits, .inl (cI, 20, .inl C_traits))]) [0, 1] rfl
        refine sw_rd (W.runV (As := [.int l1, .int (2 : Int32)]) (rest := [.int l3]) ⟨hx, hb, hml, hown, hts⟩ (k_X0_trait l dC dI cI cZ t0 aC aC_traits C_total C_traits l1 (2 : Int32) q2 hq2) (cwV 2 hts gX1_canTake_X0_trait rfl rfl rfl (by decide +kernel) ⟨Nat.le_of_ble_eq_true rfl, Nat.le_of_ble_eq_true rfl⟩) ⟨sw_PR_bl, va_recv hK hPc (ci := 0) (q0 := 0) rfl rfl, sw_PR_pre hK hPc hE hS⟩ rfl rfl hl.1 rfl (lv_room (Nat.le_of_ble_eq_true rfl)) dX1_canTake_64 ⟨Nat.zero_le _, Nat.zero_le _⟩) ?_
        refine lv_icmp_gt (tgt := 74) hx hb dX1_canTake_67 (by decide) (fun c2 => ?_) (fun c2 => ?_)
        · have hf := sw_ip c2 hf
          refine lv_iconst (v := 0) hx hb dX1_canTake_74 (by decide) ?_
          subst hQ
          exact W.zret hx hb hr rfl (fun t ht hW => ⟨_, rfl, Option.some.inj hf, ht⟩) (fun _ h => absurd h List.not_mem_nil) dX1_canTake_75 hlocks
        · have hf := sw_in c2 hf
          refine lv_iconst (v := 1) hx hb dX1_canTake_70 (by decide) ?_
          refine lv_goto (tgt := 75) hx hb dX1_canTake_71 (by decide) ?_
          subst hQ
          exact W.zret hx hb hr rfl (fun t ht hW => ⟨_, rfl, Option.some.inj hf, ht⟩) (fun _ h => absurd h List.not_mem_nil) dX1_canTake_75 hlocks
      · have hf := sw_in c1 hf
        refine lv_iload_n hx hb dX1_canTake_28 rfl (lv_at hl 2 rfl) ?_
        refine lv_iload hx hb dX1_canTake_29 (lv_at hl 4 rfl) ?_
        refine lv_ishr hx hb dX1_canTake_31 ?_
        refine lv_iconst (v := 1) hx hb dX1_canTake_32 (by decide) ?_
        refine lv_iand hx hb dX1_canTake_33 ?_
        refine lv_iconst (v := 1) hx hb dX1_canTake_34 (by decide) ?_
        refine lv_icmp_ne (tgt := 51) hx hb dX1_canTake_35 (by decide) (fun c3 => ?_) (fun c3 => ?_)
        · have hf := sw_in c3 hf
          refine lv_iinc (v := l4 + (1 : Int32)) (lv' := [(4, .int (l4 + (1 : Int32))), (0, .ref aN), (1, .int l1), (2, .int l2), (3, .int l3)]) hx hb dX1_canTake_51 hl (k := 4) rfl (sw_ii _) (by decide) rfl (fun ls hl => ?_)
          refine lv_goto (tgt := 16) hx hb dX1_canTake_54 (by decide) ?_
          exact ih l3 (l4 + (1 : Int32)) hf ls (lv_sub hl [1, 2, 3, 4, 0] rfl)
        · have hf := sw_ip c3 hf
          refine lv_iload_n hx hb dX1_canTake_38 rfl (lv_at hl 3 rfl) ?_
          refine lv_aload_n hx hb dX1_canTake_39 rfl (lv_at hl 0 rfl) ?_
          refine va_get (D := (dC, dI)) (ci := 1) (v := .ref aC) (C := RX1) (T := TX1) (N := 2) hx hb hts iX1 hown hK hP 2 rfl rfl 0 (by decide) hw1 (fun _ h9 => h9) rfl dX1_canTake_40 ?_
          refine lv_iload hx hb dX1_canTake_43 (lv_at hl 4 rfl) ?_
          refine lv_iconst (v := 1) hx hb dX1_canTake_45 (by decide) ?_
          obtain ⟨q3, hq3, hf⟩ := sw_bs hf
          have hPc := hP.sub (ws' := [(aC, .inr (0, [.ref aC_traits, .int C_total])), (aC_traits, .inl (cI, 20, .inl C_traits))]) [0, 1] rfl
          refine sw_rd (W.runV (As := [.int l4, .int (1 : Int32)]) (rest := [.int l3]) ⟨hx, hb, hml, hown, hts⟩ (k_X0_trait l dC dI cI cZ t0 aC aC_traits C_total C_traits l4 (1 : Int32) q3 hq3) (cwV 2 hts gX1_canTake_X0_trait rfl rfl rfl (by decide +kernel) ⟨Nat.le_of_ble_eq_true rfl, Nat.le_of_ble_eq_true rfl⟩) ⟨sw_PR_bl, va_recv hK hPc (ci := 0) (q0 := 0) rfl rfl, sw_PR_pre hK hPc hE hS⟩ rfl rfl hl.1 rfl (lv_room (Nat.le_of_ble_eq_true rfl)) dX1_canTake_46 ⟨Nat.zero_le _, Nat.zero_le _⟩) ?_
          refine lv_iadd hx hb dX1_canTake_49 ?_
          refine lv_istore_n (lv' := [(3, .int (l3 + q3)), (0, .ref aN), (1, .int l1), (2, .int l2), (4, .int l4)]) hx hb dX1_canTake_50 rfl hl (by decide) rfl (fun ls hl => ?_)
          refine lv_iinc (v := l4 + (1 : Int32)) (lv' := [(4, .int (l4 + (1 : Int32))), (3, .int (l3 + q3)), (0, .ref aN), (1, .int l1), (2, .int l2)]) hx hb dX1_canTake_51 hl (k := 4) rfl (sw_ii _) (by decide) rfl (fun ls hl => ?_)
          refine lv_goto (tgt := 16) hx hb dX1_canTake_54 (by decide) ?_
          exact ih (l3 + q3) (l4 + (1 : Int32)) hf ls (lv_sub hl [2, 3, 4, 1, 0] rfl)
  have hf := hf0
  have hl := hl0
  refine lv_iload_n hx hb dX1_canTake_0 rfl (lv_at hl 1 rfl) ?_
  refine lv_iconst (v := -1) hx hb dX1_canTake_1 (by decide) ?_
  refine lv_icmp_ne (tgt := 7) hx hb dX1_canTake_2 (by decide) (fun c4 => ?_) (fun c4 => ?_)
  · have hf := sw_in c4 hf
    refine lv_aload_n hx hb dX1_canTake_7 rfl (lv_at hl 0 rfl) ?_
    refine lv_iload_n hx hb dX1_canTake_8 rfl (lv_at hl 1 rfl) ?_
    obtain ⟨q4, hq4, hf⟩ := sw_bs hf
    have hPc := hP.sub (ws' := [(aC, .inr (0, [.ref aC_traits, .int C_total])), (aC_traits, .inl (cI, 20, .inl C_traits)), (aN, .inr (1, [.ref aC, .ref aN_holders])), (aN_holders, .inl (cI, 5, .inl N_holders))]) [0, 1, 2, 3] rfl
    refine sw_rd (W.runV (As := [.int l1]) (rest := []) ⟨hx, hb, hml, hown, hts⟩ (k_X1_filled l dC dI cI cZ t0 aC aC_traits aN aN_holders C_total C_traits N_holders l1 q4 hq4) (cwV 1 hts gX1_canTake_X1_filled rfl rfl rfl (by decide +kernel) ⟨Nat.le_of_ble_eq_true rfl, Nat.le_of_ble_eq_true rfl⟩) ⟨sw_PR_bl, va_recv hK hPc (ci := 1) (q0 := 2) rfl rfl, sw_PR_pre hK hPc hE hS⟩ rfl rfl hl.1 rfl (lv_room (Nat.le_of_ble_eq_true rfl)) dX1_canTake_9 ⟨Nat.zero_le _, Nat.zero_le _⟩) ?_
    refine lv_istore_n (lv' := [(3, .int q4), (0, .ref aN), (1, .int l1), (2, .int l2)]) hx hb dX1_canTake_12 rfl hl (by decide) rfl (fun ls hl => ?_)
    refine lv_iconst (v := 0) hx hb dX1_canTake_13 (by decide) ?_
    refine lv_istore (lv' := [(4, .int (0 : Int32)), (3, .int q4), (0, .ref aN), (1, .int l1), (2, .int l2)]) hx hb dX1_canTake_14 hl (by decide) rfl (fun ls hl => ?_)
    exact hB_16   sw_fu q4 (0 : Int32) hf ls (lv_sub hl [2, 3, 4, 1, 0] rfl)
  · have hf := sw_ip c4 hf
    refine lv_iconst (v := 1) hx hb dX1_canTake_5 (by decide) ?_
    subst hQ
    exact W.zret hx hb hr rfl (fun t ht hW => ⟨_, rfl, Option.some.inj hf, ht⟩) (fun _ h => absurd h List.not_mem_nil) dX1_canTake_6 hlocks
abbrev rm_X1_comingOut : Room := { frames := 2, cells := 0, slots := 0, locals := 46 }
set_option maxHeartbeats 1000000 in
set_option maxRecDepth 100000 in
theorem k_X1_comingOut (l : Launch) (dC : Nat → ClassId) (dI : Nat → Nat → Nat) (cI cZ : ClassId) (t0 : Nat) (aC aC_traits aN aN_holders : Nat) (C_total : Int32) (C_traits : Nat → Int32) (N_holders : Nat → Int32) (l1 : Int32) (rv : Int32)  (hf : F_X1_comingOut C_total C_traits N_holders l1 = some (rv)) : Met l yX1_comingOut wsX1_comingOut rm_X1_comingOut (sw_PR (dC, dI) t0 [(cI, .int), (cZ, .boolean)] [.ref aN, .int l1] [(aC, .inr (0, [.ref aC_traits, .int C_total])), (aC_traits, .inl (cI, 20, .inl C_traits)), (aN, .inr (1, [.ref aC, .ref aN_holders])), (aN_holders, .inl (cI, 5, .inl N_holders))]) (vp_Si (fun r => r = rv)) 0 0 (fun _ => False) := by
  refine sw_metR (cc := cX1_comingOut) (maxL := 7) (ret := (some .int)) (lv := [(0, .ref aN), (1, .int l1)]) (by decide) rfl (Nat.le_of_ble_eq_true rfl) rfl ?_
  intro p e s m below meth c Q hQ hx hb hr hts hown hlocks hml hP hK hE hS ls hl
  have hown : s.vm.findClass RX1 = some m.cls := hown
  have hf := (F_X1_comingOut.eq_1 _ _ _ _).symm.trans hf
  have hw1 := hts (.fieldLink RX1 15 "SwallowedInTurn$Nesting" "crowd" "LSwallowedInTurn$Crowd;") (List.mem_of_getElem? (i := 1) (by decide +kernel))
  have iX1 : ∀ w ∈ u_ws RX1 TX1 2, w ∈ wsX1_comingOut := by decide +kernel
  have hw3 := hts (.initialized RX5) (List.mem_of_getElem? (i := 3) (by decide +kernel))
  have hw2 := hts (.static yX5_doer) (List.mem_of_getElem? (i := 2) (by decide +kernel))
  have hf0 := hf
  clear hf
  have hl0 := hl
  clear hl
  have hB_76 : ∀ (l2 : Int32), ∀ (fu : Nat) (l4 : Int32) (l5 : Int32) (l6 : Int32), F_X1_comingOut_76 N_holders l2 fu l4 l5 l6 = some (rv) → ∀ ls : Array Slot, lv_has ls 7 [(0, .ref aN), (2, .int l2), (4, .int l4), (5, .int l5), (6, .int l6)] → W p l e rm_X1_comingOut s m ([.ref aN, .int l1] : List Value).toArray below meth c s.heap [] 0 0 Q (F0 m 76 ls []) := by
    intro l2  fu
    induction fu with
    | zero =>
      intro l4 l5 l6 hf
      exact nomatch (show (none : Option (Int32)) = some (rv) from hf)
    | succ fu ih =>
      intro l4 l5 l6 hf ls hl
      have hf := (F_X1_comingOut_76.eq_2 _ _ _ _ _ _).symm.trans hf
      refine lv_iload hx hb dX1_comingOut_76 (lv_at hl 4 rfl) ?_
      refine lv_if_lt (tgt := 114) hx hb dX1_comingOut_78 (by decide) (fun c1 => ?_) (fun c1 => ?_)
      · have hf := sw_ip c1 hf
        refine lv_iload hx hb dX1_comingOut_114 (lv_at hl 3 rfl) ?_
        subst hQ
        exact W.iret hx hb hr (fun t ht hW => ⟨_, rfl, Option.some.inj hf, ht⟩) (fun _ h => absurd h List.not_mem_nil) dX1_comingOut_116 hlocks
      · have hf := sw_in c1 hf
        refine lv_iload hx hb dX1_comingOut_81 (lv_at hl 2 rfl) ?_
        refine lv_if_le (tgt := 114) hx hb dX1_comingOut_83 (by decide) (fun c2 => ?_) (fun c2 => ?_)
        · have hf := sw_ip c2 hf
          refine lv_iload hx hb dX1_comingOut_114 (lv_at hl 3 rfl) ?_
          subst hQ
          exact W.iret hx hb hr (fun t ht hW => ⟨_, rfl, Option.some.inj hf, ht⟩) (fun _ h => absurd h List.not_mem_nil) dX1_comingOut_116 hlocks
        · have hf := sw_in c2 hf
          refine lv_aload_n hx hb dX1_comingOut_86 rfl (lv_at hl 0 rfl) ?_
          refine lv_iload hx hb dX1_comingOut_87 (lv_at hl 4 rfl) ?_
          obtain ⟨q1, hq1, hf⟩ := sw_bs hf
          have hPc := hP.sub (ws' := [(aN, .inr (1, [.ref aC, .ref aN_holders])), (aN_holders, .inl (cI, 5, .inl N_holders))]) [2, 3] rfl
          refine sw_rd (W.runV (As := [.int l6]) (rest := []) ⟨hx, hb, hml, hown, hts⟩ (k_X1_holder l dC dI cI cZ t0 aN aC aN_holders N_holders l6 q1 hq1) (cwV 1 hts gX1_comingOut_X1_holder rfl rfl rfl (by decide +kernel) ⟨Nat.le_of_ble_eq_true rfl, Nat.le_of_ble_eq_true rfl⟩) ⟨sw_PR_bl, va_recv hK hPc (ci := 1) (q0 := 0) rfl rfl, sw_PR_pre hK hPc hE hS⟩ rfl rfl hl.1 rfl (lv_room (Nat.le_of_ble_eq_true rfl)) dX1_comingOut_89 ⟨Nat.zero_le _, Nat.zero_le _⟩) ?_
          refine lv_iload_n hx hb dX1_comingOut_92 rfl (lv_at hl 1 rfl) ?_
          refine lv_icmp_ne (tgt := 108) hx hb dX1_comingOut_93 (by decide) (fun c3 => ?_) (fun c3 => ?_)
          · have hf := sw_in c3 hf
            refine lv_iinc (v := l6 + (-1 : Int32)) (lv' := [(6, .int (l6 + (-1 : Int32))), (0, .ref aN), (2, .int l2), (4, .int l4), (5, .int l5)]) hx hb dX1_comingOut_108 hl (k := 4) rfl (sw_iim _) (by decide) rfl (fun ls hl => ?_)
            refine lv_goto (tgt := 76) hx hb dX1_comingOut_111 (by decide) ?_
            exact ih l4 l5 (l6 + (-1 : Int32)) hf ls (lv_sub hl [1, 2, 3, 4, 0] rfl)
          · have hf := sw_ip c3 hf
            refine lv_iload hx hb dX1_comingOut_96 (lv_at hl 3 rfl) ?_
            refine lv_iconst (v := 1) hx hb dX1_comingOut_98 (by decide) ?_
            refine lv_iload hx hb dX1_comingOut_99 (lv_at hl 4 rfl) ?_
            refine lv_ishl hx hb dX1_comingOut_101 ?_
            refine lv_ior hx hb dX1_comingOut_102 ?_
            refine lv_istore (lv' := [(5, .int (l5 ||| ((1 : Int32) <<< (l6 &&& 31)))), (0, .ref aN), (2, .int l2), (4, .int l4), (6, .int l6)]) hx hb dX1_comingOut_103 hl (by decide) rfl (fun ls hl => ?_)
            refine lv_iinc (v := l4 + (-1 : Int32)) (lv' := [(4, .int (l4 + (-1 : Int32))), (5, .int (l5 ||| ((1 : Int32) <<< (l6 &&& 31)))), (0, .ref aN), (2, .int l2), (6, .int l6)]) hx hb dX1_comingOut_105 hl (k := 3) rfl (sw_iim _) (by decide) rfl (fun ls hl => ?_)
            refine lv_iinc (v := l6 + (-1 : Int32)) (lv' := [(6, .int (l6 + (-1 : Int32))), (4, .int (l4 + (-1 : Int32))), (5, .int (l5 ||| ((1 : Int32) <<< (l6 &&& 31)))), (0, .ref aN), (2, .int l2)]) hx hb dX1_comingOut_108 hl (k := 4) rfl (sw_iim _) (by decide) rfl (fun ls hl => ?_)
            refine lv_goto (tgt := 76) hx hb dX1_comingOut_111 (by decide) ?_
            exact ih (l4 + (-1 : Int32)) (l5 ||| ((1 : Int32) <<< (l6 &&& 31))) (l6 + (-1 : Int32)) hf ls (lv_sub hl [3, 4, 1, 2, 0] rfl)
  have hB_60 : ∀ (l2 : Int32) (s0 : Int32), F_X1_comingOut_60 C_total N_holders l2 s0 = some (rv) → ∀ ls : Array Slot, lv_has ls 7 [(0, .ref aN), (2, .int l2)] → W p l e rm_X1_comingOut s m ([.ref aN, .int l1] : List Value).toArray below meth c s.heap [] 0 0 Q (F0 m 60 ls [.int s0]) := by
    intro l2 s0  hf ls hl
    have hf := (F_X1_comingOut_60.eq_1 _ _ _ _).symm.trans hf
    refine lv_istore (lv' := [(4, .int s0), (0, .ref aN), (2, .int l2)]) hx hb dX1_comingOut_60 hl (by decide) rfl (fun ls hl => ?_)
    refine lv_iconst (v := 0) hx hb dX1_comingOut_62 (by decide) ?_
    refine lv_istore (lv' := [(5, .int (0 : Int32)), (4, .int s0), (0, .ref aN), (2, .int l2)]) hx hb dX1_comingOut_63 hl (by decide) rfl (fun ls hl => ?_)
    refine lv_aload_n hx hb dX1_comingOut_65 rfl (lv_at hl 2 rfl) ?_
    refine va_get (D := (dC, dI)) (ci := 1) (v := .ref aC) (C := RX1) (T := TX1) (N := 2) hx hb hts iX1 hown hK hP 2 rfl rfl 0 (by decide) hw1 (fun _ h9 => h9) rfl dX1_comingOut_66 ?_
    obtain ⟨q2, hq2, hf⟩ := sw_bs hf
    have hPc := hP.sub (ws' := [(aC, .inr (0, [.ref aC_traits, .int C_total]))]) [0] rfl
    refine sw_rd (W.runV (As := []) (rest := []) ⟨hx, hb, hml, hown, hts⟩ (k_X0_total l dC dI cI cZ t0 aC aC_traits C_total q2 hq2) (cwV 0 hts gX1_comingOut_X0_total rfl rfl rfl (by decide +kernel) ⟨Nat.le_of_ble_eq_true rfl, Nat.le_of_ble_eq_true rfl⟩) ⟨sw_PR_bl, va_recv hK hPc (ci := 0) (q0 := 0) rfl rfl, sw_PR_pre hK hPc hE hS⟩ rfl rfl hl.1 rfl (lv_room (Nat.le_of_ble_eq_true rfl)) dX1_comingOut_69 ⟨Nat.zero_le _, Nat.zero_le _⟩) ?_
    refine lv_iconst (v := 1) hx hb dX1_comingOut_72 (by decide) ?_
    refine lv_isub hx hb dX1_comingOut_73 ?_
    refine lv_istore (lv' := [(6, .int (q2 - (1 : Int32))), (5, .int (0 : Int32)), (4, .int s0), (0, .ref aN), (2, .int l2)]) hx hb dX1_comingOut_74 hl (by decide) rfl (fun ls hl => ?_)
    exact hB_76 l2  sw_fu s0 (0 : Int32) (q2 - (1 : Int32)) hf ls (lv_sub hl [3, 4, 2, 1, 0] rfl)
  have hB_35 : ∀ (l2 : Int32) (l3 : Int32), F_X1_comingOut_35 C_total C_traits N_holders l2 l3 = some (rv) → ∀ ls : Array Slot, lv_has ls 7 [(0, .ref aN), (2, .int l2), (3, .int l3)] → W p l e rm_X1_comingOut s m ([.ref aN, .int l1] : List Value).toArray below meth c s.heap [] 0 0 Q (F0 m 35 ls []) := by
    intro l2 l3  hf ls hl
    have hf := (F_X1_comingOut_35.eq_1 _ _ _ _ _).symm.trans hf
    refine lv_iload_n hx hb dX1_comingOut_35 rfl (lv_at hl 2 rfl) ?_
    refine lv_if_eq (tgt := 43) hx hb dX1_comingOut_36 (by decide) (fun c4 => ?_) (fun c4 => ?_)
    · have hf := sw_ip c4 hf
      refine lv_aload_n hx hb dX1_comingOut_43 rfl (lv_at hl 0 rfl) ?_
      refine va_get (D := (dC, dI)) (ci := 1) (v := .ref aC) (C := RX1) (T := TX1) (N := 2) hx hb hts iX1 hown hK hP 2 rfl rfl 0 (by decide) hw1 (fun _ h9 => h9) rfl dX1_comingOut_44 ?_
      refine lv_iload_n hx hb dX1_comingOut_47 rfl (lv_at hl 1 rfl) ?_
      refine lv_iconst (v := 3) hx hb dX1_comingOut_48 (by decide) ?_
      obtain ⟨q3, hq3, hf⟩ := sw_bs hf
      have hPc := hP.sub (ws' := [(aC, .inr (0, [.ref aC_traits, .int C_total])), (aC_traits, .inl (cI, 20, .inl C_traits))]) [0, 1] rfl
      refine sw_rd (W.runV (As := [.int l2, .int (3 : Int32)]) (rest := []) ⟨hx, hb, hml, hown, hts⟩ (k_X0_isOf l dC dI cI cZ t0 aC aC_traits C_total C_traits l2 (3 : Int32) q3 hq3) (cwV 2 hts gX1_comingOut_X0_isOf rfl rfl rfl (by decide +kernel) ⟨Nat.le_of_ble_eq_true rfl, Nat.le_of_ble_eq_true rfl⟩) ⟨sw_PR_bl, va_recv hK hPc (ci := 0) (q0 := 0) rfl rfl, sw_PR_pre hK hPc hE hS⟩ rfl rfl hl.1 rfl (lv_room (Nat.le_of_ble_eq_true rfl)) dX1_comingOut_49 ⟨Nat.zero_le _, Nat.zero_le _⟩) ?_
      refine lv_if_eq (tgt := 59) hx hb dX1_comingOut_52 (by decide) (fun c5 => ?_) (fun c5 => ?_)
      · have hf := sw_ip c5 hf
        refine lv_iconst (v := 1) hx hb dX1_comingOut_59 (by decide) ?_
        exact hB_60 l2 (1 : Int32)  hf ls (lv_sub hl [0, 1] rfl)
      · have hf := sw_in c5 hf
        refine lv_iconst (v := 2) hx hb dX1_comingOut_55 (by decide) ?_
        refine lv_goto (tgt := 60) hx hb dX1_comingOut_56 (by decide) ?_
        exact hB_60 l2 (2 : Int32)  hf ls (lv_sub hl [0, 1] rfl)
    · have hf := sw_in c4 hf
      refine lv_iconst (v := 5) hx hb dX1_comingOut_39 (by decide) ?_
      refine lv_goto (tgt := 60) hx hb dX1_comingOut_40 (by decide) ?_
      exact hB_60 l2 (5 : Int32)  hf ls (lv_sub hl [0, 1] rfl)
  have hB_16 : ∀ (l2 : Int32) (s0 : Int32), F_X1_comingOut_16 C_total C_traits N_holders l2 s0 = some (rv) → ∀ ls : Array Slot, lv_has ls 7 [(0, .ref aN), (2, .int l2)] → W p l e rm_X1_comingOut s m ([.ref aN, .int l1] : List Value).toArray below meth c s.heap [] 0 0 Q (F0 m 16 ls [.int s0]) := by
    intro l2 s0  hf ls hl
    have hf := (F_X1_comingOut_16.eq_1 _ _ _ _ _).symm.trans hf
    refine lv_istore_n (lv' := [(3, .int s0), (0, .ref aN), (2, .int l2)]) hx hb dX1_comingOut_16 rfl hl (by decide) rfl (fun ls hl => ?_)
    refine lv_iload_n hx hb dX1_comingOut_17 rfl (lv_at hl 0 rfl) ?_
    refine lv_if_eq (tgt := 35) hx hb dX1_comingOut_18 (by decide) (fun c6 => ?_) (fun c6 => ?_)
    · have hf := sw_ip c6 hf
      exact hB_35 l2 s0  hf ls (lv_sub hl [1, 2, 0] rfl)
    · have hf := sw_in c6 hf
      refine lv_aload_n hx hb dX1_comingOut_21 rfl (lv_at hl 1 rfl) ?_
      refine va_get (D := (dC, dI)) (ci := 1) (v := .ref aC) (C := RX1) (T := TX1) (N := 2) hx hb hts iX1 hown hK hP 2 rfl rfl 0 (by decide) hw1 (fun _ h9 => h9) rfl dX1_comingOut_22 ?_
      refine lv_iload_n hx hb dX1_comingOut_25 rfl (lv_at hl 2 rfl) ?_
      refine lv_iconst (v := 2) hx hb dX1_comingOut_26 (by decide) ?_
      obtain ⟨q4, hq4, hf⟩ := sw_bs hf
      have hPc := hP.sub (ws' := [(aC, .inr (0, [.ref aC_traits, .int C_total])), (aC_traits, .inl (cI, 20, .inl C_traits))]) [0, 1] rfl
      refine sw_rd (W.runV (As := [.int l2, .int (2 : Int32)]) (rest := []) ⟨hx, hb, hml, hown, hts⟩ (k_X0_isOf l dC dI cI cZ t0 aC aC_traits C_total C_traits l2 (2 : Int32) q4 hq4) (cwV 2 hts gX1_comingOut_X0_isOf rfl rfl rfl (by decide +kernel) ⟨Nat.le_of_ble_eq_true rfl, Nat.le_of_ble_eq_true rfl⟩) ⟨sw_PR_bl, va_recv hK hPc (ci := 0) (q0 := 0) rfl rfl, sw_PR_pre hK hPc hE hS⟩ rfl rfl hl.1 rfl (lv_room (Nat.le_of_ble_eq_true rfl)) dX1_comingOut_27 ⟨Nat.zero_le _, Nat.zero_le _⟩) ?_
      refine lv_if_eq (tgt := 35) hx hb dX1_comingOut_30 (by decide) (fun c7 => ?_) (fun c7 => ?_)
      · have hf := sw_ip c7 hf
        exact hB_35 l2 s0  hf ls (lv_sub hl [1, 2, 0] rfl)
      · have hf := sw_in c7 hf
        refine lv_iconst (v := 0) hx hb dX1_comingOut_33 (by decide) ?_
        subst hQ
        exact W.iret hx hb hr (fun t ht hW => ⟨_, rfl, Option.some.inj hf, ht⟩) (fun _ h => absurd h List.not_mem_nil) dX1_comingOut_34 hlocks
  have hf := hf0
  have hl := hl0
  refine lv_iload_n hx hb dX1_comingOut_0 rfl (lv_at hl 1 rfl) ?_
  obtain ⟨q5, hq5, hf⟩ := sw_bs hf
  have hPc := hP.sub (ws' := []) [] rfl
  refine sw_rd (sw_cr (va_runSN (As := [.int l1]) (rest := []) ⟨hx, hb, hml, hown, hts⟩ (k_X5_doer l dC dI cI cZ t0 l1 q5 hq5) ⟨va_cnB (host := "SwallowedInTurn") 1 hts gX1_comingOut_X5_doer_n47 rfl rfl rfl hE.1.2.2.2.2.2.2.1 hw3 (by decide +kernel) ⟨Nat.le_of_ble_eq_true rfl, Nat.le_of_ble_eq_true rfl⟩, hw2, trivial⟩ ⟨sw_PR_bl, sw_PR_pre hK hPc hE hS⟩ rfl rfl hl.1 rfl (lv_room (Nat.le_of_ble_eq_true rfl)) dX1_comingOut_1 ⟨Nat.zero_le _, Nat.zero_le _⟩)) ?_
  refine lv_istore_n (lv' := [(2, .int q5), (0, .ref aN), (1, .int l1)]) hx hb dX1_comingOut_4 rfl hl (by decide) rfl (fun ls hl => ?_)
  refine lv_iload_n hx hb dX1_comingOut_5 rfl (lv_at hl 2 rfl) ?_
  refine lv_bipush (v := 40) hx hb dX1_comingOut_6 (by decide) ?_
  refine lv_icmp_lt (tgt := 15) hx hb dX1_comingOut_8 (by decide) (fun c8 => ?_) (fun c8 => ?_)
  · have hf := sw_ip c8 hf
    refine lv_iconst (v := 0) hx hb dX1_comingOut_15 (by decide) ?_
    exact hB_16 q5 (0 : Int32)  hf ls (lv_sub hl [1, 0] rfl)
  · have hf := sw_in c8 hf
    refine lv_iconst (v := 1) hx hb dX1_comingOut_11 (by decide) ?_
    refine lv_goto (tgt := 16) hx hb dX1_comingOut_12 (by decide) ?_
    exact hB_16 q5 (1 : Int32)  hf ls (lv_sub hl [1, 0] rfl)
abbrev rm_X1_allows : Room := { frames := 3, cells := 0, slots := 0, locals := 72 }
set_option maxHeartbeats 1000000 in
set_option maxRecDepth 100000 in
theorem k_X1_allows (l : Launch) (dC : Nat → ClassId) (dI : Nat → Nat → Nat) (cI cZ : ClassId) (t0 : Nat) (aC aC_traits aN aN_holders : Nat) (C_total : Int32) (C_traits : Nat → Int32) (N_holders : Nat → Int32) (l1 : Int32) (rv : Int32)  (hf : F_X1_allows C_total C_traits N_holders l1 = some (rv)) : Met l yX1_allows wsX1_allows rm_X1_allows (sw_PR (dC, dI) t0 [(cI, .int), (cZ, .boolean)] [.ref aN, .int l1] [(aC, .inr (0, [.ref aC_traits, .int C_total])), (aC_traits, .inl (cI, 20, .inl C_traits)), (aN, .inr (1, [.ref aC, .ref aN_holders])), (aN_holders, .inl (cI, 5, .inl N_holders))]) (vp_Si (fun r => r = rv)) 0 0 (fun _ => False) := by
  refine sw_metR (cc := cX1_allows) (maxL := 4) (ret := (some .boolean)) (lv := [(0, .ref aN), (1, .int l1)]) (by decide) rfl (Nat.le_of_ble_eq_true rfl) rfl ?_
  intro p e s m below meth c Q hQ hx hb hr hts hown hlocks hml hP hK hE hS ls hl
  have hown : s.vm.findClass RX1 = some m.cls := hown
  have hf := (F_X1_allows.eq_1 _ _ _ _).symm.trans hf
  have hw1 := hts (.fieldLink RX1 15 "SwallowedInTurn$Nesting" "crowd" "LSwallowedInTurn$Crowd;") (List.mem_of_getElem? (i := 1) (by decide +kernel))
  have iX1 : ∀ w ∈ u_ws RX1 TX1 2, w ∈ wsX1_allows := by decide +kernel
  have hw8 := hts (.initialized RX5) (List.mem_of_getElem? (i := 8) (by decide +kernel))
  have hw10 := hts (.static yX5_doer) (List.mem_of_getElem? (i := 10) (by decide +kernel))
  have hw17 := hts (.static yX5_prey) (List.mem_of_getElem? (i := 17) (by decide +kernel))
  refine lv_aload_n hx hb dX1_allows_0 rfl (lv_at hl 0 rfl) ?_
  refine va_get (D := (dC, dI)) (ci := 1) (v := .ref aC) (C := RX1) (T := TX1) (N := 2) hx hb hts iX1 hown hK hP 2 rfl rfl 0 (by decide) hw1 (fun _ h9 => h9) rfl dX1_allows_1 ?_
  refine lv_iload_n hx hb dX1_allows_4 rfl (lv_at hl 1 rfl) ?_
  obtain ⟨q1, hq1, hf⟩ := sw_bs hf
  have hPc := hP.sub (ws' := [(aC, .inr (0, [.ref aC_traits, .int C_total]))]) [0] rfl
  refine sw_rd (W.runV (As := [.int l1]) (rest := []) ⟨hx, hb, hml, hown, hts⟩ (k_X0_knows l dC dI cI cZ t0 aC aC_traits C_total l1 q1 hq1) (cwV 1 hts gX1_allows_X0_knows rfl rfl rfl (by decide +kernel) ⟨Nat.le_of_ble_eq_true rfl, Nat.le_of_ble_eq_true rfl⟩) ⟨sw_PR_bl, va_recv hK hPc (ci := 0) (q0 := 0) rfl rfl, sw_PR_pre hK hPc hE hS⟩ rfl rfl hl.1 rfl (lv_room (Nat.le_of_ble_eq_true rfl)) dX1_allows_5 ⟨Nat.zero_le _, Nat.zero_le _⟩) ?_
  refine lv_if_ne (tgt := 13) hx hb dX1_allows_8 (by decide) (fun c1 => ?_) (fun c1 => ?_)
  · have hf := sw_in c1 hf
    refine lv_iload_n hx hb dX1_allows_13 rfl (lv_at hl 1 rfl) ?_
    obtain ⟨q2, hq2, hf⟩ := sw_bs hf
    have hPc := hP.sub (ws' := []) [] rfl
    refine sw_rd (sw_cr (va_runSN (As := [.int l1]) (rest := []) ⟨hx, hb, hml, hown, hts⟩ (k_X5_doer l dC dI cI cZ t0 l1 q2 hq2) ⟨va_cnB (host := "SwallowedInTurn") 1 hts gX1_allows_X5_doer_n47 rfl rfl rfl hE.1.2.2.2.2.2.2.1 hw8 (by decide +kernel) ⟨Nat.le_of_ble_eq_true rfl, Nat.le_of_ble_eq_true rfl⟩, hw10, trivial⟩ ⟨sw_PR_bl, sw_PR_pre hK hPc hE hS⟩ rfl rfl hl.1 rfl (lv_room (Nat.le_of_ble_eq_true rfl)) dX1_allows_14 ⟨Nat.zero_le _, Nat.zero_le _⟩)) ?_
    refine lv_istore_n (lv' := [(2, .int q2), (0, .ref aN), (1, .int l1)]) hx hb dX1_allows_17 rfl hl (by decide) rfl (fun ls hl => ?_)
    refine lv_iload_n hx hb dX1_allows_18 rfl (lv_at hl 2 rfl) ?_
    refine lv_bipush (v := 25) hx hb dX1_allows_19 (by decide) ?_
    refine lv_icmp_ge (tgt := 34) hx hb dX1_allows_21 (by decide) (fun c2 => ?_) (fun c2 => ?_)
    · have hf := sw_ip c2 hf
      refine lv_aload_n hx hb dX1_allows_34 rfl (lv_at hl 1 rfl) ?_
      refine lv_iload_n hx hb dX1_allows_35 rfl (lv_at hl 2 rfl) ?_
      obtain ⟨q3, hq3, hf⟩ := sw_bs hf
      have hPc := hP.sub (ws' := [(aC, .inr (0, [.ref aC_traits, .int C_total])), (aC_traits, .inl (cI, 20, .inl C_traits)), (aN, .inr (1, [.ref aC, .ref aN_holders])), (aN_holders, .inl (cI, 5, .inl N_holders))]) [0, 1, 2, 3] rfl
      refine sw_rd (W.runV (As := [.int l1]) (rest := []) ⟨hx, hb, hml, hown, hts⟩ (k_X1_comingOut l dC dI cI cZ t0 aC aC_traits aN aN_holders C_total C_traits N_holders l1 q3 hq3) (cwV 1 hts gX1_allows_X1_comingOut rfl rfl rfl (by decide +kernel) ⟨Nat.le_of_ble_eq_true rfl, Nat.le_of_ble_eq_true rfl⟩) ⟨sw_PR_bl, va_recv hK hPc (ci := 1) (q0 := 2) rfl rfl, sw_PR_pre hK hPc hE hS⟩ rfl rfl hl.1 rfl (lv_room (Nat.le_of_ble_eq_true rfl)) dX1_allows_36 ⟨Nat.zero_le _, Nat.zero_le _⟩) ?_
      refine lv_istore_n (lv' := [(3, .int q3), (2, .int q2), (0, .ref aN), (1, .int l1)]) hx hb dX1_allows_39 rfl hl (by decide) rfl (fun ls hl => ?_)
      refine lv_iload_n hx hb dX1_allows_40 rfl (lv_at hl 0 rfl) ?_
      refine lv_if_eq (tgt := 61) hx hb dX1_allows_41 (by decide) (fun c3 => ?_) (fun c3 => ?_)
      · have hf := sw_ip c3 hf
        refine lv_iconst (v := 0) hx hb dX1_allows_61 (by decide) ?_
        subst hQ
        exact W.zret hx hb hr rfl (fun t ht hW => ⟨_, rfl, Option.some.inj hf, ht⟩) (fun _ h => absurd h List.not_mem_nil) dX1_allows_62 hlocks
      · have hf := sw_in c3 hf
        refine lv_aload_n hx hb dX1_allows_44 rfl (lv_at hl 2 rfl) ?_
        refine lv_aload_n hx hb dX1_allows_45 rfl (lv_at hl 2 rfl) ?_
        refine lv_iload_n hx hb dX1_allows_46 rfl (lv_at hl 1 rfl) ?_
        obtain ⟨q4, hq4, hf⟩ := sw_bs hf
        have hPc := hP.sub (ws' := [(aN, .inr (1, [.ref aC, .ref aN_holders])), (aN_holders, .inl (cI, 5, .inl N_holders))]) [2, 3] rfl
        refine sw_rd (W.runV (As := [.int q2]) (rest := [.ref aN]) ⟨hx, hb, hml, hown, hts⟩ (k_X1_holder l dC dI cI cZ t0 aN aC aN_holders N_holders q2 q4 hq4) (cwV 1 hts gX1_allows_X1_holder rfl rfl rfl (by decide +kernel) ⟨Nat.le_of_ble_eq_true rfl, Nat.le_of_ble_eq_true rfl⟩) ⟨sw_PR_bl, va_recv hK hPc (ci := 1) (q0 := 0) rfl rfl, sw_PR_pre hK hPc hE hS⟩ rfl rfl hl.1 rfl (lv_room (Nat.le_of_ble_eq_true rfl)) dX1_allows_47 ⟨Nat.zero_le _, Nat.zero_le _⟩) ?_
        refine lv_iload_n hx hb dX1_allows_50 rfl (lv_at hl 0 rfl) ?_
        obtain ⟨q5, hq5, hf⟩ := sw_bs hf
        have hPc := hP.sub (ws' := [(aC, .inr (0, [.ref aC_traits, .int C_total])), (aC_traits, .inl (cI, 20, .inl C_traits)), (aN, .inr (1, [.ref aC, .ref aN_holders])), (aN_holders, .inl (cI, 5, .inl N_holders))]) [0, 1, 2, 3] rfl
        refine sw_rd (W.runV (As := [.int q4, .int q3]) (rest := []) ⟨hx, hb, hml, hown, hts⟩ (k_X1_canTake l dC dI cI cZ t0 aC aC_traits aN aN_holders C_total C_traits N_holders q4 q3 q5 hq5) (cwV 2 hts gX1_allows_X1_canTake rfl rfl rfl (by decide +kernel) ⟨Nat.le_of_ble_eq_true rfl, Nat.le_of_ble_eq_true rfl⟩) ⟨sw_PR_bl, va_recv hK hPc (ci := 1) (q0 := 2) rfl rfl, sw_PR_pre hK hPc hE hS⟩ rfl rfl hl.1 rfl (lv_room (Nat.le_of_ble_eq_true rfl)) dX1_allows_51 ⟨Nat.zero_le _, Nat.zero_le _⟩) ?_
        refine lv_if_eq (tgt := 61) hx hb dX1_allows_54 (by decide) (fun c4 => ?_) (fun c4 => ?_)
        · have hf := sw_ip c4 hf
          refine lv_iconst (v := 0) hx hb dX1_allows_61 (by decide) ?_
          subst hQ
          exact W.zret hx hb hr rfl (fun t ht hW => ⟨_, rfl, Option.some.inj hf, ht⟩) (fun _ h => absurd h List.not_mem_nil) dX1_allows_62 hlocks
        · have hf := sw_in c4 hf
          refine lv_iconst (v := 1) hx hb dX1_allows_57 (by decide) ?_
          refine lv_goto (tgt := 62) hx hb dX1_allows_58 (by decide) ?_
          subst hQ
          exact W.zret hx hb hr rfl (fun t ht hW => ⟨_, rfl, Option.some.inj hf, ht⟩) (fun _ h => absurd h List.not_mem_nil) dX1_allows_62 hlocks
    · have hf := sw_in c2 hf
      refine lv_aload_n hx hb dX1_allows_24 rfl (lv_at hl 1 rfl) ?_
      refine lv_iload_n hx hb dX1_allows_25 rfl (lv_at hl 0 rfl) ?_
      refine lv_iload_n hx hb dX1_allows_26 rfl (lv_at hl 2 rfl) ?_
      obtain ⟨q6, hq6, hf⟩ := sw_bs hf
      have hPc := hP.sub (ws' := []) [] rfl
      refine sw_rd (sw_cr (va_runSN (As := [.int l1]) (rest := [.int q2, .ref aN]) ⟨hx, hb, hml, hown, hts⟩ (k_X5_prey l dC dI cI cZ t0 l1 q6 hq6) ⟨va_cnB (host := "SwallowedInTurn") 1 hts gX1_allows_X5_prey_n50 rfl rfl rfl hE.1.2.2.2.2.2.2.2 hw8 (by decide +kernel) ⟨Nat.le_of_ble_eq_true rfl, Nat.le_of_ble_eq_true rfl⟩, hw17, trivial⟩ ⟨sw_PR_bl, sw_PR_pre hK hPc hE hS⟩ rfl rfl hl.1 rfl (lv_room (Nat.le_of_ble_eq_true rfl)) dX1_allows_27 ⟨Nat.zero_le _, Nat.zero_le _⟩)) ?_
      obtain ⟨q7, hq7, hf⟩ := sw_bs hf
      have hPc := hP.sub (ws' := [(aC, .inr (0, [.ref aC_traits, .int C_total])), (aC_traits, .inl (cI, 20, .inl C_traits)), (aN, .inr (1, [.ref aC, .ref aN_holders])), (aN_holders, .inl (cI, 5, .inl N_holders))]) [0, 1, 2, 3] rfl
      refine sw_rd (W.runV (As := [.int q2, .int q6]) (rest := []) ⟨hx, hb, hml, hown, hts⟩ (k_X1_canSwallow l dC dI cI cZ t0 aC aC_traits aN aN_holders C_total C_traits N_holders q2 q6 q7 hq7) (cwV 2 hts gX1_allows_X1_canSwallow rfl rfl rfl (by decide +kernel) ⟨Nat.le_of_ble_eq_true rfl, Nat.le_of_ble_eq_true rfl⟩) ⟨sw_PR_bl, va_recv hK hPc (ci := 1) (q0 := 2) rfl rfl, sw_PR_pre hK hPc hE hS⟩ rfl rfl hl.1 rfl (lv_room (Nat.le_of_ble_eq_true rfl)) dX1_allows_30 ⟨Nat.zero_le _, Nat.zero_le _⟩) ?_
      obtain ⟨hn, hf⟩ := sw_zb_s hf
      subst hQ
      exact W.zret hx hb hr hn (fun t ht hW => ⟨_, rfl, Option.some.inj hf, ht⟩) (fun _ h => absurd h List.not_mem_nil) dX1_allows_33 hlocks
  · have hf := sw_ip c1 hf
    refine lv_iconst (v := 0) hx hb dX1_allows_11 (by decide) ?_
    subst hQ
    exact W.zret hx hb hr rfl (fun t ht hW => ⟨_, rfl, Option.some.inj hf, ht⟩) (fun _ h => absurd h List.not_mem_nil) dX1_allows_12 hlocks
abbrev rm_X1_carryOut : Room := { frames := 3, cells := 0, slots := 0, locals := 72 }
set_option maxHeartbeats 1000000 in
set_option maxRecDepth 100000 in
theorem k_X1_carryOut (l : Launch) (dC : Nat → ClassId) (dI : Nat → Nat → Nat) (cI cZ : ClassId) (t0 : Nat) (sz : Nat) (aC aC_traits aN aN_holders : Nat) (C_total : Int32) (C_traits : Nat → Int32) (N_holders : Nat → Int32) (l1 : Int32) (N_holders' : Nat → Int32) (hf : F_X1_carryOut C_total C_traits N_holders l1 = some (N_holders')) : Met l yX1_carryOut wsX1_carryOut rm_X1_carryOut (sw_PW (dC, dI) t0 [(cI, .int), (cZ, .boolean)] [.ref aN, .int l1] [(aC, .inr (0, [.ref aC_traits, .int C_total])), (aC_traits, .inl (cI, 20, .inl C_traits)), (aN, .inr (1, [.ref aC, .ref aN_holders])), (aN_holders, .inl (cI, 5, .inl N_holders))] sz) (va_Qv (fun (_ : Unit) => True) (fun _ t => sw_B (dC, dI) [(cI, .int), (cZ, .boolean)] [(aC, .inr (0, [.ref aC_traits, .int C_total])), (aC_traits, .inl (cI, 20, .inl C_traits)), (aN, .inr (1, [.ref aC, .ref aN_holders])), (aN_holders, .inl (cI, 5, .inl N_holders'))] (va_A [(aC, .inr (0, [.ref aC_traits, .int C_total])), (aC_traits, .inl (cI, 20, .inl C_traits)), (aN, .inr (1, [.ref aC, .ref aN_holders])), (aN_holders, .inl (cI, 5, .inl N_holders))] sz) t) (va_A [(aC, .inr (0, [.ref aC_traits, .int C_total])), (aC_traits, .inl (cI, 20, .inl C_traits)), (aN, .inr (1, [.ref aC, .ref aN_holders])), (aN_holders, .inl (cI, 5, .inl N_holders))] sz)) 0 0 (va_A [(aC, .inr (0, [.ref aC_traits, .int C_total])), (aC_traits, .inl (cI, 20, .inl C_traits)), (aN, .inr (1, [.ref aC, .ref aN_holders])), (aN_holders, .inl (cI, 5, .inl N_holders))] sz) := by
  refine sw_metW (cc := cX1_carryOut) (maxL := 6) (ret := none) (lv := [(0, .ref aN), (1, .int l1)]) (by decide) rfl (Nat.le_of_ble_eq_true rfl) rfl ?_
  intro p e s m below meth c Q A hsz hAe hQ hx hb hr hts hown hlocks hml hmn hP hK hD hE hS hA ls hl
  have hS0 := hS
  have hown : s.vm.findClass RX1 = some m.cls := hown
  have hf := (F_X1_carryOut.eq_1 _ _ _ _).symm.trans hf
  have hw1 := hts (.fieldLink RX1 9 "SwallowedInTurn$Nesting" "holders" "[I") (List.mem_of_getElem? (i := 1) (by decide +kernel))
  have iX1 : ∀ w ∈ u_ws RX1 TX1 2, w ∈ wsX1_carryOut := by decide +kernel
  have hw3 := hts (.initialized RX5) (List.mem_of_getElem? (i := 3) (by decide +kernel))
  have hw2 := hts (.static yX5_doer) (List.mem_of_getElem? (i := 2) (by decide +kernel))
  have hw5 := hts (.static yX5_prey) (List.mem_of_getElem? (i := 5) (by decide +kernel))
  have hf0 := hf
  clear hf
  have hP0 := hP
  have hD0 := hD
  clear hP hD hS
  have hl0 := hl
  clear hl
  have hB_37 : ∀ (l3 : Int32) (l4 : Int32), ∀ (fu : Nat) (N_holders : Nat → Int32) (l5 : Int32), F_X1_carryOut_37 l3 l4 fu N_holders l5 = some (N_holders') → ∀ (H : Heap) (locs : List Loc), va_P (dC, dI) vwCl [(aC, .inr (0, [.ref aC_traits, .int C_total])), (aC_traits, .inl (cI, 20, .inl C_traits)), (aN, .inr (1, [.ref aC, .ref aN_holders])), (aN_holders, .inl (cI, 5, .inl N_holders))] H → va_D A [(aC, .inr (0, [.ref aC_traits, .int C_total])), (aC_traits, .inl (cI, 20, .inl C_traits)), (aN, .inr (1, [.ref aC, .ref aN_holders])), (aN_holders, .inl (cI, 5, .inl N_holders))] → va_S A s.heap H locs → ∀ ls : Array Slot, lv_has ls 6 [(0, .ref aN), (3, .int l3), (4, .int l4), (5, .int l5)] → W p l e rm_X1_carryOut s m ([.ref aN, .int l1] : List Value).toArray below meth c H locs 0 0 Q (F0 m 37 ls []) := by
    intro l3 l4  fu
    induction fu with
    | zero =>
      intro N_holders l5 hf
      exact nomatch (show (none : Option ((Nat → Int32))) = some (N_holders') from hf)
    | succ fu ih =>
      intro N_holders l5 hf H locs hP hD hS ls hl
      have hf := (F_X1_carryOut_37.eq_2 _ _ _ _ _).symm.trans hf
      refine lv_iload hx hb dX1_carryOut_37 (lv_at hl 3 rfl) ?_
      refine lv_aload_n hx hb dX1_carryOut_39 rfl (lv_at hl 0 rfl) ?_
      refine va_get (D := (dC, dI)) (ci := 1) (v := .ref aN_holders) (C := RX1) (T := TX1) (N := 2) hx hb hts iX1 hown hK hP 2 rfl rfl 1 (by decide) hw1 (fun _ h9 => h9) rfl dX1_carryOut_40 ?_
      refine va_alen hx hb hK hP 3 0 rfl rfl (v := 5) (show Int32.ofNat 5 = 5 by decide +kernel) dX1_carryOut_43 ?_
      refine lv_icmp_ge (tgt := 72) hx hb dX1_carryOut_44 (by decide) (fun c1 => ?_) (fun c1 => ?_)
      · have hf := sw_ip c1 hf
        subst hQ hAe
        cases hf
        exact W.vret hx hb hr (fun t ht hW => ⟨⟨(), rfl, trivial, ⟨by rw [ht]; exact hP, va_K.moved hW.alike hK, hD⟩⟩, hS.F ht⟩) hS.2.2 dX1_carryOut_72 hlocks
      · have hf := sw_in c1 hf
        refine lv_iload_n hx hb dX1_carryOut_47 rfl (lv_at hl 1 rfl) ?_
        refine lv_iload hx hb dX1_carryOut_48 (lv_at hl 3 rfl) ?_
        refine lv_ishr hx hb dX1_carryOut_50 ?_
        refine lv_iconst (v := 1) hx hb dX1_carryOut_51 (by decide) ?_
        refine lv_iand hx hb dX1_carryOut_52 ?_
        refine lv_iconst (v := 1) hx hb dX1_carryOut_53 (by decide) ?_
        refine lv_icmp_ne (tgt := 66) hx hb dX1_carryOut_54 (by decide) (fun c2 => ?_) (fun c2 => ?_)
        · have hf := sw_in c2 hf
          refine lv_iinc (v := l5 + (1 : Int32)) (lv' := [(5, .int (l5 + (1 : Int32))), (0, .ref aN), (3, .int l3), (4, .int l4)]) hx hb dX1_carryOut_66 hl (k := 3) rfl (sw_ii _) (by decide) rfl (fun ls hl => ?_)
          refine lv_goto (tgt := 37) hx hb dX1_carryOut_69 (by decide) ?_
          exact ih N_holders (l5 + (1 : Int32)) hf H locs hP hD hS ls (lv_sub hl [1, 2, 3, 0] rfl)
        · have hf := sw_ip c2 hf
          refine lv_aload_n hx hb dX1_carryOut_57 rfl (lv_at hl 0 rfl) ?_
          refine va_get (D := (dC, dI)) (ci := 1) (v := .ref aN_holders) (C := RX1) (T := TX1) (N := 2) hx hb hts iX1 hown hK hP 2 rfl rfl 1 (by decide) hw1 (fun _ h9 => h9) rfl dX1_carryOut_58 ?_
          refine lv_iload hx hb dX1_carryOut_61 (lv_at hl 3 rfl) ?_
          refine lv_iload hx hb dX1_carryOut_63 (lv_at hl 2 rfl) ?_
          obtain ⟨hi1, hf⟩ := sw_ix_s hf
          refine va_iast hx hb hK hP hD hS 3 0 rfl rfl hi1 dX1_carryOut_65 (fun H locs hP hD hS => ?_)
          have hP : va_P (dC, dI) vwCl [(aC, .inr (0, [.ref aC_traits, .int C_total])), (aC_traits, .inl (cI, 20, .inl C_traits)), (aN, .inr (1, [.ref aC, .ref aN_holders])), (aN_holders, .inl (cI, 5, .inl (upd N_holders l5.toNatClampNeg l4)))] H := hP
          have hD : va_D A [(aC, .inr (0, [.ref aC_traits, .int C_total])), (aC_traits, .inl (cI, 20, .inl C_traits)), (aN, .inr (1, [.ref aC, .ref aN_holders])), (aN_holders, .inl (cI, 5, .inl (upd N_holders l5.toNatClampNeg l4)))] := hD
          refine lv_iinc (v := l5 + (1 : Int32)) (lv' := [(5, .int (l5 + (1 : Int32))), (0, .ref aN), (3, .int l3), (4, .int l4)]) hx hb dX1_carryOut_66 hl (k := 3) rfl (sw_ii _) (by decide) rfl (fun ls hl => ?_)
          refine lv_goto (tgt := 37) hx hb dX1_carryOut_69 (by decide) ?_
          exact ih (upd N_holders l5.toNatClampNeg l4) (l5 + (1 : Int32)) hf H locs hP hD hS ls (lv_sub hl [1, 2, 3, 0] rfl)
  have hf := hf0
  have hl := hl0
  have hP := hP0
  have hD := hD0
  have hS := hS0
  obtain ⟨H, hH⟩ : ∃ H, H = s.heap := ⟨_, rfl⟩
  obtain ⟨locs, hlo⟩ : ∃ locs : List Loc, locs = [] := ⟨_, rfl⟩
  rw [← hH] at hP
  have hS : va_S A s.heap H locs := by rw [hH, hlo]; exact hS0
  suffices hgo : W p l e rm_X1_carryOut s m ([.ref aN, .int l1] : List Value).toArray below meth c H locs 0 0 Q (F0 m 0 ls []) by rw [hH, hlo] at hgo; exact hgo
  refine lv_iload_n hx hb dX1_carryOut_0 rfl (lv_at hl 1 rfl) ?_
  obtain ⟨q2, hq2, hf⟩ := sw_bs hf
  have hPc := hP.sub (ws' := []) [] rfl
  refine sw_rd (sw_cr (va_runSN (As := [.int l1]) (rest := []) ⟨hx, hb, hml, hown, hts⟩ (k_X5_doer l dC dI cI cZ t0 l1 q2 hq2) ⟨va_cnB (host := "SwallowedInTurn") 1 hts gX1_carryOut_X5_doer_n47 rfl rfl rfl hE.1.2.2.2.2.2.2.1 hw3 (by decide +kernel) ⟨Nat.le_of_ble_eq_true rfl, Nat.le_of_ble_eq_true rfl⟩, hw2, trivial⟩ ⟨sw_PR_bl, sw_PR_pre hK hPc hE hS⟩ rfl rfl hl.1 rfl (lv_room (Nat.le_of_ble_eq_true rfl)) dX1_carryOut_1 ⟨Nat.zero_le _, Nat.zero_le _⟩)) ?_
  refine lv_istore_n (lv' := [(2, .int q2), (0, .ref aN), (1, .int l1)]) hx hb dX1_carryOut_4 rfl hl (by decide) rfl (fun ls hl => ?_)
  refine lv_iload_n hx hb dX1_carryOut_5 rfl (lv_at hl 2 rfl) ?_
  refine lv_bipush (v := 25) hx hb dX1_carryOut_6 (by decide) ?_
  refine lv_icmp_ge (tgt := 21) hx hb dX1_carryOut_8 (by decide) (fun c3 => ?_) (fun c3 => ?_)
  · have hf := sw_ip c3 hf
    refine lv_aload_n hx hb dX1_carryOut_21 rfl (lv_at hl 1 rfl) ?_
    refine lv_iload_n hx hb dX1_carryOut_22 rfl (lv_at hl 2 rfl) ?_
    obtain ⟨q3, hq3, hf⟩ := sw_bs hf
    have hPc := hP.sub (ws' := [(aC, .inr (0, [.ref aC_traits, .int C_total])), (aC_traits, .inl (cI, 20, .inl C_traits)), (aN, .inr (1, [.ref aC, .ref aN_holders])), (aN_holders, .inl (cI, 5, .inl N_holders))]) [0, 1, 2, 3] rfl
    refine sw_rd (W.runV (As := [.int l1]) (rest := []) ⟨hx, hb, hml, hown, hts⟩ (k_X1_comingOut l dC dI cI cZ t0 aC aC_traits aN aN_holders C_total C_traits N_holders l1 q3 hq3) (cwV 1 hts gX1_carryOut_X1_comingOut rfl rfl rfl (by decide +kernel) ⟨Nat.le_of_ble_eq_true rfl, Nat.le_of_ble_eq_true rfl⟩) ⟨sw_PR_bl, va_recv hK hPc (ci := 1) (q0 := 2) rfl rfl, sw_PR_pre hK hPc hE hS⟩ rfl rfl hl.1 rfl (lv_room (Nat.le_of_ble_eq_true rfl)) dX1_carryOut_23 ⟨Nat.zero_le _, Nat.zero_le _⟩) ?_
    refine lv_istore_n (lv' := [(3, .int q3), (2, .int q2), (0, .ref aN), (1, .int l1)]) hx hb dX1_carryOut_26 rfl hl (by decide) rfl (fun ls hl => ?_)
    refine lv_aload_n hx hb dX1_carryOut_27 rfl (lv_at hl 2 rfl) ?_
    refine lv_iload_n hx hb dX1_carryOut_28 rfl (lv_at hl 1 rfl) ?_
    obtain ⟨q4, hq4, hf⟩ := sw_bs hf
    have hPc := hP.sub (ws' := [(aN, .inr (1, [.ref aC, .ref aN_holders])), (aN_holders, .inl (cI, 5, .inl N_holders))]) [2, 3] rfl
    refine sw_rd (W.runV (As := [.int q2]) (rest := []) ⟨hx, hb, hml, hown, hts⟩ (k_X1_holder l dC dI cI cZ t0 aN aC aN_holders N_holders q2 q4 hq4) (cwV 1 hts gX1_carryOut_X1_holder rfl rfl rfl (by decide +kernel) ⟨Nat.le_of_ble_eq_true rfl, Nat.le_of_ble_eq_true rfl⟩) ⟨sw_PR_bl, va_recv hK hPc (ci := 1) (q0 := 0) rfl rfl, sw_PR_pre hK hPc hE hS⟩ rfl rfl hl.1 rfl (lv_room (Nat.le_of_ble_eq_true rfl)) dX1_carryOut_29 ⟨Nat.zero_le _, Nat.zero_le _⟩) ?_
    refine lv_istore (lv' := [(4, .int q4), (3, .int q3), (2, .int q2), (0, .ref aN), (1, .int l1)]) hx hb dX1_carryOut_32 hl (by decide) rfl (fun ls hl => ?_)
    refine lv_iconst (v := 0) hx hb dX1_carryOut_34 (by decide) ?_
    refine lv_istore (lv' := [(5, .int (0 : Int32)), (4, .int q4), (3, .int q3), (2, .int q2), (0, .ref aN), (1, .int l1)]) hx hb dX1_carryOut_35 hl (by decide) rfl (fun ls hl => ?_)
    exact hB_37 q3 q4  sw_fu N_holders (0 : Int32) hf H locs hP hD hS ls (lv_sub hl [4, 2, 1, 0] rfl)
  · have hf := sw_in c3 hf
    refine lv_aload_n hx hb dX1_carryOut_11 rfl (lv_at hl 1 rfl) ?_
    refine lv_iload_n hx hb dX1_carryOut_12 rfl (lv_at hl 2 rfl) ?_
    obtain ⟨q5, hq5, hf⟩ := sw_bs hf
    have hPc := hP.sub (ws' := []) [] rfl
    refine sw_rd (sw_cr (va_runSN (As := [.int l1]) (rest := [.ref aN]) ⟨hx, hb, hml, hown, hts⟩ (k_X5_prey l dC dI cI cZ t0 l1 q5 hq5) ⟨va_cnB (host := "SwallowedInTurn") 1 hts gX1_carryOut_X5_prey_n50 rfl rfl rfl hE.1.2.2.2.2.2.2.2 hw3 (by decide +kernel) ⟨Nat.le_of_ble_eq_true rfl, Nat.le_of_ble_eq_true rfl⟩, hw5, trivial⟩ ⟨sw_PR_bl, sw_PR_pre hK hPc hE hS⟩ rfl rfl hl.1 rfl (lv_room (Nat.le_of_ble_eq_true rfl)) dX1_carryOut_13 ⟨Nat.zero_le _, Nat.zero_le _⟩)) ?_
    refine lv_iload_n hx hb dX1_carryOut_16 rfl (lv_at hl 0 rfl) ?_
    obtain ⟨q6, hq6, hf⟩ := sw_bs hf
    have hPc := hP.sub (ws' := [(aN, .inr (1, [.ref aC, .ref aN_holders])), (aN_holders, .inl (cI, 5, .inl N_holders))]) [2, 3] rfl
    have hDc := hD.sub (ws' := [(aN, .inr (1, [.ref aC, .ref aN_holders])), (aN_holders, .inl (cI, 5, .inl N_holders))]) [2, 3] (by decide) rfl
    have hFc := va_free (wc := [(aN, .inr (1, [.ref aC, .ref aN_holders])), (aN_holders, .inl (cI, 5, .inl N_holders))]) hD hS hA [2, 3] rfl
    refine sw_wv (wn := [(aC, .inr (0, [.ref aC_traits, .int C_total])), (aC_traits, .inl (cI, 20, .inl C_traits)), (aN, .inr (1, [.ref aC, .ref aN_holders])), (aN_holders, .inl (cI, 5, .inl q6))]) (w1 := [(aN, .inr (1, [.ref aC, .ref aN_holders])), (aN_holders, .inl (cI, 5, .inl q6))]) (wr := [(aC, .inr (0, [.ref aC_traits, .int C_total])), (aC_traits, .inl (cI, 20, .inl C_traits))]) (va_runV (As := [.int q5, .int q2]) (rest := []) ⟨hx, hb, hml, hown, hts⟩ (k_X1_put l dC dI cI cZ t0 H.size aN aC aN_holders N_holders q5 q2 q6 hq6) (cwV 2 hts gX1_carryOut_X1_put rfl rfl rfl (by decide +kernel) ⟨Nat.le_of_ble_eq_true rfl, Nat.le_of_ble_eq_true rfl⟩) ⟨sw_PW_bl, va_recv hK hPc (ci := 1) (q0 := 0) rfl rfl, sw_PW_pre hK hPc hDc hE hS hFc⟩ rfl rfl hl.1 rfl (lv_room (Nat.le_of_ble_eq_true rfl)) dX1_carryOut_17 ⟨Nat.zero_le _, Nat.zero_le _⟩) hS hP hD hFc [2, 3] [0, 1] [0, 1, 2, 3] rfl rfl (by decide) (by decide) (by decide) rfl (fun H locs hP hD hS => ?_)
    subst hQ hAe
    cases hf
    exact W.vret hx hb hr (fun t ht hW => ⟨⟨(), rfl, trivial, ⟨by rw [ht]; exact hP, va_K.moved hW.alike hK, hD⟩⟩, hS.F ht⟩) hS.2.2 dX1_carryOut_20 hlocks
abbrev rm_X1_choices : Room := { frames := 4, cells := 0, slots := 0, locals := 95 }
set_option maxHeartbeats 1000000 in
set_option maxRecDepth 100000 in
theorem k_X1_choices (l : Launch) (dC : Nat → ClassId) (dI : Nat → Nat → Nat) (cI cZ : ClassId) (t0 : Nat) (aC aC_traits aN aN_holders : Nat) (C_total : Int32) (C_traits : Nat → Int32) (N_holders : Nat → Int32) (rv : Int32)  (hf : F_X1_choices C_total C_traits N_holders = some (rv)) : Met l yX1_choices wsX1_choices rm_X1_choices (sw_PR (dC, dI) t0 [(cI, .int), (cZ, .boolean)] [.ref aN] [(aC, .inr (0, [.ref aC_traits, .int C_total])), (aC_traits, .inl (cI, 20, .inl C_traits)), (aN, .inr (1, [.ref aC, .ref aN_holders])), (aN_holders, .inl (cI, 5, .inl N_holders))]) (vp_Si (fun r => r = rv)) 0 0 (fun _ => False) := by
  refine sw_metR (cc := cX1_choices) (maxL := 3) (ret := (some .int)) (lv := [(0, .ref aN)]) (by decide) rfl (Nat.le_of_ble_eq_true rfl) rfl ?_
  intro p e s m below meth c Q hQ hx hb hr hts hown hlocks hml hP hK hE hS ls hl
  have hown : s.vm.findClass RX1 = some m.cls := hown
  have hf := (F_X1_choices.eq_1 _ _ _).symm.trans hf
  have hf0 := hf
  clear hf
  have hl0 := hl
  clear hl
  have hB_4 :  ∀ (fu : Nat) (l1 : Int32) (l2 : Int32), F_X1_choices_4 C_total C_traits N_holders fu l1 l2 = some (rv) → ∀ ls : Array Slot, lv_has ls 3 [(0, .ref aN), (1, .int l1), (2, .int l2)] → W p l e rm_X1_choices s m ([.ref aN] : List Value).toArray below meth c s.heap [] 0 0 Q (F0 m 4 ls []) := by
    intro   fu
    induction fu with
    | zero =>
      intro l1 l2 hf
      exact nomatch (show (none : Option (Int32)) = some (rv) from hf)
    | succ fu ih =>
      intro l1 l2 hf ls hl
      have hf := (F_X1_choices_4.eq_2 _ _ _ _ _ _).symm.trans hf
      refine lv_iload_n hx hb dX1_choices_4 rfl (lv_at hl 2 rfl) ?_
      refine lv_bipush (v := 45) hx hb dX1_choices_5 (by decide) ?_
      refine lv_icmp_ge (tgt := 27) hx hb dX1_choices_7 (by decide) (fun c1 => ?_) (fun c1 => ?_)
      · have hf := sw_ip c1 hf
        refine lv_iload_n hx hb dX1_choices_27 rfl (lv_at hl 1 rfl) ?_
        subst hQ
        exact W.iret hx hb hr (fun t ht hW => ⟨_, rfl, Option.some.inj hf, ht⟩) (fun _ h => absurd h List.not_mem_nil) dX1_choices_28 hlocks
      · have hf := sw_in c1 hf
        refine lv_aload_n hx hb dX1_choices_10 rfl (lv_at hl 0 rfl) ?_
        refine lv_iload_n hx hb dX1_choices_11 rfl (lv_at hl 2 rfl) ?_
        obtain ⟨q1, hq1, hf⟩ := sw_bs hf
        have hPc := hP.sub (ws' := [(aC, .inr (0, [.ref aC_traits, .int C_total])), (aC_traits, .inl (cI, 20, .inl C_traits)), (aN, .inr (1, [.ref aC, .ref aN_holders])), (aN_holders, .inl (cI, 5, .inl N_holders))]) [0, 1, 2, 3] rfl
        refine sw_rd (W.runV (As := [.int l2]) (rest := []) ⟨hx, hb, hml, hown, hts⟩ (k_X1_allows l dC dI cI cZ t0 aC aC_traits aN aN_holders C_total C_traits N_holders l2 q1 hq1) (cwV 1 hts gX1_choices_X1_allows rfl rfl rfl (by decide +kernel) ⟨Nat.le_of_ble_eq_true rfl, Nat.le_of_ble_eq_true rfl⟩) ⟨sw_PR_bl, va_recv hK hPc (ci := 1) (q0 := 2) rfl rfl, sw_PR_pre hK hPc hE hS⟩ rfl rfl hl.1 rfl (lv_room (Nat.le_of_ble_eq_true rfl)) dX1_choices_12 ⟨Nat.zero_le _, Nat.zero_le _⟩) ?_
        refine lv_if_eq (tgt := 21) hx hb dX1_choices_15 (by decide) (fun c2 => ?_) (fun c2 => ?_)
        · have hf := sw_ip c2 hf
          refine lv_iinc (v := l2 + (1 : Int32)) (lv' := [(2, .int (l2 + (1 : Int32))), (0, .ref aN), (1, .int l1)]) hx hb dX1_choices_21 hl (k := 2) rfl (sw_ii _) (by decide) rfl (fun ls hl => ?_)
          refine lv_goto (tgt := 4) hx hb dX1_choices_24 (by decide) ?_
          exact ih l1 (l2 + (1 : Int32)) hf ls (lv_sub hl [1, 2, 0] rfl)
        · have hf := sw_in c2 hf
          refine lv_iinc (v := l1 + (1 : Int32)) (lv' := [(1, .int (l1 + (1 : Int32))), (0, .ref aN), (2, .int l2)]) hx hb dX1_choices_18 hl (k := 1) rfl (sw_ii _) (by decide) rfl (fun ls hl => ?_)
          refine lv_iinc (v := l2 + (1 : Int32)) (lv' := [(2, .int (l2 + (1 : Int32))), (1, .int (l1 + (1 : Int32))), (0, .ref aN)]) hx hb dX1_choices_21 hl (k := 2) rfl (sw_ii _) (by decide) rfl (fun ls hl => ?_)
          refine lv_goto (tgt := 4) hx hb dX1_choices_24 (by decide) ?_
          exact ih (l1 + (1 : Int32)) (l2 + (1 : Int32)) hf ls (lv_sub hl [2, 1, 0] rfl)
  have hf := hf0
  have hl := hl0
  refine lv_iconst (v := 0) hx hb dX1_choices_0 (by decide) ?_
  refine lv_istore_n (lv' := [(1, .int (0 : Int32)), (0, .ref aN)]) hx hb dX1_choices_1 rfl hl (by decide) rfl (fun ls hl => ?_)
  refine lv_iconst (v := 0) hx hb dX1_choices_2 (by decide) ?_
  refine lv_istore_n (lv' := [(2, .int (0 : Int32)), (1, .int (0 : Int32)), (0, .ref aN)]) hx hb dX1_choices_3 rfl hl (by decide) rfl (fun ls hl => ?_)
  exact hB_4   sw_fu (0 : Int32) (0 : Int32) hf ls (lv_sub hl [2, 1, 0] rfl)
abbrev rm_X1_choiceAt : Room := { frames := 4, cells := 0, slots := 0, locals := 95 }
set_option maxHeartbeats 1000000 in
set_option maxRecDepth 100000 in
theorem k_X1_choiceAt (l : Launch) (dC : Nat → ClassId) (dI : Nat → Nat → Nat) (cI cZ : ClassId) (t0 : Nat) (aC aC_traits aN aN_holders : Nat) (C_total : Int32) (C_traits : Nat → Int32) (N_holders : Nat → Int32) (l1 : Int32) (rv : Int32)  (hf : F_X1_choiceAt C_total C_traits N_holders l1 = some (rv)) : Met l yX1_choiceAt wsX1_choiceAt rm_X1_choiceAt (sw_PR (dC, dI) t0 [(cI, .int), (cZ, .boolean)] [.ref aN, .int l1] [(aC, .inr (0, [.ref aC_traits, .int C_total])), (aC_traits, .inl (cI, 20, .inl C_traits)), (aN, .inr (1, [.ref aC, .ref aN_holders])), (aN_holders, .inl (cI, 5, .inl N_holders))]) (vp_Si (fun r => r = rv)) 0 0 (fun _ => False) := by
  refine sw_metR (cc := cX1_choiceAt) (maxL := 4) (ret := (some .int)) (lv := [(0, .ref aN), (1, .int l1)]) (by decide) rfl (Nat.le_of_ble_eq_true rfl) rfl ?_
  intro p e s m below meth c Q hQ hx hb hr hts hown hlocks hml hP hK hE hS ls hl
  have hown : s.vm.findClass RX1 = some m.cls := hown
  have hf := (F_X1_choiceAt.eq_1 _ _ _ _).symm.trans hf
  have hf0 := hf
  clear hf
  have hl0 := hl
  clear hl
  have hB_4 :  ∀ (fu : Nat) (l2 : Int32) (l3 : Int32), F_X1_choiceAt_4 C_total C_traits N_holders l1 fu l2 l3 = some (rv) → ∀ ls : Array Slot, lv_has ls 4 [(0, .ref aN), (1, .int l1), (2, .int l2), (3, .int l3)] → W p l e rm_X1_choiceAt s m ([.ref aN, .int l1] : List Value).toArray below meth c s.heap [] 0 0 Q (F0 m 4 ls []) := by
    intro   fu
    induction fu with
    | zero =>
      intro l2 l3 hf
      exact nomatch (show (none : Option (Int32)) = some (rv) from hf)
    | succ fu ih =>
      intro l2 l3 hf ls hl
      have hf := (F_X1_choiceAt_4.eq_2 _ _ _ _ _ _ _).symm.trans hf
      refine lv_iload_n hx hb dX1_choiceAt_4 rfl (lv_at hl 3 rfl) ?_
      refine lv_bipush (v := 45) hx hb dX1_choiceAt_5 (by decide) ?_
      refine lv_icmp_ge (tgt := 34) hx hb dX1_choiceAt_7 (by decide) (fun c1 => ?_) (fun c1 => ?_)
      · have hf := sw_ip c1 hf
        refine lv_iconst (v := -1) hx hb dX1_choiceAt_34 (by decide) ?_
        subst hQ
        exact W.iret hx hb hr (fun t ht hW => ⟨_, rfl, Option.some.inj hf, ht⟩) (fun _ h => absurd h List.not_mem_nil) dX1_choiceAt_35 hlocks
      · have hf := sw_in c1 hf
        refine lv_aload_n hx hb dX1_choiceAt_10 rfl (lv_at hl 0 rfl) ?_
        refine lv_iload_n hx hb dX1_choiceAt_11 rfl (lv_at hl 3 rfl) ?_
        obtain ⟨q1, hq1, hf⟩ := sw_bs hf
        have hPc := hP.sub (ws' := [(aC, .inr (0, [.ref aC_traits, .int C_total])), (aC_traits, .inl (cI, 20, .inl C_traits)), (aN, .inr (1, [.ref aC, .ref aN_holders])), (aN_holders, .inl (cI, 5, .inl N_holders))]) [0, 1, 2, 3] rfl
        refine sw_rd (W.runV (As := [.int l3]) (rest := []) ⟨hx, hb, hml, hown, hts⟩ (k_X1_allows l dC dI cI cZ t0 aC aC_traits aN aN_holders C_total C_traits N_holders l3 q1 hq1) (cwV 1 hts gX1_choiceAt_X1_allows rfl rfl rfl (by decide +kernel) ⟨Nat.le_of_ble_eq_true rfl, Nat.le_of_ble_eq_true rfl⟩) ⟨sw_PR_bl, va_recv hK hPc (ci := 1) (q0 := 2) rfl rfl, sw_PR_pre hK hPc hE hS⟩ rfl rfl hl.1 rfl (lv_room (Nat.le_of_ble_eq_true rfl)) dX1_choiceAt_12 ⟨Nat.zero_le _, Nat.zero_le _⟩) ?_
        refine lv_if_eq (tgt := 28) hx hb dX1_choiceAt_15 (by decide) (fun c2 => ?_) (fun c2 => ?_)
        · have hf := sw_ip c2 hf
          refine lv_iinc (v := l3 + (1 : Int32)) (lv' := [(3, .int (l3 + (1 : Int32))), (0, .ref aN), (1, .int l1), (2, .int l2)]) hx hb dX1_choiceAt_28 hl (k := 3) rfl (sw_ii _) (by decide) rfl (fun ls hl => ?_)
          refine lv_goto (tgt := 4) hx hb dX1_choiceAt_31 (by decide) ?_
          exact ih l2 (l3 + (1 : Int32)) hf ls (lv_sub hl [1, 2, 3, 0] rfl)
        · have hf := sw_in c2 hf
          refine lv_iload_n hx hb dX1_choiceAt_18 rfl (lv_at hl 2 rfl) ?_
          refine lv_iload_n hx hb dX1_choiceAt_19 rfl (lv_at hl 1 rfl) ?_
          refine lv_icmp_ne (tgt := 25) hx hb dX1_choiceAt_20 (by decide) (fun c3 => ?_) (fun c3 => ?_)
          · have hf := sw_in c3 hf
            refine lv_iinc (v := l2 + (1 : Int32)) (lv' := [(2, .int (l2 + (1 : Int32))), (0, .ref aN), (1, .int l1), (3, .int l3)]) hx hb dX1_choiceAt_25 hl (k := 2) rfl (sw_ii _) (by decide) rfl (fun ls hl => ?_)
            refine lv_iinc (v := l3 + (1 : Int32)) (lv' := [(3, .int (l3 + (1 : Int32))), (2, .int (l2 + (1 : Int32))), (0, .ref aN), (1, .int l1)]) hx hb dX1_choiceAt_28 hl (k := 3) rfl (sw_ii _) (by decide) rfl (fun ls hl => ?_)
            refine lv_goto (tgt := 4) hx hb dX1_choiceAt_31 (by decide) ?_
            exact ih (l2 + (1 : Int32)) (l3 + (1 : Int32)) hf ls (lv_sub hl [2, 3, 1, 0] rfl)
          · have hf := sw_ip c3 hf
            refine lv_iload_n hx hb dX1_choiceAt_23 rfl (lv_at hl 3 rfl) ?_
            subst hQ
            exact W.iret hx hb hr (fun t ht hW => ⟨_, rfl, Option.some.inj hf, ht⟩) (fun _ h => absurd h List.not_mem_nil) dX1_choiceAt_24 hlocks
  have hf := hf0
  have hl := hl0
  refine lv_iconst (v := 0) hx hb dX1_choiceAt_0 (by decide) ?_
  refine lv_istore_n (lv' := [(2, .int (0 : Int32)), (0, .ref aN), (1, .int l1)]) hx hb dX1_choiceAt_1 rfl hl (by decide) rfl (fun ls hl => ?_)
  refine lv_iconst (v := 0) hx hb dX1_choiceAt_2 (by decide) ?_
  refine lv_istore_n (lv' := [(3, .int (0 : Int32)), (2, .int (0 : Int32)), (0, .ref aN), (1, .int l1)]) hx hb dX1_choiceAt_3 rfl hl (by decide) rfl (fun ls hl => ?_)
  exact hB_4   sw_fu (0 : Int32) (0 : Int32) hf ls (lv_sub hl [2, 3, 1, 0] rfl)
