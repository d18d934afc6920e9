abbrev rm_X5_doer : Room := { frames := 0, cells := 0, slots := 0, locals := 0 }
set_option maxHeartbeats 1000000 in
set_option maxRecDepth 100000 in
theorem k_X5_doer (l : Launch) (dC : Nat → ClassId) (dI : Nat → Nat → Nat) (cI cZ : ClassId) (t0 : Nat) (l0 : Int32) (rv : Int32)  (hf : F_X5_doer l0 = some (rv)) : Met l yX5_doer wsX5_doer rm_X5_doer (sw_PR (dC, dI) t0 [(cI, .int), (cZ, .boolean)] [.int l0] []) (vp_Si (fun r => r = rv)) 0 0 (fun _ => False) := by
  refine sw_metR (cc := cX5_doer) (maxL := 1) (ret := (some .int)) (lv := [(0, .int l0)]) (by decide) rfl (Nat.le_of_ble_eq_true rfl) rfl ?_
  intro p e s m below meth c Q hQ hx hb hr hts hown hlocks hml hP hK hE hS ls hl
  have hown : s.vm.findClass RX5 = some m.cls := hown
  have hf := (F_X5_doer.eq_1 _).symm.trans hf
  refine lv_iload_n hx hb dX5_doer_0 rfl (lv_at hl 0 rfl) ?_
  refine lv_bipush (v := 25) hx hb dX5_doer_1 (by decide) ?_
  refine lv_icmp_ge (tgt := 12) hx hb dX5_doer_3 (by decide) (fun c1 => ?_) (fun c1 => ?_)
  · have hf := sw_ip c1 hf
    refine lv_iload_n hx hb dX5_doer_12 rfl (lv_at hl 0 rfl) ?_
    refine lv_bipush (v := 10) hx hb dX5_doer_13 (by decide) ?_
    refine lv_irem hx hb dX5_doer_15 (by decide) ?_
    subst hQ
    exact W.iret hx hb hr (fun t ht hW => ⟨_, rfl, Option.some.inj hf, ht⟩) (fun _ h => absurd h List.not_mem_nil) dX5_doer_16 hlocks
  · have hf := sw_in c1 hf
    refine lv_iload_n hx hb dX5_doer_6 rfl (lv_at hl 0 rfl) ?_
    refine lv_iconst (v := 5) hx hb dX5_doer_7 (by decide) ?_
    refine lv_idiv hx hb dX5_doer_8 (by decide) ?_
    refine lv_goto (tgt := 16) hx hb dX5_doer_9 (by decide) ?_
    subst hQ
    exact W.iret hx hb hr (fun t ht hW => ⟨_, rfl, Option.some.inj hf, ht⟩) (fun _ h => absurd h List.not_mem_nil) dX5_doer_16 hlocks
abbrev rm_X5_isDeed : Room := { frames := 0, cells := 0, slots := 0, locals := 0 }
set_option maxHeartbeats 1000000 in
set_option maxRecDepth 100000 in
theorem k_X5_isDeed (l : Launch) (dC : Nat → ClassId) (dI : Nat → Nat → Nat) (cI cZ : ClassId) (t0 : Nat) (l0 : Int32) (rv : Int32)  (hf : F_X5_isDeed l0 = some (rv)) : Met l yX5_isDeed wsX5_isDeed rm_X5_isDeed (sw_PR (dC, dI) t0 [(cI, .int), (cZ, .boolean)] [.int l0] []) (vp_Si (fun r => r = rv)) 0 0 (fun _ => False) := by
  refine sw_metR (cc := cX5_isDeed) (maxL := 1) (ret := (some .boolean)) (lv := [(0, .int l0)]) (by decide) rfl (Nat.le_of_ble_eq_true rfl) rfl ?_
  intro p e s m below meth c Q hQ hx hb hr hts hown hlocks hml hP hK hE hS ls hl
  have hown : s.vm.findClass RX5 = some m.cls := hown
  have hf := (F_X5_isDeed.eq_1 _).symm.trans hf
  refine lv_iload_n hx hb dX5_isDeed_0 rfl (lv_at hl 0 rfl) ?_
  refine lv_if_lt (tgt := 10) hx hb dX5_isDeed_1 (by decide) (fun c1 => ?_) (fun c1 => ?_)
  · have hf := sw_ip c1 hf
    refine lv_iconst (v := 0) hx hb dX5_isDeed_10 (by decide) ?_
    subst hQ
    exact W.zret hx hb hr rfl (fun t ht hW => ⟨_, rfl, Option.some.inj hf, ht⟩) (fun _ h => absurd h List.not_mem_nil) dX5_isDeed_11 hlocks
  · have hf := sw_in c1 hf
    refine lv_iload_n hx hb dX5_isDeed_4 rfl (lv_at hl 0 rfl) ?_
    refine lv_bipush (v := 45) hx hb dX5_isDeed_5 (by decide) ?_
    refine lv_icmp_lt (tgt := 12) hx hb dX5_isDeed_7 (by decide) (fun c2 => ?_) (fun c2 => ?_)
    · have hf := sw_ip c2 hf
      refine lv_iload_n hx hb dX5_isDeed_12 rfl (lv_at hl 0 rfl) ?_
      refine lv_bipush (v := 25) hx hb dX5_isDeed_13 (by decide) ?_
      refine lv_icmp_lt (tgt := 32) hx hb dX5_isDeed_15 (by decide) (fun c3 => ?_) (fun c3 => ?_)
      · have hf := sw_ip c3 hf
        refine lv_iconst (v := 1) hx hb dX5_isDeed_32 (by decide) ?_
        refine lv_goto (tgt := 37) hx hb dX5_isDeed_33 (by decide) ?_
        subst hQ
        exact W.zret hx hb hr rfl (fun t ht hW => ⟨_, rfl, Option.some.inj hf, ht⟩) (fun _ h => absurd h List.not_mem_nil) dX5_isDeed_37 hlocks
      · have hf := sw_in c3 hf
        refine lv_iload_n hx hb dX5_isDeed_18 rfl (lv_at hl 0 rfl) ?_
        refine lv_bipush (v := 30) hx hb dX5_isDeed_19 (by decide) ?_
        refine lv_icmp_lt (tgt := 36) hx hb dX5_isDeed_21 (by decide) (fun c4 => ?_) (fun c4 => ?_)
        · have hf := sw_ip c4 hf
          refine lv_iconst (v := 0) hx hb dX5_isDeed_36 (by decide) ?_
          subst hQ
          exact W.zret hx hb hr rfl (fun t ht hW => ⟨_, rfl, Option.some.inj hf, ht⟩) (fun _ h => absurd h List.not_mem_nil) dX5_isDeed_37 hlocks
        · have hf := sw_in c4 hf
          refine lv_iload_n hx hb dX5_isDeed_24 rfl (lv_at hl 0 rfl) ?_
          refine lv_bipush (v := 10) hx hb dX5_isDeed_25 (by decide) ?_
          refine lv_irem hx hb dX5_isDeed_27 (by decide) ?_
          refine lv_iconst (v := 5) hx hb dX5_isDeed_28 (by decide) ?_
          refine lv_icmp_ge (tgt := 36) hx hb dX5_isDeed_29 (by decide) (fun c5 => ?_) (fun c5 => ?_)
          · have hf := sw_ip c5 hf
            refine lv_iconst (v := 0) hx hb dX5_isDeed_36 (by decide) ?_
            subst hQ
            exact W.zret hx hb hr rfl (fun t ht hW => ⟨_, rfl, Option.some.inj hf, ht⟩) (fun _ h => absurd h List.not_mem_nil) dX5_isDeed_37 hlocks
          · have hf := sw_in c5 hf
            refine lv_iconst (v := 1) hx hb dX5_isDeed_32 (by decide) ?_
            refine lv_goto (tgt := 37) hx hb dX5_isDeed_33 (by decide) ?_
            subst hQ
            exact W.zret hx hb hr rfl (fun t ht hW => ⟨_, rfl, Option.some.inj hf, ht⟩) (fun _ h => absurd h List.not_mem_nil) dX5_isDeed_37 hlocks
    · have hf := sw_in c2 hf
      refine lv_iconst (v := 0) hx hb dX5_isDeed_10 (by decide) ?_
      subst hQ
      exact W.zret hx hb hr rfl (fun t ht hW => ⟨_, rfl, Option.some.inj hf, ht⟩) (fun _ h => absurd h List.not_mem_nil) dX5_isDeed_11 hlocks
abbrev rm_X5_prey : Room := { frames := 1, cells := 0, slots := 0, locals := 20 }
set_option maxHeartbeats 1000000 in
set_option maxRecDepth 100000 in
theorem k_X5_prey (l : Launch) (dC : Nat → ClassId) (dI : Nat → Nat → Nat) (cI cZ : ClassId) (t0 : Nat) (l0 : Int32) (rv : Int32)  (hf : F_X5_prey l0 = some (rv)) : Met l yX5_prey wsX5_prey rm_X5_prey (sw_PR (dC, dI) t0 [(cI, .int), (cZ, .boolean)] [.int l0] []) (vp_Si (fun r => r = rv)) 0 0 (fun _ => False) := by
  refine sw_metR (cc := cX5_prey) (maxL := 1) (ret := (some .int)) (lv := [(0, .int l0)]) (by decide) rfl (Nat.le_of_ble_eq_true rfl) rfl ?_
  intro p e s m below meth c Q hQ hx hb hr hts hown hlocks hml hP hK hE hS ls hl
  have hown : s.vm.findClass RX5 = some m.cls := hown
  have hf := (F_X5_prey.eq_1 _).symm.trans hf
  refine lv_iload_n hx hb dX5_prey_0 rfl (lv_at hl 0 rfl) ?_
  refine lv_bipush (v := 25) hx hb dX5_prey_1 (by decide) ?_
  refine lv_icmp_ge (tgt := 12) hx hb dX5_prey_3 (by decide) (fun c1 => ?_) (fun c1 => ?_)
  · have hf := sw_ip c1 hf
    refine lv_iload_n hx hb dX5_prey_12 rfl (lv_at hl 0 rfl) ?_
    obtain ⟨q1, hq1, hf⟩ := sw_bs hf
    have hPc := hP.sub (ws' := []) [] rfl
    refine sw_rd (W.runS (As := [.int l0]) (rest := []) ⟨hx, hb, hml, hown, hts⟩ (k_X5_doer l dC dI cI cZ t0 l0 q1 hq1) (va_cwS 1 hts gX5_prey_X5_doer rfl rfl rfl (by decide +kernel) ⟨Nat.le_of_ble_eq_true rfl, Nat.le_of_ble_eq_true rfl⟩) ⟨sw_PR_bl, sw_PR_pre hK hPc hE hS⟩ rfl rfl hl.1 rfl (lv_room (Nat.le_of_ble_eq_true rfl)) dX5_prey_13 ⟨Nat.zero_le _, Nat.zero_le _⟩) ?_
    subst hQ
    exact W.iret hx hb hr (fun t ht hW => ⟨_, rfl, Option.some.inj hf, ht⟩) (fun _ h => absurd h List.not_mem_nil) dX5_prey_16 hlocks
  · have hf := sw_in c1 hf
    refine lv_iload_n hx hb dX5_prey_6 rfl (lv_at hl 0 rfl) ?_
    refine lv_iconst (v := 5) hx hb dX5_prey_7 (by decide) ?_
    refine lv_irem hx hb dX5_prey_8 (by decide) ?_
    refine lv_goto (tgt := 16) hx hb dX5_prey_9 (by decide) ?_
    subst hQ
    exact W.iret hx hb hr (fun t ht hW => ⟨_, rfl, Option.some.inj hf, ht⟩) (fun _ h => absurd h List.not_mem_nil) dX5_prey_16 hlocks
abbrev rm_X5_isBetween : Room := { frames := 0, cells := 0, slots := 0, locals := 0 }
set_option maxHeartbeats 1000000 in
set_option maxRecDepth 100000 in
theorem k_X5_isBetween (l : Launch) (dC : Nat → ClassId) (dI : Nat → Nat → Nat) (cI cZ : ClassId) (t0 : Nat) (l0 : Int32) (l1 : Int32) (l2 : Int32) (rv : Int32)  (hf : F_X5_isBetween l0 l1 l2 = some (rv)) : Met l yX5_isBetween wsX5_isBetween rm_X5_isBetween (sw_PR (dC, dI) t0 [(cI, .int), (cZ, .boolean)] [.int l0, .int l1, .int l2] []) (vp_Si (fun r => r = rv)) 0 0 (fun _ => False) := by
  refine sw_metR (cc := cX5_isBetween) (maxL := 3) (ret := (some .boolean)) (lv := [(0, .int l0), (1, .int l1), (2, .int l2)]) (by decide) rfl (Nat.le_of_ble_eq_true rfl) rfl ?_
  intro p e s m below meth c Q hQ hx hb hr hts hown hlocks hml hP hK hE hS ls hl
  have hown : s.vm.findClass RX5 = some m.cls := hown
  have hf := (F_X5_isBetween.eq_1 _ _ _).symm.trans hf
  refine lv_iload_n hx hb dX5_isBetween_0 rfl (lv_at hl 0 rfl) ?_
  refine lv_iload_n hx hb dX5_isBetween_1 rfl (lv_at hl 1 rfl) ?_
  refine lv_icmp_lt (tgt := 14) hx hb dX5_isBetween_2 (by decide) (fun c1 => ?_) (fun c1 => ?_)
  · have hf := sw_ip c1 hf
    refine lv_iconst (v := 0) hx hb dX5_isBetween_14 (by decide) ?_
    subst hQ
    exact W.zret hx hb hr rfl (fun t ht hW => ⟨_, rfl, Option.some.inj hf, ht⟩) (fun _ h => absurd h List.not_mem_nil) dX5_isBetween_15 hlocks
  · have hf := sw_in c1 hf
    refine lv_iload_n hx hb dX5_isBetween_5 rfl (lv_at hl 0 rfl) ?_
    refine lv_iload_n hx hb dX5_isBetween_6 rfl (lv_at hl 2 rfl) ?_
    refine lv_icmp_gt (tgt := 14) hx hb dX5_isBetween_7 (by decide) (fun c2 => ?_) (fun c2 => ?_)
    · have hf := sw_ip c2 hf
      refine lv_iconst (v := 0) hx hb dX5_isBetween_14 (by decide) ?_
      subst hQ
      exact W.zret hx hb hr rfl (fun t ht hW => ⟨_, rfl, Option.some.inj hf, ht⟩) (fun _ h => absurd h List.not_mem_nil) dX5_isBetween_15 hlocks
    · have hf := sw_in c2 hf
      refine lv_iconst (v := 1) hx hb dX5_isBetween_10 (by decide) ?_
      refine lv_goto (tgt := 15) hx hb dX5_isBetween_11 (by decide) ?_
      subst hQ
      exact W.zret hx hb hr rfl (fun t ht hW => ⟨_, rfl, Option.some.inj hf, ht⟩) (fun _ h => absurd h List.not_mem_nil) dX5_isBetween_15 hlocks
abbrev rm_X5_nextSeed : Room := { frames := 0, cells := 0, slots := 0, locals := 0 }
set_option maxHeartbeats 1000000 in
set_option maxRecDepth 100000 in
theorem k_X5_nextSeed (l : Launch) (dC : Nat → ClassId) (dI : Nat → Nat → Nat) (cI cZ : ClassId) (t0 : Nat) (l0 : Int32) (rv : Int32)  (hf : F_X5_nextSeed l0 = some (rv)) : Met l yX5_nextSeed wsX5_nextSeed rm_X5_nextSeed (sw_PR (dC, dI) t0 [(cI, .int), (cZ, .boolean)] [.int l0] []) (vp_Si (fun r => r = rv)) 0 0 (fun _ => False) := by
  refine sw_metR (cc := cX5_nextSeed) (maxL := 1) (ret := (some .int)) (lv := [(0, .int l0)]) (by decide) rfl (Nat.le_of_ble_eq_true rfl) rfl ?_
  intro p e s m below meth c Q hQ hx hb hr hts hown hlocks hml hP hK hE hS ls hl
  have hown : s.vm.findClass RX5 = some m.cls := hown
  have hf := (F_X5_nextSeed.eq_1 _).symm.trans hf
  have hw1 := hts (.constantLong RX5 217 (1103515245)) (List.mem_of_getElem? (i := 1) (by decide +kernel))
  have hw2 := hts (.constantLong RX5 219 (12345)) (List.mem_of_getElem? (i := 2) (by decide +kernel))
  have hw3 := hts (.constantLong RX5 221 (2147483648)) (List.mem_of_getElem? (i := 3) (by decide +kernel))
  refine lv_ldc2 (v := 1103515245) hx hb hown hw1 dX5_nextSeed_0 ?_
  refine lv_iload_n hx hb dX5_nextSeed_3 rfl (lv_at hl 0 rfl) ?_
  refine lv_i2l (v := (l0).toInt64) hx hb dX5_nextSeed_4 rfl ?_
  refine lv_lmul hx hb dX5_nextSeed_5 ?_
  refine lv_ldc2 (v := 12345) hx hb hown hw2 dX5_nextSeed_6 ?_
  refine lv_ladd hx hb dX5_nextSeed_9 ?_
  refine lv_ldc2 (v := 2147483648) hx hb hown hw3 dX5_nextSeed_10 ?_
  refine lv_lrem hx hb dX5_nextSeed_13 (by decide) ?_
  refine lv_l2i (v := ((((1103515245 : Int64) * ((l0).toInt64)) + (12345 : Int64)) - (((1103515245 : Int64) * ((l0).toInt64)) + (12345 : Int64)) / (2147483648 : Int64) * (2147483648 : Int64)).toInt32) hx hb dX5_nextSeed_14 rfl ?_
  subst hQ
  exact W.iret hx hb hr (fun t ht hW => ⟨_, rfl, Option.some.inj hf, ht⟩) (fun _ h => absurd h List.not_mem_nil) dX5_nextSeed_15 hlocks
