abbrev rm_X0_total : Room := { frames := 0, cells := 0, slots := 0, locals := 0 }
set_option maxHeartbeats 1000000 in
set_option maxRecDepth 100000 in
theorem k_X0_total (l : Launch) (dC : Nat → ClassId) (dI : Nat → Nat → Nat) (cI cZ : ClassId) (t0 : Nat) (aC aC_traits : Nat) (C_total : Int32) (rv : Int32)  (hf : F_X0_total C_total = some (rv)) : Met l yX0_total wsX0_total rm_X0_total (sw_PR (dC, dI) t0 [(cI, .int), (cZ, .boolean)] [.ref aC] [(aC, .inr (0, [.ref aC_traits, .int C_total]))]) (vp_Si (fun r => r = rv)) 0 0 (fun _ => False) := by
  refine sw_metR (cc := cX0_total) (maxL := 1) (ret := (some .int)) (lv := [(0, .ref aC)]) (by decide) rfl (Nat.le_of_ble_eq_true rfl) rfl ?_
  intro p e s m below meth c Q hQ hx hb hr hts hown hlocks hml hP hK hE hS ls hl
  have hown : s.vm.findClass RX0 = some m.cls := hown
  have hf := (F_X0_total.eq_1 _).symm.trans hf
  have hw1 := hts (.fieldLink RX0 15 "SwallowedInTurn$Crowd" "total" "I") (List.mem_of_getElem? (i := 1) (by decide +kernel))
  have iX0 : ∀ w ∈ u_ws RX0 TX0 2, w ∈ wsX0_total := by decide +kernel
  refine lv_aload_n hx hb dX0_total_0 rfl (lv_at hl 0 rfl) ?_
  refine va_get (D := (dC, dI)) (ci := 0) (v := .int C_total) (C := RX0) (T := TX0) (N := 2) hx hb hts iX0 hown hK hP 0 rfl rfl 1 (by decide) hw1 (fun _ h9 => h9) rfl dX0_total_1 ?_
  subst hQ
  exact W.iret hx hb hr (fun t ht hW => ⟨_, rfl, Option.some.inj hf, ht⟩) (fun _ h => absurd h List.not_mem_nil) dX0_total_4 hlocks
abbrev rm_X0_all : Room := { frames := 0, cells := 0, slots := 0, locals := 0 }
set_option maxHeartbeats 1000000 in
set_option maxRecDepth 100000 in
theorem k_X0_all (l : Launch) (dC : Nat → ClassId) (dI : Nat → Nat → Nat) (cI cZ : ClassId) (t0 : Nat) (aC aC_traits : Nat) (C_total : Int32) (rv : Int32)  (hf : F_X0_all C_total = some (rv)) : Met l yX0_all wsX0_all rm_X0_all (sw_PR (dC, dI) t0 [(cI, .int), (cZ, .boolean)] [.ref aC] [(aC, .inr (0, [.ref aC_traits, .int C_total]))]) (vp_Si (fun r => r = rv)) 0 0 (fun _ => False) := by
  refine sw_metR (cc := cX0_all) (maxL := 1) (ret := (some .int)) (lv := [(0, .ref aC)]) (by decide) rfl (Nat.le_of_ble_eq_true rfl) rfl ?_
  intro p e s m below meth c Q hQ hx hb hr hts hown hlocks hml hP hK hE hS ls hl
  have hown : s.vm.findClass RX0 = some m.cls := hown
  have hf := (F_X0_all.eq_1 _).symm.trans hf
  have hw1 := hts (.fieldLink RX0 15 "SwallowedInTurn$Crowd" "total" "I") (List.mem_of_getElem? (i := 1) (by decide +kernel))
  have iX0 : ∀ w ∈ u_ws RX0 TX0 2, w ∈ wsX0_all := by decide +kernel
  refine lv_iconst (v := 1) hx hb dX0_all_0 (by decide) ?_
  refine lv_aload_n hx hb dX0_all_1 rfl (lv_at hl 0 rfl) ?_
  refine va_get (D := (dC, dI)) (ci := 0) (v := .int C_total) (C := RX0) (T := TX0) (N := 2) hx hb hts iX0 hown hK hP 0 rfl rfl 1 (by decide) hw1 (fun _ h9 => h9) rfl dX0_all_2 ?_
  refine lv_ishl hx hb dX0_all_5 ?_
  refine lv_iconst (v := 1) hx hb dX0_all_6 (by decide) ?_
  refine lv_isub hx hb dX0_all_7 ?_
  subst hQ
  exact W.iret hx hb hr (fun t ht hW => ⟨_, rfl, Option.some.inj hf, ht⟩) (fun _ h => absurd h List.not_mem_nil) dX0_all_8 hlocks
abbrev rm_X0_has : Room := { frames := 0, cells := 0, slots := 0, locals := 0 }
set_option maxHeartbeats 1000000 in
set_option maxRecDepth 100000 in
theorem k_X0_has (l : Launch) (dC : Nat → ClassId) (dI : Nat → Nat → Nat) (cI cZ : ClassId) (t0 : Nat) (aC aC_traits : Nat) (C_total : Int32) (l1 : Int32) (rv : Int32)  (hf : F_X0_has C_total l1 = some (rv)) : Met l yX0_has wsX0_has rm_X0_has (sw_PR (dC, dI) t0 [(cI, .int), (cZ, .boolean)] [.ref aC, .int l1] [(aC, .inr (0, [.ref aC_traits, .int C_total]))]) (vp_Si (fun r => r = rv)) 0 0 (fun _ => False) := by
  refine sw_metR (cc := cX0_has) (maxL := 2) (ret := (some .boolean)) (lv := [(0, .ref aC), (1, .int l1)]) (by decide) rfl (Nat.le_of_ble_eq_true rfl) rfl ?_
  intro p e s m below meth c Q hQ hx hb hr hts hown hlocks hml hP hK hE hS ls hl
  have hown : s.vm.findClass RX0 = some m.cls := hown
  have hf := (F_X0_has.eq_1 _ _).symm.trans hf
  have hw1 := hts (.fieldLink RX0 15 "SwallowedInTurn$Crowd" "total" "I") (List.mem_of_getElem? (i := 1) (by decide +kernel))
  have iX0 : ∀ w ∈ u_ws RX0 TX0 2, w ∈ wsX0_has := by decide +kernel
  refine lv_iload_n hx hb dX0_has_0 rfl (lv_at hl 1 rfl) ?_
  refine lv_if_lt (tgt := 16) hx hb dX0_has_1 (by decide) (fun c1 => ?_) (fun c1 => ?_)
  · have hf := sw_ip c1 hf
    refine lv_iconst (v := 0) hx hb dX0_has_16 (by decide) ?_
    subst hQ
    exact W.zret hx hb hr rfl (fun t ht hW => ⟨_, rfl, Option.some.inj hf, ht⟩) (fun _ h => absurd h List.not_mem_nil) dX0_has_17 hlocks
  · have hf := sw_in c1 hf
    refine lv_iload_n hx hb dX0_has_4 rfl (lv_at hl 1 rfl) ?_
    refine lv_aload_n hx hb dX0_has_5 rfl (lv_at hl 0 rfl) ?_
    refine va_get (D := (dC, dI)) (ci := 0) (v := .int C_total) (C := RX0) (T := TX0) (N := 2) hx hb hts iX0 hown hK hP 0 rfl rfl 1 (by decide) hw1 (fun _ h9 => h9) rfl dX0_has_6 ?_
    refine lv_icmp_ge (tgt := 16) hx hb dX0_has_9 (by decide) (fun c2 => ?_) (fun c2 => ?_)
    · have hf := sw_ip c2 hf
      refine lv_iconst (v := 0) hx hb dX0_has_16 (by decide) ?_
      subst hQ
      exact W.zret hx hb hr rfl (fun t ht hW => ⟨_, rfl, Option.some.inj hf, ht⟩) (fun _ h => absurd h List.not_mem_nil) dX0_has_17 hlocks
    · have hf := sw_in c2 hf
      refine lv_iconst (v := 1) hx hb dX0_has_12 (by decide) ?_
      refine lv_goto (tgt := 17) hx hb dX0_has_13 (by decide) ?_
      subst hQ
      exact W.zret hx hb hr rfl (fun t ht hW => ⟨_, rfl, Option.some.inj hf, ht⟩) (fun _ h => absurd h List.not_mem_nil) dX0_has_17 hlocks
abbrev rm_X0_hasAll : Room := { frames := 1, cells := 0, slots := 0, locals := 20 }
set_option maxHeartbeats 1000000 in
set_option maxRecDepth 100000 in
theorem k_X0_hasAll (l : Launch) (dC : Nat → ClassId) (dI : Nat → Nat → Nat) (cI cZ : ClassId) (t0 : Nat) (aC aC_traits : Nat) (C_total : Int32) (l1 : Int32) (rv : Int32)  (hf : F_X0_hasAll C_total l1 = some (rv)) : Met l yX0_hasAll wsX0_hasAll rm_X0_hasAll (sw_PR (dC, dI) t0 [(cI, .int), (cZ, .boolean)] [.ref aC, .int l1] [(aC, .inr (0, [.ref aC_traits, .int C_total]))]) (vp_Si (fun r => r = rv)) 0 0 (fun _ => False) := by
  refine sw_metR (cc := cX0_hasAll) (maxL := 2) (ret := (some .boolean)) (lv := [(0, .ref aC), (1, .int l1)]) (by decide) rfl (Nat.le_of_ble_eq_true rfl) rfl ?_
  intro p e s m below meth c Q hQ hx hb hr hts hown hlocks hml hP hK hE hS ls hl
  have hown : s.vm.findClass RX0 = some m.cls := hown
  have hf := (F_X0_hasAll.eq_1 _ _).symm.trans hf
  refine lv_iload_n hx hb dX0_hasAll_0 rfl (lv_at hl 1 rfl) ?_
  refine lv_if_lt (tgt := 16) hx hb dX0_hasAll_1 (by decide) (fun c1 => ?_) (fun c1 => ?_)
  · have hf := sw_ip c1 hf
    refine lv_iconst (v := 0) hx hb dX0_hasAll_16 (by decide) ?_
    subst hQ
    exact W.zret hx hb hr rfl (fun t ht hW => ⟨_, rfl, Option.some.inj hf, ht⟩) (fun _ h => absurd h List.not_mem_nil) dX0_hasAll_17 hlocks
  · have hf := sw_in c1 hf
    refine lv_iload_n hx hb dX0_hasAll_4 rfl (lv_at hl 1 rfl) ?_
    refine lv_aload_n hx hb dX0_hasAll_5 rfl (lv_at hl 0 rfl) ?_
    obtain ⟨q1, hq1, hf⟩ := sw_bs hf
    have hPc := hP.sub (ws' := [(aC, .inr (0, [.ref aC_traits, .int C_total]))]) [0] rfl
    refine sw_rd (W.runV (As := []) (rest := [.int l1]) ⟨hx, hb, hml, hown, hts⟩ (k_X0_all l dC dI cI cZ t0 aC aC_traits C_total q1 hq1) (cwV 0 hts gX0_hasAll_X0_all rfl rfl rfl (by decide +kernel) ⟨Nat.le_of_ble_eq_true rfl, Nat.le_of_ble_eq_true rfl⟩) ⟨sw_PR_bl, va_recv hK hPc (ci := 0) (q0 := 0) rfl rfl, sw_PR_pre hK hPc hE hS⟩ rfl rfl hl.1 rfl (lv_room (Nat.le_of_ble_eq_true rfl)) dX0_hasAll_6 ⟨Nat.zero_le _, Nat.zero_le _⟩) ?_
    refine lv_icmp_gt (tgt := 16) hx hb dX0_hasAll_9 (by decide) (fun c2 => ?_) (fun c2 => ?_)
    · have hf := sw_ip c2 hf
      refine lv_iconst (v := 0) hx hb dX0_hasAll_16 (by decide) ?_
      subst hQ
      exact W.zret hx hb hr rfl (fun t ht hW => ⟨_, rfl, Option.some.inj hf, ht⟩) (fun _ h => absurd h List.not_mem_nil) dX0_hasAll_17 hlocks
    · have hf := sw_in c2 hf
      refine lv_iconst (v := 1) hx hb dX0_hasAll_12 (by decide) ?_
      refine lv_goto (tgt := 17) hx hb dX0_hasAll_13 (by decide) ?_
      subst hQ
      exact W.zret hx hb hr rfl (fun t ht hW => ⟨_, rfl, Option.some.inj hf, ht⟩) (fun _ h => absurd h List.not_mem_nil) dX0_hasAll_17 hlocks
abbrev rm_X0_knows : Room := { frames := 2, cells := 0, slots := 0, locals := 40 }
set_option maxHeartbeats 1000000 in
set_option maxRecDepth 100000 in
theorem k_X0_knows (l : Launch) (dC : Nat → ClassId) (dI : Nat → Nat → Nat) (cI cZ : ClassId) (t0 : Nat) (aC aC_traits : Nat) (C_total : Int32) (l1 : Int32) (rv : Int32)  (hf : F_X0_knows C_total l1 = some (rv)) : Met l yX0_knows wsX0_knows rm_X0_knows (sw_PR (dC, dI) t0 [(cI, .int), (cZ, .boolean)] [.ref aC, .int l1] [(aC, .inr (0, [.ref aC_traits, .int C_total]))]) (vp_Si (fun r => r = rv)) 0 0 (fun _ => False) := by
  refine sw_metR (cc := cX0_knows) (maxL := 2) (ret := (some .boolean)) (lv := [(0, .ref aC), (1, .int l1)]) (by decide) rfl (Nat.le_of_ble_eq_true rfl) rfl ?_
  intro p e s m below meth c Q hQ hx hb hr hts hown hlocks hml hP hK hE hS ls hl
  have hown : s.vm.findClass RX0 = some m.cls := hown
  have hf := (F_X0_knows.eq_1 _ _).symm.trans hf
  have hw2 := hts (.initialized RX5) (List.mem_of_getElem? (i := 2) (by decide +kernel))
  have hw1 := hts (.static yX5_isDeed) (List.mem_of_getElem? (i := 1) (by decide +kernel))
  have hw4 := hts (.static yX5_doer) (List.mem_of_getElem? (i := 4) (by decide +kernel))
  have hw12 := hts (.static yX5_prey) (List.mem_of_getElem? (i := 12) (by decide +kernel))
  refine lv_iload_n hx hb dX0_knows_0 rfl (lv_at hl 1 rfl) ?_
  obtain ⟨q1, hq1, hf⟩ := sw_bs hf
  have hPc := hP.sub (ws' := []) [] rfl
  refine sw_rd (sw_cr (va_runSN (As := [.int l1]) (rest := []) ⟨hx, hb, hml, hown, hts⟩ (k_X5_isDeed l dC dI cI cZ t0 l1 q1 hq1) ⟨va_cnB (host := "SwallowedInTurn") 1 hts gX0_knows_X5_isDeed_n23 rfl rfl rfl hE.1.2.2.2.1 hw2 (by decide +kernel) ⟨Nat.le_of_ble_eq_true rfl, Nat.le_of_ble_eq_true rfl⟩, hw1, trivial⟩ ⟨sw_PR_bl, sw_PR_pre hK hPc hE hS⟩ rfl rfl hl.1 rfl (lv_room (Nat.le_of_ble_eq_true rfl)) dX0_knows_1 ⟨Nat.zero_le _, Nat.zero_le _⟩)) ?_
  refine lv_if_eq (tgt := 33) hx hb dX0_knows_4 (by decide) (fun c1 => ?_) (fun c1 => ?_)
  · have hf := sw_ip c1 hf
    refine lv_iconst (v := 0) hx hb dX0_knows_33 (by decide) ?_
    subst hQ
    exact W.zret hx hb hr rfl (fun t ht hW => ⟨_, rfl, Option.some.inj hf, ht⟩) (fun _ h => absurd h List.not_mem_nil) dX0_knows_34 hlocks
  · have hf := sw_in c1 hf
    refine lv_aload_n hx hb dX0_knows_7 rfl (lv_at hl 0 rfl) ?_
    refine lv_iload_n hx hb dX0_knows_8 rfl (lv_at hl 1 rfl) ?_
    obtain ⟨q2, hq2, hf⟩ := sw_bs hf
    have hPc := hP.sub (ws' := []) [] rfl
    refine sw_rd (sw_cr (va_runSN (As := [.int l1]) (rest := [.ref aC]) ⟨hx, hb, hml, hown, hts⟩ (k_X5_doer l dC dI cI cZ t0 l1 q2 hq2) ⟨va_cnB (host := "SwallowedInTurn") 1 hts gX0_knows_X5_doer_n27 rfl rfl rfl hE.1.2.2.2.2.1 hw2 (by decide +kernel) ⟨Nat.le_of_ble_eq_true rfl, Nat.le_of_ble_eq_true rfl⟩, hw4, trivial⟩ ⟨sw_PR_bl, sw_PR_pre hK hPc hE hS⟩ rfl rfl hl.1 rfl (lv_room (Nat.le_of_ble_eq_true rfl)) dX0_knows_9 ⟨Nat.zero_le _, Nat.zero_le _⟩)) ?_
    obtain ⟨q3, hq3, hf⟩ := sw_bs hf
    have hPc := hP.sub (ws' := [(aC, .inr (0, [.ref aC_traits, .int C_total]))]) [0] rfl
    refine sw_rd (W.runV (As := [.int q2]) (rest := []) ⟨hx, hb, hml, hown, hts⟩ (k_X0_has l dC dI cI cZ t0 aC aC_traits C_total q2 q3 hq3) (cwV 1 hts gX0_knows_X0_has rfl rfl rfl (by decide +kernel) ⟨Nat.le_of_ble_eq_true rfl, Nat.le_of_ble_eq_true rfl⟩) ⟨sw_PR_bl, va_recv hK hPc (ci := 0) (q0 := 0) rfl rfl, sw_PR_pre hK hPc hE hS⟩ rfl rfl hl.1 rfl (lv_room (Nat.le_of_ble_eq_true rfl)) dX0_knows_12 ⟨Nat.zero_le _, Nat.zero_le _⟩) ?_
    refine lv_if_eq (tgt := 33) hx hb dX0_knows_15 (by decide) (fun c2 => ?_) (fun c2 => ?_)
    · have hf := sw_ip c2 hf
      refine lv_iconst (v := 0) hx hb dX0_knows_33 (by decide) ?_
      subst hQ
      exact W.zret hx hb hr rfl (fun t ht hW => ⟨_, rfl, Option.some.inj hf, ht⟩) (fun _ h => absurd h List.not_mem_nil) dX0_knows_34 hlocks
    · have hf := sw_in c2 hf
      refine lv_aload_n hx hb dX0_knows_18 rfl (lv_at hl 0 rfl) ?_
      refine lv_iload_n hx hb dX0_knows_19 rfl (lv_at hl 1 rfl) ?_
      obtain ⟨q4, hq4, hf⟩ := sw_bs hf
      have hPc := hP.sub (ws' := []) [] rfl
      refine sw_rd (sw_cr (va_runSN (As := [.int l1]) (rest := [.ref aC]) ⟨hx, hb, hml, hown, hts⟩ (k_X5_prey l dC dI cI cZ t0 l1 q4 hq4) ⟨va_cnB (host := "SwallowedInTurn") 1 hts gX0_knows_X5_prey_n34 rfl rfl rfl hE.1.2.2.2.2.2.1 hw2 (by decide +kernel) ⟨Nat.le_of_ble_eq_true rfl, Nat.le_of_ble_eq_true rfl⟩, hw12, trivial⟩ ⟨sw_PR_bl, sw_PR_pre hK hPc hE hS⟩ rfl rfl hl.1 rfl (lv_room (Nat.le_of_ble_eq_true rfl)) dX0_knows_20 ⟨Nat.zero_le _, Nat.zero_le _⟩)) ?_
      obtain ⟨q5, hq5, hf⟩ := sw_bs hf
      have hPc := hP.sub (ws' := [(aC, .inr (0, [.ref aC_traits, .int C_total]))]) [0] rfl
      refine sw_rd (W.runV (As := [.int q4]) (rest := []) ⟨hx, hb, hml, hown, hts⟩ (k_X0_has l dC dI cI cZ t0 aC aC_traits C_total q4 q5 hq5) (cwV 1 hts gX0_knows_X0_has rfl rfl rfl (by decide +kernel) ⟨Nat.le_of_ble_eq_true rfl, Nat.le_of_ble_eq_true rfl⟩) ⟨sw_PR_bl, va_recv hK hPc (ci := 0) (q0 := 0) rfl rfl, sw_PR_pre hK hPc hE hS⟩ rfl rfl hl.1 rfl (lv_room (Nat.le_of_ble_eq_true rfl)) dX0_knows_23 ⟨Nat.zero_le _, Nat.zero_le _⟩) ?_
      refine lv_if_eq (tgt := 33) hx hb dX0_knows_26 (by decide) (fun c3 => ?_) (fun c3 => ?_)
      · have hf := sw_ip c3 hf
        refine lv_iconst (v := 0) hx hb dX0_knows_33 (by decide) ?_
        subst hQ
        exact W.zret hx hb hr rfl (fun t ht hW => ⟨_, rfl, Option.some.inj hf, ht⟩) (fun _ h => absurd h List.not_mem_nil) dX0_knows_34 hlocks
      · have hf := sw_in c3 hf
        refine lv_iconst (v := 1) hx hb dX0_knows_29 (by decide) ?_
        refine lv_goto (tgt := 34) hx hb dX0_knows_30 (by decide) ?_
        subst hQ
        exact W.zret hx hb hr rfl (fun t ht hW => ⟨_, rfl, Option.some.inj hf, ht⟩) (fun _ h => absurd h List.not_mem_nil) dX0_knows_34 hlocks
abbrev rm_X0_join : Room := { frames := 0, cells := 0, slots := 0, locals := 0 }
set_option maxHeartbeats 1000000 in
set_option maxRecDepth 100000 in
theorem k_X0_join (l : Launch) (dC : Nat → ClassId) (dI : Nat → Nat → Nat) (cI cZ : ClassId) (t0 : Nat) (sz : Nat) (aC aC_traits : Nat) (C_total : Int32) (C_traits : Nat → Int32) (l1 : Int32) (l2 : Int32) (l3 : Int32) (l4 : Int32) (rv : Int32) (C_total' : Int32) (C_traits' : Nat → Int32) (hf : F_X0_join C_total C_traits l1 l2 l3 l4 = some (rv, C_total', C_traits')) : Met l yX0_join wsX0_join rm_X0_join (sw_PW (dC, dI) t0 [(cI, .int), (cZ, .boolean)] [.ref aC, .int l1, .int l2, .int l3, .int l4] [(aC, .inr (0, [.ref aC_traits, .int C_total])), (aC_traits, .inl (cI, 20, .inl C_traits))] sz) (va_Qi (fun r (_ : Unit) => r = rv) (fun _ t => sw_B (dC, dI) [(cI, .int), (cZ, .boolean)] [(aC, .inr (0, [.ref aC_traits, .int C_total'])), (aC_traits, .inl (cI, 20, .inl C_traits'))] (va_A [(aC, .inr (0, [.ref aC_traits, .int C_total])), (aC_traits, .inl (cI, 20, .inl C_traits))] sz) t) (va_A [(aC, .inr (0, [.ref aC_traits, .int C_total])), (aC_traits, .inl (cI, 20, .inl C_traits))] sz)) 0 0 (va_A [(aC, .inr (0, [.ref aC_traits, .int C_total])), (aC_traits, .inl (cI, 20, .inl C_traits))] sz) := by
  refine sw_metW (cc := cX0_join) (maxL := 6) (ret := (some .int)) (lv := [(0, .ref aC), (1, .int l1), (2, .int l2), (3, .int l3), (4, .int l4)]) (by decide) rfl (Nat.le_of_ble_eq_true rfl) rfl ?_
  intro p e s m below meth c Q A hsz hAe hQ hx hb hr hts hown hlocks hml hmn hP hK hD hE hS hA ls hl
  have hS0 := hS
  have hown : s.vm.findClass RX0 = some m.cls := hown
  have hf := (F_X0_join.eq_1 _ _ _ _ _ _).symm.trans hf
  have hw1 := hts (.fieldLink RX0 15 "SwallowedInTurn$Crowd" "total" "I") (List.mem_of_getElem? (i := 1) (by decide +kernel))
  have iX0 : ∀ w ∈ u_ws RX0 TX0 2, w ∈ wsX0_join := by decide +kernel
  have hw2 := hts (.fieldLink RX0 9 "SwallowedInTurn$Crowd" "traits" "[I") (List.mem_of_getElem? (i := 2) (by decide +kernel))
  obtain ⟨H, hH⟩ : ∃ H, H = s.heap := ⟨_, rfl⟩
  obtain ⟨locs, hlo⟩ : ∃ locs : List Loc, locs = [] := ⟨_, rfl⟩
  rw [← hH] at hP
  have hS : va_S A s.heap H locs := by rw [hH, hlo]; exact hS0
  suffices hgo : W p l e rm_X0_join s m ([.ref aC, .int l1, .int l2, .int l3, .int l4] : List Value).toArray below meth c H locs 0 0 Q (F0 m 0 ls []) by rw [hH, hlo] at hgo; exact hgo
  refine lv_aload_n hx hb dX0_join_0 rfl (lv_at hl 0 rfl) ?_
  refine va_get (D := (dC, dI)) (ci := 0) (v := .int C_total) (C := RX0) (T := TX0) (N := 2) hx hb hts iX0 hown hK hP 0 rfl rfl 1 (by decide) hw1 (fun _ h9 => h9) rfl dX0_join_1 ?_
  refine lv_iconst (v := 4) hx hb dX0_join_4 (by decide) ?_
  refine lv_imul hx hb dX0_join_5 ?_
  refine lv_istore (lv' := [(5, .int (C_total * (4 : Int32))), (0, .ref aC), (1, .int l1), (2, .int l2), (3, .int l3), (4, .int l4)]) hx hb dX0_join_6 hl (by decide) rfl (fun ls hl => ?_)
  refine lv_aload_n hx hb dX0_join_8 rfl (lv_at hl 1 rfl) ?_
  refine va_get (D := (dC, dI)) (ci := 0) (v := .int C_total) (C := RX0) (T := TX0) (N := 2) hx hb hts iX0 hown hK hP 0 rfl rfl 1 (by decide) hw1 (fun _ h9 => h9) rfl dX0_join_9 ?_
  refine lv_if_lt (tgt := 35) hx hb dX0_join_12 (by decide) (fun c1 => ?_) (fun c1 => ?_)
  · have hf := sw_ip c1 hf
    refine lv_iconst (v := -1) hx hb dX0_join_35 (by decide) ?_
    subst hQ hAe
    cases hf
    exact W.iret hx hb hr (fun t ht hW => ⟨⟨_, (), rfl, rfl, ⟨by rw [ht]; exact hP, va_K.moved hW.alike hK, hD⟩⟩, hS.F ht⟩) hS.2.2 dX0_join_36 hlocks
  · have hf := sw_in c1 hf
    refine lv_aload_n hx hb dX0_join_15 rfl (lv_at hl 1 rfl) ?_
    refine va_get (D := (dC, dI)) (ci := 0) (v := .int C_total) (C := RX0) (T := TX0) (N := 2) hx hb hts iX0 hown hK hP 0 rfl rfl 1 (by decide) hw1 (fun _ h9 => h9) rfl dX0_join_16 ?_
    refine lv_iconst (v := 5) hx hb dX0_join_19 (by decide) ?_
    refine lv_icmp_ge (tgt := 35) hx hb dX0_join_20 (by decide) (fun c2 => ?_) (fun c2 => ?_)
    · have hf := sw_ip c2 hf
      refine lv_iconst (v := -1) hx hb dX0_join_35 (by decide) ?_
      subst hQ hAe
      cases hf
      exact W.iret hx hb hr (fun t ht hW => ⟨⟨_, (), rfl, rfl, ⟨by rw [ht]; exact hP, va_K.moved hW.alike hK, hD⟩⟩, hS.F ht⟩) hS.2.2 dX0_join_36 hlocks
    · have hf := sw_in c2 hf
      refine lv_iload hx hb dX0_join_23 (lv_at hl 0 rfl) ?_
      refine lv_iconst (v := 3) hx hb dX0_join_25 (by decide) ?_
      refine lv_iadd hx hb dX0_join_26 ?_
      refine lv_aload_n hx hb dX0_join_27 rfl (lv_at hl 1 rfl) ?_
      refine va_get (D := (dC, dI)) (ci := 0) (v := .ref aC_traits) (C := RX0) (T := TX0) (N := 2) hx hb hts iX0 hown hK hP 0 rfl rfl 0 (by decide) hw2 (fun _ h9 => h9) rfl dX0_join_28 ?_
      refine va_alen hx hb hK hP 1 0 rfl rfl (v := 20) (show Int32.ofNat 20 = 20 by decide +kernel) dX0_join_31 ?_
      refine lv_icmp_lt (tgt := 37) hx hb dX0_join_32 (by decide) (fun c3 => ?_) (fun c3 => ?_)
      · have hf := sw_ip c3 hf
        refine lv_aload_n hx hb dX0_join_37 rfl (lv_at hl 1 rfl) ?_
        refine va_get (D := (dC, dI)) (ci := 0) (v := .ref aC_traits) (C := RX0) (T := TX0) (N := 2) hx hb hts iX0 hown hK hP 0 rfl rfl 0 (by decide) hw2 (fun _ h9 => h9) rfl dX0_join_38 ?_
        refine lv_iload hx hb dX0_join_41 (lv_at hl 0 rfl) ?_
        refine lv_iconst (v := 0) hx hb dX0_join_43 (by decide) ?_
        refine lv_iadd hx hb dX0_join_44 ?_
        refine lv_iload_n hx hb dX0_join_45 rfl (lv_at hl 2 rfl) ?_
        obtain ⟨hi1, hf⟩ := sw_ix_s hf
        refine va_iast hx hb hK hP hD hS 1 0 rfl rfl hi1 dX0_join_46 (fun H locs hP hD hS => ?_)
        have hP : va_P (dC, dI) vwCl [(aC, .inr (0, [.ref aC_traits, .int C_total])), (aC_traits, .inl (cI, 20, .inl (upd C_traits ((C_total * (4 : Int32)) + (0 : Int32)).toNatClampNeg l1)))] H := hP
        have hD : va_D A [(aC, .inr (0, [.ref aC_traits, .int C_total])), (aC_traits, .inl (cI, 20, .inl (upd C_traits ((C_total * (4 : Int32)) + (0 : Int32)).toNatClampNeg l1)))] := hD
        refine lv_aload_n hx hb dX0_join_47 rfl (lv_at hl 1 rfl) ?_
        refine va_get (D := (dC, dI)) (ci := 0) (v := .ref aC_traits) (C := RX0) (T := TX0) (N := 2) hx hb hts iX0 hown hK hP 0 rfl rfl 0 (by decide) hw2 (fun _ h9 => h9) rfl dX0_join_48 ?_
        refine lv_iload hx hb dX0_join_51 (lv_at hl 0 rfl) ?_
        refine lv_iconst (v := 1) hx hb dX0_join_53 (by decide) ?_
        refine lv_iadd hx hb dX0_join_54 ?_
        refine lv_iload_n hx hb dX0_join_55 rfl (lv_at hl 3 rfl) ?_
        obtain ⟨hi2, hf⟩ := sw_ix_s hf
        refine va_iast hx hb hK hP hD hS 1 0 rfl rfl hi2 dX0_join_56 (fun H locs hP hD hS => ?_)
        have hP : va_P (dC, dI) vwCl [(aC, .inr (0, [.ref aC_traits, .int C_total])), (aC_traits, .inl (cI, 20, .inl (upd (upd C_traits ((C_total * (4 : Int32)) + (0 : Int32)).toNatClampNeg l1) ((C_total * (4 : Int32)) + (1 : Int32)).toNatClampNeg l2)))] H := hP
        have hD : va_D A [(aC, .inr (0, [.ref aC_traits, .int C_total])), (aC_traits, .inl (cI, 20, .inl (upd (upd C_traits ((C_total * (4 : Int32)) + (0 : Int32)).toNatClampNeg l1) ((C_total * (4 : Int32)) + (1 : Int32)).toNatClampNeg l2)))] := hD
        refine lv_aload_n hx hb dX0_join_57 rfl (lv_at hl 1 rfl) ?_
        refine va_get (D := (dC, dI)) (ci := 0) (v := .ref aC_traits) (C := RX0) (T := TX0) (N := 2) hx hb hts iX0 hown hK hP 0 rfl rfl 0 (by decide) hw2 (fun _ h9 => h9) rfl dX0_join_58 ?_
        refine lv_iload hx hb dX0_join_61 (lv_at hl 0 rfl) ?_
        refine lv_iconst (v := 2) hx hb dX0_join_63 (by decide) ?_
        refine lv_iadd hx hb dX0_join_64 ?_
        refine lv_iload_n hx hb dX0_join_65 rfl (lv_at hl 4 rfl) ?_
        obtain ⟨hi3, hf⟩ := sw_ix_s hf
        refine va_iast hx hb hK hP hD hS 1 0 rfl rfl hi3 dX0_join_66 (fun H locs hP hD hS => ?_)
        have hP : va_P (dC, dI) vwCl [(aC, .inr (0, [.ref aC_traits, .int C_total])), (aC_traits, .inl (cI, 20, .inl (upd (upd (upd C_traits ((C_total * (4 : Int32)) + (0 : Int32)).toNatClampNeg l1) ((C_total * (4 : Int32)) + (1 : Int32)).toNatClampNeg l2) ((C_total * (4 : Int32)) + (2 : Int32)).toNatClampNeg l3)))] H := hP
        have hD : va_D A [(aC, .inr (0, [.ref aC_traits, .int C_total])), (aC_traits, .inl (cI, 20, .inl (upd (upd (upd C_traits ((C_total * (4 : Int32)) + (0 : Int32)).toNatClampNeg l1) ((C_total * (4 : Int32)) + (1 : Int32)).toNatClampNeg l2) ((C_total * (4 : Int32)) + (2 : Int32)).toNatClampNeg l3)))] := hD
        refine lv_aload_n hx hb dX0_join_67 rfl (lv_at hl 1 rfl) ?_
        refine va_get (D := (dC, dI)) (ci := 0) (v := .ref aC_traits) (C := RX0) (T := TX0) (N := 2) hx hb hts iX0 hown hK hP 0 rfl rfl 0 (by decide) hw2 (fun _ h9 => h9) rfl dX0_join_68 ?_
        refine lv_iload hx hb dX0_join_71 (lv_at hl 0 rfl) ?_
        refine lv_iconst (v := 3) hx hb dX0_join_73 (by decide) ?_
        refine lv_iadd hx hb dX0_join_74 ?_
        refine lv_iload hx hb dX0_join_75 (lv_at hl 5 rfl) ?_
        obtain ⟨hi4, hf⟩ := sw_ix_s hf
        refine va_iast hx hb hK hP hD hS 1 0 rfl rfl hi4 dX0_join_77 (fun H locs hP hD hS => ?_)
        have hP : va_P (dC, dI) vwCl [(aC, .inr (0, [.ref aC_traits, .int C_total])), (aC_traits, .inl (cI, 20, .inl (upd (upd (upd (upd C_traits ((C_total * (4 : Int32)) + (0 : Int32)).toNatClampNeg l1) ((C_total * (4 : Int32)) + (1 : Int32)).toNatClampNeg l2) ((C_total * (4 : Int32)) + (2 : Int32)).toNatClampNeg l3) ((C_total * (4 : Int32)) + (3 : Int32)).toNatClampNeg l4)))] H := hP
        have hD : va_D A [(aC, .inr (0, [.ref aC_traits, .int C_total])), (aC_traits, .inl (cI, 20, .inl (upd (upd (upd (upd C_traits ((C_total * (4 : Int32)) + (0 : Int32)).toNatClampNeg l1) ((C_total * (4 : Int32)) + (1 : Int32)).toNatClampNeg l2) ((C_total * (4 : Int32)) + (2 : Int32)).toNatClampNeg l3) ((C_total * (4 : Int32)) + (3 : Int32)).toNatClampNeg l4)))] := hD
        refine lv_aload_n hx hb dX0_join_78 rfl (lv_at hl 1 rfl) ?_
        refine lv_dup hx hb dX0_join_79 rfl ?_
        refine va_get (D := (dC, dI)) (ci := 0) (v := .int C_total) (C := RX0) (T := TX0) (N := 2) hx hb hts iX0 hown hK hP 0 rfl rfl 1 (by decide) hw1 (fun _ h9 => h9) rfl dX0_join_80 ?_
        refine lv_iconst (v := 1) hx hb dX0_join_83 (by decide) ?_
        refine lv_iadd hx hb dX0_join_84 ?_
        refine va_put (D := (dC, dI)) (ci := 0) (v := .int (C_total + (1 : Int32))) (ty := .int) (C := RX0) (T := TX0) (N := 2) hx hb hts iX0 tyX0 tyX0_ok nmX0 hown hK hP hD hS 0 rfl rfl 1 (by decide) hw1 (fun _ h9 => h9) rfl (by decide +kernel) rfl rfl (Nat.le_of_ble_eq_true rfl) dX0_join_85 (fun H locs hP hD hS => ?_)
        have hP : va_P (dC, dI) vwCl [(aC, .inr (0, [.ref aC_traits, .int (C_total + (1 : Int32))])), (aC_traits, .inl (cI, 20, .inl (upd (upd (upd (upd C_traits ((C_total * (4 : Int32)) + (0 : Int32)).toNatClampNeg l1) ((C_total * (4 : Int32)) + (1 : Int32)).toNatClampNeg l2) ((C_total * (4 : Int32)) + (2 : Int32)).toNatClampNeg l3) ((C_total * (4 : Int32)) + (3 : Int32)).toNatClampNeg l4)))] H := hP
        have hD : va_D A [(aC, .inr (0, [.ref aC_traits, .int (C_total + (1 : Int32))])), (aC_traits, .inl (cI, 20, .inl (upd (upd (upd (upd C_traits ((C_total * (4 : Int32)) + (0 : Int32)).toNatClampNeg l1) ((C_total * (4 : Int32)) + (1 : Int32)).toNatClampNeg l2) ((C_total * (4 : Int32)) + (2 : Int32)).toNatClampNeg l3) ((C_total * (4 : Int32)) + (3 : Int32)).toNatClampNeg l4)))] := hD
        refine lv_aload_n hx hb dX0_join_88 rfl (lv_at hl 1 rfl) ?_
        refine va_get (D := (dC, dI)) (ci := 0) (v := .int (C_total + (1 : Int32))) (C := RX0) (T := TX0) (N := 2) hx hb hts iX0 hown hK hP 0 rfl rfl 1 (by decide) hw1 (fun _ h9 => h9) rfl dX0_join_89 ?_
        refine lv_iconst (v := 1) hx hb dX0_join_92 (by decide) ?_
        refine lv_isub hx hb dX0_join_93 ?_
        subst hQ hAe
        cases hf
        exact W.iret hx hb hr (fun t ht hW => ⟨⟨_, (), rfl, rfl, ⟨by rw [ht]; exact hP, va_K.moved hW.alike hK, hD⟩⟩, hS.F ht⟩) hS.2.2 dX0_join_94 hlocks
      · have hf := sw_in c3 hf
        refine lv_iconst (v := -1) hx hb dX0_join_35 (by decide) ?_
        subst hQ hAe
        cases hf
        exact W.iret hx hb hr (fun t ht hW => ⟨⟨_, (), rfl, rfl, ⟨by rw [ht]; exact hP, va_K.moved hW.alike hK, hD⟩⟩, hS.F ht⟩) hS.2.2 dX0_join_36 hlocks
abbrev rm_X0_trait : Room := { frames := 0, cells := 0, slots := 0, locals := 0 }
set_option maxHeartbeats 1000000 in
set_option maxRecDepth 100000 in
theorem k_X0_trait (l : Launch) (dC : Nat → ClassId) (dI : Nat → Nat → Nat) (cI cZ : ClassId) (t0 : Nat) (aC aC_traits : Nat) (C_total : Int32) (C_traits : Nat → Int32) (l1 : Int32) (l2 : Int32) (rv : Int32)  (hf : F_X0_trait C_traits l1 l2 = some (rv)) : Met l yX0_trait wsX0_trait rm_X0_trait (sw_PR (dC, dI) t0 [(cI, .int), (cZ, .boolean)] [.ref aC, .int l1, .int l2] [(aC, .inr (0, [.ref aC_traits, .int C_total])), (aC_traits, .inl (cI, 20, .inl C_traits))]) (vp_Si (fun r => r = rv)) 0 0 (fun _ => False) := by
  refine sw_metR (cc := cX0_trait) (maxL := 4) (ret := (some .int)) (lv := [(0, .ref aC), (1, .int l1), (2, .int l2)]) (by decide) rfl (Nat.le_of_ble_eq_true rfl) rfl ?_
  intro p e s m below meth c Q hQ hx hb hr hts hown hlocks hml hP hK hE hS ls hl
  have hown : s.vm.findClass RX0 = some m.cls := hown
  have hf := (F_X0_trait.eq_1 _ _ _).symm.trans hf
  have hw1 := hts (.fieldLink RX0 9 "SwallowedInTurn$Crowd" "traits" "[I") (List.mem_of_getElem? (i := 1) (by decide +kernel))
  have iX0 : ∀ w ∈ u_ws RX0 TX0 2, w ∈ wsX0_trait := by decide +kernel
  refine lv_iload_n hx hb dX0_trait_0 rfl (lv_at hl 1 rfl) ?_
  refine lv_iconst (v := 4) hx hb dX0_trait_1 (by decide) ?_
  refine lv_imul hx hb dX0_trait_2 ?_
  refine lv_iload_n hx hb dX0_trait_3 rfl (lv_at hl 2 rfl) ?_
  refine lv_iadd hx hb dX0_trait_4 ?_
  refine lv_istore_n (lv' := [(3, .int ((l1 * (4 : Int32)) + l2)), (0, .ref aC), (1, .int l1), (2, .int l2)]) hx hb dX0_trait_5 rfl hl (by decide) rfl (fun ls hl => ?_)
  refine lv_iload_n hx hb dX0_trait_6 rfl (lv_at hl 0 rfl) ?_
  refine lv_if_lt (tgt := 28) hx hb dX0_trait_7 (by decide) (fun c1 => ?_) (fun c1 => ?_)
  · have hf := sw_ip c1 hf
    refine lv_iconst (v := 0) hx hb dX0_trait_28 (by decide) ?_
    subst hQ
    exact W.iret hx hb hr (fun t ht hW => ⟨_, rfl, Option.some.inj hf, ht⟩) (fun _ h => absurd h List.not_mem_nil) dX0_trait_29 hlocks
  · have hf := sw_in c1 hf
    refine lv_iload_n hx hb dX0_trait_10 rfl (lv_at hl 0 rfl) ?_
    refine lv_aload_n hx hb dX0_trait_11 rfl (lv_at hl 1 rfl) ?_
    refine va_get (D := (dC, dI)) (ci := 0) (v := .ref aC_traits) (C := RX0) (T := TX0) (N := 2) hx hb hts iX0 hown hK hP 0 rfl rfl 0 (by decide) hw1 (fun _ h9 => h9) rfl dX0_trait_12 ?_
    refine va_alen hx hb hK hP 1 0 rfl rfl (v := 20) (show Int32.ofNat 20 = 20 by decide +kernel) dX0_trait_15 ?_
    refine lv_icmp_ge (tgt := 28) hx hb dX0_trait_16 (by decide) (fun c2 => ?_) (fun c2 => ?_)
    · have hf := sw_ip c2 hf
      refine lv_iconst (v := 0) hx hb dX0_trait_28 (by decide) ?_
      subst hQ
      exact W.iret hx hb hr (fun t ht hW => ⟨_, rfl, Option.some.inj hf, ht⟩) (fun _ h => absurd h List.not_mem_nil) dX0_trait_29 hlocks
    · have hf := sw_in c2 hf
      refine lv_aload_n hx hb dX0_trait_19 rfl (lv_at hl 1 rfl) ?_
      refine va_get (D := (dC, dI)) (ci := 0) (v := .ref aC_traits) (C := RX0) (T := TX0) (N := 2) hx hb hts iX0 hown hK hP 0 rfl rfl 0 (by decide) hw1 (fun _ h9 => h9) rfl dX0_trait_20 ?_
      refine lv_iload_n hx hb dX0_trait_23 rfl (lv_at hl 0 rfl) ?_
      obtain ⟨hi1, hf⟩ := sw_ix_s hf
      refine va_iald hx hb hK hP 1 0 rfl rfl hi1 dX0_trait_24 ?_
      refine lv_goto (tgt := 29) hx hb dX0_trait_25 (by decide) ?_
      subst hQ
      exact W.iret hx hb hr (fun t ht hW => ⟨_, rfl, Option.some.inj hf, ht⟩) (fun _ h => absurd h List.not_mem_nil) dX0_trait_29 hlocks
abbrev rm_X0_isOf : Room := { frames := 1, cells := 0, slots := 0, locals := 23 }
set_option maxHeartbeats 1000000 in
set_option maxRecDepth 100000 in
theorem k_X0_isOf (l : Launch) (dC : Nat → ClassId) (dI : Nat → Nat → Nat) (cI cZ : ClassId) (t0 : Nat) (aC aC_traits : Nat) (C_total : Int32) (C_traits : Nat → Int32) (l1 : Int32) (l2 : Int32) (rv : Int32)  (hf : F_X0_isOf C_traits l1 l2 = some (rv)) : Met l yX0_isOf wsX0_isOf rm_X0_isOf (sw_PR (dC, dI) t0 [(cI, .int), (cZ, .boolean)] [.ref aC, .int l1, .int l2] [(aC, .inr (0, [.ref aC_traits, .int C_total])), (aC_traits, .inl (cI, 20, .inl C_traits))]) (vp_Si (fun r => r = rv)) 0 0 (fun _ => False) := by
  refine sw_metR (cc := cX0_isOf) (maxL := 4) (ret := (some .boolean)) (lv := [(0, .ref aC), (1, .int l1), (2, .int l2)]) (by decide) rfl (Nat.le_of_ble_eq_true rfl) rfl ?_
  intro p e s m below meth c Q hQ hx hb hr hts hown hlocks hml hP hK hE hS ls hl
  have hown : s.vm.findClass RX0 = some m.cls := hown
  have hf := (F_X0_isOf.eq_1 _ _ _).symm.trans hf
  have hw1 := hts (.fieldLink RX0 41 "SwallowedInTurn$Crowd" "KINDS_OF_ONE" "[I") (List.mem_of_getElem? (i := 1) (by decide +kernel))
  refine lv_aload_n hx hb dX0_isOf_0 rfl (lv_at hl 0 rfl) ?_
  refine lv_iload_n hx hb dX0_isOf_1 rfl (lv_at hl 1 rfl) ?_
  refine lv_iconst (v := 0) hx hb dX0_isOf_2 (by decide) ?_
  obtain ⟨q1, hq1, hf⟩ := sw_bs hf
  have hPc := hP.sub (ws' := [(aC, .inr (0, [.ref aC_traits, .int C_total])), (aC_traits, .inl (cI, 20, .inl C_traits))]) [0, 1] rfl
  refine sw_rd (W.runV (As := [.int l1, .int (0 : Int32)]) (rest := []) ⟨hx, hb, hml, hown, hts⟩ (k_X0_trait l dC dI cI cZ t0 aC aC_traits C_total C_traits l1 (0 : Int32) q1 hq1) (cwV 2 hts gX0_isOf_X0_trait rfl rfl rfl (by decide +kernel) ⟨Nat.le_of_ble_eq_true rfl, Nat.le_of_ble_eq_true rfl⟩) ⟨sw_PR_bl, va_recv hK hPc (ci := 0) (q0 := 0) rfl rfl, sw_PR_pre hK hPc hE hS⟩ rfl rfl hl.1 rfl (lv_room (Nat.le_of_ble_eq_true rfl)) dX0_isOf_3 ⟨Nat.zero_le _, Nat.zero_le _⟩) ?_
  refine lv_istore_n (lv' := [(3, .int q1), (0, .ref aC), (1, .int l1), (2, .int l2)]) hx hb dX0_isOf_6 rfl hl (by decide) rfl (fun ls hl => ?_)
  refine lv_iload_n hx hb dX0_isOf_7 rfl (lv_at hl 0 rfl) ?_
  refine lv_if_lt (tgt := 19) hx hb dX0_isOf_8 (by decide) (fun c1 => ?_) (fun c1 => ?_)
  · have hf := sw_ip c1 hf
    refine lv_iconst (v := 0) hx hb dX0_isOf_19 (by decide) ?_
    subst hQ
    exact W.zret hx hb hr rfl (fun t ht hW => ⟨_, rfl, Option.some.inj hf, ht⟩) (fun _ h => absurd h List.not_mem_nil) dX0_isOf_20 hlocks
  · have hf := sw_in c1 hf
    refine lv_iload_n hx hb dX0_isOf_11 rfl (lv_at hl 0 rfl) ?_
    refine va_gets hx hb hE.2.1 hS hown hw1 (fun _ h9 => h9) dX0_isOf_12 ?_
    refine va_tlen hx hb hE.2.2 hS (v := 5) rfl dX0_isOf_15 ?_
    refine lv_icmp_lt (tgt := 21) hx hb dX0_isOf_16 (by decide) (fun c2 => ?_) (fun c2 => ?_)
    · have hf := sw_ip c2 hf
      refine va_gets hx hb hE.2.1 hS hown hw1 (fun _ h9 => h9) dX0_isOf_21 ?_
      refine lv_iload_n hx hb dX0_isOf_24 rfl (lv_at hl 0 rfl) ?_
      obtain ⟨hi2, hf⟩ := sw_ix_s hf
      refine va_ti hx hb hE.2.2 hS hi2 (v := .int (sw_kv q1.toNatClampNeg)) rfl dX0_isOf_25 ?_
      refine lv_iload_n hx hb dX0_isOf_26 rfl (lv_at hl 3 rfl) ?_
      refine lv_ishr hx hb dX0_isOf_27 ?_
      refine lv_iconst (v := 1) hx hb dX0_isOf_28 (by decide) ?_
      refine lv_iand hx hb dX0_isOf_29 ?_
      refine lv_iconst (v := 1) hx hb dX0_isOf_30 (by decide) ?_
      refine lv_icmp_ne (tgt := 38) hx hb dX0_isOf_31 (by decide) (fun c3 => ?_) (fun c3 => ?_)
      · have hf := sw_in c3 hf
        refine lv_iconst (v := 0) hx hb dX0_isOf_38 (by decide) ?_
        subst hQ
        exact W.zret hx hb hr rfl (fun t ht hW => ⟨_, rfl, Option.some.inj hf, ht⟩) (fun _ h => absurd h List.not_mem_nil) dX0_isOf_39 hlocks
      · have hf := sw_ip c3 hf
        refine lv_iconst (v := 1) hx hb dX0_isOf_34 (by decide) ?_
        refine lv_goto (tgt := 39) hx hb dX0_isOf_35 (by decide) ?_
        subst hQ
        exact W.zret hx hb hr rfl (fun t ht hW => ⟨_, rfl, Option.some.inj hf, ht⟩) (fun _ h => absurd h List.not_mem_nil) dX0_isOf_39 hlocks
    · have hf := sw_in c2 hf
      refine lv_iconst (v := 0) hx hb dX0_isOf_19 (by decide) ?_
      subst hQ
      exact W.zret hx hb hr rfl (fun t ht hW => ⟨_, rfl, Option.some.inj hf, ht⟩) (fun _ h => absurd h List.not_mem_nil) dX0_isOf_20 hlocks
