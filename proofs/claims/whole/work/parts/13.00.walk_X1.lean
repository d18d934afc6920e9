abbrev rm_X1_holder : Room := { frames := 0, cells := 0, slots := 0, locals := 0 }
set_option maxHeartbeats 1000000 in
set_option maxRecDepth 100000 in
theorem k_X1_holder (l : Launch) (dC : Nat → ClassId) (dI : Nat → Nat → Nat) (cI cZ : ClassId) (t0 : Nat) (aN aC aN_holders : Nat) (N_holders : Nat → Int32) (l1 : Int32) (rv : Int32)  (hf : F_X1_holder N_holders l1 = some (rv)) : Met l yX1_holder wsX1_holder rm_X1_holder (sw_PR (dC, dI) t0 [(cI, .int), (cZ, .boolean)] [.ref aN, .int l1] [(aN, .inr (1, [.ref aC, .ref aN_holders])), (aN_holders, .inl (cI, 5, .inl N_holders))]) (vp_Si (fun r => r = rv)) 0 0 (fun _ => False) := by
  refine sw_metR (cc := cX1_holder) (maxL := 2) (ret := (some .int)) (lv := [(0, .ref aN), (1, .int l1)]) (by decide) rfl (Nat.le_of_ble_eq_true rfl) rfl ?_
  intro p e s m below meth c Q hQ hx hb hr hts hown hlocks hml hP hK hE hS ls hl
  have hown : s.vm.findClass RX1 = some m.cls := hown
  have hf := (F_X1_holder.eq_1 _ _).symm.trans hf
  have hw1 := hts (.fieldLink RX1 9 "SwallowedInTurn$Nesting" "holders" "[I") (List.mem_of_getElem? (i := 1) (by decide +kernel))
  have iX1 : ∀ w ∈ u_ws RX1 TX1 2, w ∈ wsX1_holder := by decide +kernel
  refine lv_iload_n hx hb dX1_holder_0 rfl (lv_at hl 1 rfl) ?_
  refine lv_if_lt (tgt := 22) hx hb dX1_holder_1 (by decide) (fun c1 => ?_) (fun c1 => ?_)
  · have hf := sw_ip c1 hf
    refine lv_iconst (v := -1) hx hb dX1_holder_22 (by decide) ?_
    subst hQ
    exact W.iret hx hb hr (fun t ht hW => ⟨_, rfl, Option.some.inj hf, ht⟩) (fun _ h => absurd h List.not_mem_nil) dX1_holder_23 hlocks
  · have hf := sw_in c1 hf
    refine lv_iload_n hx hb dX1_holder_4 rfl (lv_at hl 1 rfl) ?_
    refine lv_aload_n hx hb dX1_holder_5 rfl (lv_at hl 0 rfl) ?_
    refine va_get (D := (dC, dI)) (ci := 1) (v := .ref aN_holders) (C := RX1) (T := TX1) (N := 2) hx hb hts iX1 hown hK hP 0 rfl rfl 1 (by decide) hw1 (fun _ h9 => h9) rfl dX1_holder_6 ?_
    refine va_alen hx hb hK hP 1 0 rfl rfl (v := 5) (show Int32.ofNat 5 = 5 by decide +kernel) dX1_holder_9 ?_
    refine lv_icmp_ge (tgt := 22) hx hb dX1_holder_10 (by decide) (fun c2 => ?_) (fun c2 => ?_)
    · have hf := sw_ip c2 hf
      refine lv_iconst (v := -1) hx hb dX1_holder_22 (by decide) ?_
      subst hQ
      exact W.iret hx hb hr (fun t ht hW => ⟨_, rfl, Option.some.inj hf, ht⟩) (fun _ h => absurd h List.not_mem_nil) dX1_holder_23 hlocks
    · have hf := sw_in c2 hf
      refine lv_aload_n hx hb dX1_holder_13 rfl (lv_at hl 0 rfl) ?_
      refine va_get (D := (dC, dI)) (ci := 1) (v := .ref aN_holders) (C := RX1) (T := TX1) (N := 2) hx hb hts iX1 hown hK hP 0 rfl rfl 1 (by decide) hw1 (fun _ h9 => h9) rfl dX1_holder_14 ?_
      refine lv_iload_n hx hb dX1_holder_17 rfl (lv_at hl 1 rfl) ?_
      obtain ⟨hi1, hf⟩ := sw_ix_s hf
      refine va_iald hx hb hK hP 1 0 rfl rfl hi1 dX1_holder_18 ?_
      refine lv_goto (tgt := 23) hx hb dX1_holder_19 (by decide) ?_
      subst hQ
      exact W.iret hx hb hr (fun t ht hW => ⟨_, rfl, Option.some.inj hf, ht⟩) (fun _ h => absurd h List.not_mem_nil) dX1_holder_23 hlocks
abbrev rm_X1_put : Room := { frames := 0, cells := 0, slots := 0, locals := 0 }
set_option maxHeartbeats 1000000 in
set_option maxRecDepth 100000 in
theorem k_X1_put (l : Launch) (dC : Nat → ClassId) (dI : Nat → Nat → Nat) (cI cZ : ClassId) (t0 : Nat) (sz : Nat) (aN aC aN_holders : Nat) (N_holders : Nat → Int32) (l1 : Int32) (l2 : Int32) (N_holders' : Nat → Int32) (hf : F_X1_put N_holders l1 l2 = some (N_holders')) : Met l yX1_put wsX1_put rm_X1_put (sw_PW (dC, dI) t0 [(cI, .int), (cZ, .boolean)] [.ref aN, .int l1, .int l2] [(aN, .inr (1, [.ref aC, .ref aN_holders])), (aN_holders, .inl (cI, 5, .inl N_holders))] sz) (va_Qv (fun (_ : Unit) => True) (fun _ t => sw_B (dC, dI) [(cI, .int), (cZ, .boolean)] [(aN, .inr (1, [.ref aC, .ref aN_holders])), (aN_holders, .inl (cI, 5, .inl N_holders'))] (va_A [(aN, .inr (1, [.ref aC, .ref aN_holders])), (aN_holders, .inl (cI, 5, .inl N_holders))] sz) t) (va_A [(aN, .inr (1, [.ref aC, .ref aN_holders])), (aN_holders, .inl (cI, 5, .inl N_holders))] sz)) 0 0 (va_A [(aN, .inr (1, [.ref aC, .ref aN_holders])), (aN_holders, .inl (cI, 5, .inl N_holders))] sz) := by
  refine sw_metW (cc := cX1_put) (maxL := 3) (ret := none) (lv := [(0, .ref aN), (1, .int l1), (2, .int l2)]) (by decide) rfl (Nat.le_of_ble_eq_true rfl) rfl ?_
  intro p e s m below meth c Q A hsz hAe hQ hx hb hr hts hown hlocks hml hmn hP hK hD hE hS hA ls hl
  have hS0 := hS
  have hown : s.vm.findClass RX1 = some m.cls := hown
  have hf := (F_X1_put.eq_1 _ _ _).symm.trans hf
  have hw1 := hts (.fieldLink RX1 9 "SwallowedInTurn$Nesting" "holders" "[I") (List.mem_of_getElem? (i := 1) (by decide +kernel))
  have iX1 : ∀ w ∈ u_ws RX1 TX1 2, w ∈ wsX1_put := by decide +kernel
  obtain ⟨H, hH⟩ : ∃ H, H = s.heap := ⟨_, rfl⟩
  obtain ⟨locs, hlo⟩ : ∃ locs : List Loc, locs = [] := ⟨_, rfl⟩
  rw [← hH] at hP
  have hS : va_S A s.heap H locs := by rw [hH, hlo]; exact hS0
  suffices hgo : W p l e rm_X1_put s m ([.ref aN, .int l1, .int l2] : List Value).toArray below meth c H locs 0 0 Q (F0 m 0 ls []) by rw [hH, hlo] at hgo; exact hgo
  refine lv_iload_n hx hb dX1_put_0 rfl (lv_at hl 1 rfl) ?_
  refine lv_if_lt (tgt := 20) hx hb dX1_put_1 (by decide) (fun c1 => ?_) (fun c1 => ?_)
  · have hf := sw_ip c1 hf
    subst hQ hAe
    cases hf
    exact W.vret hx hb hr (fun t ht hW => ⟨⟨(), rfl, trivial, ⟨by rw [ht]; exact hP, va_K.moved hW.alike hK, hD⟩⟩, hS.F ht⟩) hS.2.2 dX1_put_20 hlocks
  · have hf := sw_in c1 hf
    refine lv_iload_n hx hb dX1_put_4 rfl (lv_at hl 1 rfl) ?_
    refine lv_aload_n hx hb dX1_put_5 rfl (lv_at hl 0 rfl) ?_
    refine va_get (D := (dC, dI)) (ci := 1) (v := .ref aN_holders) (C := RX1) (T := TX1) (N := 2) hx hb hts iX1 hown hK hP 0 rfl rfl 1 (by decide) hw1 (fun _ h9 => h9) rfl dX1_put_6 ?_
    refine va_alen hx hb hK hP 1 0 rfl rfl (v := 5) (show Int32.ofNat 5 = 5 by decide +kernel) dX1_put_9 ?_
    refine lv_icmp_ge (tgt := 20) hx hb dX1_put_10 (by decide) (fun c2 => ?_) (fun c2 => ?_)
    · have hf := sw_ip c2 hf
      subst hQ hAe
      cases hf
      exact W.vret hx hb hr (fun t ht hW => ⟨⟨(), rfl, trivial, ⟨by rw [ht]; exact hP, va_K.moved hW.alike hK, hD⟩⟩, hS.F ht⟩) hS.2.2 dX1_put_20 hlocks
    · have hf := sw_in c2 hf
      refine lv_aload_n hx hb dX1_put_13 rfl (lv_at hl 0 rfl) ?_
      refine va_get (D := (dC, dI)) (ci := 1) (v := .ref aN_holders) (C := RX1) (T := TX1) (N := 2) hx hb hts iX1 hown hK hP 0 rfl rfl 1 (by decide) hw1 (fun _ h9 => h9) rfl dX1_put_14 ?_
      refine lv_iload_n hx hb dX1_put_17 rfl (lv_at hl 1 rfl) ?_
      refine lv_iload_n hx hb dX1_put_18 rfl (lv_at hl 2 rfl) ?_
      obtain ⟨hi1, hf⟩ := sw_ix_s hf
      refine va_iast hx hb hK hP hD hS 1 0 rfl rfl hi1 dX1_put_19 (fun H locs hP hD hS => ?_)
      have hP : va_P (dC, dI) vwCl [(aN, .inr (1, [.ref aC, .ref aN_holders])), (aN_holders, .inl (cI, 5, .inl (upd N_holders l1.toNatClampNeg l2)))] H := hP
      have hD : va_D A [(aN, .inr (1, [.ref aC, .ref aN_holders])), (aN_holders, .inl (cI, 5, .inl (upd N_holders l1.toNatClampNeg l2)))] := hD
      subst hQ hAe
      cases hf
      exact W.vret hx hb hr (fun t ht hW => ⟨⟨(), rfl, trivial, ⟨by rw [ht]; exact hP, va_K.moved hW.alike hK, hD⟩⟩, hS.F ht⟩) hS.2.2 dX1_put_20 hlocks
abbrev rm_X1_copy : Room := { frames := 1, cells := 0, slots := 0, locals := 21 }
set_option maxHeartbeats 1000000 in
set_option maxRecDepth 100000 in
theorem k_X1_copy (l : Launch) (dC : Nat → ClassId) (dI : Nat → Nat → Nat) (cI cZ : ClassId) (t0 : Nat) (sz : Nat) (aN aC aN_holders aO aO_holders : Nat) (N_holders : Nat → Int32) (O_holders : Nat → Int32) (N_holders' : Nat → Int32) (hf : F_X1_copy N_holders O_holders = some (N_holders')) : Met l yX1_copy wsX1_copy rm_X1_copy (sw_PW (dC, dI) t0 [(cI, .int), (cZ, .boolean)] [.ref aN, .ref aO] [(aN, .inr (1, [.ref aC, .ref aN_holders])), (aN_holders, .inl (cI, 5, .inl N_holders)), (aO, .inr (1, [.ref aC, .ref aO_holders])), (aO_holders, .inl (cI, 5, .inl O_holders))] sz) (va_Qv (fun (_ : Unit) => True) (fun _ t => sw_B (dC, dI) [(cI, .int), (cZ, .boolean)] [(aN, .inr (1, [.ref aC, .ref aN_holders])), (aN_holders, .inl (cI, 5, .inl N_holders')), (aO, .inr (1, [.ref aC, .ref aO_holders])), (aO_holders, .inl (cI, 5, .inl O_holders))] (va_A [(aN, .inr (1, [.ref aC, .ref aN_holders])), (aN_holders, .inl (cI, 5, .inl N_holders)), (aO, .inr (1, [.ref aC, .ref aO_holders])), (aO_holders, .inl (cI, 5, .inl O_holders))] sz) t) (va_A [(aN, .inr (1, [.ref aC, .ref aN_holders])), (aN_holders, .inl (cI, 5, .inl N_holders)), (aO, .inr (1, [.ref aC, .ref aO_holders])), (aO_holders, .inl (cI, 5, .inl O_holders))] sz)) 0 0 (va_A [(aN, .inr (1, [.ref aC, .ref aN_holders])), (aN_holders, .inl (cI, 5, .inl N_holders)), (aO, .inr (1, [.ref aC, .ref aO_holders])), (aO_holders, .inl (cI, 5, .inl O_holders))] sz) := by
  refine sw_metW (cc := cX1_copy) (maxL := 3) (ret := none) (lv := [(0, .ref aN), (1, .ref aO)]) (by decide) rfl (Nat.le_of_ble_eq_true rfl) rfl ?_
  intro p e s m below meth c Q A hsz hAe hQ hx hb hr hts hown hlocks hml hmn hP hK hD hE hS hA ls hl
  have hS0 := hS
  have hown : s.vm.findClass RX1 = some m.cls := hown
  have hf := (F_X1_copy.eq_1 _ _).symm.trans hf
  have hw1 := hts (.fieldLink RX1 9 "SwallowedInTurn$Nesting" "holders" "[I") (List.mem_of_getElem? (i := 1) (by decide +kernel))
  have iX1 : ∀ w ∈ u_ws RX1 TX1 2, w ∈ wsX1_copy := by decide +kernel
  have hf0 := hf
  clear hf
  have hP0 := hP
  have hD0 := hD
  clear hP hD hS
  have hl0 := hl
  clear hl
  have hB_2 :  ∀ (fu : Nat) (N_holders : Nat → Int32) (l2 : Int32), F_X1_copy_2 O_holders fu N_holders l2 = some (N_holders') → ∀ (H : Heap) (locs : List Loc), va_P (dC, dI) vwCl [(aN, .inr (1, [.ref aC, .ref aN_holders])), (aN_holders, .inl (cI, 5, .inl N_holders)), (aO, .inr (1, [.ref aC, .ref aO_holders])), (aO_holders, .inl (cI, 5, .inl O_holders))] H → va_D A [(aN, .inr (1, [.ref aC, .ref aN_holders])), (aN_holders, .inl (cI, 5, .inl N_holders)), (aO, .inr (1, [.ref aC, .ref aO_holders])), (aO_holders, .inl (cI, 5, .inl O_holders))] → va_S A s.heap H locs → ∀ ls : Array Slot, lv_has ls 3 [(0, .ref aN), (1, .ref aO), (2, .int l2)] → W p l e rm_X1_copy s m ([.ref aN, .ref aO] : List Value).toArray below meth c H locs 0 0 Q (F0 m 2 ls []) := by
    intro   fu
    induction fu with
    | zero =>
      intro N_holders l2 hf
      exact nomatch (show (none : Option ((Nat → Int32))) = some (N_holders') from hf)
    | succ fu ih =>
      intro N_holders l2 hf H locs hP hD hS ls hl
      have hf := (F_X1_copy_2.eq_2 _ _ _ _).symm.trans hf
      refine lv_iload_n hx hb dX1_copy_2 rfl (lv_at hl 2 rfl) ?_
      refine lv_aload_n hx hb dX1_copy_3 rfl (lv_at hl 0 rfl) ?_
      refine va_get (D := (dC, dI)) (ci := 1) (v := .ref aN_holders) (C := RX1) (T := TX1) (N := 2) hx hb hts iX1 hown hK hP 0 rfl rfl 1 (by decide) hw1 (fun _ h9 => h9) rfl dX1_copy_4 ?_
      refine va_alen hx hb hK hP 1 0 rfl rfl (v := 5) (show Int32.ofNat 5 = 5 by decide +kernel) dX1_copy_7 ?_
      refine lv_icmp_ge (tgt := 28) hx hb dX1_copy_8 (by decide) (fun c1 => ?_) (fun c1 => ?_)
      · have hf := sw_ip c1 hf
        subst hQ hAe
        cases hf
        exact W.vret hx hb hr (fun t ht hW => ⟨⟨(), rfl, trivial, ⟨by rw [ht]; exact hP, va_K.moved hW.alike hK, hD⟩⟩, hS.F ht⟩) hS.2.2 dX1_copy_28 hlocks
      · have hf := sw_in c1 hf
        refine lv_aload_n hx hb dX1_copy_11 rfl (lv_at hl 0 rfl) ?_
        refine va_get (D := (dC, dI)) (ci := 1) (v := .ref aN_holders) (C := RX1) (T := TX1) (N := 2) hx hb hts iX1 hown hK hP 0 rfl rfl 1 (by decide) hw1 (fun _ h9 => h9) rfl dX1_copy_12 ?_
        refine lv_iload_n hx hb dX1_copy_15 rfl (lv_at hl 2 rfl) ?_
        refine lv_aload_n hx hb dX1_copy_16 rfl (lv_at hl 1 rfl) ?_
        refine lv_iload_n hx hb dX1_copy_17 rfl (lv_at hl 2 rfl) ?_
        obtain ⟨q1, hq1, hf⟩ := sw_bs hf
        have hPc := hP.sub (ws' := [(aO, .inr (1, [.ref aC, .ref aO_holders])), (aO_holders, .inl (cI, 5, .inl O_holders))]) [2, 3] rfl
        refine sw_rd (W.runV (As := [.int l2]) (rest := [.int l2, .ref aN_holders]) ⟨hx, hb, hml, hown, hts⟩ (k_X1_holder l dC dI cI cZ t0 aO aC aO_holders O_holders l2 q1 hq1) (cwV 1 hts gX1_copy_X1_holder rfl rfl rfl (by decide +kernel) ⟨Nat.le_of_ble_eq_true rfl, Nat.le_of_ble_eq_true rfl⟩) ⟨sw_PR_bl, va_recv hK hPc (ci := 1) (q0 := 0) rfl rfl, sw_PR_pre hK hPc hE hS⟩ rfl rfl hl.1 rfl (lv_room (Nat.le_of_ble_eq_true rfl)) dX1_copy_18 ⟨Nat.zero_le _, Nat.zero_le _⟩) ?_
        obtain ⟨hi2, hf⟩ := sw_ix_s hf
        refine va_iast hx hb hK hP hD hS 1 0 rfl rfl hi2 dX1_copy_21 (fun H locs hP hD hS => ?_)
        have hP : va_P (dC, dI) vwCl [(aN, .inr (1, [.ref aC, .ref aN_holders])), (aN_holders, .inl (cI, 5, .inl (upd N_holders l2.toNatClampNeg q1))), (aO, .inr (1, [.ref aC, .ref aO_holders])), (aO_holders, .inl (cI, 5, .inl O_holders))] H := hP
        have hD : va_D A [(aN, .inr (1, [.ref aC, .ref aN_holders])), (aN_holders, .inl (cI, 5, .inl (upd N_holders l2.toNatClampNeg q1))), (aO, .inr (1, [.ref aC, .ref aO_holders])), (aO_holders, .inl (cI, 5, .inl O_holders))] := hD
        refine lv_iinc (v := l2 + (1 : Int32)) (lv' := [(2, .int (l2 + (1 : Int32))), (0, .ref aN), (1, .ref aO)]) hx hb dX1_copy_22 hl (k := 2) rfl (sw_ii _) (by decide) rfl (fun ls hl => ?_)
        refine lv_goto (tgt := 2) hx hb dX1_copy_25 (by decide) ?_
        exact ih (upd N_holders l2.toNatClampNeg q1) (l2 + (1 : Int32)) hf H locs hP hD hS ls (lv_sub hl [1, 2, 0] rfl)
  have hf := hf0
  have hl := hl0
  have hP := hP0
  have hD := hD0
  have hS := hS0
  obtain ⟨H, hH⟩ : ∃ H, H = s.heap := ⟨_, rfl⟩
  obtain ⟨locs, hlo⟩ : ∃ locs : List Loc, locs = [] := ⟨_, rfl⟩
  rw [← hH] at hP
  have hS : va_S A s.heap H locs := by rw [hH, hlo]; exact hS0
  suffices hgo : W p l e rm_X1_copy s m ([.ref aN, .ref aO] : List Value).toArray below meth c H locs 0 0 Q (F0 m 0 ls []) by rw [hH, hlo] at hgo; exact hgo
  refine lv_iconst (v := 0) hx hb dX1_copy_0 (by decide) ?_
  refine lv_istore_n (lv' := [(2, .int (0 : Int32)), (0, .ref aN), (1, .ref aO)]) hx hb dX1_copy_1 rfl hl (by decide) rfl (fun ls hl => ?_)
  exact hB_2   sw_fu N_holders (0 : Int32) hf H locs hP hD hS ls (lv_sub hl [1, 2, 0] rfl)
abbrev rm_X1_toNumber : Room := { frames := 0, cells := 0, slots := 0, locals := 0 }
set_option maxHeartbeats 1000000 in
set_option maxRecDepth 100000 in
theorem k_X1_toNumber (l : Launch) (dC : Nat → ClassId) (dI : Nat → Nat → Nat) (cI cZ : ClassId) (t0 : Nat) (aN aC aN_holders : Nat) (N_holders : Nat → Int32) (rv : Int32)  (hf : F_X1_toNumber N_holders = some (rv)) : Met l yX1_toNumber wsX1_toNumber rm_X1_toNumber (sw_PR (dC, dI) t0 [(cI, .int), (cZ, .boolean)] [.ref aN] [(aN, .inr (1, [.ref aC, .ref aN_holders])), (aN_holders, .inl (cI, 5, .inl N_holders))]) (vp_Si (fun r => r = rv)) 0 0 (fun _ => False) := by
  refine sw_metR (cc := cX1_toNumber) (maxL := 3) (ret := (some .int)) (lv := [(0, .ref aN)]) (by decide) rfl (Nat.le_of_ble_eq_true rfl) rfl ?_
  intro p e s m below meth c Q hQ hx hb hr hts hown hlocks hml hP hK hE hS ls hl
  have hown : s.vm.findClass RX1 = some m.cls := hown
  have hf := (F_X1_toNumber.eq_1 _).symm.trans hf
  have hw1 := hts (.fieldLink RX1 9 "SwallowedInTurn$Nesting" "holders" "[I") (List.mem_of_getElem? (i := 1) (by decide +kernel))
  have iX1 : ∀ w ∈ u_ws RX1 TX1 2, w ∈ wsX1_toNumber := by decide +kernel
  have hf0 := hf
  clear hf
  have hl0 := hl
  clear hl
  have hB_10 :  ∀ (fu : Nat) (l1 : Int32) (l2 : Int32), F_X1_toNumber_10 N_holders fu l1 l2 = some (rv) → ∀ ls : Array Slot, lv_has ls 3 [(0, .ref aN), (1, .int l1), (2, .int l2)] → W p l e rm_X1_toNumber s m ([.ref aN] : List Value).toArray below meth c s.heap [] 0 0 Q (F0 m 10 ls []) := by
    intro   fu
    induction fu with
    | zero =>
      intro l1 l2 hf
      exact nomatch (show (none : Option (Int32)) = some (rv) from hf)
    | succ fu ih =>
      intro l1 l2 hf ls hl
      have hf := (F_X1_toNumber_10.eq_2 _ _ _ _).symm.trans hf
      refine lv_iload_n hx hb dX1_toNumber_10 rfl (lv_at hl 2 rfl) ?_
      refine lv_if_lt (tgt := 34) hx hb dX1_toNumber_11 (by decide) (fun c1 => ?_) (fun c1 => ?_)
      · have hf := sw_ip c1 hf
        refine lv_iload_n hx hb dX1_toNumber_34 rfl (lv_at hl 1 rfl) ?_
        subst hQ
        exact W.iret hx hb hr (fun t ht hW => ⟨_, rfl, Option.some.inj hf, ht⟩) (fun _ h => absurd h List.not_mem_nil) dX1_toNumber_35 hlocks
      · have hf := sw_in c1 hf
        refine lv_iload_n hx hb dX1_toNumber_14 rfl (lv_at hl 1 rfl) ?_
        refine lv_bipush (v := 6) hx hb dX1_toNumber_15 (by decide) ?_
        refine lv_imul hx hb dX1_toNumber_17 ?_
        refine lv_aload_n hx hb dX1_toNumber_18 rfl (lv_at hl 0 rfl) ?_
        refine va_get (D := (dC, dI)) (ci := 1) (v := .ref aN_holders) (C := RX1) (T := TX1) (N := 2) hx hb hts iX1 hown hK hP 0 rfl rfl 1 (by decide) hw1 (fun _ h9 => h9) rfl dX1_toNumber_19 ?_
        refine lv_iload_n hx hb dX1_toNumber_22 rfl (lv_at hl 2 rfl) ?_
        obtain ⟨hi1, hf⟩ := sw_ix_s hf
        refine va_iald hx hb hK hP 1 0 rfl rfl hi1 dX1_toNumber_23 ?_
        refine lv_iadd hx hb dX1_toNumber_24 ?_
        refine lv_iconst (v := 1) hx hb dX1_toNumber_25 (by decide) ?_
        refine lv_iadd hx hb dX1_toNumber_26 ?_
        refine lv_istore_n (lv' := [(1, .int (((l1 * (6 : Int32)) + (N_holders l2.toNatClampNeg)) + (1 : Int32))), (0, .ref aN), (2, .int l2)]) hx hb dX1_toNumber_27 rfl hl (by decide) rfl (fun ls hl => ?_)
        refine lv_iinc (v := l2 + (-1 : Int32)) (lv' := [(2, .int (l2 + (-1 : Int32))), (1, .int (((l1 * (6 : Int32)) + (N_holders l2.toNatClampNeg)) + (1 : Int32))), (0, .ref aN)]) hx hb dX1_toNumber_28 hl (k := 2) rfl (sw_iim _) (by decide) rfl (fun ls hl => ?_)
        refine lv_goto (tgt := 10) hx hb dX1_toNumber_31 (by decide) ?_
        exact ih (((l1 * (6 : Int32)) + (N_holders l2.toNatClampNeg)) + (1 : Int32)) (l2 + (-1 : Int32)) hf ls (lv_sub hl [2, 1, 0] rfl)
  have hf := hf0
  have hl := hl0
  refine lv_iconst (v := 0) hx hb dX1_toNumber_0 (by decide) ?_
  refine lv_istore_n (lv' := [(1, .int (0 : Int32)), (0, .ref aN)]) hx hb dX1_toNumber_1 rfl hl (by decide) rfl (fun ls hl => ?_)
  refine lv_aload_n hx hb dX1_toNumber_2 rfl (lv_at hl 1 rfl) ?_
  refine va_get (D := (dC, dI)) (ci := 1) (v := .ref aN_holders) (C := RX1) (T := TX1) (N := 2) hx hb hts iX1 hown hK hP 0 rfl rfl 1 (by decide) hw1 (fun _ h9 => h9) rfl dX1_toNumber_3 ?_
  refine va_alen hx hb hK hP 1 0 rfl rfl (v := 5) (show Int32.ofNat 5 = 5 by decide +kernel) dX1_toNumber_6 ?_
  refine lv_iconst (v := 1) hx hb dX1_toNumber_7 (by decide) ?_
  refine lv_isub hx hb dX1_toNumber_8 ?_
  refine lv_istore_n (lv' := [(2, .int ((5 : Int32) - (1 : Int32))), (1, .int (0 : Int32)), (0, .ref aN)]) hx hb dX1_toNumber_9 rfl hl (by decide) rfl (fun ls hl => ?_)
  exact hB_10   sw_fu (0 : Int32) ((5 : Int32) - (1 : Int32)) hf ls (lv_sub hl [2, 1, 0] rfl)
abbrev rm_X1_become : Room := { frames := 0, cells := 0, slots := 0, locals := 0 }
set_option maxHeartbeats 1000000 in
set_option maxRecDepth 100000 in
theorem k_X1_become (l : Launch) (dC : Nat → ClassId) (dI : Nat → Nat → Nat) (cI cZ : ClassId) (t0 : Nat) (sz : Nat) (aN aC aN_holders : Nat) (N_holders : Nat → Int32) (l1 : Int32) (N_holders' : Nat → Int32) (hf : F_X1_become N_holders l1 = some (N_holders')) : Met l yX1_become wsX1_become rm_X1_become (sw_PW (dC, dI) t0 [(cI, .int), (cZ, .boolean)] [.ref aN, .int l1] [(aN, .inr (1, [.ref aC, .ref aN_holders])), (aN_holders, .inl (cI, 5, .inl N_holders))] sz) (va_Qv (fun (_ : Unit) => True) (fun _ t => sw_B (dC, dI) [(cI, .int), (cZ, .boolean)] [(aN, .inr (1, [.ref aC, .ref aN_holders])), (aN_holders, .inl (cI, 5, .inl N_holders'))] (va_A [(aN, .inr (1, [.ref aC, .ref aN_holders])), (aN_holders, .inl (cI, 5, .inl N_holders))] sz) t) (va_A [(aN, .inr (1, [.ref aC, .ref aN_holders])), (aN_holders, .inl (cI, 5, .inl N_holders))] sz)) 0 0 (va_A [(aN, .inr (1, [.ref aC, .ref aN_holders])), (aN_holders, .inl (cI, 5, .inl N_holders))] sz) := by
  refine sw_metW (cc := cX1_become) (maxL := 4) (ret := none) (lv := [(0, .ref aN), (1, .int l1)]) (by decide) rfl (Nat.le_of_ble_eq_true rfl) rfl ?_
  intro p e s m below meth c Q A hsz hAe hQ hx hb hr hts hown hlocks hml hmn hP hK hD hE hS hA ls hl
  have hS0 := hS
  have hown : s.vm.findClass RX1 = some m.cls := hown
  have hf := (F_X1_become.eq_1 _ _).symm.trans hf
  have hw1 := hts (.fieldLink RX1 9 "SwallowedInTurn$Nesting" "holders" "[I") (List.mem_of_getElem? (i := 1) (by decide +kernel))
  have iX1 : ∀ w ∈ u_ws RX1 TX1 2, w ∈ wsX1_become := by decide +kernel
  have hf0 := hf
  clear hf
  have hP0 := hP
  have hD0 := hD
  clear hP hD hS
  have hl0 := hl
  clear hl
  have hB_4 :  ∀ (fu : Nat) (N_holders : Nat → Int32) (l2 : Int32) (l3 : Int32), F_X1_become_4  fu N_holders l2 l3 = some (N_holders') → ∀ (H : Heap) (locs : List Loc), va_P (dC, dI) vwCl [(aN, .inr (1, [.ref aC, .ref aN_holders])), (aN_holders, .inl (cI, 5, .inl N_holders))] H → va_D A [(aN, .inr (1, [.ref aC, .ref aN_holders])), (aN_holders, .inl (cI, 5, .inl N_holders))] → va_S A s.heap H locs → ∀ ls : Array Slot, lv_has ls 4 [(0, .ref aN), (2, .int l2), (3, .int l3)] → W p l e rm_X1_become s m ([.ref aN, .int l1] : List Value).toArray below meth c H locs 0 0 Q (F0 m 4 ls []) := by
    intro   fu
    induction fu with
    | zero =>
      intro N_holders l2 l3 hf
      exact nomatch (show (none : Option ((Nat → Int32))) = some (N_holders') from hf)
    | succ fu ih =>
      intro N_holders l2 l3 hf H locs hP hD hS ls hl
      have hf := (F_X1_become_4.eq_2 _ _ _ _).symm.trans hf
      refine lv_iload_n hx hb dX1_become_4 rfl (lv_at hl 2 rfl) ?_
      refine lv_aload_n hx hb dX1_become_5 rfl (lv_at hl 0 rfl) ?_
      refine va_get (D := (dC, dI)) (ci := 1) (v := .ref aN_holders) (C := RX1) (T := TX1) (N := 2) hx hb hts iX1 hown hK hP 0 rfl rfl 1 (by decide) hw1 (fun _ h9 => h9) rfl dX1_become_6 ?_
      refine va_alen hx hb hK hP 1 0 rfl rfl (v := 5) (show Int32.ofNat 5 = 5 by decide +kernel) dX1_become_9 ?_
      refine lv_icmp_ge (tgt := 36) hx hb dX1_become_10 (by decide) (fun c1 => ?_) (fun c1 => ?_)
      · have hf := sw_ip c1 hf
        subst hQ hAe
        cases hf
        exact W.vret hx hb hr (fun t ht hW => ⟨⟨(), rfl, trivial, ⟨by rw [ht]; exact hP, va_K.moved hW.alike hK, hD⟩⟩, hS.F ht⟩) hS.2.2 dX1_become_36 hlocks
      · have hf := sw_in c1 hf
        refine lv_aload_n hx hb dX1_become_13 rfl (lv_at hl 0 rfl) ?_
        refine va_get (D := (dC, dI)) (ci := 1) (v := .ref aN_holders) (C := RX1) (T := TX1) (N := 2) hx hb hts iX1 hown hK hP 0 rfl rfl 1 (by decide) hw1 (fun _ h9 => h9) rfl dX1_become_14 ?_
        refine lv_iload_n hx hb dX1_become_17 rfl (lv_at hl 2 rfl) ?_
        refine lv_iload_n hx hb dX1_become_18 rfl (lv_at hl 1 rfl) ?_
        refine lv_bipush (v := 6) hx hb dX1_become_19 (by decide) ?_
        refine lv_irem hx hb dX1_become_21 (by decide) ?_
        refine lv_iconst (v := 1) hx hb dX1_become_22 (by decide) ?_
        refine lv_isub hx hb dX1_become_23 ?_
        obtain ⟨hi1, hf⟩ := sw_ix_s hf
        refine va_iast hx hb hK hP hD hS 1 0 rfl rfl hi1 dX1_become_24 (fun H locs hP hD hS => ?_)
        have hP : va_P (dC, dI) vwCl [(aN, .inr (1, [.ref aC, .ref aN_holders])), (aN_holders, .inl (cI, 5, .inl (upd N_holders l3.toNatClampNeg ((l2 - l2 / (6 : Int32) * (6 : Int32)) - (1 : Int32)))))] H := hP
        have hD : va_D A [(aN, .inr (1, [.ref aC, .ref aN_holders])), (aN_holders, .inl (cI, 5, .inl (upd N_holders l3.toNatClampNeg ((l2 - l2 / (6 : Int32) * (6 : Int32)) - (1 : Int32)))))] := hD
        refine lv_iload_n hx hb dX1_become_25 rfl (lv_at hl 1 rfl) ?_
        refine lv_bipush (v := 6) hx hb dX1_become_26 (by decide) ?_
        refine lv_idiv hx hb dX1_become_28 (by decide) ?_
        refine lv_istore_n (lv' := [(2, .int (l2 / (6 : Int32))), (0, .ref aN), (3, .int l3)]) hx hb dX1_become_29 rfl hl (by decide) rfl (fun ls hl => ?_)
        refine lv_iinc (v := l3 + (1 : Int32)) (lv' := [(3, .int (l3 + (1 : Int32))), (2, .int (l2 / (6 : Int32))), (0, .ref aN)]) hx hb dX1_become_30 hl (k := 2) rfl (sw_ii _) (by decide) rfl (fun ls hl => ?_)
        refine lv_goto (tgt := 4) hx hb dX1_become_33 (by decide) ?_
        exact ih (upd N_holders l3.toNatClampNeg ((l2 - l2 / (6 : Int32) * (6 : Int32)) - (1 : Int32))) (l2 / (6 : Int32)) (l3 + (1 : Int32)) hf H locs hP hD hS ls (lv_sub hl [2, 1, 0] rfl)
  have hf := hf0
  have hl := hl0
  have hP := hP0
  have hD := hD0
  have hS := hS0
  obtain ⟨H, hH⟩ : ∃ H, H = s.heap := ⟨_, rfl⟩
  obtain ⟨locs, hlo⟩ : ∃ locs : List Loc, locs = [] := ⟨_, rfl⟩
  rw [← hH] at hP
  have hS : va_S A s.heap H locs := by rw [hH, hlo]; exact hS0
  suffices hgo : W p l e rm_X1_become s m ([.ref aN, .int l1] : List Value).toArray below meth c H locs 0 0 Q (F0 m 0 ls []) by rw [hH, hlo] at hgo; exact hgo
  refine lv_iload_n hx hb dX1_become_0 rfl (lv_at hl 1 rfl) ?_
  refine lv_istore_n (lv' := [(2, .int l1), (0, .ref aN), (1, .int l1)]) hx hb dX1_become_1 rfl hl (by decide) rfl (fun ls hl => ?_)
  refine lv_iconst (v := 0) hx hb dX1_become_2 (by decide) ?_
  refine lv_istore_n (lv' := [(3, .int (0 : Int32)), (2, .int l1), (0, .ref aN), (1, .int l1)]) hx hb dX1_become_3 rfl hl (by decide) rfl (fun ls hl => ?_)
  exact hB_4   sw_fu N_holders l1 (0 : Int32) hf H locs hP hD hS ls (lv_sub hl [2, 1, 0] rfl)
abbrev rm_X1_filled : Room := { frames := 1, cells := 0, slots := 0, locals := 23 }
set_option maxHeartbeats 1000000 in
set_option maxRecDepth 100000 in
theorem k_X1_filled (l : Launch) (dC : Nat → ClassId) (dI : Nat → Nat → Nat) (cI cZ : ClassId) (t0 : Nat) (aC aC_traits aN aN_holders : Nat) (C_total : Int32) (C_traits : Nat → Int32) (N_holders : Nat → Int32) (l1 : Int32) (rv : Int32)  (hf : F_X1_filled C_total C_traits N_holders l1 = some (rv)) : Met l yX1_filled wsX1_filled rm_X1_filled (sw_PR (dC, dI) t0 [(cI, .int), (cZ, .boolean)] [.ref aN, .int l1] [(aC, .inr (0, [.ref aC_traits, .int C_total])), (aC_traits, .inl (cI, 20, .inl C_traits)), (aN, .inr (1, [.ref aC, .ref aN_holders])), (aN_holders, .inl (cI, 5, .inl N_holders))]) (vp_Si (fun r => r = rv)) 0 0 (fun _ => False) := by
  refine sw_metR (cc := cX1_filled) (maxL := 4) (ret := (some .int)) (lv := [(0, .ref aN), (1, .int l1)]) (by decide) rfl (Nat.le_of_ble_eq_true rfl) rfl ?_
  intro p e s m below meth c Q hQ hx hb hr hts hown hlocks hml hP hK hE hS ls hl
  have hown : s.vm.findClass RX1 = some m.cls := hown
  have hf := (F_X1_filled.eq_1 _ _ _ _).symm.trans hf
  have hw1 := hts (.fieldLink RX1 15 "SwallowedInTurn$Nesting" "crowd" "LSwallowedInTurn$Crowd;") (List.mem_of_getElem? (i := 1) (by decide +kernel))
  have iX1 : ∀ w ∈ u_ws RX1 TX1 2, w ∈ wsX1_filled := by decide +kernel
  have hf0 := hf
  clear hf
  have hl0 := hl
  clear hl
  have hB_4 :  ∀ (fu : Nat) (l2 : Int32) (l3 : Int32), F_X1_filled_4 C_total C_traits N_holders l1 fu l2 l3 = some (rv) → ∀ ls : Array Slot, lv_has ls 4 [(0, .ref aN), (1, .int l1), (2, .int l2), (3, .int l3)] → W p l e rm_X1_filled s m ([.ref aN, .int l1] : List Value).toArray below meth c s.heap [] 0 0 Q (F0 m 4 ls []) := by
    intro   fu
    induction fu with
    | zero =>
      intro l2 l3 hf
      exact nomatch (show (none : Option (Int32)) = some (rv) from hf)
    | succ fu ih =>
      intro l2 l3 hf ls hl
      have hf := (F_X1_filled_4.eq_2 _ _ _ _ _ _ _).symm.trans hf
      refine lv_iload_n hx hb dX1_filled_4 rfl (lv_at hl 3 rfl) ?_
      refine lv_aload_n hx hb dX1_filled_5 rfl (lv_at hl 0 rfl) ?_
      refine va_get (D := (dC, dI)) (ci := 1) (v := .ref aC) (C := RX1) (T := TX1) (N := 2) hx hb hts iX1 hown hK hP 2 rfl rfl 0 (by decide) hw1 (fun _ h9 => h9) rfl dX1_filled_6 ?_
      obtain ⟨q1, hq1, hf⟩ := sw_bs hf
      have hPc := hP.sub (ws' := [(aC, .inr (0, [.ref aC_traits, .int C_total]))]) [0] rfl
      refine sw_rd (W.runV (As := []) (rest := [.int l3]) ⟨hx, hb, hml, hown, hts⟩ (k_X0_total l dC dI cI cZ t0 aC aC_traits C_total q1 hq1) (cwV 0 hts gX1_filled_X0_total rfl rfl rfl (by decide +kernel) ⟨Nat.le_of_ble_eq_true rfl, Nat.le_of_ble_eq_true rfl⟩) ⟨sw_PR_bl, va_recv hK hPc (ci := 0) (q0 := 0) rfl rfl, sw_PR_pre hK hPc hE hS⟩ rfl rfl hl.1 rfl (lv_room (Nat.le_of_ble_eq_true rfl)) dX1_filled_9 ⟨Nat.zero_le _, Nat.zero_le _⟩) ?_
      refine lv_icmp_ge (tgt := 42) hx hb dX1_filled_12 (by decide) (fun c1 => ?_) (fun c1 => ?_)
      · have hf := sw_ip c1 hf
        refine lv_iload_n hx hb dX1_filled_42 rfl (lv_at hl 2 rfl) ?_
        subst hQ
        exact W.iret hx hb hr (fun t ht hW => ⟨_, rfl, Option.some.inj hf, ht⟩) (fun _ h => absurd h List.not_mem_nil) dX1_filled_43 hlocks
      · have hf := sw_in c1 hf
        refine lv_aload_n hx hb dX1_filled_15 rfl (lv_at hl 0 rfl) ?_
        refine lv_iload_n hx hb dX1_filled_16 rfl (lv_at hl 3 rfl) ?_
        obtain ⟨q2, hq2, hf⟩ := sw_bs hf
        have hPc := hP.sub (ws' := [(aN, .inr (1, [.ref aC, .ref aN_holders])), (aN_holders, .inl (cI, 5, .inl N_holders))]) [2, 3] rfl
        refine sw_rd (W.runV (As := [.int l3]) (rest := []) ⟨hx, hb, hml, hown, hts⟩ (k_X1_holder l dC dI cI cZ t0 aN aC aN_holders N_holders l3 q2 hq2) (cwV 1 hts gX1_filled_X1_holder rfl rfl rfl (by decide +kernel) ⟨Nat.le_of_ble_eq_true rfl, Nat.le_of_ble_eq_true rfl⟩) ⟨sw_PR_bl, va_recv hK hPc (ci := 1) (q0 := 0) rfl rfl, sw_PR_pre hK hPc hE hS⟩ rfl rfl hl.1 rfl (lv_room (Nat.le_of_ble_eq_true rfl)) dX1_filled_17 ⟨Nat.zero_le _, Nat.zero_le _⟩) ?_
        refine lv_iload_n hx hb dX1_filled_20 rfl (lv_at hl 1 rfl) ?_
        refine lv_icmp_ne (tgt := 36) hx hb dX1_filled_21 (by decide) (fun c2 => ?_) (fun c2 => ?_)
        · have hf := sw_in c2 hf
          refine lv_iinc (v := l3 + (1 : Int32)) (lv' := [(3, .int (l3 + (1 : Int32))), (0, .ref aN), (1, .int l1), (2, .int l2)]) hx hb dX1_filled_36 hl (k := 3) rfl (sw_ii _) (by decide) rfl (fun ls hl => ?_)
          refine lv_goto (tgt := 4) hx hb dX1_filled_39 (by decide) ?_
          exact ih l2 (l3 + (1 : Int32)) hf ls (lv_sub hl [1, 2, 3, 0] rfl)
        · have hf := sw_ip c2 hf
          refine lv_iload_n hx hb dX1_filled_24 rfl (lv_at hl 2 rfl) ?_
          refine lv_aload_n hx hb dX1_filled_25 rfl (lv_at hl 0 rfl) ?_
          refine va_get (D := (dC, dI)) (ci := 1) (v := .ref aC) (C := RX1) (T := TX1) (N := 2) hx hb hts iX1 hown hK hP 2 rfl rfl 0 (by decide) hw1 (fun _ h9 => h9) rfl dX1_filled_26 ?_
          refine lv_iload_n hx hb dX1_filled_29 rfl (lv_at hl 3 rfl) ?_
          refine lv_iconst (v := 1) hx hb dX1_filled_30 (by decide) ?_
          obtain ⟨q3, hq3, hf⟩ := sw_bs hf
          have hPc := hP.sub (ws' := [(aC, .inr (0, [.ref aC_traits, .int C_total])), (aC_traits, .inl (cI, 20, .inl C_traits))]) [0, 1] rfl
          refine sw_rd (W.runV (As := [.int l3, .int (1 : Int32)]) (rest := [.int l2]) ⟨hx, hb, hml, hown, hts⟩ (k_X0_trait l dC dI cI cZ t0 aC aC_traits C_total C_traits l3 (1 : Int32) q3 hq3) (cwV 2 hts gX1_filled_X0_trait rfl rfl rfl (by decide +kernel) ⟨Nat.le_of_ble_eq_true rfl, Nat.le_of_ble_eq_true rfl⟩) ⟨sw_PR_bl, va_recv hK hPc (ci := 0) (q0 := 0) rfl rfl, sw_PR_pre hK hPc hE hS⟩ rfl rfl hl.1 rfl (lv_room (Nat.le_of_ble_eq_true rfl)) dX1_filled_31 ⟨Nat.zero_le _, Nat.zero_le _⟩) ?_
          refine lv_iadd hx hb dX1_filled_34 ?_
          refine lv_istore_n (lv' := [(2, .int (l2 + q3)), (0, .ref aN), (1, .int l1), (3, .int l3)]) hx hb dX1_filled_35 rfl hl (by decide) rfl (fun ls hl => ?_)
          refine lv_iinc (v := l3 + (1 : Int32)) (lv' := [(3, .int (l3 + (1 : Int32))), (2, .int (l2 + q3)), (0, .ref aN), (1, .int l1)]) hx hb dX1_filled_36 hl (k := 3) rfl (sw_ii _) (by decide) rfl (fun ls hl => ?_)
          refine lv_goto (tgt := 4) hx hb dX1_filled_39 (by decide) ?_
          exact ih (l2 + q3) (l3 + (1 : Int32)) hf ls (lv_sub hl [2, 3, 1, 0] rfl)
  have hf := hf0
  have hl := hl0
  refine lv_iconst (v := 0) hx hb dX1_filled_0 (by decide) ?_
  refine lv_istore_n (lv' := [(2, .int (0 : Int32)), (0, .ref aN), (1, .int l1)]) hx hb dX1_filled_1 rfl hl (by decide) rfl (fun ls hl => ?_)
  refine lv_iconst (v := 0) hx hb dX1_filled_2 (by decide) ?_
  refine lv_istore_n (lv' := [(3, .int (0 : Int32)), (2, .int (0 : Int32)), (0, .ref aN), (1, .int l1)]) hx hb dX1_filled_3 rfl hl (by decide) rfl (fun ls hl => ?_)
  exact hB_4   sw_fu (0 : Int32) (0 : Int32) hf ls (lv_sub hl [2, 3, 1, 0] rfl)
abbrev rm_X1_outside : Room := { frames := 1, cells := 0, slots := 0, locals := 21 }
set_option maxHeartbeats 1000000 in
set_option maxRecDepth 100000 in
theorem k_X1_outside (l : Launch) (dC : Nat → ClassId) (dI : Nat → Nat → Nat) (cI cZ : ClassId) (t0 : Nat) (aC aC_traits aN aN_holders : Nat) (C_total : Int32) (N_holders : Nat → Int32) (rv : Int32)  (hf : F_X1_outside C_total N_holders = some (rv)) : Met l yX1_outside wsX1_outside rm_X1_outside (sw_PR (dC, dI) t0 [(cI, .int), (cZ, .boolean)] [.ref aN] [(aC, .inr (0, [.ref aC_traits, .int C_total])), (aN, .inr (1, [.ref aC, .ref aN_holders])), (aN_holders, .inl (cI, 5, .inl N_holders))]) (vp_Si (fun r => r = rv)) 0 0 (fun _ => False) := by
  refine sw_metR (cc := cX1_outside) (maxL := 3) (ret := (some .int)) (lv := [(0, .ref aN)]) (by decide) rfl (Nat.le_of_ble_eq_true rfl) rfl ?_
  intro p e s m below meth c Q hQ hx hb hr hts hown hlocks hml hP hK hE hS ls hl
  have hown : s.vm.findClass RX1 = some m.cls := hown
  have hf := (F_X1_outside.eq_1 _ _).symm.trans hf
  have hw1 := hts (.fieldLink RX1 15 "SwallowedInTurn$Nesting" "crowd" "LSwallowedInTurn$Crowd;") (List.mem_of_getElem? (i := 1) (by decide +kernel))
  have iX1 : ∀ w ∈ u_ws RX1 TX1 2, w ∈ wsX1_outside := by decide +kernel
  have hf0 := hf
  clear hf
  have hl0 := hl
  clear hl
  have hB_4 :  ∀ (fu : Nat) (l1 : Int32) (l2 : Int32), F_X1_outside_4 C_total N_holders fu l1 l2 = some (rv) → ∀ ls : Array Slot, lv_has ls 3 [(0, .ref aN), (1, .int l1), (2, .int l2)] → W p l e rm_X1_outside s m ([.ref aN] : List Value).toArray below meth c s.heap [] 0 0 Q (F0 m 4 ls []) := by
    intro   fu
    induction fu with
    | zero =>
      intro l1 l2 hf
      exact nomatch (show (none : Option (Int32)) = some (rv) from hf)
    | succ fu ih =>
      intro l1 l2 hf ls hl
      have hf := (F_X1_outside_4.eq_2 _ _ _ _ _).symm.trans hf
      refine lv_iload_n hx hb dX1_outside_4 rfl (lv_at hl 2 rfl) ?_
      refine lv_aload_n hx hb dX1_outside_5 rfl (lv_at hl 0 rfl) ?_
      refine va_get (D := (dC, dI)) (ci := 1) (v := .ref aC) (C := RX1) (T := TX1) (N := 2) hx hb hts iX1 hown hK hP 1 rfl rfl 0 (by decide) hw1 (fun _ h9 => h9) rfl dX1_outside_6 ?_
      obtain ⟨q1, hq1, hf⟩ := sw_bs hf
      have hPc := hP.sub (ws' := [(aC, .inr (0, [.ref aC_traits, .int C_total]))]) [0] rfl
      refine sw_rd (W.runV (As := []) (rest := [.int l2]) ⟨hx, hb, hml, hown, hts⟩ (k_X0_total l dC dI cI cZ t0 aC aC_traits C_total q1 hq1) (cwV 0 hts gX1_outside_X0_total rfl rfl rfl (by decide +kernel) ⟨Nat.le_of_ble_eq_true rfl, Nat.le_of_ble_eq_true rfl⟩) ⟨sw_PR_bl, va_recv hK hPc (ci := 0) (q0 := 0) rfl rfl, sw_PR_pre hK hPc hE hS⟩ rfl rfl hl.1 rfl (lv_room (Nat.le_of_ble_eq_true rfl)) dX1_outside_9 ⟨Nat.zero_le _, Nat.zero_le _⟩) ?_
      refine lv_icmp_ge (tgt := 33) hx hb dX1_outside_12 (by decide) (fun c1 => ?_) (fun c1 => ?_)
      · have hf := sw_ip c1 hf
        refine lv_iload_n hx hb dX1_outside_33 rfl (lv_at hl 1 rfl) ?_
        subst hQ
        exact W.iret hx hb hr (fun t ht hW => ⟨_, rfl, Option.some.inj hf, ht⟩) (fun _ h => absurd h List.not_mem_nil) dX1_outside_34 hlocks
      · have hf := sw_in c1 hf
        refine lv_aload_n hx hb dX1_outside_15 rfl (lv_at hl 0 rfl) ?_
        refine lv_iload_n hx hb dX1_outside_16 rfl (lv_at hl 2 rfl) ?_
        obtain ⟨q2, hq2, hf⟩ := sw_bs hf
        have hPc := hP.sub (ws' := [(aN, .inr (1, [.ref aC, .ref aN_holders])), (aN_holders, .inl (cI, 5, .inl N_holders))]) [1, 2] rfl
        refine sw_rd (W.runV (As := [.int l2]) (rest := []) ⟨hx, hb, hml, hown, hts⟩ (k_X1_holder l dC dI cI cZ t0 aN aC aN_holders N_holders l2 q2 hq2) (cwV 1 hts gX1_outside_X1_holder rfl rfl rfl (by decide +kernel) ⟨Nat.le_of_ble_eq_true rfl, Nat.le_of_ble_eq_true rfl⟩) ⟨sw_PR_bl, va_recv hK hPc (ci := 1) (q0 := 0) rfl rfl, sw_PR_pre hK hPc hE hS⟩ rfl rfl hl.1 rfl (lv_room (Nat.le_of_ble_eq_true rfl)) dX1_outside_17 ⟨Nat.zero_le _, Nat.zero_le _⟩) ?_
        refine lv_iconst (v := -1) hx hb dX1_outside_20 (by decide) ?_
        refine lv_icmp_ne (tgt := 27) hx hb dX1_outside_21 (by decide) (fun c2 => ?_) (fun c2 => ?_)
        · have hf := sw_in c2 hf
          refine lv_iinc (v := l2 + (1 : Int32)) (lv' := [(2, .int (l2 + (1 : Int32))), (0, .ref aN), (1, .int l1)]) hx hb dX1_outside_27 hl (k := 2) rfl (sw_ii _) (by decide) rfl (fun ls hl => ?_)
          refine lv_goto (tgt := 4) hx hb dX1_outside_30 (by decide) ?_
          exact ih l1 (l2 + (1 : Int32)) hf ls (lv_sub hl [1, 2, 0] rfl)
        · have hf := sw_ip c2 hf
          refine lv_iinc (v := l1 + (1 : Int32)) (lv' := [(1, .int (l1 + (1 : Int32))), (0, .ref aN), (2, .int l2)]) hx hb dX1_outside_24 hl (k := 1) rfl (sw_ii _) (by decide) rfl (fun ls hl => ?_)
          refine lv_iinc (v := l2 + (1 : Int32)) (lv' := [(2, .int (l2 + (1 : Int32))), (1, .int (l1 + (1 : Int32))), (0, .ref aN)]) hx hb dX1_outside_27 hl (k := 2) rfl (sw_ii _) (by decide) rfl (fun ls hl => ?_)
          refine lv_goto (tgt := 4) hx hb dX1_outside_30 (by decide) ?_
          exact ih (l1 + (1 : Int32)) (l2 + (1 : Int32)) hf ls (lv_sub hl [2, 1, 0] rfl)
  have hf := hf0
  have hl := hl0
  refine lv_iconst (v := 0) hx hb dX1_outside_0 (by decide) ?_
  refine lv_istore_n (lv' := [(1, .int (0 : Int32)), (0, .ref aN)]) hx hb dX1_outside_1 rfl hl (by decide) rfl (fun ls hl => ?_)
  refine lv_iconst (v := 0) hx hb dX1_outside_2 (by decide) ?_
  refine lv_istore_n (lv' := [(2, .int (0 : Int32)), (1, .int (0 : Int32)), (0, .ref aN)]) hx hb dX1_outside_3 rfl hl (by decide) rfl (fun ls hl => ?_)
  exact hB_4   sw_fu (0 : Int32) (0 : Int32) hf ls (lv_sub hl [2, 1, 0] rfl)
abbrev rm_X1_areOutside : Room := { frames := 0, cells := 0, slots := 0, locals := 0 }
set_option maxHeartbeats 1000000 in
set_option maxRecDepth 100000 in
theorem k_X1_areOutside (l : Launch) (dC : Nat → ClassId) (dI : Nat → Nat → Nat) (cI cZ : ClassId) (t0 : Nat) (aN aC aN_holders : Nat) (N_holders : Nat → Int32) (l1 : Int32) (rv : Int32)  (hf : F_X1_areOutside N_holders l1 = some (rv)) : Met l yX1_areOutside wsX1_areOutside rm_X1_areOutside (sw_PR (dC, dI) t0 [(cI, .int), (cZ, .boolean)] [.ref aN, .int l1] [(aN, .inr (1, [.ref aC, .ref aN_holders])), (aN_holders, .inl (cI, 5, .inl N_holders))]) (vp_Si (fun r => r = rv)) 0 0 (fun _ => False) := by
  refine sw_metR (cc := cX1_areOutside) (maxL := 3) (ret := (some .boolean)) (lv := [(0, .ref aN), (1, .int l1)]) (by decide) rfl (Nat.le_of_ble_eq_true rfl) rfl ?_
  intro p e s m below meth c Q hQ hx hb hr hts hown hlocks hml hP hK hE hS ls hl
  have hown : s.vm.findClass RX1 = some m.cls := hown
  have hf := (F_X1_areOutside.eq_1 _ _).symm.trans hf
  have hw1 := hts (.fieldLink RX1 9 "SwallowedInTurn$Nesting" "holders" "[I") (List.mem_of_getElem? (i := 1) (by decide +kernel))
  have iX1 : ∀ w ∈ u_ws RX1 TX1 2, w ∈ wsX1_areOutside := by decide +kernel
  have hf0 := hf
  clear hf
  have hl0 := hl
  clear hl
  have hB_2 :  ∀ (fu : Nat) (l2 : Int32), F_X1_areOutside_2 N_holders l1 fu l2 = some (rv) → ∀ ls : Array Slot, lv_has ls 3 [(0, .ref aN), (1, .int l1), (2, .int l2)] → W p l e rm_X1_areOutside s m ([.ref aN, .int l1] : List Value).toArray below meth c s.heap [] 0 0 Q (F0 m 2 ls []) := by
    intro   fu
    induction fu with
    | zero =>
      intro l2 hf
      exact nomatch (show (none : Option (Int32)) = some (rv) from hf)
    | succ fu ih =>
      intro l2 hf ls hl
      have hf := (F_X1_areOutside_2.eq_2 _ _ _ _).symm.trans hf
      refine lv_iload_n hx hb dX1_areOutside_2 rfl (lv_at hl 2 rfl) ?_
      refine lv_aload_n hx hb dX1_areOutside_3 rfl (lv_at hl 0 rfl) ?_
      refine va_get (D := (dC, dI)) (ci := 1) (v := .ref aN_holders) (C := RX1) (T := TX1) (N := 2) hx hb hts iX1 hown hK hP 0 rfl rfl 1 (by decide) hw1 (fun _ h9 => h9) rfl dX1_areOutside_4 ?_
      refine va_alen hx hb hK hP 1 0 rfl rfl (v := 5) (show Int32.ofNat 5 = 5 by decide +kernel) dX1_areOutside_7 ?_
      refine lv_icmp_ge (tgt := 38) hx hb dX1_areOutside_8 (by decide) (fun c1 => ?_) (fun c1 => ?_)
      · have hf := sw_ip c1 hf
        refine lv_iconst (v := 1) hx hb dX1_areOutside_38 (by decide) ?_
        subst hQ
        exact W.zret hx hb hr rfl (fun t ht hW => ⟨_, rfl, Option.some.inj hf, ht⟩) (fun _ h => absurd h List.not_mem_nil) dX1_areOutside_39 hlocks
      · have hf := sw_in c1 hf
        refine lv_iload_n hx hb dX1_areOutside_11 rfl (lv_at hl 1 rfl) ?_
        refine lv_iload_n hx hb dX1_areOutside_12 rfl (lv_at hl 2 rfl) ?_
        refine lv_ishr hx hb dX1_areOutside_13 ?_
        refine lv_iconst (v := 1) hx hb dX1_areOutside_14 (by decide) ?_
        refine lv_iand hx hb dX1_areOutside_15 ?_
        refine lv_iconst (v := 1) hx hb dX1_areOutside_16 (by decide) ?_
        refine lv_icmp_ne (tgt := 32) hx hb dX1_areOutside_17 (by decide) (fun c2 => ?_) (fun c2 => ?_)
        · have hf := sw_in c2 hf
          refine lv_iinc (v := l2 + (1 : Int32)) (lv' := [(2, .int (l2 + (1 : Int32))), (0, .ref aN), (1, .int l1)]) hx hb dX1_areOutside_32 hl (k := 2) rfl (sw_ii _) (by decide) rfl (fun ls hl => ?_)
          refine lv_goto (tgt := 2) hx hb dX1_areOutside_35 (by decide) ?_
          exact ih (l2 + (1 : Int32)) hf ls (lv_sub hl [1, 2, 0] rfl)
        · have hf := sw_ip c2 hf
          refine lv_aload_n hx hb dX1_areOutside_20 rfl (lv_at hl 0 rfl) ?_
          refine va_get (D := (dC, dI)) (ci := 1) (v := .ref aN_holders) (C := RX1) (T := TX1) (N := 2) hx hb hts iX1 hown hK hP 0 rfl rfl 1 (by decide) hw1 (fun _ h9 => h9) rfl dX1_areOutside_21 ?_
          refine lv_iload_n hx hb dX1_areOutside_24 rfl (lv_at hl 2 rfl) ?_
          obtain ⟨hi1, hf⟩ := sw_ix_s hf
          refine va_iald hx hb hK hP 1 0 rfl rfl hi1 dX1_areOutside_25 ?_
          refine lv_iconst (v := -1) hx hb dX1_areOutside_26 (by decide) ?_
          refine lv_icmp_eq (tgt := 32) hx hb dX1_areOutside_27 (by decide) (fun c3 => ?_) (fun c3 => ?_)
          · have hf := sw_ip c3 hf
            refine lv_iinc (v := l2 + (1 : Int32)) (lv' := [(2, .int (l2 + (1 : Int32))), (0, .ref aN), (1, .int l1)]) hx hb dX1_areOutside_32 hl (k := 2) rfl (sw_ii _) (by decide) rfl (fun ls hl => ?_)
            refine lv_goto (tgt := 2) hx hb dX1_areOutside_35 (by decide) ?_
            exact ih (l2 + (1 : Int32)) hf ls (lv_sub hl [1, 2, 0] rfl)
          · have hf := sw_in c3 hf
            refine lv_iconst (v := 0) hx hb dX1_areOutside_30 (by decide) ?_
            subst hQ
            exact W.zret hx hb hr rfl (fun t ht hW => ⟨_, rfl, Option.some.inj hf, ht⟩) (fun _ h => absurd h List.not_mem_nil) dX1_areOutside_31 hlocks
  have hf := hf0
  have hl := hl0
  refine lv_iconst (v := 0) hx hb dX1_areOutside_0 (by decide) ?_
  refine lv_istore_n (lv' := [(2, .int (0 : Int32)), (0, .ref aN), (1, .int l1)]) hx hb dX1_areOutside_1 rfl hl (by decide) rfl (fun ls hl => ?_)
  exact hB_2   sw_fu (0 : Int32) hf ls (lv_sub hl [1, 2, 0] rfl)
abbrev rm_X1_walls : Room := { frames := 1, cells := 0, slots := 0, locals := 21 }
set_option maxHeartbeats 1000000 in
set_option maxRecDepth 100000 in
theorem k_X1_walls (l : Launch) (dC : Nat → ClassId) (dI : Nat → Nat → Nat) (cI cZ : ClassId) (t0 : Nat) (aN aC aN_holders : Nat) (N_holders : Nat → Int32) (l1 : Int32) (rv : Int32)  (hf : F_X1_walls N_holders l1 = some (rv)) : Met l yX1_walls wsX1_walls rm_X1_walls (sw_PR (dC, dI) t0 [(cI, .int), (cZ, .boolean)] [.ref aN, .int l1] [(aN, .inr (1, [.ref aC, .ref aN_holders])), (aN_holders, .inl (cI, 5, .inl N_holders))]) (vp_Si (fun r => r = rv)) 0 0 (fun _ => False) := by
  refine sw_metR (cc := cX1_walls) (maxL := 4) (ret := (some .int)) (lv := [(0, .ref aN), (1, .int l1)]) (by decide) rfl (Nat.le_of_ble_eq_true rfl) rfl ?_
  intro p e s m below meth c Q hQ hx hb hr hts hown hlocks hml hP hK hE hS ls hl
  have hown : s.vm.findClass RX1 = some m.cls := hown
  have hf := (F_X1_walls.eq_1 _ _).symm.trans hf
  have hf0 := hf
  clear hf
  have hl0 := hl
  clear hl
  have hB_8 :  ∀ (fu : Nat) (l2 : Int32) (l3 : Int32), F_X1_walls_8 N_holders fu l2 l3 = some (rv) → ∀ ls : Array Slot, lv_has ls 4 [(0, .ref aN), (2, .int l2), (3, .int l3)] → W p l e rm_X1_walls s m ([.ref aN, .int l1] : List Value).toArray below meth c s.heap [] 0 0 Q (F0 m 8 ls []) := by
    intro   fu
    induction fu with
    | zero =>
      intro l2 l3 hf
      exact nomatch (show (none : Option (Int32)) = some (rv) from hf)
    | succ fu ih =>
      intro l2 l3 hf ls hl
      have hf := (F_X1_walls_8.eq_2 _ _ _ _).symm.trans hf
      refine lv_iload_n hx hb dX1_walls_8 rfl (lv_at hl 2 rfl) ?_
      refine lv_iconst (v := -1) hx hb dX1_walls_9 (by decide) ?_
      refine lv_icmp_eq (tgt := 30) hx hb dX1_walls_10 (by decide) (fun c1 => ?_) (fun c1 => ?_)
      · have hf := sw_ip c1 hf
        refine lv_iload_n hx hb dX1_walls_30 rfl (lv_at hl 1 rfl) ?_
        subst hQ
        exact W.iret hx hb hr (fun t ht hW => ⟨_, rfl, Option.some.inj hf, ht⟩) (fun _ h => absurd h List.not_mem_nil) dX1_walls_31 hlocks
      · have hf := sw_in c1 hf
        refine lv_iload_n hx hb dX1_walls_13 rfl (lv_at hl 1 rfl) ?_
        refine lv_iconst (v := 5) hx hb dX1_walls_14 (by decide) ?_
        refine lv_icmp_ge (tgt := 30) hx hb dX1_walls_15 (by decide) (fun c2 => ?_) (fun c2 => ?_)
        · have hf := sw_ip c2 hf
          refine lv_iload_n hx hb dX1_walls_30 rfl (lv_at hl 1 rfl) ?_
          subst hQ
          exact W.iret hx hb hr (fun t ht hW => ⟨_, rfl, Option.some.inj hf, ht⟩) (fun _ h => absurd h List.not_mem_nil) dX1_walls_31 hlocks
        · have hf := sw_in c2 hf
          refine lv_iinc (v := l2 + (1 : Int32)) (lv' := [(2, .int (l2 + (1 : Int32))), (0, .ref aN), (3, .int l3)]) hx hb dX1_walls_18 hl (k := 1) rfl (sw_ii _) (by decide) rfl (fun ls hl => ?_)
          refine lv_aload_n hx hb dX1_walls_21 rfl (lv_at hl 1 rfl) ?_
          refine lv_iload_n hx hb dX1_walls_22 rfl (lv_at hl 2 rfl) ?_
          obtain ⟨q1, hq1, hf⟩ := sw_bs hf
          have hPc := hP.sub (ws' := [(aN, .inr (1, [.ref aC, .ref aN_holders])), (aN_holders, .inl (cI, 5, .inl N_holders))]) [0, 1] rfl
          refine sw_rd (W.runV (As := [.int l3]) (rest := []) ⟨hx, hb, hml, hown, hts⟩ (k_X1_holder l dC dI cI cZ t0 aN aC aN_holders N_holders l3 q1 hq1) (cwV 1 hts gX1_walls_X1_holder rfl rfl rfl (by decide +kernel) ⟨Nat.le_of_ble_eq_true rfl, Nat.le_of_ble_eq_true rfl⟩) ⟨sw_PR_bl, va_recv hK hPc (ci := 1) (q0 := 0) rfl rfl, sw_PR_pre hK hPc hE hS⟩ rfl rfl hl.1 rfl (lv_room (Nat.le_of_ble_eq_true rfl)) dX1_walls_23 ⟨Nat.zero_le _, Nat.zero_le _⟩) ?_
          refine lv_istore_n (lv' := [(3, .int q1), (2, .int (l2 + (1 : Int32))), (0, .ref aN)]) hx hb dX1_walls_26 rfl hl (by decide) rfl (fun ls hl => ?_)
          refine lv_goto (tgt := 8) hx hb dX1_walls_27 (by decide) ?_
          exact ih (l2 + (1 : Int32)) q1 hf ls (lv_sub hl [2, 1, 0] rfl)
  have hf := hf0
  have hl := hl0
  refine lv_iconst (v := 0) hx hb dX1_walls_0 (by decide) ?_
  refine lv_istore_n (lv' := [(2, .int (0 : Int32)), (0, .ref aN), (1, .int l1)]) hx hb dX1_walls_1 rfl hl (by decide) rfl (fun ls hl => ?_)
  refine lv_aload_n hx hb dX1_walls_2 rfl (lv_at hl 1 rfl) ?_
  refine lv_iload_n hx hb dX1_walls_3 rfl (lv_at hl 2 rfl) ?_
  obtain ⟨q2, hq2, hf⟩ := sw_bs hf
  have hPc := hP.sub (ws' := [(aN, .inr (1, [.ref aC, .ref aN_holders])), (aN_holders, .inl (cI, 5, .inl N_holders))]) [0, 1] rfl
  refine sw_rd (W.runV (As := [.int l1]) (rest := []) ⟨hx, hb, hml, hown, hts⟩ (k_X1_holder l dC dI cI cZ t0 aN aC aN_holders N_holders l1 q2 hq2) (cwV 1 hts gX1_walls_X1_holder rfl rfl rfl (by decide +kernel) ⟨Nat.le_of_ble_eq_true rfl, Nat.le_of_ble_eq_true rfl⟩) ⟨sw_PR_bl, va_recv hK hPc (ci := 1) (q0 := 0) rfl rfl, sw_PR_pre hK hPc hE hS⟩ rfl rfl hl.1 rfl (lv_room (Nat.le_of_ble_eq_true rfl)) dX1_walls_4 ⟨Nat.zero_le _, Nat.zero_le _⟩) ?_
  refine lv_istore_n (lv' := [(3, .int q2), (2, .int (0 : Int32)), (0, .ref aN), (1, .int l1)]) hx hb dX1_walls_7 rfl hl (by decide) rfl (fun ls hl => ?_)
  exact hB_8   sw_fu (0 : Int32) q2 hf ls (lv_sub hl [2, 1, 0] rfl)
abbrev rm_X1_hears : Room := { frames := 1, cells := 0, slots := 0, locals := 21 }
set_option maxHeartbeats 1000000 in
set_option maxRecDepth 100000 in
theorem k_X1_hears (l : Launch) (dC : Nat → ClassId) (dI : Nat → Nat → Nat) (cI cZ : ClassId) (t0 : Nat) (aN aC aN_holders : Nat) (N_holders : Nat → Int32) (l1 : Int32) (l2 : Int32) (rv : Int32)  (hf : F_X1_hears N_holders l1 l2 = some (rv)) : Met l yX1_hears wsX1_hears rm_X1_hears (sw_PR (dC, dI) t0 [(cI, .int), (cZ, .boolean)] [.ref aN, .int l1, .int l2] [(aN, .inr (1, [.ref aC, .ref aN_holders])), (aN_holders, .inl (cI, 5, .inl N_holders))]) (vp_Si (fun r => r = rv)) 0 0 (fun _ => False) := by
  refine sw_metR (cc := cX1_hears) (maxL := 5) (ret := (some .boolean)) (lv := [(0, .ref aN), (1, .int l1), (2, .int l2)]) (by decide) rfl (Nat.le_of_ble_eq_true rfl) rfl ?_
  intro p e s m below meth c Q hQ hx hb hr hts hown hlocks hml hP hK hE hS ls hl
  have hown : s.vm.findClass RX1 = some m.cls := hown
  have hf := (F_X1_hears.eq_1 _ _ _).symm.trans hf
  have hf0 := hf
  clear hf
  have hl0 := hl
  clear hl
  have hB_34 : ∀ (l3 : Int32) (l4 : Int32), F_X1_hears_34 N_holders l3 l4 = some (rv) → ∀ ls : Array Slot, lv_has ls 5 [(0, .ref aN), (3, .int l3), (4, .int l4)] → W p l e rm_X1_hears s m ([.ref aN, .int l1, .int l2] : List Value).toArray below meth c s.heap [] 0 0 Q (F0 m 34 ls []) := by
    intro l3 l4  hf ls hl
    have hf := (F_X1_hears_34.eq_1 _ _ _).symm.trans hf
    refine lv_iload hx hb dX1_hears_34 (lv_at hl 2 rfl) ?_
    refine lv_iconst (v := -1) hx hb dX1_hears_36 (by decide) ?_
    refine lv_icmp_eq (tgt := 54) hx hb dX1_hears_37 (by decide) (fun c1 => ?_) (fun c1 => ?_)
    · have hf := sw_ip c1 hf
      refine lv_iconst (v := 0) hx hb dX1_hears_54 (by decide) ?_
      subst hQ
      exact W.zret hx hb hr rfl (fun t ht hW => ⟨_, rfl, Option.some.inj hf, ht⟩) (fun _ h => absurd h List.not_mem_nil) dX1_hears_55 hlocks
    · have hf := sw_in c1 hf
      refine lv_aload_n hx hb dX1_hears_40 rfl (lv_at hl 0 rfl) ?_
      refine lv_iload hx hb dX1_hears_41 (lv_at hl 2 rfl) ?_
      obtain ⟨q1, hq1, hf⟩ := sw_bs hf
      have hPc := hP.sub (ws' := [(aN, .inr (1, [.ref aC, .ref aN_holders])), (aN_holders, .inl (cI, 5, .inl N_holders))]) [0, 1] rfl
      refine sw_rd (W.runV (As := [.int l4]) (rest := []) ⟨hx, hb, hml, hown, hts⟩ (k_X1_holder l dC dI cI cZ t0 aN aC aN_holders N_holders l4 q1 hq1) (cwV 1 hts gX1_hears_X1_holder rfl rfl rfl (by decide +kernel) ⟨Nat.le_of_ble_eq_true rfl, Nat.le_of_ble_eq_true rfl⟩) ⟨sw_PR_bl, va_recv hK hPc (ci := 1) (q0 := 0) rfl rfl, sw_PR_pre hK hPc hE hS⟩ rfl rfl hl.1 rfl (lv_room (Nat.le_of_ble_eq_true rfl)) dX1_hears_43 ⟨Nat.zero_le _, Nat.zero_le _⟩) ?_
      refine lv_iload_n hx hb dX1_hears_46 rfl (lv_at hl 1 rfl) ?_
      refine lv_icmp_ne (tgt := 54) hx hb dX1_hears_47 (by decide) (fun c2 => ?_) (fun c2 => ?_)
      · have hf := sw_in c2 hf
        refine lv_iconst (v := 0) hx hb dX1_hears_54 (by decide) ?_
        subst hQ
        exact W.zret hx hb hr rfl (fun t ht hW => ⟨_, rfl, Option.some.inj hf, ht⟩) (fun _ h => absurd h List.not_mem_nil) dX1_hears_55 hlocks
      · have hf := sw_ip c2 hf
        refine lv_iconst (v := 1) hx hb dX1_hears_50 (by decide) ?_
        refine lv_goto (tgt := 55) hx hb dX1_hears_51 (by decide) ?_
        subst hQ
        exact W.zret hx hb hr rfl (fun t ht hW => ⟨_, rfl, Option.some.inj hf, ht⟩) (fun _ h => absurd h List.not_mem_nil) dX1_hears_55 hlocks
  have hf := hf0
  have hl := hl0
  refine lv_aload_n hx hb dX1_hears_0 rfl (lv_at hl 0 rfl) ?_
  refine lv_iload_n hx hb dX1_hears_1 rfl (lv_at hl 1 rfl) ?_
  obtain ⟨q2, hq2, hf⟩ := sw_bs hf
  have hPc := hP.sub (ws' := [(aN, .inr (1, [.ref aC, .ref aN_holders])), (aN_holders, .inl (cI, 5, .inl N_holders))]) [0, 1] rfl
  refine sw_rd (W.runV (As := [.int l1]) (rest := []) ⟨hx, hb, hml, hown, hts⟩ (k_X1_holder l dC dI cI cZ t0 aN aC aN_holders N_holders l1 q2 hq2) (cwV 1 hts gX1_hears_X1_holder rfl rfl rfl (by decide +kernel) ⟨Nat.le_of_ble_eq_true rfl, Nat.le_of_ble_eq_true rfl⟩) ⟨sw_PR_bl, va_recv hK hPc (ci := 1) (q0 := 0) rfl rfl, sw_PR_pre hK hPc hE hS⟩ rfl rfl hl.1 rfl (lv_room (Nat.le_of_ble_eq_true rfl)) dX1_hears_2 ⟨Nat.zero_le _, Nat.zero_le _⟩) ?_
  refine lv_istore_n (lv' := [(3, .int q2), (0, .ref aN), (1, .int l1), (2, .int l2)]) hx hb dX1_hears_5 rfl hl (by decide) rfl (fun ls hl => ?_)
  refine lv_aload_n hx hb dX1_hears_6 rfl (lv_at hl 1 rfl) ?_
  refine lv_iload_n hx hb dX1_hears_7 rfl (lv_at hl 3 rfl) ?_
  obtain ⟨q3, hq3, hf⟩ := sw_bs hf
  have hPc := hP.sub (ws' := [(aN, .inr (1, [.ref aC, .ref aN_holders])), (aN_holders, .inl (cI, 5, .inl N_holders))]) [0, 1] rfl
  refine sw_rd (W.runV (As := [.int l2]) (rest := []) ⟨hx, hb, hml, hown, hts⟩ (k_X1_holder l dC dI cI cZ t0 aN aC aN_holders N_holders l2 q3 hq3) (cwV 1 hts gX1_hears_X1_holder rfl rfl rfl (by decide +kernel) ⟨Nat.le_of_ble_eq_true rfl, Nat.le_of_ble_eq_true rfl⟩) ⟨sw_PR_bl, va_recv hK hPc (ci := 1) (q0 := 0) rfl rfl, sw_PR_pre hK hPc hE hS⟩ rfl rfl hl.1 rfl (lv_room (Nat.le_of_ble_eq_true rfl)) dX1_hears_8 ⟨Nat.zero_le _, Nat.zero_le _⟩) ?_
  refine lv_istore (lv' := [(4, .int q3), (3, .int q2), (0, .ref aN), (1, .int l1), (2, .int l2)]) hx hb dX1_hears_11 hl (by decide) rfl (fun ls hl => ?_)
  refine lv_iload_n hx hb dX1_hears_13 rfl (lv_at hl 1 rfl) ?_
  refine lv_iload hx hb dX1_hears_14 (lv_at hl 0 rfl) ?_
  refine lv_icmp_eq (tgt := 50) hx hb dX1_hears_16 (by decide) (fun c3 => ?_) (fun c3 => ?_)
  · have hf := sw_ip c3 hf
    refine lv_iconst (v := 1) hx hb dX1_hears_50 (by decide) ?_
    refine lv_goto (tgt := 55) hx hb dX1_hears_51 (by decide) ?_
    subst hQ
    exact W.zret hx hb hr rfl (fun t ht hW => ⟨_, rfl, Option.some.inj hf, ht⟩) (fun _ h => absurd h List.not_mem_nil) dX1_hears_55 hlocks
  · have hf := sw_in c3 hf
    refine lv_iload_n hx hb dX1_hears_19 rfl (lv_at hl 1 rfl) ?_
    refine lv_iconst (v := -1) hx hb dX1_hears_20 (by decide) ?_
    refine lv_icmp_eq (tgt := 34) hx hb dX1_hears_21 (by decide) (fun c4 => ?_) (fun c4 => ?_)
    · have hf := sw_ip c4 hf
      exact hB_34 q2 q3  hf ls (lv_sub hl [2, 1, 0] rfl)
    · have hf := sw_in c4 hf
      refine lv_aload_n hx hb dX1_hears_24 rfl (lv_at hl 2 rfl) ?_
      refine lv_iload_n hx hb dX1_hears_25 rfl (lv_at hl 1 rfl) ?_
      obtain ⟨q4, hq4, hf⟩ := sw_bs hf
      have hPc := hP.sub (ws' := [(aN, .inr (1, [.ref aC, .ref aN_holders])), (aN_holders, .inl (cI, 5, .inl N_holders))]) [0, 1] rfl
      refine sw_rd (W.runV (As := [.int q2]) (rest := []) ⟨hx, hb, hml, hown, hts⟩ (k_X1_holder l dC dI cI cZ t0 aN aC aN_holders N_holders q2 q4 hq4) (cwV 1 hts gX1_hears_X1_holder rfl rfl rfl (by decide +kernel) ⟨Nat.le_of_ble_eq_true rfl, Nat.le_of_ble_eq_true rfl⟩) ⟨sw_PR_bl, va_recv hK hPc (ci := 1) (q0 := 0) rfl rfl, sw_PR_pre hK hPc hE hS⟩ rfl rfl hl.1 rfl (lv_room (Nat.le_of_ble_eq_true rfl)) dX1_hears_26 ⟨Nat.zero_le _, Nat.zero_le _⟩) ?_
      refine lv_iload hx hb dX1_hears_29 (lv_at hl 0 rfl) ?_
      refine lv_icmp_eq (tgt := 50) hx hb dX1_hears_31 (by decide) (fun c5 => ?_) (fun c5 => ?_)
      · have hf := sw_ip c5 hf
        refine lv_iconst (v := 1) hx hb dX1_hears_50 (by decide) ?_
        refine lv_goto (tgt := 55) hx hb dX1_hears_51 (by decide) ?_
        subst hQ
        exact W.zret hx hb hr rfl (fun t ht hW => ⟨_, rfl, Option.some.inj hf, ht⟩) (fun _ h => absurd h List.not_mem_nil) dX1_hears_55 hlocks
      · have hf := sw_in c5 hf
        exact hB_34 q2 q3  hf ls (lv_sub hl [2, 1, 0] rfl)
abbrev rm_X1_heardBy : Room := { frames := 2, cells := 0, slots := 0, locals := 45 }
set_option maxHeartbeats 1000000 in
set_option maxRecDepth 100000 in
theorem k_X1_heardBy (l : Launch) (dC : Nat → ClassId) (dI : Nat → Nat → Nat) (cI cZ : ClassId) (t0 : Nat) (aC aC_traits aN aN_holders : Nat) (C_total : Int32) (N_holders : Nat → Int32) (l1 : Int32) (rv : Int32)  (hf : F_X1_heardBy C_total N_holders l1 = some (rv)) : Met l yX1_heardBy wsX1_heardBy rm_X1_heardBy (sw_PR (dC, dI) t0 [(cI, .int), (cZ, .boolean)] [.ref aN, .int l1] [(aC, .inr (0, [.ref aC_traits, .int C_total])), (aN, .inr (1, [.ref aC, .ref aN_holders])), (aN_holders, .inl (cI, 5, .inl N_holders))]) (vp_Si (fun r => r = rv)) 0 0 (fun _ => False) := by
  refine sw_metR (cc := cX1_heardBy) (maxL := 4) (ret := (some .int)) (lv := [(0, .ref aN), (1, .int l1)]) (by decide) rfl (Nat.le_of_ble_eq_true rfl) rfl ?_
  intro p e s m below meth c Q hQ hx hb hr hts hown hlocks hml hP hK hE hS ls hl
  have hown : s.vm.findClass RX1 = some m.cls := hown
  have hf := (F_X1_heardBy.eq_1 _ _ _).symm.trans hf
  have hw1 := hts (.fieldLink RX1 15 "SwallowedInTurn$Nesting" "crowd" "LSwallowedInTurn$Crowd;") (List.mem_of_getElem? (i := 1) (by decide +kernel))
  have iX1 : ∀ w ∈ u_ws RX1 TX1 2, w ∈ wsX1_heardBy := by decide +kernel
  have hf0 := hf
  clear hf
  have hl0 := hl
  clear hl
  have hB_4 :  ∀ (fu : Nat) (l2 : Int32) (l3 : Int32), F_X1_heardBy_4 C_total N_holders l1 fu l2 l3 = some (rv) → ∀ ls : Array Slot, lv_has ls 4 [(0, .ref aN), (1, .int l1), (2, .int l2), (3, .int l3)] → W p l e rm_X1_heardBy s m ([.ref aN, .int l1] : List Value).toArray below meth c s.heap [] 0 0 Q (F0 m 4 ls []) := by
    intro   fu
    induction fu with
    | zero =>
      intro l2 l3 hf
      exact nomatch (show (none : Option (Int32)) = some (rv) from hf)
    | succ fu ih =>
      intro l2 l3 hf ls hl
      have hf := (F_X1_heardBy_4.eq_2 _ _ _ _ _ _).symm.trans hf
      refine lv_iload_n hx hb dX1_heardBy_4 rfl (lv_at hl 3 rfl) ?_
      refine lv_aload_n hx hb dX1_heardBy_5 rfl (lv_at hl 0 rfl) ?_
      refine va_get (D := (dC, dI)) (ci := 1) (v := .ref aC) (C := RX1) (T := TX1) (N := 2) hx hb hts iX1 hown hK hP 1 rfl rfl 0 (by decide) hw1 (fun _ h9 => h9) rfl dX1_heardBy_6 ?_
      obtain ⟨q1, hq1, hf⟩ := sw_bs hf
      have hPc := hP.sub (ws' := [(aC, .inr (0, [.ref aC_traits, .int C_total]))]) [0] rfl
      refine sw_rd (W.runV (As := []) (rest := [.int l3]) ⟨hx, hb, hml, hown, hts⟩ (k_X0_total l dC dI cI cZ t0 aC aC_traits C_total q1 hq1) (cwV 0 hts gX1_heardBy_X0_total rfl rfl rfl (by decide +kernel) ⟨Nat.le_of_ble_eq_true rfl, Nat.le_of_ble_eq_true rfl⟩) ⟨sw_PR_bl, va_recv hK hPc (ci := 0) (q0 := 0) rfl rfl, sw_PR_pre hK hPc hE hS⟩ rfl rfl hl.1 rfl (lv_room (Nat.le_of_ble_eq_true rfl)) dX1_heardBy_9 ⟨Nat.zero_le _, Nat.zero_le _⟩) ?_
      refine lv_icmp_ge (tgt := 41) hx hb dX1_heardBy_12 (by decide) (fun c1 => ?_) (fun c1 => ?_)
      · have hf := sw_ip c1 hf
        refine lv_iload_n hx hb dX1_heardBy_41 rfl (lv_at hl 2 rfl) ?_
        subst hQ
        exact W.iret hx hb hr (fun t ht hW => ⟨_, rfl, Option.some.inj hf, ht⟩) (fun _ h => absurd h List.not_mem_nil) dX1_heardBy_42 hlocks
      · have hf := sw_in c1 hf
        refine lv_iload_n hx hb dX1_heardBy_15 rfl (lv_at hl 3 rfl) ?_
        refine lv_iload_n hx hb dX1_heardBy_16 rfl (lv_at hl 1 rfl) ?_
        refine lv_icmp_eq (tgt := 35) hx hb dX1_heardBy_17 (by decide) (fun c2 => ?_) (fun c2 => ?_)
        · have hf := sw_ip c2 hf
          refine lv_iinc (v := l3 + (1 : Int32)) (lv' := [(3, .int (l3 + (1 : Int32))), (0, .ref aN), (1, .int l1), (2, .int l2)]) hx hb dX1_heardBy_35 hl (k := 3) rfl (sw_ii _) (by decide) rfl (fun ls hl => ?_)
          refine lv_goto (tgt := 4) hx hb dX1_heardBy_38 (by decide) ?_
          exact ih l2 (l3 + (1 : Int32)) hf ls (lv_sub hl [1, 2, 3, 0] rfl)
        · have hf := sw_in c2 hf
          refine lv_aload_n hx hb dX1_heardBy_20 rfl (lv_at hl 0 rfl) ?_
          refine lv_iload_n hx hb dX1_heardBy_21 rfl (lv_at hl 1 rfl) ?_
          refine lv_iload_n hx hb dX1_heardBy_22 rfl (lv_at hl 3 rfl) ?_
          obtain ⟨q2, hq2, hf⟩ := sw_bs hf
          have hPc := hP.sub (ws' := [(aN, .inr (1, [.ref aC, .ref aN_holders])), (aN_holders, .inl (cI, 5, .inl N_holders))]) [1, 2] rfl
          refine sw_rd (W.runV (As := [.int l1, .int l3]) (rest := []) ⟨hx, hb, hml, hown, hts⟩ (k_X1_hears l dC dI cI cZ t0 aN aC aN_holders N_holders l1 l3 q2 hq2) (cwV 2 hts gX1_heardBy_X1_hears rfl rfl rfl (by decide +kernel) ⟨Nat.le_of_ble_eq_true rfl, Nat.le_of_ble_eq_true rfl⟩) ⟨sw_PR_bl, va_recv hK hPc (ci := 1) (q0 := 0) rfl rfl, sw_PR_pre hK hPc hE hS⟩ rfl rfl hl.1 rfl (lv_room (Nat.le_of_ble_eq_true rfl)) dX1_heardBy_23 ⟨Nat.zero_le _, Nat.zero_le _⟩) ?_
          refine lv_if_eq (tgt := 35) hx hb dX1_heardBy_26 (by decide) (fun c3 => ?_) (fun c3 => ?_)
          · have hf := sw_ip c3 hf
            refine lv_iinc (v := l3 + (1 : Int32)) (lv' := [(3, .int (l3 + (1 : Int32))), (0, .ref aN), (1, .int l1), (2, .int l2)]) hx hb dX1_heardBy_35 hl (k := 3) rfl (sw_ii _) (by decide) rfl (fun ls hl => ?_)
            refine lv_goto (tgt := 4) hx hb dX1_heardBy_38 (by decide) ?_
            exact ih l2 (l3 + (1 : Int32)) hf ls (lv_sub hl [1, 2, 3, 0] rfl)
          · have hf := sw_in c3 hf
            refine lv_iload_n hx hb dX1_heardBy_29 rfl (lv_at hl 2 rfl) ?_
            refine lv_iconst (v := 1) hx hb dX1_heardBy_30 (by decide) ?_
            refine lv_iload_n hx hb dX1_heardBy_31 rfl (lv_at hl 3 rfl) ?_
            refine lv_ishl hx hb dX1_heardBy_32 ?_
            refine lv_ior hx hb dX1_heardBy_33 ?_
            refine lv_istore_n (lv' := [(2, .int (l2 ||| ((1 : Int32) <<< (l3 &&& 31)))), (0, .ref aN), (1, .int l1), (3, .int l3)]) hx hb dX1_heardBy_34 rfl hl (by decide) rfl (fun ls hl => ?_)
            refine lv_iinc (v := l3 + (1 : Int32)) (lv' := [(3, .int (l3 + (1 : Int32))), (2, .int (l2 ||| ((1 : Int32) <<< (l3 &&& 31)))), (0, .ref aN), (1, .int l1)]) hx hb dX1_heardBy_35 hl (k := 3) rfl (sw_ii _) (by decide) rfl (fun ls hl => ?_)
            refine lv_goto (tgt := 4) hx hb dX1_heardBy_38 (by decide) ?_
            exact ih (l2 ||| ((1 : Int32) <<< (l3 &&& 31))) (l3 + (1 : Int32)) hf ls (lv_sub hl [2, 3, 1, 0] rfl)
  have hf := hf0
  have hl := hl0
  refine lv_iconst (v := 0) hx hb dX1_heardBy_0 (by decide) ?_
  refine lv_istore_n (lv' := [(2, .int (0 : Int32)), (0, .ref aN), (1, .int l1)]) hx hb dX1_heardBy_1 rfl hl (by decide) rfl (fun ls hl => ?_)
  refine lv_iconst (v := 0) hx hb dX1_heardBy_2 (by decide) ?_
  refine lv_istore_n (lv' := [(3, .int (0 : Int32)), (2, .int (0 : Int32)), (0, .ref aN), (1, .int l1)]) hx hb dX1_heardBy_3 rfl hl (by decide) rfl (fun ls hl => ?_)
  exact hB_4   sw_fu (0 : Int32) (0 : Int32) hf ls (lv_sub hl [2, 3, 1, 0] rfl)
