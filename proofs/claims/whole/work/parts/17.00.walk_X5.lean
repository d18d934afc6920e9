abbrev rm_X5_letter : Room := { frames := 1, cells := 0, slots := 0, locals := 21 }
set_option maxHeartbeats 1000000 in
set_option maxRecDepth 100000 in
theorem k_X5_letter (l : Launch) (dC : Nat → ClassId) (dI : Nat → Nat → Nat) (cI cZ : ClassId) (t0 : Nat) (sz : Nat) (aX aC aN aR aL aP aT aK aP_letters aP_deeds : Nat) (X_done : Int32) (X_keptNumber : Int32) (X_keptDone : Int32) (X_keptTotal : Int32) (P_length : Int32) (P_read : Int32) (P_begun : Int32) (P_figuresDue : Int32) (P_whole : Int32) (P_letters : Nat → Int32) (l1 : Int32) (rv : Int32) (P_length' : Int32) (P_letters' : Nat → Int32) (hf : F_X5_letter P_length P_letters l1 = some (rv, P_length', P_letters')) : Met l yX5_letter wsX5_letter rm_X5_letter (sw_PW (dC, dI) t0 [(cI, .int), (cZ, .boolean)] [.ref aX, .int l1] [(aX, .inr (5, [.ref aC, .ref aN, .ref aR, .ref aL, .ref aP, .ref aT, .int X_done, .ref aK, .int X_keptNumber, .int X_keptDone, .int X_keptTotal])), (aP, .inr (3, [.ref aP_letters, .int P_length, .ref aP_deeds, .int P_read, .int P_begun, .int P_figuresDue, .int P_whole])), (aP_letters, .inl (cI, 40, .inl P_letters))] sz) (va_Qi (fun r (_ : Unit) => r = rv) (fun _ t => sw_B (dC, dI) [(cI, .int), (cZ, .boolean)] [(aX, .inr (5, [.ref aC, .ref aN, .ref aR, .ref aL, .ref aP, .ref aT, .int X_done, .ref aK, .int X_keptNumber, .int X_keptDone, .int X_keptTotal])), (aP, .inr (3, [.ref aP_letters, .int P_length', .ref aP_deeds, .int P_read, .int P_begun, .int P_figuresDue, .int P_whole])), (aP_letters, .inl (cI, 40, .inl P_letters'))] (va_A [(aX, .inr (5, [.ref aC, .ref aN, .ref aR, .ref aL, .ref aP, .ref aT, .int X_done, .ref aK, .int X_keptNumber, .int X_keptDone, .int X_keptTotal])), (aP, .inr (3, [.ref aP_letters, .int P_length, .ref aP_deeds, .int P_read, .int P_begun, .int P_figuresDue, .int P_whole])), (aP_letters, .inl (cI, 40, .inl P_letters))] sz) t) (va_A [(aX, .inr (5, [.ref aC, .ref aN, .ref aR, .ref aL, .ref aP, .ref aT, .int X_done, .ref aK, .int X_keptNumber, .int X_keptDone, .int X_keptTotal])), (aP, .inr (3, [.ref aP_letters, .int P_length, .ref aP_deeds, .int P_read, .int P_begun, .int P_figuresDue, .int P_whole])), (aP_letters, .inl (cI, 40, .inl P_letters))] sz)) 0 0 (va_A [(aX, .inr (5, [.ref aC, .ref aN, .ref aR, .ref aL, .ref aP, .ref aT, .int X_done, .ref aK, .int X_keptNumber, .int X_keptDone, .int X_keptTotal])), (aP, .inr (3, [.ref aP_letters, .int P_length, .ref aP_deeds, .int P_read, .int P_begun, .int P_figuresDue, .int P_whole])), (aP_letters, .inl (cI, 40, .inl P_letters))] sz) := by
  refine sw_metW (cc := cX5_letter) (maxL := 2) (ret := (some .int)) (lv := [(0, .ref aX), (1, .int l1)]) (by decide) rfl (Nat.le_of_ble_eq_true rfl) rfl ?_
  intro p e s m below meth c Q A hsz hAe hQ hx hb hr hts hown hlocks hml hmn hP hK hD hE hS hA ls hl
  have hS0 := hS
  have hown : s.vm.findClass RX5 = some m.cls := hown
  have hf := (F_X5_letter.eq_1 _ _ _).symm.trans hf
  have hw1 := hts (.fieldLink RX5 38 "SwallowedInTurn" "page" "LSwallowedInTurn$Page;") (List.mem_of_getElem? (i := 1) (by decide +kernel))
  have iX5 : ∀ w ∈ u_ws RX5 TX5 11, w ∈ wsX5_letter := by decide +kernel
  obtain ⟨H, hH⟩ : ∃ H, H = s.heap := ⟨_, rfl⟩
  obtain ⟨locs, hlo⟩ : ∃ locs : List Loc, locs = [] := ⟨_, rfl⟩
  rw [← hH] at hP
  have hS : va_S A s.heap H locs := by rw [hH, hlo]; exact hS0
  suffices hgo : W p l e rm_X5_letter s m ([.ref aX, .int l1] : List Value).toArray below meth c H locs 0 0 Q (F0 m 0 ls []) by rw [hH, hlo] at hgo; exact hgo
  refine lv_iload_n hx hb dX5_letter_0 rfl (lv_at hl 1 rfl) ?_
  refine lv_iconst (v := 1) hx hb dX5_letter_1 (by decide) ?_
  refine lv_icmp_lt (tgt := 11) hx hb dX5_letter_2 (by decide) (fun c1 => ?_) (fun c1 => ?_)
  · have hf := sw_ip c1 hf
    refine lv_bipush (v := -102) hx hb dX5_letter_11 (by decide) ?_
    subst hQ hAe
    cases hf
    exact W.iret hx hb hr (fun t ht hW => ⟨⟨_, (), rfl, rfl, ⟨by rw [ht]; exact hP, va_K.moved hW.alike hK, hD⟩⟩, hS.F ht⟩) hS.2.2 dX5_letter_13 hlocks
  · have hf := sw_in c1 hf
    refine lv_iload_n hx hb dX5_letter_5 rfl (lv_at hl 1 rfl) ?_
    refine lv_bipush (v := 126) hx hb dX5_letter_6 (by decide) ?_
    refine lv_icmp_le (tgt := 14) hx hb dX5_letter_8 (by decide) (fun c2 => ?_) (fun c2 => ?_)
    · have hf := sw_ip c2 hf
      refine lv_aload_n hx hb dX5_letter_14 rfl (lv_at hl 0 rfl) ?_
      refine va_get (D := (dC, dI)) (ci := 5) (v := .ref aP) (C := RX5) (T := TX5) (N := 11) hx hb hts iX5 hown hK hP 0 rfl rfl 4 (by decide) hw1 (fun _ h9 => h9) rfl dX5_letter_15 ?_
      refine lv_iload_n hx hb dX5_letter_18 rfl (lv_at hl 1 rfl) ?_
      obtain ⟨q1, hq1, hf⟩ := sw_bs hf
      have hPc := hP.sub (ws' := [(aP, .inr (3, [.ref aP_letters, .int P_length, .ref aP_deeds, .int P_read, .int P_begun, .int P_figuresDue, .int P_whole])), (aP_letters, .inl (cI, 40, .inl P_letters))]) [1, 2] rfl
      have hDc := hD.sub (ws' := [(aP, .inr (3, [.ref aP_letters, .int P_length, .ref aP_deeds, .int P_read, .int P_begun, .int P_figuresDue, .int P_whole])), (aP_letters, .inl (cI, 40, .inl P_letters))]) [1, 2] (by decide) rfl
      have hFc := va_free (wc := [(aP, .inr (3, [.ref aP_letters, .int P_length, .ref aP_deeds, .int P_read, .int P_begun, .int P_figuresDue, .int P_whole])), (aP_letters, .inl (cI, 40, .inl P_letters))]) hD hS hA [1, 2] rfl
      refine sw_wi (wn := [(aX, .inr (5, [.ref aC, .ref aN, .ref aR, .ref aL, .ref aP, .ref aT, .int X_done, .ref aK, .int X_keptNumber, .int X_keptDone, .int X_keptTotal])), (aP, .inr (3, [.ref aP_letters, .int q1.2.1, .ref aP_deeds, .int P_read, .int P_begun, .int P_figuresDue, .int P_whole])), (aP_letters, .inl (cI, 40, .inl q1.2.2))]) (w1 := [(aP, .inr (3, [.ref aP_letters, .int q1.2.1, .ref aP_deeds, .int P_read, .int P_begun, .int P_figuresDue, .int P_whole])), (aP_letters, .inl (cI, 40, .inl q1.2.2))]) (wr := [(aX, .inr (5, [.ref aC, .ref aN, .ref aR, .ref aL, .ref aP, .ref aT, .int X_done, .ref aK, .int X_keptNumber, .int X_keptDone, .int X_keptTotal]))]) (va_runV (As := [.int l1]) (rest := []) ⟨hx, hb, hml, hown, hts⟩ (k_X3_write l dC dI cI cZ t0 H.size aP aP_letters aP_deeds P_length P_read P_begun P_figuresDue P_whole P_letters l1 q1.1 q1.2.1 q1.2.2 hq1) (cwV 1 hts gX5_letter_X3_write rfl rfl rfl (by decide +kernel) ⟨Nat.le_of_ble_eq_true rfl, Nat.le_of_ble_eq_true rfl⟩) ⟨sw_PW_bl, va_recv hK hPc (ci := 3) (q0 := 0) rfl rfl, sw_PW_pre hK hPc hDc hE hS hFc⟩ rfl rfl hl.1 rfl (lv_room (Nat.le_of_ble_eq_true rfl)) dX5_letter_19 ⟨Nat.zero_le _, Nat.zero_le _⟩) hS hP hD hFc [1, 2] [0] [0, 1, 2] rfl rfl (by decide) (by decide) (by decide) rfl (fun H locs hP hD hS => ?_)
      refine lv_if_eq (tgt := 35) hx hb dX5_letter_22 (by decide) (fun c3 => ?_) (fun c3 => ?_)
      · have hf := sw_ip c3 hf
        refine lv_bipush (v := -104) hx hb dX5_letter_35 (by decide) ?_
        subst hQ hAe
        cases hf
        exact W.iret hx hb hr (fun t ht hW => ⟨⟨_, (), rfl, rfl, ⟨by rw [ht]; exact hP, va_K.moved hW.alike hK, hD⟩⟩, hS.F ht⟩) hS.2.2 dX5_letter_37 hlocks
      · have hf := sw_in c3 hf
        refine lv_aload_n hx hb dX5_letter_25 rfl (lv_at hl 0 rfl) ?_
        refine va_get (D := (dC, dI)) (ci := 5) (v := .ref aP) (C := RX5) (T := TX5) (N := 11) hx hb hts iX5 hown hK hP 0 rfl rfl 4 (by decide) hw1 (fun _ h9 => h9) rfl dX5_letter_26 ?_
        obtain ⟨q2, hq2, hf⟩ := sw_bs hf
        have hPc := hP.sub (ws' := [(aP, .inr (3, [.ref aP_letters, .int q1.2.1, .ref aP_deeds, .int P_read, .int P_begun, .int P_figuresDue, .int P_whole]))]) [1] rfl
        refine sw_rd (W.runV (As := []) (rest := []) ⟨hx, hb, hml, hown, hts⟩ (k_X3_length l dC dI cI cZ t0 aP aP_letters aP_deeds q1.2.1 P_read P_begun P_figuresDue P_whole q2 hq2) (cwV 0 hts gX5_letter_X3_length rfl rfl rfl (by decide +kernel) ⟨Nat.le_of_ble_eq_true rfl, Nat.le_of_ble_eq_true rfl⟩) ⟨sw_PR_bl, va_recv hK hPc (ci := 3) (q0 := 0) rfl rfl, sw_PR_pre hK hPc hE hS⟩ rfl rfl hl.1 rfl (lv_room (Nat.le_of_ble_eq_true rfl)) dX5_letter_29 ⟨Nat.zero_le _, Nat.zero_le _⟩) ?_
        refine lv_goto (tgt := 37) hx hb dX5_letter_32 (by decide) ?_
        subst hQ hAe
        cases hf
        exact W.iret hx hb hr (fun t ht hW => ⟨⟨_, (), rfl, rfl, ⟨by rw [ht]; exact hP, va_K.moved hW.alike hK, hD⟩⟩, hS.F ht⟩) hS.2.2 dX5_letter_37 hlocks
    · have hf := sw_in c2 hf
      refine lv_bipush (v := -102) hx hb dX5_letter_11 (by decide) ?_
      subst hQ hAe
      cases hf
      exact W.iret hx hb hr (fun t ht hW => ⟨⟨_, (), rfl, rfl, ⟨by rw [ht]; exact hP, va_K.moved hW.alike hK, hD⟩⟩, hS.F ht⟩) hS.2.2 dX5_letter_13 hlocks
abbrev rm_X5_blank : Room := { frames := 1, cells := 0, slots := 0, locals := 21 }
set_option maxHeartbeats 1000000 in
set_option maxRecDepth 100000 in
theorem k_X5_blank (l : Launch) (dC : Nat → ClassId) (dI : Nat → Nat → Nat) (cI cZ : ClassId) (t0 : Nat) (sz : Nat) (aX aC aN aR aL aP aT aK aP_letters aP_deeds : Nat) (X_done : Int32) (X_keptNumber : Int32) (X_keptDone : Int32) (X_keptTotal : Int32) (P_length : Int32) (P_read : Int32) (P_begun : Int32) (P_figuresDue : Int32) (P_whole : Int32) (rv : Int32) (P_length' : Int32) (hf : F_X5_blank P_length = some (rv, P_length')) : Met l yX5_blank wsX5_blank rm_X5_blank (sw_PW (dC, dI) t0 [(cI, .int), (cZ, .boolean)] [.ref aX] [(aX, .inr (5, [.ref aC, .ref aN, .ref aR, .ref aL, .ref aP, .ref aT, .int X_done, .ref aK, .int X_keptNumber, .int X_keptDone, .int X_keptTotal])), (aP, .inr (3, [.ref aP_letters, .int P_length, .ref aP_deeds, .int P_read, .int P_begun, .int P_figuresDue, .int P_whole]))] sz) (va_Qi (fun r (_ : Unit) => r = rv) (fun _ t => sw_B (dC, dI) [(cI, .int), (cZ, .boolean)] [(aX, .inr (5, [.ref aC, .ref aN, .ref aR, .ref aL, .ref aP, .ref aT, .int X_done, .ref aK, .int X_keptNumber, .int X_keptDone, .int X_keptTotal])), (aP, .inr (3, [.ref aP_letters, .int P_length', .ref aP_deeds, .int P_read, .int P_begun, .int P_figuresDue, .int P_whole]))] (va_A [(aX, .inr (5, [.ref aC, .ref aN, .ref aR, .ref aL, .ref aP, .ref aT, .int X_done, .ref aK, .int X_keptNumber, .int X_keptDone, .int X_keptTotal])), (aP, .inr (3, [.ref aP_letters, .int P_length, .ref aP_deeds, .int P_read, .int P_begun, .int P_figuresDue, .int P_whole]))] sz) t) (va_A [(aX, .inr (5, [.ref aC, .ref aN, .ref aR, .ref aL, .ref aP, .ref aT, .int X_done, .ref aK, .int X_keptNumber, .int X_keptDone, .int X_keptTotal])), (aP, .inr (3, [.ref aP_letters, .int P_length, .ref aP_deeds, .int P_read, .int P_begun, .int P_figuresDue, .int P_whole]))] sz)) 0 0 (va_A [(aX, .inr (5, [.ref aC, .ref aN, .ref aR, .ref aL, .ref aP, .ref aT, .int X_done, .ref aK, .int X_keptNumber, .int X_keptDone, .int X_keptTotal])), (aP, .inr (3, [.ref aP_letters, .int P_length, .ref aP_deeds, .int P_read, .int P_begun, .int P_figuresDue, .int P_whole]))] sz) := by
  refine sw_metW (cc := cX5_blank) (maxL := 1) (ret := (some .int)) (lv := [(0, .ref aX)]) (by decide) rfl (Nat.le_of_ble_eq_true rfl) rfl ?_
  intro p e s m below meth c Q A hsz hAe hQ hx hb hr hts hown hlocks hml hmn hP hK hD hE hS hA ls hl
  have hS0 := hS
  have hown : s.vm.findClass RX5 = some m.cls := hown
  have hf := (F_X5_blank.eq_1 _).symm.trans hf
  have hw1 := hts (.fieldLink RX5 38 "SwallowedInTurn" "page" "LSwallowedInTurn$Page;") (List.mem_of_getElem? (i := 1) (by decide +kernel))
  have iX5 : ∀ w ∈ u_ws RX5 TX5 11, w ∈ wsX5_blank := by decide +kernel
  obtain ⟨H, hH⟩ : ∃ H, H = s.heap := ⟨_, rfl⟩
  obtain ⟨locs, hlo⟩ : ∃ locs : List Loc, locs = [] := ⟨_, rfl⟩
  rw [← hH] at hP
  have hS : va_S A s.heap H locs := by rw [hH, hlo]; exact hS0
  suffices hgo : W p l e rm_X5_blank s m ([.ref aX] : List Value).toArray below meth c H locs 0 0 Q (F0 m 0 ls []) by rw [hH, hlo] at hgo; exact hgo
  refine lv_aload_n hx hb dX5_blank_0 rfl (lv_at hl 0 rfl) ?_
  refine va_get (D := (dC, dI)) (ci := 5) (v := .ref aP) (C := RX5) (T := TX5) (N := 11) hx hb hts iX5 hown hK hP 0 rfl rfl 4 (by decide) hw1 (fun _ h9 => h9) rfl dX5_blank_1 ?_
  obtain ⟨q1, hq1, hf⟩ := sw_bs hf
  have hPc := hP.sub (ws' := [(aP, .inr (3, [.ref aP_letters, .int P_length, .ref aP_deeds, .int P_read, .int P_begun, .int P_figuresDue, .int P_whole]))]) [1] rfl
  have hDc := hD.sub (ws' := [(aP, .inr (3, [.ref aP_letters, .int P_length, .ref aP_deeds, .int P_read, .int P_begun, .int P_figuresDue, .int P_whole]))]) [1] (by decide) rfl
  have hFc := va_free (wc := [(aP, .inr (3, [.ref aP_letters, .int P_length, .ref aP_deeds, .int P_read, .int P_begun, .int P_figuresDue, .int P_whole]))]) hD hS hA [1] rfl
  refine sw_wi (wn := [(aX, .inr (5, [.ref aC, .ref aN, .ref aR, .ref aL, .ref aP, .ref aT, .int X_done, .ref aK, .int X_keptNumber, .int X_keptDone, .int X_keptTotal])), (aP, .inr (3, [.ref aP_letters, .int q1.2, .ref aP_deeds, .int P_read, .int P_begun, .int P_figuresDue, .int P_whole]))]) (w1 := [(aP, .inr (3, [.ref aP_letters, .int q1.2, .ref aP_deeds, .int P_read, .int P_begun, .int P_figuresDue, .int P_whole]))]) (wr := [(aX, .inr (5, [.ref aC, .ref aN, .ref aR, .ref aL, .ref aP, .ref aT, .int X_done, .ref aK, .int X_keptNumber, .int X_keptDone, .int X_keptTotal]))]) (va_runV (As := []) (rest := []) ⟨hx, hb, hml, hown, hts⟩ (k_X3_clear l dC dI cI cZ t0 H.size aP aP_letters aP_deeds P_length P_read P_begun P_figuresDue P_whole q1.1 q1.2 hq1) (cwV 0 hts gX5_blank_X3_clear rfl rfl rfl (by decide +kernel) ⟨Nat.le_of_ble_eq_true rfl, Nat.le_of_ble_eq_true rfl⟩) ⟨sw_PW_bl, va_recv hK hPc (ci := 3) (q0 := 0) rfl rfl, sw_PW_pre hK hPc hDc hE hS hFc⟩ rfl rfl hl.1 rfl (lv_room (Nat.le_of_ble_eq_true rfl)) dX5_blank_4 ⟨Nat.zero_le _, Nat.zero_le _⟩) hS hP hD hFc [1] [0] [0, 1] rfl rfl (by decide) (by decide) (by decide) rfl (fun H locs hP hD hS => ?_)
  subst hQ hAe
  cases hf
  exact W.iret hx hb hr (fun t ht hW => ⟨⟨_, (), rfl, rfl, ⟨by rw [ht]; exact hP, va_K.moved hW.alike hK, hD⟩⟩, hS.F ht⟩) hS.2.2 dX5_blank_7 hlocks
abbrev rm_X5_fault : Room := { frames := 3, cells := 0, slots := 0, locals := 63 }
set_option maxHeartbeats 1000000 in
set_option maxRecDepth 100000 in
theorem k_X5_fault (l : Launch) (dC : Nat → ClassId) (dI : Nat → Nat → Nat) (cI cZ : ClassId) (t0 : Nat) (sz : Nat) (aX aC aN aR aL aP aT aK aP_letters aP_deeds : Nat) (X_done : Int32) (X_keptNumber : Int32) (X_keptDone : Int32) (X_keptTotal : Int32) (P_length : Int32) (P_read : Int32) (P_begun : Int32) (P_figuresDue : Int32) (P_whole : Int32) (P_letters : Nat → Int32) (P_deeds : Nat → Int32) (rv : Int32) (P_read' : Int32) (P_begun' : Int32) (P_figuresDue' : Int32) (P_whole' : Int32) (P_deeds' : Nat → Int32) (hf : F_X5_fault P_length P_read P_begun P_figuresDue P_whole P_letters P_deeds = some (rv, P_read', P_begun', P_figuresDue', P_whole', P_deeds')) : Met l yX5_fault wsX5_fault rm_X5_fault (sw_PW (dC, dI) t0 [(cI, .int), (cZ, .boolean)] [.ref aX] [(aX, .inr (5, [.ref aC, .ref aN, .ref aR, .ref aL, .ref aP, .ref aT, .int X_done, .ref aK, .int X_keptNumber, .int X_keptDone, .int X_keptTotal])), (aP, .inr (3, [.ref aP_letters, .int P_length, .ref aP_deeds, .int P_read, .int P_begun, .int P_figuresDue, .int P_whole])), (aP_letters, .inl (cI, 40, .inl P_letters)), (aP_deeds, .inl (cI, 10, .inl P_deeds))] sz) (va_Qi (fun r (_ : Unit) => r = rv) (fun _ t => sw_B (dC, dI) [(cI, .int), (cZ, .boolean)] [(aX, .inr (5, [.ref aC, .ref aN, .ref aR, .ref aL, .ref aP, .ref aT, .int X_done, .ref aK, .int X_keptNumber, .int X_keptDone, .int X_keptTotal])), (aP, .inr (3, [.ref aP_letters, .int P_length, .ref aP_deeds, .int P_read', .int P_begun', .int P_figuresDue', .int P_whole'])), (aP_letters, .inl (cI, 40, .inl P_letters)), (aP_deeds, .inl (cI, 10, .inl P_deeds'))] (va_A [(aX, .inr (5, [.ref aC, .ref aN, .ref aR, .ref aL, .ref aP, .ref aT, .int X_done, .ref aK, .int X_keptNumber, .int X_keptDone, .int X_keptTotal])), (aP, .inr (3, [.ref aP_letters, .int P_length, .ref aP_deeds, .int P_read, .int P_begun, .int P_figuresDue, .int P_whole])), (aP_letters, .inl (cI, 40, .inl P_letters)), (aP_deeds, .inl (cI, 10, .inl P_deeds))] sz) t) (va_A [(aX, .inr (5, [.ref aC, .ref aN, .ref aR, .ref aL, .ref aP, .ref aT, .int X_done, .ref aK, .int X_keptNumber, .int X_keptDone, .int X_keptTotal])), (aP, .inr (3, [.ref aP_letters, .int P_length, .ref aP_deeds, .int P_read, .int P_begun, .int P_figuresDue, .int P_whole])), (aP_letters, .inl (cI, 40, .inl P_letters)), (aP_deeds, .inl (cI, 10, .inl P_deeds))] sz)) 0 0 (va_A [(aX, .inr (5, [.ref aC, .ref aN, .ref aR, .ref aL, .ref aP, .ref aT, .int X_done, .ref aK, .int X_keptNumber, .int X_keptDone, .int X_keptTotal])), (aP, .inr (3, [.ref aP_letters, .int P_length, .ref aP_deeds, .int P_read, .int P_begun, .int P_figuresDue, .int P_whole])), (aP_letters, .inl (cI, 40, .inl P_letters)), (aP_deeds, .inl (cI, 10, .inl P_deeds))] sz) := by
  refine sw_metW (cc := cX5_fault) (maxL := 1) (ret := (some .int)) (lv := [(0, .ref aX)]) (by decide) rfl (Nat.le_of_ble_eq_true rfl) rfl ?_
  intro p e s m below meth c Q A hsz hAe hQ hx hb hr hts hown hlocks hml hmn hP hK hD hE hS hA ls hl
  have hS0 := hS
  have hown : s.vm.findClass RX5 = some m.cls := hown
  have hf := (F_X5_fault.eq_1 _ _ _ _ _ _ _).symm.trans hf
  have hw1 := hts (.fieldLink RX5 38 "SwallowedInTurn" "page" "LSwallowedInTurn$Page;") (List.mem_of_getElem? (i := 1) (by decide +kernel))
  have iX5 : ∀ w ∈ u_ws RX5 TX5 11, w ∈ wsX5_fault := by decide +kernel
  obtain ⟨H, hH⟩ : ∃ H, H = s.heap := ⟨_, rfl⟩
  obtain ⟨locs, hlo⟩ : ∃ locs : List Loc, locs = [] := ⟨_, rfl⟩
  rw [← hH] at hP
  have hS : va_S A s.heap H locs := by rw [hH, hlo]; exact hS0
  suffices hgo : W p l e rm_X5_fault s m ([.ref aX] : List Value).toArray below meth c H locs 0 0 Q (F0 m 0 ls []) by rw [hH, hlo] at hgo; exact hgo
  refine lv_aload_n hx hb dX5_fault_0 rfl (lv_at hl 0 rfl) ?_
  refine va_get (D := (dC, dI)) (ci := 5) (v := .ref aP) (C := RX5) (T := TX5) (N := 11) hx hb hts iX5 hown hK hP 0 rfl rfl 4 (by decide) hw1 (fun _ h9 => h9) rfl dX5_fault_1 ?_
  obtain ⟨q1, hq1, hf⟩ := sw_bs hf
  have hPc := hP.sub (ws' := [(aP, .inr (3, [.ref aP_letters, .int P_length, .ref aP_deeds, .int P_read, .int P_begun, .int P_figuresDue, .int P_whole])), (aP_letters, .inl (cI, 40, .inl P_letters)), (aP_deeds, .inl (cI, 10, .inl P_deeds))]) [1, 2, 3] rfl
  have hDc := hD.sub (ws' := [(aP, .inr (3, [.ref aP_letters, .int P_length, .ref aP_deeds, .int P_read, .int P_begun, .int P_figuresDue, .int P_whole])), (aP_letters, .inl (cI, 40, .inl P_letters)), (aP_deeds, .inl (cI, 10, .inl P_deeds))]) [1, 2, 3] (by decide) rfl
  have hFc := va_free (wc := [(aP, .inr (3, [.ref aP_letters, .int P_length, .ref aP_deeds, .int P_read, .int P_begun, .int P_figuresDue, .int P_whole])), (aP_letters, .inl (cI, 40, .inl P_letters)), (aP_deeds, .inl (cI, 10, .inl P_deeds))]) hD hS hA [1, 2, 3] rfl
  refine sw_wi (wn := [(aX, .inr (5, [.ref aC, .ref aN, .ref aR, .ref aL, .ref aP, .ref aT, .int X_done, .ref aK, .int X_keptNumber, .int X_keptDone, .int X_keptTotal])), (aP, .inr (3, [.ref aP_letters, .int P_length, .ref aP_deeds, .int q1.2.1, .int q1.2.2.1, .int q1.2.2.2.1, .int q1.2.2.2.2.1])), (aP_letters, .inl (cI, 40, .inl P_letters)), (aP_deeds, .inl (cI, 10, .inl q1.2.2.2.2.2))]) (w1 := [(aP, .inr (3, [.ref aP_letters, .int P_length, .ref aP_deeds, .int q1.2.1, .int q1.2.2.1, .int q1.2.2.2.1, .int q1.2.2.2.2.1])), (aP_letters, .inl (cI, 40, .inl P_letters)), (aP_deeds, .inl (cI, 10, .inl q1.2.2.2.2.2))]) (wr := [(aX, .inr (5, [.ref aC, .ref aN, .ref aR, .ref aL, .ref aP, .ref aT, .int X_done, .ref aK, .int X_keptNumber, .int X_keptDone, .int X_keptTotal]))]) (va_runV (As := []) (rest := []) ⟨hx, hb, hml, hown, hts⟩ (k_X3_read l dC dI cI cZ t0 H.size aP aP_letters aP_deeds P_length P_read P_begun P_figuresDue P_whole P_letters P_deeds q1.1 q1.2.1 q1.2.2.1 q1.2.2.2.1 q1.2.2.2.2.1 q1.2.2.2.2.2 hq1) (cwV 0 hts gX5_fault_X3_read rfl rfl rfl (by decide +kernel) ⟨Nat.le_of_ble_eq_true rfl, Nat.le_of_ble_eq_true rfl⟩) ⟨sw_PW_bl, va_recv hK hPc (ci := 3) (q0 := 0) rfl rfl, sw_PW_pre hK hPc hDc hE hS hFc⟩ rfl rfl hl.1 rfl (lv_room (Nat.le_of_ble_eq_true rfl)) dX5_fault_4 ⟨Nat.zero_le _, Nat.zero_le _⟩) hS hP hD hFc [1, 2, 3] [0] [0, 1, 2, 3] rfl rfl (by decide) (by decide) (by decide) rfl (fun H locs hP hD hS => ?_)
  subst hQ hAe
  cases hf
  exact W.iret hx hb hr (fun t ht hW => ⟨⟨_, (), rfl, rfl, ⟨by rw [ht]; exact hP, va_K.moved hW.alike hK, hD⟩⟩, hS.F ht⟩) hS.2.2 dX5_fault_7 hlocks
abbrev rm_X5_tale : Room := { frames := 4, cells := 0, slots := 0, locals := 97 }
set_option maxHeartbeats 1000000 in
set_option maxRecDepth 100000 in
theorem k_X5_tale (l : Launch) (dC : Nat → ClassId) (dI : Nat → Nat → Nat) (cI cZ : ClassId) (t0 : Nat) (sz : Nat) (aX aC aN aR aL aP aT aK aC_traits aN_holders aR_holders aP_letters aP_deeds : Nat) (X_done : Int32) (X_keptNumber : Int32) (X_keptDone : Int32) (X_keptTotal : Int32) (C_total : Int32) (C_traits : Nat → Int32) (N_holders : Nat → Int32) (R_holders : Nat → Int32) (P_length : Int32) (P_read : Int32) (P_begun : Int32) (P_figuresDue : Int32) (P_whole : Int32) (P_letters : Nat → Int32) (P_deeds : Nat → Int32) (rv : Int32) (R_holders' : Nat → Int32) (P_read' : Int32) (P_begun' : Int32) (P_figuresDue' : Int32) (P_whole' : Int32) (P_deeds' : Nat → Int32) (hf : F_X5_tale C_total C_traits N_holders R_holders P_length P_read P_begun P_figuresDue P_whole P_letters P_deeds = some (rv, R_holders', P_read', P_begun', P_figuresDue', P_whole', P_deeds')) : Met l yX5_tale wsX5_tale rm_X5_tale (sw_PW (dC, dI) t0 [(cI, .int), (cZ, .boolean)] [.ref aX] [(aX, .inr (5, [.ref aC, .ref aN, .ref aR, .ref aL, .ref aP, .ref aT, .int X_done, .ref aK, .int X_keptNumber, .int X_keptDone, .int X_keptTotal])), (aC, .inr (0, [.ref aC_traits, .int C_total])), (aC_traits, .inl (cI, 20, .inl C_traits)), (aN, .inr (1, [.ref aC, .ref aN_holders])), (aN_holders, .inl (cI, 5, .inl N_holders)), (aR, .inr (1, [.ref aC, .ref aR_holders])), (aR_holders, .inl (cI, 5, .inl R_holders)), (aP, .inr (3, [.ref aP_letters, .int P_length, .ref aP_deeds, .int P_read, .int P_begun, .int P_figuresDue, .int P_whole])), (aP_letters, .inl (cI, 40, .inl P_letters)), (aP_deeds, .inl (cI, 10, .inl P_deeds))] sz) (va_Qi (fun r (_ : Unit) => r = rv) (fun _ t => sw_B (dC, dI) [(cI, .int), (cZ, .boolean)] [(aX, .inr (5, [.ref aC, .ref aN, .ref aR, .ref aL, .ref aP, .ref aT, .int X_done, .ref aK, .int X_keptNumber, .int X_keptDone, .int X_keptTotal])), (aC, .inr (0, [.ref aC_traits, .int C_total])), (aC_traits, .inl (cI, 20, .inl C_traits)), (aN, .inr (1, [.ref aC, .ref aN_holders])), (aN_holders, .inl (cI, 5, .inl N_holders)), (aR, .inr (1, [.ref aC, .ref aR_holders])), (aR_holders, .inl (cI, 5, .inl R_holders')), (aP, .inr (3, [.ref aP_letters, .int P_length, .ref aP_deeds, .int P_read', .int P_begun', .int P_figuresDue', .int P_whole'])), (aP_letters, .inl (cI, 40, .inl P_letters)), (aP_deeds, .inl (cI, 10, .inl P_deeds'))] (va_A [(aX, .inr (5, [.ref aC, .ref aN, .ref aR, .ref aL, .ref aP, .ref aT, .int X_done, .ref aK, .int X_keptNumber, .int X_keptDone, .int X_keptTotal])), (aC, .inr (0, [.ref aC_traits, .int C_total])), (aC_traits, .inl (cI, 20, .inl C_traits)), (aN, .inr (1, [.ref aC, .ref aN_holders])), (aN_holders, .inl (cI, 5, .inl N_holders)), (aR, .inr (1, [.ref aC, .ref aR_holders])), (aR_holders, .inl (cI, 5, .inl R_holders)), (aP, .inr (3, [.ref aP_letters, .int P_length, .ref aP_deeds, .int P_read, .int P_begun, .int P_figuresDue, .int P_whole])), (aP_letters, .inl (cI, 40, .inl P_letters)), (aP_deeds, .inl (cI, 10, .inl P_deeds))] sz) t) (va_A [(aX, .inr (5, [.ref aC, .ref aN, .ref aR, .ref aL, .ref aP, .ref aT, .int X_done, .ref aK, .int X_keptNumber, .int X_keptDone, .int X_keptTotal])), (aC, .inr (0, [.ref aC_traits, .int C_total])), (aC_traits, .inl (cI, 20, .inl C_traits)), (aN, .inr (1, [.ref aC, .ref aN_holders])), (aN_holders, .inl (cI, 5, .inl N_holders)), (aR, .inr (1, [.ref aC, .ref aR_holders])), (aR_holders, .inl (cI, 5, .inl R_holders)), (aP, .inr (3, [.ref aP_letters, .int P_length, .ref aP_deeds, .int P_read, .int P_begun, .int P_figuresDue, .int P_whole])), (aP_letters, .inl (cI, 40, .inl P_letters)), (aP_deeds, .inl (cI, 10, .inl P_deeds))] sz)) 0 0 (va_A [(aX, .inr (5, [.ref aC, .ref aN, .ref aR, .ref aL, .ref aP, .ref aT, .int X_done, .ref aK, .int X_keptNumber, .int X_keptDone, .int X_keptTotal])), (aC, .inr (0, [.ref aC_traits, .int C_total])), (aC_traits, .inl (cI, 20, .inl C_traits)), (aN, .inr (1, [.ref aC, .ref aN_holders])), (aN_holders, .inl (cI, 5, .inl N_holders)), (aR, .inr (1, [.ref aC, .ref aR_holders])), (aR_holders, .inl (cI, 5, .inl R_holders)), (aP, .inr (3, [.ref aP_letters, .int P_length, .ref aP_deeds, .int P_read, .int P_begun, .int P_figuresDue, .int P_whole])), (aP_letters, .inl (cI, 40, .inl P_letters)), (aP_deeds, .inl (cI, 10, .inl P_deeds))] sz) := by
  refine sw_metW (cc := cX5_tale) (maxL := 2) (ret := (some .int)) (lv := [(0, .ref aX)]) (by decide) rfl (Nat.le_of_ble_eq_true rfl) rfl ?_
  intro p e s m below meth c Q A hsz hAe hQ hx hb hr hts hown hlocks hml hmn hP hK hD hE hS hA ls hl
  have hS0 := hS
  have hown : s.vm.findClass RX5 = some m.cls := hown
  have hf := (F_X5_tale.eq_1 _ _ _ _ _ _ _ _ _ _ _).symm.trans hf
  have hw1 := hts (.fieldLink RX5 38 "SwallowedInTurn" "page" "LSwallowedInTurn$Page;") (List.mem_of_getElem? (i := 1) (by decide +kernel))
  have iX5 : ∀ w ∈ u_ws RX5 TX5 11, w ∈ wsX5_tale := by decide +kernel
  have hw2 := hts (.fieldLink RX5 25 "SwallowedInTurn" "trial" "LSwallowedInTurn$Nesting;") (List.mem_of_getElem? (i := 2) (by decide +kernel))
  have hw3 := hts (.fieldLink RX5 21 "SwallowedInTurn" "now" "LSwallowedInTurn$Nesting;") (List.mem_of_getElem? (i := 3) (by decide +kernel))
  have hf0 := hf
  clear hf
  have hP0 := hP
  have hD0 := hD
  clear hP hD hS
  have hl0 := hl
  clear hl
  have hB_43 : ∀ (P_read : Int32) (P_begun : Int32) (P_figuresDue : Int32) (P_whole : Int32) (P_deeds : Nat → Int32), ∀ (fu : Nat) (R_holders : Nat → Int32) (l1 : Int32), F_X5_tale_43 C_total C_traits P_read P_begun P_figuresDue P_whole P_deeds fu R_holders l1 = some (rv, R_holders', P_read', P_begun', P_figuresDue', P_whole', P_deeds') → ∀ (H : Heap) (locs : List Loc), va_P (dC, dI) vwCl [(aX, .inr (5, [.ref aC, .ref aN, .ref aR, .ref aL, .ref aP, .ref aT, .int X_done, .ref aK, .int X_keptNumber, .int X_keptDone, .int X_keptTotal])), (aC, .inr (0, [.ref aC_traits, .int C_total])), (aC_traits, .inl (cI, 20, .inl C_traits)), (aN, .inr (1, [.ref aC, .ref aN_holders])), (aN_holders, .inl (cI, 5, .inl N_holders)), (aR, .inr (1, [.ref aC, .ref aR_holders])), (aR_holders, .inl (cI, 5, .inl R_holders)), (aP, .inr (3, [.ref aP_letters, .int P_length, .ref aP_deeds, .int P_read, .int P_begun, .int P_figuresDue, .int P_whole])), (aP_letters, .inl (cI, 40, .inl P_letters)), (aP_deeds, .inl (cI, 10, .inl P_deeds))] H → va_D A [(aX, .inr (5, [.ref aC, .ref aN, .ref aR, .ref aL, .ref aP, .ref aT, .int X_done, .ref aK, .int X_keptNumber, .int X_keptDone, .int X_keptTotal])), (aC, .inr (0, [.ref aC_traits, .int C_total])), (aC_traits, .inl (cI, 20, .inl C_traits)), (aN, .inr (1, [.ref aC, .ref aN_holders])), (aN_holders, .inl (cI, 5, .inl N_holders)), (aR, .inr (1, [.ref aC, .ref aR_holders])), (aR_holders, .inl (cI, 5, .inl R_holders)), (aP, .inr (3, [.ref aP_letters, .int P_length, .ref aP_deeds, .int P_read, .int P_begun, .int P_figuresDue, .int P_whole])), (aP_letters, .inl (cI, 40, .inl P_letters)), (aP_deeds, .inl (cI, 10, .inl P_deeds))] → va_S A s.heap H locs → ∀ ls : Array Slot, lv_has ls 2 [(0, .ref aX), (1, .int l1)] → W p l e rm_X5_tale s m ([.ref aX] : List Value).toArray below meth c H locs 0 0 Q (F0 m 43 ls []) := by
    intro P_read P_begun P_figuresDue P_whole P_deeds  fu
    induction fu with
    | zero =>
      intro R_holders l1 hf
      exact nomatch (show (none : Option (Int32 × (Nat → Int32) × Int32 × Int32 × Int32 × Int32 × (Nat → Int32))) = some (rv, R_holders', P_read', P_begun', P_figuresDue', P_whole', P_deeds') from hf)
    | succ fu ih =>
      intro R_holders l1 hf H locs hP hD hS ls hl
      have hf := (F_X5_tale_43.eq_2 _ _ _ _ _ _ _ _ _ _).symm.trans hf
      refine lv_iload_n hx hb dX5_tale_43 rfl (lv_at hl 1 rfl) ?_
      refine lv_aload_n hx hb dX5_tale_44 rfl (lv_at hl 0 rfl) ?_
      refine va_get (D := (dC, dI)) (ci := 5) (v := .ref aP) (C := RX5) (T := TX5) (N := 11) hx hb hts iX5 hown hK hP 0 rfl rfl 4 (by decide) hw1 (fun _ h9 => h9) rfl dX5_tale_45 ?_
      obtain ⟨q1, hq1, hf⟩ := sw_bs hf
      have hPc := hP.sub (ws' := [(aP, .inr (3, [.ref aP_letters, .int P_length, .ref aP_deeds, .int P_read, .int P_begun, .int P_figuresDue, .int P_whole]))]) [7] rfl
      refine sw_rd (W.runV (As := []) (rest := [.int l1]) ⟨hx, hb, hml, hown, hts⟩ (k_X3_deeds l dC dI cI cZ t0 aP aP_letters aP_deeds P_length P_read P_begun P_figuresDue P_whole q1 hq1) (cwV 0 hts gX5_tale_X3_deeds rfl rfl rfl (by decide +kernel) ⟨Nat.le_of_ble_eq_true rfl, Nat.le_of_ble_eq_true rfl⟩) ⟨sw_PR_bl, va_recv hK hPc (ci := 3) (q0 := 0) rfl rfl, sw_PR_pre hK hPc hE hS⟩ rfl rfl hl.1 rfl (lv_room (Nat.le_of_ble_eq_true rfl)) dX5_tale_48 ⟨Nat.zero_le _, Nat.zero_le _⟩) ?_
      refine lv_icmp_ge (tgt := 93) hx hb dX5_tale_51 (by decide) (fun c1 => ?_) (fun c1 => ?_)
      · have hf := sw_ip c1 hf
        refine lv_iload_n hx hb dX5_tale_93 rfl (lv_at hl 1 rfl) ?_
        subst hQ hAe
        cases hf
        exact W.iret hx hb hr (fun t ht hW => ⟨⟨_, (), rfl, rfl, ⟨by rw [ht]; exact hP, va_K.moved hW.alike hK, hD⟩⟩, hS.F ht⟩) hS.2.2 dX5_tale_94 hlocks
      · have hf := sw_in c1 hf
        refine lv_aload_n hx hb dX5_tale_54 rfl (lv_at hl 0 rfl) ?_
        refine va_get (D := (dC, dI)) (ci := 5) (v := .ref aR) (C := RX5) (T := TX5) (N := 11) hx hb hts iX5 hown hK hP 0 rfl rfl 2 (by decide) hw2 (fun _ h9 => h9) rfl dX5_tale_55 ?_
        refine lv_aload_n hx hb dX5_tale_58 rfl (lv_at hl 0 rfl) ?_
        refine va_get (D := (dC, dI)) (ci := 5) (v := .ref aP) (C := RX5) (T := TX5) (N := 11) hx hb hts iX5 hown hK hP 0 rfl rfl 4 (by decide) hw1 (fun _ h9 => h9) rfl dX5_tale_59 ?_
        refine lv_iload_n hx hb dX5_tale_62 rfl (lv_at hl 1 rfl) ?_
        obtain ⟨q2, hq2, hf⟩ := sw_bs hf
        have hPc := hP.sub (ws' := [(aP, .inr (3, [.ref aP_letters, .int P_length, .ref aP_deeds, .int P_read, .int P_begun, .int P_figuresDue, .int P_whole])), (aP_deeds, .inl (cI, 10, .inl P_deeds))]) [7, 9] rfl
        refine sw_rd (W.runV (As := [.int l1]) (rest := [.ref aR]) ⟨hx, hb, hml, hown, hts⟩ (k_X3_deedAt l dC dI cI cZ t0 aP aP_letters aP_deeds P_length P_read P_begun P_figuresDue P_whole P_deeds l1 q2 hq2) (cwV 1 hts gX5_tale_X3_deedAt rfl rfl rfl (by decide +kernel) ⟨Nat.le_of_ble_eq_true rfl, Nat.le_of_ble_eq_true rfl⟩) ⟨sw_PR_bl, va_recv hK hPc (ci := 3) (q0 := 0) rfl rfl, sw_PR_pre hK hPc hE hS⟩ rfl rfl hl.1 rfl (lv_room (Nat.le_of_ble_eq_true rfl)) dX5_tale_63 ⟨Nat.zero_le _, Nat.zero_le _⟩) ?_
        obtain ⟨q3, hq3, hf⟩ := sw_bs hf
        have hPc := hP.sub (ws' := [(aC, .inr (0, [.ref aC_traits, .int C_total])), (aC_traits, .inl (cI, 20, .inl C_traits)), (aR, .inr (1, [.ref aC, .ref aR_holders])), (aR_holders, .inl (cI, 5, .inl R_holders))]) [1, 2, 5, 6] rfl
        refine sw_rd (W.runV (As := [.int q2]) (rest := []) ⟨hx, hb, hml, hown, hts⟩ (k_X1_allows l dC dI cI cZ t0 aC aC_traits aR aR_holders C_total C_traits R_holders q2 q3 hq3) (cwV 1 hts gX5_tale_X1_allows rfl rfl rfl (by decide +kernel) ⟨Nat.le_of_ble_eq_true rfl, Nat.le_of_ble_eq_true rfl⟩) ⟨sw_PR_bl, va_recv hK hPc (ci := 1) (q0 := 2) rfl rfl, sw_PR_pre hK hPc hE hS⟩ rfl rfl hl.1 rfl (lv_room (Nat.le_of_ble_eq_true rfl)) dX5_tale_66 ⟨Nat.zero_le _, Nat.zero_le _⟩) ?_
        refine lv_if_eq (tgt := 93) hx hb dX5_tale_69 (by decide) (fun c2 => ?_) (fun c2 => ?_)
        · have hf := sw_ip c2 hf
          refine lv_iload_n hx hb dX5_tale_93 rfl (lv_at hl 1 rfl) ?_
          subst hQ hAe
          cases hf
          exact W.iret hx hb hr (fun t ht hW => ⟨⟨_, (), rfl, rfl, ⟨by rw [ht]; exact hP, va_K.moved hW.alike hK, hD⟩⟩, hS.F ht⟩) hS.2.2 dX5_tale_94 hlocks
        · have hf := sw_in c2 hf
          refine lv_aload_n hx hb dX5_tale_72 rfl (lv_at hl 0 rfl) ?_
          refine va_get (D := (dC, dI)) (ci := 5) (v := .ref aR) (C := RX5) (T := TX5) (N := 11) hx hb hts iX5 hown hK hP 0 rfl rfl 2 (by decide) hw2 (fun _ h9 => h9) rfl dX5_tale_73 ?_
          refine lv_aload_n hx hb dX5_tale_76 rfl (lv_at hl 0 rfl) ?_
          refine va_get (D := (dC, dI)) (ci := 5) (v := .ref aP) (C := RX5) (T := TX5) (N := 11) hx hb hts iX5 hown hK hP 0 rfl rfl 4 (by decide) hw1 (fun _ h9 => h9) rfl dX5_tale_77 ?_
          refine lv_iload_n hx hb dX5_tale_80 rfl (lv_at hl 1 rfl) ?_
          obtain ⟨q4, hq4, hf⟩ := sw_bs hf
          have hPc := hP.sub (ws' := [(aP, .inr (3, [.ref aP_letters, .int P_length, .ref aP_deeds, .int P_read, .int P_begun, .int P_figuresDue, .int P_whole])), (aP_deeds, .inl (cI, 10, .inl P_deeds))]) [7, 9] rfl
          refine sw_rd (W.runV (As := [.int l1]) (rest := [.ref aR]) ⟨hx, hb, hml, hown, hts⟩ (k_X3_deedAt l dC dI cI cZ t0 aP aP_letters aP_deeds P_length P_read P_begun P_figuresDue P_whole P_deeds l1 q4 hq4) (cwV 1 hts gX5_tale_X3_deedAt rfl rfl rfl (by decide +kernel) ⟨Nat.le_of_ble_eq_true rfl, Nat.le_of_ble_eq_true rfl⟩) ⟨sw_PR_bl, va_recv hK hPc (ci := 3) (q0 := 0) rfl rfl, sw_PR_pre hK hPc hE hS⟩ rfl rfl hl.1 rfl (lv_room (Nat.le_of_ble_eq_true rfl)) dX5_tale_81 ⟨Nat.zero_le _, Nat.zero_le _⟩) ?_
          obtain ⟨q5, hq5, hf⟩ := sw_bs hf
          have hPc := hP.sub (ws' := [(aC, .inr (0, [.ref aC_traits, .int C_total])), (aC_traits, .inl (cI, 20, .inl C_traits)), (aR, .inr (1, [.ref aC, .ref aR_holders])), (aR_holders, .inl (cI, 5, .inl R_holders))]) [1, 2, 5, 6] rfl
          have hDc := hD.sub (ws' := [(aC, .inr (0, [.ref aC_traits, .int C_total])), (aC_traits, .inl (cI, 20, .inl C_traits)), (aR, .inr (1, [.ref aC, .ref aR_holders])), (aR_holders, .inl (cI, 5, .inl R_holders))]) [1, 2, 5, 6] (by decide) rfl
          have hFc := va_free (wc := [(aC, .inr (0, [.ref aC_traits, .int C_total])), (aC_traits, .inl (cI, 20, .inl C_traits)), (aR, .inr (1, [.ref aC, .ref aR_holders])), (aR_holders, .inl (cI, 5, .inl R_holders))]) hD hS hA [1, 2, 5, 6] rfl
          refine sw_wv (wn := [(aX, .inr (5, [.ref aC, .ref aN, .ref aR, .ref aL, .ref aP, .ref aT, .int X_done, .ref aK, .int X_keptNumber, .int X_keptDone, .int X_keptTotal])), (aC, .inr (0, [.ref aC_traits, .int C_total])), (aC_traits, .inl (cI, 20, .inl C_traits)), (aN, .inr (1, [.ref aC, .ref aN_holders])), (aN_holders, .inl (cI, 5, .inl N_holders)), (aR, .inr (1, [.ref aC, .ref aR_holders])), (aR_holders, .inl (cI, 5, .inl q5)), (aP, .inr (3, [.ref aP_letters, .int P_length, .ref aP_deeds, .int P_read, .int P_begun, .int P_figuresDue, .int P_whole])), (aP_letters, .inl (cI, 40, .inl P_letters)), (aP_deeds, .inl (cI, 10, .inl P_deeds))]) (w1 := [(aC, .inr (0, [.ref aC_traits, .int C_total])), (aC_traits, .inl (cI, 20, .inl C_traits)), (aR, .inr (1, [.ref aC, .ref aR_holders])), (aR_holders, .inl (cI, 5, .inl q5))]) (wr := [(aX, .inr (5, [.ref aC, .ref aN, .ref aR, .ref aL, .ref aP, .ref aT, .int X_done, .ref aK, .int X_keptNumber, .int X_keptDone, .int X_keptTotal])), (aN, .inr (1, [.ref aC, .ref aN_holders])), (aN_holders, .inl (cI, 5, .inl N_holders)), (aP, .inr (3, [.ref aP_letters, .int P_length, .ref aP_deeds, .int P_read, .int P_begun, .int P_figuresDue, .int P_whole])), (aP_letters, .inl (cI, 40, .inl P_letters)), (aP_deeds, .inl (cI, 10, .inl P_deeds))]) (va_runV (As := [.int q4]) (rest := []) ⟨hx, hb, hml, hown, hts⟩ (k_X1_carryOut l dC dI cI cZ t0 H.size aC aC_traits aR aR_holders C_total C_traits R_holders q4 q5 hq5) (cwV 1 hts gX5_tale_X1_carryOut rfl rfl rfl (by decide +kernel) ⟨Nat.le_of_ble_eq_true rfl, Nat.le_of_ble_eq_true rfl⟩) ⟨sw_PW_bl, va_recv hK hPc (ci := 1) (q0 := 2) rfl rfl, sw_PW_pre hK hPc hDc hE hS hFc⟩ rfl rfl hl.1 rfl (lv_room (Nat.le_of_ble_eq_true rfl)) dX5_tale_84 ⟨Nat.zero_le _, Nat.zero_le _⟩) hS hP hD hFc [1, 2, 5, 6] [0, 3, 4, 7, 8, 9] [0, 6, 7, 1, 2, 8, 9, 3, 4, 5] rfl rfl (by decide) (by decide) (by decide) rfl (fun H locs hP hD hS => ?_)
          refine lv_iinc (v := l1 + (1 : Int32)) (lv' := [(1, .int (l1 + (1 : Int32))), (0, .ref aX)]) hx hb dX5_tale_87 hl (k := 1) rfl (sw_ii _) (by decide) rfl (fun ls hl => ?_)
          refine lv_goto (tgt := 43) hx hb dX5_tale_90 (by decide) ?_
          exact ih q5 (l1 + (1 : Int32)) hf H locs hP hD hS ls (lv_sub hl [1, 0] rfl)
  have hf := hf0
  have hl := hl0
  have hP := hP0
  have hD := hD0
  have hS := hS0
  obtain ⟨H, hH⟩ : ∃ H, H = s.heap := ⟨_, rfl⟩
  obtain ⟨locs, hlo⟩ : ∃ locs : List Loc, locs = [] := ⟨_, rfl⟩
  rw [← hH] at hP
  have hS : va_S A s.heap H locs := by rw [hH, hlo]; exact hS0
  suffices hgo : W p l e rm_X5_tale s m ([.ref aX] : List Value).toArray below meth c H locs 0 0 Q (F0 m 0 ls []) by rw [hH, hlo] at hgo; exact hgo
  refine lv_aload_n hx hb dX5_tale_0 rfl (lv_at hl 0 rfl) ?_
  refine va_get (D := (dC, dI)) (ci := 5) (v := .ref aP) (C := RX5) (T := TX5) (N := 11) hx hb hts iX5 hown hK hP 0 rfl rfl 4 (by decide) hw1 (fun _ h9 => h9) rfl dX5_tale_1 ?_
  obtain ⟨q6, hq6, hf⟩ := sw_bs hf
  have hPc := hP.sub (ws' := [(aP, .inr (3, [.ref aP_letters, .int P_length, .ref aP_deeds, .int P_read, .int P_begun, .int P_figuresDue, .int P_whole])), (aP_letters, .inl (cI, 40, .inl P_letters)), (aP_deeds, .inl (cI, 10, .inl P_deeds))]) [7, 8, 9] rfl
  have hDc := hD.sub (ws' := [(aP, .inr (3, [.ref aP_letters, .int P_length, .ref aP_deeds, .int P_read, .int P_begun, .int P_figuresDue, .int P_whole])), (aP_letters, .inl (cI, 40, .inl P_letters)), (aP_deeds, .inl (cI, 10, .inl P_deeds))]) [7, 8, 9] (by decide) rfl
  have hFc := va_free (wc := [(aP, .inr (3, [.ref aP_letters, .int P_length, .ref aP_deeds, .int P_read, .int P_begun, .int P_figuresDue, .int P_whole])), (aP_letters, .inl (cI, 40, .inl P_letters)), (aP_deeds, .inl (cI, 10, .inl P_deeds))]) hD hS hA [7, 8, 9] rfl
  refine sw_wi (wn := [(aX, .inr (5, [.ref aC, .ref aN, .ref aR, .ref aL, .ref aP, .ref aT, .int X_done, .ref aK, .int X_keptNumber, .int X_keptDone, .int X_keptTotal])), (aC, .inr (0, [.ref aC_traits, .int C_total])), (aC_traits, .inl (cI, 20, .inl C_traits)), (aN, .inr (1, [.ref aC, .ref aN_holders])), (aN_holders, .inl (cI, 5, .inl N_holders)), (aR, .inr (1, [.ref aC, .ref aR_holders])), (aR_holders, .inl (cI, 5, .inl R_holders)), (aP, .inr (3, [.ref aP_letters, .int P_length, .ref aP_deeds, .int q6.2.1, .int q6.2.2.1, .int q6.2.2.2.1, .int q6.2.2.2.2.1])), (aP_letters, .inl (cI, 40, .inl P_letters)), (aP_deeds, .inl (cI, 10, .inl q6.2.2.2.2.2))]) (w1 := [(aP, .inr (3, [.ref aP_letters, .int P_length, .ref aP_deeds, .int q6.2.1, .int q6.2.2.1, .int q6.2.2.2.1, .int q6.2.2.2.2.1])), (aP_letters, .inl (cI, 40, .inl P_letters)), (aP_deeds, .inl (cI, 10, .inl q6.2.2.2.2.2))]) (wr := [(aX, .inr (5, [.ref aC, .ref aN, .ref aR, .ref aL, .ref aP, .ref aT, .int X_done, .ref aK, .int X_keptNumber, .int X_keptDone, .int X_keptTotal])), (aC, .inr (0, [.ref aC_traits, .int C_total])), (aC_traits, .inl (cI, 20, .inl C_traits)), (aN, .inr (1, [.ref aC, .ref aN_holders])), (aN_holders, .inl (cI, 5, .inl N_holders)), (aR, .inr (1, [.ref aC, .ref aR_holders])), (aR_holders, .inl (cI, 5, .inl R_holders))]) (va_runV (As := []) (rest := []) ⟨hx, hb, hml, hown, hts⟩ (k_X3_read l dC dI cI cZ t0 H.size aP aP_letters aP_deeds P_length P_read P_begun P_figuresDue P_whole P_letters P_deeds q6.1 q6.2.1 q6.2.2.1 q6.2.2.2.1 q6.2.2.2.2.1 q6.2.2.2.2.2 hq6) (cwV 0 hts gX5_tale_X3_read rfl rfl rfl (by decide +kernel) ⟨Nat.le_of_ble_eq_true rfl, Nat.le_of_ble_eq_true rfl⟩) ⟨sw_PW_bl, va_recv hK hPc (ci := 3) (q0 := 0) rfl rfl, sw_PW_pre hK hPc hDc hE hS hFc⟩ rfl rfl hl.1 rfl (lv_room (Nat.le_of_ble_eq_true rfl)) dX5_tale_4 ⟨Nat.zero_le _, Nat.zero_le _⟩) hS hP hD hFc [7, 8, 9] [0, 1, 2, 3, 4, 5, 6] [0, 1, 2, 3, 4, 5, 6, 7, 8, 9] rfl rfl (by decide) (by decide) (by decide) rfl (fun H locs hP hD hS => ?_)
  refine lv_aload_n hx hb dX5_tale_7 rfl (lv_at hl 0 rfl) ?_
  refine va_get (D := (dC, dI)) (ci := 5) (v := .ref aP) (C := RX5) (T := TX5) (N := 11) hx hb hts iX5 hown hK hP 0 rfl rfl 4 (by decide) hw1 (fun _ h9 => h9) rfl dX5_tale_8 ?_
  obtain ⟨q7, hq7, hf⟩ := sw_bs hf
  have hPc := hP.sub (ws' := [(aP, .inr (3, [.ref aP_letters, .int P_length, .ref aP_deeds, .int q6.2.1, .int q6.2.2.1, .int q6.2.2.2.1, .int q6.2.2.2.2.1]))]) [7] rfl
  refine sw_rd (W.runV (As := []) (rest := [.int q6.1]) ⟨hx, hb, hml, hown, hts⟩ (k_X3_length l dC dI cI cZ t0 aP aP_letters aP_deeds P_length q6.2.1 q6.2.2.1 q6.2.2.2.1 q6.2.2.2.2.1 q7 hq7) (cwV 0 hts gX5_tale_X3_length rfl rfl rfl (by decide +kernel) ⟨Nat.le_of_ble_eq_true rfl, Nat.le_of_ble_eq_true rfl⟩) ⟨sw_PR_bl, va_recv hK hPc (ci := 3) (q0 := 0) rfl rfl, sw_PR_pre hK hPc hE hS⟩ rfl rfl hl.1 rfl (lv_room (Nat.le_of_ble_eq_true rfl)) dX5_tale_11 ⟨Nat.zero_le _, Nat.zero_le _⟩) ?_
  refine lv_icmp_lt (tgt := 27) hx hb dX5_tale_14 (by decide) (fun c3 => ?_) (fun c3 => ?_)
  · have hf := sw_ip c3 hf
    refine lv_bipush (v := -103) hx hb dX5_tale_27 (by decide) ?_
    subst hQ hAe
    cases hf
    exact W.iret hx hb hr (fun t ht hW => ⟨⟨_, (), rfl, rfl, ⟨by rw [ht]; exact hP, va_K.moved hW.alike hK, hD⟩⟩, hS.F ht⟩) hS.2.2 dX5_tale_29 hlocks
  · have hf := sw_in c3 hf
    refine lv_aload_n hx hb dX5_tale_17 rfl (lv_at hl 0 rfl) ?_
    refine va_get (D := (dC, dI)) (ci := 5) (v := .ref aP) (C := RX5) (T := TX5) (N := 11) hx hb hts iX5 hown hK hP 0 rfl rfl 4 (by decide) hw1 (fun _ h9 => h9) rfl dX5_tale_18 ?_
    obtain ⟨q8, hq8, hf⟩ := sw_bs hf
    have hPc := hP.sub (ws' := [(aP, .inr (3, [.ref aP_letters, .int P_length, .ref aP_deeds, .int q6.2.1, .int q6.2.2.1, .int q6.2.2.2.1, .int q6.2.2.2.2.1]))]) [7] rfl
    refine sw_rd (W.runV (As := []) (rest := []) ⟨hx, hb, hml, hown, hts⟩ (k_X3_isWhole l dC dI cI cZ t0 aP aP_letters aP_deeds P_length q6.2.1 q6.2.2.1 q6.2.2.2.1 q6.2.2.2.2.1 q8 hq8) (cwV 0 hts gX5_tale_X3_isWhole rfl rfl rfl (by decide +kernel) ⟨Nat.le_of_ble_eq_true rfl, Nat.le_of_ble_eq_true rfl⟩) ⟨sw_PR_bl, va_recv hK hPc (ci := 3) (q0 := 0) rfl rfl, sw_PR_pre hK hPc hE hS⟩ rfl rfl hl.1 rfl (lv_room (Nat.le_of_ble_eq_true rfl)) dX5_tale_21 ⟨Nat.zero_le _, Nat.zero_le _⟩) ?_
    refine lv_if_ne (tgt := 30) hx hb dX5_tale_24 (by decide) (fun c4 => ?_) (fun c4 => ?_)
    · have hf := sw_in c4 hf
      refine lv_aload_n hx hb dX5_tale_30 rfl (lv_at hl 0 rfl) ?_
      refine va_get (D := (dC, dI)) (ci := 5) (v := .ref aR) (C := RX5) (T := TX5) (N := 11) hx hb hts iX5 hown hK hP 0 rfl rfl 2 (by decide) hw2 (fun _ h9 => h9) rfl dX5_tale_31 ?_
      refine lv_aload_n hx hb dX5_tale_34 rfl (lv_at hl 0 rfl) ?_
      refine va_get (D := (dC, dI)) (ci := 5) (v := .ref aN) (C := RX5) (T := TX5) (N := 11) hx hb hts iX5 hown hK hP 0 rfl rfl 1 (by decide) hw3 (fun _ h9 => h9) rfl dX5_tale_35 ?_
      obtain ⟨q9, hq9, hf⟩ := sw_bs hf
      have hPc := hP.sub (ws' := [(aR, .inr (1, [.ref aC, .ref aR_holders])), (aR_holders, .inl (cI, 5, .inl R_holders)), (aN, .inr (1, [.ref aC, .ref aN_holders])), (aN_holders, .inl (cI, 5, .inl N_holders))]) [5, 6, 3, 4] rfl
      have hDc := hD.sub (ws' := [(aR, .inr (1, [.ref aC, .ref aR_holders])), (aR_holders, .inl (cI, 5, .inl R_holders)), (aN, .inr (1, [.ref aC, .ref aN_holders])), (aN_holders, .inl (cI, 5, .inl N_holders))]) [5, 6, 3, 4] (by decide) rfl
      have hFc := va_free (wc := [(aR, .inr (1, [.ref aC, .ref aR_holders])), (aR_holders, .inl (cI, 5, .inl R_holders)), (aN, .inr (1, [.ref aC, .ref aN_holders])), (aN_holders, .inl (cI, 5, .inl N_holders))]) hD hS hA [5, 6, 3, 4] rfl
      refine sw_wv (wn := [(aX, .inr (5, [.ref aC, .ref aN, .ref aR, .ref aL, .ref aP, .ref aT, .int X_done, .ref aK, .int X_keptNumber, .int X_keptDone, .int X_keptTotal])), (aC, .inr (0, [.ref aC_traits, .int C_total])), (aC_traits, .inl (cI, 20, .inl C_traits)), (aN, .inr (1, [.ref aC, .ref aN_holders])), (aN_holders, .inl (cI, 5, .inl N_holders)), (aR, .inr (1, [.ref aC, .ref aR_holders])), (aR_holders, .inl (cI, 5, .inl q9)), (aP, .inr (3, [.ref aP_letters, .int P_length, .ref aP_deeds, .int q6.2.1, .int q6.2.2.1, .int q6.2.2.2.1, .int q6.2.2.2.2.1])), (aP_letters, .inl (cI, 40, .inl P_letters)), (aP_deeds, .inl (cI, 10, .inl q6.2.2.2.2.2))]) (w1 := [(aR, .inr (1, [.ref aC, .ref aR_holders])), (aR_holders, .inl (cI, 5, .inl q9)), (aN, .inr (1, [.ref aC, .ref aN_holders])), (aN_holders, .inl (cI, 5, .inl N_holders))]) (wr := [(aX, .inr (5, [.ref aC, .ref aN, .ref aR, .ref aL, .ref aP, .ref aT, .int X_done, .ref aK, .int X_keptNumber, .int X_keptDone, .int X_keptTotal])), (aC, .inr (0, [.ref aC_traits, .int C_total])), (aC_traits, .inl (cI, 20, .inl C_traits)), (aP, .inr (3, [.ref aP_letters, .int P_length, .ref aP_deeds, .int q6.2.1, .int q6.2.2.1, .int q6.2.2.2.1, .int q6.2.2.2.2.1])), (aP_letters, .inl (cI, 40, .inl P_letters)), (aP_deeds, .inl (cI, 10, .inl q6.2.2.2.2.2))]) (va_runV (As := [.ref aN]) (rest := []) ⟨hx, hb, hml, hown, hts⟩ (k_X1_copy l dC dI cI cZ t0 H.size aR aC aR_holders aN aN_holders R_holders N_holders q9 hq9) (cwV 1 hts gX5_tale_X1_copy rfl rfl rfl (by decide +kernel) ⟨Nat.le_of_ble_eq_true rfl, Nat.le_of_ble_eq_true rfl⟩) ⟨sw_PW_bl, va_recv hK hPc (ci := 1) (q0 := 0) rfl rfl, sw_PW_pre hK hPc hDc hE hS hFc⟩ rfl rfl hl.1 rfl (lv_room (Nat.le_of_ble_eq_true rfl)) dX5_tale_38 ⟨Nat.zero_le _, Nat.zero_le _⟩) hS hP hD hFc [5, 6, 3, 4] [0, 1, 2, 7, 8, 9] [0, 1, 2, 8, 9, 6, 7, 3, 4, 5] rfl rfl (by decide) (by decide) (by decide) rfl (fun H locs hP hD hS => ?_)
      refine lv_iconst (v := 0) hx hb dX5_tale_41 (by decide) ?_
      refine lv_istore_n (lv' := [(1, .int (0 : Int32)), (0, .ref aX)]) hx hb dX5_tale_42 rfl hl (by decide) rfl (fun ls hl => ?_)
      exact hB_43 q6.2.1 q6.2.2.1 q6.2.2.2.1 q6.2.2.2.2.1 q6.2.2.2.2.2  sw_fu q9 (0 : Int32) hf H locs hP hD hS ls (lv_sub hl [1, 0] rfl)
    · have hf := sw_ip c4 hf
      refine lv_bipush (v := -103) hx hb dX5_tale_27 (by decide) ?_
      subst hQ hAe
      cases hf
      exact W.iret hx hb hr (fun t ht hW => ⟨⟨_, (), rfl, rfl, ⟨by rw [ht]; exact hP, va_K.moved hW.alike hK, hD⟩⟩, hS.F ht⟩) hS.2.2 dX5_tale_29 hlocks
abbrev rm_X5_being : Room := { frames := 1, cells := 0, slots := 0, locals := 25 }
set_option maxHeartbeats 1000000 in
set_option maxRecDepth 100000 in
theorem k_X5_being (l : Launch) (dC : Nat → ClassId) (dI : Nat → Nat → Nat) (cI cZ : ClassId) (t0 : Nat) (sz : Nat) (aX aC aN aR aL aP aT aK aC_traits : Nat) (X_done : Int32) (X_keptNumber : Int32) (X_keptDone : Int32) (X_keptTotal : Int32) (C_total : Int32) (C_traits : Nat → Int32) (l1 : Int32) (l2 : Int32) (l3 : Int32) (l4 : Int32) (rv : Int32) (C_total' : Int32) (C_traits' : Nat → Int32) (hf : F_X5_being C_total C_traits l1 l2 l3 l4 = some (rv, C_total', C_traits')) : Met l yX5_being wsX5_being rm_X5_being (sw_PW (dC, dI) t0 [(cI, .int), (cZ, .boolean)] [.ref aX, .int l1, .int l2, .int l3, .int l4] [(aX, .inr (5, [.ref aC, .ref aN, .ref aR, .ref aL, .ref aP, .ref aT, .int X_done, .ref aK, .int X_keptNumber, .int X_keptDone, .int X_keptTotal])), (aC, .inr (0, [.ref aC_traits, .int C_total])), (aC_traits, .inl (cI, 20, .inl C_traits))] sz) (va_Qi (fun r (_ : Unit) => r = rv) (fun _ t => sw_B (dC, dI) [(cI, .int), (cZ, .boolean)] [(aX, .inr (5, [.ref aC, .ref aN, .ref aR, .ref aL, .ref aP, .ref aT, .int X_done, .ref aK, .int X_keptNumber, .int X_keptDone, .int X_keptTotal])), (aC, .inr (0, [.ref aC_traits, .int C_total'])), (aC_traits, .inl (cI, 20, .inl C_traits'))] (va_A [(aX, .inr (5, [.ref aC, .ref aN, .ref aR, .ref aL, .ref aP, .ref aT, .int X_done, .ref aK, .int X_keptNumber, .int X_keptDone, .int X_keptTotal])), (aC, .inr (0, [.ref aC_traits, .int C_total])), (aC_traits, .inl (cI, 20, .inl C_traits))] sz) t) (va_A [(aX, .inr (5, [.ref aC, .ref aN, .ref aR, .ref aL, .ref aP, .ref aT, .int X_done, .ref aK, .int X_keptNumber, .int X_keptDone, .int X_keptTotal])), (aC, .inr (0, [.ref aC_traits, .int C_total])), (aC_traits, .inl (cI, 20, .inl C_traits))] sz)) 0 0 (va_A [(aX, .inr (5, [.ref aC, .ref aN, .ref aR, .ref aL, .ref aP, .ref aT, .int X_done, .ref aK, .int X_keptNumber, .int X_keptDone, .int X_keptTotal])), (aC, .inr (0, [.ref aC_traits, .int C_total])), (aC_traits, .inl (cI, 20, .inl C_traits))] sz) := by
  refine sw_metW (cc := cX5_being) (maxL := 6) (ret := (some .int)) (lv := [(0, .ref aX), (1, .int l1), (2, .int l2), (3, .int l3), (4, .int l4)]) (by decide) rfl (Nat.le_of_ble_eq_true rfl) rfl ?_
  intro p e s m below meth c Q A hsz hAe hQ hx hb hr hts hown hlocks hml hmn hP hK hD hE hS hA ls hl
  have hS0 := hS
  have hown : s.vm.findClass RX5 = some m.cls := hown
  have hf := (F_X5_being.eq_1 _ _ _ _ _ _).symm.trans hf
  have hw1 := hts (.fieldLink RX5 12 "SwallowedInTurn" "crowd" "LSwallowedInTurn$Crowd;") (List.mem_of_getElem? (i := 1) (by decide +kernel))
  have iX5 : ∀ w ∈ u_ws RX5 TX5 11, w ∈ wsX5_being := by decide +kernel
  obtain ⟨H, hH⟩ : ∃ H, H = s.heap := ⟨_, rfl⟩
  obtain ⟨locs, hlo⟩ : ∃ locs : List Loc, locs = [] := ⟨_, rfl⟩
  rw [← hH] at hP
  have hS : va_S A s.heap H locs := by rw [hH, hlo]; exact hS0
  suffices hgo : W p l e rm_X5_being s m ([.ref aX, .int l1, .int l2, .int l3, .int l4] : List Value).toArray below meth c H locs 0 0 Q (F0 m 0 ls []) by rw [hH, hlo] at hgo; exact hgo
  refine lv_iload_n hx hb dX5_being_0 rfl (lv_at hl 1 rfl) ?_
  refine lv_iconst (v := 0) hx hb dX5_being_1 (by decide) ?_
  refine lv_iconst (v := 4) hx hb dX5_being_2 (by decide) ?_
  obtain ⟨q1, hq1, hf⟩ := sw_bs hf
  have hPc := hP.sub (ws' := []) [] rfl
  refine sw_rd (W.runS (As := [.int l1, .int (0 : Int32), .int (4 : Int32)]) (rest := []) ⟨hx, hb, hml, hown, hts⟩ (k_X5_isBetween l dC dI cI cZ t0 l1 (0 : Int32) (4 : Int32) q1 hq1) (va_cwS 3 hts gX5_being_X5_isBetween rfl rfl rfl (by decide +kernel) ⟨Nat.le_of_ble_eq_true rfl, Nat.le_of_ble_eq_true rfl⟩) ⟨sw_PR_bl, sw_PR_pre hK hPc hE hS⟩ rfl rfl hl.1 rfl (lv_room (Nat.le_of_ble_eq_true rfl)) dX5_being_3 ⟨Nat.zero_le _, Nat.zero_le _⟩) ?_
  refine lv_if_eq (tgt := 40) hx hb dX5_being_6 (by decide) (fun c1 => ?_) (fun c1 => ?_)
  · have hf := sw_ip c1 hf
    refine lv_bipush (v := -102) hx hb dX5_being_40 (by decide) ?_
    subst hQ hAe
    cases hf
    exact W.iret hx hb hr (fun t ht hW => ⟨⟨_, (), rfl, rfl, ⟨by rw [ht]; exact hP, va_K.moved hW.alike hK, hD⟩⟩, hS.F ht⟩) hS.2.2 dX5_being_42 hlocks
  · have hf := sw_in c1 hf
    refine lv_iload_n hx hb dX5_being_9 rfl (lv_at hl 2 rfl) ?_
    refine lv_iconst (v := 1) hx hb dX5_being_10 (by decide) ?_
    refine lv_bipush (v := 9) hx hb dX5_being_11 (by decide) ?_
    obtain ⟨q2, hq2, hf⟩ := sw_bs hf
    have hPc := hP.sub (ws' := []) [] rfl
    refine sw_rd (W.runS (As := [.int l2, .int (1 : Int32), .int (9 : Int32)]) (rest := []) ⟨hx, hb, hml, hown, hts⟩ (k_X5_isBetween l dC dI cI cZ t0 l2 (1 : Int32) (9 : Int32) q2 hq2) (va_cwS 3 hts gX5_being_X5_isBetween rfl rfl rfl (by decide +kernel) ⟨Nat.le_of_ble_eq_true rfl, Nat.le_of_ble_eq_true rfl⟩) ⟨sw_PR_bl, sw_PR_pre hK hPc hE hS⟩ rfl rfl hl.1 rfl (lv_room (Nat.le_of_ble_eq_true rfl)) dX5_being_13 ⟨Nat.zero_le _, Nat.zero_le _⟩) ?_
    refine lv_if_eq (tgt := 40) hx hb dX5_being_16 (by decide) (fun c2 => ?_) (fun c2 => ?_)
    · have hf := sw_ip c2 hf
      refine lv_bipush (v := -102) hx hb dX5_being_40 (by decide) ?_
      subst hQ hAe
      cases hf
      exact W.iret hx hb hr (fun t ht hW => ⟨⟨_, (), rfl, rfl, ⟨by rw [ht]; exact hP, va_K.moved hW.alike hK, hD⟩⟩, hS.F ht⟩) hS.2.2 dX5_being_42 hlocks
    · have hf := sw_in c2 hf
      refine lv_iload_n hx hb dX5_being_19 rfl (lv_at hl 3 rfl) ?_
      refine lv_iconst (v := 0) hx hb dX5_being_20 (by decide) ?_
      refine lv_bipush (v := 20) hx hb dX5_being_21 (by decide) ?_
      obtain ⟨q3, hq3, hf⟩ := sw_bs hf
      have hPc := hP.sub (ws' := []) [] rfl
      refine sw_rd (W.runS (As := [.int l3, .int (0 : Int32), .int (20 : Int32)]) (rest := []) ⟨hx, hb, hml, hown, hts⟩ (k_X5_isBetween l dC dI cI cZ t0 l3 (0 : Int32) (20 : Int32) q3 hq3) (va_cwS 3 hts gX5_being_X5_isBetween rfl rfl rfl (by decide +kernel) ⟨Nat.le_of_ble_eq_true rfl, Nat.le_of_ble_eq_true rfl⟩) ⟨sw_PR_bl, sw_PR_pre hK hPc hE hS⟩ rfl rfl hl.1 rfl (lv_room (Nat.le_of_ble_eq_true rfl)) dX5_being_23 ⟨Nat.zero_le _, Nat.zero_le _⟩) ?_
      refine lv_if_eq (tgt := 40) hx hb dX5_being_26 (by decide) (fun c3 => ?_) (fun c3 => ?_)
      · have hf := sw_ip c3 hf
        refine lv_bipush (v := -102) hx hb dX5_being_40 (by decide) ?_
        subst hQ hAe
        cases hf
        exact W.iret hx hb hr (fun t ht hW => ⟨⟨_, (), rfl, rfl, ⟨by rw [ht]; exact hP, va_K.moved hW.alike hK, hD⟩⟩, hS.F ht⟩) hS.2.2 dX5_being_42 hlocks
      · have hf := sw_in c3 hf
        refine lv_iload hx hb dX5_being_29 (lv_at hl 4 rfl) ?_
        refine lv_iconst (v := 0) hx hb dX5_being_31 (by decide) ?_
        refine lv_bipush (v := 31) hx hb dX5_being_32 (by decide) ?_
        obtain ⟨q4, hq4, hf⟩ := sw_bs hf
        have hPc := hP.sub (ws' := []) [] rfl
        refine sw_rd (W.runS (As := [.int l4, .int (0 : Int32), .int (31 : Int32)]) (rest := []) ⟨hx, hb, hml, hown, hts⟩ (k_X5_isBetween l dC dI cI cZ t0 l4 (0 : Int32) (31 : Int32) q4 hq4) (va_cwS 3 hts gX5_being_X5_isBetween rfl rfl rfl (by decide +kernel) ⟨Nat.le_of_ble_eq_true rfl, Nat.le_of_ble_eq_true rfl⟩) ⟨sw_PR_bl, sw_PR_pre hK hPc hE hS⟩ rfl rfl hl.1 rfl (lv_room (Nat.le_of_ble_eq_true rfl)) dX5_being_34 ⟨Nat.zero_le _, Nat.zero_le _⟩) ?_
        refine lv_if_ne (tgt := 43) hx hb dX5_being_37 (by decide) (fun c4 => ?_) (fun c4 => ?_)
        · have hf := sw_in c4 hf
          refine lv_aload_n hx hb dX5_being_43 rfl (lv_at hl 0 rfl) ?_
          refine va_get (D := (dC, dI)) (ci := 5) (v := .ref aC) (C := RX5) (T := TX5) (N := 11) hx hb hts iX5 hown hK hP 0 rfl rfl 0 (by decide) hw1 (fun _ h9 => h9) rfl dX5_being_44 ?_
          refine lv_iload_n hx hb dX5_being_47 rfl (lv_at hl 1 rfl) ?_
          refine lv_iload_n hx hb dX5_being_48 rfl (lv_at hl 2 rfl) ?_
          refine lv_iload_n hx hb dX5_being_49 rfl (lv_at hl 3 rfl) ?_
          refine lv_iload hx hb dX5_being_50 (lv_at hl 4 rfl) ?_
          obtain ⟨q5, hq5, hf⟩ := sw_bs hf
          have hPc := hP.sub (ws' := [(aC, .inr (0, [.ref aC_traits, .int C_total])), (aC_traits, .inl (cI, 20, .inl C_traits))]) [1, 2] rfl
          have hDc := hD.sub (ws' := [(aC, .inr (0, [.ref aC_traits, .int C_total])), (aC_traits, .inl (cI, 20, .inl C_traits))]) [1, 2] (by decide) rfl
          have hFc := va_free (wc := [(aC, .inr (0, [.ref aC_traits, .int C_total])), (aC_traits, .inl (cI, 20, .inl C_traits))]) hD hS hA [1, 2] rfl
          refine sw_wi (wn := [(aX, .inr (5, [.ref aC, .ref aN, .ref aR, .ref aL, .ref aP, .ref aT, .int X_done, .ref aK, .int X_keptNumber, .int X_keptDone, .int X_keptTotal])), (aC, .inr (0, [.ref aC_traits, .int q5.2.1])), (aC_traits, .inl (cI, 20, .inl q5.2.2))]) (w1 := [(aC, .inr (0, [.ref aC_traits, .int q5.2.1])), (aC_traits, .inl (cI, 20, .inl q5.2.2))]) (wr := [(aX, .inr (5, [.ref aC, .ref aN, .ref aR, .ref aL, .ref aP, .ref aT, .int X_done, .ref aK, .int X_keptNumber, .int X_keptDone, .int X_keptTotal]))]) (va_runV (As := [.int l1, .int l2, .int l3, .int l4]) (rest := []) ⟨hx, hb, hml, hown, hts⟩ (k_X0_join l dC dI cI cZ t0 H.size aC aC_traits C_total C_traits l1 l2 l3 l4 q5.1 q5.2.1 q5.2.2 hq5) (cwV 4 hts gX5_being_X0_join rfl rfl rfl (by decide +kernel) ⟨Nat.le_of_ble_eq_true rfl, Nat.le_of_ble_eq_true rfl⟩) ⟨sw_PW_bl, va_recv hK hPc (ci := 0) (q0 := 0) rfl rfl, sw_PW_pre hK hPc hDc hE hS hFc⟩ rfl rfl hl.1 rfl (lv_room (Nat.le_of_ble_eq_true rfl)) dX5_being_52 ⟨Nat.zero_le _, Nat.zero_le _⟩) hS hP hD hFc [1, 2] [0] [0, 1, 2] rfl rfl (by decide) (by decide) (by decide) rfl (fun H locs hP hD hS => ?_)
          refine lv_istore (lv' := [(5, .int q5.1), (0, .ref aX), (1, .int l1), (2, .int l2), (3, .int l3), (4, .int l4)]) hx hb dX5_being_55 hl (by decide) rfl (fun ls hl => ?_)
          refine lv_iload hx hb dX5_being_57 (lv_at hl 0 rfl) ?_
          refine lv_iconst (v := -1) hx hb dX5_being_59 (by decide) ?_
          refine lv_icmp_ne (tgt := 68) hx hb dX5_being_60 (by decide) (fun c5 => ?_) (fun c5 => ?_)
          · have hf := sw_in c5 hf
            refine lv_iload hx hb dX5_being_68 (lv_at hl 0 rfl) ?_
            subst hQ hAe
            cases hf
            exact W.iret hx hb hr (fun t ht hW => ⟨⟨_, (), rfl, rfl, ⟨by rw [ht]; exact hP, va_K.moved hW.alike hK, hD⟩⟩, hS.F ht⟩) hS.2.2 dX5_being_70 hlocks
          · have hf := sw_ip c5 hf
            refine lv_bipush (v := -104) hx hb dX5_being_63 (by decide) ?_
            refine lv_goto (tgt := 70) hx hb dX5_being_65 (by decide) ?_
            subst hQ hAe
            cases hf
            exact W.iret hx hb hr (fun t ht hW => ⟨⟨_, (), rfl, rfl, ⟨by rw [ht]; exact hP, va_K.moved hW.alike hK, hD⟩⟩, hS.F ht⟩) hS.2.2 dX5_being_70 hlocks
        · have hf := sw_ip c4 hf
          refine lv_bipush (v := -102) hx hb dX5_being_40 (by decide) ?_
          subst hQ hAe
          cases hf
          exact W.iret hx hb hr (fun t ht hW => ⟨⟨_, (), rfl, rfl, ⟨by rw [ht]; exact hP, va_K.moved hW.alike hK, hD⟩⟩, hS.F ht⟩) hS.2.2 dX5_being_42 hlocks
abbrev rm_X5_about : Room := { frames := 3, cells := 0, slots := 0, locals := 68 }
set_option maxHeartbeats 1000000 in
set_option maxRecDepth 100000 in
theorem k_X5_about (l : Launch) (dC : Nat → ClassId) (dI : Nat → Nat → Nat) (cI cZ : ClassId) (t0 : Nat) (aX aC aN aR aL aP aT aK aC_traits aN_holders : Nat) (X_done : Int32) (X_keptNumber : Int32) (X_keptDone : Int32) (X_keptTotal : Int32) (C_total : Int32) (C_traits : Nat → Int32) (N_holders : Nat → Int32) (l1 : Int32) (l2 : Int32) (rv : Int32)  (hf : F_X5_about C_total C_traits N_holders l1 l2 = some (rv)) : Met l yX5_about wsX5_about rm_X5_about (sw_PR (dC, dI) t0 [(cI, .int), (cZ, .boolean)] [.ref aX, .int l1, .int l2] [(aX, .inr (5, [.ref aC, .ref aN, .ref aR, .ref aL, .ref aP, .ref aT, .int X_done, .ref aK, .int X_keptNumber, .int X_keptDone, .int X_keptTotal])), (aC, .inr (0, [.ref aC_traits, .int C_total])), (aC_traits, .inl (cI, 20, .inl C_traits)), (aN, .inr (1, [.ref aC, .ref aN_holders])), (aN_holders, .inl (cI, 5, .inl N_holders))]) (vp_Si (fun r => r = rv)) 0 0 (fun _ => False) := by
  refine sw_metR (cc := cX5_about) (maxL := 3) (ret := (some .int)) (lv := [(0, .ref aX), (1, .int l1), (2, .int l2)]) (by decide) rfl (Nat.le_of_ble_eq_true rfl) rfl ?_
  intro p e s m below meth c Q hQ hx hb hr hts hown hlocks hml hP hK hE hS ls hl
  have hown : s.vm.findClass RX5 = some m.cls := hown
  have hf := (F_X5_about.eq_1 _ _ _ _ _).symm.trans hf
  have hw1 := hts (.fieldLink RX5 12 "SwallowedInTurn" "crowd" "LSwallowedInTurn$Crowd;") (List.mem_of_getElem? (i := 1) (by decide +kernel))
  have iX5 : ∀ w ∈ u_ws RX5 TX5 11, w ∈ wsX5_about := by decide +kernel
  have hw2 := hts (.fieldLink RX5 21 "SwallowedInTurn" "now" "LSwallowedInTurn$Nesting;") (List.mem_of_getElem? (i := 2) (by decide +kernel))
  refine lv_aload_n hx hb dX5_about_0 rfl (lv_at hl 0 rfl) ?_
  refine va_get (D := (dC, dI)) (ci := 5) (v := .ref aC) (C := RX5) (T := TX5) (N := 11) hx hb hts iX5 hown hK hP 0 rfl rfl 0 (by decide) hw1 (fun _ h9 => h9) rfl dX5_about_1 ?_
  refine lv_iload_n hx hb dX5_about_4 rfl (lv_at hl 1 rfl) ?_
  obtain ⟨q1, hq1, hf⟩ := sw_bs hf
  have hPc := hP.sub (ws' := [(aC, .inr (0, [.ref aC_traits, .int C_total]))]) [1] rfl
  refine sw_rd (W.runV (As := [.int l1]) (rest := []) ⟨hx, hb, hml, hown, hts⟩ (k_X0_has l dC dI cI cZ t0 aC aC_traits C_total l1 q1 hq1) (cwV 1 hts gX5_about_X0_has rfl rfl rfl (by decide +kernel) ⟨Nat.le_of_ble_eq_true rfl, Nat.le_of_ble_eq_true rfl⟩) ⟨sw_PR_bl, va_recv hK hPc (ci := 0) (q0 := 0) rfl rfl, sw_PR_pre hK hPc hE hS⟩ rfl rfl hl.1 rfl (lv_room (Nat.le_of_ble_eq_true rfl)) dX5_about_5 ⟨Nat.zero_le _, Nat.zero_le _⟩) ?_
  refine lv_if_ne (tgt := 14) hx hb dX5_about_8 (by decide) (fun c1 => ?_) (fun c1 => ?_)
  · have hf := sw_in c1 hf
    refine lv_iload_n hx hb dX5_about_14 rfl (lv_at hl 2 rfl) ?_
    by_cases c2 : l2 = (0 : Int32)
    · have hf := sw_ip c2 hf
      refine lv_tableIn (off := 45) (tgt := 60) hx hb dX5_about_15 (by rw [c2]; decide) (by rw [c2]; decide) (by rw [c2]; rfl) (by decide) ?_
      refine lv_aload_n hx hb dX5_about_60 rfl (lv_at hl 0 rfl) ?_
      refine va_get (D := (dC, dI)) (ci := 5) (v := .ref aC) (C := RX5) (T := TX5) (N := 11) hx hb hts iX5 hown hK hP 0 rfl rfl 0 (by decide) hw1 (fun _ h9 => h9) rfl dX5_about_61 ?_
      refine lv_iload_n hx hb dX5_about_64 rfl (lv_at hl 1 rfl) ?_
      refine lv_iconst (v := 0) hx hb dX5_about_65 (by decide) ?_
      obtain ⟨q2, hq2, hf⟩ := sw_bs hf
      have hPc := hP.sub (ws' := [(aC, .inr (0, [.ref aC_traits, .int C_total])), (aC_traits, .inl (cI, 20, .inl C_traits))]) [1, 2] rfl
      refine sw_rd (W.runV (As := [.int l1, .int (0 : Int32)]) (rest := []) ⟨hx, hb, hml, hown, hts⟩ (k_X0_trait l dC dI cI cZ t0 aC aC_traits C_total C_traits l1 (0 : Int32) q2 hq2) (cwV 2 hts gX5_about_X0_trait rfl rfl rfl (by decide +kernel) ⟨Nat.le_of_ble_eq_true rfl, Nat.le_of_ble_eq_true rfl⟩) ⟨sw_PR_bl, va_recv hK hPc (ci := 0) (q0 := 0) rfl rfl, sw_PR_pre hK hPc hE hS⟩ rfl rfl hl.1 rfl (lv_room (Nat.le_of_ble_eq_true rfl)) dX5_about_66 ⟨Nat.zero_le _, Nat.zero_le _⟩) ?_
      subst hQ
      exact W.iret hx hb hr (fun t ht hW => ⟨_, rfl, Option.some.inj hf, ht⟩) (fun _ h => absurd h List.not_mem_nil) dX5_about_69 hlocks
    · have hf := sw_in c2 hf
      by_cases c3 : l2 = (1 : Int32)
      · have hf := sw_ip c3 hf
        refine lv_tableIn (off := 55) (tgt := 70) hx hb dX5_about_15 (by rw [c3]; decide) (by rw [c3]; decide) (by rw [c3]; rfl) (by decide) ?_
        refine lv_aload_n hx hb dX5_about_70 rfl (lv_at hl 0 rfl) ?_
        refine va_get (D := (dC, dI)) (ci := 5) (v := .ref aC) (C := RX5) (T := TX5) (N := 11) hx hb hts iX5 hown hK hP 0 rfl rfl 0 (by decide) hw1 (fun _ h9 => h9) rfl dX5_about_71 ?_
        refine lv_iload_n hx hb dX5_about_74 rfl (lv_at hl 1 rfl) ?_
        refine lv_iconst (v := 1) hx hb dX5_about_75 (by decide) ?_
        obtain ⟨q3, hq3, hf⟩ := sw_bs hf
        have hPc := hP.sub (ws' := [(aC, .inr (0, [.ref aC_traits, .int C_total])), (aC_traits, .inl (cI, 20, .inl C_traits))]) [1, 2] rfl
        refine sw_rd (W.runV (As := [.int l1, .int (1 : Int32)]) (rest := []) ⟨hx, hb, hml, hown, hts⟩ (k_X0_trait l dC dI cI cZ t0 aC aC_traits C_total C_traits l1 (1 : Int32) q3 hq3) (cwV 2 hts gX5_about_X0_trait rfl rfl rfl (by decide +kernel) ⟨Nat.le_of_ble_eq_true rfl, Nat.le_of_ble_eq_true rfl⟩) ⟨sw_PR_bl, va_recv hK hPc (ci := 0) (q0 := 0) rfl rfl, sw_PR_pre hK hPc hE hS⟩ rfl rfl hl.1 rfl (lv_room (Nat.le_of_ble_eq_true rfl)) dX5_about_76 ⟨Nat.zero_le _, Nat.zero_le _⟩) ?_
        subst hQ
        exact W.iret hx hb hr (fun t ht hW => ⟨_, rfl, Option.some.inj hf, ht⟩) (fun _ h => absurd h List.not_mem_nil) dX5_about_79 hlocks
      · have hf := sw_in c3 hf
        by_cases c4 : l2 = (2 : Int32)
        · have hf := sw_ip c4 hf
          refine lv_tableIn (off := 65) (tgt := 80) hx hb dX5_about_15 (by rw [c4]; decide) (by rw [c4]; decide) (by rw [c4]; rfl) (by decide) ?_
          refine lv_aload_n hx hb dX5_about_80 rfl (lv_at hl 0 rfl) ?_
          refine va_get (D := (dC, dI)) (ci := 5) (v := .ref aC) (C := RX5) (T := TX5) (N := 11) hx hb hts iX5 hown hK hP 0 rfl rfl 0 (by decide) hw1 (fun _ h9 => h9) rfl dX5_about_81 ?_
          refine lv_iload_n hx hb dX5_about_84 rfl (lv_at hl 1 rfl) ?_
          refine lv_iconst (v := 2) hx hb dX5_about_85 (by decide) ?_
          obtain ⟨q4, hq4, hf⟩ := sw_bs hf
          have hPc := hP.sub (ws' := [(aC, .inr (0, [.ref aC_traits, .int C_total])), (aC_traits, .inl (cI, 20, .inl C_traits))]) [1, 2] rfl
          refine sw_rd (W.runV (As := [.int l1, .int (2 : Int32)]) (rest := []) ⟨hx, hb, hml, hown, hts⟩ (k_X0_trait l dC dI cI cZ t0 aC aC_traits C_total C_traits l1 (2 : Int32) q4 hq4) (cwV 2 hts gX5_about_X0_trait rfl rfl rfl (by decide +kernel) ⟨Nat.le_of_ble_eq_true rfl, Nat.le_of_ble_eq_true rfl⟩) ⟨sw_PR_bl, va_recv hK hPc (ci := 0) (q0 := 0) rfl rfl, sw_PR_pre hK hPc hE hS⟩ rfl rfl hl.1 rfl (lv_room (Nat.le_of_ble_eq_true rfl)) dX5_about_86 ⟨Nat.zero_le _, Nat.zero_le _⟩) ?_
          subst hQ
          exact W.iret hx hb hr (fun t ht hW => ⟨_, rfl, Option.some.inj hf, ht⟩) (fun _ h => absurd h List.not_mem_nil) dX5_about_89 hlocks
        · have hf := sw_in c4 hf
          by_cases c5 : l2 = (3 : Int32)
          · have hf := sw_ip c5 hf
            refine lv_tableIn (off := 75) (tgt := 90) hx hb dX5_about_15 (by rw [c5]; decide) (by rw [c5]; decide) (by rw [c5]; rfl) (by decide) ?_
            refine lv_aload_n hx hb dX5_about_90 rfl (lv_at hl 0 rfl) ?_
            refine va_get (D := (dC, dI)) (ci := 5) (v := .ref aC) (C := RX5) (T := TX5) (N := 11) hx hb hts iX5 hown hK hP 0 rfl rfl 0 (by decide) hw1 (fun _ h9 => h9) rfl dX5_about_91 ?_
            refine lv_iload_n hx hb dX5_about_94 rfl (lv_at hl 1 rfl) ?_
            refine lv_iconst (v := 3) hx hb dX5_about_95 (by decide) ?_
            obtain ⟨q5, hq5, hf⟩ := sw_bs hf
            have hPc := hP.sub (ws' := [(aC, .inr (0, [.ref aC_traits, .int C_total])), (aC_traits, .inl (cI, 20, .inl C_traits))]) [1, 2] rfl
            refine sw_rd (W.runV (As := [.int l1, .int (3 : Int32)]) (rest := []) ⟨hx, hb, hml, hown, hts⟩ (k_X0_trait l dC dI cI cZ t0 aC aC_traits C_total C_traits l1 (3 : Int32) q5 hq5) (cwV 2 hts gX5_about_X0_trait rfl rfl rfl (by decide +kernel) ⟨Nat.le_of_ble_eq_true rfl, Nat.le_of_ble_eq_true rfl⟩) ⟨sw_PR_bl, va_recv hK hPc (ci := 0) (q0 := 0) rfl rfl, sw_PR_pre hK hPc hE hS⟩ rfl rfl hl.1 rfl (lv_room (Nat.le_of_ble_eq_true rfl)) dX5_about_96 ⟨Nat.zero_le _, Nat.zero_le _⟩) ?_
            subst hQ
            exact W.iret hx hb hr (fun t ht hW => ⟨_, rfl, Option.some.inj hf, ht⟩) (fun _ h => absurd h List.not_mem_nil) dX5_about_99 hlocks
          · have hf := sw_in c5 hf
            by_cases c6 : l2 = (4 : Int32)
            · have hf := sw_ip c6 hf
              refine lv_tableIn (off := 85) (tgt := 100) hx hb dX5_about_15 (by rw [c6]; decide) (by rw [c6]; decide) (by rw [c6]; rfl) (by decide) ?_
              refine lv_aload_n hx hb dX5_about_100 rfl (lv_at hl 0 rfl) ?_
              refine va_get (D := (dC, dI)) (ci := 5) (v := .ref aN) (C := RX5) (T := TX5) (N := 11) hx hb hts iX5 hown hK hP 0 rfl rfl 1 (by decide) hw2 (fun _ h9 => h9) rfl dX5_about_101 ?_
              refine lv_iload_n hx hb dX5_about_104 rfl (lv_at hl 1 rfl) ?_
              obtain ⟨q6, hq6, hf⟩ := sw_bs hf
              have hPc := hP.sub (ws' := [(aN, .inr (1, [.ref aC, .ref aN_holders])), (aN_holders, .inl (cI, 5, .inl N_holders))]) [3, 4] rfl
              refine sw_rd (W.runV (As := [.int l1]) (rest := []) ⟨hx, hb, hml, hown, hts⟩ (k_X1_holder l dC dI cI cZ t0 aN aC aN_holders N_holders l1 q6 hq6) (cwV 1 hts gX5_about_X1_holder rfl rfl rfl (by decide +kernel) ⟨Nat.le_of_ble_eq_true rfl, Nat.le_of_ble_eq_true rfl⟩) ⟨sw_PR_bl, va_recv hK hPc (ci := 1) (q0 := 0) rfl rfl, sw_PR_pre hK hPc hE hS⟩ rfl rfl hl.1 rfl (lv_room (Nat.le_of_ble_eq_true rfl)) dX5_about_105 ⟨Nat.zero_le _, Nat.zero_le _⟩) ?_
              subst hQ
              exact W.iret hx hb hr (fun t ht hW => ⟨_, rfl, Option.some.inj hf, ht⟩) (fun _ h => absurd h List.not_mem_nil) dX5_about_108 hlocks
            · have hf := sw_in c6 hf
              by_cases c7 : l2 = (5 : Int32)
              · have hf := sw_ip c7 hf
                refine lv_tableIn (off := 94) (tgt := 109) hx hb dX5_about_15 (by rw [c7]; decide) (by rw [c7]; decide) (by rw [c7]; rfl) (by decide) ?_
                refine lv_aload_n hx hb dX5_about_109 rfl (lv_at hl 0 rfl) ?_
                refine va_get (D := (dC, dI)) (ci := 5) (v := .ref aN) (C := RX5) (T := TX5) (N := 11) hx hb hts iX5 hown hK hP 0 rfl rfl 1 (by decide) hw2 (fun _ h9 => h9) rfl dX5_about_110 ?_
                refine lv_iload_n hx hb dX5_about_113 rfl (lv_at hl 1 rfl) ?_
                obtain ⟨q7, hq7, hf⟩ := sw_bs hf
                have hPc := hP.sub (ws' := [(aC, .inr (0, [.ref aC_traits, .int C_total])), (aC_traits, .inl (cI, 20, .inl C_traits)), (aN, .inr (1, [.ref aC, .ref aN_holders])), (aN_holders, .inl (cI, 5, .inl N_holders))]) [1, 2, 3, 4] rfl
                refine sw_rd (W.runV (As := [.int l1]) (rest := []) ⟨hx, hb, hml, hown, hts⟩ (k_X1_filled l dC dI cI cZ t0 aC aC_traits aN aN_holders C_total C_traits N_holders l1 q7 hq7) (cwV 1 hts gX5_about_X1_filled rfl rfl rfl (by decide +kernel) ⟨Nat.le_of_ble_eq_true rfl, Nat.le_of_ble_eq_true rfl⟩) ⟨sw_PR_bl, va_recv hK hPc (ci := 1) (q0 := 2) rfl rfl, sw_PR_pre hK hPc hE hS⟩ rfl rfl hl.1 rfl (lv_room (Nat.le_of_ble_eq_true rfl)) dX5_about_114 ⟨Nat.zero_le _, Nat.zero_le _⟩) ?_
                subst hQ
                exact W.iret hx hb hr (fun t ht hW => ⟨_, rfl, Option.some.inj hf, ht⟩) (fun _ h => absurd h List.not_mem_nil) dX5_about_117 hlocks
              · have hf := sw_in c7 hf
                by_cases c8 : l2 = (6 : Int32)
                · have hf := sw_ip c8 hf
                  refine lv_tableIn (off := 103) (tgt := 118) hx hb dX5_about_15 (by rw [c8]; decide) (by rw [c8]; decide) (by rw [c8]; rfl) (by decide) ?_
                  refine lv_aload_n hx hb dX5_about_118 rfl (lv_at hl 0 rfl) ?_
                  refine va_get (D := (dC, dI)) (ci := 5) (v := .ref aN) (C := RX5) (T := TX5) (N := 11) hx hb hts iX5 hown hK hP 0 rfl rfl 1 (by decide) hw2 (fun _ h9 => h9) rfl dX5_about_119 ?_
                  refine lv_iload_n hx hb dX5_about_122 rfl (lv_at hl 1 rfl) ?_
                  obtain ⟨q8, hq8, hf⟩ := sw_bs hf
                  have hPc := hP.sub (ws' := [(aN, .inr (1, [.ref aC, .ref aN_holders])), (aN_holders, .inl (cI, 5, .inl N_holders))]) [3, 4] rfl
                  refine sw_rd (W.runV (As := [.int l1]) (rest := []) ⟨hx, hb, hml, hown, hts⟩ (k_X1_walls l dC dI cI cZ t0 aN aC aN_holders N_holders l1 q8 hq8) (cwV 1 hts gX5_about_X1_walls rfl rfl rfl (by decide +kernel) ⟨Nat.le_of_ble_eq_true rfl, Nat.le_of_ble_eq_true rfl⟩) ⟨sw_PR_bl, va_recv hK hPc (ci := 1) (q0 := 0) rfl rfl, sw_PR_pre hK hPc hE hS⟩ rfl rfl hl.1 rfl (lv_room (Nat.le_of_ble_eq_true rfl)) dX5_about_123 ⟨Nat.zero_le _, Nat.zero_le _⟩) ?_
                  subst hQ
                  exact W.iret hx hb hr (fun t ht hW => ⟨_, rfl, Option.some.inj hf, ht⟩) (fun _ h => absurd h List.not_mem_nil) dX5_about_126 hlocks
                · have hf := sw_in c8 hf
                  by_cases c9 : l2 = (7 : Int32)
                  · have hf := sw_ip c9 hf
                    refine lv_tableIn (off := 112) (tgt := 127) hx hb dX5_about_15 (by rw [c9]; decide) (by rw [c9]; decide) (by rw [c9]; rfl) (by decide) ?_
                    refine lv_aload_n hx hb dX5_about_127 rfl (lv_at hl 0 rfl) ?_
                    refine va_get (D := (dC, dI)) (ci := 5) (v := .ref aN) (C := RX5) (T := TX5) (N := 11) hx hb hts iX5 hown hK hP 0 rfl rfl 1 (by decide) hw2 (fun _ h9 => h9) rfl dX5_about_128 ?_
                    refine lv_iload_n hx hb dX5_about_131 rfl (lv_at hl 1 rfl) ?_
                    obtain ⟨q9, hq9, hf⟩ := sw_bs hf
                    have hPc := hP.sub (ws' := [(aC, .inr (0, [.ref aC_traits, .int C_total])), (aN, .inr (1, [.ref aC, .ref aN_holders])), (aN_holders, .inl (cI, 5, .inl N_holders))]) [1, 3, 4] rfl
                    refine sw_rd (W.runV (As := [.int l1]) (rest := []) ⟨hx, hb, hml, hown, hts⟩ (k_X1_heardBy l dC dI cI cZ t0 aC aC_traits aN aN_holders C_total N_holders l1 q9 hq9) (cwV 1 hts gX5_about_X1_heardBy rfl rfl rfl (by decide +kernel) ⟨Nat.le_of_ble_eq_true rfl, Nat.le_of_ble_eq_true rfl⟩) ⟨sw_PR_bl, va_recv hK hPc (ci := 1) (q0 := 1) rfl rfl, sw_PR_pre hK hPc hE hS⟩ rfl rfl hl.1 rfl (lv_room (Nat.le_of_ble_eq_true rfl)) dX5_about_132 ⟨Nat.zero_le _, Nat.zero_le _⟩) ?_
                    subst hQ
                    exact W.iret hx hb hr (fun t ht hW => ⟨_, rfl, Option.some.inj hf, ht⟩) (fun _ h => absurd h List.not_mem_nil) dX5_about_135 hlocks
                  · have hf := sw_in c9 hf
                    have tc2 := lv_neT c2 (show (0 : Int32).toInt = 0 by decide)
                    have tc3 := lv_neT c3 (show (1 : Int32).toInt = 1 by decide)
                    have tc4 := lv_neT c4 (show (2 : Int32).toInt = 2 by decide)
                    have tc5 := lv_neT c5 (show (3 : Int32).toInt = 3 by decide)
                    have tc6 := lv_neT c6 (show (4 : Int32).toInt = 4 by decide)
                    have tc7 := lv_neT c7 (show (5 : Int32).toInt = 5 by decide)
                    have tc8 := lv_neT c8 (show (6 : Int32).toInt = 6 by decide)
                    have tc9 := lv_neT c9 (show (7 : Int32).toInt = 7 by decide)
                    refine lv_tableOut (tgt := 136) hx hb dX5_about_15 (by omega) (by decide) ?_
                    refine lv_bipush (v := -102) hx hb dX5_about_136 (by decide) ?_
                    subst hQ
                    exact W.iret hx hb hr (fun t ht hW => ⟨_, rfl, Option.some.inj hf, ht⟩) (fun _ h => absurd h List.not_mem_nil) dX5_about_138 hlocks
  · have hf := sw_ip c1 hf
    refine lv_bipush (v := -101) hx hb dX5_about_11 (by decide) ?_
    subst hQ
    exact W.iret hx hb hr (fun t ht hW => ⟨_, rfl, Option.some.inj hf, ht⟩) (fun _ h => absurd h List.not_mem_nil) dX5_about_13 hlocks
abbrev rm_X5_as : Room := { frames := 2, cells := 0, slots := 0, locals := 46 }
set_option maxHeartbeats 1000000 in
set_option maxRecDepth 100000 in
theorem k_X5_as (l : Launch) (dC : Nat → ClassId) (dI : Nat → Nat → Nat) (cI cZ : ClassId) (t0 : Nat) (aX aC aN aR aL aP aT aK aC_traits : Nat) (X_done : Int32) (X_keptNumber : Int32) (X_keptDone : Int32) (X_keptTotal : Int32) (C_total : Int32) (C_traits : Nat → Int32) (l1 : Int32) (l2 : Int32) (rv : Int32)  (hf : F_X5_as C_total C_traits l1 l2 = some (rv)) : Met l yX5_as wsX5_as rm_X5_as (sw_PR (dC, dI) t0 [(cI, .int), (cZ, .boolean)] [.ref aX, .int l1, .int l2] [(aX, .inr (5, [.ref aC, .ref aN, .ref aR, .ref aL, .ref aP, .ref aT, .int X_done, .ref aK, .int X_keptNumber, .int X_keptDone, .int X_keptTotal])), (aC, .inr (0, [.ref aC_traits, .int C_total])), (aC_traits, .inl (cI, 20, .inl C_traits))]) (vp_Si (fun r => r = rv)) 0 0 (fun _ => False) := by
  refine sw_metR (cc := cX5_as) (maxL := 3) (ret := (some .int)) (lv := [(0, .ref aX), (1, .int l1), (2, .int l2)]) (by decide) rfl (Nat.le_of_ble_eq_true rfl) rfl ?_
  intro p e s m below meth c Q hQ hx hb hr hts hown hlocks hml hP hK hE hS ls hl
  have hown : s.vm.findClass RX5 = some m.cls := hown
  have hf := (F_X5_as.eq_1 _ _ _ _).symm.trans hf
  have hw1 := hts (.fieldLink RX5 12 "SwallowedInTurn" "crowd" "LSwallowedInTurn$Crowd;") (List.mem_of_getElem? (i := 1) (by decide +kernel))
  have iX5 : ∀ w ∈ u_ws RX5 TX5 11, w ∈ wsX5_as := by decide +kernel
  refine lv_aload_n hx hb dX5_as_0 rfl (lv_at hl 0 rfl) ?_
  refine va_get (D := (dC, dI)) (ci := 5) (v := .ref aC) (C := RX5) (T := TX5) (N := 11) hx hb hts iX5 hown hK hP 0 rfl rfl 0 (by decide) hw1 (fun _ h9 => h9) rfl dX5_as_1 ?_
  refine lv_iload_n hx hb dX5_as_4 rfl (lv_at hl 1 rfl) ?_
  obtain ⟨q1, hq1, hf⟩ := sw_bs hf
  have hPc := hP.sub (ws' := [(aC, .inr (0, [.ref aC_traits, .int C_total]))]) [1] rfl
  refine sw_rd (W.runV (As := [.int l1]) (rest := []) ⟨hx, hb, hml, hown, hts⟩ (k_X0_has l dC dI cI cZ t0 aC aC_traits C_total l1 q1 hq1) (cwV 1 hts gX5_as_X0_has rfl rfl rfl (by decide +kernel) ⟨Nat.le_of_ble_eq_true rfl, Nat.le_of_ble_eq_true rfl⟩) ⟨sw_PR_bl, va_recv hK hPc (ci := 0) (q0 := 0) rfl rfl, sw_PR_pre hK hPc hE hS⟩ rfl rfl hl.1 rfl (lv_room (Nat.le_of_ble_eq_true rfl)) dX5_as_5 ⟨Nat.zero_le _, Nat.zero_le _⟩) ?_
  refine lv_if_ne (tgt := 14) hx hb dX5_as_8 (by decide) (fun c1 => ?_) (fun c1 => ?_)
  · have hf := sw_in c1 hf
    refine lv_iload_n hx hb dX5_as_14 rfl (lv_at hl 2 rfl) ?_
    refine lv_iconst (v := 0) hx hb dX5_as_15 (by decide) ?_
    refine lv_iconst (v := 4) hx hb dX5_as_16 (by decide) ?_
    obtain ⟨q2, hq2, hf⟩ := sw_bs hf
    have hPc := hP.sub (ws' := []) [] rfl
    refine sw_rd (W.runS (As := [.int l2, .int (0 : Int32), .int (4 : Int32)]) (rest := []) ⟨hx, hb, hml, hown, hts⟩ (k_X5_isBetween l dC dI cI cZ t0 l2 (0 : Int32) (4 : Int32) q2 hq2) (va_cwS 3 hts gX5_as_X5_isBetween rfl rfl rfl (by decide +kernel) ⟨Nat.le_of_ble_eq_true rfl, Nat.le_of_ble_eq_true rfl⟩) ⟨sw_PR_bl, sw_PR_pre hK hPc hE hS⟩ rfl rfl hl.1 rfl (lv_room (Nat.le_of_ble_eq_true rfl)) dX5_as_17 ⟨Nat.zero_le _, Nat.zero_le _⟩) ?_
    refine lv_if_ne (tgt := 26) hx hb dX5_as_20 (by decide) (fun c2 => ?_) (fun c2 => ?_)
    · have hf := sw_in c2 hf
      refine lv_aload_n hx hb dX5_as_26 rfl (lv_at hl 0 rfl) ?_
      refine va_get (D := (dC, dI)) (ci := 5) (v := .ref aC) (C := RX5) (T := TX5) (N := 11) hx hb hts iX5 hown hK hP 0 rfl rfl 0 (by decide) hw1 (fun _ h9 => h9) rfl dX5_as_27 ?_
      refine lv_iload_n hx hb dX5_as_30 rfl (lv_at hl 1 rfl) ?_
      refine lv_iload_n hx hb dX5_as_31 rfl (lv_at hl 2 rfl) ?_
      obtain ⟨q3, hq3, hf⟩ := sw_bs hf
      have hPc := hP.sub (ws' := [(aC, .inr (0, [.ref aC_traits, .int C_total])), (aC_traits, .inl (cI, 20, .inl C_traits))]) [1, 2] rfl
      refine sw_rd (W.runV (As := [.int l1, .int l2]) (rest := []) ⟨hx, hb, hml, hown, hts⟩ (k_X0_isOf l dC dI cI cZ t0 aC aC_traits C_total C_traits l1 l2 q3 hq3) (cwV 2 hts gX5_as_X0_isOf rfl rfl rfl (by decide +kernel) ⟨Nat.le_of_ble_eq_true rfl, Nat.le_of_ble_eq_true rfl⟩) ⟨sw_PR_bl, va_recv hK hPc (ci := 0) (q0 := 0) rfl rfl, sw_PR_pre hK hPc hE hS⟩ rfl rfl hl.1 rfl (lv_room (Nat.le_of_ble_eq_true rfl)) dX5_as_32 ⟨Nat.zero_le _, Nat.zero_le _⟩) ?_
      refine lv_if_eq (tgt := 42) hx hb dX5_as_35 (by decide) (fun c3 => ?_) (fun c3 => ?_)
      · have hf := sw_ip c3 hf
        refine lv_iconst (v := -1) hx hb dX5_as_42 (by decide) ?_
        subst hQ
        exact W.iret hx hb hr (fun t ht hW => ⟨_, rfl, Option.some.inj hf, ht⟩) (fun _ h => absurd h List.not_mem_nil) dX5_as_43 hlocks
      · have hf := sw_in c3 hf
        refine lv_iload_n hx hb dX5_as_38 rfl (lv_at hl 1 rfl) ?_
        refine lv_goto (tgt := 43) hx hb dX5_as_39 (by decide) ?_
        subst hQ
        exact W.iret hx hb hr (fun t ht hW => ⟨_, rfl, Option.some.inj hf, ht⟩) (fun _ h => absurd h List.not_mem_nil) dX5_as_43 hlocks
    · have hf := sw_ip c2 hf
      refine lv_bipush (v := -102) hx hb dX5_as_23 (by decide) ?_
      subst hQ
      exact W.iret hx hb hr (fun t ht hW => ⟨_, rfl, Option.some.inj hf, ht⟩) (fun _ h => absurd h List.not_mem_nil) dX5_as_25 hlocks
  · have hf := sw_ip c1 hf
    refine lv_bipush (v := -101) hx hb dX5_as_11 (by decide) ?_
    subst hQ
    exact W.iret hx hb hr (fun t ht hW => ⟨_, rfl, Option.some.inj hf, ht⟩) (fun _ h => absurd h List.not_mem_nil) dX5_as_13 hlocks
abbrev rm_X5_may : Room := { frames := 4, cells := 0, slots := 0, locals := 95 }
set_option maxHeartbeats 1000000 in
set_option maxRecDepth 100000 in
theorem k_X5_may (l : Launch) (dC : Nat → ClassId) (dI : Nat → Nat → Nat) (cI cZ : ClassId) (t0 : Nat) (aX aC aN aR aL aP aT aK aC_traits aN_holders : Nat) (X_done : Int32) (X_keptNumber : Int32) (X_keptDone : Int32) (X_keptTotal : Int32) (C_total : Int32) (C_traits : Nat → Int32) (N_holders : Nat → Int32) (l1 : Int32) (rv : Int32)  (hf : F_X5_may C_total C_traits N_holders l1 = some (rv)) : Met l yX5_may wsX5_may rm_X5_may (sw_PR (dC, dI) t0 [(cI, .int), (cZ, .boolean)] [.ref aX, .int l1] [(aX, .inr (5, [.ref aC, .ref aN, .ref aR, .ref aL, .ref aP, .ref aT, .int X_done, .ref aK, .int X_keptNumber, .int X_keptDone, .int X_keptTotal])), (aC, .inr (0, [.ref aC_traits, .int C_total])), (aC_traits, .inl (cI, 20, .inl C_traits)), (aN, .inr (1, [.ref aC, .ref aN_holders])), (aN_holders, .inl (cI, 5, .inl N_holders))]) (vp_Si (fun r => r = rv)) 0 0 (fun _ => False) := by
  refine sw_metR (cc := cX5_may) (maxL := 2) (ret := (some .int)) (lv := [(0, .ref aX), (1, .int l1)]) (by decide) rfl (Nat.le_of_ble_eq_true rfl) rfl ?_
  intro p e s m below meth c Q hQ hx hb hr hts hown hlocks hml hP hK hE hS ls hl
  have hown : s.vm.findClass RX5 = some m.cls := hown
  have hf := (F_X5_may.eq_1 _ _ _ _).symm.trans hf
  have hw1 := hts (.fieldLink RX5 12 "SwallowedInTurn" "crowd" "LSwallowedInTurn$Crowd;") (List.mem_of_getElem? (i := 1) (by decide +kernel))
  have iX5 : ∀ w ∈ u_ws RX5 TX5 11, w ∈ wsX5_may := by decide +kernel
  have hw2 := hts (.fieldLink RX5 21 "SwallowedInTurn" "now" "LSwallowedInTurn$Nesting;") (List.mem_of_getElem? (i := 2) (by decide +kernel))
  refine lv_aload_n hx hb dX5_may_0 rfl (lv_at hl 0 rfl) ?_
  refine va_get (D := (dC, dI)) (ci := 5) (v := .ref aC) (C := RX5) (T := TX5) (N := 11) hx hb hts iX5 hown hK hP 0 rfl rfl 0 (by decide) hw1 (fun _ h9 => h9) rfl dX5_may_1 ?_
  refine lv_iload_n hx hb dX5_may_4 rfl (lv_at hl 1 rfl) ?_
  obtain ⟨q1, hq1, hf⟩ := sw_bs hf
  have hPc := hP.sub (ws' := [(aC, .inr (0, [.ref aC_traits, .int C_total]))]) [1] rfl
  refine sw_rd (W.runV (As := [.int l1]) (rest := []) ⟨hx, hb, hml, hown, hts⟩ (k_X0_knows l dC dI cI cZ t0 aC aC_traits C_total l1 q1 hq1) (cwV 1 hts gX5_may_X0_knows rfl rfl rfl (by decide +kernel) ⟨Nat.le_of_ble_eq_true rfl, Nat.le_of_ble_eq_true rfl⟩) ⟨sw_PR_bl, va_recv hK hPc (ci := 0) (q0 := 0) rfl rfl, sw_PR_pre hK hPc hE hS⟩ rfl rfl hl.1 rfl (lv_room (Nat.le_of_ble_eq_true rfl)) dX5_may_5 ⟨Nat.zero_le _, Nat.zero_le _⟩) ?_
  refine lv_if_ne (tgt := 14) hx hb dX5_may_8 (by decide) (fun c1 => ?_) (fun c1 => ?_)
  · have hf := sw_in c1 hf
    refine lv_aload_n hx hb dX5_may_14 rfl (lv_at hl 0 rfl) ?_
    refine va_get (D := (dC, dI)) (ci := 5) (v := .ref aN) (C := RX5) (T := TX5) (N := 11) hx hb hts iX5 hown hK hP 0 rfl rfl 1 (by decide) hw2 (fun _ h9 => h9) rfl dX5_may_15 ?_
    refine lv_iload_n hx hb dX5_may_18 rfl (lv_at hl 1 rfl) ?_
    obtain ⟨q2, hq2, hf⟩ := sw_bs hf
    have hPc := hP.sub (ws' := [(aC, .inr (0, [.ref aC_traits, .int C_total])), (aC_traits, .inl (cI, 20, .inl C_traits)), (aN, .inr (1, [.ref aC, .ref aN_holders])), (aN_holders, .inl (cI, 5, .inl N_holders))]) [1, 2, 3, 4] rfl
    refine sw_rd (W.runV (As := [.int l1]) (rest := []) ⟨hx, hb, hml, hown, hts⟩ (k_X1_allows l dC dI cI cZ t0 aC aC_traits aN aN_holders C_total C_traits N_holders l1 q2 hq2) (cwV 1 hts gX5_may_X1_allows rfl rfl rfl (by decide +kernel) ⟨Nat.le_of_ble_eq_true rfl, Nat.le_of_ble_eq_true rfl⟩) ⟨sw_PR_bl, va_recv hK hPc (ci := 1) (q0 := 2) rfl rfl, sw_PR_pre hK hPc hE hS⟩ rfl rfl hl.1 rfl (lv_room (Nat.le_of_ble_eq_true rfl)) dX5_may_19 ⟨Nat.zero_le _, Nat.zero_le _⟩) ?_
    refine lv_if_eq (tgt := 29) hx hb dX5_may_22 (by decide) (fun c2 => ?_) (fun c2 => ?_)
    · have hf := sw_ip c2 hf
      refine lv_iconst (v := 0) hx hb dX5_may_29 (by decide) ?_
      subst hQ
      exact W.iret hx hb hr (fun t ht hW => ⟨_, rfl, Option.some.inj hf, ht⟩) (fun _ h => absurd h List.not_mem_nil) dX5_may_30 hlocks
    · have hf := sw_in c2 hf
      refine lv_iconst (v := 1) hx hb dX5_may_25 (by decide) ?_
      refine lv_goto (tgt := 30) hx hb dX5_may_26 (by decide) ?_
      subst hQ
      exact W.iret hx hb hr (fun t ht hW => ⟨_, rfl, Option.some.inj hf, ht⟩) (fun _ h => absurd h List.not_mem_nil) dX5_may_30 hlocks
  · have hf := sw_ip c1 hf
    refine lv_bipush (v := -101) hx hb dX5_may_11 (by decide) ?_
    subst hQ
    exact W.iret hx hb hr (fun t ht hW => ⟨_, rfl, Option.some.inj hf, ht⟩) (fun _ h => absurd h List.not_mem_nil) dX5_may_13 hlocks
abbrev rm_X5_deed : Room := { frames := 4, cells := 0, slots := 0, locals := 97 }
set_option maxHeartbeats 1000000 in
set_option maxRecDepth 100000 in
theorem k_X5_deed (l : Launch) (dC : Nat → ClassId) (dI : Nat → Nat → Nat) (cI cZ : ClassId) (t0 : Nat) (sz : Nat) (aX aC aN aR aL aP aT aK aC_traits aN_holders : Nat) (X_done : Int32) (X_keptNumber : Int32) (X_keptDone : Int32) (X_keptTotal : Int32) (C_total : Int32) (C_traits : Nat → Int32) (N_holders : Nat → Int32) (l1 : Int32) (rv : Int32) (X_done' : Int32) (N_holders' : Nat → Int32) (hf : F_X5_deed X_done C_total C_traits N_holders l1 = some (rv, X_done', N_holders')) : Met l yX5_deed wsX5_deed rm_X5_deed (sw_PW (dC, dI) t0 [(cI, .int), (cZ, .boolean)] [.ref aX, .int l1] [(aX, .inr (5, [.ref aC, .ref aN, .ref aR, .ref aL, .ref aP, .ref aT, .int X_done, .ref aK, .int X_keptNumber, .int X_keptDone, .int X_keptTotal])), (aC, .inr (0, [.ref aC_traits, .int C_total])), (aC_traits, .inl (cI, 20, .inl C_traits)), (aN, .inr (1, [.ref aC, .ref aN_holders])), (aN_holders, .inl (cI, 5, .inl N_holders))] sz) (va_Qi (fun r (_ : Unit) => r = rv) (fun _ t => sw_B (dC, dI) [(cI, .int), (cZ, .boolean)] [(aX, .inr (5, [.ref aC, .ref aN, .ref aR, .ref aL, .ref aP, .ref aT, .int X_done', .ref aK, .int X_keptNumber, .int X_keptDone, .int X_keptTotal])), (aC, .inr (0, [.ref aC_traits, .int C_total])), (aC_traits, .inl (cI, 20, .inl C_traits)), (aN, .inr (1, [.ref aC, .ref aN_holders])), (aN_holders, .inl (cI, 5, .inl N_holders'))] (va_A [(aX, .inr (5, [.ref aC, .ref aN, .ref aR, .ref aL, .ref aP, .ref aT, .int X_done, .ref aK, .int X_keptNumber, .int X_keptDone, .int X_keptTotal])), (aC, .inr (0, [.ref aC_traits, .int C_total])), (aC_traits, .inl (cI, 20, .inl C_traits)), (aN, .inr (1, [.ref aC, .ref aN_holders])), (aN_holders, .inl (cI, 5, .inl N_holders))] sz) t) (va_A [(aX, .inr (5, [.ref aC, .ref aN, .ref aR, .ref aL, .ref aP, .ref aT, .int X_done, .ref aK, .int X_keptNumber, .int X_keptDone, .int X_keptTotal])), (aC, .inr (0, [.ref aC_traits, .int C_total])), (aC_traits, .inl (cI, 20, .inl C_traits)), (aN, .inr (1, [.ref aC, .ref aN_holders])), (aN_holders, .inl (cI, 5, .inl N_holders))] sz)) 0 0 (va_A [(aX, .inr (5, [.ref aC, .ref aN, .ref aR, .ref aL, .ref aP, .ref aT, .int X_done, .ref aK, .int X_keptNumber, .int X_keptDone, .int X_keptTotal])), (aC, .inr (0, [.ref aC_traits, .int C_total])), (aC_traits, .inl (cI, 20, .inl C_traits)), (aN, .inr (1, [.ref aC, .ref aN_holders])), (aN_holders, .inl (cI, 5, .inl N_holders))] sz) := by
  refine sw_metW (cc := cX5_deed) (maxL := 2) (ret := (some .int)) (lv := [(0, .ref aX), (1, .int l1)]) (by decide) rfl (Nat.le_of_ble_eq_true rfl) rfl ?_
  intro p e s m below meth c Q A hsz hAe hQ hx hb hr hts hown hlocks hml hmn hP hK hD hE hS hA ls hl
  have hS0 := hS
  have hown : s.vm.findClass RX5 = some m.cls := hown
  have hf := (F_X5_deed.eq_1 _ _ _ _ _).symm.trans hf
  have hw1 := hts (.fieldLink RX5 12 "SwallowedInTurn" "crowd" "LSwallowedInTurn$Crowd;") (List.mem_of_getElem? (i := 1) (by decide +kernel))
  have iX5 : ∀ w ∈ u_ws RX5 TX5 11, w ∈ wsX5_deed := by decide +kernel
  have hw2 := hts (.fieldLink RX5 21 "SwallowedInTurn" "now" "LSwallowedInTurn$Nesting;") (List.mem_of_getElem? (i := 2) (by decide +kernel))
  have hw3 := hts (.fieldLink RX5 126 "SwallowedInTurn" "done" "I") (List.mem_of_getElem? (i := 3) (by decide +kernel))
  obtain ⟨H, hH⟩ : ∃ H, H = s.heap := ⟨_, rfl⟩
  obtain ⟨locs, hlo⟩ : ∃ locs : List Loc, locs = [] := ⟨_, rfl⟩
  rw [← hH] at hP
  have hS : va_S A s.heap H locs := by rw [hH, hlo]; exact hS0
  suffices hgo : W p l e rm_X5_deed s m ([.ref aX, .int l1] : List Value).toArray below meth c H locs 0 0 Q (F0 m 0 ls []) by rw [hH, hlo] at hgo; exact hgo
  refine lv_aload_n hx hb dX5_deed_0 rfl (lv_at hl 0 rfl) ?_
  refine va_get (D := (dC, dI)) (ci := 5) (v := .ref aC) (C := RX5) (T := TX5) (N := 11) hx hb hts iX5 hown hK hP 0 rfl rfl 0 (by decide) hw1 (fun _ h9 => h9) rfl dX5_deed_1 ?_
  refine lv_iload_n hx hb dX5_deed_4 rfl (lv_at hl 1 rfl) ?_
  obtain ⟨q1, hq1, hf⟩ := sw_bs hf
  have hPc := hP.sub (ws' := [(aC, .inr (0, [.ref aC_traits, .int C_total]))]) [1] rfl
  refine sw_rd (W.runV (As := [.int l1]) (rest := []) ⟨hx, hb, hml, hown, hts⟩ (k_X0_knows l dC dI cI cZ t0 aC aC_traits C_total l1 q1 hq1) (cwV 1 hts gX5_deed_X0_knows rfl rfl rfl (by decide +kernel) ⟨Nat.le_of_ble_eq_true rfl, Nat.le_of_ble_eq_true rfl⟩) ⟨sw_PR_bl, va_recv hK hPc (ci := 0) (q0 := 0) rfl rfl, sw_PR_pre hK hPc hE hS⟩ rfl rfl hl.1 rfl (lv_room (Nat.le_of_ble_eq_true rfl)) dX5_deed_5 ⟨Nat.zero_le _, Nat.zero_le _⟩) ?_
  refine lv_if_ne (tgt := 14) hx hb dX5_deed_8 (by decide) (fun c1 => ?_) (fun c1 => ?_)
  · have hf := sw_in c1 hf
    refine lv_aload_n hx hb dX5_deed_14 rfl (lv_at hl 0 rfl) ?_
    refine va_get (D := (dC, dI)) (ci := 5) (v := .ref aN) (C := RX5) (T := TX5) (N := 11) hx hb hts iX5 hown hK hP 0 rfl rfl 1 (by decide) hw2 (fun _ h9 => h9) rfl dX5_deed_15 ?_
    refine lv_iload_n hx hb dX5_deed_18 rfl (lv_at hl 1 rfl) ?_
    obtain ⟨q2, hq2, hf⟩ := sw_bs hf
    have hPc := hP.sub (ws' := [(aC, .inr (0, [.ref aC_traits, .int C_total])), (aC_traits, .inl (cI, 20, .inl C_traits)), (aN, .inr (1, [.ref aC, .ref aN_holders])), (aN_holders, .inl (cI, 5, .inl N_holders))]) [1, 2, 3, 4] rfl
    refine sw_rd (W.runV (As := [.int l1]) (rest := []) ⟨hx, hb, hml, hown, hts⟩ (k_X1_allows l dC dI cI cZ t0 aC aC_traits aN aN_holders C_total C_traits N_holders l1 q2 hq2) (cwV 1 hts gX5_deed_X1_allows rfl rfl rfl (by decide +kernel) ⟨Nat.le_of_ble_eq_true rfl, Nat.le_of_ble_eq_true rfl⟩) ⟨sw_PR_bl, va_recv hK hPc (ci := 1) (q0 := 2) rfl rfl, sw_PR_pre hK hPc hE hS⟩ rfl rfl hl.1 rfl (lv_room (Nat.le_of_ble_eq_true rfl)) dX5_deed_19 ⟨Nat.zero_le _, Nat.zero_le _⟩) ?_
    refine lv_if_ne (tgt := 28) hx hb dX5_deed_22 (by decide) (fun c2 => ?_) (fun c2 => ?_)
    · have hf := sw_in c2 hf
      refine lv_aload_n hx hb dX5_deed_28 rfl (lv_at hl 0 rfl) ?_
      refine va_get (D := (dC, dI)) (ci := 5) (v := .ref aN) (C := RX5) (T := TX5) (N := 11) hx hb hts iX5 hown hK hP 0 rfl rfl 1 (by decide) hw2 (fun _ h9 => h9) rfl dX5_deed_29 ?_
      refine lv_iload_n hx hb dX5_deed_32 rfl (lv_at hl 1 rfl) ?_
      obtain ⟨q3, hq3, hf⟩ := sw_bs hf
      have hPc := hP.sub (ws' := [(aC, .inr (0, [.ref aC_traits, .int C_total])), (aC_traits, .inl (cI, 20, .inl C_traits)), (aN, .inr (1, [.ref aC, .ref aN_holders])), (aN_holders, .inl (cI, 5, .inl N_holders))]) [1, 2, 3, 4] rfl
      have hDc := hD.sub (ws' := [(aC, .inr (0, [.ref aC_traits, .int C_total])), (aC_traits, .inl (cI, 20, .inl C_traits)), (aN, .inr (1, [.ref aC, .ref aN_holders])), (aN_holders, .inl (cI, 5, .inl N_holders))]) [1, 2, 3, 4] (by decide) rfl
      have hFc := va_free (wc := [(aC, .inr (0, [.ref aC_traits, .int C_total])), (aC_traits, .inl (cI, 20, .inl C_traits)), (aN, .inr (1, [.ref aC, .ref aN_holders])), (aN_holders, .inl (cI, 5, .inl N_holders))]) hD hS hA [1, 2, 3, 4] rfl
      refine sw_wv (wn := [(aX, .inr (5, [.ref aC, .ref aN, .ref aR, .ref aL, .ref aP, .ref aT, .int X_done, .ref aK, .int X_keptNumber, .int X_keptDone, .int X_keptTotal])), (aC, .inr (0, [.ref aC_traits, .int C_total])), (aC_traits, .inl (cI, 20, .inl C_traits)), (aN, .inr (1, [.ref aC, .ref aN_holders])), (aN_holders, .inl (cI, 5, .inl q3))]) (w1 := [(aC, .inr (0, [.ref aC_traits, .int C_total])), (aC_traits, .inl (cI, 20, .inl C_traits)), (aN, .inr (1, [.ref aC, .ref aN_holders])), (aN_holders, .inl (cI, 5, .inl q3))]) (wr := [(aX, .inr (5, [.ref aC, .ref aN, .ref aR, .ref aL, .ref aP, .ref aT, .int X_done, .ref aK, .int X_keptNumber, .int X_keptDone, .int X_keptTotal]))]) (va_runV (As := [.int l1]) (rest := []) ⟨hx, hb, hml, hown, hts⟩ (k_X1_carryOut l dC dI cI cZ t0 H.size aC aC_traits aN aN_holders C_total C_traits N_holders l1 q3 hq3) (cwV 1 hts gX5_deed_X1_carryOut rfl rfl rfl (by decide +kernel) ⟨Nat.le_of_ble_eq_true rfl, Nat.le_of_ble_eq_true rfl⟩) ⟨sw_PW_bl, va_recv hK hPc (ci := 1) (q0 := 2) rfl rfl, sw_PW_pre hK hPc hDc hE hS hFc⟩ rfl rfl hl.1 rfl (lv_room (Nat.le_of_ble_eq_true rfl)) dX5_deed_33 ⟨Nat.zero_le _, Nat.zero_le _⟩) hS hP hD hFc [1, 2, 3, 4] [0] [0, 1, 2, 3, 4] rfl rfl (by decide) (by decide) (by decide) rfl (fun H locs hP hD hS => ?_)
      refine lv_aload_n hx hb dX5_deed_36 rfl (lv_at hl 0 rfl) ?_
      refine lv_dup hx hb dX5_deed_37 rfl ?_
      refine va_get (D := (dC, dI)) (ci := 5) (v := .int X_done) (C := RX5) (T := TX5) (N := 11) hx hb hts iX5 hown hK hP 0 rfl rfl 6 (by decide) hw3 (fun _ h9 => h9) rfl dX5_deed_38 ?_
      refine lv_iconst (v := 1) hx hb dX5_deed_41 (by decide) ?_
      refine lv_iadd hx hb dX5_deed_42 ?_
      refine va_put (D := (dC, dI)) (ci := 5) (v := .int (X_done + (1 : Int32))) (ty := .int) (C := RX5) (T := TX5) (N := 11) hx hb hts iX5 tyX5 tyX5_ok nmX5 hown hK hP hD hS 0 rfl rfl 6 (by decide) hw3 (fun _ h9 => h9) rfl (by decide +kernel) rfl rfl (Nat.le_of_ble_eq_true rfl) dX5_deed_43 (fun H locs hP hD hS => ?_)
      have hP : va_P (dC, dI) vwCl [(aX, .inr (5, [.ref aC, .ref aN, .ref aR, .ref aL, .ref aP, .ref aT, .int (X_done + (1 : Int32)), .ref aK, .int X_keptNumber, .int X_keptDone, .int X_keptTotal])), (aC, .inr (0, [.ref aC_traits, .int C_total])), (aC_traits, .inl (cI, 20, .inl C_traits)), (aN, .inr (1, [.ref aC, .ref aN_holders])), (aN_holders, .inl (cI, 5, .inl q3))] H := hP
      have hD : va_D A [(aX, .inr (5, [.ref aC, .ref aN, .ref aR, .ref aL, .ref aP, .ref aT, .int (X_done + (1 : Int32)), .ref aK, .int X_keptNumber, .int X_keptDone, .int X_keptTotal])), (aC, .inr (0, [.ref aC_traits, .int C_total])), (aC_traits, .inl (cI, 20, .inl C_traits)), (aN, .inr (1, [.ref aC, .ref aN_holders])), (aN_holders, .inl (cI, 5, .inl q3))] := hD
      refine lv_aload_n hx hb dX5_deed_46 rfl (lv_at hl 0 rfl) ?_
      refine va_get (D := (dC, dI)) (ci := 5) (v := .int (X_done + (1 : Int32))) (C := RX5) (T := TX5) (N := 11) hx hb hts iX5 hown hK hP 0 rfl rfl 6 (by decide) hw3 (fun _ h9 => h9) rfl dX5_deed_47 ?_
      subst hQ hAe
      cases hf
      exact W.iret hx hb hr (fun t ht hW => ⟨⟨_, (), rfl, rfl, ⟨by rw [ht]; exact hP, va_K.moved hW.alike hK, hD⟩⟩, hS.F ht⟩) hS.2.2 dX5_deed_50 hlocks
    · have hf := sw_ip c2 hf
      refine lv_bipush (v := -103) hx hb dX5_deed_25 (by decide) ?_
      subst hQ hAe
      cases hf
      exact W.iret hx hb hr (fun t ht hW => ⟨⟨_, (), rfl, rfl, ⟨by rw [ht]; exact hP, va_K.moved hW.alike hK, hD⟩⟩, hS.F ht⟩) hS.2.2 dX5_deed_27 hlocks
  · have hf := sw_ip c1 hf
    refine lv_bipush (v := -101) hx hb dX5_deed_11 (by decide) ?_
    subst hQ hAe
    cases hf
    exact W.iret hx hb hr (fun t ht hW => ⟨⟨_, (), rfl, rfl, ⟨by rw [ht]; exact hP, va_K.moved hW.alike hK, hD⟩⟩, hS.F ht⟩) hS.2.2 dX5_deed_13 hlocks
abbrev rm_X5_number : Room := { frames := 1, cells := 0, slots := 0, locals := 22 }
set_option maxHeartbeats 1000000 in
set_option maxRecDepth 100000 in
theorem k_X5_number (l : Launch) (dC : Nat → ClassId) (dI : Nat → Nat → Nat) (cI cZ : ClassId) (t0 : Nat) (aX aC aN aR aL aP aT aK aN_holders : Nat) (X_done : Int32) (X_keptNumber : Int32) (X_keptDone : Int32) (X_keptTotal : Int32) (N_holders : Nat → Int32) (rv : Int32)  (hf : F_X5_number N_holders = some (rv)) : Met l yX5_number wsX5_number rm_X5_number (sw_PR (dC, dI) t0 [(cI, .int), (cZ, .boolean)] [.ref aX] [(aX, .inr (5, [.ref aC, .ref aN, .ref aR, .ref aL, .ref aP, .ref aT, .int X_done, .ref aK, .int X_keptNumber, .int X_keptDone, .int X_keptTotal])), (aN, .inr (1, [.ref aC, .ref aN_holders])), (aN_holders, .inl (cI, 5, .inl N_holders))]) (vp_Si (fun r => r = rv)) 0 0 (fun _ => False) := by
  refine sw_metR (cc := cX5_number) (maxL := 1) (ret := (some .int)) (lv := [(0, .ref aX)]) (by decide) rfl (Nat.le_of_ble_eq_true rfl) rfl ?_
  intro p e s m below meth c Q hQ hx hb hr hts hown hlocks hml hP hK hE hS ls hl
  have hown : s.vm.findClass RX5 = some m.cls := hown
  have hf := (F_X5_number.eq_1 _).symm.trans hf
  have hw1 := hts (.fieldLink RX5 21 "SwallowedInTurn" "now" "LSwallowedInTurn$Nesting;") (List.mem_of_getElem? (i := 1) (by decide +kernel))
  have iX5 : ∀ w ∈ u_ws RX5 TX5 11, w ∈ wsX5_number := by decide +kernel
  refine lv_aload_n hx hb dX5_number_0 rfl (lv_at hl 0 rfl) ?_
  refine va_get (D := (dC, dI)) (ci := 5) (v := .ref aN) (C := RX5) (T := TX5) (N := 11) hx hb hts iX5 hown hK hP 0 rfl rfl 1 (by decide) hw1 (fun _ h9 => h9) rfl dX5_number_1 ?_
  obtain ⟨q1, hq1, hf⟩ := sw_bs hf
  have hPc := hP.sub (ws' := [(aN, .inr (1, [.ref aC, .ref aN_holders])), (aN_holders, .inl (cI, 5, .inl N_holders))]) [1, 2] rfl
  refine sw_rd (W.runV (As := []) (rest := []) ⟨hx, hb, hml, hown, hts⟩ (k_X1_toNumber l dC dI cI cZ t0 aN aC aN_holders N_holders q1 hq1) (cwV 0 hts gX5_number_X1_toNumber rfl rfl rfl (by decide +kernel) ⟨Nat.le_of_ble_eq_true rfl, Nat.le_of_ble_eq_true rfl⟩) ⟨sw_PR_bl, va_recv hK hPc (ci := 1) (q0 := 0) rfl rfl, sw_PR_pre hK hPc hE hS⟩ rfl rfl hl.1 rfl (lv_room (Nat.le_of_ble_eq_true rfl)) dX5_number_4 ⟨Nat.zero_le _, Nat.zero_le _⟩) ?_
  subst hQ
  exact W.iret hx hb hr (fun t ht hW => ⟨_, rfl, Option.some.inj hf, ht⟩) (fun _ h => absurd h List.not_mem_nil) dX5_number_7 hlocks
