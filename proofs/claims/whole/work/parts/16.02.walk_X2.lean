abbrev rm_X2_bestAsked : Room := { frames := 5, cells := 0, slots := 0, locals := 115 }
set_option maxHeartbeats 1000000 in
set_option maxRecDepth 100000 in
theorem k_X2_bestAsked (l : Launch) (dC : Nat → ClassId) (dI : Nat → Nat → Nat) (cI cZ : ClassId) (t0 : Nat) (sz : Nat) (aC aC_traits aL aE aF aL_reached aL_steps aL_firsts aL_isReached aL_answers aE_holders aT aT_tellers aT_heard : Nat) (C_total : Int32) (L_total : Int32) (L_startNumber : Int32) (L_startTotal : Int32) (L_reached : Nat → Int32) (L_answers : Nat → Int32) (E_holders : Nat → Int32) (T_length : Int32) (T_tellers : Nat → Int32) (T_heard : Nat → Int32) (rv : Int32) (L_answers' : Nat → Int32) (E_holders' : Nat → Int32) (hf : F_X2_bestAsked C_total L_total L_reached L_answers E_holders T_length T_tellers T_heard = some (rv, L_answers', E_holders')) : Met l yX2_bestAsked wsX2_bestAsked rm_X2_bestAsked (sw_PW (dC, dI) t0 [(cI, .int), (cZ, .boolean)] [.ref aL, .ref aT] [(aC, .inr (0, [.ref aC_traits, .int C_total])), (aL, .inr (2, [.ref aC, .ref aE, .ref aF, .ref aL_reached, .ref aL_steps, .ref aL_firsts, .int L_total, .ref aL_isReached, .ref aL_answers, .int L_startNumber, .int L_startTotal])), (aL_reached, .inl (cI, 1296, .inl L_reached)), (aL_answers, .inl (cI, 32, .inl L_answers)), (aE, .inr (1, [.ref aC, .ref aE_holders])), (aE_holders, .inl (cI, 5, .inl E_holders)), (aT, .inr (4, [.ref aT_tellers, .ref aT_heard, .int T_length])), (aT_tellers, .inl (cI, 4, .inl T_tellers)), (aT_heard, .inl (cI, 4, .inl T_heard))] sz) (va_Qi (fun r (_ : Unit) => r = rv) (fun _ t => sw_B (dC, dI) [(cI, .int), (cZ, .boolean)] [(aC, .inr (0, [.ref aC_traits, .int C_total])), (aL, .inr (2, [.ref aC, .ref aE, .ref aF, .ref aL_reached, .ref aL_steps, .ref aL_firsts, .int L_total, .ref aL_isReached, .ref aL_answers, .int L_startNumber, .int L_startTotal])), (aL_reached, .inl (cI, 1296, .inl L_reached)), (aL_answers, .inl (cI, 32, .inl L_answers')), (aE, .inr (1, [.ref aC, .ref aE_holders])), (aE_holders, .inl (cI, 5, .inl E_holders')), (aT, .inr (4, [.ref aT_tellers, .ref aT_heard, .int T_length])), (aT_tellers, .inl (cI, 4, .inl T_tellers)), (aT_heard, .inl (cI, 4, .inl T_heard))] (va_A [(aC, .inr (0, [.ref aC_traits, .int C_total])), (aL, .inr (2, [.ref aC, .ref aE, .ref aF, .ref aL_reached, .ref aL_steps, .ref aL_firsts, .int L_total, .ref aL_isReached, .ref aL_answers, .int L_startNumber, .int L_startTotal])), (aL_reached, .inl (cI, 1296, .inl L_reached)), (aL_answers, .inl (cI, 32, .inl L_answers)), (aE, .inr (1, [.ref aC, .ref aE_holders])), (aE_holders, .inl (cI, 5, .inl E_holders)), (aT, .inr (4, [.ref aT_tellers, .ref aT_heard, .int T_length])), (aT_tellers, .inl (cI, 4, .inl T_tellers)), (aT_heard, .inl (cI, 4, .inl T_heard))] sz) t) (va_A [(aC, .inr (0, [.ref aC_traits, .int C_total])), (aL, .inr (2, [.ref aC, .ref aE, .ref aF, .ref aL_reached, .ref aL_steps, .ref aL_firsts, .int L_total, .ref aL_isReached, .ref aL_answers, .int L_startNumber, .int L_startTotal])), (aL_reached, .inl (cI, 1296, .inl L_reached)), (aL_answers, .inl (cI, 32, .inl L_answers)), (aE, .inr (1, [.ref aC, .ref aE_holders])), (aE_holders, .inl (cI, 5, .inl E_holders)), (aT, .inr (4, [.ref aT_tellers, .ref aT_heard, .int T_length])), (aT_tellers, .inl (cI, 4, .inl T_tellers)), (aT_heard, .inl (cI, 4, .inl T_heard))] sz)) 0 0 (va_A [(aC, .inr (0, [.ref aC_traits, .int C_total])), (aL, .inr (2, [.ref aC, .ref aE, .ref aF, .ref aL_reached, .ref aL_steps, .ref aL_firsts, .int L_total, .ref aL_isReached, .ref aL_answers, .int L_startNumber, .int L_startTotal])), (aL_reached, .inl (cI, 1296, .inl L_reached)), (aL_answers, .inl (cI, 32, .inl L_answers)), (aE, .inr (1, [.ref aC, .ref aE_holders])), (aE_holders, .inl (cI, 5, .inl E_holders)), (aT, .inr (4, [.ref aT_tellers, .ref aT_heard, .int T_length])), (aT_tellers, .inl (cI, 4, .inl T_tellers)), (aT_heard, .inl (cI, 4, .inl T_heard))] sz) := by
  refine sw_metW (cc := cX2_bestAsked) (maxL := 6) (ret := (some .int)) (lv := [(0, .ref aL), (1, .ref aT)]) (by decide) rfl (Nat.le_of_ble_eq_true rfl) rfl ?_
  intro p e s m below meth c Q A hsz hAe hQ hx hb hr hts hown hlocks hml hmn hP hK hD hE hS hA ls hl
  have hS0 := hS
  have hown : s.vm.findClass RX2 = some m.cls := hown
  have hf := (F_X2_bestAsked.eq_1 _ _ _ _ _ _ _ _).symm.trans hf
  have hw1 := hts (.fieldLink RX2 35 "SwallowedInTurn$Outlook" "crowd" "LSwallowedInTurn$Crowd;") (List.mem_of_getElem? (i := 1) (by decide +kernel))
  have iX2 : ∀ w ∈ u_ws RX2 TX2 11, w ∈ wsX2_bestAsked := by decide +kernel
  have hf0 := hf
  clear hf
  have hP0 := hP
  have hD0 := hD
  clear hP hD hS
  have hl0 := hl
  clear hl
  have hB_7 :  ∀ (fu : Nat) (L_answers : Nat → Int32) (E_holders : Nat → Int32) (l2 : Int32) (l3 : Int32) (l4 : Int32), F_X2_bestAsked_7 C_total L_total L_reached T_length T_tellers T_heard fu L_answers E_holders l2 l3 l4 = some (rv, L_answers', E_holders') → ∀ (H : Heap) (locs : List Loc), va_P (dC, dI) vwCl [(aC, .inr (0, [.ref aC_traits, .int C_total])), (aL, .inr (2, [.ref aC, .ref aE, .ref aF, .ref aL_reached, .ref aL_steps, .ref aL_firsts, .int L_total, .ref aL_isReached, .ref aL_answers, .int L_startNumber, .int L_startTotal])), (aL_reached, .inl (cI, 1296, .inl L_reached)), (aL_answers, .inl (cI, 32, .inl L_answers)), (aE, .inr (1, [.ref aC, .ref aE_holders])), (aE_holders, .inl (cI, 5, .inl E_holders)), (aT, .inr (4, [.ref aT_tellers, .ref aT_heard, .int T_length])), (aT_tellers, .inl (cI, 4, .inl T_tellers)), (aT_heard, .inl (cI, 4, .inl T_heard))] H → va_D A [(aC, .inr (0, [.ref aC_traits, .int C_total])), (aL, .inr (2, [.ref aC, .ref aE, .ref aF, .ref aL_reached, .ref aL_steps, .ref aL_firsts, .int L_total, .ref aL_isReached, .ref aL_answers, .int L_startNumber, .int L_startTotal])), (aL_reached, .inl (cI, 1296, .inl L_reached)), (aL_answers, .inl (cI, 32, .inl L_answers)), (aE, .inr (1, [.ref aC, .ref aE_holders])), (aE_holders, .inl (cI, 5, .inl E_holders)), (aT, .inr (4, [.ref aT_tellers, .ref aT_heard, .int T_length])), (aT_tellers, .inl (cI, 4, .inl T_tellers)), (aT_heard, .inl (cI, 4, .inl T_heard))] → va_S A s.heap H locs → ∀ ls : Array Slot, lv_has ls 6 [(0, .ref aL), (1, .ref aT), (2, .int l2), (3, .int l3), (4, .int l4)] → W p l e rm_X2_bestAsked s m ([.ref aL, .ref aT] : List Value).toArray below meth c H locs 0 0 Q (F0 m 7 ls []) := by
    intro   fu
    induction fu with
    | zero =>
      intro L_answers E_holders l2 l3 l4 hf
      exact nomatch (show (none : Option (Int32 × (Nat → Int32) × (Nat → Int32))) = some (rv, L_answers', E_holders') from hf)
    | succ fu ih =>
      intro L_answers E_holders l2 l3 l4 hf H locs hP hD hS ls hl
      have hf := (F_X2_bestAsked_7.eq_2 _ _ _ _ _ _ _ _ _ _ _ _).symm.trans hf
      refine lv_iload hx hb dX2_bestAsked_7 (lv_at hl 4 rfl) ?_
      refine lv_aload_n hx hb dX2_bestAsked_9 rfl (lv_at hl 0 rfl) ?_
      refine va_get (D := (dC, dI)) (ci := 2) (v := .ref aC) (C := RX2) (T := TX2) (N := 11) hx hb hts iX2 hown hK hP 1 rfl rfl 0 (by decide) hw1 (fun _ h9 => h9) rfl dX2_bestAsked_10 ?_
      obtain ⟨q1, hq1, hf⟩ := sw_bs hf
      have hPc := hP.sub (ws' := [(aC, .inr (0, [.ref aC_traits, .int C_total]))]) [0] rfl
      refine sw_rd (W.runV (As := []) (rest := [.int l4]) ⟨hx, hb, hml, hown, hts⟩ (k_X0_total l dC dI cI cZ t0 aC aC_traits C_total q1 hq1) (cwV 0 hts gX2_bestAsked_X0_total rfl rfl rfl (by decide +kernel) ⟨Nat.le_of_ble_eq_true rfl, Nat.le_of_ble_eq_true rfl⟩) ⟨sw_PR_bl, va_recv hK hPc (ci := 0) (q0 := 0) rfl rfl, sw_PR_pre hK hPc hE hS⟩ rfl rfl hl.1 rfl (lv_room (Nat.le_of_ble_eq_true rfl)) dX2_bestAsked_13 ⟨Nat.zero_le _, Nat.zero_le _⟩) ?_
      refine lv_icmp_ge (tgt := 56) hx hb dX2_bestAsked_16 (by decide) (fun c1 => ?_) (fun c1 => ?_)
      · have hf := sw_ip c1 hf
        refine lv_iload_n hx hb dX2_bestAsked_56 rfl (lv_at hl 2 rfl) ?_
        subst hQ hAe
        cases hf
        exact W.iret hx hb hr (fun t ht hW => ⟨⟨_, (), rfl, rfl, ⟨by rw [ht]; exact hP, va_K.moved hW.alike hK, hD⟩⟩, hS.F ht⟩) hS.2.2 dX2_bestAsked_57 hlocks
      · have hf := sw_in c1 hf
        refine lv_aload_n hx hb dX2_bestAsked_19 rfl (lv_at hl 0 rfl) ?_
        refine lv_iload hx hb dX2_bestAsked_20 (lv_at hl 4 rfl) ?_
        refine lv_aload_n hx hb dX2_bestAsked_22 rfl (lv_at hl 1 rfl) ?_
        obtain ⟨q2, hq2, hf⟩ := sw_bs hf
        have hPc := hP.sub (ws' := [(aC, .inr (0, [.ref aC_traits, .int C_total])), (aL, .inr (2, [.ref aC, .ref aE, .ref aF, .ref aL_reached, .ref aL_steps, .ref aL_firsts, .int L_total, .ref aL_isReached, .ref aL_answers, .int L_startNumber, .int L_startTotal])), (aL_reached, .inl (cI, 1296, .inl L_reached)), (aL_answers, .inl (cI, 32, .inl L_answers)), (aE, .inr (1, [.ref aC, .ref aE_holders])), (aE_holders, .inl (cI, 5, .inl E_holders)), (aT, .inr (4, [.ref aT_tellers, .ref aT_heard, .int T_length])), (aT_tellers, .inl (cI, 4, .inl T_tellers)), (aT_heard, .inl (cI, 4, .inl T_heard))]) [0, 1, 2, 3, 4, 5, 6, 7, 8] rfl
        have hDc := hD.sub (ws' := [(aC, .inr (0, [.ref aC_traits, .int C_total])), (aL, .inr (2, [.ref aC, .ref aE, .ref aF, .ref aL_reached, .ref aL_steps, .ref aL_firsts, .int L_total, .ref aL_isReached, .ref aL_answers, .int L_startNumber, .int L_startTotal])), (aL_reached, .inl (cI, 1296, .inl L_reached)), (aL_answers, .inl (cI, 32, .inl L_answers)), (aE, .inr (1, [.ref aC, .ref aE_holders])), (aE_holders, .inl (cI, 5, .inl E_holders)), (aT, .inr (4, [.ref aT_tellers, .ref aT_heard, .int T_length])), (aT_tellers, .inl (cI, 4, .inl T_tellers)), (aT_heard, .inl (cI, 4, .inl T_heard))]) [0, 1, 2, 3, 4, 5, 6, 7, 8] (by decide) rfl
        have hFc := va_free (wc := [(aC, .inr (0, [.ref aC_traits, .int C_total])), (aL, .inr (2, [.ref aC, .ref aE, .ref aF, .ref aL_reached, .ref aL_steps, .ref aL_firsts, .int L_total, .ref aL_isReached, .ref aL_answers, .int L_startNumber, .int L_startTotal])), (aL_reached, .inl (cI, 1296, .inl L_reached)), (aL_answers, .inl (cI, 32, .inl L_answers)), (aE, .inr (1, [.ref aC, .ref aE_holders])), (aE_holders, .inl (cI, 5, .inl E_holders)), (aT, .inr (4, [.ref aT_tellers, .ref aT_heard, .int T_length])), (aT_tellers, .inl (cI, 4, .inl T_tellers)), (aT_heard, .inl (cI, 4, .inl T_heard))]) hD hS hA [0, 1, 2, 3, 4, 5, 6, 7, 8] rfl
        refine sw_wi (wn := [(aC, .inr (0, [.ref aC_traits, .int C_total])), (aL, .inr (2, [.ref aC, .ref aE, .ref aF, .ref aL_reached, .ref aL_steps, .ref aL_firsts, .int L_total, .ref aL_isReached, .ref aL_answers, .int L_startNumber, .int L_startTotal])), (aL_reached, .inl (cI, 1296, .inl L_reached)), (aL_answers, .inl (cI, 32, .inl q2.2.1)), (aE, .inr (1, [.ref aC, .ref aE_holders])), (aE_holders, .inl (cI, 5, .inl q2.2.2)), (aT, .inr (4, [.ref aT_tellers, .ref aT_heard, .int T_length])), (aT_tellers, .inl (cI, 4, .inl T_tellers)), (aT_heard, .inl (cI, 4, .inl T_heard))]) (w1 := [(aC, .inr (0, [.ref aC_traits, .int C_total])), (aL, .inr (2, [.ref aC, .ref aE, .ref aF, .ref aL_reached, .ref aL_steps, .ref aL_firsts, .int L_total, .ref aL_isReached, .ref aL_answers, .int L_startNumber, .int L_startTotal])), (aL_reached, .inl (cI, 1296, .inl L_reached)), (aL_answers, .inl (cI, 32, .inl q2.2.1)), (aE, .inr (1, [.ref aC, .ref aE_holders])), (aE_holders, .inl (cI, 5, .inl q2.2.2)), (aT, .inr (4, [.ref aT_tellers, .ref aT_heard, .int T_length])), (aT_tellers, .inl (cI, 4, .inl T_tellers)), (aT_heard, .inl (cI, 4, .inl T_heard))]) (wr := []) (va_runV (As := [.int l4, .ref aT]) (rest := []) ⟨hx, hb, hml, hown, hts⟩ (k_X2_mostLeft l dC dI cI cZ t0 H.size aC aC_traits aL aE aF aL_reached aL_steps aL_firsts aL_isReached aL_answers aE_holders aT aT_tellers aT_heard C_total L_total L_startNumber L_startTotal L_reached L_answers E_holders T_length T_tellers T_heard l4 q2.1 q2.2.1 q2.2.2 hq2) (cwV 2 hts gX2_bestAsked_X2_mostLeft rfl rfl rfl (by decide +kernel) ⟨Nat.le_of_ble_eq_true rfl, Nat.le_of_ble_eq_true rfl⟩) ⟨sw_PW_bl, va_recv hK hPc (ci := 2) (q0 := 1) rfl rfl, sw_PW_pre hK hPc hDc hE hS hFc⟩ rfl rfl hl.1 rfl (lv_room (Nat.le_of_ble_eq_true rfl)) dX2_bestAsked_23 ⟨Nat.zero_le _, Nat.zero_le _⟩) hS hP hD hFc [0, 1, 2, 3, 4, 5, 6, 7, 8] [] [0, 1, 2, 3, 4, 5, 6, 7, 8] rfl rfl (by decide) (by decide) (by decide) rfl (fun H locs hP hD hS => ?_)
        refine lv_istore (lv' := [(5, .int q2.1), (0, .ref aL), (1, .ref aT), (2, .int l2), (3, .int l3), (4, .int l4)]) hx hb dX2_bestAsked_26 hl (by decide) rfl (fun ls hl => ?_)
        refine lv_iload hx hb dX2_bestAsked_28 (lv_at hl 0 rfl) ?_
        refine lv_if_le (tgt := 50) hx hb dX2_bestAsked_30 (by decide) (fun c2 => ?_) (fun c2 => ?_)
        · have hf := sw_ip c2 hf
          refine lv_iinc (v := l4 + (1 : Int32)) (lv' := [(4, .int (l4 + (1 : Int32))), (5, .int q2.1), (0, .ref aL), (1, .ref aT), (2, .int l2), (3, .int l3)]) hx hb dX2_bestAsked_50 hl (k := 5) rfl (sw_ii _) (by decide) rfl (fun ls hl => ?_)
          refine lv_goto (tgt := 7) hx hb dX2_bestAsked_53 (by decide) ?_
          exact ih q2.2.1 q2.2.2 l2 l3 (l4 + (1 : Int32)) hf H locs hP hD hS ls (lv_sub hl [2, 3, 4, 5, 0] rfl)
        · have hf := sw_in c2 hf
          refine lv_iload_n hx hb dX2_bestAsked_33 rfl (lv_at hl 3 rfl) ?_
          refine lv_iconst (v := -1) hx hb dX2_bestAsked_34 (by decide) ?_
          refine lv_icmp_eq (tgt := 44) hx hb dX2_bestAsked_35 (by decide) (fun c3 => ?_) (fun c3 => ?_)
          · have hf := sw_ip c3 hf
            refine lv_iload hx hb dX2_bestAsked_44 (lv_at hl 5 rfl) ?_
            refine lv_istore_n (lv' := [(2, .int l4), (5, .int q2.1), (0, .ref aL), (1, .ref aT), (3, .int l3), (4, .int l4)]) hx hb dX2_bestAsked_46 rfl hl (by decide) rfl (fun ls hl => ?_)
            refine lv_iload hx hb dX2_bestAsked_47 (lv_at hl 1 rfl) ?_
            refine lv_istore_n (lv' := [(3, .int q2.1), (2, .int l4), (5, .int q2.1), (0, .ref aL), (1, .ref aT), (4, .int l4)]) hx hb dX2_bestAsked_49 rfl hl (by decide) rfl (fun ls hl => ?_)
            refine lv_iinc (v := l4 + (1 : Int32)) (lv' := [(4, .int (l4 + (1 : Int32))), (3, .int q2.1), (2, .int l4), (5, .int q2.1), (0, .ref aL), (1, .ref aT)]) hx hb dX2_bestAsked_50 hl (k := 5) rfl (sw_ii _) (by decide) rfl (fun ls hl => ?_)
            refine lv_goto (tgt := 7) hx hb dX2_bestAsked_53 (by decide) ?_
            exact ih q2.2.1 q2.2.2 l4 q2.1 (l4 + (1 : Int32)) hf H locs hP hD hS ls (lv_sub hl [4, 5, 2, 1, 0] rfl)
          · have hf := sw_in c3 hf
            refine lv_iload hx hb dX2_bestAsked_38 (lv_at hl 0 rfl) ?_
            refine lv_iload_n hx hb dX2_bestAsked_40 rfl (lv_at hl 4 rfl) ?_
            refine lv_icmp_ge (tgt := 50) hx hb dX2_bestAsked_41 (by decide) (fun c4 => ?_) (fun c4 => ?_)
            · have hf := sw_ip c4 hf
              refine lv_iinc (v := l4 + (1 : Int32)) (lv' := [(4, .int (l4 + (1 : Int32))), (5, .int q2.1), (0, .ref aL), (1, .ref aT), (2, .int l2), (3, .int l3)]) hx hb dX2_bestAsked_50 hl (k := 5) rfl (sw_ii _) (by decide) rfl (fun ls hl => ?_)
              refine lv_goto (tgt := 7) hx hb dX2_bestAsked_53 (by decide) ?_
              exact ih q2.2.1 q2.2.2 l2 l3 (l4 + (1 : Int32)) hf H locs hP hD hS ls (lv_sub hl [2, 3, 4, 5, 0] rfl)
            · have hf := sw_in c4 hf
              refine lv_iload hx hb dX2_bestAsked_44 (lv_at hl 5 rfl) ?_
              refine lv_istore_n (lv' := [(2, .int l4), (5, .int q2.1), (0, .ref aL), (1, .ref aT), (3, .int l3), (4, .int l4)]) hx hb dX2_bestAsked_46 rfl hl (by decide) rfl (fun ls hl => ?_)
              refine lv_iload hx hb dX2_bestAsked_47 (lv_at hl 1 rfl) ?_
              refine lv_istore_n (lv' := [(3, .int q2.1), (2, .int l4), (5, .int q2.1), (0, .ref aL), (1, .ref aT), (4, .int l4)]) hx hb dX2_bestAsked_49 rfl hl (by decide) rfl (fun ls hl => ?_)
              refine lv_iinc (v := l4 + (1 : Int32)) (lv' := [(4, .int (l4 + (1 : Int32))), (3, .int q2.1), (2, .int l4), (5, .int q2.1), (0, .ref aL), (1, .ref aT)]) hx hb dX2_bestAsked_50 hl (k := 5) rfl (sw_ii _) (by decide) rfl (fun ls hl => ?_)
              refine lv_goto (tgt := 7) hx hb dX2_bestAsked_53 (by decide) ?_
              exact ih q2.2.1 q2.2.2 l4 q2.1 (l4 + (1 : Int32)) hf H locs hP hD hS ls (lv_sub hl [4, 5, 2, 1, 0] rfl)
  have hf := hf0
  have hl := hl0
  have hP := hP0
  have hD := hD0
  have hS := hS0
  obtain ⟨H, hH⟩ : ∃ H, H = s.heap := ⟨_, rfl⟩
  obtain ⟨locs, hlo⟩ : ∃ locs : List Loc, locs = [] := ⟨_, rfl⟩
  rw [← hH] at hP
  have hS : va_S A s.heap H locs := by rw [hH, hlo]; exact hS0
  suffices hgo : W p l e rm_X2_bestAsked s m ([.ref aL, .ref aT] : List Value).toArray below meth c H locs 0 0 Q (F0 m 0 ls []) by rw [hH, hlo] at hgo; exact hgo
  refine lv_iconst (v := -1) hx hb dX2_bestAsked_0 (by decide) ?_
  refine lv_istore_n (lv' := [(2, .int (-1 : Int32)), (0, .ref aL), (1, .ref aT)]) hx hb dX2_bestAsked_1 rfl hl (by decide) rfl (fun ls hl => ?_)
  refine lv_iconst (v := 0) hx hb dX2_bestAsked_2 (by decide) ?_
  refine lv_istore_n (lv' := [(3, .int (0 : Int32)), (2, .int (-1 : Int32)), (0, .ref aL), (1, .ref aT)]) hx hb dX2_bestAsked_3 rfl hl (by decide) rfl (fun ls hl => ?_)
  refine lv_iconst (v := 0) hx hb dX2_bestAsked_4 (by decide) ?_
  refine lv_istore (lv' := [(4, .int (0 : Int32)), (3, .int (0 : Int32)), (2, .int (-1 : Int32)), (0, .ref aL), (1, .ref aT)]) hx hb dX2_bestAsked_5 hl (by decide) rfl (fun ls hl => ?_)
  exact hB_7   sw_fu L_answers E_holders (-1 : Int32) (0 : Int32) (0 : Int32) hf H locs hP hD hS ls (lv_sub hl [3, 4, 2, 1, 0] rfl)
