abbrev rm_X6_deepest : Room := { frames := 3, cells := 0, slots := 0, locals := 66 }
set_option maxHeartbeats 1000000 in
set_option maxRecDepth 100000 in
theorem k_X6_deepest (l : Launch) (dC : Nat → ClassId) (dI : Nat → Nat → Nat) (cI cZ : ClassId) (t0 : Nat) (aM aM_page aM_readDeeds aM_rows aM_far aM_firsts aM_line aM_toldRows aM_parts aM_keptToldRows : Nat) (M_pageMany : Int32) (M_readMany : Int32) (M_readBase : Int32) (M_state : Int32) (M_beings : Int32) (M_number : Int32) (M_deedsDone : Int32) (M_lined : Int32) (M_toldMany : Int32) (M_seedNow : Int32) (M_keptNumber : Int32) (M_keptBeings : Int32) (M_keptDeeds : Int32) (M_keptTold : Int32) (M_hash : Int64) (M_line : Nat → Int32) (l1 : Int32) (rv : Int32)  (hf : F_X6_deepest M_lined M_line l1 = some (rv)) : Met l yX6_deepest wsX6_deepest rm_X6_deepest (sw_PR (dC, dI) t0 [(cI, .int), (cZ, .boolean)] [.ref aM, .int l1] [(aM, .inr (6, [.ref aM_page, .int M_pageMany, .ref aM_readDeeds, .int M_readMany, .int M_readBase, .int M_state, .int M_beings, .int M_number, .int M_deedsDone, .ref aM_rows, .ref aM_far, .ref aM_firsts, .ref aM_line, .int M_lined, .int M_toldMany, .ref aM_toldRows, .ref aM_parts, .int M_seedNow, .int M_keptNumber, .int M_keptBeings, .int M_keptDeeds, .int M_keptTold, .ref aM_keptToldRows, .long M_hash])), (aM_line, .inl (cI, 7776, .inl M_line))]) (vp_Si (fun r => r = rv)) 0 0 (fun _ => False) := by
  refine sw_metR (cc := cX6_deepest) (maxL := 5) (ret := (some .int)) (lv := [(0, .ref aM), (1, .int l1)]) (by decide) rfl (Nat.le_of_ble_eq_true rfl) rfl ?_
  intro p e s m below meth c Q hQ hx hb hr hts hown hlocks hml hP hK hE hS ls hl
  have hown : s.vm.findClass RX6 = some m.cls := hown
  have hf := (F_X6_deepest.eq_1 _ _ _).symm.trans hf
  have hw1 := hts (.fieldLink RX6 140 "SwallowedInTurnModel" "lined" "I") (List.mem_of_getElem? (i := 1) (by decide +kernel))
  have iX6 : ∀ w ∈ u_ws RX6 TX6 24, w ∈ wsX6_deepest := by decide +kernel
  have hw2 := hts (.fieldLink RX6 25 "SwallowedInTurnModel" "line" "[I") (List.mem_of_getElem? (i := 2) (by decide +kernel))
  have hf0 := hf
  clear hf
  have hl0 := hl
  clear hl
  have hB_4 :  ∀ (fu : Nat) (l2 : Int32) (l3 : Int32), F_X6_deepest_4 M_lined M_line l1 fu l2 l3 = some (rv) → ∀ ls : Array Slot, lv_has ls 5 [(0, .ref aM), (1, .int l1), (2, .int l2), (3, .int l3)] → W p l e rm_X6_deepest s m ([.ref aM, .int l1] : List Value).toArray below meth c s.heap [] 0 0 Q (F0 m 4 ls []) := by
    intro   fu
    induction fu with
    | zero =>
      intro l2 l3 hf
      exact nomatch (show (none : Option (Int32)) = some (rv) from hf)
    | succ fu ih =>
      intro l2 l3 hf ls hl
      have hf := (F_X6_deepest_4.eq_2 _ _ _ _ _ _).symm.trans hf
      refine lv_iload_n hx hb dX6_deepest_4 rfl (lv_at hl 3 rfl) ?_
      refine lv_aload_n hx hb dX6_deepest_5 rfl (lv_at hl 0 rfl) ?_
      refine va_get (D := (dC, dI)) (ci := 6) (v := .int M_lined) (C := RX6) (T := TX6) (N := 24) hx hb hts iX6 hown hK hP 0 rfl rfl 13 (by decide) hw1 (fun _ h9 => h9) rfl dX6_deepest_6 ?_
      refine lv_icmp_ge (tgt := 43) hx hb dX6_deepest_9 (by decide) (fun c1 => ?_) (fun c1 => ?_)
      · have hf := sw_ip c1 hf
        refine lv_iload_n hx hb dX6_deepest_43 rfl (lv_at hl 2 rfl) ?_
        subst hQ
        exact W.iret hx hb hr (fun t ht hW => ⟨_, rfl, Option.some.inj hf, ht⟩) (fun _ h => absurd h List.not_mem_nil) dX6_deepest_44 hlocks
      · have hf := sw_in c1 hf
        refine lv_aload_n hx hb dX6_deepest_12 rfl (lv_at hl 0 rfl) ?_
        refine va_get (D := (dC, dI)) (ci := 6) (v := .ref aM_line) (C := RX6) (T := TX6) (N := 24) hx hb hts iX6 hown hK hP 0 rfl rfl 12 (by decide) hw2 (fun _ h9 => h9) rfl dX6_deepest_13 ?_
        refine lv_iload_n hx hb dX6_deepest_16 rfl (lv_at hl 3 rfl) ?_
        obtain ⟨hi1, hf⟩ := sw_ix_s hf
        refine va_iald hx hb hK hP 1 0 rfl rfl hi1 dX6_deepest_17 ?_
        refine lv_iload_n hx hb dX6_deepest_18 rfl (lv_at hl 1 rfl) ?_
        obtain ⟨q2, hq2, hf⟩ := sw_bs hf
        have hPc := hP.sub (ws' := []) [] rfl
        refine sw_rd (W.runS (As := [.int (M_line l3.toNatClampNeg), .int l1]) (rest := []) ⟨hx, hb, hml, hown, hts⟩ (k_X6_walls l dC dI cI cZ t0 (M_line l3.toNatClampNeg) l1 q2 hq2) (va_cwS 2 hts gX6_deepest_X6_walls rfl rfl rfl (by decide +kernel) ⟨Nat.le_of_ble_eq_true rfl, Nat.le_of_ble_eq_true rfl⟩) ⟨sw_PR_bl, sw_PR_pre hK hPc hE hS⟩ rfl rfl hl.1 rfl (lv_room (Nat.le_of_ble_eq_true rfl)) dX6_deepest_19 ⟨Nat.zero_le _, Nat.zero_le _⟩) ?_
        refine lv_istore (lv' := [(4, .int q2), (0, .ref aM), (1, .int l1), (2, .int l2), (3, .int l3)]) hx hb dX6_deepest_22 hl (by decide) rfl (fun ls hl => ?_)
        refine lv_iload hx hb dX6_deepest_24 (lv_at hl 0 rfl) ?_
        refine lv_iload_n hx hb dX6_deepest_26 rfl (lv_at hl 3 rfl) ?_
        refine lv_icmp_le (tgt := 35) hx hb dX6_deepest_27 (by decide) (fun c2 => ?_) (fun c2 => ?_)
        · have hf := sw_ip c2 hf
          refine lv_iload_n hx hb dX6_deepest_35 rfl (lv_at hl 3 rfl) ?_
          refine lv_istore_n (lv' := [(2, .int l2), (4, .int q2), (0, .ref aM), (1, .int l1), (3, .int l3)]) hx hb dX6_deepest_36 rfl hl (by decide) rfl (fun ls hl => ?_)
          refine lv_iinc (v := l3 + (1 : Int32)) (lv' := [(3, .int (l3 + (1 : Int32))), (2, .int l2), (4, .int q2), (0, .ref aM), (1, .int l1)]) hx hb dX6_deepest_37 hl (k := 4) rfl (sw_ii _) (by decide) rfl (fun ls hl => ?_)
          refine lv_goto (tgt := 4) hx hb dX6_deepest_40 (by decide) ?_
          exact ih l2 (l3 + (1 : Int32)) hf ls (lv_sub hl [3, 4, 1, 0] rfl)
        · have hf := sw_in c2 hf
          refine lv_iload hx hb dX6_deepest_30 (lv_at hl 0 rfl) ?_
          refine lv_goto (tgt := 36) hx hb dX6_deepest_32 (by decide) ?_
          refine lv_istore_n (lv' := [(2, .int q2), (4, .int q2), (0, .ref aM), (1, .int l1), (3, .int l3)]) hx hb dX6_deepest_36 rfl hl (by decide) rfl (fun ls hl => ?_)
          refine lv_iinc (v := l3 + (1 : Int32)) (lv' := [(3, .int (l3 + (1 : Int32))), (2, .int q2), (4, .int q2), (0, .ref aM), (1, .int l1)]) hx hb dX6_deepest_37 hl (k := 4) rfl (sw_ii _) (by decide) rfl (fun ls hl => ?_)
          refine lv_goto (tgt := 4) hx hb dX6_deepest_40 (by decide) ?_
          exact ih q2 (l3 + (1 : Int32)) hf ls (lv_sub hl [3, 4, 1, 0] rfl)
  have hf := hf0
  have hl := hl0
  refine lv_iconst (v := 0) hx hb dX6_deepest_0 (by decide) ?_
  refine lv_istore_n (lv' := [(2, .int (0 : Int32)), (0, .ref aM), (1, .int l1)]) hx hb dX6_deepest_1 rfl hl (by decide) rfl (fun ls hl => ?_)
  refine lv_iconst (v := 0) hx hb dX6_deepest_2 (by decide) ?_
  refine lv_istore_n (lv' := [(3, .int (0 : Int32)), (2, .int (0 : Int32)), (0, .ref aM), (1, .int l1)]) hx hb dX6_deepest_3 rfl hl (by decide) rfl (fun ls hl => ?_)
  exact hB_4   sw_fu (0 : Int32) (0 : Int32) hf ls (lv_sub hl [2, 3, 1, 0] rfl)
abbrev rm_X6_deep : Room := { frames := 6, cells := 0, slots := 0, locals := 143 }
set_option maxHeartbeats 1000000 in
set_option maxRecDepth 100000 in
theorem k_X6_deep (l : Launch) (dC : Nat → ClassId) (dI : Nat → Nat → Nat) (cI cZ : ClassId) (t0 : Nat) (sz : Nat) (aM aM_page aM_readDeeds aM_rows aM_far aM_firsts aM_line aM_toldRows aM_parts aM_keptToldRows : Nat) (M_pageMany : Int32) (M_readMany : Int32) (M_readBase : Int32) (M_state : Int32) (M_beings : Int32) (M_number : Int32) (M_deedsDone : Int32) (M_lined : Int32) (M_toldMany : Int32) (M_seedNow : Int32) (M_keptNumber : Int32) (M_keptBeings : Int32) (M_keptDeeds : Int32) (M_keptTold : Int32) (M_hash : Int64) (M_rows : Nat → Int32) (M_far : Nat → Int32) (M_firsts : Nat → Int32) (M_line : Nat → Int32) (l1 : Int32) (rv : Int32) (M_lined' : Int32) (M_far' : Nat → Int32) (M_firsts' : Nat → Int32) (M_line' : Nat → Int32) (hf : F_X6_deep M_beings M_number M_lined M_rows M_far M_firsts M_line l1 = some (rv, M_lined', M_far', M_firsts', M_line')) : Met l yX6_deep wsX6_deep rm_X6_deep (sw_PW (dC, dI) t0 [(cI, .int), (cZ, .boolean)] [.ref aM, .int l1] [(aM, .inr (6, [.ref aM_page, .int M_pageMany, .ref aM_readDeeds, .int M_readMany, .int M_readBase, .int M_state, .int M_beings, .int M_number, .int M_deedsDone, .ref aM_rows, .ref aM_far, .ref aM_firsts, .ref aM_line, .int M_lined, .int M_toldMany, .ref aM_toldRows, .ref aM_parts, .int M_seedNow, .int M_keptNumber, .int M_keptBeings, .int M_keptDeeds, .int M_keptTold, .ref aM_keptToldRows, .long M_hash])), (aM_rows, .inl (cI, 20, .inl M_rows)), (aM_far, .inl (cI, 7776, .inl M_far)), (aM_firsts, .inl (cI, 7776, .inl M_firsts)), (aM_line, .inl (cI, 7776, .inl M_line))] sz) (va_Qi (fun r (_ : Unit) => r = rv) (fun _ t => sw_B (dC, dI) [(cI, .int), (cZ, .boolean)] [(aM, .inr (6, [.ref aM_page, .int M_pageMany, .ref aM_readDeeds, .int M_readMany, .int M_readBase, .int M_state, .int M_beings, .int M_number, .int M_deedsDone, .ref aM_rows, .ref aM_far, .ref aM_firsts, .ref aM_line, .int M_lined', .int M_toldMany, .ref aM_toldRows, .ref aM_parts, .int M_seedNow, .int M_keptNumber, .int M_keptBeings, .int M_keptDeeds, .int M_keptTold, .ref aM_keptToldRows, .long M_hash])), (aM_rows, .inl (cI, 20, .inl M_rows)), (aM_far, .inl (cI, 7776, .inl M_far')), (aM_firsts, .inl (cI, 7776, .inl M_firsts')), (aM_line, .inl (cI, 7776, .inl M_line'))] (va_A [(aM, .inr (6, [.ref aM_page, .int M_pageMany, .ref aM_readDeeds, .int M_readMany, .int M_readBase, .int M_state, .int M_beings, .int M_number, .int M_deedsDone, .ref aM_rows, .ref aM_far, .ref aM_firsts, .ref aM_line, .int M_lined, .int M_toldMany, .ref aM_toldRows, .ref aM_parts, .int M_seedNow, .int M_keptNumber, .int M_keptBeings, .int M_keptDeeds, .int M_keptTold, .ref aM_keptToldRows, .long M_hash])), (aM_rows, .inl (cI, 20, .inl M_rows)), (aM_far, .inl (cI, 7776, .inl M_far)), (aM_firsts, .inl (cI, 7776, .inl M_firsts)), (aM_line, .inl (cI, 7776, .inl M_line))] sz) t) (va_A [(aM, .inr (6, [.ref aM_page, .int M_pageMany, .ref aM_readDeeds, .int M_readMany, .int M_readBase, .int M_state, .int M_beings, .int M_number, .int M_deedsDone, .ref aM_rows, .ref aM_far, .ref aM_firsts, .ref aM_line, .int M_lined, .int M_toldMany, .ref aM_toldRows, .ref aM_parts, .int M_seedNow, .int M_keptNumber, .int M_keptBeings, .int M_keptDeeds, .int M_keptTold, .ref aM_keptToldRows, .long M_hash])), (aM_rows, .inl (cI, 20, .inl M_rows)), (aM_far, .inl (cI, 7776, .inl M_far)), (aM_firsts, .inl (cI, 7776, .inl M_firsts)), (aM_line, .inl (cI, 7776, .inl M_line))] sz)) 0 0 (va_A [(aM, .inr (6, [.ref aM_page, .int M_pageMany, .ref aM_readDeeds, .int M_readMany, .int M_readBase, .int M_state, .int M_beings, .int M_number, .int M_deedsDone, .ref aM_rows, .ref aM_far, .ref aM_firsts, .ref aM_line, .int M_lined, .int M_toldMany, .ref aM_toldRows, .ref aM_parts, .int M_seedNow, .int M_keptNumber, .int M_keptBeings, .int M_keptDeeds, .int M_keptTold, .ref aM_keptToldRows, .long M_hash])), (aM_rows, .inl (cI, 20, .inl M_rows)), (aM_far, .inl (cI, 7776, .inl M_far)), (aM_firsts, .inl (cI, 7776, .inl M_firsts)), (aM_line, .inl (cI, 7776, .inl M_line))] sz) := by
  refine sw_metW (cc := cX6_deep) (maxL := 2) (ret := (some .int)) (lv := [(0, .ref aM), (1, .int l1)]) (by decide) rfl (Nat.le_of_ble_eq_true rfl) rfl ?_
  intro p e s m below meth c Q A hsz hAe hQ hx hb hr hts hown hlocks hml hmn hP hK hD hE hS hA ls hl
  have hS0 := hS
  have hown : s.vm.findClass RX6 = some m.cls := hown
  have hf := (F_X6_deep.eq_1 _ _ _ _ _ _ _ _).symm.trans hf
  obtain ⟨H, hH⟩ : ∃ H, H = s.heap := ⟨_, rfl⟩
  obtain ⟨locs, hlo⟩ : ∃ locs : List Loc, locs = [] := ⟨_, rfl⟩
  rw [← hH] at hP
  have hS : va_S A s.heap H locs := by rw [hH, hlo]; exact hS0
  suffices hgo : W p l e rm_X6_deep s m ([.ref aM, .int l1] : List Value).toArray below meth c H locs 0 0 Q (F0 m 0 ls []) by rw [hH, hlo] at hgo; exact hgo
  refine lv_aload_n hx hb dX6_deep_0 rfl (lv_at hl 0 rfl) ?_
  refine lv_iload_n hx hb dX6_deep_1 rfl (lv_at hl 1 rfl) ?_
  obtain ⟨q1, hq1, hf⟩ := sw_bs hf
  have hPc := hP.sub (ws' := [(aM, .inr (6, [.ref aM_page, .int M_pageMany, .ref aM_readDeeds, .int M_readMany, .int M_readBase, .int M_state, .int M_beings, .int M_number, .int M_deedsDone, .ref aM_rows, .ref aM_far, .ref aM_firsts, .ref aM_line, .int M_lined, .int M_toldMany, .ref aM_toldRows, .ref aM_parts, .int M_seedNow, .int M_keptNumber, .int M_keptBeings, .int M_keptDeeds, .int M_keptTold, .ref aM_keptToldRows, .long M_hash]))]) [0] rfl
  refine sw_rd (W.runV (As := [.int l1]) (rest := []) ⟨hx, hb, hml, hown, hts⟩ (k_X6_isBeing l dC dI cI cZ t0 aM aM_page aM_readDeeds aM_rows aM_far aM_firsts aM_line aM_toldRows aM_parts aM_keptToldRows M_pageMany M_readMany M_readBase M_state M_beings M_number M_deedsDone M_lined M_toldMany M_seedNow M_keptNumber M_keptBeings M_keptDeeds M_keptTold M_hash l1 q1 hq1) (cwV 1 hts gX6_deep_X6_isBeing rfl rfl rfl (by decide +kernel) ⟨Nat.le_of_ble_eq_true rfl, Nat.le_of_ble_eq_true rfl⟩) ⟨sw_PR_bl, va_recv hK hPc (ci := 6) (q0 := 0) rfl rfl, sw_PR_pre hK hPc hE hS⟩ rfl rfl hl.1 rfl (lv_room (Nat.le_of_ble_eq_true rfl)) dX6_deep_2 ⟨Nat.zero_le _, Nat.zero_le _⟩) ?_
  refine lv_if_ne (tgt := 11) hx hb dX6_deep_5 (by decide) (fun c1 => ?_) (fun c1 => ?_)
  · have hf := sw_in c1 hf
    refine lv_aload_n hx hb dX6_deep_11 rfl (lv_at hl 0 rfl) ?_
    obtain ⟨q2, hq2, hf⟩ := sw_bs hf
    have hPc := hP.sub (ws' := [(aM, .inr (6, [.ref aM_page, .int M_pageMany, .ref aM_readDeeds, .int M_readMany, .int M_readBase, .int M_state, .int M_beings, .int M_number, .int M_deedsDone, .ref aM_rows, .ref aM_far, .ref aM_firsts, .ref aM_line, .int M_lined, .int M_toldMany, .ref aM_toldRows, .ref aM_parts, .int M_seedNow, .int M_keptNumber, .int M_keptBeings, .int M_keptDeeds, .int M_keptTold, .ref aM_keptToldRows, .long M_hash])), (aM_rows, .inl (cI, 20, .inl M_rows)), (aM_far, .inl (cI, 7776, .inl M_far)), (aM_firsts, .inl (cI, 7776, .inl M_firsts)), (aM_line, .inl (cI, 7776, .inl M_line))]) [0, 1, 2, 3, 4] rfl
    have hDc := hD.sub (ws' := [(aM, .inr (6, [.ref aM_page, .int M_pageMany, .ref aM_readDeeds, .int M_readMany, .int M_readBase, .int M_state, .int M_beings, .int M_number, .int M_deedsDone, .ref aM_rows, .ref aM_far, .ref aM_firsts, .ref aM_line, .int M_lined, .int M_toldMany, .ref aM_toldRows, .ref aM_parts, .int M_seedNow, .int M_keptNumber, .int M_keptBeings, .int M_keptDeeds, .int M_keptTold, .ref aM_keptToldRows, .long M_hash])), (aM_rows, .inl (cI, 20, .inl M_rows)), (aM_far, .inl (cI, 7776, .inl M_far)), (aM_firsts, .inl (cI, 7776, .inl M_firsts)), (aM_line, .inl (cI, 7776, .inl M_line))]) [0, 1, 2, 3, 4] (by decide) rfl
    have hFc := va_free (wc := [(aM, .inr (6, [.ref aM_page, .int M_pageMany, .ref aM_readDeeds, .int M_readMany, .int M_readBase, .int M_state, .int M_beings, .int M_number, .int M_deedsDone, .ref aM_rows, .ref aM_far, .ref aM_firsts, .ref aM_line, .int M_lined, .int M_toldMany, .ref aM_toldRows, .ref aM_parts, .int M_seedNow, .int M_keptNumber, .int M_keptBeings, .int M_keptDeeds, .int M_keptTold, .ref aM_keptToldRows, .long M_hash])), (aM_rows, .inl (cI, 20, .inl M_rows)), (aM_far, .inl (cI, 7776, .inl M_far)), (aM_firsts, .inl (cI, 7776, .inl M_firsts)), (aM_line, .inl (cI, 7776, .inl M_line))]) hD hS hA [0, 1, 2, 3, 4] rfl
    refine sw_wv (wn := [(aM, .inr (6, [.ref aM_page, .int M_pageMany, .ref aM_readDeeds, .int M_readMany, .int M_readBase, .int M_state, .int M_beings, .int M_number, .int M_deedsDone, .ref aM_rows, .ref aM_far, .ref aM_firsts, .ref aM_line, .int q2.1, .int M_toldMany, .ref aM_toldRows, .ref aM_parts, .int M_seedNow, .int M_keptNumber, .int M_keptBeings, .int M_keptDeeds, .int M_keptTold, .ref aM_keptToldRows, .long M_hash])), (aM_rows, .inl (cI, 20, .inl M_rows)), (aM_far, .inl (cI, 7776, .inl q2.2.1)), (aM_firsts, .inl (cI, 7776, .inl q2.2.2.1)), (aM_line, .inl (cI, 7776, .inl q2.2.2.2))]) (w1 := [(aM, .inr (6, [.ref aM_page, .int M_pageMany, .ref aM_readDeeds, .int M_readMany, .int M_readBase, .int M_state, .int M_beings, .int M_number, .int M_deedsDone, .ref aM_rows, .ref aM_far, .ref aM_firsts, .ref aM_line, .int q2.1, .int M_toldMany, .ref aM_toldRows, .ref aM_parts, .int M_seedNow, .int M_keptNumber, .int M_keptBeings, .int M_keptDeeds, .int M_keptTold, .ref aM_keptToldRows, .long M_hash])), (aM_rows, .inl (cI, 20, .inl M_rows)), (aM_far, .inl (cI, 7776, .inl q2.2.1)), (aM_firsts, .inl (cI, 7776, .inl q2.2.2.1)), (aM_line, .inl (cI, 7776, .inl q2.2.2.2))]) (wr := []) (va_runV (As := []) (rest := []) ⟨hx, hb, hml, hown, hts⟩ (k_X6_lay l dC dI cI cZ t0 H.size aM aM_page aM_readDeeds aM_rows aM_far aM_firsts aM_line aM_toldRows aM_parts aM_keptToldRows M_pageMany M_readMany M_readBase M_state M_beings M_number M_deedsDone M_lined M_toldMany M_seedNow M_keptNumber M_keptBeings M_keptDeeds M_keptTold M_hash M_rows M_far M_firsts M_line q2.1 q2.2.1 q2.2.2.1 q2.2.2.2 hq2) (cwV 0 hts gX6_deep_X6_lay rfl rfl rfl (by decide +kernel) ⟨Nat.le_of_ble_eq_true rfl, Nat.le_of_ble_eq_true rfl⟩) ⟨sw_PW_bl, va_recv hK hPc (ci := 6) (q0 := 0) rfl rfl, sw_PW_pre hK hPc hDc hE hS hFc⟩ rfl rfl hl.1 rfl (lv_room (Nat.le_of_ble_eq_true rfl)) dX6_deep_12 ⟨Nat.zero_le _, Nat.zero_le _⟩) hS hP hD hFc [0, 1, 2, 3, 4] [] [0, 1, 2, 3, 4] rfl rfl (by decide) (by decide) (by decide) rfl (fun H locs hP hD hS => ?_)
    refine lv_aload_n hx hb dX6_deep_15 rfl (lv_at hl 0 rfl) ?_
    refine lv_iload_n hx hb dX6_deep_16 rfl (lv_at hl 1 rfl) ?_
    obtain ⟨q3, hq3, hf⟩ := sw_bs hf
    have hPc := hP.sub (ws' := [(aM, .inr (6, [.ref aM_page, .int M_pageMany, .ref aM_readDeeds, .int M_readMany, .int M_readBase, .int M_state, .int M_beings, .int M_number, .int M_deedsDone, .ref aM_rows, .ref aM_far, .ref aM_firsts, .ref aM_line, .int q2.1, .int M_toldMany, .ref aM_toldRows, .ref aM_parts, .int M_seedNow, .int M_keptNumber, .int M_keptBeings, .int M_keptDeeds, .int M_keptTold, .ref aM_keptToldRows, .long M_hash])), (aM_line, .inl (cI, 7776, .inl q2.2.2.2))]) [0, 4] rfl
    refine sw_rd (W.runV (As := [.int l1]) (rest := []) ⟨hx, hb, hml, hown, hts⟩ (k_X6_deepest l dC dI cI cZ t0 aM aM_page aM_readDeeds aM_rows aM_far aM_firsts aM_line aM_toldRows aM_parts aM_keptToldRows M_pageMany M_readMany M_readBase M_state M_beings M_number M_deedsDone q2.1 M_toldMany M_seedNow M_keptNumber M_keptBeings M_keptDeeds M_keptTold M_hash q2.2.2.2 l1 q3 hq3) (cwV 1 hts gX6_deep_X6_deepest rfl rfl rfl (by decide +kernel) ⟨Nat.le_of_ble_eq_true rfl, Nat.le_of_ble_eq_true rfl⟩) ⟨sw_PR_bl, va_recv hK hPc (ci := 6) (q0 := 0) rfl rfl, sw_PR_pre hK hPc hE hS⟩ rfl rfl hl.1 rfl (lv_room (Nat.le_of_ble_eq_true rfl)) dX6_deep_17 ⟨Nat.zero_le _, Nat.zero_le _⟩) ?_
    subst hQ hAe
    cases hf
    exact W.iret hx hb hr (fun t ht hW => ⟨⟨_, (), rfl, rfl, ⟨by rw [ht]; exact hP, va_K.moved hW.alike hK, hD⟩⟩, hS.F ht⟩) hS.2.2 dX6_deep_20 hlocks
  · have hf := sw_ip c1 hf
    refine lv_bipush (v := -101) hx hb dX6_deep_8 (by decide) ?_
    subst hQ hAe
    cases hf
    exact W.iret hx hb hr (fun t ht hW => ⟨⟨_, (), rfl, rfl, ⟨by rw [ht]; exact hP, va_K.moved hW.alike hK, hD⟩⟩, hS.F ht⟩) hS.2.2 dX6_deep_10 hlocks
abbrev rm_X6_many : Room := { frames := 6, cells := 0, slots := 0, locals := 143 }
set_option maxHeartbeats 1000000 in
set_option maxRecDepth 100000 in
theorem k_X6_many (l : Launch) (dC : Nat → ClassId) (dI : Nat → Nat → Nat) (cI cZ : ClassId) (t0 : Nat) (sz : Nat) (aM aM_page aM_readDeeds aM_rows aM_far aM_firsts aM_line aM_toldRows aM_parts aM_keptToldRows : Nat) (M_pageMany : Int32) (M_readMany : Int32) (M_readBase : Int32) (M_state : Int32) (M_beings : Int32) (M_number : Int32) (M_deedsDone : Int32) (M_lined : Int32) (M_toldMany : Int32) (M_seedNow : Int32) (M_keptNumber : Int32) (M_keptBeings : Int32) (M_keptDeeds : Int32) (M_keptTold : Int32) (M_hash : Int64) (M_rows : Nat → Int32) (M_far : Nat → Int32) (M_firsts : Nat → Int32) (M_line : Nat → Int32) (rv : Int32) (M_lined' : Int32) (M_far' : Nat → Int32) (M_firsts' : Nat → Int32) (M_line' : Nat → Int32) (hf : F_X6_many M_beings M_number M_lined M_rows M_far M_firsts M_line = some (rv, M_lined', M_far', M_firsts', M_line')) : Met l yX6_many wsX6_many rm_X6_many (sw_PW (dC, dI) t0 [(cI, .int), (cZ, .boolean)] [.ref aM] [(aM, .inr (6, [.ref aM_page, .int M_pageMany, .ref aM_readDeeds, .int M_readMany, .int M_readBase, .int M_state, .int M_beings, .int M_number, .int M_deedsDone, .ref aM_rows, .ref aM_far, .ref aM_firsts, .ref aM_line, .int M_lined, .int M_toldMany, .ref aM_toldRows, .ref aM_parts, .int M_seedNow, .int M_keptNumber, .int M_keptBeings, .int M_keptDeeds, .int M_keptTold, .ref aM_keptToldRows, .long M_hash])), (aM_rows, .inl (cI, 20, .inl M_rows)), (aM_far, .inl (cI, 7776, .inl M_far)), (aM_firsts, .inl (cI, 7776, .inl M_firsts)), (aM_line, .inl (cI, 7776, .inl M_line))] sz) (va_Qi (fun r (_ : Unit) => r = rv) (fun _ t => sw_B (dC, dI) [(cI, .int), (cZ, .boolean)] [(aM, .inr (6, [.ref aM_page, .int M_pageMany, .ref aM_readDeeds, .int M_readMany, .int M_readBase, .int M_state, .int M_beings, .int M_number, .int M_deedsDone, .ref aM_rows, .ref aM_far, .ref aM_firsts, .ref aM_line, .int M_lined', .int M_toldMany, .ref aM_toldRows, .ref aM_parts, .int M_seedNow, .int M_keptNumber, .int M_keptBeings, .int M_keptDeeds, .int M_keptTold, .ref aM_keptToldRows, .long M_hash])), (aM_rows, .inl (cI, 20, .inl M_rows)), (aM_far, .inl (cI, 7776, .inl M_far')), (aM_firsts, .inl (cI, 7776, .inl M_firsts')), (aM_line, .inl (cI, 7776, .inl M_line'))] (va_A [(aM, .inr (6, [.ref aM_page, .int M_pageMany, .ref aM_readDeeds, .int M_readMany, .int M_readBase, .int M_state, .int M_beings, .int M_number, .int M_deedsDone, .ref aM_rows, .ref aM_far, .ref aM_firsts, .ref aM_line, .int M_lined, .int M_toldMany, .ref aM_toldRows, .ref aM_parts, .int M_seedNow, .int M_keptNumber, .int M_keptBeings, .int M_keptDeeds, .int M_keptTold, .ref aM_keptToldRows, .long M_hash])), (aM_rows, .inl (cI, 20, .inl M_rows)), (aM_far, .inl (cI, 7776, .inl M_far)), (aM_firsts, .inl (cI, 7776, .inl M_firsts)), (aM_line, .inl (cI, 7776, .inl M_line))] sz) t) (va_A [(aM, .inr (6, [.ref aM_page, .int M_pageMany, .ref aM_readDeeds, .int M_readMany, .int M_readBase, .int M_state, .int M_beings, .int M_number, .int M_deedsDone, .ref aM_rows, .ref aM_far, .ref aM_firsts, .ref aM_line, .int M_lined, .int M_toldMany, .ref aM_toldRows, .ref aM_parts, .int M_seedNow, .int M_keptNumber, .int M_keptBeings, .int M_keptDeeds, .int M_keptTold, .ref aM_keptToldRows, .long M_hash])), (aM_rows, .inl (cI, 20, .inl M_rows)), (aM_far, .inl (cI, 7776, .inl M_far)), (aM_firsts, .inl (cI, 7776, .inl M_firsts)), (aM_line, .inl (cI, 7776, .inl M_line))] sz)) 0 0 (va_A [(aM, .inr (6, [.ref aM_page, .int M_pageMany, .ref aM_readDeeds, .int M_readMany, .int M_readBase, .int M_state, .int M_beings, .int M_number, .int M_deedsDone, .ref aM_rows, .ref aM_far, .ref aM_firsts, .ref aM_line, .int M_lined, .int M_toldMany, .ref aM_toldRows, .ref aM_parts, .int M_seedNow, .int M_keptNumber, .int M_keptBeings, .int M_keptDeeds, .int M_keptTold, .ref aM_keptToldRows, .long M_hash])), (aM_rows, .inl (cI, 20, .inl M_rows)), (aM_far, .inl (cI, 7776, .inl M_far)), (aM_firsts, .inl (cI, 7776, .inl M_firsts)), (aM_line, .inl (cI, 7776, .inl M_line))] sz) := by
  refine sw_metW (cc := cX6_many) (maxL := 1) (ret := (some .int)) (lv := [(0, .ref aM)]) (by decide) rfl (Nat.le_of_ble_eq_true rfl) rfl ?_
  intro p e s m below meth c Q A hsz hAe hQ hx hb hr hts hown hlocks hml hmn hP hK hD hE hS hA ls hl
  have hS0 := hS
  have hown : s.vm.findClass RX6 = some m.cls := hown
  have hf := (F_X6_many.eq_1 _ _ _ _ _ _ _).symm.trans hf
  have hw1 := hts (.fieldLink RX6 140 "SwallowedInTurnModel" "lined" "I") (List.mem_of_getElem? (i := 1) (by decide +kernel))
  have iX6 : ∀ w ∈ u_ws RX6 TX6 24, w ∈ wsX6_many := by decide +kernel
  obtain ⟨H, hH⟩ : ∃ H, H = s.heap := ⟨_, rfl⟩
  obtain ⟨locs, hlo⟩ : ∃ locs : List Loc, locs = [] := ⟨_, rfl⟩
  rw [← hH] at hP
  have hS : va_S A s.heap H locs := by rw [hH, hlo]; exact hS0
  suffices hgo : W p l e rm_X6_many s m ([.ref aM] : List Value).toArray below meth c H locs 0 0 Q (F0 m 0 ls []) by rw [hH, hlo] at hgo; exact hgo
  refine lv_aload_n hx hb dX6_many_0 rfl (lv_at hl 0 rfl) ?_
  obtain ⟨q1, hq1, hf⟩ := sw_bs hf
  have hPc := hP.sub (ws' := [(aM, .inr (6, [.ref aM_page, .int M_pageMany, .ref aM_readDeeds, .int M_readMany, .int M_readBase, .int M_state, .int M_beings, .int M_number, .int M_deedsDone, .ref aM_rows, .ref aM_far, .ref aM_firsts, .ref aM_line, .int M_lined, .int M_toldMany, .ref aM_toldRows, .ref aM_parts, .int M_seedNow, .int M_keptNumber, .int M_keptBeings, .int M_keptDeeds, .int M_keptTold, .ref aM_keptToldRows, .long M_hash])), (aM_rows, .inl (cI, 20, .inl M_rows)), (aM_far, .inl (cI, 7776, .inl M_far)), (aM_firsts, .inl (cI, 7776, .inl M_firsts)), (aM_line, .inl (cI, 7776, .inl M_line))]) [0, 1, 2, 3, 4] rfl
  have hDc := hD.sub (ws' := [(aM, .inr (6, [.ref aM_page, .int M_pageMany, .ref aM_readDeeds, .int M_readMany, .int M_readBase, .int M_state, .int M_beings, .int M_number, .int M_deedsDone, .ref aM_rows, .ref aM_far, .ref aM_firsts, .ref aM_line, .int M_lined, .int M_toldMany, .ref aM_toldRows, .ref aM_parts, .int M_seedNow, .int M_keptNumber, .int M_keptBeings, .int M_keptDeeds, .int M_keptTold, .ref aM_keptToldRows, .long M_hash])), (aM_rows, .inl (cI, 20, .inl M_rows)), (aM_far, .inl (cI, 7776, .inl M_far)), (aM_firsts, .inl (cI, 7776, .inl M_firsts)), (aM_line, .inl (cI, 7776, .inl M_line))]) [0, 1, 2, 3, 4] (by decide) rfl
  have hFc := va_free (wc := [(aM, .inr (6, [.ref aM_page, .int M_pageMany, .ref aM_readDeeds, .int M_readMany, .int M_readBase, .int M_state, .int M_beings, .int M_number, .int M_deedsDone, .ref aM_rows, .ref aM_far, .ref aM_firsts, .ref aM_line, .int M_lined, .int M_toldMany, .ref aM_toldRows, .ref aM_parts, .int M_seedNow, .int M_keptNumber, .int M_keptBeings, .int M_keptDeeds, .int M_keptTold, .ref aM_keptToldRows, .long M_hash])), (aM_rows, .inl (cI, 20, .inl M_rows)), (aM_far, .inl (cI, 7776, .inl M_far)), (aM_firsts, .inl (cI, 7776, .inl M_firsts)), (aM_line, .inl (cI, 7776, .inl M_line))]) hD hS hA [0, 1, 2, 3, 4] rfl
  refine sw_wv (wn := [(aM, .inr (6, [.ref aM_page, .int M_pageMany, .ref aM_readDeeds, .int M_readMany, .int M_readBase, .int M_state, .int M_beings, .int M_number, .int M_deedsDone, .ref aM_rows, .ref aM_far, .ref aM_firsts, .ref aM_line, .int q1.1, .int M_toldMany, .ref aM_toldRows, .ref aM_parts, .int M_seedNow, .int M_keptNumber, .int M_keptBeings, .int M_keptDeeds, .int M_keptTold, .ref aM_keptToldRows, .long M_hash])), (aM_rows, .inl (cI, 20, .inl M_rows)), (aM_far, .inl (cI, 7776, .inl q1.2.1)), (aM_firsts, .inl (cI, 7776, .inl q1.2.2.1)), (aM_line, .inl (cI, 7776, .inl q1.2.2.2))]) (w1 := [(aM, .inr (6, [.ref aM_page, .int M_pageMany, .ref aM_readDeeds, .int M_readMany, .int M_readBase, .int M_state, .int M_beings, .int M_number, .int M_deedsDone, .ref aM_rows, .ref aM_far, .ref aM_firsts, .ref aM_line, .int q1.1, .int M_toldMany, .ref aM_toldRows, .ref aM_parts, .int M_seedNow, .int M_keptNumber, .int M_keptBeings, .int M_keptDeeds, .int M_keptTold, .ref aM_keptToldRows, .long M_hash])), (aM_rows, .inl (cI, 20, .inl M_rows)), (aM_far, .inl (cI, 7776, .inl q1.2.1)), (aM_firsts, .inl (cI, 7776, .inl q1.2.2.1)), (aM_line, .inl (cI, 7776, .inl q1.2.2.2))]) (wr := []) (va_runV (As := []) (rest := []) ⟨hx, hb, hml, hown, hts⟩ (k_X6_lay l dC dI cI cZ t0 H.size aM aM_page aM_readDeeds aM_rows aM_far aM_firsts aM_line aM_toldRows aM_parts aM_keptToldRows M_pageMany M_readMany M_readBase M_state M_beings M_number M_deedsDone M_lined M_toldMany M_seedNow M_keptNumber M_keptBeings M_keptDeeds M_keptTold M_hash M_rows M_far M_firsts M_line q1.1 q1.2.1 q1.2.2.1 q1.2.2.2 hq1) (cwV 0 hts gX6_many_X6_lay rfl rfl rfl (by decide +kernel) ⟨Nat.le_of_ble_eq_true rfl, Nat.le_of_ble_eq_true rfl⟩) ⟨sw_PW_bl, va_recv hK hPc (ci := 6) (q0 := 0) rfl rfl, sw_PW_pre hK hPc hDc hE hS hFc⟩ rfl rfl hl.1 rfl (lv_room (Nat.le_of_ble_eq_true rfl)) dX6_many_1 ⟨Nat.zero_le _, Nat.zero_le _⟩) hS hP hD hFc [0, 1, 2, 3, 4] [] [0, 1, 2, 3, 4] rfl rfl (by decide) (by decide) (by decide) rfl (fun H locs hP hD hS => ?_)
  refine lv_aload_n hx hb dX6_many_4 rfl (lv_at hl 0 rfl) ?_
  refine va_get (D := (dC, dI)) (ci := 6) (v := .int q1.1) (C := RX6) (T := TX6) (N := 24) hx hb hts iX6 hown hK hP 0 rfl rfl 13 (by decide) hw1 (fun _ h9 => h9) rfl dX6_many_5 ?_
  subst hQ hAe
  cases hf
  exact W.iret hx hb hr (fun t ht hW => ⟨⟨_, (), rfl, rfl, ⟨by rw [ht]; exact hP, va_K.moved hW.alike hK, hD⟩⟩, hS.F ht⟩) hS.2.2 dX6_many_8 hlocks
abbrev rm_X6_nesting : Room := { frames := 6, cells := 0, slots := 0, locals := 143 }
set_option maxHeartbeats 1000000 in
set_option maxRecDepth 100000 in
theorem k_X6_nesting (l : Launch) (dC : Nat → ClassId) (dI : Nat → Nat → Nat) (cI cZ : ClassId) (t0 : Nat) (sz : Nat) (aM aM_page aM_readDeeds aM_rows aM_far aM_firsts aM_line aM_toldRows aM_parts aM_keptToldRows : Nat) (M_pageMany : Int32) (M_readMany : Int32) (M_readBase : Int32) (M_state : Int32) (M_beings : Int32) (M_number : Int32) (M_deedsDone : Int32) (M_lined : Int32) (M_toldMany : Int32) (M_seedNow : Int32) (M_keptNumber : Int32) (M_keptBeings : Int32) (M_keptDeeds : Int32) (M_keptTold : Int32) (M_hash : Int64) (M_rows : Nat → Int32) (M_far : Nat → Int32) (M_firsts : Nat → Int32) (M_line : Nat → Int32) (l1 : Int32) (rv : Int32) (M_lined' : Int32) (M_far' : Nat → Int32) (M_firsts' : Nat → Int32) (M_line' : Nat → Int32) (hf : F_X6_nesting M_beings M_number M_lined M_rows M_far M_firsts M_line l1 = some (rv, M_lined', M_far', M_firsts', M_line')) : Met l yX6_nesting wsX6_nesting rm_X6_nesting (sw_PW (dC, dI) t0 [(cI, .int), (cZ, .boolean)] [.ref aM, .int l1] [(aM, .inr (6, [.ref aM_page, .int M_pageMany, .ref aM_readDeeds, .int M_readMany, .int M_readBase, .int M_state, .int M_beings, .int M_number, .int M_deedsDone, .ref aM_rows, .ref aM_far, .ref aM_firsts, .ref aM_line, .int M_lined, .int M_toldMany, .ref aM_toldRows, .ref aM_parts, .int M_seedNow, .int M_keptNumber, .int M_keptBeings, .int M_keptDeeds, .int M_keptTold, .ref aM_keptToldRows, .long M_hash])), (aM_rows, .inl (cI, 20, .inl M_rows)), (aM_far, .inl (cI, 7776, .inl M_far)), (aM_firsts, .inl (cI, 7776, .inl M_firsts)), (aM_line, .inl (cI, 7776, .inl M_line))] sz) (va_Qi (fun r (_ : Unit) => r = rv) (fun _ t => sw_B (dC, dI) [(cI, .int), (cZ, .boolean)] [(aM, .inr (6, [.ref aM_page, .int M_pageMany, .ref aM_readDeeds, .int M_readMany, .int M_readBase, .int M_state, .int M_beings, .int M_number, .int M_deedsDone, .ref aM_rows, .ref aM_far, .ref aM_firsts, .ref aM_line, .int M_lined', .int M_toldMany, .ref aM_toldRows, .ref aM_parts, .int M_seedNow, .int M_keptNumber, .int M_keptBeings, .int M_keptDeeds, .int M_keptTold, .ref aM_keptToldRows, .long M_hash])), (aM_rows, .inl (cI, 20, .inl M_rows)), (aM_far, .inl (cI, 7776, .inl M_far')), (aM_firsts, .inl (cI, 7776, .inl M_firsts')), (aM_line, .inl (cI, 7776, .inl M_line'))] (va_A [(aM, .inr (6, [.ref aM_page, .int M_pageMany, .ref aM_readDeeds, .int M_readMany, .int M_readBase, .int M_state, .int M_beings, .int M_number, .int M_deedsDone, .ref aM_rows, .ref aM_far, .ref aM_firsts, .ref aM_line, .int M_lined, .int M_toldMany, .ref aM_toldRows, .ref aM_parts, .int M_seedNow, .int M_keptNumber, .int M_keptBeings, .int M_keptDeeds, .int M_keptTold, .ref aM_keptToldRows, .long M_hash])), (aM_rows, .inl (cI, 20, .inl M_rows)), (aM_far, .inl (cI, 7776, .inl M_far)), (aM_firsts, .inl (cI, 7776, .inl M_firsts)), (aM_line, .inl (cI, 7776, .inl M_line))] sz) t) (va_A [(aM, .inr (6, [.ref aM_page, .int M_pageMany, .ref aM_readDeeds, .int M_readMany, .int M_readBase, .int M_state, .int M_beings, .int M_number, .int M_deedsDone, .ref aM_rows, .ref aM_far, .ref aM_firsts, .ref aM_line, .int M_lined, .int M_toldMany, .ref aM_toldRows, .ref aM_parts, .int M_seedNow, .int M_keptNumber, .int M_keptBeings, .int M_keptDeeds, .int M_keptTold, .ref aM_keptToldRows, .long M_hash])), (aM_rows, .inl (cI, 20, .inl M_rows)), (aM_far, .inl (cI, 7776, .inl M_far)), (aM_firsts, .inl (cI, 7776, .inl M_firsts)), (aM_line, .inl (cI, 7776, .inl M_line))] sz)) 0 0 (va_A [(aM, .inr (6, [.ref aM_page, .int M_pageMany, .ref aM_readDeeds, .int M_readMany, .int M_readBase, .int M_state, .int M_beings, .int M_number, .int M_deedsDone, .ref aM_rows, .ref aM_far, .ref aM_firsts, .ref aM_line, .int M_lined, .int M_toldMany, .ref aM_toldRows, .ref aM_parts, .int M_seedNow, .int M_keptNumber, .int M_keptBeings, .int M_keptDeeds, .int M_keptTold, .ref aM_keptToldRows, .long M_hash])), (aM_rows, .inl (cI, 20, .inl M_rows)), (aM_far, .inl (cI, 7776, .inl M_far)), (aM_firsts, .inl (cI, 7776, .inl M_firsts)), (aM_line, .inl (cI, 7776, .inl M_line))] sz) := by
  refine sw_metW (cc := cX6_nesting) (maxL := 4) (ret := (some .int)) (lv := [(0, .ref aM), (1, .int l1)]) (by decide) rfl (Nat.le_of_ble_eq_true rfl) rfl ?_
  intro p e s m below meth c Q A hsz hAe hQ hx hb hr hts hown hlocks hml hmn hP hK hD hE hS hA ls hl
  have hS0 := hS
  have hown : s.vm.findClass RX6 = some m.cls := hown
  have hf := (F_X6_nesting.eq_1 _ _ _ _ _ _ _ _).symm.trans hf
  have hw1 := hts (.fieldLink RX6 19 "SwallowedInTurnModel" "far" "[I") (List.mem_of_getElem? (i := 1) (by decide +kernel))
  have iX6 : ∀ w ∈ u_ws RX6 TX6 24, w ∈ wsX6_nesting := by decide +kernel
  have hf0 := hf
  clear hf
  have hP0 := hP
  have hD0 := hD
  clear hP hD hS
  have hl0 := hl
  clear hl
  have hB_8 : ∀ (M_lined : Int32) (M_far : Nat → Int32) (M_firsts : Nat → Int32) (M_line : Nat → Int32), ∀ (fu : Nat) (l2 : Int32) (l3 : Int32), F_X6_nesting_8 M_lined M_far M_firsts M_line fu l2 l3 = some (rv, M_lined', M_far', M_firsts', M_line') → ∀ (H : Heap) (locs : List Loc), va_P (dC, dI) vwCl [(aM, .inr (6, [.ref aM_page, .int M_pageMany, .ref aM_readDeeds, .int M_readMany, .int M_readBase, .int M_state, .int M_beings, .int M_number, .int M_deedsDone, .ref aM_rows, .ref aM_far, .ref aM_firsts, .ref aM_line, .int M_lined, .int M_toldMany, .ref aM_toldRows, .ref aM_parts, .int M_seedNow, .int M_keptNumber, .int M_keptBeings, .int M_keptDeeds, .int M_keptTold, .ref aM_keptToldRows, .long M_hash])), (aM_rows, .inl (cI, 20, .inl M_rows)), (aM_far, .inl (cI, 7776, .inl M_far)), (aM_firsts, .inl (cI, 7776, .inl M_firsts)), (aM_line, .inl (cI, 7776, .inl M_line))] H → va_D A [(aM, .inr (6, [.ref aM_page, .int M_pageMany, .ref aM_readDeeds, .int M_readMany, .int M_readBase, .int M_state, .int M_beings, .int M_number, .int M_deedsDone, .ref aM_rows, .ref aM_far, .ref aM_firsts, .ref aM_line, .int M_lined, .int M_toldMany, .ref aM_toldRows, .ref aM_parts, .int M_seedNow, .int M_keptNumber, .int M_keptBeings, .int M_keptDeeds, .int M_keptTold, .ref aM_keptToldRows, .long M_hash])), (aM_rows, .inl (cI, 20, .inl M_rows)), (aM_far, .inl (cI, 7776, .inl M_far)), (aM_firsts, .inl (cI, 7776, .inl M_firsts)), (aM_line, .inl (cI, 7776, .inl M_line))] → va_S A s.heap H locs → ∀ ls : Array Slot, lv_has ls 4 [(0, .ref aM), (2, .int l2), (3, .int l3)] → W p l e rm_X6_nesting s m ([.ref aM, .int l1] : List Value).toArray below meth c H locs 0 0 Q (F0 m 8 ls []) := by
    intro M_lined M_far M_firsts M_line  fu
    induction fu with
    | zero =>
      intro l2 l3 hf
      exact nomatch (show (none : Option (Int32 × Int32 × (Nat → Int32) × (Nat → Int32) × (Nat → Int32))) = some (rv, M_lined', M_far', M_firsts', M_line') from hf)
    | succ fu ih =>
      intro l2 l3 hf H locs hP hD hS ls hl
      have hf := (F_X6_nesting_8.eq_2 _ _ _ _ _ _ _).symm.trans hf
      refine lv_iload_n hx hb dX6_nesting_8 rfl (lv_at hl 2 rfl) ?_
      refine lv_sipush (v := 7776) hx hb dX6_nesting_9 (by decide +kernel) ?_
      refine lv_icmp_ge (tgt := 44) hx hb dX6_nesting_12 (by decide) (fun c1 => ?_) (fun c1 => ?_)
      · have hf := sw_ip c1 hf
        refine lv_bipush (v := -102) hx hb dX6_nesting_44 (by decide) ?_
        subst hQ hAe
        cases hf
        exact W.iret hx hb hr (fun t ht hW => ⟨⟨_, (), rfl, rfl, ⟨by rw [ht]; exact hP, va_K.moved hW.alike hK, hD⟩⟩, hS.F ht⟩) hS.2.2 dX6_nesting_46 hlocks
      · have hf := sw_in c1 hf
        refine lv_iload_n hx hb dX6_nesting_15 rfl (lv_at hl 1 rfl) ?_
        refine lv_if_lt (tgt := 44) hx hb dX6_nesting_16 (by decide) (fun c2 => ?_) (fun c2 => ?_)
        · have hf := sw_ip c2 hf
          refine lv_bipush (v := -102) hx hb dX6_nesting_44 (by decide) ?_
          subst hQ hAe
          cases hf
          exact W.iret hx hb hr (fun t ht hW => ⟨⟨_, (), rfl, rfl, ⟨by rw [ht]; exact hP, va_K.moved hW.alike hK, hD⟩⟩, hS.F ht⟩) hS.2.2 dX6_nesting_46 hlocks
        · have hf := sw_in c2 hf
          refine lv_aload_n hx hb dX6_nesting_19 rfl (lv_at hl 0 rfl) ?_
          refine va_get (D := (dC, dI)) (ci := 6) (v := .ref aM_far) (C := RX6) (T := TX6) (N := 24) hx hb hts iX6 hown hK hP 0 rfl rfl 10 (by decide) hw1 (fun _ h9 => h9) rfl dX6_nesting_20 ?_
          refine lv_iload_n hx hb dX6_nesting_23 rfl (lv_at hl 2 rfl) ?_
          obtain ⟨hi1, hf⟩ := sw_ix_s hf
          refine va_iald hx hb hK hP 2 0 rfl rfl hi1 dX6_nesting_24 ?_
          refine lv_iconst (v := -1) hx hb dX6_nesting_25 (by decide) ?_
          refine lv_icmp_eq (tgt := 38) hx hb dX6_nesting_26 (by decide) (fun c3 => ?_) (fun c3 => ?_)
          · have hf := sw_ip c3 hf
            refine lv_iinc (v := l3 + (1 : Int32)) (lv' := [(3, .int (l3 + (1 : Int32))), (0, .ref aM), (2, .int l2)]) hx hb dX6_nesting_38 hl (k := 2) rfl (sw_ii _) (by decide) rfl (fun ls hl => ?_)
            refine lv_goto (tgt := 8) hx hb dX6_nesting_41 (by decide) ?_
            exact ih l2 (l3 + (1 : Int32)) hf H locs hP hD hS ls (lv_sub hl [1, 2, 0] rfl)
          · have hf := sw_in c3 hf
            refine lv_iload_n hx hb dX6_nesting_29 rfl (lv_at hl 1 rfl) ?_
            refine lv_if_ne (tgt := 35) hx hb dX6_nesting_30 (by decide) (fun c4 => ?_) (fun c4 => ?_)
            · have hf := sw_in c4 hf
              refine lv_iinc (v := l2 + (-1 : Int32)) (lv' := [(2, .int (l2 + (-1 : Int32))), (0, .ref aM), (3, .int l3)]) hx hb dX6_nesting_35 hl (k := 1) rfl (sw_iim _) (by decide) rfl (fun ls hl => ?_)
              refine lv_iinc (v := l3 + (1 : Int32)) (lv' := [(3, .int (l3 + (1 : Int32))), (2, .int (l2 + (-1 : Int32))), (0, .ref aM)]) hx hb dX6_nesting_38 hl (k := 2) rfl (sw_ii _) (by decide) rfl (fun ls hl => ?_)
              refine lv_goto (tgt := 8) hx hb dX6_nesting_41 (by decide) ?_
              exact ih (l2 + (-1 : Int32)) (l3 + (1 : Int32)) hf H locs hP hD hS ls (lv_sub hl [2, 1, 0] rfl)
            · have hf := sw_ip c4 hf
              refine lv_iload_n hx hb dX6_nesting_33 rfl (lv_at hl 2 rfl) ?_
              subst hQ hAe
              cases hf
              exact W.iret hx hb hr (fun t ht hW => ⟨⟨_, (), rfl, rfl, ⟨by rw [ht]; exact hP, va_K.moved hW.alike hK, hD⟩⟩, hS.F ht⟩) hS.2.2 dX6_nesting_34 hlocks
  have hf := hf0
  have hl := hl0
  have hP := hP0
  have hD := hD0
  have hS := hS0
  obtain ⟨H, hH⟩ : ∃ H, H = s.heap := ⟨_, rfl⟩
  obtain ⟨locs, hlo⟩ : ∃ locs : List Loc, locs = [] := ⟨_, rfl⟩
  rw [← hH] at hP
  have hS : va_S A s.heap H locs := by rw [hH, hlo]; exact hS0
  suffices hgo : W p l e rm_X6_nesting s m ([.ref aM, .int l1] : List Value).toArray below meth c H locs 0 0 Q (F0 m 0 ls []) by rw [hH, hlo] at hgo; exact hgo
  refine lv_aload_n hx hb dX6_nesting_0 rfl (lv_at hl 0 rfl) ?_
  obtain ⟨q2, hq2, hf⟩ := sw_bs hf
  have hPc := hP.sub (ws' := [(aM, .inr (6, [.ref aM_page, .int M_pageMany, .ref aM_readDeeds, .int M_readMany, .int M_readBase, .int M_state, .int M_beings, .int M_number, .int M_deedsDone, .ref aM_rows, .ref aM_far, .ref aM_firsts, .ref aM_line, .int M_lined, .int M_toldMany, .ref aM_toldRows, .ref aM_parts, .int M_seedNow, .int M_keptNumber, .int M_keptBeings, .int M_keptDeeds, .int M_keptTold, .ref aM_keptToldRows, .long M_hash])), (aM_rows, .inl (cI, 20, .inl M_rows)), (aM_far, .inl (cI, 7776, .inl M_far)), (aM_firsts, .inl (cI, 7776, .inl M_firsts)), (aM_line, .inl (cI, 7776, .inl M_line))]) [0, 1, 2, 3, 4] rfl
  have hDc := hD.sub (ws' := [(aM, .inr (6, [.ref aM_page, .int M_pageMany, .ref aM_readDeeds, .int M_readMany, .int M_readBase, .int M_state, .int M_beings, .int M_number, .int M_deedsDone, .ref aM_rows, .ref aM_far, .ref aM_firsts, .ref aM_line, .int M_lined, .int M_toldMany, .ref aM_toldRows, .ref aM_parts, .int M_seedNow, .int M_keptNumber, .int M_keptBeings, .int M_keptDeeds, .int M_keptTold, .ref aM_keptToldRows, .long M_hash])), (aM_rows, .inl (cI, 20, .inl M_rows)), (aM_far, .inl (cI, 7776, .inl M_far)), (aM_firsts, .inl (cI, 7776, .inl M_firsts)), (aM_line, .inl (cI, 7776, .inl M_line))]) [0, 1, 2, 3, 4] (by decide) rfl
  have hFc := va_free (wc := [(aM, .inr (6, [.ref aM_page, .int M_pageMany, .ref aM_readDeeds, .int M_readMany, .int M_readBase, .int M_state, .int M_beings, .int M_number, .int M_deedsDone, .ref aM_rows, .ref aM_far, .ref aM_firsts, .ref aM_line, .int M_lined, .int M_toldMany, .ref aM_toldRows, .ref aM_parts, .int M_seedNow, .int M_keptNumber, .int M_keptBeings, .int M_keptDeeds, .int M_keptTold, .ref aM_keptToldRows, .long M_hash])), (aM_rows, .inl (cI, 20, .inl M_rows)), (aM_far, .inl (cI, 7776, .inl M_far)), (aM_firsts, .inl (cI, 7776, .inl M_firsts)), (aM_line, .inl (cI, 7776, .inl M_line))]) hD hS hA [0, 1, 2, 3, 4] rfl
  refine sw_wv (wn := [(aM, .inr (6, [.ref aM_page, .int M_pageMany, .ref aM_readDeeds, .int M_readMany, .int M_readBase, .int M_state, .int M_beings, .int M_number, .int M_deedsDone, .ref aM_rows, .ref aM_far, .ref aM_firsts, .ref aM_line, .int q2.1, .int M_toldMany, .ref aM_toldRows, .ref aM_parts, .int M_seedNow, .int M_keptNumber, .int M_keptBeings, .int M_keptDeeds, .int M_keptTold, .ref aM_keptToldRows, .long M_hash])), (aM_rows, .inl (cI, 20, .inl M_rows)), (aM_far, .inl (cI, 7776, .inl q2.2.1)), (aM_firsts, .inl (cI, 7776, .inl q2.2.2.1)), (aM_line, .inl (cI, 7776, .inl q2.2.2.2))]) (w1 := [(aM, .inr (6, [.ref aM_page, .int M_pageMany, .ref aM_readDeeds, .int M_readMany, .int M_readBase, .int M_state, .int M_beings, .int M_number, .int M_deedsDone, .ref aM_rows, .ref aM_far, .ref aM_firsts, .ref aM_line, .int q2.1, .int M_toldMany, .ref aM_toldRows, .ref aM_parts, .int M_seedNow, .int M_keptNumber, .int M_keptBeings, .int M_keptDeeds, .int M_keptTold, .ref aM_keptToldRows, .long M_hash])), (aM_rows, .inl (cI, 20, .inl M_rows)), (aM_far, .inl (cI, 7776, .inl q2.2.1)), (aM_firsts, .inl (cI, 7776, .inl q2.2.2.1)), (aM_line, .inl (cI, 7776, .inl q2.2.2.2))]) (wr := []) (va_runV (As := []) (rest := []) ⟨hx, hb, hml, hown, hts⟩ (k_X6_lay l dC dI cI cZ t0 H.size aM aM_page aM_readDeeds aM_rows aM_far aM_firsts aM_line aM_toldRows aM_parts aM_keptToldRows M_pageMany M_readMany M_readBase M_state M_beings M_number M_deedsDone M_lined M_toldMany M_seedNow M_keptNumber M_keptBeings M_keptDeeds M_keptTold M_hash M_rows M_far M_firsts M_line q2.1 q2.2.1 q2.2.2.1 q2.2.2.2 hq2) (cwV 0 hts gX6_nesting_X6_lay rfl rfl rfl (by decide +kernel) ⟨Nat.le_of_ble_eq_true rfl, Nat.le_of_ble_eq_true rfl⟩) ⟨sw_PW_bl, va_recv hK hPc (ci := 6) (q0 := 0) rfl rfl, sw_PW_pre hK hPc hDc hE hS hFc⟩ rfl rfl hl.1 rfl (lv_room (Nat.le_of_ble_eq_true rfl)) dX6_nesting_1 ⟨Nat.zero_le _, Nat.zero_le _⟩) hS hP hD hFc [0, 1, 2, 3, 4] [] [0, 1, 2, 3, 4] rfl rfl (by decide) (by decide) (by decide) rfl (fun H locs hP hD hS => ?_)
  refine lv_iload_n hx hb dX6_nesting_4 rfl (lv_at hl 1 rfl) ?_
  refine lv_istore_n (lv' := [(2, .int l1), (0, .ref aM), (1, .int l1)]) hx hb dX6_nesting_5 rfl hl (by decide) rfl (fun ls hl => ?_)
  refine lv_iconst (v := 0) hx hb dX6_nesting_6 (by decide) ?_
  refine lv_istore_n (lv' := [(3, .int (0 : Int32)), (2, .int l1), (0, .ref aM), (1, .int l1)]) hx hb dX6_nesting_7 rfl hl (by decide) rfl (fun ls hl => ?_)
  exact hB_8 q2.1 q2.2.1 q2.2.2.1 q2.2.2.2  sw_fu l1 (0 : Int32) hf H locs hP hD hS ls (lv_sub hl [2, 1, 0] rfl)
abbrev rm_X6_told : Room := { frames := 2, cells := 0, slots := 0, locals := 46 }
set_option maxHeartbeats 1000000 in
set_option maxRecDepth 100000 in
theorem k_X6_told (l : Launch) (dC : Nat → ClassId) (dI : Nat → Nat → Nat) (cI cZ : ClassId) (t0 : Nat) (sz : Nat) (aM aM_page aM_readDeeds aM_rows aM_far aM_firsts aM_line aM_toldRows aM_parts aM_keptToldRows : Nat) (M_pageMany : Int32) (M_readMany : Int32) (M_readBase : Int32) (M_state : Int32) (M_beings : Int32) (M_number : Int32) (M_deedsDone : Int32) (M_lined : Int32) (M_toldMany : Int32) (M_seedNow : Int32) (M_keptNumber : Int32) (M_keptBeings : Int32) (M_keptDeeds : Int32) (M_keptTold : Int32) (M_hash : Int64) (M_toldRows : Nat → Int32) (l1 : Int32) (l2 : Int32) (rv : Int32) (M_toldMany' : Int32) (M_toldRows' : Nat → Int32) (hf : F_X6_told M_beings M_toldMany M_toldRows l1 l2 = some (rv, M_toldMany', M_toldRows')) : Met l yX6_told wsX6_told rm_X6_told (sw_PW (dC, dI) t0 [(cI, .int), (cZ, .boolean)] [.ref aM, .int l1, .int l2] [(aM, .inr (6, [.ref aM_page, .int M_pageMany, .ref aM_readDeeds, .int M_readMany, .int M_readBase, .int M_state, .int M_beings, .int M_number, .int M_deedsDone, .ref aM_rows, .ref aM_far, .ref aM_firsts, .ref aM_line, .int M_lined, .int M_toldMany, .ref aM_toldRows, .ref aM_parts, .int M_seedNow, .int M_keptNumber, .int M_keptBeings, .int M_keptDeeds, .int M_keptTold, .ref aM_keptToldRows, .long M_hash])), (aM_toldRows, .inl (cI, 8, .inl M_toldRows))] sz) (va_Qi (fun r (_ : Unit) => r = rv) (fun _ t => sw_B (dC, dI) [(cI, .int), (cZ, .boolean)] [(aM, .inr (6, [.ref aM_page, .int M_pageMany, .ref aM_readDeeds, .int M_readMany, .int M_readBase, .int M_state, .int M_beings, .int M_number, .int M_deedsDone, .ref aM_rows, .ref aM_far, .ref aM_firsts, .ref aM_line, .int M_lined, .int M_toldMany', .ref aM_toldRows, .ref aM_parts, .int M_seedNow, .int M_keptNumber, .int M_keptBeings, .int M_keptDeeds, .int M_keptTold, .ref aM_keptToldRows, .long M_hash])), (aM_toldRows, .inl (cI, 8, .inl M_toldRows'))] (va_A [(aM, .inr (6, [.ref aM_page, .int M_pageMany, .ref aM_readDeeds, .int M_readMany, .int M_readBase, .int M_state, .int M_beings, .int M_number, .int M_deedsDone, .ref aM_rows, .ref aM_far, .ref aM_firsts, .ref aM_line, .int M_lined, .int M_toldMany, .ref aM_toldRows, .ref aM_parts, .int M_seedNow, .int M_keptNumber, .int M_keptBeings, .int M_keptDeeds, .int M_keptTold, .ref aM_keptToldRows, .long M_hash])), (aM_toldRows, .inl (cI, 8, .inl M_toldRows))] sz) t) (va_A [(aM, .inr (6, [.ref aM_page, .int M_pageMany, .ref aM_readDeeds, .int M_readMany, .int M_readBase, .int M_state, .int M_beings, .int M_number, .int M_deedsDone, .ref aM_rows, .ref aM_far, .ref aM_firsts, .ref aM_line, .int M_lined, .int M_toldMany, .ref aM_toldRows, .ref aM_parts, .int M_seedNow, .int M_keptNumber, .int M_keptBeings, .int M_keptDeeds, .int M_keptTold, .ref aM_keptToldRows, .long M_hash])), (aM_toldRows, .inl (cI, 8, .inl M_toldRows))] sz)) 0 0 (va_A [(aM, .inr (6, [.ref aM_page, .int M_pageMany, .ref aM_readDeeds, .int M_readMany, .int M_readBase, .int M_state, .int M_beings, .int M_number, .int M_deedsDone, .ref aM_rows, .ref aM_far, .ref aM_firsts, .ref aM_line, .int M_lined, .int M_toldMany, .ref aM_toldRows, .ref aM_parts, .int M_seedNow, .int M_keptNumber, .int M_keptBeings, .int M_keptDeeds, .int M_keptTold, .ref aM_keptToldRows, .long M_hash])), (aM_toldRows, .inl (cI, 8, .inl M_toldRows))] sz) := by
  refine sw_metW (cc := cX6_told) (maxL := 3) (ret := (some .int)) (lv := [(0, .ref aM), (1, .int l1), (2, .int l2)]) (by decide) rfl (Nat.le_of_ble_eq_true rfl) rfl ?_
  intro p e s m below meth c Q A hsz hAe hQ hx hb hr hts hown hlocks hml hmn hP hK hD hE hS hA ls hl
  have hS0 := hS
  have hown : s.vm.findClass RX6 = some m.cls := hown
  have hf := (F_X6_told.eq_1 _ _ _ _ _).symm.trans hf
  have hw1 := hts (.fieldLink RX6 72 "SwallowedInTurnModel" "beings" "I") (List.mem_of_getElem? (i := 1) (by decide +kernel))
  have iX6 : ∀ w ∈ u_ws RX6 TX6 24, w ∈ wsX6_told := by decide +kernel
  have hw2 := hts (.fieldLink RX6 156 "SwallowedInTurnModel" "toldMany" "I") (List.mem_of_getElem? (i := 2) (by decide +kernel))
  have hw3 := hts (.fieldLink RX6 28 "SwallowedInTurnModel" "toldRows" "[I") (List.mem_of_getElem? (i := 3) (by decide +kernel))
  obtain ⟨H, hH⟩ : ∃ H, H = s.heap := ⟨_, rfl⟩
  obtain ⟨locs, hlo⟩ : ∃ locs : List Loc, locs = [] := ⟨_, rfl⟩
  rw [← hH] at hP
  have hS : va_S A s.heap H locs := by rw [hH, hlo]; exact hS0
  suffices hgo : W p l e rm_X6_told s m ([.ref aM, .int l1, .int l2] : List Value).toArray below meth c H locs 0 0 Q (F0 m 0 ls []) by rw [hH, hlo] at hgo; exact hgo
  refine lv_aload_n hx hb dX6_told_0 rfl (lv_at hl 0 rfl) ?_
  refine lv_iload_n hx hb dX6_told_1 rfl (lv_at hl 1 rfl) ?_
  obtain ⟨q1, hq1, hf⟩ := sw_bs hf
  have hPc := hP.sub (ws' := [(aM, .inr (6, [.ref aM_page, .int M_pageMany, .ref aM_readDeeds, .int M_readMany, .int M_readBase, .int M_state, .int M_beings, .int M_number, .int M_deedsDone, .ref aM_rows, .ref aM_far, .ref aM_firsts, .ref aM_line, .int M_lined, .int M_toldMany, .ref aM_toldRows, .ref aM_parts, .int M_seedNow, .int M_keptNumber, .int M_keptBeings, .int M_keptDeeds, .int M_keptTold, .ref aM_keptToldRows, .long M_hash]))]) [0] rfl
  refine sw_rd (W.runV (As := [.int l1]) (rest := []) ⟨hx, hb, hml, hown, hts⟩ (k_X6_isBeing l dC dI cI cZ t0 aM aM_page aM_readDeeds aM_rows aM_far aM_firsts aM_line aM_toldRows aM_parts aM_keptToldRows M_pageMany M_readMany M_readBase M_state M_beings M_number M_deedsDone M_lined M_toldMany M_seedNow M_keptNumber M_keptBeings M_keptDeeds M_keptTold M_hash l1 q1 hq1) (cwV 1 hts gX6_told_X6_isBeing rfl rfl rfl (by decide +kernel) ⟨Nat.le_of_ble_eq_true rfl, Nat.le_of_ble_eq_true rfl⟩) ⟨sw_PR_bl, va_recv hK hPc (ci := 6) (q0 := 0) rfl rfl, sw_PR_pre hK hPc hE hS⟩ rfl rfl hl.1 rfl (lv_room (Nat.le_of_ble_eq_true rfl)) dX6_told_2 ⟨Nat.zero_le _, Nat.zero_le _⟩) ?_
  refine lv_if_ne (tgt := 11) hx hb dX6_told_5 (by decide) (fun c1 => ?_) (fun c1 => ?_)
  · have hf := sw_in c1 hf
    refine lv_iload_n hx hb dX6_told_11 rfl (lv_at hl 2 rfl) ?_
    refine lv_i2l (v := (l2).toInt64) hx hb dX6_told_12 rfl ?_
    refine lv_lconst (v := 0) hx hb dX6_told_13 (by decide) ?_
    refine lv_iconst (v := 1) hx hb dX6_told_14 (by decide) ?_
    refine lv_aload_n hx hb dX6_told_15 rfl (lv_at hl 0 rfl) ?_
    refine va_get (D := (dC, dI)) (ci := 6) (v := .int M_beings) (C := RX6) (T := TX6) (N := 24) hx hb hts iX6 hown hK hP 0 rfl rfl 6 (by decide) hw1 (fun _ h9 => h9) rfl dX6_told_16 ?_
    refine lv_ishl hx hb dX6_told_19 ?_
    refine lv_iconst (v := 1) hx hb dX6_told_20 (by decide) ?_
    refine lv_isub hx hb dX6_told_21 ?_
    refine lv_i2l (v := (((1 : Int32) <<< (M_beings &&& 31)) - (1 : Int32)).toInt64) hx hb dX6_told_22 rfl ?_
    obtain ⟨q2, hq2, hf⟩ := sw_bs hf
    have hPc := hP.sub (ws' := []) [] rfl
    refine sw_rd (W.runS (As := [.long ((l2).toInt64), .long (0 : Int64), .long ((((1 : Int32) <<< (M_beings &&& 31)) - (1 : Int32)).toInt64)]) (rest := []) ⟨hx, hb, hml, hown, hts⟩ (k_X6_in l dC dI cI cZ t0 ((l2).toInt64) (0 : Int64) ((((1 : Int32) <<< (M_beings &&& 31)) - (1 : Int32)).toInt64) q2 hq2) (va_cwS 3 hts gX6_told_X6_in rfl rfl rfl (by decide +kernel) ⟨Nat.le_of_ble_eq_true rfl, Nat.le_of_ble_eq_true rfl⟩) ⟨sw_PR_bl, sw_PR_pre hK hPc hE hS⟩ rfl rfl hl.1 rfl (lv_room (Nat.le_of_ble_eq_true rfl)) dX6_told_23 ⟨Nat.zero_le _, Nat.zero_le _⟩) ?_
    refine lv_if_ne (tgt := 32) hx hb dX6_told_26 (by decide) (fun c2 => ?_) (fun c2 => ?_)
    · have hf := sw_in c2 hf
      refine lv_aload_n hx hb dX6_told_32 rfl (lv_at hl 0 rfl) ?_
      refine va_get (D := (dC, dI)) (ci := 6) (v := .int M_toldMany) (C := RX6) (T := TX6) (N := 24) hx hb hts iX6 hown hK hP 0 rfl rfl 14 (by decide) hw2 (fun _ h9 => h9) rfl dX6_told_33 ?_
      refine lv_iconst (v := 4) hx hb dX6_told_36 (by decide) ?_
      refine lv_icmp_ne (tgt := 43) hx hb dX6_told_37 (by decide) (fun c3 => ?_) (fun c3 => ?_)
      · have hf := sw_in c3 hf
        refine lv_aload_n hx hb dX6_told_43 rfl (lv_at hl 0 rfl) ?_
        refine va_get (D := (dC, dI)) (ci := 6) (v := .ref aM_toldRows) (C := RX6) (T := TX6) (N := 24) hx hb hts iX6 hown hK hP 0 rfl rfl 15 (by decide) hw3 (fun _ h9 => h9) rfl dX6_told_44 ?_
        refine lv_iconst (v := 2) hx hb dX6_told_47 (by decide) ?_
        refine lv_aload_n hx hb dX6_told_48 rfl (lv_at hl 0 rfl) ?_
        refine va_get (D := (dC, dI)) (ci := 6) (v := .int M_toldMany) (C := RX6) (T := TX6) (N := 24) hx hb hts iX6 hown hK hP 0 rfl rfl 14 (by decide) hw2 (fun _ h9 => h9) rfl dX6_told_49 ?_
        refine lv_imul hx hb dX6_told_52 ?_
        refine lv_iload_n hx hb dX6_told_53 rfl (lv_at hl 1 rfl) ?_
        obtain ⟨hi3, hf⟩ := sw_ix_s hf
        refine va_iast hx hb hK hP hD hS 1 0 rfl rfl hi3 dX6_told_54 (fun H locs hP hD hS => ?_)
        have hP : va_P (dC, dI) vwCl [(aM, .inr (6, [.ref aM_page, .int M_pageMany, .ref aM_readDeeds, .int M_readMany, .int M_readBase, .int M_state, .int M_beings, .int M_number, .int M_deedsDone, .ref aM_rows, .ref aM_far, .ref aM_firsts, .ref aM_line, .int M_lined, .int M_toldMany, .ref aM_toldRows, .ref aM_parts, .int M_seedNow, .int M_keptNumber, .int M_keptBeings, .int M_keptDeeds, .int M_keptTold, .ref aM_keptToldRows, .long M_hash])), (aM_toldRows, .inl (cI, 8, .inl (upd M_toldRows ((2 : Int32) * M_toldMany).toNatClampNeg l1)))] H := hP
        have hD : va_D A [(aM, .inr (6, [.ref aM_page, .int M_pageMany, .ref aM_readDeeds, .int M_readMany, .int M_readBase, .int M_state, .int M_beings, .int M_number, .int M_deedsDone, .ref aM_rows, .ref aM_far, .ref aM_firsts, .ref aM_line, .int M_lined, .int M_toldMany, .ref aM_toldRows, .ref aM_parts, .int M_seedNow, .int M_keptNumber, .int M_keptBeings, .int M_keptDeeds, .int M_keptTold, .ref aM_keptToldRows, .long M_hash])), (aM_toldRows, .inl (cI, 8, .inl (upd M_toldRows ((2 : Int32) * M_toldMany).toNatClampNeg l1)))] := hD
        refine lv_aload_n hx hb dX6_told_55 rfl (lv_at hl 0 rfl) ?_
        refine va_get (D := (dC, dI)) (ci := 6) (v := .ref aM_toldRows) (C := RX6) (T := TX6) (N := 24) hx hb hts iX6 hown hK hP 0 rfl rfl 15 (by decide) hw3 (fun _ h9 => h9) rfl dX6_told_56 ?_
        refine lv_iconst (v := 2) hx hb dX6_told_59 (by decide) ?_
        refine lv_aload_n hx hb dX6_told_60 rfl (lv_at hl 0 rfl) ?_
        refine va_get (D := (dC, dI)) (ci := 6) (v := .int M_toldMany) (C := RX6) (T := TX6) (N := 24) hx hb hts iX6 hown hK hP 0 rfl rfl 14 (by decide) hw2 (fun _ h9 => h9) rfl dX6_told_61 ?_
        refine lv_imul hx hb dX6_told_64 ?_
        refine lv_iconst (v := 1) hx hb dX6_told_65 (by decide) ?_
        refine lv_iadd hx hb dX6_told_66 ?_
        refine lv_iload_n hx hb dX6_told_67 rfl (lv_at hl 2 rfl) ?_
        obtain ⟨hi4, hf⟩ := sw_ix_s hf
        refine va_iast hx hb hK hP hD hS 1 0 rfl rfl hi4 dX6_told_68 (fun H locs hP hD hS => ?_)
        have hP : va_P (dC, dI) vwCl [(aM, .inr (6, [.ref aM_page, .int M_pageMany, .ref aM_readDeeds, .int M_readMany, .int M_readBase, .int M_state, .int M_beings, .int M_number, .int M_deedsDone, .ref aM_rows, .ref aM_far, .ref aM_firsts, .ref aM_line, .int M_lined, .int M_toldMany, .ref aM_toldRows, .ref aM_parts, .int M_seedNow, .int M_keptNumber, .int M_keptBeings, .int M_keptDeeds, .int M_keptTold, .ref aM_keptToldRows, .long M_hash])), (aM_toldRows, .inl (cI, 8, .inl (upd (upd M_toldRows ((2 : Int32) * M_toldMany).toNatClampNeg l1) (((2 : Int32) * M_toldMany) + (1 : Int32)).toNatClampNeg l2)))] H := hP
        have hD : va_D A [(aM, .inr (6, [.ref aM_page, .int M_pageMany, .ref aM_readDeeds, .int M_readMany, .int M_readBase, .int M_state, .int M_beings, .int M_number, .int M_deedsDone, .ref aM_rows, .ref aM_far, .ref aM_firsts, .ref aM_line, .int M_lined, .int M_toldMany, .ref aM_toldRows, .ref aM_parts, .int M_seedNow, .int M_keptNumber, .int M_keptBeings, .int M_keptDeeds, .int M_keptTold, .ref aM_keptToldRows, .long M_hash])), (aM_toldRows, .inl (cI, 8, .inl (upd (upd M_toldRows ((2 : Int32) * M_toldMany).toNatClampNeg l1) (((2 : Int32) * M_toldMany) + (1 : Int32)).toNatClampNeg l2)))] := hD
        refine lv_aload_n hx hb dX6_told_69 rfl (lv_at hl 0 rfl) ?_
        refine lv_dup hx hb dX6_told_70 rfl ?_
        refine va_get (D := (dC, dI)) (ci := 6) (v := .int M_toldMany) (C := RX6) (T := TX6) (N := 24) hx hb hts iX6 hown hK hP 0 rfl rfl 14 (by decide) hw2 (fun _ h9 => h9) rfl dX6_told_71 ?_
        refine lv_iconst (v := 1) hx hb dX6_told_74 (by decide) ?_
        refine lv_iadd hx hb dX6_told_75 ?_
        refine va_put (D := (dC, dI)) (ci := 6) (v := .int (M_toldMany + (1 : Int32))) (ty := .int) (C := RX6) (T := TX6) (N := 24) hx hb hts iX6 tyX6 tyX6_ok nmX6 hown hK hP hD hS 0 rfl rfl 14 (by decide) hw2 (fun _ h9 => h9) rfl (by decide +kernel) rfl rfl (Nat.le_of_ble_eq_true rfl) dX6_told_76 (fun H locs hP hD hS => ?_)
        have hP : va_P (dC, dI) vwCl [(aM, .inr (6, [.ref aM_page, .int M_pageMany, .ref aM_readDeeds, .int M_readMany, .int M_readBase, .int M_state, .int M_beings, .int M_number, .int M_deedsDone, .ref aM_rows, .ref aM_far, .ref aM_firsts, .ref aM_line, .int M_lined, .int (M_toldMany + (1 : Int32)), .ref aM_toldRows, .ref aM_parts, .int M_seedNow, .int M_keptNumber, .int M_keptBeings, .int M_keptDeeds, .int M_keptTold, .ref aM_keptToldRows, .long M_hash])), (aM_toldRows, .inl (cI, 8, .inl (upd (upd M_toldRows ((2 : Int32) * M_toldMany).toNatClampNeg l1) (((2 : Int32) * M_toldMany) + (1 : Int32)).toNatClampNeg l2)))] H := hP
        have hD : va_D A [(aM, .inr (6, [.ref aM_page, .int M_pageMany, .ref aM_readDeeds, .int M_readMany, .int M_readBase, .int M_state, .int M_beings, .int M_number, .int M_deedsDone, .ref aM_rows, .ref aM_far, .ref aM_firsts, .ref aM_line, .int M_lined, .int (M_toldMany + (1 : Int32)), .ref aM_toldRows, .ref aM_parts, .int M_seedNow, .int M_keptNumber, .int M_keptBeings, .int M_keptDeeds, .int M_keptTold, .ref aM_keptToldRows, .long M_hash])), (aM_toldRows, .inl (cI, 8, .inl (upd (upd M_toldRows ((2 : Int32) * M_toldMany).toNatClampNeg l1) (((2 : Int32) * M_toldMany) + (1 : Int32)).toNatClampNeg l2)))] := hD
        refine lv_aload_n hx hb dX6_told_79 rfl (lv_at hl 0 rfl) ?_
        refine va_get (D := (dC, dI)) (ci := 6) (v := .int (M_toldMany + (1 : Int32))) (C := RX6) (T := TX6) (N := 24) hx hb hts iX6 hown hK hP 0 rfl rfl 14 (by decide) hw2 (fun _ h9 => h9) rfl dX6_told_80 ?_
        subst hQ hAe
        cases hf
        exact W.iret hx hb hr (fun t ht hW => ⟨⟨_, (), rfl, rfl, ⟨by rw [ht]; exact hP, va_K.moved hW.alike hK, hD⟩⟩, hS.F ht⟩) hS.2.2 dX6_told_83 hlocks
      · have hf := sw_ip c3 hf
        refine lv_bipush (v := -104) hx hb dX6_told_40 (by decide) ?_
        subst hQ hAe
        cases hf
        exact W.iret hx hb hr (fun t ht hW => ⟨⟨_, (), rfl, rfl, ⟨by rw [ht]; exact hP, va_K.moved hW.alike hK, hD⟩⟩, hS.F ht⟩) hS.2.2 dX6_told_42 hlocks
    · have hf := sw_ip c2 hf
      refine lv_bipush (v := -102) hx hb dX6_told_29 (by decide) ?_
      subst hQ hAe
      cases hf
      exact W.iret hx hb hr (fun t ht hW => ⟨⟨_, (), rfl, rfl, ⟨by rw [ht]; exact hP, va_K.moved hW.alike hK, hD⟩⟩, hS.F ht⟩) hS.2.2 dX6_told_31 hlocks
  · have hf := sw_ip c1 hf
    refine lv_bipush (v := -101) hx hb dX6_told_8 (by decide) ?_
    subst hQ hAe
    cases hf
    exact W.iret hx hb hr (fun t ht hW => ⟨⟨_, (), rfl, rfl, ⟨by rw [ht]; exact hP, va_K.moved hW.alike hK, hD⟩⟩, hS.F ht⟩) hS.2.2 dX6_told_10 hlocks
abbrev rm_X6_forget : Room := { frames := 0, cells := 0, slots := 0, locals := 0 }
set_option maxHeartbeats 1000000 in
set_option maxRecDepth 100000 in
theorem k_X6_forget (l : Launch) (dC : Nat → ClassId) (dI : Nat → Nat → Nat) (cI cZ : ClassId) (t0 : Nat) (sz : Nat) (aM aM_page aM_readDeeds aM_rows aM_far aM_firsts aM_line aM_toldRows aM_parts aM_keptToldRows : Nat) (M_pageMany : Int32) (M_readMany : Int32) (M_readBase : Int32) (M_state : Int32) (M_beings : Int32) (M_number : Int32) (M_deedsDone : Int32) (M_lined : Int32) (M_toldMany : Int32) (M_seedNow : Int32) (M_keptNumber : Int32) (M_keptBeings : Int32) (M_keptDeeds : Int32) (M_keptTold : Int32) (M_hash : Int64) (rv : Int32) (M_toldMany' : Int32) (hf : F_X6_forget M_toldMany = some (rv, M_toldMany')) : Met l yX6_forget wsX6_forget rm_X6_forget (sw_PW (dC, dI) t0 [(cI, .int), (cZ, .boolean)] [.ref aM] [(aM, .inr (6, [.ref aM_page, .int M_pageMany, .ref aM_readDeeds, .int M_readMany, .int M_readBase, .int M_state, .int M_beings, .int M_number, .int M_deedsDone, .ref aM_rows, .ref aM_far, .ref aM_firsts, .ref aM_line, .int M_lined, .int M_toldMany, .ref aM_toldRows, .ref aM_parts, .int M_seedNow, .int M_keptNumber, .int M_keptBeings, .int M_keptDeeds, .int M_keptTold, .ref aM_keptToldRows, .long M_hash]))] sz) (va_Qi (fun r (_ : Unit) => r = rv) (fun _ t => sw_B (dC, dI) [(cI, .int), (cZ, .boolean)] [(aM, .inr (6, [.ref aM_page, .int M_pageMany, .ref aM_readDeeds, .int M_readMany, .int M_readBase, .int M_state, .int M_beings, .int M_number, .int M_deedsDone, .ref aM_rows, .ref aM_far, .ref aM_firsts, .ref aM_line, .int M_lined, .int M_toldMany', .ref aM_toldRows, .ref aM_parts, .int M_seedNow, .int M_keptNumber, .int M_keptBeings, .int M_keptDeeds, .int M_keptTold, .ref aM_keptToldRows, .long M_hash]))] (va_A [(aM, .inr (6, [.ref aM_page, .int M_pageMany, .ref aM_readDeeds, .int M_readMany, .int M_readBase, .int M_state, .int M_beings, .int M_number, .int M_deedsDone, .ref aM_rows, .ref aM_far, .ref aM_firsts, .ref aM_line, .int M_lined, .int M_toldMany, .ref aM_toldRows, .ref aM_parts, .int M_seedNow, .int M_keptNumber, .int M_keptBeings, .int M_keptDeeds, .int M_keptTold, .ref aM_keptToldRows, .long M_hash]))] sz) t) (va_A [(aM, .inr (6, [.ref aM_page, .int M_pageMany, .ref aM_readDeeds, .int M_readMany, .int M_readBase, .int M_state, .int M_beings, .int M_number, .int M_deedsDone, .ref aM_rows, .ref aM_far, .ref aM_firsts, .ref aM_line, .int M_lined, .int M_toldMany, .ref aM_toldRows, .ref aM_parts, .int M_seedNow, .int M_keptNumber, .int M_keptBeings, .int M_keptDeeds, .int M_keptTold, .ref aM_keptToldRows, .long M_hash]))] sz)) 0 0 (va_A [(aM, .inr (6, [.ref aM_page, .int M_pageMany, .ref aM_readDeeds, .int M_readMany, .int M_readBase, .int M_state, .int M_beings, .int M_number, .int M_deedsDone, .ref aM_rows, .ref aM_far, .ref aM_firsts, .ref aM_line, .int M_lined, .int M_toldMany, .ref aM_toldRows, .ref aM_parts, .int M_seedNow, .int M_keptNumber, .int M_keptBeings, .int M_keptDeeds, .int M_keptTold, .ref aM_keptToldRows, .long M_hash]))] sz) := by
  refine sw_metW (cc := cX6_forget) (maxL := 2) (ret := (some .int)) (lv := [(0, .ref aM)]) (by decide) rfl (Nat.le_of_ble_eq_true rfl) rfl ?_
  intro p e s m below meth c Q A hsz hAe hQ hx hb hr hts hown hlocks hml hmn hP hK hD hE hS hA ls hl
  have hS0 := hS
  have hown : s.vm.findClass RX6 = some m.cls := hown
  have hf := (F_X6_forget.eq_1 _).symm.trans hf
  have hw1 := hts (.fieldLink RX6 156 "SwallowedInTurnModel" "toldMany" "I") (List.mem_of_getElem? (i := 1) (by decide +kernel))
  have iX6 : ∀ w ∈ u_ws RX6 TX6 24, w ∈ wsX6_forget := by decide +kernel
  obtain ⟨H, hH⟩ : ∃ H, H = s.heap := ⟨_, rfl⟩
  obtain ⟨locs, hlo⟩ : ∃ locs : List Loc, locs = [] := ⟨_, rfl⟩
  rw [← hH] at hP
  have hS : va_S A s.heap H locs := by rw [hH, hlo]; exact hS0
  suffices hgo : W p l e rm_X6_forget s m ([.ref aM] : List Value).toArray below meth c H locs 0 0 Q (F0 m 0 ls []) by rw [hH, hlo] at hgo; exact hgo
  refine lv_aload_n hx hb dX6_forget_0 rfl (lv_at hl 0 rfl) ?_
  refine va_get (D := (dC, dI)) (ci := 6) (v := .int M_toldMany) (C := RX6) (T := TX6) (N := 24) hx hb hts iX6 hown hK hP 0 rfl rfl 14 (by decide) hw1 (fun _ h9 => h9) rfl dX6_forget_1 ?_
  refine lv_istore_n (lv' := [(1, .int M_toldMany), (0, .ref aM)]) hx hb dX6_forget_4 rfl hl (by decide) rfl (fun ls hl => ?_)
  refine lv_aload_n hx hb dX6_forget_5 rfl (lv_at hl 1 rfl) ?_
  refine lv_iconst (v := 0) hx hb dX6_forget_6 (by decide) ?_
  refine va_put (D := (dC, dI)) (ci := 6) (v := .int (0 : Int32)) (ty := .int) (C := RX6) (T := TX6) (N := 24) hx hb hts iX6 tyX6 tyX6_ok nmX6 hown hK hP hD hS 0 rfl rfl 14 (by decide) hw1 (fun _ h9 => h9) rfl (by decide +kernel) rfl rfl (Nat.le_of_ble_eq_true rfl) dX6_forget_7 (fun H locs hP hD hS => ?_)
  have hP : va_P (dC, dI) vwCl [(aM, .inr (6, [.ref aM_page, .int M_pageMany, .ref aM_readDeeds, .int M_readMany, .int M_readBase, .int M_state, .int M_beings, .int M_number, .int M_deedsDone, .ref aM_rows, .ref aM_far, .ref aM_firsts, .ref aM_line, .int M_lined, .int (0 : Int32), .ref aM_toldRows, .ref aM_parts, .int M_seedNow, .int M_keptNumber, .int M_keptBeings, .int M_keptDeeds, .int M_keptTold, .ref aM_keptToldRows, .long M_hash]))] H := hP
  have hD : va_D A [(aM, .inr (6, [.ref aM_page, .int M_pageMany, .ref aM_readDeeds, .int M_readMany, .int M_readBase, .int M_state, .int M_beings, .int M_number, .int M_deedsDone, .ref aM_rows, .ref aM_far, .ref aM_firsts, .ref aM_line, .int M_lined, .int (0 : Int32), .ref aM_toldRows, .ref aM_parts, .int M_seedNow, .int M_keptNumber, .int M_keptBeings, .int M_keptDeeds, .int M_keptTold, .ref aM_keptToldRows, .long M_hash]))] := hD
  refine lv_iload_n hx hb dX6_forget_10 rfl (lv_at hl 0 rfl) ?_
  subst hQ hAe
  cases hf
  exact W.iret hx hb hr (fun t ht hW => ⟨⟨_, (), rfl, rfl, ⟨by rw [ht]; exact hP, va_K.moved hW.alike hK, hD⟩⟩, hS.F ht⟩) hS.2.2 dX6_forget_11 hlocks
abbrev rm_X6_isToldSo : Room := { frames := 4, cells := 0, slots := 0, locals := 92 }
set_option maxHeartbeats 1000000 in
set_option maxRecDepth 100000 in
theorem k_X6_isToldSo (l : Launch) (dC : Nat → ClassId) (dI : Nat → Nat → Nat) (cI cZ : ClassId) (t0 : Nat) (aM aM_page aM_readDeeds aM_rows aM_far aM_firsts aM_line aM_toldRows aM_parts aM_keptToldRows : Nat) (M_pageMany : Int32) (M_readMany : Int32) (M_readBase : Int32) (M_state : Int32) (M_beings : Int32) (M_number : Int32) (M_deedsDone : Int32) (M_lined : Int32) (M_toldMany : Int32) (M_seedNow : Int32) (M_keptNumber : Int32) (M_keptBeings : Int32) (M_keptDeeds : Int32) (M_keptTold : Int32) (M_hash : Int64) (M_toldRows : Nat → Int32) (l1 : Int32) (rv : Int32)  (hf : F_X6_isToldSo M_beings M_toldMany M_toldRows l1 = some (rv)) : Met l yX6_isToldSo wsX6_isToldSo rm_X6_isToldSo (sw_PR (dC, dI) t0 [(cI, .int), (cZ, .boolean)] [.ref aM, .int l1] [(aM, .inr (6, [.ref aM_page, .int M_pageMany, .ref aM_readDeeds, .int M_readMany, .int M_readBase, .int M_state, .int M_beings, .int M_number, .int M_deedsDone, .ref aM_rows, .ref aM_far, .ref aM_firsts, .ref aM_line, .int M_lined, .int M_toldMany, .ref aM_toldRows, .ref aM_parts, .int M_seedNow, .int M_keptNumber, .int M_keptBeings, .int M_keptDeeds, .int M_keptTold, .ref aM_keptToldRows, .long M_hash])), (aM_toldRows, .inl (cI, 8, .inl M_toldRows))]) (vp_Si (fun r => r = rv)) 0 0 (fun _ => False) := by
  refine sw_metR (cc := cX6_isToldSo) (maxL := 4) (ret := (some .boolean)) (lv := [(0, .ref aM), (1, .int l1)]) (by decide) rfl (Nat.le_of_ble_eq_true rfl) rfl ?_
  intro p e s m below meth c Q hQ hx hb hr hts hown hlocks hml hP hK hE hS ls hl
  have hown : s.vm.findClass RX6 = some m.cls := hown
  have hf := (F_X6_isToldSo.eq_1 _ _ _ _).symm.trans hf
  have hw1 := hts (.fieldLink RX6 156 "SwallowedInTurnModel" "toldMany" "I") (List.mem_of_getElem? (i := 1) (by decide +kernel))
  have iX6 : ∀ w ∈ u_ws RX6 TX6 24, w ∈ wsX6_isToldSo := by decide +kernel
  have hw2 := hts (.fieldLink RX6 28 "SwallowedInTurnModel" "toldRows" "[I") (List.mem_of_getElem? (i := 2) (by decide +kernel))
  have hf0 := hf
  clear hf
  have hl0 := hl
  clear hl
  have hB_4 :  ∀ (fu : Nat) (l2 : Int32) (l3 : Int32), F_X6_isToldSo_4 M_beings M_toldMany M_toldRows l1 fu l2 l3 = some (rv) → ∀ ls : Array Slot, lv_has ls 4 [(0, .ref aM), (1, .int l1), (2, .int l2), (3, .int l3)] → W p l e rm_X6_isToldSo s m ([.ref aM, .int l1] : List Value).toArray below meth c s.heap [] 0 0 Q (F0 m 4 ls []) := by
    intro   fu
    induction fu with
    | zero =>
      intro l2 l3 hf
      exact nomatch (show (none : Option (Int32)) = some (rv) from hf)
    | succ fu ih =>
      intro l2 l3 hf ls hl
      have hf := (F_X6_isToldSo_4.eq_2 _ _ _ _ _ _ _).symm.trans hf
      refine lv_iload_n hx hb dX6_isToldSo_4 rfl (lv_at hl 3 rfl) ?_
      refine lv_aload_n hx hb dX6_isToldSo_5 rfl (lv_at hl 0 rfl) ?_
      refine va_get (D := (dC, dI)) (ci := 6) (v := .int M_toldMany) (C := RX6) (T := TX6) (N := 24) hx hb hts iX6 hown hK hP 0 rfl rfl 14 (by decide) hw1 (fun _ h9 => h9) rfl dX6_isToldSo_6 ?_
      refine lv_icmp_ge (tgt := 54) hx hb dX6_isToldSo_9 (by decide) (fun c1 => ?_) (fun c1 => ?_)
      · have hf := sw_ip c1 hf
        refine lv_iload_n hx hb dX6_isToldSo_54 rfl (lv_at hl 2 rfl) ?_
        obtain ⟨hn, hf⟩ := sw_zb_s hf
        subst hQ
        exact W.zret hx hb hr hn (fun t ht hW => ⟨_, rfl, Option.some.inj hf, ht⟩) (fun _ h => absurd h List.not_mem_nil) dX6_isToldSo_55 hlocks
      · have hf := sw_in c1 hf
        refine lv_iload_n hx hb dX6_isToldSo_12 rfl (lv_at hl 2 rfl) ?_
        refine lv_if_eq (tgt := 46) hx hb dX6_isToldSo_13 (by decide) (fun c2 => ?_) (fun c2 => ?_)
        · have hf := sw_ip c2 hf
          refine lv_iconst (v := 0) hx hb dX6_isToldSo_46 (by decide) ?_
          refine lv_istore_n (lv' := [(2, .int (0 : Int32)), (0, .ref aM), (1, .int l1), (3, .int l3)]) hx hb dX6_isToldSo_47 rfl hl (by decide) rfl (fun ls hl => ?_)
          refine lv_iinc (v := l3 + (1 : Int32)) (lv' := [(3, .int (l3 + (1 : Int32))), (2, .int (0 : Int32)), (0, .ref aM), (1, .int l1)]) hx hb dX6_isToldSo_48 hl (k := 3) rfl (sw_ii _) (by decide) rfl (fun ls hl => ?_)
          refine lv_goto (tgt := 4) hx hb dX6_isToldSo_51 (by decide) ?_
          exact ih (0 : Int32) (l3 + (1 : Int32)) hf ls (lv_sub hl [2, 3, 1, 0] rfl)
        · have hf := sw_in c2 hf
          refine lv_aload_n hx hb dX6_isToldSo_16 rfl (lv_at hl 0 rfl) ?_
          refine lv_iload_n hx hb dX6_isToldSo_17 rfl (lv_at hl 1 rfl) ?_
          refine lv_aload_n hx hb dX6_isToldSo_18 rfl (lv_at hl 0 rfl) ?_
          refine va_get (D := (dC, dI)) (ci := 6) (v := .ref aM_toldRows) (C := RX6) (T := TX6) (N := 24) hx hb hts iX6 hown hK hP 0 rfl rfl 15 (by decide) hw2 (fun _ h9 => h9) rfl dX6_isToldSo_19 ?_
          refine lv_iconst (v := 2) hx hb dX6_isToldSo_22 (by decide) ?_
          refine lv_iload_n hx hb dX6_isToldSo_23 rfl (lv_at hl 3 rfl) ?_
          refine lv_imul hx hb dX6_isToldSo_24 ?_
          obtain ⟨hi1, hf⟩ := sw_ix_s hf
          refine va_iald hx hb hK hP 1 0 rfl rfl hi1 dX6_isToldSo_25 ?_
          obtain ⟨q2, hq2, hf⟩ := sw_bs hf
          have hPc := hP.sub (ws' := [(aM, .inr (6, [.ref aM_page, .int M_pageMany, .ref aM_readDeeds, .int M_readMany, .int M_readBase, .int M_state, .int M_beings, .int M_number, .int M_deedsDone, .ref aM_rows, .ref aM_far, .ref aM_firsts, .ref aM_line, .int M_lined, .int M_toldMany, .ref aM_toldRows, .ref aM_parts, .int M_seedNow, .int M_keptNumber, .int M_keptBeings, .int M_keptDeeds, .int M_keptTold, .ref aM_keptToldRows, .long M_hash]))]) [0] rfl
          refine sw_rd (W.runV (As := [.int l1, .int (M_toldRows ((2 : Int32) * l3).toNatClampNeg)]) (rest := []) ⟨hx, hb, hml, hown, hts⟩ (k_X6_heardBy l dC dI cI cZ t0 aM aM_page aM_readDeeds aM_rows aM_far aM_firsts aM_line aM_toldRows aM_parts aM_keptToldRows M_pageMany M_readMany M_readBase M_state M_beings M_number M_deedsDone M_lined M_toldMany M_seedNow M_keptNumber M_keptBeings M_keptDeeds M_keptTold M_hash l1 (M_toldRows ((2 : Int32) * l3).toNatClampNeg) q2 hq2) (cwV 2 hts gX6_isToldSo_X6_heardBy rfl rfl rfl (by decide +kernel) ⟨Nat.le_of_ble_eq_true rfl, Nat.le_of_ble_eq_true rfl⟩) ⟨sw_PR_bl, va_recv hK hPc (ci := 6) (q0 := 0) rfl rfl, sw_PR_pre hK hPc hE hS⟩ rfl rfl hl.1 rfl (lv_room (Nat.le_of_ble_eq_true rfl)) dX6_isToldSo_26 ⟨Nat.zero_le _, Nat.zero_le _⟩) ?_
          refine lv_aload_n hx hb dX6_isToldSo_29 rfl (lv_at hl 0 rfl) ?_
          refine va_get (D := (dC, dI)) (ci := 6) (v := .ref aM_toldRows) (C := RX6) (T := TX6) (N := 24) hx hb hts iX6 hown hK hP 0 rfl rfl 15 (by decide) hw2 (fun _ h9 => h9) rfl dX6_isToldSo_30 ?_
          refine lv_iconst (v := 2) hx hb dX6_isToldSo_33 (by decide) ?_
          refine lv_iload_n hx hb dX6_isToldSo_34 rfl (lv_at hl 3 rfl) ?_
          refine lv_imul hx hb dX6_isToldSo_35 ?_
          refine lv_iconst (v := 1) hx hb dX6_isToldSo_36 (by decide) ?_
          refine lv_iadd hx hb dX6_isToldSo_37 ?_
          obtain ⟨hi3, hf⟩ := sw_ix_s hf
          refine va_iald hx hb hK hP 1 0 rfl rfl hi3 dX6_isToldSo_38 ?_
          refine lv_icmp_ne (tgt := 46) hx hb dX6_isToldSo_39 (by decide) (fun c3 => ?_) (fun c3 => ?_)
          · have hf := sw_in c3 hf
            refine lv_iconst (v := 0) hx hb dX6_isToldSo_46 (by decide) ?_
            refine lv_istore_n (lv' := [(2, .int (0 : Int32)), (0, .ref aM), (1, .int l1), (3, .int l3)]) hx hb dX6_isToldSo_47 rfl hl (by decide) rfl (fun ls hl => ?_)
            refine lv_iinc (v := l3 + (1 : Int32)) (lv' := [(3, .int (l3 + (1 : Int32))), (2, .int (0 : Int32)), (0, .ref aM), (1, .int l1)]) hx hb dX6_isToldSo_48 hl (k := 3) rfl (sw_ii _) (by decide) rfl (fun ls hl => ?_)
            refine lv_goto (tgt := 4) hx hb dX6_isToldSo_51 (by decide) ?_
            exact ih (0 : Int32) (l3 + (1 : Int32)) hf ls (lv_sub hl [2, 3, 1, 0] rfl)
          · have hf := sw_ip c3 hf
            refine lv_iconst (v := 1) hx hb dX6_isToldSo_42 (by decide) ?_
            refine lv_goto (tgt := 47) hx hb dX6_isToldSo_43 (by decide) ?_
            refine lv_istore_n (lv' := [(2, .int (1 : Int32)), (0, .ref aM), (1, .int l1), (3, .int l3)]) hx hb dX6_isToldSo_47 rfl hl (by decide) rfl (fun ls hl => ?_)
            refine lv_iinc (v := l3 + (1 : Int32)) (lv' := [(3, .int (l3 + (1 : Int32))), (2, .int (1 : Int32)), (0, .ref aM), (1, .int l1)]) hx hb dX6_isToldSo_48 hl (k := 3) rfl (sw_ii _) (by decide) rfl (fun ls hl => ?_)
            refine lv_goto (tgt := 4) hx hb dX6_isToldSo_51 (by decide) ?_
            exact ih (1 : Int32) (l3 + (1 : Int32)) hf ls (lv_sub hl [2, 3, 1, 0] rfl)
  have hf := hf0
  have hl := hl0
  refine lv_iconst (v := 1) hx hb dX6_isToldSo_0 (by decide) ?_
  refine lv_istore_n (lv' := [(2, .int (1 : Int32)), (0, .ref aM), (1, .int l1)]) hx hb dX6_isToldSo_1 rfl hl (by decide) rfl (fun ls hl => ?_)
  refine lv_iconst (v := 0) hx hb dX6_isToldSo_2 (by decide) ?_
  refine lv_istore_n (lv' := [(3, .int (0 : Int32)), (2, .int (1 : Int32)), (0, .ref aM), (1, .int l1)]) hx hb dX6_isToldSo_3 rfl hl (by decide) rfl (fun ls hl => ?_)
  exact hB_4   sw_fu (1 : Int32) (0 : Int32) hf ls (lv_sub hl [2, 3, 1, 0] rfl)
abbrev rm_X6_fitMany : Room := { frames := 5, cells := 0, slots := 0, locals := 115 }
set_option maxHeartbeats 1000000 in
set_option maxRecDepth 100000 in
theorem k_X6_fitMany (l : Launch) (dC : Nat → ClassId) (dI : Nat → Nat → Nat) (cI cZ : ClassId) (t0 : Nat) (aM aM_page aM_readDeeds aM_rows aM_far aM_firsts aM_line aM_toldRows aM_parts aM_keptToldRows : Nat) (M_pageMany : Int32) (M_readMany : Int32) (M_readBase : Int32) (M_state : Int32) (M_beings : Int32) (M_number : Int32) (M_deedsDone : Int32) (M_lined : Int32) (M_toldMany : Int32) (M_seedNow : Int32) (M_keptNumber : Int32) (M_keptBeings : Int32) (M_keptDeeds : Int32) (M_keptTold : Int32) (M_hash : Int64) (M_line : Nat → Int32) (M_toldRows : Nat → Int32) (rv : Int32)  (hf : F_X6_fitMany M_beings M_lined M_toldMany M_line M_toldRows = some (rv)) : Met l yX6_fitMany wsX6_fitMany rm_X6_fitMany (sw_PR (dC, dI) t0 [(cI, .int), (cZ, .boolean)] [.ref aM] [(aM, .inr (6, [.ref aM_page, .int M_pageMany, .ref aM_readDeeds, .int M_readMany, .int M_readBase, .int M_state, .int M_beings, .int M_number, .int M_deedsDone, .ref aM_rows, .ref aM_far, .ref aM_firsts, .ref aM_line, .int M_lined, .int M_toldMany, .ref aM_toldRows, .ref aM_parts, .int M_seedNow, .int M_keptNumber, .int M_keptBeings, .int M_keptDeeds, .int M_keptTold, .ref aM_keptToldRows, .long M_hash])), (aM_line, .inl (cI, 7776, .inl M_line)), (aM_toldRows, .inl (cI, 8, .inl M_toldRows))]) (vp_Si (fun r => r = rv)) 0 0 (fun _ => False) := by
  refine sw_metR (cc := cX6_fitMany) (maxL := 3) (ret := (some .int)) (lv := [(0, .ref aM)]) (by decide) rfl (Nat.le_of_ble_eq_true rfl) rfl ?_
  intro p e s m below meth c Q hQ hx hb hr hts hown hlocks hml hP hK hE hS ls hl
  have hown : s.vm.findClass RX6 = some m.cls := hown
  have hf := (F_X6_fitMany.eq_1 _ _ _ _ _).symm.trans hf
  have hw1 := hts (.fieldLink RX6 140 "SwallowedInTurnModel" "lined" "I") (List.mem_of_getElem? (i := 1) (by decide +kernel))
  have iX6 : ∀ w ∈ u_ws RX6 TX6 24, w ∈ wsX6_fitMany := by decide +kernel
  have hw2 := hts (.fieldLink RX6 25 "SwallowedInTurnModel" "line" "[I") (List.mem_of_getElem? (i := 2) (by decide +kernel))
  have hf0 := hf
  clear hf
  have hl0 := hl
  clear hl
  have hB_31 : ∀ (l2 : Int32) (s0 : Int32) (s1 : Int32),∀ (k4 : Int32 → Int32 → Option (Int32)), (∀ (l1 : Int32) (l2 : Int32), k4 l1 l2 = some (rv) → ∀ ls : Array Slot, lv_has ls 3 [(0, .ref aM), (1, .int l1), (2, .int l2)] → W p l e rm_X6_fitMany s m ([.ref aM] : List Value).toArray below meth c s.heap [] 0 0 Q (F0 m 4 ls [])) →  F_X6_fitMany_31 k4 M_beings M_lined M_toldMany M_line M_toldRows l2 s0 s1 = some (rv) → ∀ ls : Array Slot, lv_has ls 3 [(0, .ref aM), (2, .int l2)] → W p l e rm_X6_fitMany s m ([.ref aM] : List Value).toArray below meth c s.heap [] 0 0 Q (F0 m 31 ls [.int s1, .int s0]) := by
    intro l2 s0 s1 k4 hk4 hf ls hl
    have hf := (F_X6_fitMany_31.eq_1 _ _ _ _ _ _ _ _ _).symm.trans hf
    refine lv_iadd hx hb dX6_fitMany_31 ?_
    refine lv_istore_n (lv' := [(1, .int (s0 + s1)), (0, .ref aM), (2, .int l2)]) hx hb dX6_fitMany_32 rfl hl (by decide) rfl (fun ls hl => ?_)
    refine lv_iinc (v := l2 + (1 : Int32)) (lv' := [(2, .int (l2 + (1 : Int32))), (1, .int (s0 + s1)), (0, .ref aM)]) hx hb dX6_fitMany_33 hl (k := 2) rfl (sw_ii _) (by decide) rfl (fun ls hl => ?_)
    refine lv_goto (tgt := 4) hx hb dX6_fitMany_36 (by decide) ?_
    exact hk4 (s0 + s1) (l2 + (1 : Int32)) hf ls (lv_sub hl [2, 1, 0] rfl)
  have hB_4 :  ∀ (fu : Nat) (l1 : Int32) (l2 : Int32), F_X6_fitMany_4 M_beings M_lined M_toldMany M_line M_toldRows fu l1 l2 = some (rv) → ∀ ls : Array Slot, lv_has ls 3 [(0, .ref aM), (1, .int l1), (2, .int l2)] → W p l e rm_X6_fitMany s m ([.ref aM] : List Value).toArray below meth c s.heap [] 0 0 Q (F0 m 4 ls []) := by
    intro   fu
    induction fu with
    | zero =>
      intro l1 l2 hf
      exact nomatch (show (none : Option (Int32)) = some (rv) from hf)
    | succ fu ih =>
      intro l1 l2 hf ls hl
      have hf := (F_X6_fitMany_4.eq_2 _ _ _ _ _ _ _ _).symm.trans hf
      refine lv_iload_n hx hb dX6_fitMany_4 rfl (lv_at hl 2 rfl) ?_
      refine lv_aload_n hx hb dX6_fitMany_5 rfl (lv_at hl 0 rfl) ?_
      refine va_get (D := (dC, dI)) (ci := 6) (v := .int M_lined) (C := RX6) (T := TX6) (N := 24) hx hb hts iX6 hown hK hP 0 rfl rfl 13 (by decide) hw1 (fun _ h9 => h9) rfl dX6_fitMany_6 ?_
      refine lv_icmp_ge (tgt := 39) hx hb dX6_fitMany_9 (by decide) (fun c1 => ?_) (fun c1 => ?_)
      · have hf := sw_ip c1 hf
        refine lv_iload_n hx hb dX6_fitMany_39 rfl (lv_at hl 1 rfl) ?_
        subst hQ
        exact W.iret hx hb hr (fun t ht hW => ⟨_, rfl, Option.some.inj hf, ht⟩) (fun _ h => absurd h List.not_mem_nil) dX6_fitMany_40 hlocks
      · have hf := sw_in c1 hf
        refine lv_iload_n hx hb dX6_fitMany_12 rfl (lv_at hl 1 rfl) ?_
        refine lv_aload_n hx hb dX6_fitMany_13 rfl (lv_at hl 0 rfl) ?_
        refine lv_aload_n hx hb dX6_fitMany_14 rfl (lv_at hl 0 rfl) ?_
        refine va_get (D := (dC, dI)) (ci := 6) (v := .ref aM_line) (C := RX6) (T := TX6) (N := 24) hx hb hts iX6 hown hK hP 0 rfl rfl 12 (by decide) hw2 (fun _ h9 => h9) rfl dX6_fitMany_15 ?_
        refine lv_iload_n hx hb dX6_fitMany_18 rfl (lv_at hl 2 rfl) ?_
        obtain ⟨hi1, hf⟩ := sw_ix_s hf
        refine va_iald hx hb hK hP 1 0 rfl rfl hi1 dX6_fitMany_19 ?_
        obtain ⟨q2, hq2, hf⟩ := sw_bs hf
        have hPc := hP.sub (ws' := [(aM, .inr (6, [.ref aM_page, .int M_pageMany, .ref aM_readDeeds, .int M_readMany, .int M_readBase, .int M_state, .int M_beings, .int M_number, .int M_deedsDone, .ref aM_rows, .ref aM_far, .ref aM_firsts, .ref aM_line, .int M_lined, .int M_toldMany, .ref aM_toldRows, .ref aM_parts, .int M_seedNow, .int M_keptNumber, .int M_keptBeings, .int M_keptDeeds, .int M_keptTold, .ref aM_keptToldRows, .long M_hash])), (aM_toldRows, .inl (cI, 8, .inl M_toldRows))]) [0, 2] rfl
        refine sw_rd (W.runV (As := [.int (M_line l2.toNatClampNeg)]) (rest := [.int l1]) ⟨hx, hb, hml, hown, hts⟩ (k_X6_isToldSo l dC dI cI cZ t0 aM aM_page aM_readDeeds aM_rows aM_far aM_firsts aM_line aM_toldRows aM_parts aM_keptToldRows M_pageMany M_readMany M_readBase M_state M_beings M_number M_deedsDone M_lined M_toldMany M_seedNow M_keptNumber M_keptBeings M_keptDeeds M_keptTold M_hash M_toldRows (M_line l2.toNatClampNeg) q2 hq2) (cwV 1 hts gX6_fitMany_X6_isToldSo rfl rfl rfl (by decide +kernel) ⟨Nat.le_of_ble_eq_true rfl, Nat.le_of_ble_eq_true rfl⟩) ⟨sw_PR_bl, va_recv hK hPc (ci := 6) (q0 := 0) rfl rfl, sw_PR_pre hK hPc hE hS⟩ rfl rfl hl.1 rfl (lv_room (Nat.le_of_ble_eq_true rfl)) dX6_fitMany_20 ⟨Nat.zero_le _, Nat.zero_le _⟩) ?_
        refine lv_if_eq (tgt := 30) hx hb dX6_fitMany_23 (by decide) (fun c2 => ?_) (fun c2 => ?_)
        · have hf := sw_ip c2 hf
          refine lv_iconst (v := 0) hx hb dX6_fitMany_30 (by decide) ?_
          exact hB_31 l2 l1 (0 : Int32) (F_X6_fitMany_4  M_beings M_lined M_toldMany M_line M_toldRows fu) ih hf ls (lv_sub hl [0, 2] rfl)
        · have hf := sw_in c2 hf
          refine lv_iconst (v := 1) hx hb dX6_fitMany_26 (by decide) ?_
          refine lv_goto (tgt := 31) hx hb dX6_fitMany_27 (by decide) ?_
          exact hB_31 l2 l1 (1 : Int32) (F_X6_fitMany_4  M_beings M_lined M_toldMany M_line M_toldRows fu) ih hf ls (lv_sub hl [0, 2] rfl)
  have hf := hf0
  have hl := hl0
  refine lv_iconst (v := 0) hx hb dX6_fitMany_0 (by decide) ?_
  refine lv_istore_n (lv' := [(1, .int (0 : Int32)), (0, .ref aM)]) hx hb dX6_fitMany_1 rfl hl (by decide) rfl (fun ls hl => ?_)
  refine lv_iconst (v := 0) hx hb dX6_fitMany_2 (by decide) ?_
  refine lv_istore_n (lv' := [(2, .int (0 : Int32)), (1, .int (0 : Int32)), (0, .ref aM)]) hx hb dX6_fitMany_3 rfl hl (by decide) rfl (fun ls hl => ?_)
  exact hB_4   sw_fu (0 : Int32) (0 : Int32) hf ls (lv_sub hl [2, 1, 0] rfl)
abbrev rm_X6_fits : Room := { frames := 6, cells := 0, slots := 0, locals := 143 }
set_option maxHeartbeats 1000000 in
set_option maxRecDepth 100000 in
theorem k_X6_fits (l : Launch) (dC : Nat → ClassId) (dI : Nat → Nat → Nat) (cI cZ : ClassId) (t0 : Nat) (sz : Nat) (aM aM_page aM_readDeeds aM_rows aM_far aM_firsts aM_line aM_toldRows aM_parts aM_keptToldRows : Nat) (M_pageMany : Int32) (M_readMany : Int32) (M_readBase : Int32) (M_state : Int32) (M_beings : Int32) (M_number : Int32) (M_deedsDone : Int32) (M_lined : Int32) (M_toldMany : Int32) (M_seedNow : Int32) (M_keptNumber : Int32) (M_keptBeings : Int32) (M_keptDeeds : Int32) (M_keptTold : Int32) (M_hash : Int64) (M_rows : Nat → Int32) (M_far : Nat → Int32) (M_firsts : Nat → Int32) (M_line : Nat → Int32) (M_toldRows : Nat → Int32) (rv : Int32) (M_lined' : Int32) (M_far' : Nat → Int32) (M_firsts' : Nat → Int32) (M_line' : Nat → Int32) (hf : F_X6_fits M_beings M_number M_lined M_toldMany M_rows M_far M_firsts M_line M_toldRows = some (rv, M_lined', M_far', M_firsts', M_line')) : Met l yX6_fits wsX6_fits rm_X6_fits (sw_PW (dC, dI) t0 [(cI, .int), (cZ, .boolean)] [.ref aM] [(aM, .inr (6, [.ref aM_page, .int M_pageMany, .ref aM_readDeeds, .int M_readMany, .int M_readBase, .int M_state, .int M_beings, .int M_number, .int M_deedsDone, .ref aM_rows, .ref aM_far, .ref aM_firsts, .ref aM_line, .int M_lined, .int M_toldMany, .ref aM_toldRows, .ref aM_parts, .int M_seedNow, .int M_keptNumber, .int M_keptBeings, .int M_keptDeeds, .int M_keptTold, .ref aM_keptToldRows, .long M_hash])), (aM_rows, .inl (cI, 20, .inl M_rows)), (aM_far, .inl (cI, 7776, .inl M_far)), (aM_firsts, .inl (cI, 7776, .inl M_firsts)), (aM_line, .inl (cI, 7776, .inl M_line)), (aM_toldRows, .inl (cI, 8, .inl M_toldRows))] sz) (va_Qi (fun r (_ : Unit) => r = rv) (fun _ t => sw_B (dC, dI) [(cI, .int), (cZ, .boolean)] [(aM, .inr (6, [.ref aM_page, .int M_pageMany, .ref aM_readDeeds, .int M_readMany, .int M_readBase, .int M_state, .int M_beings, .int M_number, .int M_deedsDone, .ref aM_rows, .ref aM_far, .ref aM_firsts, .ref aM_line, .int M_lined', .int M_toldMany, .ref aM_toldRows, .ref aM_parts, .int M_seedNow, .int M_keptNumber, .int M_keptBeings, .int M_keptDeeds, .int M_keptTold, .ref aM_keptToldRows, .long M_hash])), (aM_rows, .inl (cI, 20, .inl M_rows)), (aM_far, .inl (cI, 7776, .inl M_far')), (aM_firsts, .inl (cI, 7776, .inl M_firsts')), (aM_line, .inl (cI, 7776, .inl M_line')), (aM_toldRows, .inl (cI, 8, .inl M_toldRows))] (va_A [(aM, .inr (6, [.ref aM_page, .int M_pageMany, .ref aM_readDeeds, .int M_readMany, .int M_readBase, .int M_state, .int M_beings, .int M_number, .int M_deedsDone, .ref aM_rows, .ref aM_far, .ref aM_firsts, .ref aM_line, .int M_lined, .int M_toldMany, .ref aM_toldRows, .ref aM_parts, .int M_seedNow, .int M_keptNumber, .int M_keptBeings, .int M_keptDeeds, .int M_keptTold, .ref aM_keptToldRows, .long M_hash])), (aM_rows, .inl (cI, 20, .inl M_rows)), (aM_far, .inl (cI, 7776, .inl M_far)), (aM_firsts, .inl (cI, 7776, .inl M_firsts)), (aM_line, .inl (cI, 7776, .inl M_line)), (aM_toldRows, .inl (cI, 8, .inl M_toldRows))] sz) t) (va_A [(aM, .inr (6, [.ref aM_page, .int M_pageMany, .ref aM_readDeeds, .int M_readMany, .int M_readBase, .int M_state, .int M_beings, .int M_number, .int M_deedsDone, .ref aM_rows, .ref aM_far, .ref aM_firsts, .ref aM_line, .int M_lined, .int M_toldMany, .ref aM_toldRows, .ref aM_parts, .int M_seedNow, .int M_keptNumber, .int M_keptBeings, .int M_keptDeeds, .int M_keptTold, .ref aM_keptToldRows, .long M_hash])), (aM_rows, .inl (cI, 20, .inl M_rows)), (aM_far, .inl (cI, 7776, .inl M_far)), (aM_firsts, .inl (cI, 7776, .inl M_firsts)), (aM_line, .inl (cI, 7776, .inl M_line)), (aM_toldRows, .inl (cI, 8, .inl M_toldRows))] sz)) 0 0 (va_A [(aM, .inr (6, [.ref aM_page, .int M_pageMany, .ref aM_readDeeds, .int M_readMany, .int M_readBase, .int M_state, .int M_beings, .int M_number, .int M_deedsDone, .ref aM_rows, .ref aM_far, .ref aM_firsts, .ref aM_line, .int M_lined, .int M_toldMany, .ref aM_toldRows, .ref aM_parts, .int M_seedNow, .int M_keptNumber, .int M_keptBeings, .int M_keptDeeds, .int M_keptTold, .ref aM_keptToldRows, .long M_hash])), (aM_rows, .inl (cI, 20, .inl M_rows)), (aM_far, .inl (cI, 7776, .inl M_far)), (aM_firsts, .inl (cI, 7776, .inl M_firsts)), (aM_line, .inl (cI, 7776, .inl M_line)), (aM_toldRows, .inl (cI, 8, .inl M_toldRows))] sz) := by
  refine sw_metW (cc := cX6_fits) (maxL := 1) (ret := (some .int)) (lv := [(0, .ref aM)]) (by decide) rfl (Nat.le_of_ble_eq_true rfl) rfl ?_
  intro p e s m below meth c Q A hsz hAe hQ hx hb hr hts hown hlocks hml hmn hP hK hD hE hS hA ls hl
  have hS0 := hS
  have hown : s.vm.findClass RX6 = some m.cls := hown
  have hf := (F_X6_fits.eq_1 _ _ _ _ _ _ _ _ _).symm.trans hf
  obtain ⟨H, hH⟩ : ∃ H, H = s.heap := ⟨_, rfl⟩
  obtain ⟨locs, hlo⟩ : ∃ locs : List Loc, locs = [] := ⟨_, rfl⟩
  rw [← hH] at hP
  have hS : va_S A s.heap H locs := by rw [hH, hlo]; exact hS0
  suffices hgo : W p l e rm_X6_fits s m ([.ref aM] : List Value).toArray below meth c H locs 0 0 Q (F0 m 0 ls []) by rw [hH, hlo] at hgo; exact hgo
  refine lv_aload_n hx hb dX6_fits_0 rfl (lv_at hl 0 rfl) ?_
  obtain ⟨q1, hq1, hf⟩ := sw_bs hf
  have hPc := hP.sub (ws' := [(aM, .inr (6, [.ref aM_page, .int M_pageMany, .ref aM_readDeeds, .int M_readMany, .int M_readBase, .int M_state, .int M_beings, .int M_number, .int M_deedsDone, .ref aM_rows, .ref aM_far, .ref aM_firsts, .ref aM_line, .int M_lined, .int M_toldMany, .ref aM_toldRows, .ref aM_parts, .int M_seedNow, .int M_keptNumber, .int M_keptBeings, .int M_keptDeeds, .int M_keptTold, .ref aM_keptToldRows, .long M_hash])), (aM_rows, .inl (cI, 20, .inl M_rows)), (aM_far, .inl (cI, 7776, .inl M_far)), (aM_firsts, .inl (cI, 7776, .inl M_firsts)), (aM_line, .inl (cI, 7776, .inl M_line))]) [0, 1, 2, 3, 4] rfl
  have hDc := hD.sub (ws' := [(aM, .inr (6, [.ref aM_page, .int M_pageMany, .ref aM_readDeeds, .int M_readMany, .int M_readBase, .int M_state, .int M_beings, .int M_number, .int M_deedsDone, .ref aM_rows, .ref aM_far, .ref aM_firsts, .ref aM_line, .int M_lined, .int M_toldMany, .ref aM_toldRows, .ref aM_parts, .int M_seedNow, .int M_keptNumber, .int M_keptBeings, .int M_keptDeeds, .int M_keptTold, .ref aM_keptToldRows, .long M_hash])), (aM_rows, .inl (cI, 20, .inl M_rows)), (aM_far, .inl (cI, 7776, .inl M_far)), (aM_firsts, .inl (cI, 7776, .inl M_firsts)), (aM_line, .inl (cI, 7776, .inl M_line))]) [0, 1, 2, 3, 4] (by decide) rfl
  have hFc := va_free (wc := [(aM, .inr (6, [.ref aM_page, .int M_pageMany, .ref aM_readDeeds, .int M_readMany, .int M_readBase, .int M_state, .int M_beings, .int M_number, .int M_deedsDone, .ref aM_rows, .ref aM_far, .ref aM_firsts, .ref aM_line, .int M_lined, .int M_toldMany, .ref aM_toldRows, .ref aM_parts, .int M_seedNow, .int M_keptNumber, .int M_keptBeings, .int M_keptDeeds, .int M_keptTold, .ref aM_keptToldRows, .long M_hash])), (aM_rows, .inl (cI, 20, .inl M_rows)), (aM_far, .inl (cI, 7776, .inl M_far)), (aM_firsts, .inl (cI, 7776, .inl M_firsts)), (aM_line, .inl (cI, 7776, .inl M_line))]) hD hS hA [0, 1, 2, 3, 4] rfl
  refine sw_wv (wn := [(aM, .inr (6, [.ref aM_page, .int M_pageMany, .ref aM_readDeeds, .int M_readMany, .int M_readBase, .int M_state, .int M_beings, .int M_number, .int M_deedsDone, .ref aM_rows, .ref aM_far, .ref aM_firsts, .ref aM_line, .int q1.1, .int M_toldMany, .ref aM_toldRows, .ref aM_parts, .int M_seedNow, .int M_keptNumber, .int M_keptBeings, .int M_keptDeeds, .int M_keptTold, .ref aM_keptToldRows, .long M_hash])), (aM_rows, .inl (cI, 20, .inl M_rows)), (aM_far, .inl (cI, 7776, .inl q1.2.1)), (aM_firsts, .inl (cI, 7776, .inl q1.2.2.1)), (aM_line, .inl (cI, 7776, .inl q1.2.2.2)), (aM_toldRows, .inl (cI, 8, .inl M_toldRows))]) (w1 := [(aM, .inr (6, [.ref aM_page, .int M_pageMany, .ref aM_readDeeds, .int M_readMany, .int M_readBase, .int M_state, .int M_beings, .int M_number, .int M_deedsDone, .ref aM_rows, .ref aM_far, .ref aM_firsts, .ref aM_line, .int q1.1, .int M_toldMany, .ref aM_toldRows, .ref aM_parts, .int M_seedNow, .int M_keptNumber, .int M_keptBeings, .int M_keptDeeds, .int M_keptTold, .ref aM_keptToldRows, .long M_hash])), (aM_rows, .inl (cI, 20, .inl M_rows)), (aM_far, .inl (cI, 7776, .inl q1.2.1)), (aM_firsts, .inl (cI, 7776, .inl q1.2.2.1)), (aM_line, .inl (cI, 7776, .inl q1.2.2.2))]) (wr := [(aM_toldRows, .inl (cI, 8, .inl M_toldRows))]) (va_runV (As := []) (rest := []) ⟨hx, hb, hml, hown, hts⟩ (k_X6_lay l dC dI cI cZ t0 H.size aM aM_page aM_readDeeds aM_rows aM_far aM_firsts aM_line aM_toldRows aM_parts aM_keptToldRows M_pageMany M_readMany M_readBase M_state M_beings M_number M_deedsDone M_lined M_toldMany M_seedNow M_keptNumber M_keptBeings M_keptDeeds M_keptTold M_hash M_rows M_far M_firsts M_line q1.1 q1.2.1 q1.2.2.1 q1.2.2.2 hq1) (cwV 0 hts gX6_fits_X6_lay rfl rfl rfl (by decide +kernel) ⟨Nat.le_of_ble_eq_true rfl, Nat.le_of_ble_eq_true rfl⟩) ⟨sw_PW_bl, va_recv hK hPc (ci := 6) (q0 := 0) rfl rfl, sw_PW_pre hK hPc hDc hE hS hFc⟩ rfl rfl hl.1 rfl (lv_room (Nat.le_of_ble_eq_true rfl)) dX6_fits_1 ⟨Nat.zero_le _, Nat.zero_le _⟩) hS hP hD hFc [0, 1, 2, 3, 4] [5] [1, 2, 3, 4, 5, 0] rfl rfl (by decide) (by decide) (by decide) rfl (fun H locs hP hD hS => ?_)
  refine lv_aload_n hx hb dX6_fits_4 rfl (lv_at hl 0 rfl) ?_
  obtain ⟨q2, hq2, hf⟩ := sw_bs hf
  have hPc := hP.sub (ws' := [(aM, .inr (6, [.ref aM_page, .int M_pageMany, .ref aM_readDeeds, .int M_readMany, .int M_readBase, .int M_state, .int M_beings, .int M_number, .int M_deedsDone, .ref aM_rows, .ref aM_far, .ref aM_firsts, .ref aM_line, .int q1.1, .int M_toldMany, .ref aM_toldRows, .ref aM_parts, .int M_seedNow, .int M_keptNumber, .int M_keptBeings, .int M_keptDeeds, .int M_keptTold, .ref aM_keptToldRows, .long M_hash])), (aM_line, .inl (cI, 7776, .inl q1.2.2.2)), (aM_toldRows, .inl (cI, 8, .inl M_toldRows))]) [0, 4, 5] rfl
  refine sw_rd (W.runV (As := []) (rest := []) ⟨hx, hb, hml, hown, hts⟩ (k_X6_fitMany l dC dI cI cZ t0 aM aM_page aM_readDeeds aM_rows aM_far aM_firsts aM_line aM_toldRows aM_parts aM_keptToldRows M_pageMany M_readMany M_readBase M_state M_beings M_number M_deedsDone q1.1 M_toldMany M_seedNow M_keptNumber M_keptBeings M_keptDeeds M_keptTold M_hash q1.2.2.2 M_toldRows q2 hq2) (cwV 0 hts gX6_fits_X6_fitMany rfl rfl rfl (by decide +kernel) ⟨Nat.le_of_ble_eq_true rfl, Nat.le_of_ble_eq_true rfl⟩) ⟨sw_PR_bl, va_recv hK hPc (ci := 6) (q0 := 0) rfl rfl, sw_PR_pre hK hPc hE hS⟩ rfl rfl hl.1 rfl (lv_room (Nat.le_of_ble_eq_true rfl)) dX6_fits_5 ⟨Nat.zero_le _, Nat.zero_le _⟩) ?_
  subst hQ hAe
  cases hf
  exact W.iret hx hb hr (fun t ht hW => ⟨⟨_, (), rfl, rfl, ⟨by rw [ht]; exact hP, va_K.moved hW.alike hK, hD⟩⟩, hS.F ht⟩) hS.2.2 dX6_fits_8 hlocks
abbrev rm_X6_sure : Room := { frames := 6, cells := 0, slots := 0, locals := 143 }
set_option maxHeartbeats 1000000 in
set_option maxRecDepth 100000 in
theorem k_X6_sure (l : Launch) (dC : Nat → ClassId) (dI : Nat → Nat → Nat) (cI cZ : ClassId) (t0 : Nat) (sz : Nat) (aM aM_page aM_readDeeds aM_rows aM_far aM_firsts aM_line aM_toldRows aM_parts aM_keptToldRows : Nat) (M_pageMany : Int32) (M_readMany : Int32) (M_readBase : Int32) (M_state : Int32) (M_beings : Int32) (M_number : Int32) (M_deedsDone : Int32) (M_lined : Int32) (M_toldMany : Int32) (M_seedNow : Int32) (M_keptNumber : Int32) (M_keptBeings : Int32) (M_keptDeeds : Int32) (M_keptTold : Int32) (M_hash : Int64) (M_rows : Nat → Int32) (M_far : Nat → Int32) (M_firsts : Nat → Int32) (M_line : Nat → Int32) (M_toldRows : Nat → Int32) (l1 : Int32) (rv : Int32) (M_lined' : Int32) (M_far' : Nat → Int32) (M_firsts' : Nat → Int32) (M_line' : Nat → Int32) (hf : F_X6_sure M_beings M_number M_lined M_toldMany M_rows M_far M_firsts M_line M_toldRows l1 = some (rv, M_lined', M_far', M_firsts', M_line')) : Met l yX6_sure wsX6_sure rm_X6_sure (sw_PW (dC, dI) t0 [(cI, .int), (cZ, .boolean)] [.ref aM, .int l1] [(aM, .inr (6, [.ref aM_page, .int M_pageMany, .ref aM_readDeeds, .int M_readMany, .int M_readBase, .int M_state, .int M_beings, .int M_number, .int M_deedsDone, .ref aM_rows, .ref aM_far, .ref aM_firsts, .ref aM_line, .int M_lined, .int M_toldMany, .ref aM_toldRows, .ref aM_parts, .int M_seedNow, .int M_keptNumber, .int M_keptBeings, .int M_keptDeeds, .int M_keptTold, .ref aM_keptToldRows, .long M_hash])), (aM_rows, .inl (cI, 20, .inl M_rows)), (aM_far, .inl (cI, 7776, .inl M_far)), (aM_firsts, .inl (cI, 7776, .inl M_firsts)), (aM_line, .inl (cI, 7776, .inl M_line)), (aM_toldRows, .inl (cI, 8, .inl M_toldRows))] sz) (va_Qi (fun r (_ : Unit) => r = rv) (fun _ t => sw_B (dC, dI) [(cI, .int), (cZ, .boolean)] [(aM, .inr (6, [.ref aM_page, .int M_pageMany, .ref aM_readDeeds, .int M_readMany, .int M_readBase, .int M_state, .int M_beings, .int M_number, .int M_deedsDone, .ref aM_rows, .ref aM_far, .ref aM_firsts, .ref aM_line, .int M_lined', .int M_toldMany, .ref aM_toldRows, .ref aM_parts, .int M_seedNow, .int M_keptNumber, .int M_keptBeings, .int M_keptDeeds, .int M_keptTold, .ref aM_keptToldRows, .long M_hash])), (aM_rows, .inl (cI, 20, .inl M_rows)), (aM_far, .inl (cI, 7776, .inl M_far')), (aM_firsts, .inl (cI, 7776, .inl M_firsts')), (aM_line, .inl (cI, 7776, .inl M_line')), (aM_toldRows, .inl (cI, 8, .inl M_toldRows))] (va_A [(aM, .inr (6, [.ref aM_page, .int M_pageMany, .ref aM_readDeeds, .int M_readMany, .int M_readBase, .int M_state, .int M_beings, .int M_number, .int M_deedsDone, .ref aM_rows, .ref aM_far, .ref aM_firsts, .ref aM_line, .int M_lined, .int M_toldMany, .ref aM_toldRows, .ref aM_parts, .int M_seedNow, .int M_keptNumber, .int M_keptBeings, .int M_keptDeeds, .int M_keptTold, .ref aM_keptToldRows, .long M_hash])), (aM_rows, .inl (cI, 20, .inl M_rows)), (aM_far, .inl (cI, 7776, .inl M_far)), (aM_firsts, .inl (cI, 7776, .inl M_firsts)), (aM_line, .inl (cI, 7776, .inl M_line)), (aM_toldRows, .inl (cI, 8, .inl M_toldRows))] sz) t) (va_A [(aM, .inr (6, [.ref aM_page, .int M_pageMany, .ref aM_readDeeds, .int M_readMany, .int M_readBase, .int M_state, .int M_beings, .int M_number, .int M_deedsDone, .ref aM_rows, .ref aM_far, .ref aM_firsts, .ref aM_line, .int M_lined, .int M_toldMany, .ref aM_toldRows, .ref aM_parts, .int M_seedNow, .int M_keptNumber, .int M_keptBeings, .int M_keptDeeds, .int M_keptTold, .ref aM_keptToldRows, .long M_hash])), (aM_rows, .inl (cI, 20, .inl M_rows)), (aM_far, .inl (cI, 7776, .inl M_far)), (aM_firsts, .inl (cI, 7776, .inl M_firsts)), (aM_line, .inl (cI, 7776, .inl M_line)), (aM_toldRows, .inl (cI, 8, .inl M_toldRows))] sz)) 0 0 (va_A [(aM, .inr (6, [.ref aM_page, .int M_pageMany, .ref aM_readDeeds, .int M_readMany, .int M_readBase, .int M_state, .int M_beings, .int M_number, .int M_deedsDone, .ref aM_rows, .ref aM_far, .ref aM_firsts, .ref aM_line, .int M_lined, .int M_toldMany, .ref aM_toldRows, .ref aM_parts, .int M_seedNow, .int M_keptNumber, .int M_keptBeings, .int M_keptDeeds, .int M_keptTold, .ref aM_keptToldRows, .long M_hash])), (aM_rows, .inl (cI, 20, .inl M_rows)), (aM_far, .inl (cI, 7776, .inl M_far)), (aM_firsts, .inl (cI, 7776, .inl M_firsts)), (aM_line, .inl (cI, 7776, .inl M_line)), (aM_toldRows, .inl (cI, 8, .inl M_toldRows))] sz) := by
  refine sw_metW (cc := cX6_sure) (maxL := 4) (ret := (some .int)) (lv := [(0, .ref aM), (1, .int l1)]) (by decide) rfl (Nat.le_of_ble_eq_true rfl) rfl ?_
  intro p e s m below meth c Q A hsz hAe hQ hx hb hr hts hown hlocks hml hmn hP hK hD hE hS hA ls hl
  have hS0 := hS
  have hown : s.vm.findClass RX6 = some m.cls := hown
  have hf := (F_X6_sure.eq_1 _ _ _ _ _ _ _ _ _ _).symm.trans hf
  have hw1 := hts (.fieldLink RX6 140 "SwallowedInTurnModel" "lined" "I") (List.mem_of_getElem? (i := 1) (by decide +kernel))
  have iX6 : ∀ w ∈ u_ws RX6 TX6 24, w ∈ wsX6_sure := by decide +kernel
  have hw2 := hts (.fieldLink RX6 25 "SwallowedInTurnModel" "line" "[I") (List.mem_of_getElem? (i := 2) (by decide +kernel))
  have hf0 := hf
  clear hf
  have hP0 := hP
  have hD0 := hD
  clear hP hD hS
  have hl0 := hl
  clear hl
  have hB_59 : ∀ (M_lined : Int32) (M_far : Nat → Int32) (M_firsts : Nat → Int32) (M_line : Nat → Int32) (l3 : Int32) (s0 : Int32) (s1 : Int32),∀ (k19 : Int32 → Int32 → Option (Int32 × Int32 × (Nat → Int32) × (Nat → Int32) × (Nat → Int32))), (∀ (l2 : Int32) (l3 : Int32), k19 l2 l3 = some (rv, M_lined', M_far', M_firsts', M_line') → ∀ (H : Heap) (locs : List Loc), va_P (dC, dI) vwCl [(aM, .inr (6, [.ref aM_page, .int M_pageMany, .ref aM_readDeeds, .int M_readMany, .int M_readBase, .int M_state, .int M_beings, .int M_number, .int M_deedsDone, .ref aM_rows, .ref aM_far, .ref aM_firsts, .ref aM_line, .int M_lined, .int M_toldMany, .ref aM_toldRows, .ref aM_parts, .int M_seedNow, .int M_keptNumber, .int M_keptBeings, .int M_keptDeeds, .int M_keptTold, .ref aM_keptToldRows, .long M_hash])), (aM_rows, .inl (cI, 20, .inl M_rows)), (aM_far, .inl (cI, 7776, .inl M_far)), (aM_firsts, .inl (cI, 7776, .inl M_firsts)), (aM_line, .inl (cI, 7776, .inl M_line)), (aM_toldRows, .inl (cI, 8, .inl M_toldRows))] H → va_D A [(aM, .inr (6, [.ref aM_page, .int M_pageMany, .ref aM_readDeeds, .int M_readMany, .int M_readBase, .int M_state, .int M_beings, .int M_number, .int M_deedsDone, .ref aM_rows, .ref aM_far, .ref aM_firsts, .ref aM_line, .int M_lined, .int M_toldMany, .ref aM_toldRows, .ref aM_parts, .int M_seedNow, .int M_keptNumber, .int M_keptBeings, .int M_keptDeeds, .int M_keptTold, .ref aM_keptToldRows, .long M_hash])), (aM_rows, .inl (cI, 20, .inl M_rows)), (aM_far, .inl (cI, 7776, .inl M_far)), (aM_firsts, .inl (cI, 7776, .inl M_firsts)), (aM_line, .inl (cI, 7776, .inl M_line)), (aM_toldRows, .inl (cI, 8, .inl M_toldRows))] → va_S A s.heap H locs → ∀ ls : Array Slot, lv_has ls 4 [(0, .ref aM), (1, .int l1), (2, .int l2), (3, .int l3)] → W p l e rm_X6_sure s m ([.ref aM, .int l1] : List Value).toArray below meth c H locs 0 0 Q (F0 m 19 ls [])) →  F_X6_sure_59 k19 M_beings M_lined M_toldMany M_far M_firsts M_line M_toldRows l1 l3 s0 s1 = some (rv, M_lined', M_far', M_firsts', M_line') → ∀ (H : Heap) (locs : List Loc), va_P (dC, dI) vwCl [(aM, .inr (6, [.ref aM_page, .int M_pageMany, .ref aM_readDeeds, .int M_readMany, .int M_readBase, .int M_state, .int M_beings, .int M_number, .int M_deedsDone, .ref aM_rows, .ref aM_far, .ref aM_firsts, .ref aM_line, .int M_lined, .int M_toldMany, .ref aM_toldRows, .ref aM_parts, .int M_seedNow, .int M_keptNumber, .int M_keptBeings, .int M_keptDeeds, .int M_keptTold, .ref aM_keptToldRows, .long M_hash])), (aM_rows, .inl (cI, 20, .inl M_rows)), (aM_far, .inl (cI, 7776, .inl M_far)), (aM_firsts, .inl (cI, 7776, .inl M_firsts)), (aM_line, .inl (cI, 7776, .inl M_line)), (aM_toldRows, .inl (cI, 8, .inl M_toldRows))] H → va_D A [(aM, .inr (6, [.ref aM_page, .int M_pageMany, .ref aM_readDeeds, .int M_readMany, .int M_readBase, .int M_state, .int M_beings, .int M_number, .int M_deedsDone, .ref aM_rows, .ref aM_far, .ref aM_firsts, .ref aM_line, .int M_lined, .int M_toldMany, .ref aM_toldRows, .ref aM_parts, .int M_seedNow, .int M_keptNumber, .int M_keptBeings, .int M_keptDeeds, .int M_keptTold, .ref aM_keptToldRows, .long M_hash])), (aM_rows, .inl (cI, 20, .inl M_rows)), (aM_far, .inl (cI, 7776, .inl M_far)), (aM_firsts, .inl (cI, 7776, .inl M_firsts)), (aM_line, .inl (cI, 7776, .inl M_line)), (aM_toldRows, .inl (cI, 8, .inl M_toldRows))] → va_S A s.heap H locs → ∀ ls : Array Slot, lv_has ls 4 [(0, .ref aM), (1, .int l1), (3, .int l3)] → W p l e rm_X6_sure s m ([.ref aM, .int l1] : List Value).toArray below meth c H locs 0 0 Q (F0 m 59 ls [.int s1, .int s0]) := by
    intro M_lined M_far M_firsts M_line l3 s0 s1 k19 hk19 hf H locs hP hD hS ls hl
    have hf := (F_X6_sure_59.eq_1 _ _ _ _ _ _ _ _ _ _ _ _).symm.trans hf
    refine lv_ior hx hb dX6_sure_59 ?_
    refine lv_istore_n (lv' := [(2, .int (s0 ||| s1)), (0, .ref aM), (1, .int l1), (3, .int l3)]) hx hb dX6_sure_60 rfl hl (by decide) rfl (fun ls hl => ?_)
    refine lv_iinc (v := l3 + (1 : Int32)) (lv' := [(3, .int (l3 + (1 : Int32))), (2, .int (s0 ||| s1)), (0, .ref aM), (1, .int l1)]) hx hb dX6_sure_61 hl (k := 3) rfl (sw_ii _) (by decide) rfl (fun ls hl => ?_)
    refine lv_goto (tgt := 19) hx hb dX6_sure_64 (by decide) ?_
    exact hk19 (s0 ||| s1) (l3 + (1 : Int32)) hf H locs hP hD hS ls (lv_sub hl [2, 3, 1, 0] rfl)
  have hB_69 : ∀ (M_lined : Int32) (M_far : Nat → Int32) (M_firsts : Nat → Int32) (M_line : Nat → Int32) (l2 : Int32), ∀ (fu : Nat) (l3 : Int32), F_X6_sure_69 M_lined M_far M_firsts M_line l2 fu l3 = some (rv, M_lined', M_far', M_firsts', M_line') → ∀ (H : Heap) (locs : List Loc), va_P (dC, dI) vwCl [(aM, .inr (6, [.ref aM_page, .int M_pageMany, .ref aM_readDeeds, .int M_readMany, .int M_readBase, .int M_state, .int M_beings, .int M_number, .int M_deedsDone, .ref aM_rows, .ref aM_far, .ref aM_firsts, .ref aM_line, .int M_lined, .int M_toldMany, .ref aM_toldRows, .ref aM_parts, .int M_seedNow, .int M_keptNumber, .int M_keptBeings, .int M_keptDeeds, .int M_keptTold, .ref aM_keptToldRows, .long M_hash])), (aM_rows, .inl (cI, 20, .inl M_rows)), (aM_far, .inl (cI, 7776, .inl M_far)), (aM_firsts, .inl (cI, 7776, .inl M_firsts)), (aM_line, .inl (cI, 7776, .inl M_line)), (aM_toldRows, .inl (cI, 8, .inl M_toldRows))] H → va_D A [(aM, .inr (6, [.ref aM_page, .int M_pageMany, .ref aM_readDeeds, .int M_readMany, .int M_readBase, .int M_state, .int M_beings, .int M_number, .int M_deedsDone, .ref aM_rows, .ref aM_far, .ref aM_firsts, .ref aM_line, .int M_lined, .int M_toldMany, .ref aM_toldRows, .ref aM_parts, .int M_seedNow, .int M_keptNumber, .int M_keptBeings, .int M_keptDeeds, .int M_keptTold, .ref aM_keptToldRows, .long M_hash])), (aM_rows, .inl (cI, 20, .inl M_rows)), (aM_far, .inl (cI, 7776, .inl M_far)), (aM_firsts, .inl (cI, 7776, .inl M_firsts)), (aM_line, .inl (cI, 7776, .inl M_line)), (aM_toldRows, .inl (cI, 8, .inl M_toldRows))] → va_S A s.heap H locs → ∀ ls : Array Slot, lv_has ls 4 [(2, .int l2), (3, .int l3)] → W p l e rm_X6_sure s m ([.ref aM, .int l1] : List Value).toArray below meth c H locs 0 0 Q (F0 m 69 ls []) := by
    intro M_lined M_far M_firsts M_line l2  fu
    induction fu with
    | zero =>
      intro l3 hf
      exact nomatch (show (none : Option (Int32 × Int32 × (Nat → Int32) × (Nat → Int32) × (Nat → Int32))) = some (rv, M_lined', M_far', M_firsts', M_line') from hf)
    | succ fu ih =>
      intro l3 hf H locs hP hD hS ls hl
      have hf := (F_X6_sure_69.eq_2 _ _ _ _ _ _ _).symm.trans hf
      refine lv_iload_n hx hb dX6_sure_69 rfl (lv_at hl 1 rfl) ?_
      refine lv_bipush (v := 6) hx hb dX6_sure_70 (by decide) ?_
      refine lv_icmp_ge (tgt := 92) hx hb dX6_sure_72 (by decide) (fun c1 => ?_) (fun c1 => ?_)
      · have hf := sw_ip c1 hf
        refine lv_bipush (v := -2) hx hb dX6_sure_92 (by decide) ?_
        subst hQ hAe
        cases hf
        exact W.iret hx hb hr (fun t ht hW => ⟨⟨_, (), rfl, rfl, ⟨by rw [ht]; exact hP, va_K.moved hW.alike hK, hD⟩⟩, hS.F ht⟩) hS.2.2 dX6_sure_94 hlocks
      · have hf := sw_in c1 hf
        refine lv_iload_n hx hb dX6_sure_75 rfl (lv_at hl 0 rfl) ?_
        refine lv_iconst (v := 1) hx hb dX6_sure_76 (by decide) ?_
        refine lv_iload_n hx hb dX6_sure_77 rfl (lv_at hl 1 rfl) ?_
        refine lv_ishl hx hb dX6_sure_78 ?_
        refine lv_icmp_ne (tgt := 86) hx hb dX6_sure_79 (by decide) (fun c2 => ?_) (fun c2 => ?_)
        · have hf := sw_in c2 hf
          refine lv_iinc (v := l3 + (1 : Int32)) (lv' := [(3, .int (l3 + (1 : Int32))), (2, .int l2)]) hx hb dX6_sure_86 hl (k := 1) rfl (sw_ii _) (by decide) rfl (fun ls hl => ?_)
          refine lv_goto (tgt := 69) hx hb dX6_sure_89 (by decide) ?_
          exact ih (l3 + (1 : Int32)) hf H locs hP hD hS ls (lv_sub hl [1, 0] rfl)
        · have hf := sw_ip c2 hf
          refine lv_iload_n hx hb dX6_sure_82 rfl (lv_at hl 1 rfl) ?_
          refine lv_iconst (v := 1) hx hb dX6_sure_83 (by decide) ?_
          refine lv_isub hx hb dX6_sure_84 ?_
          subst hQ hAe
          cases hf
          exact W.iret hx hb hr (fun t ht hW => ⟨⟨_, (), rfl, rfl, ⟨by rw [ht]; exact hP, va_K.moved hW.alike hK, hD⟩⟩, hS.F ht⟩) hS.2.2 dX6_sure_85 hlocks
  have hB_19 : ∀ (M_lined : Int32) (M_far : Nat → Int32) (M_firsts : Nat → Int32) (M_line : Nat → Int32), ∀ (fu : Nat) (l2 : Int32) (l3 : Int32), F_X6_sure_19 M_beings M_lined M_toldMany M_far M_firsts M_line M_toldRows l1 fu l2 l3 = some (rv, M_lined', M_far', M_firsts', M_line') → ∀ (H : Heap) (locs : List Loc), va_P (dC, dI) vwCl [(aM, .inr (6, [.ref aM_page, .int M_pageMany, .ref aM_readDeeds, .int M_readMany, .int M_readBase, .int M_state, .int M_beings, .int M_number, .int M_deedsDone, .ref aM_rows, .ref aM_far, .ref aM_firsts, .ref aM_line, .int M_lined, .int M_toldMany, .ref aM_toldRows, .ref aM_parts, .int M_seedNow, .int M_keptNumber, .int M_keptBeings, .int M_keptDeeds, .int M_keptTold, .ref aM_keptToldRows, .long M_hash])), (aM_rows, .inl (cI, 20, .inl M_rows)), (aM_far, .inl (cI, 7776, .inl M_far)), (aM_firsts, .inl (cI, 7776, .inl M_firsts)), (aM_line, .inl (cI, 7776, .inl M_line)), (aM_toldRows, .inl (cI, 8, .inl M_toldRows))] H → va_D A [(aM, .inr (6, [.ref aM_page, .int M_pageMany, .ref aM_readDeeds, .int M_readMany, .int M_readBase, .int M_state, .int M_beings, .int M_number, .int M_deedsDone, .ref aM_rows, .ref aM_far, .ref aM_firsts, .ref aM_line, .int M_lined, .int M_toldMany, .ref aM_toldRows, .ref aM_parts, .int M_seedNow, .int M_keptNumber, .int M_keptBeings, .int M_keptDeeds, .int M_keptTold, .ref aM_keptToldRows, .long M_hash])), (aM_rows, .inl (cI, 20, .inl M_rows)), (aM_far, .inl (cI, 7776, .inl M_far)), (aM_firsts, .inl (cI, 7776, .inl M_firsts)), (aM_line, .inl (cI, 7776, .inl M_line)), (aM_toldRows, .inl (cI, 8, .inl M_toldRows))] → va_S A s.heap H locs → ∀ ls : Array Slot, lv_has ls 4 [(0, .ref aM), (1, .int l1), (2, .int l2), (3, .int l3)] → W p l e rm_X6_sure s m ([.ref aM, .int l1] : List Value).toArray below meth c H locs 0 0 Q (F0 m 19 ls []) := by
    intro M_lined M_far M_firsts M_line  fu
    induction fu with
    | zero =>
      intro l2 l3 hf
      exact nomatch (show (none : Option (Int32 × Int32 × (Nat → Int32) × (Nat → Int32) × (Nat → Int32))) = some (rv, M_lined', M_far', M_firsts', M_line') from hf)
    | succ fu ih =>
      intro l2 l3 hf H locs hP hD hS ls hl
      have hf := (F_X6_sure_19.eq_2 _ _ _ _ _ _ _ _ _ _ _).symm.trans hf
      refine lv_iload_n hx hb dX6_sure_19 rfl (lv_at hl 3 rfl) ?_
      refine lv_aload_n hx hb dX6_sure_20 rfl (lv_at hl 0 rfl) ?_
      refine va_get (D := (dC, dI)) (ci := 6) (v := .int M_lined) (C := RX6) (T := TX6) (N := 24) hx hb hts iX6 hown hK hP 0 rfl rfl 13 (by decide) hw1 (fun _ h9 => h9) rfl dX6_sure_21 ?_
      refine lv_icmp_ge (tgt := 67) hx hb dX6_sure_24 (by decide) (fun c3 => ?_) (fun c3 => ?_)
      · have hf := sw_ip c3 hf
        refine lv_iconst (v := 0) hx hb dX6_sure_67 (by decide) ?_
        refine lv_istore_n (lv' := [(3, .int (0 : Int32)), (0, .ref aM), (1, .int l1), (2, .int l2)]) hx hb dX6_sure_68 rfl hl (by decide) rfl (fun ls hl => ?_)
        exact hB_69 M_lined M_far M_firsts M_line l2  sw_fu (0 : Int32) hf H locs hP hD hS ls (lv_sub hl [3, 0] rfl)
      · have hf := sw_in c3 hf
        refine lv_iload_n hx hb dX6_sure_27 rfl (lv_at hl 2 rfl) ?_
        refine lv_aload_n hx hb dX6_sure_28 rfl (lv_at hl 0 rfl) ?_
        refine lv_aload_n hx hb dX6_sure_29 rfl (lv_at hl 0 rfl) ?_
        refine va_get (D := (dC, dI)) (ci := 6) (v := .ref aM_line) (C := RX6) (T := TX6) (N := 24) hx hb hts iX6 hown hK hP 0 rfl rfl 12 (by decide) hw2 (fun _ h9 => h9) rfl dX6_sure_30 ?_
        refine lv_iload_n hx hb dX6_sure_33 rfl (lv_at hl 3 rfl) ?_
        obtain ⟨hi1, hf⟩ := sw_ix_s hf
        refine va_iald hx hb hK hP 4 0 rfl rfl hi1 dX6_sure_34 ?_
        obtain ⟨q2, hq2, hf⟩ := sw_bs hf
        have hPc := hP.sub (ws' := [(aM, .inr (6, [.ref aM_page, .int M_pageMany, .ref aM_readDeeds, .int M_readMany, .int M_readBase, .int M_state, .int M_beings, .int M_number, .int M_deedsDone, .ref aM_rows, .ref aM_far, .ref aM_firsts, .ref aM_line, .int M_lined, .int M_toldMany, .ref aM_toldRows, .ref aM_parts, .int M_seedNow, .int M_keptNumber, .int M_keptBeings, .int M_keptDeeds, .int M_keptTold, .ref aM_keptToldRows, .long M_hash])), (aM_toldRows, .inl (cI, 8, .inl M_toldRows))]) [0, 5] rfl
        refine sw_rd (W.runV (As := [.int (M_line l3.toNatClampNeg)]) (rest := [.int l2]) ⟨hx, hb, hml, hown, hts⟩ (k_X6_isToldSo l dC dI cI cZ t0 aM aM_page aM_readDeeds aM_rows aM_far aM_firsts aM_line aM_toldRows aM_parts aM_keptToldRows M_pageMany M_readMany M_readBase M_state M_beings M_number M_deedsDone M_lined M_toldMany M_seedNow M_keptNumber M_keptBeings M_keptDeeds M_keptTold M_hash M_toldRows (M_line l3.toNatClampNeg) q2 hq2) (cwV 1 hts gX6_sure_X6_isToldSo rfl rfl rfl (by decide +kernel) ⟨Nat.le_of_ble_eq_true rfl, Nat.le_of_ble_eq_true rfl⟩) ⟨sw_PR_bl, va_recv hK hPc (ci := 6) (q0 := 0) rfl rfl, sw_PR_pre hK hPc hE hS⟩ rfl rfl hl.1 rfl (lv_room (Nat.le_of_ble_eq_true rfl)) dX6_sure_35 ⟨Nat.zero_le _, Nat.zero_le _⟩) ?_
        refine lv_if_eq (tgt := 58) hx hb dX6_sure_38 (by decide) (fun c4 => ?_) (fun c4 => ?_)
        · have hf := sw_ip c4 hf
          refine lv_iconst (v := 0) hx hb dX6_sure_58 (by decide) ?_
          exact hB_59 M_lined M_far M_firsts M_line l3 l2 (0 : Int32) (F_X6_sure_19  M_beings M_lined M_toldMany M_far M_firsts M_line M_toldRows l1 fu) ih hf H locs hP hD hS ls (lv_sub hl [0, 1, 3] rfl)
        · have hf := sw_in c4 hf
          refine lv_iconst (v := 1) hx hb dX6_sure_41 (by decide) ?_
          refine lv_aload_n hx hb dX6_sure_42 rfl (lv_at hl 0 rfl) ?_
          refine va_get (D := (dC, dI)) (ci := 6) (v := .ref aM_line) (C := RX6) (T := TX6) (N := 24) hx hb hts iX6 hown hK hP 0 rfl rfl 12 (by decide) hw2 (fun _ h9 => h9) rfl dX6_sure_43 ?_
          refine lv_iload_n hx hb dX6_sure_46 rfl (lv_at hl 3 rfl) ?_
          obtain ⟨hi3, hf⟩ := sw_ix_s hf
          refine va_iald hx hb hK hP 4 0 rfl rfl hi3 dX6_sure_47 ?_
          refine lv_iload_n hx hb dX6_sure_48 rfl (lv_at hl 1 rfl) ?_
          obtain ⟨q4, hq4, hf⟩ := sw_bs hf
          have hPc := hP.sub (ws' := []) [] rfl
          refine sw_rd (W.runS (As := [.int (M_line l3.toNatClampNeg), .int l1]) (rest := [.int (1 : Int32), .int l2]) ⟨hx, hb, hml, hown, hts⟩ (k_X6_holder l dC dI cI cZ t0 (M_line l3.toNatClampNeg) l1 q4 hq4) (va_cwS 2 hts gX6_sure_X6_holder rfl rfl rfl (by decide +kernel) ⟨Nat.le_of_ble_eq_true rfl, Nat.le_of_ble_eq_true rfl⟩) ⟨sw_PR_bl, sw_PR_pre hK hPc hE hS⟩ rfl rfl hl.1 rfl (lv_room (Nat.le_of_ble_eq_true rfl)) dX6_sure_49 ⟨Nat.zero_le _, Nat.zero_le _⟩) ?_
          refine lv_iconst (v := 1) hx hb dX6_sure_52 (by decide) ?_
          refine lv_iadd hx hb dX6_sure_53 ?_
          refine lv_ishl hx hb dX6_sure_54 ?_
          refine lv_goto (tgt := 59) hx hb dX6_sure_55 (by decide) ?_
          exact hB_59 M_lined M_far M_firsts M_line l3 l2 ((1 : Int32) <<< ((q4 + (1 : Int32)) &&& 31)) (F_X6_sure_19  M_beings M_lined M_toldMany M_far M_firsts M_line M_toldRows l1 fu) ih hf H locs hP hD hS ls (lv_sub hl [0, 1, 3] rfl)
  have hf := hf0
  have hl := hl0
  have hP := hP0
  have hD := hD0
  have hS := hS0
  obtain ⟨H, hH⟩ : ∃ H, H = s.heap := ⟨_, rfl⟩
  obtain ⟨locs, hlo⟩ : ∃ locs : List Loc, locs = [] := ⟨_, rfl⟩
  rw [← hH] at hP
  have hS : va_S A s.heap H locs := by rw [hH, hlo]; exact hS0
  suffices hgo : W p l e rm_X6_sure s m ([.ref aM, .int l1] : List Value).toArray below meth c H locs 0 0 Q (F0 m 0 ls []) by rw [hH, hlo] at hgo; exact hgo
  refine lv_aload_n hx hb dX6_sure_0 rfl (lv_at hl 0 rfl) ?_
  refine lv_iload_n hx hb dX6_sure_1 rfl (lv_at hl 1 rfl) ?_
  obtain ⟨q5, hq5, hf⟩ := sw_bs hf
  have hPc := hP.sub (ws' := [(aM, .inr (6, [.ref aM_page, .int M_pageMany, .ref aM_readDeeds, .int M_readMany, .int M_readBase, .int M_state, .int M_beings, .int M_number, .int M_deedsDone, .ref aM_rows, .ref aM_far, .ref aM_firsts, .ref aM_line, .int M_lined, .int M_toldMany, .ref aM_toldRows, .ref aM_parts, .int M_seedNow, .int M_keptNumber, .int M_keptBeings, .int M_keptDeeds, .int M_keptTold, .ref aM_keptToldRows, .long M_hash]))]) [0] rfl
  refine sw_rd (W.runV (As := [.int l1]) (rest := []) ⟨hx, hb, hml, hown, hts⟩ (k_X6_isBeing l dC dI cI cZ t0 aM aM_page aM_readDeeds aM_rows aM_far aM_firsts aM_line aM_toldRows aM_parts aM_keptToldRows M_pageMany M_readMany M_readBase M_state M_beings M_number M_deedsDone M_lined M_toldMany M_seedNow M_keptNumber M_keptBeings M_keptDeeds M_keptTold M_hash l1 q5 hq5) (cwV 1 hts gX6_sure_X6_isBeing rfl rfl rfl (by decide +kernel) ⟨Nat.le_of_ble_eq_true rfl, Nat.le_of_ble_eq_true rfl⟩) ⟨sw_PR_bl, va_recv hK hPc (ci := 6) (q0 := 0) rfl rfl, sw_PR_pre hK hPc hE hS⟩ rfl rfl hl.1 rfl (lv_room (Nat.le_of_ble_eq_true rfl)) dX6_sure_2 ⟨Nat.zero_le _, Nat.zero_le _⟩) ?_
  refine lv_if_ne (tgt := 11) hx hb dX6_sure_5 (by decide) (fun c5 => ?_) (fun c5 => ?_)
  · have hf := sw_in c5 hf
    refine lv_aload_n hx hb dX6_sure_11 rfl (lv_at hl 0 rfl) ?_
    obtain ⟨q6, hq6, hf⟩ := sw_bs hf
    have hPc := hP.sub (ws' := [(aM, .inr (6, [.ref aM_page, .int M_pageMany, .ref aM_readDeeds, .int M_readMany, .int M_readBase, .int M_state, .int M_beings, .int M_number, .int M_deedsDone, .ref aM_rows, .ref aM_far, .ref aM_firsts, .ref aM_line, .int M_lined, .int M_toldMany, .ref aM_toldRows, .ref aM_parts, .int M_seedNow, .int M_keptNumber, .int M_keptBeings, .int M_keptDeeds, .int M_keptTold, .ref aM_keptToldRows, .long M_hash])), (aM_rows, .inl (cI, 20, .inl M_rows)), (aM_far, .inl (cI, 7776, .inl M_far)), (aM_firsts, .inl (cI, 7776, .inl M_firsts)), (aM_line, .inl (cI, 7776, .inl M_line))]) [0, 1, 2, 3, 4] rfl
    have hDc := hD.sub (ws' := [(aM, .inr (6, [.ref aM_page, .int M_pageMany, .ref aM_readDeeds, .int M_readMany, .int M_readBase, .int M_state, .int M_beings, .int M_number, .int M_deedsDone, .ref aM_rows, .ref aM_far, .ref aM_firsts, .ref aM_line, .int M_lined, .int M_toldMany, .ref aM_toldRows, .ref aM_parts, .int M_seedNow, .int M_keptNumber, .int M_keptBeings, .int M_keptDeeds, .int M_keptTold, .ref aM_keptToldRows, .long M_hash])), (aM_rows, .inl (cI, 20, .inl M_rows)), (aM_far, .inl (cI, 7776, .inl M_far)), (aM_firsts, .inl (cI, 7776, .inl M_firsts)), (aM_line, .inl (cI, 7776, .inl M_line))]) [0, 1, 2, 3, 4] (by decide) rfl
    have hFc := va_free (wc := [(aM, .inr (6, [.ref aM_page, .int M_pageMany, .ref aM_readDeeds, .int M_readMany, .int M_readBase, .int M_state, .int M_beings, .int M_number, .int M_deedsDone, .ref aM_rows, .ref aM_far, .ref aM_firsts, .ref aM_line, .int M_lined, .int M_toldMany, .ref aM_toldRows, .ref aM_parts, .int M_seedNow, .int M_keptNumber, .int M_keptBeings, .int M_keptDeeds, .int M_keptTold, .ref aM_keptToldRows, .long M_hash])), (aM_rows, .inl (cI, 20, .inl M_rows)), (aM_far, .inl (cI, 7776, .inl M_far)), (aM_firsts, .inl (cI, 7776, .inl M_firsts)), (aM_line, .inl (cI, 7776, .inl M_line))]) hD hS hA [0, 1, 2, 3, 4] rfl
    refine sw_wv (wn := [(aM, .inr (6, [.ref aM_page, .int M_pageMany, .ref aM_readDeeds, .int M_readMany, .int M_readBase, .int M_state, .int M_beings, .int M_number, .int M_deedsDone, .ref aM_rows, .ref aM_far, .ref aM_firsts, .ref aM_line, .int q6.1, .int M_toldMany, .ref aM_toldRows, .ref aM_parts, .int M_seedNow, .int M_keptNumber, .int M_keptBeings, .int M_keptDeeds, .int M_keptTold, .ref aM_keptToldRows, .long M_hash])), (aM_rows, .inl (cI, 20, .inl M_rows)), (aM_far, .inl (cI, 7776, .inl q6.2.1)), (aM_firsts, .inl (cI, 7776, .inl q6.2.2.1)), (aM_line, .inl (cI, 7776, .inl q6.2.2.2)), (aM_toldRows, .inl (cI, 8, .inl M_toldRows))]) (w1 := [(aM, .inr (6, [.ref aM_page, .int M_pageMany, .ref aM_readDeeds, .int M_readMany, .int M_readBase, .int M_state, .int M_beings, .int M_number, .int M_deedsDone, .ref aM_rows, .ref aM_far, .ref aM_firsts, .ref aM_line, .int q6.1, .int M_toldMany, .ref aM_toldRows, .ref aM_parts, .int M_seedNow, .int M_keptNumber, .int M_keptBeings, .int M_keptDeeds, .int M_keptTold, .ref aM_keptToldRows, .long M_hash])), (aM_rows, .inl (cI, 20, .inl M_rows)), (aM_far, .inl (cI, 7776, .inl q6.2.1)), (aM_firsts, .inl (cI, 7776, .inl q6.2.2.1)), (aM_line, .inl (cI, 7776, .inl q6.2.2.2))]) (wr := [(aM_toldRows, .inl (cI, 8, .inl M_toldRows))]) (va_runV (As := []) (rest := []) ⟨hx, hb, hml, hown, hts⟩ (k_X6_lay l dC dI cI cZ t0 H.size aM aM_page aM_readDeeds aM_rows aM_far aM_firsts aM_line aM_toldRows aM_parts aM_keptToldRows M_pageMany M_readMany M_readBase M_state M_beings M_number M_deedsDone M_lined M_toldMany M_seedNow M_keptNumber M_keptBeings M_keptDeeds M_keptTold M_hash M_rows M_far M_firsts M_line q6.1 q6.2.1 q6.2.2.1 q6.2.2.2 hq6) (cwV 0 hts gX6_sure_X6_lay rfl rfl rfl (by decide +kernel) ⟨Nat.le_of_ble_eq_true rfl, Nat.le_of_ble_eq_true rfl⟩) ⟨sw_PW_bl, va_recv hK hPc (ci := 6) (q0 := 0) rfl rfl, sw_PW_pre hK hPc hDc hE hS hFc⟩ rfl rfl hl.1 rfl (lv_room (Nat.le_of_ble_eq_true rfl)) dX6_sure_12 ⟨Nat.zero_le _, Nat.zero_le _⟩) hS hP hD hFc [0, 1, 2, 3, 4] [5] [1, 2, 3, 4, 5, 0] rfl rfl (by decide) (by decide) (by decide) rfl (fun H locs hP hD hS => ?_)
    refine lv_iconst (v := 0) hx hb dX6_sure_15 (by decide) ?_
    refine lv_istore_n (lv' := [(2, .int (0 : Int32)), (0, .ref aM), (1, .int l1)]) hx hb dX6_sure_16 rfl hl (by decide) rfl (fun ls hl => ?_)
    refine lv_iconst (v := 0) hx hb dX6_sure_17 (by decide) ?_
    refine lv_istore_n (lv' := [(3, .int (0 : Int32)), (2, .int (0 : Int32)), (0, .ref aM), (1, .int l1)]) hx hb dX6_sure_18 rfl hl (by decide) rfl (fun ls hl => ?_)
    exact hB_19 q6.1 q6.2.1 q6.2.2.1 q6.2.2.2  sw_fu (0 : Int32) (0 : Int32) hf H locs hP hD hS ls (lv_sub hl [2, 3, 1, 0] rfl)
  · have hf := sw_ip c5 hf
    refine lv_bipush (v := -101) hx hb dX6_sure_8 (by decide) ?_
    subst hQ hAe
    cases hf
    exact W.iret hx hb hr (fun t ht hW => ⟨⟨_, (), rfl, rfl, ⟨by rw [ht]; exact hP, va_K.moved hW.alike hK, hD⟩⟩, hS.F ht⟩) hS.2.2 dX6_sure_10 hlocks
