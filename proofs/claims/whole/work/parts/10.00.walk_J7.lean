abbrev rm_J7_fill_53178 : Room := { frames := 0, cells := 0, slots := 0, locals := 0 }
set_option maxHeartbeats 1000000 in
set_option maxRecDepth 100000 in
theorem k_J7_fill_53178 (l : Launch) (dC : Nat → ClassId) (dI : Nat → Nat → Nat) (cI cZ : ClassId) (t0 : Nat) (sz : Nat) (nA : Nat) (aG : Nat) (G : Nat → Int32) (l1 : Int32) (G' : Nat → Int32) (hf : F_J7_fill_53178 nA G l1 = some (G')) : Met l yJ7_fill_53178 wsJ7_fill_53178 rm_J7_fill_53178 (sw_PW (dC, dI) t0 [(cI, .int), (cZ, .boolean)] [.ref aG, .int l1] [(aG, .inl (cI, nA, .inl G))] sz) (va_Qv (fun (_ : Unit) => True) (fun _ t => sw_B (dC, dI) [(cI, .int), (cZ, .boolean)] [(aG, .inl (cI, nA, .inl G'))] (va_A [(aG, .inl (cI, nA, .inl G))] sz) t) (va_A [(aG, .inl (cI, nA, .inl G))] sz)) 0 0 (va_A [(aG, .inl (cI, nA, .inl G))] sz) := by
  refine sw_metW (cc := cJ7_fill_53178) (maxL := 4) (ret := none) (lv := [(0, .ref aG), (1, .int l1)]) (by decide) rfl (Nat.le_of_ble_eq_true rfl) rfl ?_
  intro p e s m below meth c Q A hsz hAe hQ hx hb hr hts hown hlocks hml hmn hP hK hD hE hS hA ls hl
  have hS0 := hS
  have hown : s.vm.findClass RJ7 = some m.cls := hown
  have hf := (F_J7_fill_53178.eq_1 _ _ _).symm.trans hf
  have hf0 := hf
  clear hf
  have hP0 := hP
  have hD0 := hD
  clear hP hD hS
  have hl0 := hl
  clear hl
  have hB_5 : ∀ (l3 : Int32), ∀ (fu : Nat) (G : Nat → Int32) (l2 : Int32), F_J7_fill_53178_5 nA l1 l3 fu G l2 = some (G') → ∀ (H : Heap) (locs : List Loc), va_P (dC, dI) vwCl [(aG, .inl (cI, nA, .inl G))] H → va_D A [(aG, .inl (cI, nA, .inl G))] → va_S A s.heap H locs → ∀ ls : Array Slot, lv_has ls 4 [(0, .ref aG), (1, .int l1), (2, .int l2), (3, .int l3)] → W p l e rm_J7_fill_53178 s m ([.ref aG, .int l1] : List Value).toArray below meth c H locs 0 0 Q (F0 m 5 ls []) := by
    intro l3  fu
    induction fu with
    | zero =>
      intro G l2 hf
      exact nomatch (show (none : Option ((Nat → Int32))) = some (G') from hf)
    | succ fu ih =>
      intro G l2 hf H locs hP hD hS ls hl
      have hf := (F_J7_fill_53178_5.eq_2 _ _ _ _ _ _).symm.trans hf
      refine lv_iload_n hx hb dJ7_fill_53178_5 rfl (lv_at hl 2 rfl) ?_
      refine lv_iload_n hx hb dJ7_fill_53178_6 rfl (lv_at hl 3 rfl) ?_
      refine lv_icmp_ge (tgt := 20) hx hb dJ7_fill_53178_7 (by decide) (fun c1 => ?_) (fun c1 => ?_)
      · have hf := sw_ip c1 hf
        subst hQ hAe
        cases hf
        exact W.vret hx hb hr (fun t ht hW => ⟨⟨(), rfl, trivial, ⟨by rw [ht]; exact hP, va_K.moved hW.alike hK, hD⟩⟩, hS.F ht⟩) hS.2.2 dJ7_fill_53178_20 hlocks
      · have hf := sw_in c1 hf
        refine lv_aload_n hx hb dJ7_fill_53178_10 rfl (lv_at hl 0 rfl) ?_
        refine lv_iload_n hx hb dJ7_fill_53178_11 rfl (lv_at hl 2 rfl) ?_
        refine lv_iload_n hx hb dJ7_fill_53178_12 rfl (lv_at hl 1 rfl) ?_
        obtain ⟨hi1, hf⟩ := sw_ix_s hf
        refine va_iast hx hb hK hP hD hS 0 0 rfl rfl hi1 dJ7_fill_53178_13 (fun H locs hP hD hS => ?_)
        have hP : va_P (dC, dI) vwCl [(aG, .inl (cI, nA, .inl (upd G l2.toNatClampNeg l1)))] H := hP
        have hD : va_D A [(aG, .inl (cI, nA, .inl (upd G l2.toNatClampNeg l1)))] := hD
        refine lv_iinc (v := l2 + (1 : Int32)) (lv' := [(2, .int (l2 + (1 : Int32))), (0, .ref aG), (1, .int l1), (3, .int l3)]) hx hb dJ7_fill_53178_14 hl (k := 2) rfl (sw_ii _) (by decide) rfl (fun ls hl => ?_)
        refine lv_goto (tgt := 5) hx hb dJ7_fill_53178_17 (by decide) ?_
        exact ih (upd G l2.toNatClampNeg l1) (l2 + (1 : Int32)) hf H locs hP hD hS ls (lv_sub hl [1, 2, 0, 3] rfl)
  have hf := hf0
  have hl := hl0
  have hP := hP0
  have hD := hD0
  have hS := hS0
  obtain ⟨H, hH⟩ : ∃ H, H = s.heap := ⟨_, rfl⟩
  obtain ⟨locs, hlo⟩ : ∃ locs : List Loc, locs = [] := ⟨_, rfl⟩
  rw [← hH] at hP
  have hS : va_S A s.heap H locs := by rw [hH, hlo]; exact hS0
  suffices hgo : W p l e rm_J7_fill_53178 s m ([.ref aG, .int l1] : List Value).toArray below meth c H locs 0 0 Q (F0 m 0 ls []) by rw [hH, hlo] at hgo; exact hgo
  refine lv_iconst (v := 0) hx hb dJ7_fill_53178_0 (by decide) ?_
  refine lv_istore_n (lv' := [(2, .int (0 : Int32)), (0, .ref aG), (1, .int l1)]) hx hb dJ7_fill_53178_1 rfl hl (by decide) rfl (fun ls hl => ?_)
  refine lv_aload_n hx hb dJ7_fill_53178_2 rfl (lv_at hl 1 rfl) ?_
  refine va_alen hx hb hK hP 0 0 rfl rfl (v := Int32.ofNat nA) rfl dJ7_fill_53178_3 ?_
  refine lv_istore_n (lv' := [(3, .int (Int32.ofNat nA)), (2, .int (0 : Int32)), (0, .ref aG), (1, .int l1)]) hx hb dJ7_fill_53178_4 rfl hl (by decide) rfl (fun ls hl => ?_)
  exact hB_5 (Int32.ofNat nA)  sw_fu G (0 : Int32) hf H locs hP hD hS ls (lv_sub hl [2, 3, 1, 0] rfl)
