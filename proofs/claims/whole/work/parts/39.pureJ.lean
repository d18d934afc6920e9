/-! pure: the model lays -/
def sp_RM (Q : List sp_BE) (ld : Int32) (far fi ln : Nat → Int32) : Prop := ld = nI Q.length ∧ (∀ i e, Q[i]? = some e → ln i = nI e.1 ∧ far e.1 = e.2.1 ∧ fi e.1 = e.2.2) ∧ ∀ x, x < 7776 → x ∉ Q.map Prod.fst → far x = (-1 : Int32)
theorem sp_ne1 {s : Nat} (h : s < 7776) : ¬ nI s = (-1 : Int32) := by
  intro q
  have h1 := nI_pos' (n := s) (by omega)
  rw [q] at h1
  exact absurd h1 (by decide)
theorem sp_RM_far {n : Nat} {Q : List sp_BE} {ld : Int32} {far fi ln : Nat → Int32} (hI : sp_QI n Q) (hR : sp_RM Q ld far fi ln) {M : Nat} (hM : M < 7776) : (far M = (-1 : Int32)) = ¬ M ∈ Q.map Prod.fst := by
  apply propext
  constructor
  · intro h q
    obtain ⟨e, he, rfl⟩ := List.mem_map.mp q
    obtain ⟨i, hi⟩ := List.getElem?_of_mem he
    obtain ⟨-, ⟨s, s1, s2⟩, -⟩ := hI.1 i e hi
    have hl := sp_QI_len hI
    have := (List.getElem?_eq_some_iff.mp hi).1
    rw [(hR.2.1 i e hi).2.1, s2] at h
    exact sp_ne1 (by omega) h
  · intro h
    exact hR.2.2 M hM h
theorem sp_layL {τ : Nat → Int32} {n i : Nat} {e : sp_BE} {k59 : Int32 → (Nat → Int32) → (Nat → Int32) → (Nat → Int32) → Int32 → Option (Int32 × (Nat → Int32) × (Nat → Int32) × (Nat → Int32))} (hn : n ≤ 5) (T : sp_T τ n) (hV : sp_V n e.1) (hi7 : i < 1296) : ∀ k fu (Q : List sp_BE) (ld : Int32) (far fi ln : Nat → Int32), k ≤ 45 → k < fu → sp_QI n Q → Q[i]? = some e → sp_RM Q ld far fi ln →
    ∃ ld' far' fi' ln', F_X6_lay_76 k59 (nI n) τ (nI i) (nI e.1) fu ld far fi ln (nI (45 - k)) = k59 ld' far' fi' ln' (nI (i + 1)) ∧ sp_RM (sp_b2 τ n e k Q) ld' far' fi' ln' := by
  intro k
  induction k with
  | zero =>
    intro fu Q ld far fi ln hk hf hI he hR
    obtain ⟨f, rfl⟩ : ∃ f, fu = f + 1 := ⟨fu - 1, by omega⟩
    rw [F_X6_lay_76.eq_2, if_pos (by rw [n_le45 (by omega)]; omega), n_1]
    exact ⟨_, _, _, _, rfl, hR⟩
  | succ k ih =>
    intro fu Q ld far fi ln hk hf hI he hR
    obtain ⟨f, rfl⟩ : ∃ f, fu = f + 1 := ⟨fu - 1, by omega⟩
    obtain ⟨d, hd⟩ : ∃ d, d = 44 - k := ⟨_, rfl⟩
    have hd45 : d < 45 := by omega
    have hN := hV.1
    rw [F_X6_lay_76.eq_2, show 45 - (k + 1) = d by omega, if_neg (by rw [n_le45 (by omega)]; omega)]
    obtain ⟨g1, g2⟩ := sp_b1_QI (τ := τ) (d := d) hn hI he
    have eb : sp_b2 τ n e (k + 1) Q = sp_b2 τ n e k (sp_b1 τ n e d Q) := by rw [hd]; rfl
    rw [eb]
    have stay : sp_b1 τ n e d Q = Q → ∃ ld' far' fi' ln', F_X6_lay_76 k59 (nI n) τ (nI i) (nI e.1) f ld far fi ln (nI d + 1) = k59 ld' far' fi' ln' (nI (i + 1)) ∧ sp_RM (sp_b2 τ n e k (sp_b1 τ n e d Q)) ld' far' fi' ln' := by
      intro q
      rw [q, n_1, show d + 1 = 45 - k by omega]
      exact ih f Q ld far fi ln (by omega) (by omega) hI he hR
    have none100 : F_X6_lay_100 k59 (F_X6_lay_76 k59 (nI n) τ (nI i) (nI e.1) f) (nI n) ld τ far fi ln (nI i) (nI e.1) (nI d) (-1) = F_X6_lay_76 k59 (nI n) τ (nI i) (nI e.1) f ld far fi ln (nI d + 1) := by
      unfold F_X6_lay_100; rw [if_pos rfl]
    by_cases K : sp_K n d = true
    · rw [sp_isDeed n (by omega) d hd45, n_b, if_pos K, if_neg (by decide), sp_doneM hN hn T K, n_b]
      cases hx : sp_nx τ n e.1 d with
      | none =>
        show ∃ ld' far' fi' ln', F_X6_lay_100 k59 (F_X6_lay_76 k59 (nI n) τ (nI i) (nI e.1) f) (nI n) ld τ far fi ln (nI i) (nI e.1) (nI d) (-1) = _ ∧ _
        rw [none100]
        exact stay (by unfold sp_b1; rw [if_pos K, hx])
      | some M =>
        have hb1 : sp_b1 τ n e d Q = sp_ad Q (sp_nw e d M) := by unfold sp_b1; rw [if_pos K, hx]
        have hVM := sp_nx_V hn hV K hx
        have hM := hVM.1
        show ∃ ld' far' fi' ln', F_X6_lay_100 k59 (F_X6_lay_76 k59 (nI n) τ (nI i) (nI e.1) f) (nI n) ld τ far fi ln (nI i) (nI e.1) (nI d) (nI M) = _ ∧ _
        unfold F_X6_lay_100
        rw [if_neg (sp_ne1 hM), n_ix hM (by decide), n_cl (by omega)]
        by_cases c : M ∈ Q.map Prod.fst
        · rw [if_neg (by rw [sp_RM_far hI hR hM]; exact fun q => q c)]
          exact stay (by rw [hb1]; unfold sp_ad; exact if_pos c)
        · rw [if_pos (by rw [sp_RM_far hI hR hM]; exact c), n_ix hN (by decide), n_ix hM (by decide), n_cl (by omega)]
          obtain ⟨a1, a2, a3⟩ := hR.2.1 i e he
          have hfirst := (hI.1 i e he).2.2
          have had : sp_ad Q (sp_nw e d M) = Q ++ [sp_nw e d M] := by unfold sp_ad; exact if_neg c
          rw [hb1] at g1 g2 ⊢
          have hlen := sp_QI_len g1
          rw [had, List.length_append, List.length_singleton] at hlen
          have eM : ¬ e.1 = M := fun q => c (q ▸ List.mem_map.mpr ⟨e, List.mem_of_getElem? he, rfl⟩)
          have F154 : ∀ v : Int32, v = (sp_nw e d M).2.2 → ∃ ld' far' fi' ln', F_X6_lay_154 k59 (F_X6_lay_76 k59 (nI n) τ (nI i) (nI e.1) f) (nI n) ld τ (upd far M (far e.1 + 1)) fi ln (nI i) (nI e.1) (nI d) (nI M) (nI M) v = k59 ld' far' fi' ln' (nI (i + 1)) ∧ sp_RM (sp_b2 τ n e k (sp_ad Q (sp_nw e d M))) ld' far' fi' ln' := by
            intro v hv
            unfold F_X6_lay_154
            rw [n_ix hM (by decide), hR.1, n_ix (by omega) (by decide), n_cl (by omega), n_cl (by omega), n_1, n_1, show d + 1 = 45 - k by omega]
            refine ih f _ _ _ _ _ (by omega) (by omega) g1 g2 ?_
            rw [had]
            refine ⟨by rw [List.length_append, List.length_singleton], fun j x hj => ?_, fun x hx1 hx2 => ?_⟩
            · by_cases q : j < Q.length
              · rw [List.getElem?_append_left q] at hj
                have hxM : ¬ x.1 = M := fun z => c (z ▸ List.mem_map.mpr ⟨x, List.mem_of_getElem? hj, rfl⟩)
                unfold upd
                rw [if_neg (by omega), if_neg hxM, if_neg hxM]
                exact hR.2.1 j x hj
              · rw [List.getElem?_append_right (by omega)] at hj
                have hz : j - Q.length < 1 := (List.getElem?_eq_some_iff.mp hj).1
                rw [show j - Q.length = 0 by omega] at hj
                cases hj
                unfold upd
                rw [if_pos (by omega)]
                refine ⟨rfl, ?_, ?_⟩
                · show (if M = M then far e.1 + 1 else far M) = e.2.1 + 1
                  rw [if_pos rfl, a2]
                · show (if M = M then v else fi M) = _
                  rw [if_pos rfl, hv]
            · rw [List.map_append, List.mem_append] at hx2
              have h1 : ¬ x = M := fun z => hx2 (Or.inr (by rw [z]; exact List.mem_singleton.mpr rfl))
              unfold upd
              rw [if_neg h1]
              exact hR.2.2 x hx1 (fun z => hx2 (Or.inl z))
          by_cases q0 : i = 0
          · rw [if_pos (by rw [q0]; rfl)]
            exact F154 (nI d) (by unfold sp_nw; exact (if_pos (hfirst.mpr q0)).symm)
          · rw [if_neg (by rw [show (0 : Int32) = nI 0 from rfl, n_eq (by omega) (by decide)]; exact q0), n_ix hN (by decide), a3]
            exact F154 e.2.2 (by unfold sp_nw; exact (if_neg (fun z => q0 (hfirst.mp z))).symm)
    · rw [sp_isDeed n (by omega) d hd45, n_b, if_neg K, if_pos rfl, none100]
      exact stay (by unfold sp_b1; rw [if_neg K])
theorem sp_layO {τ : Nat → Int32} {n : Nat} (hn : n ≤ 5) (T : sp_T τ n) : ∀ k i fu g (Q : List sp_BE) (ld : Int32) (far fi ln : Nat → Int32), i + k = 1297 → k < fu → k < g → sp_QI n Q → sp_RM Q ld far fi ln →
    ∃ ld' far' fi' ln', F_X6_lay_59 (nI n) τ fu ld far fi ln (nI i) = some (ld', far', fi', ln') ∧ sp_RM (sp_b3 τ n g i Q) ld' far' fi' ln' := by
  intro k
  induction k with
  | zero =>
    intro i fu g Q ld far fi ln hk hf hg hI hR
    obtain ⟨f, rfl⟩ : ∃ f, fu = f + 1 := ⟨fu - 1, by omega⟩
    obtain ⟨g', rfl⟩ : ∃ g', g = g' + 1 := ⟨g - 1, by omega⟩
    have hl := sp_QI_len hI
    have hne : Q[i]? = none := List.getElem?_eq_none (by omega)
    rw [F_X6_lay_59.eq_2, if_pos (by rw [hR.1, n_le (by omega) (by omega)]; omega)]
    unfold sp_b3
    rw [hne]
    exact ⟨_, _, _, _, rfl, hR⟩
  | succ k ih =>
    intro i fu g Q ld far fi ln hk hf hg hI hR
    obtain ⟨f, rfl⟩ : ∃ f, fu = f + 1 := ⟨fu - 1, by omega⟩
    obtain ⟨g', rfl⟩ : ∃ g', g = g' + 1 := ⟨g - 1, by omega⟩
    have hl := sp_QI_len hI
    rw [F_X6_lay_59.eq_2]
    unfold sp_b3
    cases he : Q[i]? with
    | none =>
      have : Q.length ≤ i := by
        rw [List.getElem?_eq_none_iff] at he; exact he
      rw [if_pos (by rw [hR.1, n_le (by omega) (by omega)]; omega)]
      exact ⟨_, _, _, _, rfl, hR⟩
    | some e =>
      have hi := (List.getElem?_eq_some_iff.mp he).1
      rw [if_neg (by rw [hR.1, n_le (by omega) (by omega)]; omega), n_ix (by omega) (by decide), n_cl (by omega), (hR.2.1 i e he).1]
      obtain ⟨ld', far', fi', ln', r1, r2⟩ := sp_layL (k59 := F_X6_lay_59 (nI n) τ f) hn T (hI.1 i e he).1 (by omega) 45 sw_fu Q ld far fi ln (Nat.le_refl _) (by unfold sw_fu; omega) hI he hR
      have r1 : F_X6_lay_76 (F_X6_lay_59 (nI n) τ f) (nI n) τ (nI i) (nI e.1) sw_fu ld far fi ln 0 = _ := r1
      rw [r1]
      exact ih (i + 1) f g' _ ld' far' fi' ln' (by omega) (by omega) (by omega) (sp_b2_QI hn 45 Q hI he).1 r2
theorem sp_layC {τ : Nat → Int32} {n N : Nat} {fi ln : Nat → Int32} (hn : n ≤ 5) (T : sp_T τ n) (hV : sp_V n N) : ∀ k i fu (far : Nat → Int32), i + k = 7776 → k < fu → (∀ x, x < i → far x = (-1 : Int32)) →
    ∃ ld' far' fi' ln', F_X6_lay_2 (nI n) (nI N) τ fi ln fu far (nI i) = some (ld', far', fi', ln') ∧ sp_RM (sp_bf τ n N) ld' far' fi' ln' := by
  intro k
  induction k with
  | zero =>
    intro i fu far hk hf h0
    obtain ⟨f, rfl⟩ : ∃ f, fu = f + 1 := ⟨fu - 1, by omega⟩
    have hN := hV.1
    rw [F_X6_lay_2.eq_2, if_pos (by rw [n_le7776 (by omega)]; omega), n_ix hN (by decide), n_ix hN (by decide), show (0 : Int32) = nI 0 from rfl, n_ix (by decide) (by decide), n_cl (by omega), n_cl (by omega), show (1 : Int32) = nI 1 from rfl]
    refine sp_layO hn T 1297 0 sw_fu 1298 [(N, 0, -1)] _ _ _ _ (by omega) (by unfold sw_fu; omega) (by omega) (sp_QI_0 hV) ⟨rfl, fun j e hj => ?_, fun x hx1 hx2 => ?_⟩
    · have hz : j < 1 := (List.getElem?_eq_some_iff.mp hj).1
      rw [show j = 0 by omega] at hj ⊢
      cases hj
      unfold upd
      rw [if_pos rfl, if_pos rfl, if_pos rfl]
      exact ⟨rfl, rfl, rfl⟩
    · unfold upd
      rw [if_neg (fun z => hx2 (by rw [z]; simp)), h0 x (by omega)]
  | succ k ih =>
    intro i fu far hk hf h0
    obtain ⟨f, rfl⟩ : ∃ f, fu = f + 1 := ⟨fu - 1, by omega⟩
    rw [F_X6_lay_2.eq_2, if_neg (by rw [n_le7776 (by omega)]; omega), n_ix (by omega) (by decide), n_cl (by omega), n_1]
    refine ih (i + 1) f _ (by omega) (by omega) (fun x hx => ?_)
    unfold upd
    by_cases q : x = i
    · rw [if_pos q]
    · rw [if_neg q]; exact h0 x (by omega)
theorem sp_lay {τ : Nat → Int32} {n N : Nat} {ld : Int32} {far fi ln : Nat → Int32} (hn : n ≤ 5) (T : sp_T τ n) (hV : sp_V n N) : ∃ ld' far' fi' ln', F_X6_lay (nI n) (nI N) ld τ far fi ln = some (ld', far', fi', ln') ∧ sp_RM (sp_bf τ n N) ld' far' fi' ln' :=
  sp_layC hn T hV 7776 0 sw_fu far (by omega) (by unfold sw_fu; omega) (fun x hx => by omega)
