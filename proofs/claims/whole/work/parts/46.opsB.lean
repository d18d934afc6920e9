/-! being, about, as, may, deed, number -/
theorem n_10 : ¬ (1 : Int32) = 0 := by decide
theorem sp_T_a {τ : Nat → Int32} {n k s r g : Nat} (T : sp_T τ n) (hk : k < 5) (hs : 1 ≤ s) (hs2 : s < 10) (hr : r < 21) (hg : g < 32) : sp_T (upd (upd (upd (upd τ (4 * n) (nI k)) (4 * n + 1) (nI s)) (4 * n + 2) (nI r)) (4 * n + 3) (nI g)) (n + 1) := by
  intro b hb
  by_cases e : b = n
  · subst e
    refine ⟨⟨k, hk, ?_⟩, ⟨s, hs, hs2, ?_⟩, ⟨r, hr, ?_⟩, ⟨g, hg, ?_⟩⟩
    · unfold upd; rw [if_neg (by omega), if_neg (by omega), if_neg (by omega), if_pos rfl]
    · unfold upd; rw [if_neg (by omega), if_neg (by omega), if_pos rfl]
    · unfold upd; rw [if_neg (by omega), if_pos rfl]
    · unfold upd; rw [if_pos rfl]
  · have u : ∀ w, w < 4 → upd (upd (upd (upd τ (4 * n) (nI k)) (4 * n + 1) (nI s)) (4 * n + 2) (nI r)) (4 * n + 3) (nI g) (4 * b + w) = τ (4 * b + w) := by
      intro w hw
      unfold upd
      rw [if_neg (by omega), if_neg (by omega), if_neg (by omega), if_neg (by omega)]
    have h := T b (by omega)
    have u0 : upd (upd (upd (upd τ (4 * n) (nI k)) (4 * n + 1) (nI s)) (4 * n + 2) (nI r)) (4 * n + 3) (nI g) (4 * b) = τ (4 * b) := u 0 (by omega)
    rw [← u0, ← u 1 (by omega), ← u 2 (by omega), ← u 3 (by omega)] at h
    exact h
theorem sp_LC_a {τ τ' : Nat → Int32} {n : Nat} {t sn stt : Int32} {re st fi ir : Nat → Int32} (hn : n < 5) (h : sp_LC τ n t sn stt re st fi ir) : sp_LC τ' (n + 1) t sn stt re st fi ir := by
  rcases h.1 with e | ⟨k, hk, e⟩
  · refine ⟨Or.inl e, fun N _ _ e2 => ?_⟩
    rw [e] at e2
    exact absurd e2.symm (sp_ne1 (by omega))
  · refine ⟨Or.inr ⟨k, by omega, e⟩, fun N _ _ e2 => ?_⟩
    rw [e] at e2
    have := (nI_eq (by omega) (by omega)).mp e2
    omega
theorem op_being {τ : Nat → Int32} {n : Nat} {t sn stt : Int32} {re st fi ir : Nat → Int32} (hn : n ≤ 5) (T : sp_T τ n) (hC : sp_LC τ n t sn stt re st fi ir) (l1 l2 l3 l4 : Int32) : ∃ v n' τ', F_X5_being (nI n) τ l1 l2 l3 l4 = some (v, nI n', τ') ∧ F_X6_being (nI n) τ l1 l2 l3 l4 = some (v, nI n', τ') ∧ n ≤ n' ∧ n' ≤ 5 ∧ sp_T τ' n' ∧ sp_LC τ' n' t sn stt re st fi ir := by
  unfold F_X5_being F_X6_being
  have same : ∀ v : Int32, ∃ v' n' τ', (some (v, nI n, τ) : Option (Int32 × Int32 × (Nat → Int32))) = some (v', nI n', τ') ∧ (some (v, nI n, τ) : Option (Int32 × Int32 × (Nat → Int32))) = some (v', nI n', τ') ∧ n ≤ n' ∧ n' ≤ 5 ∧ sp_T τ' n' ∧ sp_LC τ' n' t sn stt re st fi ir := fun v => ⟨v, n, τ, rfl, rfl, Nat.le_refl n, hn, T, hC⟩
  rcases sp_btw2 l1 0 4 0 4 (by decide) (by decide) with ⟨a1, b1, c1, d1⟩ | ⟨a1, b1⟩
  rotate_left
  · rw [a1, b1, n_b, n_b, if_pos rfl, if_pos rfl]; exact same _
  rw [a1, b1, n_b, n_b, if_neg n_10, if_neg n_10]
  rcases sp_btw2 l2 1 9 1 9 (by decide) (by decide) with ⟨a2, b2, c2, d2⟩ | ⟨a2, b2⟩
  rotate_left
  · rw [a2, b2, n_b, n_b, if_pos rfl, if_pos rfl]; exact same _
  rw [a2, b2, n_b, n_b, if_neg n_10, if_neg n_10]
  rcases sp_btw2 l3 0 20 0 20 (by decide) (by decide) with ⟨a3, b3, c3, d3⟩ | ⟨a3, b3⟩
  rotate_left
  · rw [a3, b3, n_b, n_b, if_pos rfl, if_pos rfl]; exact same _
  rw [a3, b3, n_b, n_b, if_neg n_10, if_neg n_10]
  rcases sp_btw2 l4 0 31 0 31 (by decide) (by decide) with ⟨a4, b4, c4, d4⟩ | ⟨a4, b4⟩
  rotate_left
  · rw [a4, b4, n_b, n_b, if_pos rfl, if_pos rfl]; exact same _
  rw [a4, b4, n_b, n_b, if_neg n_10, if_neg n_10]
  obtain ⟨k, hk, e1⟩ := sp_nnr (m := 4) c1 d1
  obtain ⟨s, hs, e2⟩ := sp_nnr (m := 9) (x := l2) (by have : (1 : Int32).toInt = 1 := by decide
                                                      omega) d2
  obtain ⟨r, hr, e3⟩ := sp_nnr (m := 20) c3 d3
  obtain ⟨g, hg, e4⟩ := sp_nnr (m := 31) c4 d4
  subst e1; subst e2; subst e3; subst e4
  have hs1 : 1 ≤ s := by
    rw [nI_toInt (by omega)] at c2
    have : (1 : Int32).toInt = 1 := by decide
    omega
  unfold F_X0_join
  rw [if_neg (nI_pos (by omega))]
  by_cases h5 : n = 5
  · subst h5
    rw [if_pos (by decide), n_b, if_pos rfl, if_pos (by decide)]
    exact same _
  · have q0 : nI n * (4 : Int32) + 0 = nI (4 * n) := by
      rw [show (4 : Int32) = nI 4 from rfl, pk_mul, show (0 : Int32) = nI 0 from rfl, nI_add, Nat.add_zero, Nat.mul_comm]
    have qq : ∀ w, nI n * (4 : Int32) + nI w = nI (4 * n + w) := by
      intro w; rw [show (4 : Int32) = nI 4 from rfl, pk_mul, nI_add, Nat.mul_comm]
    have q1 : nI n * (4 : Int32) + 1 = nI (4 * n + 1) := qq 1
    have q2 : nI n * (4 : Int32) + 2 = nI (4 * n + 2) := qq 2
    have q3 : nI n * (4 : Int32) + 3 = nI (4 * n + 3) := qq 3
    have p1 : (4 : Int32) * nI n + 1 = nI (4 * n + 1) := sp_r4 (w := 1)
    have p2 : (4 : Int32) * nI n + 2 = nI (4 * n + 2) := sp_r4 (w := 2)
    have p3 : (4 : Int32) * nI n + 3 = nI (4 * n + 3) := sp_r4 (w := 3)
    have h20 : nI (4 * n + 3) < (20 : Int32) := nI_lt (b := 20) (by omega) (by decide)
    rw [if_neg (show ¬ (5 : Int32) ≤ nI n by rw [n_le5 (by omega)]; omega), if_neg (show ¬ nI n = (5 : Int32) from fun h => h5 ((nI_eq (b := 5) (by omega) (by decide)).mp h))]
    rw [q0, q1, q2, q3, p1, p2, p3, sp_r40, if_pos h20]
    rw [n_ix (by omega) (by decide), n_ix (by omega) (by decide), n_ix (by omega) (by decide), n_ix (by omega) (by decide)]
    rw [n_cl (by omega), n_cl (by omega), n_cl (by omega), n_cl (by omega), n_1, n_s1, n_b]
    dsimp only
    rw [if_neg (sp_ne1 (by omega))]
    exact ⟨_, n + 1, _, rfl, rfl, by omega, by omega, sp_T_a T (by omega) hs1 (by omega) (by omega) (by omega), sp_LC_a (by omega) hC⟩
theorem op_about {τ Nh : Nat → Int32} {n N : Nat} (hn : n ≤ 5) (T : sp_T τ n) (H : sp_R Nh N) (hV : sp_V n N) (l1 l2 : Int32) : ∃ v, F_X5_about (nI n) τ Nh l1 l2 = some v ∧ F_X6_about (nI n) (nI N) τ l1 l2 = some v ∧ (∀ b, b < n → l1 = nI b → F_X6_tell (nI n) (nI N) τ l1 l2 = some v) := by
  unfold F_X5_about F_X6_about
  rcases sp_isB hn l1 with ⟨b, hb, e, a1, a2⟩ | ⟨a1, a2⟩
  · rw [a1, a2, n_b, n_b, if_neg n_10, if_neg n_10]
    subst e
    suffices h : ∃ v, (if l2 = (0 : Int32) then (F_X0_trait τ (nI b) (0 : Int32)).bind (fun q2 => some (q2)) else if l2 = (1 : Int32) then (F_X0_trait τ (nI b) (1 : Int32)).bind (fun q3 => some (q3)) else if l2 = (2 : Int32) then (F_X0_trait τ (nI b) (2 : Int32)).bind (fun q4 => some (q4)) else if l2 = (3 : Int32) then (F_X0_trait τ (nI b) (3 : Int32)).bind (fun q5 => some (q5)) else if l2 = (4 : Int32) then (F_X1_holder Nh (nI b)).bind (fun q6 => some (q6)) else if l2 = (5 : Int32) then (F_X1_filled (nI n) τ Nh (nI b)).bind (fun q7 => some (q7)) else if l2 = (6 : Int32) then (F_X1_walls Nh (nI b)).bind (fun q8 => some (q8)) else if l2 = (7 : Int32) then (F_X1_heardBy (nI n) Nh (nI b)).bind (fun q9 => some (q9)) else some ((-102 : Int32))) = some v ∧ F_X6_tell (nI n) (nI N) τ (nI b) l2 = some v by
      obtain ⟨v, h1, h2⟩ := h
      refine ⟨v, h1, ?_, fun _ _ _ => h2⟩
      rw [h2, n_b]
    rw [sp_tr0 (by omega), sp_tr1 (by omega), sp_tr2 (by omega), sp_tr3 (by omega), sp_holder H (by omega), sp_filled H hn, sp_walls H hV (by omega), sp_heard H hn (by omega)]
    unfold F_X6_tell
    rw [sp_holderM hV.1 (by omega), sp_filledM hV.1 hn, sp_wallsM hV (by omega), sp_heardM hV.1 hn (by omega)]
    by_cases h0 : l2 = 0
    · subst h0
      rw [if_pos rfl, if_pos rfl, show (4 : Int32) * nI b + 0 = nI (4 * b) from sp_r4 (w := 0), n_ix (by omega) (by decide), n_cl (by omega)]
      exact ⟨_, rfl, rfl⟩
    rw [if_neg h0, if_neg h0]
    by_cases h1 : l2 = 1
    · subst h1
      rw [if_pos rfl, if_pos rfl, show (4 : Int32) * nI b + 1 = nI (4 * b + 1) from sp_r4 (w := 1), n_ix (by omega) (by decide), n_cl (by omega)]
      exact ⟨_, rfl, rfl⟩
    rw [if_neg h1, if_neg h1]
    by_cases h2 : l2 = 2
    · subst h2
      rw [if_pos rfl, if_pos rfl, show (4 : Int32) * nI b + 2 = nI (4 * b + 2) from sp_r4 (w := 2), n_ix (by omega) (by decide), n_cl (by omega)]
      exact ⟨_, rfl, rfl⟩
    rw [if_neg h2, if_neg h2]
    by_cases h3 : l2 = 3
    · subst h3
      rw [if_pos rfl, if_pos rfl, show (4 : Int32) * nI b + 3 = nI (4 * b + 3) from sp_r4 (w := 3), n_ix (by omega) (by decide), n_cl (by omega)]
      exact ⟨_, rfl, rfl⟩
    rw [if_neg h3, if_neg h3]
    by_cases h4 : l2 = 4
    · rw [if_pos h4]; exact ⟨_, rfl, rfl⟩
    rw [if_neg h4]
    by_cases h5 : l2 = 5
    · rw [if_pos h5]; exact ⟨_, rfl, rfl⟩
    rw [if_neg h5]
    by_cases h6 : l2 = 6
    · rw [if_pos h6]; exact ⟨_, rfl, rfl⟩
    rw [if_neg h6]
    by_cases h7 : l2 = 7
    · rw [if_pos h7]; exact ⟨_, rfl, rfl⟩
    rw [if_neg h7]
    exact ⟨_, rfl, rfl⟩
  · rw [a1, a2, n_b, n_b, if_pos rfl, if_pos rfl]
    refine ⟨_, rfl, rfl, fun b hb e => ?_⟩
    rw [e, sp_has n (by omega) b (by omega), if_pos hb] at a1
    exact absurd a1 (by decide)
theorem op_as {τ : Nat → Int32} {n : Nat} (hn : n ≤ 5) (T : sp_T τ n) (l1 l2 : Int32) : ∃ v, F_X5_as (nI n) τ l1 l2 = some v ∧ F_X6_as (nI n) τ l1 l2 = some v := by
  unfold F_X5_as F_X6_as
  rcases sp_isB hn l1 with ⟨b, hb, e, a1, a2⟩ | ⟨a1, a2⟩
  · rw [a1, a2, n_b, n_b, if_neg n_10, if_neg n_10]
    subst e
    rcases sp_btw2 l2 0 4 0 4 (by decide) (by decide) with ⟨c1, c2, c3, c4⟩ | ⟨c1, c2⟩
    · rw [c1, c2, n_b, n_b, if_neg n_10, if_neg n_10]
      obtain ⟨kk, hk, e⟩ := sp_nnr (m := 4) c3 c4
      subst e
      obtain ⟨⟨k, hk5, ek⟩, _⟩ := T b hb
      rw [sp_isOf (by omega) hk5 (by omega) ek, n_b, sp_r40, n_ix (by omega) (by decide), n_cl (by omega), ek]
      have m0 : (nI kk = (0 : Int32)) = (kk = 0) := n_eq (b := 0) (by omega) (by decide)
      have mk : (nI kk = nI k) = (kk = k) := n_eq (by omega) (by omega)
      have m1 : (nI kk = (1 : Int32)) = (kk = 1) := n_eq (b := 1) (by omega) (by decide)
      have m2 : (nI kk = (2 : Int32)) = (kk = 2) := n_eq (b := 2) (by omega) (by decide)
      have l0 : ((0 : Int32) < nI k) = (0 < k) := n_lt (a := 0) (by decide) (by omega)
      have k4 : (nI k = (4 : Int32)) = (k = 4) := n_eq (b := 4) (by omega) (by decide)
      unfold F_X6_as_53 F_X6_as_68 sp_of
      simp only [m0, mk, m1, m2, l0, k4]
      by_cases x0 : kk = 0
      · simp [x0]
      by_cases x1 : kk = k
      · simp [x0, x1]
      by_cases x2 : kk = 1
      · by_cases x3 : 0 < k
        · simp [x2, x3]
        · have : k = 0 := by omega
          simp [x2, this]
      by_cases x4 : kk = 2
      · by_cases x5 : k = 4
        · simp [x4, x5]
        · have : ¬ 2 = k := by omega
          simp [x4, x5, this]
      simp [x0, x1, x2, x4]
    · rw [c1, c2, n_b, n_b, if_pos rfl, if_pos rfl]
      exact ⟨_, rfl, rfl⟩
  · rw [a1, a2, n_b, n_b, if_pos rfl, if_pos rfl]
    exact ⟨_, rfl, rfl⟩
theorem sp_kd {n : Nat} (hn : n ≤ 5) (l1 : Int32) : (∃ d, sp_K n d = true ∧ l1 = nI d ∧ F_X0_knows (nI n) l1 = some 1 ∧ F_X6_isDeed (nI n) l1 = some 1) ∨ (F_X0_knows (nI n) l1 = some 0 ∧ F_X6_isDeed (nI n) l1 = some 0) := by
  rcases sp_cut l1 with h | ⟨d, hd, e⟩
  · exact Or.inr ⟨sp_knowsN h, sp_isDeedN h⟩
  · subst e
    rw [sp_knows n (by omega) d hd, sp_isDeed n (by omega) d hd]
    by_cases hK : sp_K n d = true
    · exact Or.inl ⟨d, hK, rfl, by rw [if_pos hK], by rw [if_pos hK]⟩
    · exact Or.inr ⟨by rw [if_neg hK], by rw [if_neg hK]⟩
theorem op_may {τ Nh : Nat → Int32} {n N : Nat} (hn : n ≤ 5) (T : sp_T τ n) (H : sp_R Nh N) (hV : sp_V n N) (l1 : Int32) : ∃ v, F_X5_may (nI n) τ Nh l1 = some v ∧ F_X6_may (nI n) (nI N) τ l1 = some v := by
  unfold F_X5_may F_X6_may
  rcases sp_kd hn l1 with ⟨d, hK, e, a1, a2⟩ | ⟨a1, a2⟩
  · rw [a1, a2, n_b, n_b, if_neg n_10, if_neg n_10]
    subst e
    rw [sp_allow H hn T hK, sp_doneM hV.1 hn T hK, n_b, n_b]
    cases hM : sp_nx τ n N d with
    | none => exact ⟨0, rfl, rfl⟩
    | some M =>
      have := sp_nx_lt hn hV hK hM
      refine ⟨1, rfl, ?_⟩
      show (if nI M = (-1 : Int32) then _ else _) = _
      rw [if_neg (sp_ne1 this)]
  · rw [a1, a2, n_b, n_b, if_pos rfl, if_pos rfl]
    exact ⟨_, rfl, rfl⟩
theorem op_deed {τ Nh : Nat → Int32} {n N : Nat} (dn : Int32) (hn : n ≤ 5) (T : sp_T τ n) (H : sp_R Nh N) (hV : sp_V n N) (l1 : Int32) : ∃ v dn' Nh' N', F_X5_deed dn (nI n) τ Nh l1 = some (v, dn', Nh') ∧ F_X6_deed (nI n) (nI N) dn τ l1 = some (v, nI N', dn') ∧ sp_R Nh' N' ∧ sp_V n N' := by
  unfold F_X5_deed F_X6_deed
  rcases sp_kd hn l1 with ⟨d, hK, e, a1, a2⟩ | ⟨a1, a2⟩
  · rw [a1, a2, n_b, n_b, if_neg n_10, if_neg n_10]
    subst e
    rw [sp_allow H hn T hK, sp_doneM hV.1 hn T hK, n_b, n_b]
    cases hM : sp_nx τ n N d with
    | none => exact ⟨_, _, _, _, rfl, rfl, H, hV⟩
    | some M =>
      have hV' := sp_nx_V hn hV hK hM
      obtain ⟨h', hc, hR⟩ := sp_carry H hV.1 hn T hK hM
      refine ⟨dn + 1, dn + 1, h', M, ?_, ?_, hR, hV'⟩
      · show (if (1 : Int32) = 0 then _ else _) = _
        rw [if_neg n_10, hc]; rfl
      · show (if nI M = (-1 : Int32) then _ else _) = _
        rw [if_neg (sp_ne1 hV'.1)]; rfl
  · rw [a1, a2, n_b, n_b, if_pos rfl, if_pos rfl]
    exact ⟨_, _, _, _, rfl, rfl, H, hV⟩
theorem op_number {Nh : Nat → Int32} {n N : Nat} (H : sp_R Nh N) (hV : sp_V n N) : ∃ v, F_X5_number Nh = some v ∧ F_X6_number (nI N) = some v := by
  unfold F_X5_number F_X6_number
  rw [sp_num H hV.1]
  exact ⟨_, rfl, rfl⟩
