/-! pure: the page, tale -/
def sp_PS (R : Nat) (g f w : Int32) (D : Nat → Int32) (B s : Int32) (D' : Nat → Int32) : Prop := (∀ i, i < R → ∃ x, x < 45 ∧ D i = nI x ∧ D' i = nI x) ∧ ((s = 0 ∧ f = 0 ∧ w = 0 ∧ R < 10) ∨ (s = 3 ∧ f = 0 ∧ w = 1 ∧ R ≤ 10) ∨ (s = 1 ∧ f = 2 ∧ w = 0 ∧ g = 0 ∧ B = 0 ∧ R < 10) ∨ (s = 2 ∧ f = 1 ∧ w = 0 ∧ R < 10 ∧ ∃ x, x < 9 ∧ g = nI x ∧ B = nI (5 * x)))
theorem sp_dig (y : Int32) : F_X6_in y.toInt64 0 4 = some (if 0 ≤ y.toInt ∧ y.toInt ≤ 4 then 1 else 0) := sp_in32 y 0 4
theorem sp_dig1 {y : Int32} (h : 0 ≤ y.toInt ∧ y.toInt ≤ 4) : F_X6_in y.toInt64 0 4 = some 1 := by rw [sp_dig, if_pos h]
theorem sp_dig0 {y : Int32} (h : ¬ (0 ≤ y.toInt ∧ y.toInt ≤ 4)) : F_X6_in y.toInt64 0 4 = some 0 := by rw [sp_dig, if_neg h]
theorem sp_tC0 (r g : Int32) (D : Nat → Int32) (c : Int32) : F_X3_take r g 0 0 D c = if c = (99 : Int32) then some (1, r, 6, 1, 0, D) else if c = (115 : Int32) then some (1, r, 0, 2, 0, D) else if c = (121 : Int32) then some (1, r, 8, 1, 0, D) else some (0, r, g, 0, 0, D) := by
  unfold F_X3_take F_X3_takeSign
  rw [if_pos (show (0 : Int32) ≤ 0 by decide), if_pos (show (0 : Int32) = 0 from rfl)]
  by_cases c1 : c = (99 : Int32)
  · rw [if_pos c1, if_pos c1]; rfl
  rw [if_neg c1, if_neg c1]
  by_cases c2 : c = (115 : Int32)
  · rw [if_pos c2, if_pos c2]; rfl
  rw [if_neg c2, if_neg c2]
  by_cases c3 : c = (121 : Int32)
  · rw [if_pos c3, if_pos c3]; rfl
  rw [if_neg c3, if_neg c3]; rfl
theorem sp_tC3 (r g : Int32) (D : Nat → Int32) (c : Int32) : F_X3_take r g 0 1 D c = if c = (44 : Int32) then (if (10 : Int32) ≤ r then some (0, r, g, 0, 0, D) else some (1, r, g, 0, 0, D)) else some (0, r, g, 0, 0, D) := by
  unfold F_X3_take
  rw [if_pos (show (0 : Int32) ≤ 0 by decide), if_neg (show ¬ (1 : Int32) = 0 by decide)]
theorem sp_tCd (r g f : Int32) (D : Nat → Int32) (c : Int32) (hf : ¬ f ≤ 0) : F_X3_take r g f 0 D c = (F_X3_takeFigure r g f 0 D (c - 48)).bind (fun q2 => sw_zb q2.1 (some (q2.1, q2.2.1, q2.2.2.1, q2.2.2.2.1, q2.2.2.2.2.1, q2.2.2.2.2.2))) := by
  unfold F_X3_take
  rw [if_neg hf]
theorem sp_tM0 (r B : Int32) (D : Nat → Int32) (c : Int32) : F_X6_go r B 0 D c = if c = (99 : Int32) then some (1, r, 30, 2, D) else if c = (115 : Int32) then some (1, r, 0, 1, D) else if c = (121 : Int32) then some (1, r, 40, 2, D) else some (0, r, 0, 2, D) := by
  unfold F_X6_go F_X6_go_31 F_X6_go_46
  rw [if_pos (show (0 : Int32) = 0 from rfl)]
  by_cases c1 : c = (99 : Int32)
  · have n1 : ¬ c = (115 : Int32) := by rw [c1]; decide
    simp only [if_pos c1, if_neg n1]
  by_cases c2 : c = (115 : Int32)
  · have n1 : ¬ c = (121 : Int32) := by rw [c2]; decide
    simp only [if_neg c1, if_pos c2, if_neg n1]
  by_cases c3 : c = (121 : Int32)
  · simp only [if_neg c1, if_neg c2, if_pos c3]
  simp only [if_neg c1, if_neg c2, if_neg c3]
theorem sp_tM3 (r B : Int32) (D : Nat → Int32) (c : Int32) : F_X6_go r B 3 D c = if c = (44 : Int32) then (if (10 : Int32) ≤ r then some (0, r, B, 0, D) else some (1, r, B, 0, D)) else some (0, r, B, 0, D) := by
  unfold F_X6_go
  rw [if_neg (show ¬ (3 : Int32) = 0 by decide), if_pos (show (3 : Int32) = 3 from rfl)]
theorem sp_tMd (r B s : Int32) (D : Nat → Int32) (c : Int32) (h0 : ¬ s = 0) (h3 : ¬ s = 3) : F_X6_go r B s D c = (F_X6_goDigit r B s D (c - 48)).bind (fun q1 => sw_zb q1.1 (some (q1.1, q1.2.1, q1.2.2.1, q1.2.2.2.1, q1.2.2.2.2))) := by
  unfold F_X6_go
  rw [if_neg h0, if_neg h3]
theorem sp_fCn (r g f : Int32) (D : Nat → Int32) (y : Int32) (h : y < 0 ∨ (5 : Int32) ≤ y) : F_X3_takeFigure r g f 0 D y = some (0, r, g, f, 0, D) := by
  unfold F_X3_takeFigure
  rcases h with h | h
  · rw [if_pos h]
  · have h0 : ¬ y < 0 := by
      rw [Int32.lt_iff_toInt_lt]; rw [Int32.le_iff_toInt_le] at h
      have e : (5 : Int32).toInt = 5 := by decide
      have e0 : (0 : Int32).toInt = 0 := by decide
      omega
    rw [if_neg h0, if_neg (Int32.not_lt.mpr h)]
theorem sp_fMn (r B s : Int32) (D : Nat → Int32) (y : Int32) (h : y < 0 ∨ (5 : Int32) ≤ y) : F_X6_goDigit r B s D y = some (0, r, B, s, D) := by
  unfold F_X6_goDigit
  have hh : y.toInt < 0 ∨ 5 ≤ y.toInt := by
    rcases h with h | h
    · rw [Int32.lt_iff_toInt_lt] at h; exact Or.inl h
    · rw [Int32.le_iff_toInt_le] at h; exact Or.inr h
  rw [sp_dig0 (by omega), n_b, if_pos rfl]
theorem sp_fC2 (r g : Int32) (D : Nat → Int32) {j : Nat} (hj : j < 5) : F_X3_takeFigure r g 2 0 D (nI j) = some (1, r, g * 5 + nI j, 1, 0, D) := by
  unfold F_X3_takeFigure
  rw [if_neg (nI_pos (by omega)), if_pos (show nI j < (5 : Int32) from nI_lt (b := 5) hj (by decide)), if_neg (show ¬ (2 : Int32) - 1 = 0 by decide)]
  rfl
theorem sp_fM1 (r B : Int32) (D : Nat → Int32) {j : Nat} (hj : j < 5) : F_X6_goDigit r B 1 D (nI j) = some (1, r, B + 5 * nI j, 2, D) := by
  unfold F_X6_goDigit
  have q' : (nI j).toInt = j := nI_toInt (by omega)
  rw [sp_dig1 (by omega), n_b, if_neg (show ¬ (1 : Int32) = 0 by decide), if_pos rfl]
  unfold F_X6_goDigit_34 F_X6_goDigit_69
  rw [if_neg (show ¬ (1 : Int32) = 2 by decide)]
  rfl
theorem sp_fC1 (g : Int32) (D : Nat → Int32) {j R : Nat} (hj : j < 5) (hR : R < 10) : F_X3_takeFigure (nI R) g 1 0 D (nI j) = some (1, nI (R + 1), g * 5 + nI j, 0, 1, upd D R (g * 5 + nI j)) := by
  unfold F_X3_takeFigure
  rw [if_neg (nI_pos (by omega)), if_pos (show nI j < (5 : Int32) from nI_lt (b := 5) hj (by decide)), if_pos (show (1 : Int32) - 1 = 0 by decide), if_neg (nI_pos (by omega)), if_neg (show ¬ (10 : Int32) ≤ nI R from nI_ge (b := 10) hR (by decide)), n_ix hR (by decide), n_cl (by omega), n_1]
  rfl
theorem sp_fM2 (B : Int32) (D : Nat → Int32) {j R : Nat} (hj : j < 5) (hR : R < 10) : F_X6_goDigit (nI R) B 2 D (nI j) = some (1, nI (R + 1), B + nI j, 3, upd D R (B + nI j)) := by
  unfold F_X6_goDigit
  have q' : (nI j).toInt = j := nI_toInt (by omega)
  rw [sp_dig1 (by omega), n_b, if_neg (show ¬ (1 : Int32) = 0 by decide), if_neg (show ¬ (2 : Int32) = 1 by decide)]
  unfold F_X6_goDigit_34 F_X6_goDigit_69
  rw [if_pos rfl, n_ix hR (by decide), n_cl (by omega), n_1]
  rfl
theorem sp_z0 {α : Type} (k : Option α) : sw_zb 0 k = k := if_pos (Or.inl rfl)
theorem sp_z1 {α : Type} (k : Option α) : sw_zb 1 k = k := if_pos (Or.inr rfl)
theorem sp_take {R : Nat} {g f w B s : Int32} {D D' : Nat → Int32} (h : sp_PS R g f w D B s D') (c : Int32) :
    ∃ v R2 g2 f2 w2 D2 B2 s2 D2', F_X3_take (nI R) g f w D c = some (nI v, nI R2, g2, f2, w2, D2) ∧ F_X6_go (nI R) B s D' c = some (nI v, nI R2, B2, s2, D2') ∧ v ≤ 1 ∧ (v = 1 → sp_PS R2 g2 f2 w2 D2 B2 s2 D2') := by
  obtain ⟨hD, h⟩ := h
  rcases h with ⟨rfl, rfl, rfl, hR⟩ | ⟨rfl, rfl, rfl, hR⟩ | ⟨rfl, rfl, rfl, rfl, rfl, hR⟩ | ⟨rfl, rfl, rfl, hR, x, hx, rfl, rfl⟩
  · rw [sp_tC0, sp_tM0]
    by_cases c1 : c = (99 : Int32)
    · rw [if_pos c1, if_pos c1]
      exact ⟨1, R, 6, 1, 0, D, 30, 2, D', rfl, rfl, by omega, fun _ => ⟨hD, Or.inr (Or.inr (Or.inr ⟨rfl, rfl, rfl, hR, 6, by omega, rfl, rfl⟩))⟩⟩
    rw [if_neg c1, if_neg c1]
    by_cases c2 : c = (115 : Int32)
    · rw [if_pos c2, if_pos c2]
      exact ⟨1, R, 0, 2, 0, D, 0, 1, D', rfl, rfl, by omega, fun _ => ⟨hD, Or.inr (Or.inr (Or.inl ⟨rfl, rfl, rfl, rfl, rfl, hR⟩))⟩⟩
    rw [if_neg c2, if_neg c2]
    by_cases c3 : c = (121 : Int32)
    · rw [if_pos c3, if_pos c3]
      exact ⟨1, R, 8, 1, 0, D, 40, 2, D', rfl, rfl, by omega, fun _ => ⟨hD, Or.inr (Or.inr (Or.inr ⟨rfl, rfl, rfl, hR, 8, by omega, rfl, rfl⟩))⟩⟩
    rw [if_neg c3, if_neg c3]
    exact ⟨0, R, g, 0, 0, D, 0, 2, D', rfl, rfl, by omega, fun z => absurd z (by decide)⟩
  · rw [sp_tC3, sp_tM3]
    have e10 : ((10 : Int32) ≤ nI R) = (10 ≤ R) := n_le (a := 10) (by decide) (by omega)
    by_cases c1 : c = (44 : Int32)
    · rw [if_pos c1, if_pos c1]
      by_cases q : 10 ≤ R
      · have q' : (10 : Int32) ≤ nI R := by rw [e10]; exact q
        rw [if_pos q', if_pos q']
        exact ⟨0, R, g, 0, 0, D, B, 0, D', rfl, rfl, by omega, fun z => absurd z (by decide)⟩
      · have q' : ¬ (10 : Int32) ≤ nI R := by rw [e10]; exact q
        rw [if_neg q', if_neg q']
        exact ⟨1, R, g, 0, 0, D, B, 0, D', rfl, rfl, by omega, fun _ => ⟨hD, Or.inl ⟨rfl, rfl, rfl, by omega⟩⟩⟩
    · rw [if_neg c1, if_neg c1]
      exact ⟨0, R, g, 0, 0, D, B, 0, D', rfl, rfl, by omega, fun z => absurd z (by decide)⟩
  · rw [sp_tCd _ _ _ _ _ (show ¬ (2 : Int32) ≤ 0 by decide), sp_tMd _ _ _ _ _ (show ¬ (1 : Int32) = 0 by decide) (show ¬ (1 : Int32) = 3 by decide)]
    have bad : ((c - 48) < 0 ∨ (5 : Int32) ≤ (c - 48)) → ∃ v R2 g2 f2 w2 D2 B2 s2 D2', (F_X3_takeFigure (nI R) 0 2 0 D (c - 48)).bind (fun q2 => sw_zb q2.1 (some (q2.1, q2.2.1, q2.2.2.1, q2.2.2.2.1, q2.2.2.2.2.1, q2.2.2.2.2.2))) = some (nI v, nI R2, g2, f2, w2, D2) ∧ (F_X6_goDigit (nI R) 0 1 D' (c - 48)).bind (fun q1 => sw_zb q1.1 (some (q1.1, q1.2.1, q1.2.2.1, q1.2.2.2.1, q1.2.2.2.2))) = some (nI v, nI R2, B2, s2, D2') ∧ v ≤ 1 ∧ (v = 1 → sp_PS R2 g2 f2 w2 D2 B2 s2 D2') := by
      intro q
      rw [sp_fCn _ _ _ _ _ q, sp_fMn _ _ _ _ _ q, n_b, n_b]
      exact ⟨0, R, 0, 2, 0, D, 0, 1, D', sp_z0 _, sp_z0 _, by omega, fun z => absurd z (by decide)⟩
    rcases pk_ix (c - 48) (n := 5) (by decide) with q | q | ⟨j, j1, j2⟩
    · exact bad (Or.inl q)
    · exact bad (Or.inr q)
    · rw [j2, sp_fC2 _ _ _ j1, sp_fM1 _ _ _ j1, n_b, n_b]
      refine ⟨1, R, 0 * 5 + nI j, 1, 0, D, 0 + 5 * nI j, 2, D', sp_z1 _, sp_z1 _, by omega, fun _ => ⟨hD, Or.inr (Or.inr (Or.inr ⟨rfl, rfl, rfl, hR, j, by omega, ?_, ?_⟩))⟩⟩
      · rw [Int32.zero_mul, Int32.zero_add]
      · rw [Int32.zero_add]; exact pk_mul 5 j
  · rw [sp_tCd _ _ _ _ _ (show ¬ (1 : Int32) ≤ 0 by decide), sp_tMd _ _ _ _ _ (show ¬ (2 : Int32) = 0 by decide) (show ¬ (2 : Int32) = 3 by decide)]
    have bad : ((c - 48) < 0 ∨ (5 : Int32) ≤ (c - 48)) → ∃ v R2 g2 f2 w2 D2 B2 s2 D2', (F_X3_takeFigure (nI R) (nI x) 1 0 D (c - 48)).bind (fun q2 => sw_zb q2.1 (some (q2.1, q2.2.1, q2.2.2.1, q2.2.2.2.1, q2.2.2.2.2.1, q2.2.2.2.2.2))) = some (nI v, nI R2, g2, f2, w2, D2) ∧ (F_X6_goDigit (nI R) (nI (5 * x)) 2 D' (c - 48)).bind (fun q1 => sw_zb q1.1 (some (q1.1, q1.2.1, q1.2.2.1, q1.2.2.2.1, q1.2.2.2.2))) = some (nI v, nI R2, B2, s2, D2') ∧ v ≤ 1 ∧ (v = 1 → sp_PS R2 g2 f2 w2 D2 B2 s2 D2') := by
      intro q
      rw [sp_fCn _ _ _ _ _ q, sp_fMn _ _ _ _ _ q, n_b, n_b]
      exact ⟨0, R, nI x, 1, 0, D, nI (5 * x), 2, D', sp_z0 _, sp_z0 _, by omega, fun z => absurd z (by decide)⟩
    rcases pk_ix (c - 48) (n := 5) (by decide) with q | q | ⟨j, j1, j2⟩
    · exact bad (Or.inl q)
    · exact bad (Or.inr q)
    · have ev : nI x * 5 + nI j = nI (5 * x + j) := by
        rw [show (5 : Int32) = nI 5 from rfl, pk_mul, nI_add, Nat.mul_comm]
      rw [j2, sp_fC1 _ _ j1 hR, sp_fM2 _ _ j1 hR, n_b, n_b, ev, nI_add]
      refine ⟨1, R + 1, nI (5 * x + j), 0, 1, upd D R (nI (5 * x + j)), nI (5 * x + j), 3, upd D' R (nI (5 * x + j)), sp_z1 _, sp_z1 _, by omega, fun _ => ⟨fun i hi => ?_, Or.inr (Or.inl ⟨rfl, rfl, rfl, by omega⟩)⟩⟩
      unfold upd
      by_cases e : i = R
      · rw [if_pos e, if_pos e]; exact ⟨5 * x + j, by omega, rfl, rfl⟩
      · rw [if_neg e, if_neg e]; exact hD i (by omega)
theorem sp_readL {pg : Nat → Int32} {len : Nat} (hl : len ≤ 40) : ∀ k i fu R (g f w B s : Int32) (D D' : Nat → Int32), i + k = len → k < fu → sp_PS R g f w D B s D' →
    ∃ p R2 g2 f2 w2 D2 B2 s2 D2', F_X3_read_17 (nI len) pg fu (nI R) g f w D (nI i) = some (nI p, nI R2, g2, f2, w2, D2) ∧ F_X6_faultOf_12 (nI len) pg fu (nI R) B s D' (nI i) = some (nI p, nI R2, B2, s2, D2') ∧ p ≤ len ∧ (p = len → sp_PS R2 g2 f2 w2 D2 B2 s2 D2') := by
  intro k
  induction k with
  | zero =>
    intro i fu R g f w B s D D' hk hf hP
    obtain ⟨q, rfl⟩ : ∃ q, fu = q + 1 := ⟨fu - 1, by omega⟩
    have c0 : nI len ≤ nI i := nI_le (by omega) (by omega)
    have : i = len := by omega
    subst this
    refine ⟨i, R, g, f, w, D, B, s, D', ?_, ?_, Nat.le_refl _, fun _ => hP⟩
    · rw [F_X3_read_17.eq_2, if_pos c0]; rfl
    · rw [F_X6_faultOf_12.eq_2, if_pos c0]
  | succ k ih =>
    intro i fu R g f w B s D D' hk hf hP
    obtain ⟨q, rfl⟩ : ∃ q, fu = q + 1 := ⟨fu - 1, by omega⟩
    obtain ⟨v, R2, g2, f2, w2, D2, B2, s2, D2', e1, e2, v1, hP2⟩ := sp_take hP (pg i)
    have c0 : ¬ nI len ≤ nI i := nI_ge (by omega) (by omega)
    have eC : F_X3_read_17 (nI len) pg (q + 1) (nI R) g f w D (nI i) = if nI v = 0 then some (nI i, nI R2, g2, f2, w2, D2) else F_X3_read_17 (nI len) pg q (nI R2) g2 f2 w2 D2 (nI (i + 1)) := by
      rw [F_X3_read_17.eq_2, if_neg c0, if_neg (show ¬ (40 : Int32) ≤ nI i from nI_ge (b := 40) (by omega) (by decide)), n_ix (by omega) (by decide), n_cl (by omega), e1, n_b, n_1]
    have eM : F_X6_faultOf_12 (nI len) pg (q + 1) (nI R) B s D' (nI i) = if nI v = 0 then some (nI i, nI R2, B2, s2, D2') else F_X6_faultOf_12 (nI len) pg q (nI R2) B2 s2 D2' (nI (i + 1)) := by
      rw [F_X6_faultOf_12.eq_2, if_neg c0, n_ix (by omega) (by decide), n_cl (by omega), e2, n_b, n_1]
    rw [eC, eM]
    by_cases c : v = 0
    · have c' : nI v = 0 := by rw [c]; rfl
      rw [if_pos c', if_pos c']
      exact ⟨i, R2, g2, f2, w2, D2, B2, s2, D2', rfl, rfl, by omega, fun z => by omega⟩
    · have hv : v = 1 := by omega
      have c' : ¬ nI v = 0 := by rw [hv]; decide
      rw [if_neg c', if_neg c']
      exact ih (i + 1) q R2 g2 f2 w2 B2 s2 D2 D2' (by omega) (by omega) (hP2 hv)
theorem sp_read {pg D D' : Nat → Int32} {len : Nat} {r g f w r' B s : Int32} (hl : len ≤ 40) :
    ∃ p R2 g2 f2 w2 D2 B2 s2 D2', F_X3_read (nI len) r g f w pg D = some (nI p, nI R2, g2, f2, w2, D2) ∧ F_X6_faultOf (nI len) r' B s pg D' = some (nI p, nI R2, B2, s2, D2') ∧ p ≤ len ∧ (p = len → sp_PS R2 g2 f2 w2 D2 B2 s2 D2') :=
  sp_readL hl len 0 sw_fu 0 g 0 0 B 0 D D' (by omega) (by unfold sw_fu; omega) ⟨fun i hi => by omega, Or.inl ⟨rfl, rfl, rfl, by omega⟩⟩
theorem sp_deedAt {D : Nat → Int32} {i : Nat} (h : i < 10) : F_X3_deedAt D (nI i) = some (D i) := by
  unfold F_X3_deedAt
  rw [if_neg (nI_pos (by omega)), if_neg (show ¬ (10 : Int32) ≤ nI i from nI_ge (b := 10) h (by decide)), n_ix h (by decide), n_cl (by omega)]
theorem sp_taleL {τ D D' : Nat → Int32} {n R : Nat} {g f w B s : Int32} (hn : n ≤ 5) (T : sp_T τ n) (hR : R ≤ 10) (hD : ∀ i, i < R → ∃ x, x < 45 ∧ D i = nI x ∧ D' i = nI x) : ∀ k i fu N (h : Nat → Int32), i + k = R → k < fu → sp_V n N → sp_R h N →
    ∃ x h', F_X5_tale_43 (nI n) τ (nI R) g f w D fu h (nI i) = some (nI x, h', nI R, g, f, w, D) ∧ F_X6_tale_29 (nI R) B s (nI n) D' τ fu (nI N) (nI i) = some (nI x, nI R, B, s, D') := by
  intro k
  induction k with
  | zero =>
    intro i fu N h hk hf hV H
    obtain ⟨q, rfl⟩ : ∃ q, fu = q + 1 := ⟨fu - 1, by omega⟩
    have c0 : nI R ≤ nI i := nI_le (by omega) (by omega)
    have : i = R := by omega
    subst this
    refine ⟨i, h, ?_, ?_⟩
    · rw [F_X5_tale_43.eq_2]
      unfold F_X3_deeds
      rw [n_b, if_pos c0]
    · rw [F_X6_tale_29.eq_2, if_pos c0]
  | succ k ih =>
    intro i fu N h hk hf hV H
    obtain ⟨q, rfl⟩ : ∃ q, fu = q + 1 := ⟨fu - 1, by omega⟩
    obtain ⟨d, d1, d2, d3⟩ := hD i (by omega)
    have hN := hV.1
    have c0 : ¬ nI R ≤ nI i := nI_ge (by omega) (by omega)
    have t0 : F_X6_tale_65 (F_X6_tale_29 (nI R) B s (nI n) D' τ q) (nI R) B s (nI n) D' τ (nI i) (-1) = some (nI i, nI R, B, s, D') := by
      unfold F_X6_tale_65; rw [if_pos rfl]
    by_cases K : sp_K n d = true
    · have eM : F_X6_tale_29 (nI R) B s (nI n) D' τ (q + 1) (nI N) (nI i) = F_X6_tale_65 (F_X6_tale_29 (nI R) B s (nI n) D' τ q) (nI R) B s (nI n) D' τ (nI i) (sp_on (sp_nx τ n N d)) := by
        rw [F_X6_tale_29.eq_2, if_neg c0, n_ix (by omega) (by decide), n_cl (by omega), d3, n_ix (by omega) (by decide), sp_isDeed n (by omega) d d1, n_b, if_pos K, if_neg (by decide), sp_doneM hN hn T K, n_b]
      have eC : F_X5_tale_43 (nI n) τ (nI R) g f w D (q + 1) h (nI i) = if (if (sp_nx τ n N d).isSome = true then (1 : Int32) else 0) = 0 then some (nI i, h, nI R, g, f, w, D) else (F_X1_carryOut (nI n) τ h (nI d)).bind (fun q5 => F_X5_tale_43 (nI n) τ (nI R) g f w D q q5 (nI (i + 1))) := by
        rw [F_X5_tale_43.eq_2]
        unfold F_X3_deeds
        rw [n_b, if_neg c0, sp_deedAt (by omega), n_b, d2, sp_allow H hn T K, n_b, n_b, n_1]
      rw [eM, eC]
      cases hx : sp_nx τ n N d with
      | none =>
        rw [if_neg (show ¬ (none : Option Nat).isSome = true by decide), if_pos rfl]
        exact ⟨i, h, rfl, t0⟩
      | some M =>
        have hVM := sp_nx_V hn hV K hx
        obtain ⟨h1, e1, R1⟩ := sp_carry H hN hn T K hx
        have t1 : F_X6_tale_65 (F_X6_tale_29 (nI R) B s (nI n) D' τ q) (nI R) B s (nI n) D' τ (nI i) (sp_on (some M)) = F_X6_tale_29 (nI R) B s (nI n) D' τ q (nI M) (nI (i + 1)) := by
          unfold F_X6_tale_65
          show (if nI M = -1 then _ else _) = _
          rw [if_neg (sp_ne1 hVM.1), n_1]
          rfl
        rw [if_pos (show (some M).isSome = true from rfl), if_neg (by decide), e1, n_b, t1]
        exact ih (i + 1) q M h1 (by omega) (by omega) hVM R1
    · refine ⟨i, h, ?_, ?_⟩
      · rw [F_X5_tale_43.eq_2]
        unfold F_X3_deeds
        rw [n_b, if_neg c0, sp_deedAt (by omega), n_b, d2, sp_allowN hn d1 K, n_b, if_pos rfl]
      · rw [F_X6_tale_29.eq_2, if_neg c0, n_ix (by omega) (by decide), n_cl (by omega), d3, n_ix (by omega) (by decide), sp_isDeed n (by omega) d d1, n_b, if_neg K, if_pos rfl]
        exact t0
