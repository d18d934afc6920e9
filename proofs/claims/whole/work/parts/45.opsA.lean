/-! one lemma for each operation: helpers -/
theorem sp_btw (x lo hi : Int32) : F_X5_isBetween x lo hi = some (if lo.toInt ≤ x.toInt ∧ x.toInt ≤ hi.toInt then 1 else 0) := by
  unfold F_X5_isBetween
  by_cases h1 : x < lo
  · rw [if_pos h1, if_neg (by rw [Int32.lt_iff_toInt_lt] at h1; omega)]
  · rw [if_neg h1]
    by_cases h2 : hi < x
    · rw [if_pos h2, if_neg (by rw [Int32.lt_iff_toInt_lt] at h2; omega)]
    · rw [if_neg h2, if_pos (by rw [Int32.lt_iff_toInt_lt] at h1 h2; omega)]
theorem sp_btw2 (x lo hi : Int32) (lo' hi' : Int64) (e1 : lo.toInt = lo'.toInt) (e2 : hi.toInt = hi'.toInt) :
    (F_X5_isBetween x lo hi = some 1 ∧ F_X6_in x.toInt64 lo' hi' = some 1 ∧ lo.toInt ≤ x.toInt ∧ x.toInt ≤ hi.toInt) ∨ (F_X5_isBetween x lo hi = some 0 ∧ F_X6_in x.toInt64 lo' hi' = some 0) := by
  rw [sp_btw, sp_in32, ← e1, ← e2]
  by_cases h : lo.toInt ≤ x.toInt ∧ x.toInt ≤ hi.toInt
  · left
    rw [if_pos h]
    exact ⟨rfl, rfl, h.1, h.2⟩
  · right
    rw [if_neg h]
    exact ⟨rfl, rfl⟩
theorem sp_nn {x : Int32} (h : 0 ≤ x.toInt) : ∃ k, k < 2 ^ 31 ∧ x = nI k := nI_of (by
  rw [Int32.lt_iff_toInt_lt]
  have : (0 : Int32).toInt = 0 := by decide
  omega)
theorem sp_nnr {x : Int32} {m : Nat} (h : 0 ≤ x.toInt) (h2 : x.toInt ≤ m) : ∃ k, k ≤ m ∧ x = nI k := by
  obtain ⟨k, hk, e⟩ := sp_nn h
  refine ⟨k, ?_, e⟩
  rw [e, nI_toInt hk] at h2
  omega
theorem sp_isB {n : Nat} (hn : n ≤ 5) (x : Int32) : (∃ b, b < n ∧ x = nI b ∧ F_X0_has (nI n) x = some 1 ∧ F_X6_isBeing (nI n) x = some 1) ∨ (F_X0_has (nI n) x = some 0 ∧ F_X6_isBeing (nI n) x = some 0) := by
  have e0 : (0 : Int64).toInt = 0 := by decide
  have e1 : ((nI n - 1).toInt64).toInt = (n : Int) - 1 := by
    rw [Int32.toInt_toInt64]
    exact (show ∀ n, n < 6 → (nI n - 1).toInt = (n : Int) - 1 by decide +kernel) n (by omega)
  have eM : ∀ (v : Int32), F_X6_in x.toInt64 0 (nI n - 1).toInt64 = some v → (v = 0 ∨ v = 1) → F_X6_isBeing (nI n) x = some v := by
    intro v h hv
    unfold F_X6_isBeing
    rw [h, n_b]
    rcases hv with hv | hv
    · rw [hv, sp_z0]
    · rw [hv, sp_z1]
  rcases pk_ix x (n := n) (by omega) with h | h | ⟨b, hb, e⟩
  · right
    refine ⟨?_, eM 0 ?_ (Or.inl rfl)⟩
    · unfold F_X0_has; rw [if_pos h]
    · rw [Int32.lt_iff_toInt_lt] at h
      have z : (0 : Int32).toInt = 0 := by decide
      rw [sp_in32, if_neg (by omega)]
  · right
    refine ⟨?_, eM 0 ?_ (Or.inl rfl)⟩
    · unfold F_X0_has; rw [if_pos h]; split <;> rfl
    · rw [Int32.le_iff_toInt_le, nI_toInt (by omega)] at h
      rw [sp_in32, if_neg (by omega)]
  · left
    refine ⟨b, hb, e, ?_, eM 1 ?_ (Or.inr rfl)⟩
    · rw [e, sp_has n (by omega) b (by omega), if_pos hb]
    · rw [e, sp_in32, nI_toInt (by omega), if_pos (by omega)]
theorem sp_all : ∀ n, n < 6 → ((1 : Int32) <<< (nI n &&& 31)) - 1 = nI (2 ^ n - 1) ∧ 2 ^ n - 1 < 32 := by decide +kernel
theorem sp_hasA {n : Nat} (hn : n ≤ 5) (x : Int32) : (∃ S, S < 32 ∧ x = nI S ∧ F_X0_hasAll (nI n) x = some 1 ∧ F_X6_in x.toInt64 0 (((1 : Int32) <<< (nI n &&& 31)) - 1).toInt64 = some 1) ∨ (F_X0_hasAll (nI n) x = some 0 ∧ F_X6_in x.toInt64 0 (((1 : Int32) <<< (nI n &&& 31)) - 1).toInt64 = some 0) := by
  obtain ⟨hA, hB⟩ := sp_all n (by omega)
  have e0 : (0 : Int64).toInt = 0 := by decide
  have z : (0 : Int32).toInt = 0 := by decide
  have e1 : ((nI (2 ^ n - 1)).toInt64).toInt = ((2 ^ n - 1 : Nat) : Int) := by
    rw [Int32.toInt_toInt64, nI_toInt (by omega)]
  unfold F_X0_hasAll F_X0_all
  rw [hA, n_b, sp_in32, e0, e1]
  by_cases h : x < 0
  · right
    rw [if_pos h, if_neg (by rw [Int32.lt_iff_toInt_lt] at h; omega)]
    exact ⟨rfl, rfl⟩
  · rw [if_neg h]
    obtain ⟨S, hS, e⟩ := nI_of h
    subst e
    rw [nI_toInt hS]
    by_cases h2 : 2 ^ n - 1 < S
    · right
      rw [if_pos (by rw [n_lt (by omega) hS]; exact h2), if_neg (by omega)]
      exact ⟨rfl, rfl⟩
    · left
      rw [if_neg (by rw [n_lt (by omega) hS]; exact h2), if_pos (by omega)]
      exact ⟨S, by omega, rfl, rfl, rfl⟩
/-! letter, blank, fault, tale -/
theorem op_letter {len : Nat} {pl : Nat → Int32} (hl : len ≤ 40) (l1 : Int32) : ∃ v len' pl', F_X5_letter (nI len) pl l1 = some (v, nI len', pl') ∧ F_X6_letter (nI len) pl l1 = some (v, nI len', pl') ∧ len' ≤ 40 := by
  have e0 : (1 : Int64).toInt = 1 := by decide
  have e1 : (126 : Int64).toInt = 126 := by decide
  have z0 : (1 : Int32).toInt = 1 := by decide
  have z1 : (126 : Int32).toInt = 126 := by decide
  have eC : F_X5_letter (nI len) pl l1 = if (1 : Int) ≤ l1.toInt ∧ l1.toInt ≤ 126 then (if len = 40 then some (-104, nI len, pl) else some (nI (len + 1), nI (len + 1), upd pl len l1)) else some (-102, nI len, pl) := by
    unfold F_X5_letter
    by_cases h1 : l1 < 1
    · rw [if_pos h1, if_neg (by rw [Int32.lt_iff_toInt_lt] at h1; omega)]
    · rw [if_neg h1]
      by_cases h2 : l1 ≤ 126
      · rw [if_pos h2, if_pos (by rw [Int32.lt_iff_toInt_lt] at h1; rw [Int32.le_iff_toInt_le] at h2; omega)]
        unfold F_X3_write F_X3_length
        have e40 : (nI len < (40 : Int32)) = (len < 40) := n_lt (b := 40) (by omega) (by decide)
        rw [if_neg (nI_pos (by omega))]
        by_cases h3 : len = 40
        · rw [if_neg (by rw [e40]; omega), n_b, if_pos rfl, if_pos h3]
        · rw [if_pos (by rw [e40]; omega), n_ix (by omega) (by decide), n_b, if_neg (show ¬ (1 : Int32) = 0 by decide), n_b, if_neg h3, n_1, n_cl (by omega)]
      · rw [if_neg h2, if_neg (by rw [Int32.le_iff_toInt_le] at h2; omega)]
  have eM : F_X6_letter (nI len) pl l1 = if (1 : Int) ≤ l1.toInt ∧ l1.toInt ≤ 126 then (if len = 40 then some (-104, nI len, pl) else some (nI (len + 1), nI (len + 1), upd pl len l1)) else some (-102, nI len, pl) := by
    unfold F_X6_letter
    rw [sp_in32, e0, e1, n_b]
    by_cases h : (1 : Int) ≤ l1.toInt ∧ l1.toInt ≤ 126
    · have e40 : (nI len = (40 : Int32)) = (len = 40) := n_eq (b := 40) (by omega) (by decide)
      rw [if_pos h, if_pos h, if_neg (by decide)]
      by_cases h3 : len = 40
      · rw [if_pos (by rw [e40]; exact h3), if_pos h3]
      · rw [if_neg (by rw [e40]; exact h3), if_neg h3, n_ix (by omega) (by decide), n_1, n_cl (by omega)]
    · rw [if_neg h, if_neg h, if_pos rfl]
  rw [eC, eM]
  by_cases h : (1 : Int) ≤ l1.toInt ∧ l1.toInt ≤ 126
  · rw [if_pos h]
    by_cases h3 : len = 40
    · rw [if_pos h3]; exact ⟨_, _, _, rfl, rfl, hl⟩
    · rw [if_neg h3]; exact ⟨_, _, _, rfl, rfl, by omega⟩
  · rw [if_neg h]; exact ⟨_, _, _, rfl, rfl, hl⟩
theorem op_blank (len : Nat) : ∃ v len', F_X5_blank (nI len) = some (v, nI len') ∧ F_X6_blank (nI len) = some (v, nI len') ∧ len' ≤ 40 :=
  ⟨nI len, 0, rfl, rfl, by omega⟩
theorem op_fault {len : Nat} {pg D D' : Nat → Int32} {r g f w r' B s : Int32} (hl : len ≤ 40) : ∃ v a1 a2 a3 a4 a5 b1 b2 b3 b4, F_X5_fault (nI len) r g f w pg D = some (v, a1, a2, a3, a4, a5) ∧ F_X6_fault (nI len) r' B s pg D' = some (v, b1, b2, b3, b4) := by
  obtain ⟨p, R2, g2, f2, w2, D2, B2, s2, D2', h1, h2, _, _⟩ := sp_read (pg := pg) (D := D) (D' := D') (r := r) (g := g) (f := f) (w := w) (r' := r') (B := B) (s := s) hl
  unfold F_X5_fault F_X6_fault
  rw [h1, h2]
  exact ⟨_, _, _, _, _, _, _, _, _, _, rfl, rfl⟩
theorem op_tale {τ Nh Rh : Nat → Int32} {n N len : Nat} {pg D D' : Nat → Int32} {r g f w r' B s : Int32} (hn : n ≤ 5) (T : sp_T τ n) (H : sp_R Nh N) (hV : sp_V n N) (hl : len ≤ 40) : ∃ v a0 a1 a2 a3 a4 a5 b1 b2 b3 b4, F_X5_tale (nI n) τ Nh Rh (nI len) r g f w pg D = some (v, a0, a1, a2, a3, a4, a5) ∧ F_X6_tale (nI len) r' B s (nI n) (nI N) pg D' τ = some (v, b1, b2, b3, b4) := by
  obtain ⟨p, R2, g2, f2, w2, D2, B2, s2, D2', h1, h2, hp, hS⟩ := sp_read (pg := pg) (D := D) (D' := D') (r := r) (g := g) (f := f) (w := w) (r' := r') (B := B) (s := s) hl
  unfold F_X5_tale F_X6_tale F_X3_length F_X3_isWhole
  rw [h1, h2, n_b, n_b, n_b]
  dsimp only
  have ePL : (nI p < nI len) = (p < len) := n_lt (by omega) (by omega)
  by_cases hlt : p < len
  · rw [if_pos (by rw [ePL]; exact hlt), if_pos (by rw [ePL]; exact hlt)]
    exact ⟨_, _, _, _, _, _, _, _, _, _, _, rfl, rfl⟩
  · rw [if_neg (by rw [ePL]; exact hlt), if_neg (by rw [ePL]; exact hlt)]
    obtain ⟨hD, hst⟩ := hS (by omega)
    rcases hst with ⟨a, b, c, d⟩ | ⟨a, b, c, d⟩ | ⟨a, b, c, d⟩ | ⟨a, b, c, d⟩
    · rw [a, c, sp_z0, n_b, if_pos rfl, if_neg (by decide)]
      exact ⟨_, _, _, _, _, _, _, _, _, _, _, rfl, rfl⟩
    · rw [a, c, sp_z1, n_b, if_neg (by decide), if_pos rfl]
      obtain ⟨h', hc, hR'⟩ := sp_copy (h := Rh) H
      rw [hc, n_b]
      obtain ⟨x, h'', e1, e2⟩ := sp_taleL (g := g2) (f := f2) (w := 1) (B := B2) (s := 3) hn T d hD R2 0 sw_fu N h' (by omega) (by unfold sw_fu; omega) hV hR'
      exact ⟨_, _, _, _, _, _, _, _, _, _, _, e1, e2⟩
    · rw [a, c, sp_z0, n_b, if_pos rfl, if_neg (by decide)]
      exact ⟨_, _, _, _, _, _, _, _, _, _, _, rfl, rfl⟩
    · rw [a, c, sp_z0, n_b, if_pos rfl, if_neg (by decide)]
      exact ⟨_, _, _, _, _, _, _, _, _, _, _, rfl, rfl⟩
