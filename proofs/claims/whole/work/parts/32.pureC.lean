/-! pure: swallowing; who comes out -/
def sp_lk (τ : Nat → Int32) (a b : Nat) : Bool := decide (((τ (4 * a + 3) >>> (τ (4 * b) &&& 31)) &&& (1 : Int32)) = (1 : Int32))
def sp_sw (τ : Nat → Int32) (n N a b : Nat) : Bool := decide (a ≠ b) && decide (sp_d N a = sp_d N b) && decide (0 < τ (4 * a)) && sp_lk τ a b && decide (sp_fl τ N (nI a) n + τ (4 * b + 1) ≤ τ (4 * a + 2)) && (decide (τ (4 * b + 2) = 0) || decide (sp_fl τ N (nI b) n ≠ τ (4 * b + 2)))
theorem sp_canSw {τ h : Nat → Int32} {N n a b : Nat} (H : sp_R h N) (hn : n ≤ 5) (T : sp_T τ n) (ha : a < n) (hb : b < n) : F_X1_canSwallow (nI n) τ h (nI a) (nI b) = some (if sp_sw τ n N a b = true then 1 else 0) := by
  obtain ⟨k, hk, ek⟩ := (T a ha).1
  have e0 : (0 : Int32) < τ (4 * a) ↔ 0 < k := by rw [ek, show (0 : Int32) = nI 0 from rfl, nI_ltI (by decide) (by omega)]
  unfold F_X1_canSwallow
  by_cases hab : a = b
  · rw [if_pos (by rw [hab]), if_neg (by simp [sp_sw, hab])]
  rw [if_neg (by rw [n_eq (by omega) (by omega)]; exact hab), sp_holder H (by omega), n_b, sp_holder H (by omega), n_b]
  by_cases hh : sp_d N a = sp_d N b
  rotate_left
  · rw [if_neg (by rw [sp_eq]; exact hh), if_neg (by simp [sp_sw, hh])]
  rw [if_pos (by rw [sp_eq]; exact hh), sp_isOf1 (by omega) hk ek, n_b]
  by_cases k0 : 0 < k
  rotate_left
  · have : sp_of k 1 = false := by
      have : k = 0 := by omega
      subst this; decide
    rw [this, if_pos (by decide), if_neg (by simp only [sp_sw, e0]; simp [k0])]
  have : sp_of k 1 = true := by
    unfold sp_of; simp [k0]
  rw [this, if_neg (by decide), sp_tr3 (by omega), n_b, sp_tr0 (by omega), n_b]
  have tail : F_X1_canSwallow_62 (nI n) τ h (nI a) (nI b) 1 = some (if (decide (sp_fl τ N (nI a) n + τ (4 * b + 1) ≤ τ (4 * a + 2)) && (decide (τ (4 * b + 2) = 0) || decide (sp_fl τ N (nI b) n ≠ τ (4 * b + 2)))) = true then 1 else 0) := by
    unfold F_X1_canSwallow_62
    rw [if_neg (by decide), sp_filled H hn, n_b, sp_tr1 (by omega), n_b, sp_tr2 (by omega), n_b]
    by_cases h1 : sp_fl τ N (nI a) n + τ (4 * b + 1) ≤ τ (4 * a + 2)
    rotate_left
    · rw [if_neg h1, if_neg (by simp [h1])]
    rw [if_pos h1, sp_tr2 (by omega), n_b]
    by_cases h2 : τ (4 * b + 2) = 0
    · rw [if_pos h2, if_pos (by simp [h1, h2])]
    rw [if_neg h2, sp_filled H hn, n_b]
    by_cases h3 : sp_fl τ N (nI b) n = τ (4 * b + 2)
    · rw [if_pos h3, if_neg (by simp [h2, h3])]
    · rw [if_neg h3, if_pos (by simp [h1, h3])]
  by_cases hl : ((τ (4 * a + 3) >>> (τ (4 * b) &&& 31)) &&& (1 : Int32)) = (1 : Int32)
  · rw [if_pos hl]
    show F_X1_canSwallow_62 (nI n) τ h (nI a) (nI b) 1 = _
    rw [tail]
    have z : sp_sw τ n N a b = (decide (sp_fl τ N (nI a) n + τ (4 * b + 1) ≤ τ (4 * a + 2)) && (decide (τ (4 * b + 2) = 0) || decide (sp_fl τ N (nI b) n ≠ τ (4 * b + 2)))) := by
      unfold sp_sw sp_lk
      rw [decide_eq_true hab, decide_eq_true hh, decide_eq_true (e0.mpr k0), decide_eq_true hl]
      simp only [Bool.true_and, Bool.and_assoc]
    rw [z]
  · rw [if_neg hl]
    unfold F_X1_canSwallow_62
    rw [if_pos rfl, if_neg (by unfold sp_sw sp_lk; simp [hl])]
theorem sp_swM {τ : Nat → Int32} {N n a b : Nat} (hN : N < 7776) (hn : n ≤ 5) (ha : a < n) (hb : b < n) : F_X6_swallowed (nI n) τ (nI N) (nI a) (nI b) = some (if sp_sw τ n N a b = true then nI (sp_rp N b (a + 1)) else (-1)) := by
  have c0 : F_X6_swallowed_133 (nI N) (nI a) (nI b) 0 = some (-1) := by unfold F_X6_swallowed_133; rw [if_pos rfl]
  have c1 : F_X6_swallowed_133 (nI N) (nI a) (nI b) 1 = some (nI (sp_rp N b (a + 1))) := by
    unfold F_X6_swallowed_133
    rw [if_neg (by decide), ← n_s1 a, sp_moved hN (by omega), n_b]
  have z0 : ∀ q, F_X6_swallowed_71 (nI n) τ (nI N) (nI a) (nI b) q 0 = some (-1) := fun q => by unfold F_X6_swallowed_71; rw [if_pos rfl, c0]
  have z1 : F_X6_swallowed_71 (nI n) τ (nI N) (nI a) (nI b) (sp_fl τ N (nI b) n) 1 = some (if (decide (sp_fl τ N (nI a) n + τ (4 * b + 1) ≤ τ (4 * a + 2)) && (decide (τ (4 * b + 2) = 0) || decide (sp_fl τ N (nI b) n ≠ τ (4 * b + 2)))) = true then nI (sp_rp N b (a + 1)) else (-1)) := by
    unfold F_X6_swallowed_71
    rw [if_neg (by decide), sp_filledM hN hn, n_b, show (1 : Int32) = nI 1 from rfl, show (2 : Int32) = nI 2 from rfl, sp_r4, sp_r4, sp_r4, n_ix (by omega) (by decide), n_ix (by omega) (by decide), n_cl (by omega), n_cl (by omega)]
    by_cases h1 : sp_fl τ N (nI a) n + τ (4 * b + 1) ≤ τ (4 * a + 2)
    rotate_left
    · rw [if_pos (Int32.not_le.mp h1), if_neg (by simp [h1])]
      exact c0
    rw [if_neg (Int32.not_lt.mpr h1), n_ix (by omega) (by decide), n_cl (by omega)]
    by_cases h3 : sp_fl τ N (nI b) n = τ (4 * b + 2)
    · rw [if_pos h3]
      by_cases h2 : τ (4 * b + 2) = 0
      · rw [if_pos (h3.trans h2), if_pos (by simp [h1, h2])]
        exact c1
      · rw [if_neg (by rw [h3]; exact h2), if_neg (by simp [h2, h3])]
        exact c0
    · rw [if_neg h3, if_pos (by simp [h1, h3])]
      exact c1
  unfold F_X6_swallowed
  rw [sp_r40, sp_r40, show (3 : Int32) = nI 3 from rfl, nI_add, n_ix (by omega) (by decide), sp_filledM hN hn, n_b, n_ix (by omega) (by decide), n_ix (by omega) (by decide), n_cl (by omega), n_cl (by omega), n_cl (by omega), sp_holderM hN (by omega), n_b, sp_holderM hN (by omega), n_b]
  by_cases k0 : 0 < τ (4 * a)
  rotate_left
  · rw [if_pos (Int32.not_lt.mp k0), z0, if_neg (by simp [sp_sw, k0])]
  rw [if_neg (Int32.not_le.mpr k0)]
  by_cases hab : a = b
  · rw [if_pos (by rw [hab]), z0, if_neg (by simp [sp_sw, hab])]
  rw [if_neg (by rw [n_eq (by omega) (by omega)]; exact hab)]
  by_cases hl : ((τ (4 * a + 3) >>> (τ (4 * b) &&& 31)) &&& (1 : Int32)) = (1 : Int32)
  rotate_left
  · rw [if_neg hl, z0, if_neg (by unfold sp_sw sp_lk; simp [hl])]
  rw [if_pos hl]
  by_cases hh : sp_d N a = sp_d N b
  rotate_left
  · rw [if_neg (by rw [sp_eq]; exact hh), z0, if_neg (by simp [sp_sw, hh])]
  rw [if_pos (by rw [sp_eq]; exact hh), z1]
  have z : sp_sw τ n N a b = (decide (sp_fl τ N (nI a) n + τ (4 * b + 1) ≤ τ (4 * a + 2)) && (decide (τ (4 * b + 2) = 0) || decide (sp_fl τ N (nI b) n ≠ τ (4 * b + 2)))) := by
    unfold sp_sw sp_lk
    rw [decide_eq_true hab, decide_eq_true hh, decide_eq_true k0, decide_eq_true hl]
    simp only [Bool.true_and, Bool.and_assoc]
  rw [z]
