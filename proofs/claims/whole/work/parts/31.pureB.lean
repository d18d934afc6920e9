/-! pure: which deeds there are; traits; how much one is filled -/
theorem sp_c1 (x y : Int64) : (lg_cmp x y < 0) = (x.toInt < y.toInt) := by
  apply propext
  rw [← Int64.lt_iff_toInt_lt]
  unfold lg_cmp
  by_cases h1 : y < x
  · rw [if_pos h1]
    exact ⟨fun h => absurd h (by decide), fun h => absurd h (lg_lt_not h1)⟩
  · rw [if_neg h1]
    by_cases h2 : x = y
    · rw [if_pos h2]
      subst h2
      exact ⟨fun h => absurd h (by decide), fun h => absurd h h1⟩
    · rw [if_neg h2]
      refine ⟨fun _ => ?_, fun _ => by decide⟩
      rw [Int64.lt_iff_toInt_lt] at h1 ⊢
      have h3 : x.toInt ≠ y.toInt := fun q => h2 (Int64.toInt_inj.mp q)
      omega
theorem sp_c2 (x y : Int64) : (0 < lg_cmp x y) = (y.toInt < x.toInt) := by
  apply propext
  rw [← Int64.lt_iff_toInt_lt]
  unfold lg_cmp
  by_cases h1 : y < x
  · rw [if_pos h1]
    exact ⟨fun _ => h1, fun _ => by decide⟩
  · rw [if_neg h1]
    by_cases h2 : x = y
    · rw [if_pos h2]
      exact ⟨fun h => absurd h (by decide), fun h => absurd h h1⟩
    · rw [if_neg h2]
      exact ⟨fun h => absurd h (by decide), fun h => absurd h h1⟩
theorem sp_inn (x lo hi : Int64) : F_X6_in x lo hi = some (if lo.toInt ≤ x.toInt ∧ x.toInt ≤ hi.toInt then 1 else 0) := by
  unfold F_X6_in
  by_cases h1 : x.toInt < lo.toInt
  · rw [if_pos (by rw [sp_c1]; exact h1), if_neg (by omega)]
  · rw [if_neg (by rw [sp_c1]; exact h1)]
    by_cases h2 : hi.toInt < x.toInt
    · rw [if_pos (by rw [sp_c2]; exact h2), if_neg (by omega)]
    · rw [if_neg (by rw [sp_c2]; exact h2), if_pos (by omega)]
theorem sp_in32 (x : Int32) (lo hi : Int64) : F_X6_in x.toInt64 lo hi = some (if lo.toInt ≤ x.toInt ∧ x.toInt ≤ hi.toInt then 1 else 0) := by
  rw [sp_inn, Int32.toInt_toInt64]
def sp_K (n d : Nat) : Bool := (decide (d < 25) && decide (d / 5 < n) && decide (d % 5 < n)) || ((decide (30 ≤ d) && decide (d < 35) || decide (40 ≤ d) && decide (d < 45)) && decide (d % 10 < n))
theorem sp_knows : ∀ n, n < 6 → ∀ d, d < 45 → F_X0_knows (nI n) (nI d) = some (if sp_K n d = true then 1 else 0) := by decide +kernel
theorem sp_isDeed : ∀ n, n < 6 → ∀ d, d < 45 → F_X6_isDeed (nI n) (nI d) = some (if sp_K n d = true then 1 else 0) := by decide +kernel
theorem sp_knowsN {n : Nat} {x : Int32} (h : x < 0 ∨ (45 : Int32) ≤ x) : F_X0_knows (nI n) x = some 0 := by
  unfold F_X0_knows F_X5_isDeed
  rcases h with h | h
  · rw [if_pos h, n_b, if_pos rfl]
  · have h0 : ¬ x < 0 := by
      rw [Int32.lt_iff_toInt_lt]; rw [Int32.le_iff_toInt_le] at h
      have e : (45 : Int32).toInt = 45 := by decide
      have e0 : (0 : Int32).toInt = 0 := by decide
      omega
    have h1 : ¬ x < 45 := by
      rw [Int32.lt_iff_toInt_lt]; rw [Int32.le_iff_toInt_le] at h; omega
    rw [if_neg h0, if_neg h1, n_b, if_pos rfl]
theorem sp_isDeedN {n : Nat} {x : Int32} (h : x < 0 ∨ (45 : Int32) ≤ x) : F_X6_isDeed (nI n) x = some 0 := by
  have hh : x.toInt < 0 ∨ 45 ≤ x.toInt := by
    rcases h with h | h
    · rw [Int32.lt_iff_toInt_lt] at h; exact Or.inl h
    · rw [Int32.le_iff_toInt_le] at h; exact Or.inr h
  unfold F_X6_isDeed
  have e0 : (0 : Int64).toInt = 0 := by decide
  have e1 : (24 : Int64).toInt = 24 := by decide
  have e2 : (30 : Int64).toInt = 30 := by decide
  have e3 : (34 : Int64).toInt = 34 := by decide
  have e4 : (40 : Int64).toInt = 40 := by decide
  have e5 : (44 : Int64).toInt = 44 := by decide
  rw [sp_in32, e0, e1, if_neg (by omega), n_b, if_pos rfl, sp_in32, e2, e3, if_neg (by omega), n_b, if_pos rfl, sp_in32, e4, e5, if_neg (by omega), n_b, if_pos rfl]
theorem sp_cut (x : Int32) : (x < 0 ∨ (45 : Int32) ≤ x) ∨ ∃ d, d < 45 ∧ x = nI d := by
  rcases pk_ix x (n := 45) (by decide) with h | h | h
  · exact Or.inl (Or.inl h)
  · exact Or.inl (Or.inr h)
  · exact Or.inr h
theorem sp_has : ∀ n, n < 6 → ∀ b, b < 6 → F_X0_has (nI n) (nI b) = some (if b < n then 1 else 0) := by decide +kernel
/-- what is known of the beings' traits -/
def sp_T (τ : Nat → Int32) (n : Nat) : Prop := ∀ b, b < n → (∃ k, k < 5 ∧ τ (4 * b) = nI k) ∧ (∃ s, 1 ≤ s ∧ s < 10 ∧ τ (4 * b + 1) = nI s) ∧ (∃ r, r < 21 ∧ τ (4 * b + 2) = nI r) ∧ ∃ l, l < 32 ∧ τ (4 * b + 3) = nI l
theorem sp_tr {τ : Nat → Int32} {b w : Nat} (hb : b < 5) (hw : w < 4) : F_X0_trait τ (nI b) (nI w) = some (τ (4 * b + w)) := by
  unfold F_X0_trait
  have e : nI b * (4 : Int32) + nI w = nI (4 * b + w) := by
    rw [show (4 : Int32) = nI 4 from rfl, pk_mul, nI_add, Nat.mul_comm]
  rw [e, if_neg (nI_pos (by omega)), if_neg (by rw [show (20 : Int32) = nI 20 from rfl, n_le (by decide) (by omega)]; omega), n_ix (by omega) (by decide), n_cl (by omega)]
theorem sp_tr0 {τ : Nat → Int32} {b : Nat} (hb : b < 5) : F_X0_trait τ (nI b) (0 : Int32) = some (τ (4 * b)) := sp_tr (w := 0) hb (by decide)
theorem sp_tr1 {τ : Nat → Int32} {b : Nat} (hb : b < 5) : F_X0_trait τ (nI b) (1 : Int32) = some (τ (4 * b + 1)) := sp_tr (w := 1) hb (by decide)
theorem sp_tr2 {τ : Nat → Int32} {b : Nat} (hb : b < 5) : F_X0_trait τ (nI b) (2 : Int32) = some (τ (4 * b + 2)) := sp_tr (w := 2) hb (by decide)
theorem sp_tr3 {τ : Nat → Int32} {b : Nat} (hb : b < 5) : F_X0_trait τ (nI b) (3 : Int32) = some (τ (4 * b + 3)) := sp_tr (w := 3) hb (by decide)
def sp_of (k kk : Nat) : Bool := decide (kk = 0) || decide (kk = k) || (decide (kk = 1) && decide (0 < k)) || (decide (kk = 2) && decide (k = 4))
theorem sp_of_t : ∀ k, k < 5 → ∀ kk, kk < 5 → (if ((sw_kv k >>> (nI kk &&& 31)) &&& (1 : Int32)) = (1 : Int32) then some (1 : Int32) else some 0) = some (if sp_of k kk = true then 1 else 0) := by decide +kernel
theorem sp_isOf {τ : Nat → Int32} {b k kk : Nat} (hb : b < 5) (hk : k < 5) (hkk : kk < 5) (e : τ (4 * b) = nI k) : F_X0_isOf τ (nI b) (nI kk) = some (if sp_of k kk = true then 1 else 0) := by
  unfold F_X0_isOf
  rw [sp_tr0 hb, n_b, e, if_neg (nI_pos (by omega)), if_pos (show nI k < (5 : Int32) from nI_lt (b := 5) hk (by decide)), n_ix hk (by decide), n_cl (by omega)]
  exact sp_of_t k hk kk hkk
/-- by how much a is filled, counting the first k beings -/
def sp_fl (τ : Nat → Int32) (N : Nat) (a : Int32) : Nat → Int32
  | 0 => 0
  | k + 1 => sp_fl τ N a k + (if sp_h N k = a then τ (4 * k + 1) else 0)
theorem sp_filledL {τ h : Nat → Int32} {N n : Nat} {a : Int32} (H : sp_R h N) (hn : n ≤ 5) : ∀ d k fu, k + d = n → d < fu → F_X1_filled_4 (nI n) τ h a fu (sp_fl τ N a k) (nI k) = some (sp_fl τ N a n) := by
  intro d
  induction d with
  | zero =>
    intro k fu hk hf
    obtain ⟨f, rfl⟩ : ∃ f, fu = f + 1 := ⟨fu - 1, by omega⟩
    rw [F_X1_filled_4.eq_2]
    unfold F_X0_total
    rw [n_b, if_pos (by rw [n_le (by omega) (by omega)]; omega)]
    rw [show k = n by omega]
  | succ d ih =>
    intro k fu hk hf
    obtain ⟨f, rfl⟩ : ∃ f, fu = f + 1 := ⟨fu - 1, by omega⟩
    rw [F_X1_filled_4.eq_2]
    unfold F_X0_total
    rw [n_b, if_neg (by rw [n_le (by omega) (by omega)]; omega), sp_holder H (by omega), n_b, sp_tr1 (by omega), n_1]
    rw [← ih (k + 1) f (by omega) (by omega)]
    show _ = F_X1_filled_4 (nI n) τ h a f (sp_fl τ N a k + (if sp_h N k = a then τ (4 * k + 1) else 0)) (nI (k + 1))
    by_cases c : sp_h N k = a
    · rw [if_pos c, if_pos c]; rfl
    · rw [if_neg c, if_neg c, Int32.add_zero]
theorem sp_filled {τ h : Nat → Int32} {N n : Nat} {a : Int32} (H : sp_R h N) (hn : n ≤ 5) : F_X1_filled (nI n) τ h a = some (sp_fl τ N a n) :=
  sp_filledL H hn n 0 sw_fu (by omega) (by unfold sw_fu; omega)
theorem sp_r4 {b w : Nat} : ((4 : Int32) * nI b) + nI w = nI (4 * b + w) := by
  rw [show (4 : Int32) = nI 4 from rfl, pk_mul, nI_add]
theorem sp_r40 {b : Nat} : (4 : Int32) * nI b = nI (4 * b) := by
  rw [show (4 : Int32) = nI 4 from rfl, pk_mul]
theorem sp_filledML {τ : Nat → Int32} {N n : Nat} {a : Int32} (hN : N < 7776) (hn : n ≤ 5) : ∀ d k fu, k + d = n → d < fu → F_X6_filled_5 (nI n) τ (nI N) a fu (sp_fl τ N a k) (nI k) = some (sp_fl τ N a n) := by
  intro d
  induction d with
  | zero =>
    intro k fu hk hf
    obtain ⟨f, rfl⟩ : ∃ f, fu = f + 1 := ⟨fu - 1, by omega⟩
    rw [F_X6_filled_5.eq_2, if_pos (by rw [n_le (by omega) (by omega)]; omega)]
    rw [show k = n by omega]
  | succ d ih =>
    intro k fu hk hf
    obtain ⟨f, rfl⟩ : ∃ f, fu = f + 1 := ⟨fu - 1, by omega⟩
    rw [F_X6_filled_5.eq_2, if_neg (by rw [n_le (by omega) (by omega)]; omega), sp_holderM hN (by omega), n_b, show (1 : Int32) = nI 1 from rfl, sp_r4, n_ix (by omega) (by decide), n_cl (by omega)]
    unfold F_X6_filled_40
    rw [show (1 : Int32) = nI 1 from rfl, nI_add]
    rw [← ih (k + 1) f (by omega) (by omega)]
    show _ = F_X6_filled_5 (nI n) τ (nI N) a f (sp_fl τ N a k + (if sp_h N k = a then τ (4 * k + 1) else 0)) (nI (k + 1))
    by_cases c : sp_h N k = a
    · rw [if_pos c, if_pos c]
    · rw [if_neg c, if_neg c]
theorem sp_filledM {τ : Nat → Int32} {N n : Nat} {a : Int32} (hN : N < 7776) (hn : n ≤ 5) : F_X6_filled (nI n) τ (nI N) a = some (sp_fl τ N a n) :=
  sp_filledML hN hn n 0 sw_fu (by omega) (by unfold sw_fu; omega)
theorem sp_isOf1 {τ : Nat → Int32} {b k : Nat} (hb : b < 5) (hk : k < 5) (e : τ (4 * b) = nI k) : F_X0_isOf τ (nI b) (1 : Int32) = some (if sp_of k 1 = true then 1 else 0) := sp_isOf (kk := 1) hb hk (by decide) e
theorem sp_isOf2 {τ : Nat → Int32} {b k : Nat} (hb : b < 5) (hk : k < 5) (e : τ (4 * b) = nI k) : F_X0_isOf τ (nI b) (2 : Int32) = some (if sp_of k 2 = true then 1 else 0) := sp_isOf (kk := 2) hb hk (by decide) e
theorem sp_isOf3 {τ : Nat → Int32} {b k : Nat} (hb : b < 5) (hk : k < 5) (e : τ (4 * b) = nI k) : F_X0_isOf τ (nI b) (3 : Int32) = some (if sp_of k 3 = true then 1 else 0) := sp_isOf (kk := 3) hb hk (by decide) e
