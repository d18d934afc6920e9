/-! pure: how many deeds may be, the so-manieth, days -/
def sp_al (τ : Nat → Int32) (n N d : Nat) : Bool := sp_K n d && (sp_nx τ n N d).isSome
def sp_cc (τ : Nat → Int32) (n N : Nat) : Nat → Nat
  | 0 => 0
  | d + 1 => sp_cc τ n N d + (if sp_al τ n N d = true then 1 else 0)
theorem sp_cc_le (τ : Nat → Int32) (n N : Nat) : ∀ d, sp_cc τ n N d ≤ d := by
  intro d
  induction d with
  | zero => exact Nat.le_refl _
  | succ d ih =>
    unfold sp_cc
    by_cases c : sp_al τ n N d = true
    · rw [if_pos c]; omega
    · rw [if_neg c]; omega
theorem sp_cc_m (τ : Nat → Int32) (n N : Nat) : ∀ k d, sp_cc τ n N d ≤ sp_cc τ n N (d + k) := by
  intro k
  induction k with
  | zero => intro d; exact Nat.le_refl _
  | succ k ih =>
    intro d
    have : sp_cc τ n N (d + (k + 1)) = sp_cc τ n N (d + k) + (if sp_al τ n N (d + k) = true then 1 else 0) := rfl
    have := ih d
    omega
theorem sp_cc_mm {τ : Nat → Int32} {n N d e : Nat} (h : d ≤ e) : sp_cc τ n N d ≤ sp_cc τ n N e := by
  have := sp_cc_m τ n N (e - d) d
  rwa [Nat.add_sub_cancel' h] at this
theorem sp_allowA {τ h : Nat → Int32} {N n d : Nat} (H : sp_R h N) (hn : n ≤ 5) (T : sp_T τ n) (hd : d < 45) : F_X1_allows (nI n) τ h (nI d) = some (if sp_al τ n N d = true then 1 else 0) := by
  unfold sp_al
  by_cases K : sp_K n d = true
  · rw [sp_allow H hn T K, K, Bool.true_and]
  · have K' : sp_K n d = false := by simpa using K
    rw [sp_allowN hn hd K, K', Bool.false_and, if_neg (by decide)]
theorem sp_choicesL {τ h : Nat → Int32} {N n : Nat} (H : sp_R h N) (hn : n ≤ 5) (T : sp_T τ n) : ∀ k d fu, d + k = 45 → k < fu → F_X1_choices_4 (nI n) τ h fu (nI (sp_cc τ n N d)) (nI d) = some (nI (sp_cc τ n N 45)) := by
  intro k
  induction k with
  | zero =>
    intro d fu hk hf
    obtain ⟨f, rfl⟩ : ∃ f, fu = f + 1 := ⟨fu - 1, by omega⟩
    rw [F_X1_choices_4.eq_2, if_pos (by rw [n_le45 (by omega)]; omega), show d = 45 by omega]
  | succ k ih =>
    intro d fu hk hf
    obtain ⟨f, rfl⟩ : ∃ f, fu = f + 1 := ⟨fu - 1, by omega⟩
    rw [F_X1_choices_4.eq_2, if_neg (by rw [n_le45 (by omega)]; omega), sp_allowA H hn T (by omega), n_b, n_1, n_1, ← ih (d + 1) f (by omega) (by omega)]
    have e : sp_cc τ n N (d + 1) = sp_cc τ n N d + (if sp_al τ n N d = true then 1 else 0) := rfl
    rw [e]
    by_cases c : sp_al τ n N d = true
    · rw [if_pos c, if_neg (by decide), if_pos c]
    · rw [if_neg c, if_pos rfl, if_neg c]; rfl
theorem sp_choices {τ h : Nat → Int32} {N n : Nat} (H : sp_R h N) (hn : n ≤ 5) (T : sp_T τ n) : F_X1_choices (nI n) τ h = some (nI (sp_cc τ n N 45)) :=
  sp_choicesL H hn T 45 0 sw_fu (by omega) (by unfold sw_fu; omega)
theorem sp_nx_lt {τ : Nat → Int32} {n N d M : Nat} (hn : n ≤ 5) (hV : sp_V n N) (hK : sp_K n d = true) (h : sp_nx τ n N d = some M) : M < 7776 := (sp_nx_V hn hV hK h).1
theorem sp_mayL {τ : Nat → Int32} {N n : Nat} (hV : sp_V n N) (hn : n ≤ 5) (T : sp_T τ n) : ∀ k d fu, d + k = 45 → k < fu → F_X6_mayMany_4 (nI n) τ (nI N) fu (nI (sp_cc τ n N d)) (nI d) = some (nI (sp_cc τ n N 45)) := by
  intro k
  induction k with
  | zero =>
    intro d fu hk hf
    obtain ⟨f, rfl⟩ : ∃ f, fu = f + 1 := ⟨fu - 1, by omega⟩
    rw [F_X6_mayMany_4.eq_2, if_pos (by rw [n_le45 (by omega)]; omega), show d = 45 by omega]
  | succ k ih =>
    intro d fu hk hf
    obtain ⟨f, rfl⟩ : ∃ f, fu = f + 1 := ⟨fu - 1, by omega⟩
    rw [F_X6_mayMany_4.eq_2, if_neg (by rw [n_le45 (by omega)]; omega), sp_isDeed n (by omega) d (by omega), n_b, ← ih (d + 1) f (by omega) (by omega)]
    have e : sp_cc τ n N (d + 1) = sp_cc τ n N d + (if sp_al τ n N d = true then 1 else 0) := rfl
    have z : ∀ v : Int32, F_X6_mayMany_34 (F_X6_mayMany_4 (nI n) τ (nI N) f) (nI n) τ (nI N) (nI d) (nI (sp_cc τ n N d)) v = F_X6_mayMany_4 (nI n) τ (nI N) f (nI (sp_cc τ n N d) + v) (nI (d + 1)) := fun v => by
      unfold F_X6_mayMany_34; rw [n_1]
    rw [e]
    unfold sp_al
    by_cases K : sp_K n d = true
    · rw [if_pos K, if_neg (by decide), sp_doneM hV.1 hn T K, n_b, K, Bool.true_and]
      cases hx : sp_nx τ n N d with
      | none =>
        show (if (-1 : Int32) = -1 then _ else _) = _
        rw [if_pos rfl, z, Int32.add_zero, if_neg (show ¬ (none : Option Nat).isSome = true by decide)]
        rfl
      | some M =>
        show (if nI M = -1 then _ else _) = _
        rw [if_neg (sp_ne1 (sp_nx_lt hn hV K hx)), z, n_1, if_pos (show (some M).isSome = true from rfl)]
    · have K' : sp_K n d = false := by simpa using K
      rw [if_neg K, if_pos rfl, z, Int32.add_zero, K', Bool.false_and, if_neg (by decide)]
      rfl
theorem sp_may {τ : Nat → Int32} {N n : Nat} (hV : sp_V n N) (hn : n ≤ 5) (T : sp_T τ n) : F_X6_mayMany (nI n) τ (nI N) = some (nI (sp_cc τ n N 45)) :=
  sp_mayL hV hn T 45 0 sw_fu (by omega) (by unfold sw_fu; omega)
/-- the p-th of those that may be -/
theorem sp_pick {τ : Nat → Int32} {n N p : Nat} (h : p < sp_cc τ n N 45) : ∃ d, d < 45 ∧ sp_al τ n N d = true ∧ sp_cc τ n N d = p := by
  have key : ∀ e, p < sp_cc τ n N e → ∃ d, d < e ∧ sp_al τ n N d = true ∧ sp_cc τ n N d = p := by
    intro e
    induction e with
    | zero => intro h; exact absurd h (Nat.not_lt_zero p)
    | succ e ih =>
      intro h
      by_cases q : p < sp_cc τ n N e
      · obtain ⟨d, d1, d2⟩ := ih q
        exact ⟨d, by omega, d2⟩
      · have e1 : sp_cc τ n N (e + 1) = sp_cc τ n N e + (if sp_al τ n N e = true then 1 else 0) := rfl
        by_cases c : sp_al τ n N e = true
        · rw [if_pos c] at e1
          exact ⟨e, by omega, c, by omega⟩
        · rw [if_neg c] at e1
          omega
  exact key 45 h
theorem sp_choiceL {τ h : Nat → Int32} {N n p d0 : Nat} (H : sp_R h N) (hn : n ≤ 5) (T : sp_T τ n) (h0 : d0 < 45) (h1 : sp_al τ n N d0 = true) (h2 : sp_cc τ n N d0 = p) : ∀ k d fu, d + k = d0 → k < fu → F_X1_choiceAt_4 (nI n) τ h (nI p) fu (nI (sp_cc τ n N d)) (nI d) = some (nI d0) := by
  have hp : p ≤ 45 := by have := sp_cc_le τ n N d0; omega
  intro k
  induction k with
  | zero =>
    intro d fu hk hf
    obtain ⟨f, rfl⟩ : ∃ f, fu = f + 1 := ⟨fu - 1, by omega⟩
    have : d = d0 := by omega
    subst this
    rw [F_X1_choiceAt_4.eq_2, if_neg (by rw [n_le45 (by omega)]; omega), sp_allowA H hn T h0, n_b, if_pos h1, if_neg (by decide), h2, if_pos rfl]
  | succ k ih =>
    intro d fu hk hf
    obtain ⟨f, rfl⟩ : ∃ f, fu = f + 1 := ⟨fu - 1, by omega⟩
    have e : sp_cc τ n N (d + 1) = sp_cc τ n N d + (if sp_al τ n N d = true then 1 else 0) := rfl
    have hl := sp_cc_le τ n N d
    have hm : sp_cc τ n N (d + 1) ≤ sp_cc τ n N d0 := sp_cc_mm (by omega)
    rw [F_X1_choiceAt_4.eq_2, if_neg (by rw [n_le45 (by omega)]; omega), sp_allowA H hn T (by omega), n_b, n_1, n_1, ← ih (d + 1) f (by omega) (by omega), e]
    by_cases c : sp_al τ n N d = true
    · rw [if_pos c] at e
      rw [if_pos c, if_neg (by decide), if_neg (by rw [n_eq (by omega) (by omega)]; omega), if_pos c]
    · rw [if_neg c, if_pos rfl, if_neg c]; rfl
theorem sp_choice {τ h : Nat → Int32} {N n p d0 : Nat} (H : sp_R h N) (hn : n ≤ 5) (T : sp_T τ n) (h0 : d0 < 45) (h1 : sp_al τ n N d0 = true) (h2 : sp_cc τ n N d0 = p) : F_X1_choiceAt (nI n) τ h (nI p) = some (nI d0) :=
  sp_choiceL H hn T h0 h1 h2 d0 0 sw_fu (by omega) (by unfold sw_fu; omega)
theorem sp_dayI {τ : Nat → Int32} {N n p d0 M : Nat} {sd l1 l3 l5 : Int32} {k53 : Int32 → Int32 → Int32 → Int32 → Option (Int32 × Int32)} (hV : sp_V n N) (hn : n ≤ 5) (T : sp_T τ n) (h0 : d0 < 45) (h1 : sp_al τ n N d0 = true) (h2 : sp_cc τ n N d0 = p) (hM : sp_nx τ n N d0 = some M) : ∀ k d fu, d + k = 45 → k < fu →
    F_X6_days_79 k53 (nI n) sd τ l1 l3 (nI N) l5 fu (nI p - nI (sp_cc τ n N d)) (if d0 < d then nI M else nI N) (nI d) = (F_X6_mayMany (nI n) τ (nI M)).bind (fun q1 => k53 sd (nI M) (l5 + 1) q1) := by
  have hp : p ≤ 45 := by have := sp_cc_le τ n N d0; omega
  have sz : ∀ a b : Nat, a < 100 → b < 100 → (nI a - nI b = 0 ↔ a = b) := fun a b ha hb => (show ∀ a, a < 100 → ∀ b, b < 100 → (nI a - nI b = 0 ↔ a = b) by decide +kernel) a ha b hb
  intro k
  induction k with
  | zero =>
    intro d fu hk hf
    obtain ⟨f, rfl⟩ : ∃ f, fu = f + 1 := ⟨fu - 1, by omega⟩
    rw [F_X6_days_79.eq_2, if_pos (show (45 : Int32) ≤ nI d by rw [n_le45 (by omega)]; omega), if_pos (by omega)]
  | succ k ih =>
    intro d fu hk hf
    obtain ⟨f, rfl⟩ : ∃ f, fu = f + 1 := ⟨fu - 1, by omega⟩
    have e : sp_cc τ n N (d + 1) = sp_cc τ n N d + (if sp_al τ n N d = true then 1 else 0) := rfl
    have hl := sp_cc_le τ n N d
    rw [F_X6_days_79.eq_2, if_neg (show ¬ (45 : Int32) ≤ nI d by rw [n_le45 (by omega)]; omega), sp_isDeed n (by omega) d (by omega), n_b, ← ih (d + 1) f (by omega) (by omega)]
    obtain ⟨x, hx⟩ : ∃ x : Int32, x = (if d0 < d then nI M else nI N) := ⟨_, rfl⟩
    rw [← hx]
    have zn : F_X6_days_107 k53 (F_X6_days_79 k53 (nI n) sd τ l1 l3 (nI N) l5 f) (nI n) sd τ l1 l3 (nI N) l5 (nI p - nI (sp_cc τ n N d)) x (nI d) (-1) = F_X6_days_79 k53 (nI n) sd τ l1 l3 (nI N) l5 f (nI p - nI (sp_cc τ n N d)) x (nI (d + 1)) := by
      unfold F_X6_days_107 F_X6_days_127 F_X6_days_142
      rw [if_pos rfl, if_pos rfl, Int32.sub_zero, n_1]
    have hnot : sp_al τ n N d = false → sp_cc τ n N (d + 1) = sp_cc τ n N d ∧ ((if d0 < d + 1 then nI M else nI N) = x) := by
      intro q
      have q' : ¬ sp_al τ n N d = true := by rw [q]; decide
      rw [if_neg q'] at e
      refine ⟨by omega, ?_⟩
      have hne : d0 ≠ d := fun z => q' (z ▸ h1)
      rw [hx]
      by_cases c : d0 < d
      · rw [if_pos c, if_pos (by omega)]
      · rw [if_neg c, if_neg (by omega)]
    by_cases K : sp_K n d = true
    · rw [if_pos K, if_neg (show ¬ (1 : Int32) = 0 by decide), sp_doneM hV.1 hn T K, n_b]
      cases hxn : sp_nx τ n N d with
      | none =>
        have q : sp_al τ n N d = false := by unfold sp_al; rw [K, hxn]; rfl
        obtain ⟨g1, g2⟩ := hnot q
        show F_X6_days_107 _ _ _ _ _ _ _ _ _ _ _ _ (-1) = _
        rw [zn, g1, g2]
      | some M' =>
        have q : sp_al τ n N d = true := by unfold sp_al; rw [K, hxn]; rfl
        rw [if_pos q] at e
        have hM7 := sp_nx_lt hn hV K hxn
        show F_X6_days_107 _ _ _ _ _ _ _ _ _ _ _ _ (nI M') = _
        unfold F_X6_days_107 F_X6_days_127 F_X6_days_142
        have ne := sp_ne1 hM7
        rw [if_neg ne, if_neg ne, if_neg ne, n_1, e]
        have esub : nI p - nI (sp_cc τ n N d) - 1 = nI p - nI (sp_cc τ n N d + 1) := by
          rw [← nI_1 (sp_cc τ n N d)]
          generalize nI (sp_cc τ n N d) = u
          generalize nI p = v
          grind
        rw [esub]
        by_cases c : d = d0
        · subst c
          rw [if_pos ((sz p _ (by omega) (by omega)).mpr h2.symm), if_pos (by omega)]
          rw [hM] at hxn
          cases hxn
          rfl
        · have hne : ¬ (nI p - nI (sp_cc τ n N d) = 0) := by
            rw [sz p _ (by omega) (by omega)]
            intro z
            by_cases lt : d < d0
            · have := sp_cc_mm (τ := τ) (n := n) (N := N) (d := d + 1) (e := d0) (by omega)
              omega
            · have := sp_cc_mm (τ := τ) (n := n) (N := N) (d := d0 + 1) (e := d) (by omega)
              have e2 : sp_cc τ n N (d0 + 1) = sp_cc τ n N d0 + (if sp_al τ n N d0 = true then 1 else 0) := rfl
              rw [if_pos h1] at e2
              omega
          rw [if_neg hne, hx]
          by_cases lt : d0 < d
          · rw [if_pos lt, if_pos (by omega)]
          · rw [if_neg lt, if_neg (by omega)]
    · have q : sp_al τ n N d = false := by
        have K' : sp_K n d = false := by simpa using K
        unfold sp_al; rw [K']; rfl
      obtain ⟨g1, g2⟩ := hnot q
      rw [if_neg K, if_pos rfl, zn, g1, g2]
/-- the next seed -/
def sp_sd (S : Nat) : Nat := (1103515245 * S + 12345) % 2147483648
theorem sp_sd_lt (S : Nat) : sp_sd S < 2147483648 := Nat.mod_lt _ (by decide)
theorem sp_i2l {S : Nat} (h : S < 2 ^ 31) : (nI S).toInt64 = lN S := nI_l h
theorem sp_andL (n : Nat) (h : n < 2 ^ 63) : lN n &&& (2147483647 : Int64) = lN (n % 2147483648) := by
  apply Int64.toBitVec_inj.mp
  rw [Int64.toBitVec_and]
  apply BitVec.eq_of_toNat_eq
  show (BitVec.ofNat 64 n &&& BitVec.ofNat 64 2147483647).toNat = (BitVec.ofNat 64 (n % 2147483648)).toNat
  rw [BitVec.toNat_and, BitVec.toNat_ofNat, BitVec.toNat_ofNat, BitVec.toNat_ofNat, Nat.mod_eq_of_lt (by omega : n < 2 ^ 64), Nat.mod_eq_of_lt (by omega : n % 2147483648 < 2 ^ 64), Nat.mod_eq_of_lt (by decide : 2147483647 < 2 ^ 64)]
  exact Nat.and_two_pow_sub_one_eq_mod n 31
theorem sp_seedC {S : Nat} (h : S < 2 ^ 31) : F_X5_nextSeed (nI S) = some (nI (sp_sd S)) := by
  unfold F_X5_nextSeed
  have e : (1103515245 : Int64) * (nI S).toInt64 + 12345 = lN (1103515245 * S + 12345) := by
    rw [sp_i2l h, show (1103515245 : Int64) = lN 1103515245 from rfl, show (12345 : Int64) = lN 12345 from rfl, lN_mul, lN_add]
  rw [e, show (2147483648 : Int64) = lN 2147483648 from rfl, pk_lRem (by omega) (by decide) (by decide), lN_i]
  rfl
theorem sp_seedM {S c : Nat} (h : S < 2 ^ 31) (hc : 0 < c) (hc2 : c < 2 ^ 31) : F_X6_draw (nI S) (nI c) = some (nI (sp_sd S / 65536 % c), nI (sp_sd S)) := by
  unfold F_X6_draw
  have e : (1103515245 : Int64) * (nI S).toInt64 + 12345 = lN (1103515245 * S + 12345) := by
    rw [sp_i2l h, show (1103515245 : Int64) = lN 1103515245 from rfl, show (12345 : Int64) = lN 12345 from rfl, lN_mul, lN_add]
  have hs := sp_sd_lt S
  have hd : sp_sd S / 65536 < 2 ^ 31 := Nat.lt_of_le_of_lt (Nat.div_le_self _ _) (by omega)
  rw [n_dz hc hc2, e, sp_andL _ (by omega), lN_i]
  show some (nI (sp_sd S) / 65536 - nI (sp_sd S) / 65536 / nI c * nI c, nI (sp_sd S)) = _
  rw [show (65536 : Int32) = nI 65536 from rfl, pk_div (by omega) (by decide) (by decide), pk_rem hd hc hc2]
theorem sp_drawC {S c : Nat} (hc : 0 < c) (hc2 : c < 2 ^ 31) : nI (sp_sd S) / (65536 : Int32) - nI (sp_sd S) / (65536 : Int32) / nI c * nI c = nI (sp_sd S / 65536 % c) := by
  have hs := sp_sd_lt S
  have hd : sp_sd S / 65536 < 2 ^ 31 := Nat.lt_of_le_of_lt (Nat.div_le_self _ _) (by omega)
  rw [show (65536 : Int32) = nI 65536 from rfl, pk_div (by omega) (by decide) (by decide), pk_rem hd hc hc2]
theorem sp_daysL {τ : Nat → Int32} {n L : Nat} {w : Int32} (hn : n ≤ 5) (T : sp_T τ n) (hL : L ≤ 60) : ∀ k j fu N S (h : Nat → Int32), j + k = L → k < fu → sp_V n N → sp_R h N → S < 2 ^ 31 →
    ∃ v h' s', F_X5_days_52 (nI n) τ (nI L) w fu h (nI S) (nI j) (nI (sp_cc τ n N 45)) = some (v, h') ∧ F_X6_days_53 (nI n) τ (nI L) w fu (nI S) (nI N) (nI j) (nI (sp_cc τ n N 45)) = some (v, s') := by
  have fin : ∀ j N S (h : Nat → Int32), sp_V n N → sp_R h N → ∃ v h' s', F_X5_days_107 h w (nI S) (nI j) = some (v, h') ∧ F_X6_days_169 (nI S) w (nI N) (nI j) = some (v, s') := by
    intro j N S h hV H
    unfold F_X5_days_107 F_X6_days_169
    by_cases c : w = 0
    · refine ⟨nI N, h, nI S, ?_, ?_⟩
      · rw [if_pos c, sp_num H hV.1]; rfl
      · rw [if_pos c]
    · by_cases c1 : w = 1
      · refine ⟨nI j, h, nI S, ?_, ?_⟩
        · rw [if_neg c, if_pos c1]
        · rw [if_neg c, if_pos c1]
      · refine ⟨nI S, h, nI S, ?_, ?_⟩
        · rw [if_neg c, if_neg c1]
        · rw [if_neg c, if_neg c1]
  intro k
  induction k with
  | zero =>
    intro j fu N S h hk hf hV H hS
    obtain ⟨f, rfl⟩ : ∃ f, fu = f + 1 := ⟨fu - 1, by omega⟩
    have c0 : nI L ≤ nI j := nI_le (by omega) (by omega)
    rw [F_X5_days_52.eq_2, if_pos c0, F_X6_days_53.eq_2, if_pos c0]
    exact fin j N S h hV H
  | succ k ih =>
    intro j fu N S h hk hf hV H hS
    obtain ⟨f, rfl⟩ : ∃ f, fu = f + 1 := ⟨fu - 1, by omega⟩
    have c0 : ¬ nI L ≤ nI j := nI_ge (by omega) (by omega)
    obtain ⟨c, hc⟩ : ∃ c, c = sp_cc τ n N 45 := ⟨_, rfl⟩
    have hcl : c ≤ 45 := by rw [hc]; exact sp_cc_le τ n N 45
    rw [← hc]
    by_cases z : c = 0
    · have c1 : nI c ≤ 0 := by rw [z]; decide
      have eC : F_X5_days_52 (nI n) τ (nI L) w (f + 1) h (nI S) (nI j) (nI c) = F_X5_days_107 h w (nI S) (nI j) := by
        rw [F_X5_days_52.eq_2, if_neg c0, if_pos c1]
      have eM : F_X6_days_53 (nI n) τ (nI L) w (f + 1) (nI S) (nI N) (nI j) (nI c) = F_X6_days_169 (nI S) w (nI N) (nI j) := by
        rw [F_X6_days_53.eq_2, if_neg c0, if_pos c1]
      rw [eC, eM]
      exact fin j N S h hV H
    · have c1 : ¬ nI c ≤ 0 := nI_nle (by omega) (by omega)
      obtain ⟨d0, h0, h1, h2⟩ := sp_pick (τ := τ) (n := n) (N := N) (p := sp_sd S / 65536 % c) (by rw [← hc]; exact Nat.mod_lt _ (by omega))
      have K : sp_K n d0 = true := by unfold sp_al at h1; rw [Bool.and_eq_true] at h1; exact h1.1
      obtain ⟨M, hM⟩ : ∃ M, sp_nx τ n N d0 = some M := by
        unfold sp_al at h1
        rw [Bool.and_eq_true] at h1
        exact Option.isSome_iff_exists.mp h1.2
      have hVM := sp_nx_V hn hV K hM
      obtain ⟨g, g1, g2⟩ := sp_carry H hV.1 hn T K hM
      have eC : F_X5_days_52 (nI n) τ (nI L) w (f + 1) h (nI S) (nI j) (nI c) = F_X5_days_52 (nI n) τ (nI L) w f g (nI (sp_sd S)) (nI (j + 1)) (nI (sp_cc τ n M 45)) := by
        rw [F_X5_days_52.eq_2, if_neg c0, if_neg c1, sp_seedC hS, n_b, n_dz (by omega) (by omega), sp_drawC (by omega) (by omega), sp_choice H hn T h0 h1 h2, n_b, g1, n_b, sp_choices g2 hn T, n_b, n_1]
      have eM : F_X6_days_53 (nI n) τ (nI L) w (f + 1) (nI S) (nI N) (nI j) (nI c) = F_X6_days_53 (nI n) τ (nI L) w f (nI (sp_sd S)) (nI M) (nI (j + 1)) (nI (sp_cc τ n M 45)) := by
        rw [F_X6_days_53.eq_2, if_neg c0, if_neg c1, sp_seedM hS (by omega) (by omega), n_b]
        have := sp_dayI (sd := nI (sp_sd S)) (l1 := nI L) (l3 := w) (l5 := nI j) (k53 := F_X6_days_53 (nI n) τ (nI L) w f) hV hn T h0 h1 h2 hM 45 0 sw_fu (by omega) (by unfold sw_fu; omega)
        rw [if_neg (Nat.not_lt_zero d0), show nI (sp_cc τ n N 0) = 0 from rfl, Int32.sub_zero, sp_may hVM hn T, n_b, n_1] at this
        exact this
      rw [eC, eM]
      exact ih (j + 1) f M (sp_sd S) g (by omega) (by omega) hVM g2 (sp_sd_lt S)
