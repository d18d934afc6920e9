/-! pure: who comes out by a cough or a yawn -/
def sp_pc (N a : Nat) : Nat → Nat
  | 0 => 0
  | k + 1 => sp_pc N a k + (if sp_d N k = a + 1 then 1 else 0)
theorem sp_pc_m (N a : Nat) : ∀ d j, sp_pc N a j ≤ sp_pc N a (j + d) := by
  intro d
  induction d with
  | zero => intro j; exact Nat.le_refl _
  | succ d ih =>
    intro j
    have h1 : sp_pc N a (j + (d + 1)) = sp_pc N a (j + d) + (if sp_d N (j + d) = a + 1 then 1 else 0) := rfl
    have := ih j
    omega
theorem sp_pc_le {N a i j : Nat} (h : i ≤ j) : sp_pc N a i ≤ sp_pc N a j := by
  have := sp_pc_m N a (j - i) i
  rwa [Nat.add_sub_cancel' h] at this
def sp_ch (N a m n j : Nat) : Bool := decide (j < n) && decide (sp_d N j = a + 1) && decide (sp_pc N a n - sp_pc N a (j + 1) < m)
theorem sp_bor : ∀ B, B < 32 → ∀ k, k < 5 → nI B ||| ((1 : Int32) <<< (nI k &&& 31)) = nI (B ||| 2 ^ k) ∧ B ||| 2 ^ k < 32 := by decide +kernel
theorem sp_btt : ∀ B, B < 32 → ∀ k, k < 5 → (((nI B >>> (nI k &&& 31)) &&& (1 : Int32)) = (1 : Int32) ↔ B.testBit k = true) := by decide +kernel
theorem sp_b0 : ∀ B, B < 32 → ((∀ j, j < 5 → B.testBit j = false) ↔ B = 0) := by decide +kernel
theorem sp_comeL {h : Nat → Int32} {N n a m : Nat} (H : sp_R h N) (hn : n ≤ 5) (ha : a < 5) (hm : m ≤ 5) : ∀ k fu B, k ≤ n → k < fu → B < 32 → (∀ j, B.testBit j = (decide (k ≤ j) && sp_ch N a m n j)) →
    ∃ B', F_X1_comingOut_76 h (nI a) fu (nI (m - (sp_pc N a n - sp_pc N a k))) (nI B) (nI k - 1) = some (nI B') ∧ B' < 32 ∧ ∀ j, B'.testBit j = sp_ch N a m n j := by
  intro k
  induction k with
  | zero =>
    intro fu B hk hf hB hb
    obtain ⟨f, rfl⟩ : ∃ f, fu = f + 1 := ⟨fu - 1, by omega⟩
    refine ⟨B, ?_, hB, fun j => by rw [hb j]; simp⟩
    rw [F_X1_comingOut_76.eq_2, if_pos (by decide)]
  | succ k ih =>
    intro fu B hk hf hB hb
    obtain ⟨f, rfl⟩ : ∃ f, fu = f + 1 := ⟨fu - 1, by omega⟩
    rw [F_X1_comingOut_76.eq_2, n_s1, if_neg (nI_pos (by omega))]
    have e1 : sp_pc N a (k + 1) = sp_pc N a k + (if sp_d N k = a + 1 then 1 else 0) := rfl
    have e2 : sp_pc N a (k + 1) ≤ sp_pc N a n := sp_pc_le hk
    have e3 : sp_pc N a k ≤ sp_pc N a n := sp_pc_le (by omega)
    by_cases hL : m - (sp_pc N a n - sp_pc N a (k + 1)) = 0
    · rw [if_pos (by rw [hL]; decide)]
      refine ⟨B, rfl, hB, fun j => ?_⟩
      rw [hb j]
      by_cases hj : k + 1 ≤ j
      · rw [decide_eq_true hj, Bool.true_and]
      · rw [decide_eq_false hj, Bool.false_and]
        have e4 : sp_pc N a (j + 1) ≤ sp_pc N a (k + 1) := sp_pc_le (by omega)
        unfold sp_ch
        rw [decide_eq_false (p := sp_pc N a n - sp_pc N a (j + 1) < m) (by omega), Bool.and_false]
    · rw [if_neg (show ¬ nI _ ≤ (0 : Int32) from nI_nle (by omega) (by omega)), sp_holder H (by omega), n_b]
      by_cases c : sp_d N k = a + 1
      · rw [if_pos c] at e1
        rw [if_pos (by rw [sp_is (by omega)]; exact c), (sp_bor B hB k (by omega)).1, n_m1]
        obtain ⟨L, eL⟩ : ∃ L, m - (sp_pc N a n - sp_pc N a (k + 1)) = L + 1 := ⟨m - (sp_pc N a n - sp_pc N a (k + 1)) - 1, by omega⟩
        rw [eL, n_m1, n_s1, show L = m - (sp_pc N a n - sp_pc N a k) by omega]
        refine ih f _ (by omega) (by omega) (sp_bor B hB k (by omega)).2 (fun j => ?_)
        rw [Nat.testBit_or, hb j, Nat.testBit_two_pow]
        by_cases hj : j = k
        · subst hj
          have : sp_ch N a m n j = true := by
            unfold sp_ch
            rw [decide_eq_true (p := j < n) (by omega), decide_eq_true c, decide_eq_true (p := _ < m) (by omega)]; rfl
          rw [this]; simp
        · have h1 : decide (k = j) = false := decide_eq_false (fun q => hj q.symm)
          rw [h1, Bool.or_false]
          congr 1
          apply decide_eq_decide.mpr
          omega
      · rw [if_neg c] at e1
        rw [if_neg (by rw [sp_is (by omega)]; exact c), n_m1, show sp_pc N a (k + 1) = sp_pc N a k by omega]
        refine ih f B (by omega) (by omega) hB (fun j => ?_)
        rw [hb j]
        by_cases hj : j = k
        · subst hj
          have : sp_ch N a m n j = false := by
            unfold sp_ch
            rw [decide_eq_false c, Bool.and_false, Bool.false_and]
          rw [this]; simp
        · congr 1
          apply decide_eq_decide.mpr
          omega
/-- the sizes of the chosen among the first k -/
def sp_bs (τ : Nat → Int32) (c : Nat → Bool) : Nat → Int32
  | 0 => 0
  | k + 1 => sp_bs τ c k + (if c k = true then τ (4 * k + 1) else 0)
def sp_any (c : Nat → Bool) : Nat → Bool
  | 0 => false
  | k + 1 => sp_any c k || c k
theorem sp_any_t {c : Nat → Bool} : ∀ n, sp_any c n = true ↔ ∃ j, j < n ∧ c j = true := by
  intro n
  induction n with
  | zero => exact ⟨fun h => by simp [sp_any] at h, fun ⟨j, h, _⟩ => absurd h (Nat.not_lt_zero j)⟩
  | succ n ih =>
    unfold sp_any
    rw [Bool.or_eq_true, ih]
    constructor
    · rintro (⟨j, h1, h2⟩ | h)
      · exact ⟨j, by omega, h2⟩
      · exact ⟨n, by omega, h⟩
    · rintro ⟨j, h1, h2⟩
      by_cases e : j = n
      · subst e; exact Or.inr h2
      · exact Or.inl ⟨j, by omega, h2⟩
theorem sp_bs_v {τ : Nat → Int32} {c : Nat → Bool} {n : Nat} (T : sp_T τ n) : ∀ k, k ≤ n → ∃ x, sp_bs τ c k = nI x ∧ x ≤ 9 * k ∧ (x = 0 ↔ sp_any c k = false) := by
  intro k
  induction k with
  | zero => intro _; exact ⟨0, rfl, by omega, by simp [sp_any]⟩
  | succ k ih =>
    intro hk
    obtain ⟨x, h1, h2, h3⟩ := ih (by omega)
    obtain ⟨s, s1, s2, s3⟩ := (T k (by omega)).2.1
    unfold sp_bs sp_any
    by_cases e : c k = true
    · rw [if_pos e, h1, s3, nI_add, e, Bool.or_true]
      exact ⟨x + s, rfl, by omega, by simp; omega⟩
    · have e' : c k = false := by simpa using e
      rw [if_neg e, h1, e', Bool.or_false]
      exact ⟨x, by rw [Int32.add_zero], by omega, h3⟩
theorem sp_takeL {τ : Nat → Int32} {n B : Nat} {w f0 : Int32} (hn : n ≤ 5) (hB : B < 32) {rm : Int32} (hrm : F_X0_trait τ w 2 = some rm) : ∀ d k fu, k + d = n → d < fu →
    F_X1_canTake_16 (nI n) τ w (nI B) fu (f0 + sp_bs τ (fun j => B.testBit j) k) (nI k) = some (if f0 + sp_bs τ (fun j => B.testBit j) n ≤ rm then 1 else 0) := by
  intro d
  induction d with
  | zero =>
    intro k fu hk hf
    obtain ⟨f, rfl⟩ : ∃ f, fu = f + 1 := ⟨fu - 1, by omega⟩
    rw [F_X1_canTake_16.eq_2]
    unfold F_X0_total
    rw [n_b, if_pos (by rw [n_le (by omega) (by omega)]; omega), hrm, n_b, show k = n by omega]
    by_cases c : f0 + sp_bs τ (fun j => B.testBit j) n ≤ rm
    · rw [if_pos c, if_neg (Int32.not_lt.mpr c)]
    · rw [if_neg c, if_pos (Int32.not_le.mp c)]
  | succ d ih =>
    intro k fu hk hf
    obtain ⟨f, rfl⟩ : ∃ f, fu = f + 1 := ⟨fu - 1, by omega⟩
    rw [F_X1_canTake_16.eq_2]
    unfold F_X0_total
    rw [n_b, if_neg (by rw [n_le (by omega) (by omega)]; omega), n_1, ← ih (k + 1) f (by omega) (by omega)]
    show _ = F_X1_canTake_16 (nI n) τ w (nI B) f (f0 + (sp_bs τ (fun j => B.testBit j) k + (if B.testBit k = true then τ (4 * k + 1) else 0))) (nI (k + 1))
    by_cases c : B.testBit k = true
    · rw [if_pos ((sp_btt B hB k (by omega)).mpr c), sp_tr1 (by omega), n_b, if_pos c, Int32.add_assoc]
    · rw [if_neg (fun q => c ((sp_btt B hB k (by omega)).mp q)), if_neg c, Int32.add_zero]
theorem sp_carryL {N n B : Nat} {t : Int32} (hB : B < 32) : ∀ d k fu (h : Nat → Int32), k + d = 5 → d < fu → 
    ∃ h', F_X1_carryOut_37 (nI B) t fu h (nI k) = some h' ∧ ∀ b, b < 5 → h' b = if k ≤ b ∧ B.testBit b = true then t else h b := by
  intro d
  induction d with
  | zero =>
    intro k fu h hk hf
    obtain ⟨f, rfl⟩ : ∃ f, fu = f + 1 := ⟨fu - 1, by omega⟩
    rw [F_X1_carryOut_37.eq_2, if_pos (by rw [n_le5 (by omega)]; omega)]
    exact ⟨h, rfl, fun b hb => by rw [if_neg (by omega)]⟩
  | succ d ih =>
    intro k fu h hk hf
    obtain ⟨f, rfl⟩ : ∃ f, fu = f + 1 := ⟨fu - 1, by omega⟩
    rw [F_X1_carryOut_37.eq_2, if_neg (by rw [n_le5 (by omega)]; omega), n_1]
    by_cases c : B.testBit k = true
    · rw [if_pos ((sp_btt B hB k (by omega)).mpr c), n_ix (by omega) (by decide), n_cl (by omega)]
      obtain ⟨h', e, g⟩ := ih (k + 1) f (upd h k t) (by omega) (by omega)
      refine ⟨h', e, fun b hb => ?_⟩
      rw [g b hb]
      unfold upd
      by_cases q : b = k
      · subst q
        rw [if_neg (by omega), if_pos rfl, if_pos ⟨Nat.le_refl _, c⟩]
      · by_cases q2 : k ≤ b ∧ B.testBit b = true
        · rw [if_pos q2, if_pos ⟨by omega, q2.2⟩]
        · rw [if_neg q2, if_neg (fun z => q2 ⟨by omega, z.2⟩), if_neg q]
    · rw [if_neg (fun q => c ((sp_btt B hB k (by omega)).mp q))]
      obtain ⟨h', e, g⟩ := ih (k + 1) f h (by omega) (by omega)
      refine ⟨h', e, fun b hb => ?_⟩
      rw [g b hb]
      by_cases q2 : k ≤ b ∧ B.testBit b = true
      · have : b ≠ k := fun z => c (by rw [← z]; exact q2.2)
        rw [if_pos q2, if_pos ⟨by omega, q2.2⟩]
      · rw [if_neg q2, if_neg (fun z => q2 ⟨by omega, z.2⟩)]
/-- N with the figures of the chosen among the first k put to t -/
def sp_cN (N : Nat) (c : Nat → Bool) (t : Nat) : Nat → Nat
  | 0 => N
  | k + 1 => if c k = true then sp_rp (sp_cN N c t k) k t else sp_cN N c t k
theorem sp_cN_ok {N t : Nat} {c : Nat → Bool} (hN : N < 7776) (ht : t < 6) : ∀ k, k ≤ 5 → sp_cN N c t k < 7776 ∧ ∀ b, b < 5 → sp_d (sp_cN N c t k) b = if b < k ∧ c b = true then t else sp_d N b := by
  intro k
  induction k with
  | zero => intro _; exact ⟨hN, fun b _ => by rw [if_neg (by omega)]; rfl⟩
  | succ k ih =>
    intro hk
    obtain ⟨h1, h2⟩ := ih (by omega)
    unfold sp_cN
    by_cases e : c k = true
    · rw [if_pos e]
      refine ⟨sp_rp_lt h1 (by omega) ht, fun b hb => ?_⟩
      rw [sp_rp_d h1 (by omega) hb ht, h2 b hb]
      by_cases q : b = k
      · subst q; rw [if_pos rfl, if_pos ⟨by omega, e⟩]
      · rw [if_neg q]
        by_cases q2 : b < k ∧ c b = true
        · rw [if_pos q2, if_pos ⟨by omega, q2.2⟩]
        · rw [if_neg q2, if_neg (fun z => q2 ⟨by omega, z.2⟩)]
    · rw [if_neg e]
      refine ⟨h1, fun b hb => ?_⟩
      rw [h2 b hb]
      by_cases q2 : b < k ∧ c b = true
      · rw [if_pos q2, if_pos ⟨by omega, q2.2⟩]
      · rw [if_neg q2, if_neg (fun z => q2 ⟨?_, z.2⟩)]
        rcases Nat.lt_or_ge b k with h | h
        · exact h
        · have : b = k := by omega
          exact absurd (this ▸ z.2) e
/-- whether what comes out has room where the doer is -/
def sp_rm (τ : Nat → Int32) (N n a : Nat) (c : Nat → Bool) : Bool := decide (sp_d N a = 0) || decide (sp_fl τ N (sp_h N a) n + sp_bs τ c n ≤ τ (4 * (sp_d N a - 1) + 2))
theorem sp_outL {τ : Nat → Int32} {N n a m : Nat} (hN : N < 7776) (hn : n ≤ 5) (T : sp_T τ n) (ha : a < n) (hm : m ≤ 5) : ∀ k fu M (s : Int32), k ≤ n → k < fu → M < 7776 → (∀ b, b < 5 → sp_d M b = if k ≤ b ∧ sp_ch N a m n b = true then sp_d N a else sp_d N b) → s + sp_bs τ (sp_ch N a m n) k = sp_bs τ (sp_ch N a m n) n →
    F_X6_comeOut_24 (nI n) τ (nI N) (nI a) (sp_h N a) fu (nI (m - (sp_pc N a n - sp_pc N a k))) s (nI M) (nI k - 1) = some (if (sp_any (sp_ch N a m n) n && sp_rm τ N n a (sp_ch N a m n)) = true then nI (sp_cN N (sp_ch N a m n) (sp_d N a) n) else (-1)) := by
  intro k
  induction k with
  | zero =>
    intro fu M s hk hf hM hd hs
    obtain ⟨f, rfl⟩ : ∃ f, fu = f + 1 := ⟨fu - 1, by omega⟩
    have hs : s = sp_bs τ (sp_ch N a m n) n := by rw [← hs]; exact (Int32.add_zero s).symm
    obtain ⟨c1, c2⟩ := sp_cN_ok (c := sp_ch N a m n) hN (sp_lt N a) n hn
    have hMe : M = sp_cN N (sp_ch N a m n) (sp_d N a) n := by
      refine sp_ext hM c1 (fun b hb => ?_)
      rw [hd b hb, c2 b hb]
      by_cases q : sp_ch N a m n b = true
      · have : b < n := by
          unfold sp_ch at q
          simp only [Bool.and_eq_true, decide_eq_true_eq] at q
          exact q.1.1
        rw [if_pos ⟨Nat.zero_le _, q⟩, if_pos ⟨this, q⟩]
      · rw [if_neg (fun z => q z.2), if_neg (fun z => q z.2)]
    obtain ⟨x, x1, x2, x3⟩ := sp_bs_v (c := sp_ch N a m n) T n (Nat.le_refl n)
    have fin : ∀ g : Bool, F_X6_comeOut_115 s (nI M) (if g = true then 1 else 0) = some (if (sp_any (sp_ch N a m n) n && g) = true then nI (sp_cN N (sp_ch N a m n) (sp_d N a) n) else (-1)) := by
      intro g
      unfold F_X6_comeOut_115
      rw [hs, x1]
      by_cases q : x = 0
      · rw [if_pos (by rw [q]; decide), if_neg (by rw [x3.mp q]; simp)]
      · have q' : sp_any (sp_ch N a m n) n = true := by
          cases e : sp_any (sp_ch N a m n) n with
          | true => rfl
          | false => exact absurd (x3.mpr e) q
        rw [if_neg (show ¬ nI x ≤ (0 : Int32) from nI_nle (by omega) (by omega)), q', Bool.true_and]
        cases g with
        | true => rw [if_neg (by decide), if_pos rfl, ← hMe]
        | false => rw [if_pos (by decide), if_neg (by decide)]
    rw [F_X6_comeOut_24.eq_2, if_pos (by decide)]
    by_cases w : sp_d N a = 0
    · rw [if_pos (by rw [sp_no]; exact w)]
      have : sp_rm τ N n a (sp_ch N a m n) = true := by unfold sp_rm; rw [decide_eq_true w]; rfl
      rw [this]
      exact fin true
    · rw [if_neg (by rw [sp_no]; exact w), sp_filledM hN hn, n_b, sp_in w, show (2 : Int32) = nI 2 from rfl, sp_r4]
      have w5 := sp_lt N a
      rw [n_ix (by omega) (by decide), n_cl (by omega), ← sp_in w]
      have e : sp_rm τ N n a (sp_ch N a m n) = decide (sp_fl τ N (sp_h N a) n + sp_bs τ (sp_ch N a m n) n ≤ τ (4 * (sp_d N a - 1) + 2)) := by
        unfold sp_rm; rw [decide_eq_false w, Bool.false_or]
      rw [e, ← hs]
      by_cases q : sp_fl τ N (sp_h N a) n + s ≤ τ (4 * (sp_d N a - 1) + 2)
      · rw [if_neg (Int32.not_lt.mpr q), decide_eq_true q]
        exact fin true
      · rw [if_pos (Int32.not_le.mp q), decide_eq_false q]
        exact fin false
  | succ k ih =>
    intro fu M s hk hf hM hd hs
    obtain ⟨f, rfl⟩ : ∃ f, fu = f + 1 := ⟨fu - 1, by omega⟩
    rw [F_X6_comeOut_24.eq_2, n_s1, if_neg (nI_pos (by omega)), sp_holderM hN (by omega), n_b]
    have e1 : sp_pc N a (k + 1) = sp_pc N a k + (if sp_d N k = a + 1 then 1 else 0) := rfl
    have e2 : sp_pc N a (k + 1) ≤ sp_pc N a n := sp_pc_le hk
    have e3 : sp_pc N a k ≤ sp_pc N a n := sp_pc_le (by omega)
    have e5 : sp_bs τ (sp_ch N a m n) (k + 1) = sp_bs τ (sp_ch N a m n) k + (if sp_ch N a m n k = true then τ (4 * k + 1) else 0) := rfl
    by_cases c : sp_d N k = a + 1
    · rw [if_pos c] at e1
      rw [if_pos (by rw [sp_is (by omega)]; exact c)]
      by_cases hL : m - (sp_pc N a n - sp_pc N a (k + 1)) = 0
      · have hc : sp_ch N a m n k = false := by
          unfold sp_ch; rw [decide_eq_false (p := _ < m) (by omega), Bool.and_false]
        rw [if_pos (by rw [hL]; decide), n_m1, show m - (sp_pc N a n - sp_pc N a (k + 1)) = m - (sp_pc N a n - sp_pc N a k) by omega]
        refine ih f M s (by omega) (by omega) hM (fun b hb => ?_) (by rw [← hs, e5, hc, if_neg (by decide), Int32.add_zero])
        rw [hd b hb]
        by_cases q : b = k
        · subst q; rw [hc, if_neg (by simp), if_neg (by simp)]
        · by_cases q2 : k ≤ b ∧ sp_ch N a m n b = true
          · rw [if_pos q2, if_pos ⟨by omega, q2.2⟩]
          · rw [if_neg q2, if_neg (fun z => q2 ⟨by omega, z.2⟩)]
      · have hc : sp_ch N a m n k = true := by
          unfold sp_ch
          rw [decide_eq_true (p := k < n) (by omega), decide_eq_true c, decide_eq_true (p := _ < m) (by omega)]; rfl
        obtain ⟨L, eL⟩ : ∃ L, m - (sp_pc N a n - sp_pc N a (k + 1)) = L + 1 := ⟨m - (sp_pc N a n - sp_pc N a (k + 1)) - 1, by omega⟩
        rw [if_neg (show ¬ nI _ ≤ (0 : Int32) from nI_nle (by omega) (by omega))]
        have em : F_X6_moved (nI M) (nI k) (sp_h N a) = some (nI (sp_rp M k (sp_d N a))) := sp_moved hM (by omega)
        rw [em, n_b]
        rw [show nI k = nI k from rfl, eL, n_m1, n_m1, n_s1, show L = m - (sp_pc N a n - sp_pc N a k) by omega]
        rw [show (4 : Int32) * nI k + 1 = nI (4 * k + 1) from sp_r4 (w := 1), n_ix (by omega) (by decide), n_cl (by omega)]
        refine ih f _ _ (by omega) (by omega) (sp_rp_lt hM (by omega) (sp_lt N a)) (fun b hb => ?_) ?_
        · rw [sp_rp_d hM (by omega) hb (sp_lt N a), hd b hb]
          by_cases q : b = k
          · subst q; rw [if_pos rfl, if_pos ⟨Nat.le_refl _, hc⟩]
          · rw [if_neg q]
            by_cases q2 : k ≤ b ∧ sp_ch N a m n b = true
            · rw [if_pos q2, if_pos ⟨by omega, q2.2⟩]
            · rw [if_neg q2, if_neg (fun z => q2 ⟨by omega, z.2⟩)]
        · rw [← hs, e5, hc, if_pos rfl, Int32.add_assoc, Int32.add_comm (τ (4 * k + 1))]
    · have hc : sp_ch N a m n k = false := by
        unfold sp_ch; rw [decide_eq_false c, Bool.and_false, Bool.false_and]
      rw [if_neg c] at e1
      rw [if_neg (by rw [sp_is (by omega)]; exact c), n_m1, show sp_pc N a (k + 1) = sp_pc N a k by omega]
      refine ih f M s (by omega) (by omega) hM (fun b hb => ?_) (by rw [← hs, e5, hc, if_neg (by decide), Int32.add_zero])
      rw [hd b hb]
      by_cases q : b = k
      · subst q; rw [hc, if_neg (by simp), if_neg (by simp)]
      · by_cases q2 : k ≤ b ∧ sp_ch N a m n b = true
        · rw [if_pos q2, if_pos ⟨by omega, q2.2⟩]
        · rw [if_neg q2, if_neg (fun z => q2 ⟨by omega, z.2⟩)]
theorem sp_outM {τ : Nat → Int32} {N n a m : Nat} (hN : N < 7776) (hn : n ≤ 5) (T : sp_T τ n) (ha : a < n) (hm : m ≤ 5) : F_X6_comeOut (nI n) τ (nI N) (nI a) (nI m) = some (if (sp_any (sp_ch N a m n) n && sp_rm τ N n a (sp_ch N a m n)) = true then nI (sp_cN N (sp_ch N a m n) (sp_d N a) n) else (-1)) := by
  unfold F_X6_comeOut
  rw [sp_holderM hN (by omega), n_b, ← sp_outL hN hn T ha hm n sw_fu N 0 (Nat.le_refl n) (by unfold sw_fu; omega) hN (fun b hb => ?_) (Int32.zero_add _)]
  · rw [Nat.sub_self, Nat.sub_zero]
  · rw [if_neg]
    rintro ⟨h1, h2⟩
    unfold sp_ch at h2
    simp only [Bool.and_eq_true, decide_eq_true_eq] at h2
    omega
