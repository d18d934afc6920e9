/-! pure: a deed: whether it may be, and what is then -/
def sp_on : Option Nat → Int32
  | none => -1
  | some M => nI M
def sp_mk (τ : Nat → Int32) (d : Nat) : Nat := if 40 ≤ d then 5 else if τ (4 * (d % 10)) = 3 then 2 else 1
def sp_fi (τ : Nat → Int32) (d : Nat) : Bool := decide (40 ≤ d) && (decide (τ (4 * (d % 10)) = 2) || decide (τ (4 * (d % 10)) = 4))
def sp_nx (τ : Nat → Int32) (n N d : Nat) : Option Nat :=
  if d < 25 then (if sp_sw τ n N (d / 5) (d % 5) = true then some (sp_rp N (d % 5) (d / 5 + 1)) else none)
  else if (!sp_fi τ d && (sp_any (sp_ch N (d % 10) (sp_mk τ d) n) n && sp_rm τ N n (d % 10) (sp_ch N (d % 10) (sp_mk τ d) n))) = true then some (sp_cN N (sp_ch N (d % 10) (sp_mk τ d) n) (sp_d N (d % 10)) n) else none
theorem sp_doer : ∀ d, d < 45 → F_X5_doer (nI d) = some (nI (if d < 25 then d / 5 else d % 10)) := by decide +kernel
theorem sp_prey : ∀ d, d < 45 → F_X5_prey (nI d) = some (nI (if d < 25 then d % 5 else d % 10)) := by decide +kernel
theorem sp_K1 {n d : Nat} (h : sp_K n d = true) (hd : d < 25) : d / 5 < n ∧ d % 5 < n := by
  unfold sp_K at h
  simp only [Bool.or_eq_true, Bool.and_eq_true, decide_eq_true_eq] at h
  omega
theorem sp_K2 {n d : Nat} (h : sp_K n d = true) (hd : ¬ d < 25) : d % 10 < n := by
  unfold sp_K at h
  simp only [Bool.or_eq_true, Bool.and_eq_true, decide_eq_true_eq] at h
  omega
theorem sp_K3 {n d : Nat} (h : sp_K n d = true) : d < 45 := by
  unfold sp_K at h
  simp only [Bool.or_eq_true, Bool.and_eq_true, decide_eq_true_eq] at h
  omega
theorem sp_q10 {d : Nat} (hd : d < 45) : nI d - nI d / (10 : Int32) * (10 : Int32) = nI (d % 10) := pk_rem (by omega) (d := 10) (by decide) (by decide)
theorem sp_q5 {d : Nat} (hd : d < 45) : nI d - nI d / (5 : Int32) * (5 : Int32) = nI (d % 5) := pk_rem (by omega) (d := 5) (by decide) (by decide)
theorem sp_v5 {d : Nat} (hd : d < 45) : nI d / (5 : Int32) = nI (d / 5) := pk_div (by omega) (d := 5) (by decide) (by decide)
theorem sp_doneM {τ : Nat → Int32} {N n d : Nat} (hN : N < 7776) (hn : n ≤ 5) (T : sp_T τ n) (hK : sp_K n d = true) : F_X6_done (nI n) τ (nI N) (nI d) = some (sp_on (sp_nx τ n N d)) := by
  have hd := sp_K3 hK
  have l25 : ((25 : Int32) ≤ nI d) = (25 ≤ d) := n_le (a := 25) (by decide) (by omega)
  have l40 : ((40 : Int32) ≤ nI d) = (40 ≤ d) := n_le (a := 40) (by decide) (by omega)
  unfold F_X6_done sp_nx
  by_cases h : d < 25
  · obtain ⟨k1, k2⟩ := sp_K1 hK h
    rw [if_neg (by rw [l25]; omega), sp_q5 hd, sp_v5 hd, sp_swM hN hn k1 k2, n_b, if_pos h]
    by_cases c : sp_sw τ n N (d / 5) (d % 5) = true
    · rw [if_pos c, if_pos c]; rfl
    · rw [if_neg c, if_neg c]; rfl
  · have k := sp_K2 hK h
    rw [if_pos (by rw [l25]; omega), sp_q10 hd, sp_r40, n_ix (by omega) (by decide), n_cl (by omega), if_neg h]
    by_cases h4 : 40 ≤ d
    · rw [if_pos (by rw [l40]; exact h4)]
      have em : sp_mk τ d = 5 := by unfold sp_mk; rw [if_pos h4]
      by_cases c2 : τ (4 * (d % 10)) = 2
      · have : sp_fi τ d = true := by unfold sp_fi; simp [h4, c2]
        rw [if_pos c2, this, if_neg (by simp)]; rfl
      rw [if_neg c2]
      by_cases c4 : τ (4 * (d % 10)) = 4
      · have : sp_fi τ d = true := by unfold sp_fi; simp [h4, c4]
        rw [if_pos c4, this, if_neg (by simp)]; rfl
      have : sp_fi τ d = false := by unfold sp_fi; simp [c2, c4]
      rw [if_neg c4, this, em, Bool.not_false, Bool.true_and, show (5 : Int32) = nI 5 from rfl, sp_outM hN hn T k (by decide), n_b]
      by_cases g : (sp_any (sp_ch N (d % 10) 5 n) n && sp_rm τ N n (d % 10) (sp_ch N (d % 10) 5 n)) = true
      · rw [if_pos g, if_pos g]; rfl
      · rw [if_neg g, if_neg g]; rfl
    · rw [if_neg (by rw [l40]; exact h4)]
      have : sp_fi τ d = false := by unfold sp_fi; simp [h4]
      rw [this, Bool.not_false, Bool.true_and]
      unfold F_X6_done_53
      by_cases c3 : τ (4 * (d % 10)) = 3
      · have em : sp_mk τ d = 2 := by unfold sp_mk; rw [if_neg h4, if_pos c3]
        rw [if_pos c3, em, show (2 : Int32) = nI 2 from rfl, sp_outM hN hn T k (by decide), n_b]
        by_cases g : (sp_any (sp_ch N (d % 10) 2 n) n && sp_rm τ N n (d % 10) (sp_ch N (d % 10) 2 n)) = true
        · rw [if_pos g, if_pos g]; rfl
        · rw [if_neg g, if_neg g]; rfl
      · have em : sp_mk τ d = 1 := by unfold sp_mk; rw [if_neg h4, if_neg c3]
        have o1 := sp_outM (m := 1) hN hn T k (by decide)
        rw [if_neg c3, em, show F_X6_comeOut (nI n) τ (nI N) (nI (d % 10)) 1 = _ from o1, n_b]
        by_cases g : (sp_any (sp_ch N (d % 10) 1 n) n && sp_rm τ N n (d % 10) (sp_ch N (d % 10) 1 n)) = true
        · rw [if_pos g, if_pos g]; rfl
        · rw [if_neg g, if_neg g]; rfl
theorem sp_bs_c {τ : Nat → Int32} {c c' : Nat → Bool} : ∀ k, (∀ j, j < k → c j = c' j) → sp_bs τ c k = sp_bs τ c' k := by
  intro k
  induction k with
  | zero => intro _; rfl
  | succ k ih =>
    intro h
    unfold sp_bs
    rw [ih (fun j hj => h j (by omega)), h k (by omega)]
theorem sp_come {τ h : Nat → Int32} {N n d : Nat} (H : sp_R h N) (hn : n ≤ 5) (T : sp_T τ n) (hK : sp_K n d = true) (hd : ¬ d < 25) :
    ∃ B, F_X1_comingOut (nI n) τ h (nI d) = some (nI B) ∧ B < 32 ∧ ∀ j, B.testBit j = (!sp_fi τ d && sp_ch N (d % 10) (sp_mk τ d) n j) := by
  have h45 := sp_K3 hK
  have k := sp_K2 hK hd
  obtain ⟨kd, hkd, ek⟩ := (T _ k).1
  have e2 : τ (4 * (d % 10)) = 2 ↔ kd = 2 := by rw [ek]; exact nI_eq (a := kd) (b := 2) (by omega) (by decide)
  have e3 : τ (4 * (d % 10)) = 3 ↔ kd = 3 := by rw [ek]; exact nI_eq (a := kd) (b := 3) (by omega) (by decide)
  have e4 : τ (4 * (d % 10)) = 4 ↔ kd = 4 := by rw [ek]; exact nI_eq (a := kd) (b := 4) (by omega) (by decide)
  have t60 : ∀ m, m ≤ 5 → ∃ B, F_X1_comingOut_60 (nI n) h (nI (d % 10)) (nI m) = some (nI B) ∧ B < 32 ∧ ∀ j, B.testBit j = sp_ch N (d % 10) m n j := by
    intro m hm
    unfold F_X1_comingOut_60 F_X0_total
    rw [n_b]
    have := sp_comeL (m := m) H hn (by omega : d % 10 < 5) hm n sw_fu 0 (Nat.le_refl n) (by unfold sw_fu; omega) (by decide) (fun j => by
      rw [Nat.zero_testBit]
      by_cases q : n ≤ j
      · have : sp_ch N (d % 10) m n j = false := by unfold sp_ch; rw [decide_eq_false (p := j < n) (by omega), Bool.false_and, Bool.false_and]
        rw [this, Bool.and_false]
      · rw [decide_eq_false q, Bool.false_and])
    rw [Nat.sub_self, Nat.sub_zero] at this
    exact this
  unfold F_X1_comingOut
  rw [sp_doer d h45, n_b, if_neg hd]
  by_cases h4 : 40 ≤ d
  · have em : sp_mk τ d = 5 := by unfold sp_mk; rw [if_pos h4]
    rw [if_neg (show ¬ nI d < (40 : Int32) from nI_nlt (b := 40) h4 (by omega))]
    unfold F_X1_comingOut_16
    rw [if_neg (by decide), sp_isOf2 (by omega) hkd ek, n_b]
    by_cases f : sp_of kd 2 = true
    · have ff : sp_fi τ d = true := by
        unfold sp_fi
        rw [decide_eq_true h4, Bool.true_and, Bool.or_eq_true, decide_eq_true_eq, decide_eq_true_eq, e2, e4]
        unfold sp_of at f
        simp at f
        omega
      rw [if_pos f, if_neg (by decide), ff]
      exact ⟨0, rfl, by decide, fun j => by rw [Nat.zero_testBit]; rfl⟩
    · have ff : sp_fi τ d = false := by
        unfold sp_fi
        rw [decide_eq_true h4, Bool.true_and, Bool.or_eq_false_iff, decide_eq_false_iff_not, decide_eq_false_iff_not, e2, e4]
        unfold sp_of at f
        simp at f
        omega
      rw [if_neg f, if_pos rfl, ff, em]
      unfold F_X1_comingOut_35
      rw [if_neg (by decide)]
      obtain ⟨B, b1, b2, b3⟩ := t60 5 (by decide)
      exact ⟨B, b1, b2, fun j => by rw [b3 j]; rfl⟩
  · have ff : sp_fi τ d = false := by unfold sp_fi; rw [decide_eq_false h4, Bool.false_and]
    rw [if_pos (show nI d < (40 : Int32) from nI_lt (b := 40) (by omega) (by decide)), ff]
    unfold F_X1_comingOut_16
    rw [if_pos rfl]
    unfold F_X1_comingOut_35
    rw [if_pos rfl, sp_isOf3 (by omega) hkd ek, n_b]
    by_cases f : sp_of kd 3 = true
    · have em : sp_mk τ d = 2 := by
        unfold sp_mk
        rw [if_neg h4, if_pos]
        rw [e3]
        unfold sp_of at f
        simp at f
        omega
      rw [if_pos f, if_neg (by decide), em]
      obtain ⟨B, b1, b2, b3⟩ := t60 2 (by decide)
      exact ⟨B, b1, b2, fun j => by rw [b3 j]; rfl⟩
    · have em : sp_mk τ d = 1 := by
        unfold sp_mk
        rw [if_neg h4, if_neg]
        rw [e3]
        unfold sp_of at f
        simp at f
        omega
      rw [if_neg f, if_pos rfl, em]
      obtain ⟨B, b1, b2, b3⟩ := t60 1 (by decide)
      exact ⟨B, b1, b2, fun j => by rw [b3 j]; rfl⟩
theorem sp_ch5 {N a m n j : Nat} (h : sp_ch N a m n j = true) : j < n ∧ sp_d N j = a + 1 := by
  unfold sp_ch at h
  simp only [Bool.and_eq_true, decide_eq_true_eq] at h
  exact h.1
theorem sp_allow {τ h : Nat → Int32} {N n d : Nat} (H : sp_R h N) (hn : n ≤ 5) (T : sp_T τ n) (hK : sp_K n d = true) : F_X1_allows (nI n) τ h (nI d) = some (if (sp_nx τ n N d).isSome = true then 1 else 0) := by
  have h45 := sp_K3 hK
  have l25 : ((25 : Int32) ≤ nI d) = (25 ≤ d) := n_le (a := 25) (by decide) (by omega)
  unfold F_X1_allows sp_nx
  rw [sp_knows n (by omega) d h45, n_b, if_pos hK, if_neg (by decide), sp_doer d h45, n_b]
  by_cases hd : d < 25
  · obtain ⟨k1, k2⟩ := sp_K1 hK hd
    rw [if_neg (by rw [l25]; omega), sp_prey d h45, n_b, if_pos hd, if_pos hd, if_pos hd, sp_canSw H hn T k1 k2, n_b]
    by_cases c : sp_sw τ n N (d / 5) (d % 5) = true
    · rw [if_pos c, if_pos c]; rfl
    · rw [if_neg c, if_neg c]; rfl
  · have k := sp_K2 hK hd
    obtain ⟨B, b1, b2, b3⟩ := sp_come H hn T hK hd
    rw [if_pos (by rw [l25]; omega), b1, n_b, if_neg hd, if_neg hd]
    have eB : B = 0 ↔ (!sp_fi τ d && sp_any (sp_ch N (d % 10) (sp_mk τ d) n) n) = false := by
      rw [← sp_b0 B b2, Bool.and_eq_false_iff]
      constructor
      · intro q
        by_cases f : (!sp_fi τ d) = false
        · exact Or.inl f
        · right
          have f' : (!sp_fi τ d) = true := by simpa using f
          cases e : sp_any (sp_ch N (d % 10) (sp_mk τ d) n) n with
          | false => rfl
          | true =>
            obtain ⟨j, j1, j2⟩ := (sp_any_t n).mp e
            have := q j (by omega)
            rw [b3 j, f', j2] at this
            exact absurd this (by decide)
      · rintro (q | q) j hj
        · rw [b3 j, q, Bool.false_and]
        · rw [b3 j]
          cases e : sp_ch N (d % 10) (sp_mk τ d) n j with
          | false => rw [Bool.and_false]
          | true =>
            have := (sp_any_t n).mpr ⟨j, (sp_ch5 e).1, e⟩
            rw [q] at this
            exact absurd this (by decide)
    by_cases c : B = 0
    · rw [if_pos (by rw [c]; rfl)]
      have := eB.mp c
      rw [← Bool.and_assoc, this, Bool.false_and, if_neg (show ¬ (false = true) by decide)]
      rfl
    · have c' : (!sp_fi τ d && sp_any (sp_ch N (d % 10) (sp_mk τ d) n) n) = true := by
        cases e : (!sp_fi τ d && sp_any (sp_ch N (d % 10) (sp_mk τ d) n) n) with
        | true => rfl
        | false => exact absurd (eB.mpr e) c
      rw [if_neg (nI_ne0 (by omega) (by omega)), sp_holder H (by omega), n_b, ← Bool.and_assoc, c', Bool.true_and]
      have f' : (!sp_fi τ d) = true := by
        rw [Bool.and_eq_true] at c'; exact c'.1
      unfold F_X1_canTake sp_rm
      by_cases w : sp_d N (d % 10) = 0
      · rw [if_pos (by rw [sp_no]; exact w), n_b, if_neg (by decide), decide_eq_true w, Bool.true_or, if_pos rfl]
        rfl
      · have w5 := sp_lt N (d % 10)
        rw [if_neg (by rw [sp_no]; exact w), sp_filled H hn, n_b, decide_eq_false w, Bool.false_or]
        have tr : F_X0_trait τ (sp_h N (d % 10)) 2 = some (τ (4 * (sp_d N (d % 10) - 1) + 2)) := by
          rw [sp_in w]; exact sp_tr2 (by omega)
        have tk := sp_takeL (τ := τ) (w := sp_h N (d % 10)) (f0 := sp_fl τ N (sp_h N (d % 10)) n) hn b2 tr n 0 sw_fu (by omega) (by unfold sw_fu; omega)
        rw [show sp_fl τ N (sp_h N (d % 10)) n + sp_bs τ (fun j => B.testBit j) 0 = sp_fl τ N (sp_h N (d % 10)) n from Int32.add_zero _] at tk
        rw [show (0 : Int32) = nI 0 from rfl, tk, n_b, sp_bs_c (c' := sp_ch N (d % 10) (sp_mk τ d) n) n (fun j _ => by rw [b3 j, f', Bool.true_and])]
        by_cases q : sp_fl τ N (sp_h N (d % 10)) n + sp_bs τ (sp_ch N (d % 10) (sp_mk τ d) n) n ≤ τ (4 * (sp_d N (d % 10) - 1) + 2)
        · rw [if_pos q, if_neg (by decide), decide_eq_true q, if_pos rfl]; rfl
        · rw [if_neg q, if_pos (show (0 : Int32) = nI 0 from rfl), decide_eq_false q, if_neg (show ¬ (false = true) by decide)]; rfl
theorem sp_allowN {τ h : Nat → Int32} {n d : Nat} (hn : n ≤ 5) (hd : d < 45) (hK : ¬ sp_K n d = true) : F_X1_allows (nI n) τ h (nI d) = some 0 := by
  unfold F_X1_allows
  rw [sp_knows n (by omega) d hd, n_b, if_neg hK, if_pos rfl]
theorem sp_carry {τ h : Nat → Int32} {N n d M : Nat} (H : sp_R h N) (hN : N < 7776) (hn : n ≤ 5) (T : sp_T τ n) (hK : sp_K n d = true) (hM : sp_nx τ n N d = some M) : ∃ h', F_X1_carryOut (nI n) τ h (nI d) = some h' ∧ sp_R h' M := by
  have h45 := sp_K3 hK
  have l25 : ((25 : Int32) ≤ nI d) = (25 ≤ d) := n_le (a := 25) (by decide) (by omega)
  unfold F_X1_carryOut
  unfold sp_nx at hM
  rw [sp_doer d h45, n_b]
  by_cases hd : d < 25
  · obtain ⟨k1, k2⟩ := sp_K1 hK hd
    rw [if_pos hd] at hM
    rw [if_neg (by rw [l25]; omega), sp_prey d h45, n_b, if_pos hd, if_pos hd]
    by_cases c : sp_sw τ n N (d / 5) (d % 5) = true
    · rw [if_pos c] at hM
      cases hM
      obtain ⟨h', e1, e2⟩ := sp_put H hN (show d % 5 < 5 by omega) (show d / 5 < 5 by omega)
      rw [e1, n_b]
      exact ⟨h', rfl, e2⟩
    · rw [if_neg c] at hM; cases hM
  · have k := sp_K2 hK hd
    rw [if_neg hd] at hM
    obtain ⟨B, b1, b2, b3⟩ := sp_come H hn T hK hd
    rw [if_pos (by rw [l25]; omega), b1, n_b, if_neg hd, sp_holder H (by omega), n_b]
    by_cases c : (!sp_fi τ d && (sp_any (sp_ch N (d % 10) (sp_mk τ d) n) n && sp_rm τ N n (d % 10) (sp_ch N (d % 10) (sp_mk τ d) n))) = true
    · rw [if_pos c] at hM
      cases hM
      have f' : (!sp_fi τ d) = true := by rw [Bool.and_eq_true] at c; exact c.1
      obtain ⟨h', e1, e2⟩ := sp_carryL (N := N) (n := n) (t := sp_h N (d % 10)) b2 5 0 sw_fu h (by omega) (by unfold sw_fu; omega)
      refine ⟨h', e1, fun b hb => ?_⟩
      obtain ⟨-, g⟩ := sp_cN_ok (c := sp_ch N (d % 10) (sp_mk τ d) n) hN (sp_lt N (d % 10)) n hn
      unfold sp_h
      rw [e2 b hb, g b hb, b3 b, f', Bool.true_and]
      by_cases q : sp_ch N (d % 10) (sp_mk τ d) n b = true
      · rw [if_pos ⟨Nat.zero_le _, q⟩, if_pos ⟨(sp_ch5 q).1, q⟩]; rfl
      · rw [if_neg (fun z => q z.2), if_neg (fun z => q z.2), H b hb]; rfl
    · rw [if_neg c] at hM; cases hM
