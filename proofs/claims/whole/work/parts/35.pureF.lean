/-! pure: nestings that can be: nobody is in itself; walls; who hears whom -/
def sp_V (n N : Nat) : Prop := N < 7776 ∧ (∀ b, b < 5 → sp_d N b ≤ n) ∧ (∀ b, n ≤ b → b < 5 → sp_d N b = 0) ∧ ∃ r : Nat → Nat, (∀ b, b < 5 → r b < 5) ∧ ∀ b, b < 5 → sp_d N b ≠ 0 → r (sp_d N b - 1) < r b
theorem sp_rk {d r : Nat → Nat} (hd : ∀ b, b < 5 → d b ≤ 5) (h : ∀ b, b < 5 → d b ≠ 0 → r (d b - 1) < r b) : ∃ r : Nat → Nat, (∀ b, b < 5 → r b < 5) ∧ ∀ b, b < 5 → d b ≠ 0 → r (d b - 1) < r b := by
  obtain ⟨t, ht⟩ : ∃ t : Nat → Nat → Nat, t = fun x b => if r x < r b then 1 else 0 := ⟨_, rfl⟩
  have t0 : ∀ x, t x x = 0 := fun x => by rw [ht]; exact if_neg (Nat.lt_irrefl _)
  have t1 : ∀ x b, t x b ≤ 1 := fun x b => by
    rw [ht]
    show (if r x < r b then 1 else 0) ≤ 1
    by_cases c : r x < r b
    · rw [if_pos c]; exact Nat.le_refl _
    · rw [if_neg c]; exact Nat.zero_le _
  have tm : ∀ x p b, r p < r b → t x p ≤ t x b := fun x p b hpb => by
    rw [ht]
    show (if r x < r p then 1 else 0) ≤ (if r x < r b then 1 else 0)
    by_cases c : r x < r p
    · rw [if_pos c, if_pos (by omega)]; exact Nat.le_refl _
    · rw [if_neg c]; exact Nat.zero_le _
  have tp : ∀ p b, r p < r b → t p b = 1 := fun p b hpb => by rw [ht]; exact if_pos hpb
  refine ⟨fun b => t 0 b + t 1 b + t 2 b + t 3 b + t 4 b, fun b hb => ?_, fun b hb h0 => ?_⟩
  · have a0 := t1 0 b; have a1 := t1 1 b; have a2 := t1 2 b; have a3 := t1 3 b; have a4 := t1 4 b
    have z := t0 b
    have : b = 0 ∨ b = 1 ∨ b = 2 ∨ b = 3 ∨ b = 4 := by omega
    show t 0 b + t 1 b + t 2 b + t 3 b + t 4 b < 5
    rcases this with e | e | e | e | e <;> subst e <;> omega
  · obtain ⟨p, hp⟩ : ∃ p, p = d b - 1 := ⟨_, rfl⟩
    have hr := h b hb h0
    have hdb := hd b hb
    rw [← hp] at hr ⊢
    have a0 := tm 0 p b hr; have a1 := tm 1 p b hr; have a2 := tm 2 p b hr; have a3 := tm 3 p b hr; have a4 := tm 4 p b hr
    have z := t0 p
    have z1 := tp p b hr
    have : p = 0 ∨ p = 1 ∨ p = 2 ∨ p = 3 ∨ p = 4 := by omega
    show t 0 p + t 1 p + t 2 p + t 3 p + t 4 p < t 0 b + t 1 b + t 2 b + t 3 b + t 4 b
    clear hp
    rcases this with e | e | e | e | e <;> subst e <;> omega
theorem sp_acs {d d' r : Nat → Nat} {a b : Nat} (h : ∀ b, b < 5 → d b ≠ 0 → r (d b - 1) < r b) (ha : a < 5) (hb : b < 5) (hab : a ≠ b) (he : d a = d b) (hd' : ∀ x, x < 5 → d' x = if x = b then a + 1 else d x) : ∃ r' : Nat → Nat, ∀ b, b < 5 → d' b ≠ 0 → r' (d' b - 1) < r' b := by
  obtain ⟨S, hS⟩ : ∃ S : Nat → Prop, S = fun x => ∀ P : Nat → Prop, P b → (∀ y, y < 5 → d y ≠ 0 → P (d y - 1) → P y) → P x := ⟨_, rfl⟩
  have s1 : S b := by rw [hS]; exact fun P p _ => p
  have s2 : ∀ y, y < 5 → d y ≠ 0 → S (d y - 1) → S y := by
    intro y h1 h2 h3
    rw [hS] at h3 ⊢
    exact fun P p q => q y h1 h2 (h3 P p q)
  have s3 : ∀ x, S x → x = b ∨ (x < 5 ∧ d x ≠ 0 ∧ S (d x - 1)) := by
    intro x hx
    have hx2 := hx
    rw [hS] at hx2
    have := hx2 (fun x => S x ∧ (x = b ∨ (x < 5 ∧ d x ≠ 0 ∧ S (d x - 1)))) ⟨s1, Or.inl rfl⟩ (fun y h1 h2 h3 => ⟨s2 y h1 h2 h3.1, Or.inr ⟨h1, h2, h3.1⟩⟩)
    exact this.2
  have s4 : ∀ x, S x → r b ≤ r x := by
    intro x hx
    rw [hS] at hx
    exact hx (fun x => r b ≤ r x) (Nat.le_refl _) (fun y h1 h2 h3 => by
      have h4 := h y h1 h2
      have h3 : r b ≤ r (d y - 1) := h3
      show r b ≤ r y
      omega)
  have na : ¬ S a := by
    intro q
    rcases s3 a q with e | ⟨-, e1, e2⟩
    · exact hab e
    · have h1 := s4 _ e2
      rw [he] at h1 e1
      have := h b hb e1
      omega
  have hc : ∀ x, ∃ v : Nat, (S x → v = r a + 1) ∧ (¬ S x → v = 0) := fun x => by
    by_cases q : S x
    · exact ⟨r a + 1, fun _ => rfl, fun z => absurd q z⟩
    · exact ⟨0, fun z => absurd z q, fun _ => rfl⟩
  obtain ⟨f, hf⟩ := Classical.axiomOfChoice hc
  refine ⟨fun x => r x + f x, fun y hy h0 => ?_⟩
  show r (d' y - 1) + f (d' y - 1) < r y + f y
  rw [hd' y hy] at h0 ⊢
  by_cases e : y = b
  · rw [if_pos e] at h0 ⊢
    rw [Nat.add_sub_cancel, (hf a).2 na, e, (hf b).1 s1]
    omega
  · rw [if_neg e] at h0 ⊢
    have hr := h y hy h0
    by_cases q : S y
    · rcases s3 y q with q1 | ⟨-, -, q2⟩
      · exact absurd q1 e
      · rw [(hf y).1 q, (hf _).1 q2]; omega
    · have q2 : ¬ S (d y - 1) := fun z => q (s2 y hy h0 z)
      rw [(hf y).2 q, (hf _).2 q2]; omega
theorem sp_nx_V {τ : Nat → Int32} {n N d M : Nat} (hn : n ≤ 5) (hV : sp_V n N) (hK : sp_K n d = true) (h : sp_nx τ n N d = some M) : sp_V n M := by
  obtain ⟨hN, v1, v2, r, r1, r2⟩ := hV
  unfold sp_nx at h
  by_cases hd : d < 25
  · obtain ⟨k1, k2⟩ := sp_K1 hK hd
    rw [if_pos hd] at h
    by_cases c : sp_sw τ n N (d / 5) (d % 5) = true
    · rw [if_pos c] at h
      cases h
      have hab : d / 5 ≠ d % 5 ∧ sp_d N (d / 5) = sp_d N (d % 5) := by
        unfold sp_sw at c
        simp only [Bool.and_eq_true, decide_eq_true_eq] at c
        exact c.1.1.1.1
      have hdd : ∀ x, x < 5 → sp_d (sp_rp N (d % 5) (d / 5 + 1)) x = if x = d % 5 then d / 5 + 1 else sp_d N x := fun x hx => sp_rp_d hN (by omega) hx (by omega)
      refine ⟨sp_rp_lt hN (by omega) (by omega), fun b hb => ?_, fun b h1 h2 => ?_, ?_⟩
      · rw [hdd b hb]
        by_cases q : b = d % 5
        · rw [if_pos q]; omega
        · rw [if_neg q]; exact v1 b hb
      · rw [hdd b h2, if_neg (by omega)]; exact v2 b h1 h2
      · obtain ⟨r', hr'⟩ := sp_acs r2 (by omega) (by omega) hab.1 hab.2 hdd
        exact sp_rk (fun b hb => by have := sp_lt (sp_rp N (d % 5) (d / 5 + 1)) b; omega) hr'
    · rw [if_neg c] at h; cases h
  · have k := sp_K2 hK hd
    rw [if_neg hd] at h
    by_cases c : (!sp_fi τ d && (sp_any (sp_ch N (d % 10) (sp_mk τ d) n) n && sp_rm τ N n (d % 10) (sp_ch N (d % 10) (sp_mk τ d) n))) = true
    · rw [if_pos c] at h
      cases h
      obtain ⟨g1, g2⟩ := sp_cN_ok (c := sp_ch N (d % 10) (sp_mk τ d) n) hN (sp_lt N (d % 10)) n hn
      refine ⟨g1, fun b hb => ?_, fun b h1 h2 => ?_, r, r1, fun b hb h0 => ?_⟩
      · rw [g2 b hb]
        by_cases q : b < n ∧ sp_ch N (d % 10) (sp_mk τ d) n b = true
        · rw [if_pos q]; exact v1 _ (by omega)
        · rw [if_neg q]; exact v1 b hb
      · rw [g2 b h2, if_neg (by omega)]; exact v2 b h1 h2
      · rw [g2 b hb] at h0 ⊢
        by_cases q : b < n ∧ sp_ch N (d % 10) (sp_mk τ d) n b = true
        · rw [if_pos q] at h0 ⊢
          have e := (sp_ch5 q.2).2
          have e1 := r2 (d % 10) (by omega) h0
          have e2 := r2 b hb (by omega)
          rw [e, Nat.add_sub_cancel] at e2
          omega
        · rw [if_neg q] at h0 ⊢; exact r2 b hb h0
    · rw [if_neg c] at h; cases h
theorem sp_V0 (n : Nat) : sp_V n 0 := by
  have z : ∀ b, sp_d 0 b = 0 := fun b => by unfold sp_d; rw [Nat.zero_div]
  refine ⟨by decide, fun b _ => by rw [z]; exact Nat.zero_le _, fun b _ _ => z b, fun _ => 0, fun _ _ => Nat.zero_lt_succ 4, fun b _ h => absurd (z b) h⟩
theorem sp_V_m {n n' N : Nat} (hn : n ≤ n') (h : sp_V n N) : sp_V n' N :=
  ⟨h.1, fun b hb => Nat.le_trans (h.2.1 b hb) hn, fun b h1 h2 => h.2.2.1 b (by omega) h2, h.2.2.2⟩
/-- how many walls are around figure x's one and inwards -/
def sp_w (N : Nat) : Nat → Nat → Nat
  | 0, _ => 0
  | f + 1, x => if x = 0 then 0 else sp_w N f (sp_d N (x - 1)) + 1
theorem sp_wallsL {h : Nat → Int32} {N : Nat} {r : Nat → Nat} (H : sp_R h N) (hr : ∀ b, b < 5 → sp_d N b ≠ 0 → r (sp_d N b - 1) < r b) : ∀ k x w fu, (x ≠ 0 → r (x - 1) < k) → x < 6 → w + k ≤ 5 → k < fu → F_X1_walls_8 h fu (nI w) (nI x - 1) = some (nI (w + sp_w N k x)) := by
  intro k
  induction k with
  | zero =>
    intro x w fu h1 h2 h3 h4
    obtain ⟨f, rfl⟩ : ∃ f, fu = f + 1 := ⟨fu - 1, by omega⟩
    have : x = 0 := by
      rcases Nat.eq_zero_or_pos x with e | e
      · exact e
      · have := h1 (by omega); omega
    subst this
    rw [F_X1_walls_8.eq_2, if_pos (by decide)]; rfl
  | succ k ih =>
    intro x w fu h1 h2 h3 h4
    obtain ⟨f, rfl⟩ : ∃ f, fu = f + 1 := ⟨fu - 1, by omega⟩
    rw [F_X1_walls_8.eq_2]
    unfold sp_w
    by_cases e : x = 0
    · subst e; rw [if_pos (by decide), if_pos rfl]; rfl
    · obtain ⟨y, rfl⟩ : ∃ y, x = y + 1 := ⟨x - 1, by omega⟩
      have hy := h1 e
      rw [Nat.add_sub_cancel] at hy
      rw [if_neg (by rw [sp_hm h2]; exact e), if_neg (by rw [n_le5 (by omega)]; omega), n_s1, sp_holder H (by omega), n_b, n_1, if_neg e, Nat.add_sub_cancel]
      have := ih (sp_d N y) (w + 1) f (fun q => by have := hr y (by omega) q; omega) (sp_lt N y) (by omega) (by omega)
      unfold sp_h
      rw [this, show w + 1 + sp_w N k (sp_d N y) = w + (sp_w N k (sp_d N y) + 1) by omega]
theorem sp_walls {h : Nat → Int32} {n N b : Nat} (H : sp_R h N) (hV : sp_V n N) (hb : b < 5) : F_X1_walls h (nI b) = some (nI (sp_w N 5 (sp_d N b))) := by
  obtain ⟨-, -, -, r, r1, r2⟩ := hV
  unfold F_X1_walls
  rw [sp_holder H hb, n_b]
  have := sp_wallsL H r2 5 (sp_d N b) 0 sw_fu (fun q => by have := r2 b hb q; have := r1 b hb; omega) (sp_lt N b) (by omega) (by unfold sw_fu; omega)
  rw [Nat.zero_add] at this
  exact this
theorem sp_wallsML {N : Nat} {r : Nat → Nat} (hN : N < 7776) (hr : ∀ b, b < 5 → sp_d N b ≠ 0 → r (sp_d N b - 1) < r b) : ∀ k x w fu, (x ≠ 0 → r (x - 1) < k) → x < 6 → k < fu → F_X6_walls_8 (nI N) fu (nI w) (nI x - 1) = some (nI (w + sp_w N k x)) := by
  intro k
  induction k with
  | zero =>
    intro x w fu h1 h2 h4
    obtain ⟨f, rfl⟩ : ∃ f, fu = f + 1 := ⟨fu - 1, by omega⟩
    have : x = 0 := by
      rcases Nat.eq_zero_or_pos x with e | e
      · exact e
      · have := h1 (by omega); omega
    subst this
    rw [F_X6_walls_8.eq_2, if_pos (by decide)]; rfl
  | succ k ih =>
    intro x w fu h1 h2 h4
    obtain ⟨f, rfl⟩ : ∃ f, fu = f + 1 := ⟨fu - 1, by omega⟩
    rw [F_X6_walls_8.eq_2]
    unfold sp_w
    by_cases e : x = 0
    · subst e; rw [if_pos (by decide), if_pos rfl]; rfl
    · obtain ⟨y, rfl⟩ : ∃ y, x = y + 1 := ⟨x - 1, by omega⟩
      have hy := h1 e
      rw [Nat.add_sub_cancel] at hy
      rw [if_neg (by rw [sp_hm h2]; exact e), n_s1, sp_holderM hN (by omega), n_b, n_1, if_neg e, Nat.add_sub_cancel]
      have := ih (sp_d N y) (w + 1) f (fun q => by have := hr y (by omega) q; omega) (sp_lt N y) (by omega)
      unfold sp_h
      rw [this, show w + 1 + sp_w N k (sp_d N y) = w + (sp_w N k (sp_d N y) + 1) by omega]
theorem sp_wallsM {n N b : Nat} (hV : sp_V n N) (hb : b < 5) : F_X6_walls (nI N) (nI b) = some (nI (sp_w N 5 (sp_d N b))) := by
  obtain ⟨hN, -, -, r, r1, r2⟩ := hV
  unfold F_X6_walls
  rw [sp_holderM hN hb, n_b]
  have := sp_wallsML hN r2 5 (sp_d N b) 0 sw_fu (fun q => by have := r2 b hb q; have := r1 b hb; omega) (sp_lt N b) (by unfold sw_fu; omega)
  rw [Nat.zero_add] at this
  exact this
theorem sp_w_le (N : Nat) : ∀ k x, sp_w N k x ≤ k := by
  intro k
  induction k with
  | zero => intro x; exact Nat.le_refl _
  | succ k ih =>
    intro x
    unfold sp_w
    by_cases e : x = 0
    · rw [if_pos e]; exact Nat.zero_le _
    · rw [if_neg e]; have := ih (sp_d N (x - 1)); omega
def sp_hr (N a b : Nat) : Bool := decide (sp_d N a = sp_d N b) || (decide (sp_d N a ≠ 0) && decide (sp_d N (sp_d N a - 1) = sp_d N b)) || (decide (sp_d N b ≠ 0) && decide (sp_d N (sp_d N b - 1) = sp_d N a))
theorem sp_hears {h : Nat → Int32} {N a b : Nat} (H : sp_R h N) (ha : a < 5) (hb : b < 5) : F_X1_hears h (nI a) (nI b) = some (if sp_hr N a b = true then 1 else 0) := by
  have la := sp_lt N a
  have lb := sp_lt N b
  have t : F_X1_hears_34 h (sp_h N a) (sp_h N b) = some (if (decide (sp_d N b ≠ 0) && decide (sp_d N (sp_d N b - 1) = sp_d N a)) = true then 1 else 0) := by
    unfold F_X1_hears_34
    by_cases c : sp_d N b = 0
    · rw [if_pos (by rw [sp_no]; exact c), if_neg (by simp [c])]
    · rw [if_neg (by rw [sp_no]; exact c)]
      rw [sp_in c, sp_holder H (by omega), n_b]
      by_cases c2 : sp_d N (sp_d N b - 1) = sp_d N a
      · rw [if_pos (by rw [sp_eq]; exact c2), if_pos (by simp [c, c2])]
      · rw [if_neg (by rw [sp_eq]; exact c2), if_neg (by simp [c2])]
  unfold F_X1_hears
  rw [sp_holder H ha, n_b, sp_holder H hb, n_b]
  by_cases c : sp_d N a = sp_d N b
  · rw [if_pos (by rw [sp_eq]; exact c), if_pos (by simp [sp_hr, c])]
  · rw [if_neg (by rw [sp_eq]; exact c)]
    by_cases c1 : sp_d N a = 0
    · rw [if_pos (by rw [sp_no]; exact c1), t]
      have : sp_hr N a b = (decide (sp_d N b ≠ 0) && decide (sp_d N (sp_d N b - 1) = sp_d N a)) := by
        unfold sp_hr; rw [decide_eq_false c, decide_eq_false (fun q => q c1)]; rfl
      rw [this]
    · rw [if_neg (by rw [sp_no]; exact c1)]
      have e := sp_in c1
      rw [show F_X1_holder h (sp_h N a) = some (sp_h N (sp_d N a - 1)) by rw [e]; exact sp_holder H (by omega), n_b]
      by_cases c2 : sp_d N (sp_d N a - 1) = sp_d N b
      · rw [if_pos (by rw [sp_eq]; exact c2), if_pos (by simp [sp_hr, c1, c2])]
      · rw [if_neg (by rw [sp_eq]; exact c2), t]
        have : sp_hr N a b = (decide (sp_d N b ≠ 0) && decide (sp_d N (sp_d N b - 1) = sp_d N a)) := by
          unfold sp_hr; rw [decide_eq_false c, decide_eq_false c2, Bool.and_false]; rfl
        rw [this]
theorem sp_hearsM {N a b : Nat} (hN : N < 7776) (ha : a < 5) (hb : b < 5) : F_X6_hearsOne (nI N) (nI a) (nI b) = some (if sp_hr N a b = true then 1 else 0) := by
  have la := sp_lt N a
  have lb := sp_lt N b
  have t1 : F_X6_hearsOne_62 (nI N) (sp_h N a) (sp_h N b) 1 = some 1 := by unfold F_X6_hearsOne_62; rw [if_neg (by decide)]
  have t0 : F_X6_hearsOne_62 (nI N) (sp_h N a) (sp_h N b) 0 = some (if (decide (sp_d N b ≠ 0) && decide (sp_d N (sp_d N b - 1) = sp_d N a)) = true then 1 else 0) := by
    unfold F_X6_hearsOne_62
    rw [if_pos rfl]
    by_cases c : sp_d N b = 0
    · rw [if_pos (by rw [sp_no]; exact c), if_neg (by simp [c])]
    · rw [if_neg (by rw [sp_no]; exact c)]
      rw [sp_in c, sp_holderM hN (by omega), n_b]
      by_cases c2 : sp_d N (sp_d N b - 1) = sp_d N a
      · rw [if_pos (by rw [sp_eq]; exact c2), if_pos (by simp [c, c2])]
      · rw [if_neg (by rw [sp_eq]; exact c2), if_neg (by simp [c2])]
  have u1 : F_X6_hearsOne_35 (nI N) (sp_h N a) (sp_h N b) 1 = some 1 := by unfold F_X6_hearsOne_35; rw [if_neg (by decide), t1]
  have u0 : F_X6_hearsOne_35 (nI N) (sp_h N a) (sp_h N b) 0 = some (if ((decide (sp_d N a ≠ 0) && decide (sp_d N (sp_d N a - 1) = sp_d N b)) || (decide (sp_d N b ≠ 0) && decide (sp_d N (sp_d N b - 1) = sp_d N a))) = true then 1 else 0) := by
    unfold F_X6_hearsOne_35
    rw [if_pos rfl]
    by_cases c1 : sp_d N a = 0
    · rw [if_pos (by rw [sp_no]; exact c1), t0, decide_eq_false (p := sp_d N a ≠ 0) (fun q => q c1), Bool.false_and, Bool.false_or]
    · rw [if_neg (by rw [sp_no]; exact c1), show F_X6_holder (nI N) (sp_h N a) = some (sp_h N (sp_d N a - 1)) by rw [sp_in c1]; exact sp_holderM hN (by omega), n_b]
      by_cases c2 : sp_d N (sp_d N a - 1) = sp_d N b
      · rw [if_pos (by rw [sp_eq]; exact c2), t1, if_pos (by simp [c1, c2])]
      · rw [if_neg (by rw [sp_eq]; exact c2), t0, decide_eq_false c2, Bool.and_false, Bool.false_or]
  unfold F_X6_hearsOne
  rw [sp_holderM hN ha, n_b, sp_holderM hN hb, n_b]
  by_cases c : sp_d N a = sp_d N b
  · rw [if_pos (by rw [sp_eq]; exact c), u1, if_pos (by simp [sp_hr, c])]
  · rw [if_neg (by rw [sp_eq]; exact c)]
    by_cases c1 : sp_d N a = b + 1
    · rw [if_pos (by rw [sp_is (by omega)]; exact c1), u1, if_pos (by simp [sp_hr, c1])]
    · rw [if_neg (by rw [sp_is (by omega)]; exact c1)]
      by_cases c2 : sp_d N b = a + 1
      · rw [if_pos (by rw [sp_is (by omega)]; exact c2), u1, if_pos (by simp [sp_hr, c2])]
      · rw [if_neg (by rw [sp_is (by omega)]; exact c2), u0]
        have : sp_hr N a b = ((decide (sp_d N a ≠ 0) && decide (sp_d N (sp_d N a - 1) = sp_d N b)) || (decide (sp_d N b ≠ 0) && decide (sp_d N (sp_d N b - 1) = sp_d N a))) := by
          unfold sp_hr; rw [decide_eq_false c, Bool.false_or]
        rw [this]
/-- whom a hears, of the first k, as bits -/
def sp_hd (N a : Nat) : Nat → Nat
  | 0 => 0
  | k + 1 => if k ≠ a ∧ sp_hr N a k = true then sp_hd N a k ||| 2 ^ k else sp_hd N a k
theorem sp_hd_lt {N a : Nat} : ∀ k, k ≤ 5 → sp_hd N a k < 32 := by
  intro k
  induction k with
  | zero => intro _; exact Nat.zero_lt_succ 31
  | succ k ih =>
    intro hk
    unfold sp_hd
    by_cases c : k ≠ a ∧ sp_hr N a k = true
    · rw [if_pos c]; exact (sp_bor _ (ih (by omega)) k (by omega)).2
    · rw [if_neg c]; exact ih (by omega)
theorem sp_heardL {h : Nat → Int32} {N n a : Nat} (H : sp_R h N) (hn : n ≤ 5) (ha : a < 5) : ∀ d k fu, k + d = n → d < fu → F_X1_heardBy_4 (nI n) h (nI a) fu (nI (sp_hd N a k)) (nI k) = some (nI (sp_hd N a n)) := by
  intro d
  induction d with
  | zero =>
    intro k fu hk hf
    obtain ⟨f, rfl⟩ : ∃ f, fu = f + 1 := ⟨fu - 1, by omega⟩
    rw [F_X1_heardBy_4.eq_2]
    unfold F_X0_total
    rw [n_b, if_pos (by rw [n_le (by omega) (by omega)]; omega), show k = n by omega]
  | succ d ih =>
    intro k fu hk hf
    obtain ⟨f, rfl⟩ : ∃ f, fu = f + 1 := ⟨fu - 1, by omega⟩
    have hl := sp_hd_lt (N := N) (a := a) k (by omega)
    rw [F_X1_heardBy_4.eq_2]
    unfold F_X0_total
    rw [n_b, if_neg (by rw [n_le (by omega) (by omega)]; omega), n_1, (sp_bor _ hl k (by omega)).1, ← ih (k + 1) f (by omega) (by omega)]
    have e : sp_hd N a (k + 1) = if k ≠ a ∧ sp_hr N a k = true then sp_hd N a k ||| 2 ^ k else sp_hd N a k := rfl
    rw [e]
    by_cases q : k = a
    · rw [if_pos (by rw [q]), if_neg (fun z => z.1 q)]
    · rw [if_neg (by rw [n_eq (by omega) (by omega)]; exact q), sp_hears H ha (by omega), n_b]
      by_cases q2 : sp_hr N a k = true
      · rw [if_pos q2, if_neg (by decide), if_pos ⟨q, q2⟩]
      · rw [if_neg q2, if_pos rfl, if_neg (fun z => q2 z.2)]
theorem sp_heard {h : Nat → Int32} {N n a : Nat} (H : sp_R h N) (hn : n ≤ 5) (ha : a < 5) : F_X1_heardBy (nI n) h (nI a) = some (nI (sp_hd N a n)) :=
  sp_heardL H hn ha n 0 sw_fu (by omega) (by unfold sw_fu; omega)
theorem sp_heardML {N n a : Nat} (hN : N < 7776) (hn : n ≤ 5) (ha : a < 5) : ∀ d k fu, k + d = n → d < fu → F_X6_heardBy_5 (nI n) (nI N) (nI a) fu (nI (sp_hd N a k)) (nI k) = some (nI (sp_hd N a n)) := by
  intro d
  induction d with
  | zero =>
    intro k fu hk hf
    obtain ⟨f, rfl⟩ : ∃ f, fu = f + 1 := ⟨fu - 1, by omega⟩
    rw [F_X6_heardBy_5.eq_2, if_pos (by rw [n_le (by omega) (by omega)]; omega), show k = n by omega]
  | succ d ih =>
    intro k fu hk hf
    obtain ⟨f, rfl⟩ : ∃ f, fu = f + 1 := ⟨fu - 1, by omega⟩
    have hl := sp_hd_lt (N := N) (a := a) k (by omega)
    rw [F_X6_heardBy_5.eq_2, if_neg (by rw [n_le (by omega) (by omega)]; omega)]
    unfold F_X6_heardBy_39
    rw [n_1, (sp_bor _ hl k (by omega)).1, Int32.or_zero, ← ih (k + 1) f (by omega) (by omega)]
    have e : sp_hd N a (k + 1) = if k ≠ a ∧ sp_hr N a k = true then sp_hd N a k ||| 2 ^ k else sp_hd N a k := rfl
    rw [e]
    by_cases q : k = a
    · rw [if_pos (by rw [q]), if_neg (fun z => z.1 q)]
    · rw [if_neg (by rw [n_eq (by omega) (by omega)]; exact q), sp_hearsM hN ha (by omega), n_b]
      by_cases q2 : sp_hr N a k = true
      · rw [if_pos q2, if_neg (by decide), if_pos ⟨q, q2⟩]
      · rw [if_neg q2, if_pos rfl, if_neg (fun z => q2 z.2)]
theorem sp_heardM {N n a : Nat} (hN : N < 7776) (hn : n ≤ 5) (ha : a < 5) : F_X6_heardBy (nI n) (nI N) (nI a) = some (nI (sp_hd N a n)) :=
  sp_heardML hN hn ha n 0 sw_fu (by omega) (by unfold sw_fu; omega)
/-- nobody is in itself, by looking -/
def sp_cx (N : Nat) : Nat → Nat → Bool
  | 0, x => Nat.beq x 0
  | f + 1, x => Nat.beq x 0 || sp_cx N f (sp_d N (x - 1))
def sp_ac (N : Nat) : Bool := sp_cx N 5 (sp_d N 0) && sp_cx N 5 (sp_d N 1) && sp_cx N 5 (sp_d N 2) && sp_cx N 5 (sp_d N 3) && sp_cx N 5 (sp_d N 4)
theorem sp_cx_V {N : Nat} {r : Nat → Nat} (hr : ∀ b, b < 5 → sp_d N b ≠ 0 → r (sp_d N b - 1) < r b) : ∀ k x, (x ≠ 0 → r (x - 1) < k) → x < 6 → sp_cx N k x = true := by
  intro k
  induction k with
  | zero =>
    intro x h1 h2
    have : x = 0 := by
      rcases Nat.eq_zero_or_pos x with e | e
      · exact e
      · have := h1 (by omega); omega
    subst this; rfl
  | succ k ih =>
    intro x h1 h2
    unfold sp_cx
    by_cases e : x = 0
    · subst e; rfl
    · rw [ih (sp_d N (x - 1)) (fun q => by have := hr (x - 1) (by omega) q; have := h1 e; omega) (sp_lt N _), Bool.or_true]
theorem sp_ac_V {n N : Nat} (hV : sp_V n N) : sp_ac N = true := by
  obtain ⟨-, -, -, r, r1, r2⟩ := hV
  have : ∀ b, b < 5 → sp_cx N 5 (sp_d N b) = true := fun b hb => sp_cx_V r2 5 _ (fun q => by have := r2 b hb q; have := r1 b hb; omega) (sp_lt N b)
  unfold sp_ac
  rw [this 0 (by decide), this 1 (by decide), this 2 (by decide), this 3 (by decide), this 4 (by decide)]; rfl
