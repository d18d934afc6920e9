/-! pure: what was told: fits, sure -/
def sp_TK (n m : Nat) (te hs : Nat → Nat) (tl : Int32) (tt th : Nat → Int32) : Prop := tl = nI m ∧ m ≤ 4 ∧ ∀ j, j < m → te j < n ∧ hs j < 32 ∧ tt j = nI (te j) ∧ th j = nI (hs j)
def sp_TM (m : Nat) (te hs : Nat → Nat) (tm : Int32) (tr : Nat → Int32) : Prop := tm = nI m ∧ ∀ j, j < m → tr (2 * j) = nI (te j) ∧ tr (2 * j + 1) = nI (hs j)
/-- whether the first k of what was told is so in N -/
def sp_so (n : Nat) (te hs : Nat → Nat) (N : Nat) : Nat → Bool
  | 0 => true
  | k + 1 => sp_so n te hs N k && decide (sp_hd N (te k) n = hs k)
theorem sp_so_f {n N : Nat} {te hs : Nat → Nat} : ∀ d k, sp_so n te hs N k = false → sp_so n te hs N (k + d) = false := by
  intro d
  induction d with
  | zero => intro k h; exact h
  | succ d ih =>
    intro k h
    have : sp_so n te hs N (k + (d + 1)) = (sp_so n te hs N (k + d) && decide (sp_hd N (te (k + d)) n = hs (k + d))) := rfl
    rw [this, ih k h, Bool.false_and]
theorem sp_soInL {h tt th : Nat → Int32} {tl : Int32} {N n m : Nat} {te hs : Nat → Nat} (H : sp_R h N) (hn : n ≤ 5) (hT : sp_TK n m te hs tl tt th) : ∀ d k fu, k + d = m → d < fu → sp_so n te hs N k = true → F_X4_isSoIn_2 (nI n) h tl tt th fu (nI k) = some (if sp_so n te hs N m = true then 1 else 0) := by
  obtain ⟨h1, h2, h3⟩ := hT
  intro d
  induction d with
  | zero =>
    intro k fu hk hf h0
    obtain ⟨f, rfl⟩ : ∃ f, fu = f + 1 := ⟨fu - 1, by omega⟩
    rw [F_X4_isSoIn_2.eq_2, h1, if_pos (by rw [n_le (by omega) (by omega)]; omega), show m = k by omega, if_pos h0]
  | succ d ih =>
    intro k fu hk hf h0
    obtain ⟨f, rfl⟩ : ∃ f, fu = f + 1 := ⟨fu - 1, by omega⟩
    obtain ⟨a1, a2, a3, a4⟩ := h3 k (by omega)
    have e : sp_so n te hs N (k + 1) = (sp_so n te hs N k && decide (sp_hd N (te k) n = hs k)) := rfl
    have hl := sp_hd_lt (N := N) (a := te k) n hn
    rw [F_X4_isSoIn_2.eq_2, h1, if_neg (by rw [n_le (by omega) (by omega)]; omega), if_neg (by rw [n_le4 (by omega)]; omega), if_neg (by rw [n_le4 (by omega)]; omega), n_ix (by omega) (by decide), n_cl (by omega), a3, sp_heard H hn (by omega), n_b, n_ix (by omega) (by decide), a4, n_1]
    rw [h1] at ih
    by_cases c : sp_hd N (te k) n = hs k
    · rw [if_pos (by rw [c])]
      exact ih (k + 1) f (by omega) (by omega) (by rw [e, h0, decide_eq_true c]; rfl)
    · rw [if_neg (by rw [n_eq (by omega) (by omega)]; exact c)]
      have e0 : sp_so n te hs N (k + 1) = false := by rw [e, decide_eq_false c, Bool.and_false]
      have e1 := sp_so_f d (k + 1) e0
      rw [show k + 1 + d = m by omega] at e1
      rw [e1]; rfl
theorem sp_soIn {h tt th : Nat → Int32} {tl : Int32} {N n m : Nat} {te hs : Nat → Nat} (H : sp_R h N) (hn : n ≤ 5) (hT : sp_TK n m te hs tl tt th) : F_X4_isSoIn (nI n) h tl tt th = some (if sp_so n te hs N m = true then 1 else 0) :=
  sp_soInL H hn hT m 0 sw_fu (by omega) (by have := hT.2.1; unfold sw_fu; omega) rfl
theorem sp_toldL {tr : Nat → Int32} {tm : Int32} {N n m : Nat} {te hs : Nat → Nat} (hN : N < 7776) (hn : n ≤ 5) (hm : m ≤ 4) (hte : ∀ j, j < m → te j < n ∧ hs j < 32) (hT : sp_TM m te hs tm tr) : ∀ d k fu, k + d = m → d < fu → F_X6_isToldSo_4 (nI n) tm tr (nI N) fu (if sp_so n te hs N k = true then 1 else 0) (nI k) = some (if sp_so n te hs N m = true then 1 else 0) := by
  obtain ⟨h1, h3⟩ := hT
  intro d
  induction d with
  | zero =>
    intro k fu hk hf
    obtain ⟨f, rfl⟩ : ∃ f, fu = f + 1 := ⟨fu - 1, by omega⟩
    rw [F_X6_isToldSo_4.eq_2, h1, if_pos (by rw [n_le (by omega) (by omega)]; omega), show m = k by omega]
    unfold sw_zb
    by_cases c : sp_so n te hs N k = true
    · rw [if_pos c, if_pos (by decide)]
    · rw [if_neg c, if_pos (by decide)]
  | succ d ih =>
    intro k fu hk hf
    obtain ⟨f, rfl⟩ : ∃ f, fu = f + 1 := ⟨fu - 1, by omega⟩
    obtain ⟨a3, a4⟩ := h3 k (by omega)
    obtain ⟨a1, a2⟩ := hte k (by omega)
    have e : sp_so n te hs N (k + 1) = (sp_so n te hs N k && decide (sp_hd N (te k) n = hs k)) := rfl
    have hl := sp_hd_lt (N := N) (a := te k) n hn
    have e2 : (2 : Int32) * nI k = nI (2 * k) := pk_mul 2 k
    have ih := ih (k + 1) f (by omega) (by omega)
    rw [e] at ih
    rw [F_X6_isToldSo_4.eq_2, h1, if_neg (by rw [n_le (by omega) (by omega)]; omega), n_1, e2, n_1]
    rw [h1] at ih
    by_cases c0 : sp_so n te hs N k = true
    · rw [if_pos c0, if_neg (by decide), n_ix (by omega) (by decide), n_cl (by omega), a3, sp_heardM hN hn (by omega), n_b, n_ix (by omega) (by decide), n_cl (by omega), a4]
      rw [c0, Bool.true_and] at ih
      by_cases c : sp_hd N (te k) n = hs k
      · rw [if_pos (by rw [c])]
        rw [decide_eq_true c, if_pos rfl] at ih
        exact ih
      · rw [if_neg (by rw [n_eq (by omega) (by omega)]; exact c)]
        rw [decide_eq_false c, if_neg (by decide)] at ih
        exact ih
    · have c' : sp_so n te hs N k = false := by simpa using c0
      rw [if_neg c0, if_pos rfl]
      rw [c', Bool.false_and, if_neg (by decide)] at ih
      exact ih
theorem sp_told {tr : Nat → Int32} {tm : Int32} {N n m : Nat} {te hs : Nat → Nat} (hN : N < 7776) (hn : n ≤ 5) (hm : m ≤ 4) (hte : ∀ j, j < m → te j < n ∧ hs j < 32) (hT : sp_TM m te hs tm tr) : F_X6_isToldSo (nI n) tm tr (nI N) = some (if sp_so n te hs N m = true then 1 else 0) :=
  sp_toldL hN hn hm hte hT m 0 sw_fu (by omega) (by unfold sw_fu; omega)
/-- how many of the list are with P -/
def sp_fc (P : Nat → Bool) : List sp_BE → Nat → Nat
  | [], a => a
  | e :: r, a => sp_fc P r (if P e.1 = true then a + 1 else a)
theorem sp_fc_a {P : Nat → Bool} : ∀ (r : List sp_BE) (a : Nat), sp_fc P r a = sp_fc P r 0 + a := by
  intro r
  induction r with
  | nil => intro a; exact (Nat.zero_add a).symm
  | cons e r ih =>
    intro a
    unfold sp_fc
    by_cases c : P e.1 = true
    · rw [if_pos c, if_pos c, ih (a + 1), ih (0 + 1)]; omega
    · rw [if_neg c, if_neg c]; exact ih a
theorem sp_fitL {n m : Nat} {te hs : Nat → Nat} {Q : List sp_BE} {t tl : Int32} {re st fi ir tt th : Nat → Int32} (hn : n ≤ 5) (hI : sp_QI n Q) (hR : sp_RL Q t re st fi ir) (hT : sp_TK n m te hs tl tt th) : ∀ k i fu a (Eh : Nat → Int32), i + k = 1297 → k < fu → 
    ∃ Eh', F_X2_fitting_4 (nI n) t re tl tt th fu Eh (nI a) (nI i) = some (nI (sp_fc (fun N => sp_so n te hs N m) (Q.drop i) a), Eh') := by
  have hl := sp_QI_len hI
  intro k
  induction k with
  | zero =>
    intro i fu a Eh hk hf
    obtain ⟨f, rfl⟩ : ∃ f, fu = f + 1 := ⟨fu - 1, by omega⟩
    rw [F_X2_fitting_4.eq_2, hR.1, if_pos (by rw [n_le (by omega) (by omega)]; omega), List.drop_eq_nil_of_le (by omega)]
    exact ⟨_, rfl⟩
  | succ k ih =>
    intro i fu a Eh hk hf
    obtain ⟨f, rfl⟩ : ∃ f, fu = f + 1 := ⟨fu - 1, by omega⟩
    rw [F_X2_fitting_4.eq_2]
    cases he : Q[i]? with
    | none =>
      have := sp_len0 he
      rw [hR.1, if_pos (by rw [n_le (by omega) (by omega)]; omega), sp_drop0 he]
      exact ⟨_, rfl⟩
    | some e =>
      have hi := (List.getElem?_eq_some_iff.mp he).1
      have hV := (hI.1 i e he).1
      obtain ⟨E1, e1, R1⟩ := sp_become (h := Eh) hV.1
      rw [if_neg (by rw [hR.1, n_le (by omega) (by omega)]; omega), if_neg (by rw [n_le1296 (by omega)]; omega), n_ix (by omega) (by decide), n_cl (by omega), (hR.2.1 i e he).1, e1, n_b, sp_soIn R1 hn hT, n_b, n_1, n_1, sp_drop he]
      unfold sp_fc
      by_cases c : sp_so n te hs e.1 m = true
      · rw [if_pos c, if_neg (by decide), if_pos c]
        exact ih (i + 1) f (a + 1) E1 (by omega) (by omega)
      · rw [if_neg c, if_pos rfl, if_neg c]
        exact ih (i + 1) f a E1 (by omega) (by omega)
theorem sp_fitML {n m : Nat} {te hs : Nat → Nat} {Q : List sp_BE} {ld tm : Int32} {far fi ln tr : Nat → Int32} (hn : n ≤ 5) (hm : m ≤ 4) (hte : ∀ j, j < m → te j < n ∧ hs j < 32) (hI : sp_QI n Q) (hR : sp_RM Q ld far fi ln) (hT : sp_TM m te hs tm tr) : ∀ k i fu a, i + k = 1297 → k < fu → 
    F_X6_fitMany_4 (nI n) ld tm ln tr fu (nI a) (nI i) = some (nI (sp_fc (fun N => sp_so n te hs N m) (Q.drop i) a)) := by
  have hl := sp_QI_len hI
  intro k
  induction k with
  | zero =>
    intro i fu a hk hf
    obtain ⟨f, rfl⟩ : ∃ f, fu = f + 1 := ⟨fu - 1, by omega⟩
    rw [F_X6_fitMany_4.eq_2, if_pos (by rw [hR.1, n_le (by omega) (by omega)]; omega), List.drop_eq_nil_of_le (by omega)]
    rfl
  | succ k ih =>
    intro i fu a hk hf
    obtain ⟨f, rfl⟩ : ∃ f, fu = f + 1 := ⟨fu - 1, by omega⟩
    rw [F_X6_fitMany_4.eq_2]
    cases he : Q[i]? with
    | none =>
      have := sp_len0 he
      rw [if_pos (by rw [hR.1, n_le (by omega) (by omega)]; omega), sp_drop0 he]
      rfl
    | some e =>
      have hi := (List.getElem?_eq_some_iff.mp he).1
      have hV := (hI.1 i e he).1
      rw [if_neg (by rw [hR.1, n_le (by omega) (by omega)]; omega), n_ix (by omega) (by decide), n_cl (by omega), (hR.2.1 i e he).1, sp_told hV.1 hn hm hte hT, n_b, sp_drop he]
      unfold F_X6_fitMany_31 sp_fc
      rw [n_1, n_1, Int32.add_zero]
      by_cases c : sp_so n te hs e.1 m = true
      · rw [if_pos c, if_neg (by decide), if_pos c]
        exact ih (i + 1) f (a + 1) (by omega) (by omega)
      · rw [if_neg c, if_pos rfl, if_neg c]
        exact ih (i + 1) f a (by omega) (by omega)
/-- right in whom b is in all with P: as the class keeps it -/
def sp_su (P : Nat → Bool) (b : Nat) : List sp_BE → Int32 → Int32
  | [], a => a
  | e :: r, a => if P e.1 = true then (if a = (-2 : Int32) then sp_su P b r (sp_h e.1 b) else if a = sp_h e.1 b then sp_su P b r (sp_h e.1 b) else -2) else sp_su P b r a
theorem sp_sureL {n m b : Nat} {te hs : Nat → Nat} {Q : List sp_BE} {t tl : Int32} {re st fi ir tt th : Nat → Int32} (hn : n ≤ 5) (hb : b < 5) (hI : sp_QI n Q) (hR : sp_RL Q t re st fi ir) (hT : sp_TK n m te hs tl tt th) : ∀ k i fu (a : Int32) (Eh : Nat → Int32), i + k = 1297 → k < fu → 
    ∃ Eh', F_X2_sureHolder_6 (nI n) t re tl tt th (nI b) fu Eh a (nI i) = some (sp_su (fun N => sp_so n te hs N m) b (Q.drop i) a, Eh') := by
  have hl := sp_QI_len hI
  intro k
  induction k with
  | zero =>
    intro i fu a Eh hk hf
    obtain ⟨f, rfl⟩ : ∃ f, fu = f + 1 := ⟨fu - 1, by omega⟩
    rw [F_X2_sureHolder_6.eq_2, hR.1, if_pos (by rw [n_le (by omega) (by omega)]; omega), List.drop_eq_nil_of_le (by omega)]
    exact ⟨_, rfl⟩
  | succ k ih =>
    intro i fu a Eh hk hf
    obtain ⟨f, rfl⟩ : ∃ f, fu = f + 1 := ⟨fu - 1, by omega⟩
    rw [F_X2_sureHolder_6.eq_2]
    cases he : Q[i]? with
    | none =>
      have := sp_len0 he
      rw [hR.1, if_pos (by rw [n_le (by omega) (by omega)]; omega), sp_drop0 he]
      exact ⟨_, rfl⟩
    | some e =>
      have hi := (List.getElem?_eq_some_iff.mp he).1
      have hV := (hI.1 i e he).1
      obtain ⟨E1, e1, R1⟩ := sp_become (h := Eh) hV.1
      rw [if_neg (by rw [hR.1, n_le (by omega) (by omega)]; omega), if_neg (by rw [n_le1296 (by omega)]; omega), n_ix (by omega) (by decide), n_cl (by omega), (hR.2.1 i e he).1, e1, n_b, sp_soIn R1 hn hT, n_b, sp_drop he]
      unfold F_X2_sureHolder_71 sp_su
      rw [sp_holder R1 hb, n_b, n_b, n_1]
      by_cases c : sp_so n te hs e.1 m = true
      · rw [if_pos c, if_neg (by decide), if_pos c]
        by_cases c2 : a = (-2 : Int32)
        · rw [if_pos c2, if_pos c2]
          exact ih (i + 1) f _ E1 (by omega) (by omega)
        · rw [if_neg c2, if_neg c2]
          by_cases c3 : a = sp_h e.1 b
          · rw [if_pos c3, if_pos c3]
            exact ih (i + 1) f _ E1 (by omega) (by omega)
          · rw [if_neg c3, if_neg c3]
            exact ⟨_, rfl⟩
      · rw [if_neg c, if_pos rfl, if_neg c]
        exact ih (i + 1) f a E1 (by omega) (by omega)
def sp_sb (P : Nat → Bool) (b : Nat) : List sp_BE → Nat → Nat
  | [], B => B
  | e :: r, B => sp_sb P b r (if P e.1 = true then B ||| 2 ^ sp_d e.1 b else B)
def sp_sg (B : Nat) : Int32 := if B = 1 then nI 0 - 1 else if B = 2 then nI 1 - 1 else if B = 4 then nI 2 - 1 else if B = 8 then nI 3 - 1 else if B = 16 then nI 4 - 1 else if B = 32 then nI 5 - 1 else -2
theorem sp_bor6 : ∀ B, B < 64 → ∀ k, k < 6 → nI B ||| ((1 : Int32) <<< (nI k &&& 31)) = nI (B ||| 2 ^ k) ∧ B ||| 2 ^ k < 64 := by decide +kernel
theorem sp_beq6 : ∀ B, B < 64 → ∀ k, k < 6 → (nI B = (1 : Int32) <<< (nI k &&& 31) ↔ B = 2 ^ k) := by decide +kernel
theorem sp_sg2 : ∀ B, B < 64 → ∀ x, x < 6 → ∀ y, y < 6 → (x ≠ y ∧ B.testBit x = true ∧ B.testBit y = true) → sp_sg B = (-2 : Int32) := by decide +kernel
theorem sp_sg1 : ∀ x, x < 6 → sp_sg (2 ^ x) = nI x - 1 ∧ nI x - 1 ≠ (-2 : Int32) ∧ 2 ^ x < 64 := by decide +kernel
theorem sp_sor : ∀ x, x < 6 → ∀ y, y < 6 → (x = y → 2 ^ x ||| 2 ^ y = 2 ^ y) ∧ (2 ^ x ||| 2 ^ y).testBit x = true ∧ (2 ^ x ||| 2 ^ y).testBit y = true := by decide +kernel
theorem sp_sb2 {P : Nat → Bool} {b : Nat} : ∀ (r : List sp_BE) (B x y : Nat), B < 64 → x < 6 → y < 6 → x ≠ y → B.testBit x = true → B.testBit y = true → sp_sg (sp_sb P b r B) = (-2 : Int32) := by
  intro r
  induction r with
  | nil => intro B x y h1 h2 h3 h4 h5 h6; exact sp_sg2 B h1 x h2 y h3 ⟨h4, h5, h6⟩
  | cons e r ih =>
    intro B x y h1 h2 h3 h4 h5 h6
    unfold sp_sb
    by_cases c : P e.1 = true
    · rw [if_pos c]
      refine ih _ x y (sp_bor6 B h1 _ (sp_lt e.1 b)).2 h2 h3 h4 ?_ ?_
      · rw [Nat.testBit_or, h5, Bool.true_or]
      · rw [Nat.testBit_or, h6, Bool.true_or]
    · rw [if_neg c]
      exact ih B x y h1 h2 h3 h4 h5 h6
theorem sp_sub {P : Nat → Bool} {b : Nat} : ∀ (r : List sp_BE) (a : Int32) (B : Nat), ((a = (-2 : Int32) ∧ B = 0) ∨ ∃ x, x < 6 ∧ a = nI x - 1 ∧ B = 2 ^ x) → sp_su P b r a = sp_sg (sp_sb P b r B) := by
  intro r
  induction r with
  | nil =>
    intro a B h
    unfold sp_su sp_sb
    rcases h with ⟨h1, h2⟩ | ⟨x, h1, h2, h3⟩
    · rw [h1, h2]; rfl
    · rw [h2, h3]; exact (sp_sg1 x h1).1.symm
  | cons e r ih =>
    intro a B h
    unfold sp_su sp_sb
    have hl := sp_lt e.1 b
    by_cases c : P e.1 = true
    · rw [if_pos c, if_pos c]
      rcases h with ⟨h1, h2⟩ | ⟨x, h1, h2, h3⟩
      · rw [if_pos h1, h2, Nat.zero_or]
        exact ih _ _ (Or.inr ⟨sp_d e.1 b, hl, rfl, rfl⟩)
      · rw [if_neg (by rw [h2]; exact (sp_sg1 x h1).2.1)]
        by_cases q : x = sp_d e.1 b
        · rw [if_pos (by rw [h2, q]; rfl), h3, (sp_sor x h1 _ hl).1 q]
          exact ih _ _ (Or.inr ⟨sp_d e.1 b, hl, rfl, rfl⟩)
        · rw [if_neg (by rw [h2]; unfold sp_h; rw [sp_hh h1 hl]; exact q), h3]
          exact (sp_sb2 r _ x (sp_d e.1 b) (sp_bor6 _ (sp_sg1 x h1).2.2 _ hl).2 h1 hl q (sp_sor x h1 _ hl).2.1 (sp_sor x h1 _ hl).2.2).symm
    · rw [if_neg c, if_neg c]; exact ih a B h
theorem sp_sure69 {ld : Int32} {far fi ln : Nat → Int32} {B : Nat} (hB : B < 64) : F_X6_sure_69 ld far fi ln (nI B) sw_fu 0 = some (sp_sg B, ld, far, fi, ln) := by
  rw [show sw_fu = 9993 + 1 + 1 + 1 + 1 + 1 + 1 + 1 from rfl, show (0 : Int32) = nI 0 from rfl]
  unfold sp_sg
  have st : ∀ (k f : Nat), k < 6 → F_X6_sure_69 ld far fi ln (nI B) (f + 1) (nI k) = if B = 2 ^ k then some (nI k - 1, ld, far, fi, ln) else F_X6_sure_69 ld far fi ln (nI B) f (nI (k + 1)) := by
    intro k f hk
    rw [F_X6_sure_69.eq_2, if_neg (by rw [show (6 : Int32) = nI 6 from rfl, n_le (by decide) (by omega)]; omega), n_1]
    by_cases c : B = 2 ^ k
    · rw [if_pos ((sp_beq6 B hB k hk).mpr c), if_pos c]
    · rw [if_neg (fun q => c ((sp_beq6 B hB k hk).mp q)), if_neg c]
  have last : F_X6_sure_69 ld far fi ln (nI B) (9993 + 1) (nI (5 + 1)) = some (-2, ld, far, fi, ln) := by rw [F_X6_sure_69.eq_2, if_pos (by decide)]
  rw [st 0 _ (by decide), st 1 _ (by decide), st 2 _ (by decide), st 3 _ (by decide), st 4 _ (by decide), st 5 _ (by decide), last]
  show (if B = 1 then _ else if B = 2 then _ else if B = 4 then _ else if B = 8 then _ else if B = 16 then _ else if B = 32 then _ else _) = _
  by_cases c0 : B = 1
  · rw [if_pos c0, if_pos c0]
  rw [if_neg c0, if_neg c0]
  by_cases c1 : B = 2
  · rw [if_pos c1, if_pos c1]
  rw [if_neg c1, if_neg c1]
  by_cases c2 : B = 4
  · rw [if_pos c2, if_pos c2]
  rw [if_neg c2, if_neg c2]
  by_cases c3 : B = 8
  · rw [if_pos c3, if_pos c3]
  rw [if_neg c3, if_neg c3]
  by_cases c4 : B = 16
  · rw [if_pos c4, if_pos c4]
  rw [if_neg c4, if_neg c4]
  by_cases c5 : B = 32
  · rw [if_pos c5, if_pos c5]
  rw [if_neg c5, if_neg c5]
theorem sp_sureML {n m b : Nat} {te hs : Nat → Nat} {Q : List sp_BE} {ld tm : Int32} {far fi ln tr : Nat → Int32} (hn : n ≤ 5) (hm : m ≤ 4) (hb : b < 5) (hte : ∀ j, j < m → te j < n ∧ hs j < 32) (hI : sp_QI n Q) (hR : sp_RM Q ld far fi ln) (hT : sp_TM m te hs tm tr) : ∀ k i fu B, i + k = 1297 → k < fu → B < 64 →
    F_X6_sure_19 (nI n) ld tm far fi ln tr (nI b) fu (nI B) (nI i) = some (sp_sg (sp_sb (fun N => sp_so n te hs N m) b (Q.drop i) B), ld, far, fi, ln) := by
  have hl := sp_QI_len hI
  intro k
  induction k with
  | zero =>
    intro i fu B hk hf hB
    obtain ⟨f, rfl⟩ : ∃ f, fu = f + 1 := ⟨fu - 1, by omega⟩
    rw [F_X6_sure_19.eq_2, if_pos (by rw [hR.1, n_le (by omega) (by omega)]; omega), List.drop_eq_nil_of_le (by omega), sp_sure69 hB]
    rfl
  | succ k ih =>
    intro i fu B hk hf hB
    obtain ⟨f, rfl⟩ : ∃ f, fu = f + 1 := ⟨fu - 1, by omega⟩
    rw [F_X6_sure_19.eq_2]
    cases he : Q[i]? with
    | none =>
      have := sp_len0 he
      rw [if_pos (by rw [hR.1, n_le (by omega) (by omega)]; omega), sp_drop0 he, sp_sure69 hB]
      rfl
    | some e =>
      have hi := (List.getElem?_eq_some_iff.mp he).1
      have hV := (hI.1 i e he).1
      have hd := sp_lt e.1 b
      rw [if_neg (by rw [hR.1, n_le (by omega) (by omega)]; omega), n_ix (by omega) (by decide), n_cl (by omega), (hR.2.1 i e he).1, sp_told hV.1 hn hm hte hT, n_b, n_ix (by omega) (by decide), sp_holderM hV.1 hb, n_b, sp_drop he]
      unfold F_X6_sure_59 sp_sb
      have e1 : sp_h e.1 b + 1 = nI (sp_d e.1 b) := by unfold sp_h; rw [Int32.sub_add_cancel]
      rw [n_1, e1, (sp_bor6 B hB _ hd).1, Int32.or_zero]
      by_cases c : sp_so n te hs e.1 m = true
      · rw [if_pos c, if_neg (by decide), if_pos c]
        exact ih (i + 1) f _ (by omega) (by omega) (sp_bor6 B hB _ hd).2
      · rw [if_neg c, if_pos rfl, if_neg c]
        exact ih (i + 1) f B (by omega) (by omega) hB
