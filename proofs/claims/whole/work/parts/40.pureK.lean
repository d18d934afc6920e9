/-! pure: what is read off the list: soonest, together, deep, nesting -/
def sp_ot (N S : Nat) : Nat → Bool
  | 0 => true
  | k + 1 => sp_ot N S k && (!S.testBit k || decide (sp_d N k = 0))
theorem sp_btz : ∀ B, B < 32 → ∀ k, k < 5 → (((nI B >>> (nI k &&& 31)) &&& (1 : Int32)) = (0 : Int32) ↔ B.testBit k = false) := by decide +kernel
theorem sp_ot_f {N S : Nat} : ∀ d k, sp_ot N S k = false → sp_ot N S (k + d) = false := by
  intro d
  induction d with
  | zero => intro k h; exact h
  | succ d ih =>
    intro k h
    have : sp_ot N S (k + (d + 1)) = (sp_ot N S (k + d) && (!S.testBit (k + d) || decide (sp_d N (k + d) = 0))) := rfl
    rw [this, ih k h, Bool.false_and]
theorem sp_outsL {h : Nat → Int32} {N S : Nat} (H : sp_R h N) (hS : S < 32) : ∀ d k fu, k + d = 5 → d < fu → sp_ot N S k = true → F_X1_areOutside_2 h (nI S) fu (nI k) = some (if sp_ot N S 5 = true then 1 else 0) := by
  intro d
  induction d with
  | zero =>
    intro k fu hk hf h0
    obtain ⟨f, rfl⟩ : ∃ f, fu = f + 1 := ⟨fu - 1, by omega⟩
    rw [F_X1_areOutside_2.eq_2, if_pos (by rw [n_le5 (by omega)]; omega), show (5 : Nat) = k by omega, if_pos h0]
  | succ d ih =>
    intro k fu hk hf h0
    obtain ⟨f, rfl⟩ : ∃ f, fu = f + 1 := ⟨fu - 1, by omega⟩
    have e : sp_ot N S (k + 1) = (sp_ot N S k && (!S.testBit k || decide (sp_d N k = 0))) := rfl
    rw [F_X1_areOutside_2.eq_2, if_neg (by rw [n_le5 (by omega)]; omega), n_1]
    by_cases c : S.testBit k = true
    · rw [if_pos ((sp_btt S hS k (by omega)).mpr c), n_ix (by omega) (by decide), n_cl (by omega), H k (by omega)]
      by_cases c2 : sp_d N k = 0
      · rw [if_pos (by rw [sp_no]; exact c2)]
        exact ih (k + 1) f (by omega) (by omega) (by rw [e, h0, c2]; simp)
      · rw [if_neg (by rw [sp_no]; exact c2)]
        have e0 : sp_ot N S (k + 1) = false := by rw [e, h0, c]; simp [c2]
        have e1 := sp_ot_f d (k + 1) e0
        rw [show k + 1 + d = 5 by omega] at e1
        rw [e1]; rfl
    · have c' : S.testBit k = false := by simpa using c
      rw [if_neg (fun q => c ((sp_btt S hS k (by omega)).mp q))]
      exact ih (k + 1) f (by omega) (by omega) (by rw [e, h0, c']; rfl)
theorem sp_outs {h : Nat → Int32} {N S : Nat} (H : sp_R h N) (hS : S < 32) : F_X1_areOutside h (nI S) = some (if sp_ot N S 5 = true then 1 else 0) :=
  sp_outsL H hS 5 0 sw_fu (by omega) (by unfold sw_fu; omega) rfl
theorem sp_outsML {N S : Nat} (hN : N < 7776) (hS : S < 32) : ∀ d k fu, k + d = 5 → d < fu → F_X6_areOut_4 (nI N) (nI S) fu (if sp_ot N S k = true then 1 else 0) (nI k) = some (if sp_ot N S 5 = true then 1 else 0) := by
  intro d
  induction d with
  | zero =>
    intro k fu hk hf
    obtain ⟨f, rfl⟩ : ∃ f, fu = f + 1 := ⟨fu - 1, by omega⟩
    rw [F_X6_areOut_4.eq_2, if_pos (by rw [n_le5 (by omega)]; omega), show k = 5 by omega]
    unfold sw_zb
    by_cases c : sp_ot N S 5 = true
    · rw [if_pos c, if_pos (by decide)]
    · rw [if_neg c, if_pos (by decide)]
  | succ d ih =>
    intro k fu hk hf
    obtain ⟨f, rfl⟩ : ∃ f, fu = f + 1 := ⟨fu - 1, by omega⟩
    have e : sp_ot N S (k + 1) = (sp_ot N S k && (!S.testBit k || decide (sp_d N k = 0))) := rfl
    rw [F_X6_areOut_4.eq_2, if_neg (by rw [n_le5 (by omega)]; omega), n_1]
    have ih := ih (k + 1) f (by omega) (by omega)
    rw [e] at ih
    by_cases c0 : sp_ot N S k = true
    · rw [if_pos c0, if_neg (by decide)]
      rw [c0, Bool.true_and] at ih
      by_cases c : S.testBit k = false
      · rw [if_pos ((sp_btz S hS k (by omega)).mpr c)]
        rw [c, Bool.not_false, Bool.true_or, if_pos rfl] at ih
        exact ih
      · have c' : S.testBit k = true := by simpa using c
        rw [if_neg (fun q => c ((sp_btz S hS k (by omega)).mp q)), sp_holderM hN (by omega), n_b]
        rw [c', Bool.not_true, Bool.false_or] at ih
        by_cases c2 : sp_d N k = 0
        · rw [if_pos (by rw [sp_no]; exact c2)]
          rw [decide_eq_true c2, if_pos rfl] at ih
          exact ih
        · rw [if_neg (by rw [sp_no]; exact c2)]
          rw [decide_eq_false c2, if_neg (by decide)] at ih
          exact ih
    · have c' : sp_ot N S k = false := by simpa using c0
      rw [if_neg c0, if_pos rfl]
      rw [c', Bool.false_and, if_neg (by decide)] at ih
      exact ih
theorem sp_outsM {N S : Nat} (hN : N < 7776) (hS : S < 32) : F_X6_areOut (nI N) (nI S) = some (if sp_ot N S 5 = true then 1 else 0) :=
  sp_outsML hN hS 5 0 sw_fu (by omega) (by unfold sw_fu; omega)
theorem sp_drop {Q : List sp_BE} {i : Nat} {e : sp_BE} (h : Q[i]? = some e) : Q.drop i = e :: Q.drop (i + 1) := by
  obtain ⟨hi, he⟩ := List.getElem?_eq_some_iff.mp h
  rw [← he]; exact List.drop_eq_getElem_cons hi
theorem sp_drop0 {Q : List sp_BE} {i : Nat} (h : Q[i]? = none) : Q.drop i = [] := by
  rw [List.getElem?_eq_none_iff] at h
  exact List.drop_eq_nil_of_le h
theorem sp_len0 {Q : List sp_BE} {i : Nat} (h : Q[i]? = none) : Q.length ≤ i := by
  rw [List.getElem?_eq_none_iff] at h; exact h
/-- the first of the list with P: what g says of it, else -1 -/
def sp_fd (P : Nat → Bool) (g : sp_BE → Int32) : List sp_BE → Int32
  | [] => -1
  | e :: r => if P e.1 = true then g e else sp_fd P g r
theorem sp_pwoL {n S : Nat} {Q : List sp_BE} {t : Int32} {re st fi ir : Nat → Int32} (hI : sp_QI n Q) (hR : sp_RL Q t re st fi ir) (hS : S < 32) : ∀ k i fu (Eh : Nat → Int32), i + k = 1297 → k < fu →
    ∃ p Eh', F_X2_placeWhereOut_2 t re (nI S) fu Eh (nI i) = some (p, Eh') ∧ ((p = (-1 : Int32) ∧ ∀ g, sp_fd (fun N => sp_ot N S 5) g (Q.drop i) = -1) ∨ ∃ j e, p = nI j ∧ Q[j]? = some e ∧ ∀ g, sp_fd (fun N => sp_ot N S 5) g (Q.drop i) = g e) := by
  have hl := sp_QI_len hI
  intro k
  induction k with
  | zero =>
    intro i fu Eh hk hf
    obtain ⟨f, rfl⟩ : ∃ f, fu = f + 1 := ⟨fu - 1, by omega⟩
    rw [F_X2_placeWhereOut_2.eq_2, hR.1, if_pos (by rw [n_le (by omega) (by omega)]; omega)]
    exact ⟨_, _, rfl, Or.inl ⟨rfl, fun g => by rw [List.drop_eq_nil_of_le (by omega)]; rfl⟩⟩
  | succ k ih =>
    intro i fu Eh hk hf
    obtain ⟨f, rfl⟩ : ∃ f, fu = f + 1 := ⟨fu - 1, by omega⟩
    rw [F_X2_placeWhereOut_2.eq_2]
    cases he : Q[i]? with
    | none =>
      have := sp_len0 he
      rw [hR.1, if_pos (by rw [n_le (by omega) (by omega)]; omega)]
      exact ⟨_, _, rfl, Or.inl ⟨rfl, fun g => by rw [sp_drop0 he]; rfl⟩⟩
    | some e =>
      have hi := (List.getElem?_eq_some_iff.mp he).1
      have hV := (hI.1 i e he).1
      obtain ⟨E1, e1, R1⟩ := sp_become (h := Eh) hV.1
      rw [if_neg (by rw [hR.1, n_le (by omega) (by omega)]; omega), if_neg (by rw [n_le1296 (by omega)]; omega), n_ix (by omega) (by decide), n_cl (by omega), (hR.2.1 i e he).1, e1, n_b, sp_outs R1 hS, n_b, n_1]
      by_cases c : sp_ot e.1 S 5 = true
      · rw [if_pos c, if_neg (by decide)]
        exact ⟨_, _, rfl, Or.inr ⟨i, e, rfl, he, fun g => by rw [sp_drop he]; exact if_pos c⟩⟩
      · rw [if_neg c, if_pos rfl]
        obtain ⟨p, Eh', r1, r2⟩ := ih (i + 1) f E1 (by omega) (by omega)
        have ed : ∀ g, sp_fd (fun N => sp_ot N S 5) g (Q.drop i) = sp_fd (fun N => sp_ot N S 5) g (Q.drop (i + 1)) := fun g => by
          rw [sp_drop he]; exact if_neg c
        refine ⟨p, Eh', r1, ?_⟩
        rcases r2 with ⟨a, b⟩ | ⟨j, x, a, b, d⟩
        · exact Or.inl ⟨a, fun g => by rw [ed]; exact b g⟩
        · exact Or.inr ⟨j, x, a, b, fun g => by rw [ed]; exact d g⟩
theorem sp_togL {n a b : Nat} {Q : List sp_BE} {t : Int32} {re st fi ir : Nat → Int32} (hI : sp_QI n Q) (hR : sp_RL Q t re st fi ir) (ha : a < 5) (hb : b < 5) : ∀ k i fu (Eh : Nat → Int32), i + k = 1297 → k < fu →
    ∃ p Eh', F_X2_placeWhereTogether_2 t re (nI a) (nI b) fu Eh (nI i) = some (p, Eh') ∧ ((p = (-1 : Int32) ∧ ∀ g, sp_fd (fun N => decide (sp_d N a = sp_d N b)) g (Q.drop i) = -1) ∨ ∃ j e, p = nI j ∧ Q[j]? = some e ∧ ∀ g, sp_fd (fun N => decide (sp_d N a = sp_d N b)) g (Q.drop i) = g e) := by
  have hl := sp_QI_len hI
  intro k
  induction k with
  | zero =>
    intro i fu Eh hk hf
    obtain ⟨f, rfl⟩ : ∃ f, fu = f + 1 := ⟨fu - 1, by omega⟩
    rw [F_X2_placeWhereTogether_2.eq_2, hR.1, if_pos (by rw [n_le (by omega) (by omega)]; omega)]
    exact ⟨_, _, rfl, Or.inl ⟨rfl, fun g => by rw [List.drop_eq_nil_of_le (by omega)]; rfl⟩⟩
  | succ k ih =>
    intro i fu Eh hk hf
    obtain ⟨f, rfl⟩ : ∃ f, fu = f + 1 := ⟨fu - 1, by omega⟩
    rw [F_X2_placeWhereTogether_2.eq_2]
    cases he : Q[i]? with
    | none =>
      have := sp_len0 he
      rw [hR.1, if_pos (by rw [n_le (by omega) (by omega)]; omega)]
      exact ⟨_, _, rfl, Or.inl ⟨rfl, fun g => by rw [sp_drop0 he]; rfl⟩⟩
    | some e =>
      have hi := (List.getElem?_eq_some_iff.mp he).1
      have hV := (hI.1 i e he).1
      obtain ⟨E1, e1, R1⟩ := sp_become (h := Eh) hV.1
      rw [if_neg (by rw [hR.1, n_le (by omega) (by omega)]; omega), if_neg (by rw [n_le1296 (by omega)]; omega), n_ix (by omega) (by decide), n_cl (by omega), (hR.2.1 i e he).1, e1, n_b, sp_holder R1 ha, n_b, sp_holder R1 hb, n_b, n_1]
      by_cases c : sp_d e.1 a = sp_d e.1 b
      · rw [if_pos (by rw [sp_eq]; exact c)]
        exact ⟨_, _, rfl, Or.inr ⟨i, e, rfl, he, fun g => by rw [sp_drop he]; exact if_pos (decide_eq_true c)⟩⟩
      · rw [if_neg (by rw [sp_eq]; exact c)]
        obtain ⟨p, Eh', r1, r2⟩ := ih (i + 1) f E1 (by omega) (by omega)
        have ed : ∀ g, sp_fd (fun N => decide (sp_d N a = sp_d N b)) g (Q.drop i) = sp_fd (fun N => decide (sp_d N a = sp_d N b)) g (Q.drop (i + 1)) := fun g => by
          rw [sp_drop he]; exact if_neg (by rw [decide_eq_true_eq]; exact c)
        refine ⟨p, Eh', r1, ?_⟩
        rcases r2 with ⟨q, w⟩ | ⟨j, x, q, w, d⟩
        · exact Or.inl ⟨q, fun g => by rw [ed]; exact w g⟩
        · exact Or.inr ⟨j, x, q, w, fun g => by rw [ed]; exact d g⟩
theorem sp_soonL {n S : Nat} {Q : List sp_BE} {ld w : Int32} {far fi ln : Nat → Int32} (hI : sp_QI n Q) (hR : sp_RM Q ld far fi ln) (hS : S < 32) : ∀ k i fu, i + k = 1297 → k < fu →
    F_X6_soonestOf_6 ld far fi ln (nI S) w fu (nI i) = some (sp_fd (fun N => sp_ot N S 5) (fun e => if w = 0 then e.2.1 else e.2.2) (Q.drop i), ld, far, fi, ln) := by
  have hl := sp_QI_len hI
  intro k
  induction k with
  | zero =>
    intro i fu hk hf
    obtain ⟨f, rfl⟩ : ∃ f, fu = f + 1 := ⟨fu - 1, by omega⟩
    rw [F_X6_soonestOf_6.eq_2, if_pos (by rw [hR.1, n_le (by omega) (by omega)]; omega), List.drop_eq_nil_of_le (by omega)]
    rfl
  | succ k ih =>
    intro i fu hk hf
    obtain ⟨f, rfl⟩ : ∃ f, fu = f + 1 := ⟨fu - 1, by omega⟩
    rw [F_X6_soonestOf_6.eq_2]
    cases he : Q[i]? with
    | none =>
      have := sp_len0 he
      rw [if_pos (by rw [hR.1, n_le (by omega) (by omega)]; omega), sp_drop0 he]
      rfl
    | some e =>
      have hi := (List.getElem?_eq_some_iff.mp he).1
      have hV := (hI.1 i e he).1
      have hN := hV.1
      obtain ⟨a1, a2, a3⟩ := hR.2.1 i e he
      rw [if_neg (by rw [hR.1, n_le (by omega) (by omega)]; omega), n_ix (by omega) (by decide), n_cl (by omega), a1, sp_outsM hN hS, n_b, n_1, sp_drop he]
      by_cases c : sp_ot e.1 S 5 = true
      · rw [if_pos c, if_neg (by decide), n_ix (by omega) (by decide), n_ix hN (by decide), n_cl (by omega), a2, a3]
        have e0 : sp_fd (fun N => sp_ot N S 5) (fun e => if w = 0 then e.2.1 else e.2.2) (e :: Q.drop (i + 1)) = if w = 0 then e.2.1 else e.2.2 := if_pos c
        rw [e0]
        by_cases c2 : w = 0
        · rw [if_pos c2, if_pos c2]
        · rw [if_neg c2, if_neg c2, n_ix (by omega) (by decide), n_ix hN (by decide)]
      · rw [if_neg c, if_pos rfl]
        have e0 : sp_fd (fun N => sp_ot N S 5) (fun e => if w = 0 then e.2.1 else e.2.2) (e :: Q.drop (i + 1)) = sp_fd (fun N => sp_ot N S 5) (fun e => if w = 0 then e.2.1 else e.2.2) (Q.drop (i + 1)) := if_neg c
        rw [e0]
        exact ih (i + 1) f (by omega) (by omega)
theorem sp_togML {n a b : Nat} {Q : List sp_BE} {ld : Int32} {far fi ln : Nat → Int32} (hI : sp_QI n Q) (hR : sp_RM Q ld far fi ln) (ha : a < 5) (hb : b < 5) : ∀ k i fu, i + k = 1297 → k < fu →
    F_X6_together_30 ld far fi ln (nI a) (nI b) fu (nI i) = some (sp_fd (fun N => decide (sp_d N a = sp_d N b)) (fun e => e.2.1) (Q.drop i), ld, far, fi, ln) := by
  have hl := sp_QI_len hI
  intro k
  induction k with
  | zero =>
    intro i fu hk hf
    obtain ⟨f, rfl⟩ : ∃ f, fu = f + 1 := ⟨fu - 1, by omega⟩
    rw [F_X6_together_30.eq_2, if_pos (by rw [hR.1, n_le (by omega) (by omega)]; omega), List.drop_eq_nil_of_le (by omega)]
    rfl
  | succ k ih =>
    intro i fu hk hf
    obtain ⟨f, rfl⟩ : ∃ f, fu = f + 1 := ⟨fu - 1, by omega⟩
    rw [F_X6_together_30.eq_2]
    cases he : Q[i]? with
    | none =>
      have := sp_len0 he
      rw [if_pos (by rw [hR.1, n_le (by omega) (by omega)]; omega), sp_drop0 he]
      rfl
    | some e =>
      have hi := (List.getElem?_eq_some_iff.mp he).1
      have hV := (hI.1 i e he).1
      have hN := hV.1
      obtain ⟨a1, a2, a3⟩ := hR.2.1 i e he
      rw [if_neg (by rw [hR.1, n_le (by omega) (by omega)]; omega), n_ix (by omega) (by decide), n_cl (by omega), a1, sp_holderM hN ha, n_b, n_ix (by omega) (by decide), sp_holderM hN hb, n_b, n_1, sp_drop he]
      by_cases c : sp_d e.1 a = sp_d e.1 b
      · rw [if_pos (by rw [sp_eq]; exact c), n_ix (by omega) (by decide), n_ix hN (by decide), n_cl (by omega), a2]
        have e0 : sp_fd (fun N => decide (sp_d N a = sp_d N b)) (fun e => e.2.1) (e :: Q.drop (i + 1)) = e.2.1 := if_pos (decide_eq_true c)
        rw [e0]
      · rw [if_neg (by rw [sp_eq]; exact c)]
        have e0 : sp_fd (fun N => decide (sp_d N a = sp_d N b)) (fun e => e.2.1) (e :: Q.drop (i + 1)) = sp_fd (fun N => decide (sp_d N a = sp_d N b)) (fun e => e.2.1) (Q.drop (i + 1)) := if_neg (by rw [decide_eq_true_eq]; exact c)
        rw [e0]
        exact ih (i + 1) f (by omega) (by omega)
/-- the most walls around b -/
def sp_mw (b : Nat) : List sp_BE → Nat → Nat
  | [], m => m
  | e :: r, m => sp_mw b r (if m < sp_w e.1 5 (sp_d e.1 b) then sp_w e.1 5 (sp_d e.1 b) else m)
theorem sp_mostL {n b : Nat} {Q : List sp_BE} {t : Int32} {re st fi ir : Nat → Int32} (hI : sp_QI n Q) (hR : sp_RL Q t re st fi ir) (hb : b < 5) : ∀ k i fu m (Eh : Nat → Int32), i + k = 1297 → k < fu → m ≤ 5 →
    ∃ Eh', F_X2_mostWalls_4 t re (nI b) fu Eh (nI m) (nI i) = some (nI (sp_mw b (Q.drop i) m), Eh') := by
  have hl := sp_QI_len hI
  intro k
  induction k with
  | zero =>
    intro i fu m Eh hk hf hm
    obtain ⟨f, rfl⟩ : ∃ f, fu = f + 1 := ⟨fu - 1, by omega⟩
    rw [F_X2_mostWalls_4.eq_2, hR.1, if_pos (by rw [n_le (by omega) (by omega)]; omega), List.drop_eq_nil_of_le (by omega)]
    exact ⟨_, rfl⟩
  | succ k ih =>
    intro i fu m Eh hk hf hm
    obtain ⟨f, rfl⟩ : ∃ f, fu = f + 1 := ⟨fu - 1, by omega⟩
    rw [F_X2_mostWalls_4.eq_2]
    cases he : Q[i]? with
    | none =>
      have := sp_len0 he
      rw [hR.1, if_pos (by rw [n_le (by omega) (by omega)]; omega), sp_drop0 he]
      exact ⟨_, rfl⟩
    | some e =>
      have hi := (List.getElem?_eq_some_iff.mp he).1
      have hV := (hI.1 i e he).1
      obtain ⟨E1, e1, R1⟩ := sp_become (h := Eh) hV.1
      have hw := sp_w_le e.1 5 (sp_d e.1 b)
      rw [if_neg (by rw [hR.1, n_le (by omega) (by omega)]; omega), if_neg (by rw [n_le1296 (by omega)]; omega), n_ix (by omega) (by decide), n_cl (by omega), (hR.2.1 i e he).1, e1, n_b, sp_walls R1 hV hb, n_b, n_1, sp_drop he]
      unfold sp_mw
      by_cases c : m < sp_w e.1 5 (sp_d e.1 b)
      · rw [if_pos (by rw [n_lt (by omega) (by omega)]; exact c), if_pos c]
        exact ih (i + 1) f _ E1 (by omega) (by omega) hw
      · rw [if_neg (by rw [n_lt (by omega) (by omega)]; exact c), if_neg c]
        exact ih (i + 1) f _ E1 (by omega) (by omega) hm
theorem sp_mostML {n b : Nat} {Q : List sp_BE} {ld : Int32} {far fi ln : Nat → Int32} (hI : sp_QI n Q) (hR : sp_RM Q ld far fi ln) (hb : b < 5) : ∀ k i fu m, i + k = 1297 → k < fu → m ≤ 5 →
    F_X6_deepest_4 ld ln (nI b) fu (nI m) (nI i) = some (nI (sp_mw b (Q.drop i) m)) := by
  have hl := sp_QI_len hI
  intro k
  induction k with
  | zero =>
    intro i fu m hk hf hm
    obtain ⟨f, rfl⟩ : ∃ f, fu = f + 1 := ⟨fu - 1, by omega⟩
    rw [F_X6_deepest_4.eq_2, if_pos (by rw [hR.1, n_le (by omega) (by omega)]; omega), List.drop_eq_nil_of_le (by omega)]
    rfl
  | succ k ih =>
    intro i fu m hk hf hm
    obtain ⟨f, rfl⟩ : ∃ f, fu = f + 1 := ⟨fu - 1, by omega⟩
    rw [F_X6_deepest_4.eq_2]
    cases he : Q[i]? with
    | none =>
      have := sp_len0 he
      rw [if_pos (by rw [hR.1, n_le (by omega) (by omega)]; omega), sp_drop0 he]
      rfl
    | some e =>
      have hi := (List.getElem?_eq_some_iff.mp he).1
      have hV := (hI.1 i e he).1
      have hw := sp_w_le e.1 5 (sp_d e.1 b)
      rw [if_neg (by rw [hR.1, n_le (by omega) (by omega)]; omega), n_ix (by omega) (by decide), n_cl (by omega), (hR.2.1 i e he).1, sp_wallsM hV hb, n_b, n_1, sp_drop he]
      unfold sp_mw
      by_cases c : m < sp_w e.1 5 (sp_d e.1 b)
      · rw [if_neg (by rw [n_le (by omega) (by omega)]; omega), if_pos c]
        exact ih (i + 1) f _ (by omega) (by omega) hw
      · rw [if_pos (by rw [n_le (by omega) (by omega)]; omega), if_neg c]
        exact ih (i + 1) f _ (by omega) (by omega) hm
/-- the so-manieth in order of number, from x on -/
def sp_na (Q : List sp_BE) : Nat → Nat → Nat → Int32
  | 0, _, _ => -1
  | k + 1, x, i => if x ∈ Q.map Prod.fst then (if i = 0 then nI x else sp_na Q k (x + 1) (i - 1)) else sp_na Q k (x + 1) i
theorem sp_nAtL {Q : List sp_BE} {t : Int32} {re st fi ir : Nat → Int32} (hR : sp_RL Q t re st fi ir) {I : Nat} (hI : I < 2 ^ 31) : ∀ k x fu p, x + k = 7776 → k < fu → p ≤ I → p ≤ x → F_X2_numberAt_4 ir (nI I) fu (nI p) (nI x) = some (sp_na Q k x (I - p)) := by
  intro k
  induction k with
  | zero =>
    intro x fu p hk hf hp hx
    obtain ⟨f, rfl⟩ : ∃ f, fu = f + 1 := ⟨fu - 1, by omega⟩
    rw [F_X2_numberAt_4.eq_2, if_pos (by rw [n_le7776 (by omega)]; omega)]
    rfl
  | succ k ih =>
    intro x fu p hk hf hp hx
    obtain ⟨f, rfl⟩ : ∃ f, fu = f + 1 := ⟨fu - 1, by omega⟩
    rw [F_X2_numberAt_4.eq_2, if_neg (by rw [n_le7776 (by omega)]; omega), n_ix (by omega) (by decide), n_cl (by omega), hR.2.2 x (by omega), n_1]
    unfold sp_na
    by_cases c : x ∈ Q.map Prod.fst
    · rw [if_pos c, if_neg (by decide), if_pos c]
      by_cases c2 : p = I
      · rw [if_pos (by rw [c2]), if_pos (by omega)]
      · rw [if_neg (by rw [n_eq (by omega) hI]; exact c2), if_neg (by omega), n_1]
        rw [ih (x + 1) f (p + 1) (by omega) (by omega) (by omega) (by omega), show I - (p + 1) = I - p - 1 by omega]
    · rw [if_neg c, if_pos rfl, if_neg c]
      exact ih (x + 1) f p (by omega) (by omega) hp (by omega)
theorem sp_nAtN {Q : List sp_BE} {t w : Int32} {re st fi ir : Nat → Int32} (hR : sp_RL Q t re st fi ir) (hw : w < 0) : ∀ k x fu p, x + k = 7776 → k < fu → p ≤ x → F_X2_numberAt_4 ir w fu (nI p) (nI x) = some (-1) := by
  intro k
  induction k with
  | zero =>
    intro x fu p hk hf hx
    obtain ⟨f, rfl⟩ : ∃ f, fu = f + 1 := ⟨fu - 1, by omega⟩
    rw [F_X2_numberAt_4.eq_2, if_pos (by rw [n_le7776 (by omega)]; omega)]
  | succ k ih =>
    intro x fu p hk hf hx
    obtain ⟨f, rfl⟩ : ∃ f, fu = f + 1 := ⟨fu - 1, by omega⟩
    rw [F_X2_numberAt_4.eq_2, if_neg (by rw [n_le7776 (by omega)]; omega), n_ix (by omega) (by decide), n_cl (by omega), hR.2.2 x (by omega), n_1]
    by_cases c : x ∈ Q.map Prod.fst
    · rw [if_pos c, if_neg (by decide), if_neg (fun q => by rw [← q] at hw; exact nI_pos (by omega) hw), n_1]
      exact ih (x + 1) f (p + 1) (by omega) (by omega) (by omega)
    · rw [if_neg c, if_pos rfl]
      exact ih (x + 1) f p (by omega) (by omega) (by omega)
theorem sp_nestL {n : Nat} {Q : List sp_BE} {ld : Int32} {far fi ln : Nat → Int32} (hI : sp_QI n Q) (hR : sp_RM Q ld far fi ln) : ∀ k x fu i, x + k = 7776 → k < fu → i < 2 ^ 31 → F_X6_nesting_8 ld far fi ln fu (nI i) (nI x) = some (if sp_na Q k x i = (-1 : Int32) then (-102) else sp_na Q k x i, ld, far, fi, ln) := by
  intro k
  induction k with
  | zero =>
    intro x fu i hk hf hi
    obtain ⟨f, rfl⟩ : ∃ f, fu = f + 1 := ⟨fu - 1, by omega⟩
    rw [F_X6_nesting_8.eq_2, if_pos (by rw [n_le7776 (by omega)]; omega)]
    rfl
  | succ k ih =>
    intro x fu i hk hf hi
    obtain ⟨f, rfl⟩ : ∃ f, fu = f + 1 := ⟨fu - 1, by omega⟩
    rw [F_X6_nesting_8.eq_2, if_neg (by rw [n_le7776 (by omega)]; omega), if_neg (nI_pos hi), n_ix (by omega) (by decide), n_cl (by omega), n_1]
    unfold sp_na
    by_cases c : x ∈ Q.map Prod.fst
    · rw [if_neg (by rw [sp_RM_far hI hR (by omega)]; exact fun q => q c), if_pos c]
      by_cases c2 : i = 0
      · rw [if_pos (by rw [c2]; rfl), if_pos c2, if_neg (sp_ne1 (by omega))]
      · rw [if_neg (by rw [show (0 : Int32) = nI 0 from rfl, n_eq hi (by decide)]; exact c2), if_neg c2]
        obtain ⟨j, rfl⟩ : ∃ j, i = j + 1 := ⟨i - 1, by omega⟩
        rw [n_m1, n_s1, Nat.add_sub_cancel]
        exact ih (x + 1) f j (by omega) (by omega) (by omega)
    · rw [if_pos (by rw [sp_RM_far hI hR (by omega)]; exact c), if_neg c]
      exact ih (x + 1) f i (by omega) (by omega) hi
theorem sp_na_v {Q : List sp_BE} : ∀ k x i, x + k = 7776 → sp_na Q k x i = (-1 : Int32) ∨ ∃ y, y < 7776 ∧ sp_na Q k x i = nI y := by
  intro k
  induction k with
  | zero => intro x i h; exact Or.inl rfl
  | succ k ih =>
    intro x i h
    unfold sp_na
    by_cases c : x ∈ Q.map Prod.fst
    · rw [if_pos c]
      by_cases c2 : i = 0
      · rw [if_pos c2]; exact Or.inr ⟨x, by omega, rfl⟩
      · rw [if_neg c2]; exact ih _ _ (by omega)
    · rw [if_neg c]; exact ih _ _ (by omega)
