/-! pure: whom to ask -/
theorem sp_fillL {l1 : Int32} : ∀ k i fu (G : Nat → Int32), i + k = 32 → k < fu → ∃ G', F_J7_fill_53178_5 32 l1 (Int32.ofNat 32) fu G (nI i) = some G' ∧ ∀ x, x < 32 → G' x = if i ≤ x then l1 else G x := by
  intro k
  induction k with
  | zero =>
    intro i fu G hk hf
    obtain ⟨f, rfl⟩ : ∃ f, fu = f + 1 := ⟨fu - 1, by omega⟩
    rw [F_J7_fill_53178_5.eq_2, if_pos (show Int32.ofNat 32 ≤ nI i from nI_le (a := 32) (by omega) (by omega))]
    exact ⟨G, rfl, fun x hx => by rw [if_neg (by omega)]⟩
  | succ k ih =>
    intro i fu G hk hf
    obtain ⟨f, rfl⟩ : ∃ f, fu = f + 1 := ⟨fu - 1, by omega⟩
    rw [F_J7_fill_53178_5.eq_2, if_neg (show ¬ Int32.ofNat 32 ≤ nI i from nI_ge (b := 32) (by omega) (by decide)), n_ix (by omega) (by decide), n_cl (by omega), n_1]
    obtain ⟨G', e, g⟩ := ih (i + 1) f (upd G i l1) (by omega) (by omega)
    refine ⟨G', e, fun x hx => ?_⟩
    rw [g x hx]
    unfold upd
    by_cases q : x = i
    · rw [if_neg (by omega), if_pos q, if_pos (by omega)]
    · rw [if_neg q]
      by_cases q2 : i ≤ x
      · rw [if_pos q2, if_pos (by omega)]
      · rw [if_neg q2, if_neg (by omega)]
theorem sp_fill (G : Nat → Int32) : ∃ G', F_J7_fill_53178 32 G 0 = some G' ∧ ∀ x, x < 32 → G' x = 0 := by
  obtain ⟨G', e, g⟩ := sp_fillL (l1 := 0) 32 0 sw_fu G (by omega) (by unfold sw_fu; omega)
  exact ⟨G', e, fun x hx => by rw [g x hx, if_pos (Nat.zero_le _)]⟩
/-- the most that b's answer could leave, of the list, with counts A so far, m the most so far -/
def sp_ml (P : Nat → Bool) (n b : Nat) : List sp_BE → (Nat → Nat) → Nat → Nat
  | [], _, m => m
  | e :: r, A, m => if P e.1 = true then sp_ml P n b r (fun x => if x = sp_hd e.1 b n then A (sp_hd e.1 b n) + 1 else A x) (if m < A (sp_hd e.1 b n) + 1 then A (sp_hd e.1 b n) + 1 else m) else sp_ml P n b r A m
theorem sp_ml_ge {P : Nat → Bool} {n b : Nat} : ∀ (r : List sp_BE) (A : Nat → Nat) (m : Nat), m ≤ sp_ml P n b r A m ∧ (0 < sp_fc P r 0 → 0 < sp_ml P n b r A m) ∧ (sp_fc P r 0 = 0 → sp_ml P n b r A m = m) := by
  intro r
  induction r with
  | nil => intro A m; exact ⟨Nat.le_refl _, fun h => absurd h (Nat.lt_irrefl 0), fun _ => rfl⟩
  | cons e r ih =>
    intro A m
    unfold sp_ml sp_fc
    by_cases c : P e.1 = true
    · rw [if_pos c, if_pos c]
      have h := (ih (fun x => if x = sp_hd e.1 b n then A (sp_hd e.1 b n) + 1 else A x) (if m < A (sp_hd e.1 b n) + 1 then A (sp_hd e.1 b n) + 1 else m)).1
      have h2 : m ≤ (if m < A (sp_hd e.1 b n) + 1 then A (sp_hd e.1 b n) + 1 else m) ∧ 0 < (if m < A (sp_hd e.1 b n) + 1 then A (sp_hd e.1 b n) + 1 else m) := by
        by_cases q : m < A (sp_hd e.1 b n) + 1
        · rw [if_pos q]; omega
        · rw [if_neg q]; omega
      refine ⟨by omega, fun _ => by omega, fun z => ?_⟩
      have := sp_fc_a (P := P) r (0 + 1)
      omega
    · rw [if_neg c, if_neg c]
      exact ih A m
theorem sp_askL {n m b : Nat} {te hs : Nat → Nat} {Q : List sp_BE} {t tl : Int32} {re st fi ir tt th : Nat → Int32} (hn : n ≤ 5) (hb : b < 5) (hI : sp_QI n Q) (hR : sp_RL Q t re st fi ir) (hT : sp_TK n m te hs tl tt th) : ∀ k i fu (A : Nat → Nat) (M : Nat) (La Eh : Nat → Int32), i + k = 1297 → k < fu → (∀ x, x < 32 → La x = nI (A x) ∧ A x ≤ i) → M ≤ i →
    ∃ La' Eh', F_X2_mostLeft_13 (nI n) t re tl tt th (nI b) fu La Eh (nI M) (nI i) = some (nI (sp_ml (fun N => sp_so n te hs N m) n b (Q.drop i) A M), La', Eh') ∧ sp_ml (fun N => sp_so n te hs N m) n b (Q.drop i) A M ≤ 1297 := by
  have hl := sp_QI_len hI
  intro k
  induction k with
  | zero =>
    intro i fu A M La Eh hk hf hA hM
    obtain ⟨f, rfl⟩ : ∃ f, fu = f + 1 := ⟨fu - 1, by omega⟩
    rw [F_X2_mostLeft_13.eq_2, hR.1, if_pos (by rw [n_le (by omega) (by omega)]; omega), List.drop_eq_nil_of_le (by omega)]
    exact ⟨_, _, rfl, by show M ≤ 1297; omega⟩
  | succ k ih =>
    intro i fu A M La Eh hk hf hA hM
    obtain ⟨f, rfl⟩ : ∃ f, fu = f + 1 := ⟨fu - 1, by omega⟩
    rw [F_X2_mostLeft_13.eq_2]
    cases he : Q[i]? with
    | none =>
      have := sp_len0 he
      rw [hR.1, if_pos (by rw [n_le (by omega) (by omega)]; omega), sp_drop0 he]
      exact ⟨_, _, rfl, by show M ≤ 1297; omega⟩
    | some e =>
      have hi := (List.getElem?_eq_some_iff.mp he).1
      have hV := (hI.1 i e he).1
      obtain ⟨E1, e1, R1⟩ := sp_become (h := Eh) hV.1
      have hd := sp_hd_lt (N := e.1) (a := b) n hn
      obtain ⟨hA1, hA2⟩ := hA _ hd
      rw [if_neg (by rw [hR.1, n_le (by omega) (by omega)]; omega), if_neg (by rw [n_le1296 (by omega)]; omega), n_ix (by omega) (by decide), n_cl (by omega), (hR.2.1 i e he).1, e1, n_b, sp_heard R1 hn hb, n_b, if_neg (nI_pos (by omega)), if_neg (show ¬ (32 : Int32) ≤ nI _ from nI_ge (b := 32) hd (by decide)), sp_soIn R1 hn hT, n_b, n_1, sp_drop he]
      unfold sp_ml
      by_cases c : sp_so n te hs e.1 m = true
      · rw [if_pos c, if_neg (by decide), if_pos c, n_ix hd (by decide), n_ix hd (by decide), n_ix hd (by decide), n_cl (by omega), hA1, n_1]
        have eu : upd La (sp_hd e.1 b n) (nI (A (sp_hd e.1 b n) + 1)) (sp_hd e.1 b n) = nI (A (sp_hd e.1 b n) + 1) := if_pos rfl
        rw [eu]
        have hA' : ∀ x, x < 32 → upd La (sp_hd e.1 b n) (nI (A (sp_hd e.1 b n) + 1)) x = nI ((fun x => if x = sp_hd e.1 b n then A (sp_hd e.1 b n) + 1 else A x) x) ∧ (fun x => if x = sp_hd e.1 b n then A (sp_hd e.1 b n) + 1 else A x) x ≤ i + 1 := by
          intro x hx
          unfold upd
          show (if x = sp_hd e.1 b n then nI (A (sp_hd e.1 b n) + 1) else La x) = nI (if x = sp_hd e.1 b n then A (sp_hd e.1 b n) + 1 else A x) ∧ (if x = sp_hd e.1 b n then A (sp_hd e.1 b n) + 1 else A x) ≤ i + 1
          by_cases q : x = sp_hd e.1 b n
          · rw [if_pos q, if_pos q]; exact ⟨rfl, by omega⟩
          · rw [if_neg q, if_neg q]
            obtain ⟨z1, z2⟩ := hA x hx
            exact ⟨z1, by omega⟩
        by_cases q : M < A (sp_hd e.1 b n) + 1
        · rw [if_pos (by rw [n_lt (by omega) (by omega)]; exact q), if_pos q]
          exact ih (i + 1) f _ _ _ E1 (by omega) (by omega) hA' (by omega)
        · rw [if_neg (by rw [n_lt (by omega) (by omega)]; exact q), if_neg q]
          exact ih (i + 1) f _ _ _ E1 (by omega) (by omega) hA' (by omega)
      · rw [if_neg c, if_pos rfl, if_neg c]
        exact ih (i + 1) f A M La E1 (by omega) (by omega) (fun x hx => by obtain ⟨z1, z2⟩ := hA x hx; exact ⟨z1, by omega⟩) (by omega)
theorem sp_most {n m b : Nat} {te hs : Nat → Nat} {Q : List sp_BE} {t tl : Int32} {re st fi ir tt th La Eh : Nat → Int32} (hn : n ≤ 5) (hb : b < 5) (hI : sp_QI n Q) (hR : sp_RL Q t re st fi ir) (hT : sp_TK n m te hs tl tt th) :
    ∃ La' Eh', F_X2_mostLeft (nI n) t re La Eh tl tt th (nI b) = some (nI (sp_ml (fun N => sp_so n te hs N m) n b Q (fun _ => 0) 0), La', Eh') ∧ sp_ml (fun N => sp_so n te hs N m) n b Q (fun _ => 0) 0 ≤ 1297 := by
  unfold F_X2_mostLeft
  obtain ⟨G', e, g⟩ := sp_fill La
  rw [e, n_b]
  exact sp_askL hn hb hI hR hT 1297 0 sw_fu (fun _ => 0) 0 G' Eh (by omega) (by unfold sw_fu; omega) (fun x hx => ⟨by rw [g x hx]; rfl, Nat.le_refl _⟩) (Nat.le_refl _)
theorem sp_worstL {n m b : Nat} {te hs : Nat → Nat} {Q : List sp_BE} {ld tm : Int32} {far fi ln tr : Nat → Int32} (hn : n ≤ 5) (hm : m ≤ 4) (hb : b < 5) (hte : ∀ j, j < m → te j < n ∧ hs j < 32) (hI : sp_QI n Q) (hR : sp_RM Q ld far fi ln) (hT : sp_TM m te hs tm tr) : ∀ k i fu (A : Nat → Nat) (M : Nat) (Pa : Nat → Int32), i + k = 1297 → k < fu → (∀ x, x < 32 → Pa x = nI (A x) ∧ A x ≤ i) → M ≤ i →
    ∃ Pa', F_X6_worstOf_25 (nI n) ld tm ln tr (nI b) fu Pa (nI M) (nI i) = some (nI (sp_ml (fun N => sp_so n te hs N m) n b (Q.drop i) A M), Pa') := by
  have hl := sp_QI_len hI
  intro k
  induction k with
  | zero =>
    intro i fu A M Pa hk hf hA hM
    obtain ⟨f, rfl⟩ : ∃ f, fu = f + 1 := ⟨fu - 1, by omega⟩
    rw [F_X6_worstOf_25.eq_2, if_pos (by rw [hR.1, n_le (by omega) (by omega)]; omega), List.drop_eq_nil_of_le (by omega)]
    exact ⟨_, rfl⟩
  | succ k ih =>
    intro i fu A M Pa hk hf hA hM
    obtain ⟨f, rfl⟩ : ∃ f, fu = f + 1 := ⟨fu - 1, by omega⟩
    rw [F_X6_worstOf_25.eq_2]
    cases he : Q[i]? with
    | none =>
      have := sp_len0 he
      rw [if_pos (by rw [hR.1, n_le (by omega) (by omega)]; omega), sp_drop0 he]
      exact ⟨_, rfl⟩
    | some e =>
      have hi := (List.getElem?_eq_some_iff.mp he).1
      have hV := (hI.1 i e he).1
      have hd := sp_hd_lt (N := e.1) (a := b) n hn
      obtain ⟨hA1, hA2⟩ := hA _ hd
      rw [if_neg (by rw [hR.1, n_le (by omega) (by omega)]; omega), n_ix (by omega) (by decide), n_cl (by omega), (hR.2.1 i e he).1, sp_told hV.1 hn hm hte hT, n_b, n_ix (by omega) (by decide), sp_heardM hV.1 hn hb, n_b, n_1, sp_drop he]
      unfold sp_ml
      by_cases c : sp_so n te hs e.1 m = true
      · rw [if_pos c, if_neg (by decide), if_pos c, n_ix hd (by decide), n_ix hd (by decide), n_ix hd (by decide), n_ix hd (by decide), n_cl (by omega), hA1, n_1]
        have eu : upd Pa (sp_hd e.1 b n) (nI (A (sp_hd e.1 b n) + 1)) (sp_hd e.1 b n) = nI (A (sp_hd e.1 b n) + 1) := if_pos rfl
        rw [eu]
        have hA' : ∀ x, x < 32 → upd Pa (sp_hd e.1 b n) (nI (A (sp_hd e.1 b n) + 1)) x = nI ((fun x => if x = sp_hd e.1 b n then A (sp_hd e.1 b n) + 1 else A x) x) ∧ (fun x => if x = sp_hd e.1 b n then A (sp_hd e.1 b n) + 1 else A x) x ≤ i + 1 := by
          intro x hx
          unfold upd
          show (if x = sp_hd e.1 b n then nI (A (sp_hd e.1 b n) + 1) else Pa x) = nI (if x = sp_hd e.1 b n then A (sp_hd e.1 b n) + 1 else A x) ∧ (if x = sp_hd e.1 b n then A (sp_hd e.1 b n) + 1 else A x) ≤ i + 1
          by_cases q : x = sp_hd e.1 b n
          · rw [if_pos q, if_pos q]; exact ⟨rfl, by omega⟩
          · rw [if_neg q, if_neg q]
            obtain ⟨z1, z2⟩ := hA x hx
            exact ⟨z1, by omega⟩
        by_cases q : M < A (sp_hd e.1 b n) + 1
        · rw [if_neg (by rw [n_le (by omega) (by omega)]; omega), if_pos q]
          exact ih (i + 1) f _ _ _ (by omega) (by omega) hA' (by omega)
        · rw [if_pos (by rw [n_le (by omega) (by omega)]; omega), if_neg q]
          exact ih (i + 1) f _ _ _ (by omega) (by omega) hA' (by omega)
      · rw [if_neg c, if_pos rfl, if_neg c]
        exact ih (i + 1) f A M Pa (by omega) (by omega) (fun x hx => by obtain ⟨z1, z2⟩ := hA x hx; exact ⟨z1, by omega⟩) (by omega)
theorem sp_worst {n m b : Nat} {te hs : Nat → Nat} {Q : List sp_BE} {ld tm : Int32} {far fi ln tr : Nat → Int32} (hn : n ≤ 5) (hm : m ≤ 4) (hb : b < 5) (hte : ∀ j, j < m → te j < n ∧ hs j < 32) (hI : sp_QI n Q) (hR : sp_RM Q ld far fi ln) (hT : sp_TM m te hs tm tr) : ∀ k i fu (Pa : Nat → Int32), i + k = 32 → k < fu → (∀ x, x < i → Pa x = 0) →
    ∃ Pa', F_X6_worstOf_2 (nI n) ld tm ln tr (nI b) fu Pa (nI i) = some (nI (sp_ml (fun N => sp_so n te hs N m) n b Q (fun _ => 0) 0), Pa') := by
  intro k
  induction k with
  | zero =>
    intro i fu Pa hk hf h0
    obtain ⟨f, rfl⟩ : ∃ f, fu = f + 1 := ⟨fu - 1, by omega⟩
    rw [F_X6_worstOf_2.eq_2, if_pos (show (32 : Int32) ≤ nI i from nI_le (a := 32) (by omega) (by omega))]
    exact sp_worstL hn hm hb hte hI hR hT 1297 0 sw_fu (fun _ => 0) 0 Pa (by omega) (by unfold sw_fu; omega) (fun x hx => ⟨by rw [h0 x (by omega)]; rfl, Nat.le_refl _⟩) (Nat.le_refl _)
  | succ k ih =>
    intro i fu Pa hk hf h0
    obtain ⟨f, rfl⟩ : ∃ f, fu = f + 1 := ⟨fu - 1, by omega⟩
    rw [F_X6_worstOf_2.eq_2, if_neg (show ¬ (32 : Int32) ≤ nI i from nI_ge (b := 32) (by omega) (by decide)), n_ix (by omega) (by decide), n_cl (by omega), n_1]
    refine ih (i + 1) f _ (by omega) (by omega) (fun x hx => ?_)
    unfold upd
    by_cases q : x = i
    · rw [if_pos q]
    · rw [if_neg q]; exact h0 x (by omega)
/-- the best to ask: d are left from k on -/
def sp_ba (W : Nat → Nat) : Nat → Nat → Int32 → Nat → Int32
  | 0, _, best, _ => best
  | d + 1, k, best, few => if W k = 0 then sp_ba W d (k + 1) best few else if best = (-1 : Int32) ∨ W k < few then sp_ba W d (k + 1) (nI k) (W k) else sp_ba W d (k + 1) best few
theorem sp_bestL {n m : Nat} {te hs : Nat → Nat} {Q : List sp_BE} {t tl : Int32} {re st fi ir tt th : Nat → Int32} (hn : n ≤ 5) (hI : sp_QI n Q) (hR : sp_RL Q t re st fi ir) (hT : sp_TK n m te hs tl tt th) : ∀ d k fu (best : Int32) (few : Nat) (La Eh : Nat → Int32), k + d = n → d < fu → few ≤ 1297 →
    ∃ La' Eh', F_X2_bestAsked_7 (nI n) t re tl tt th fu La Eh best (nI few) (nI k) = some (sp_ba (fun b => sp_ml (fun N => sp_so n te hs N m) n b Q (fun _ => 0) 0) d k best few, La', Eh') := by
  intro d
  induction d with
  | zero =>
    intro k fu best few La Eh hk hf hw
    obtain ⟨f, rfl⟩ : ∃ f, fu = f + 1 := ⟨fu - 1, by omega⟩
    rw [F_X2_bestAsked_7.eq_2]
    unfold F_X0_total
    rw [n_b, if_pos (by rw [n_le (by omega) (by omega)]; omega)]
    exact ⟨_, _, rfl⟩
  | succ d ih =>
    intro k fu best few La Eh hk hf hw
    obtain ⟨f, rfl⟩ : ∃ f, fu = f + 1 := ⟨fu - 1, by omega⟩
    rw [F_X2_bestAsked_7.eq_2]
    unfold F_X0_total
    obtain ⟨La1, Eh1, r1, r2⟩ := sp_most (La := La) (Eh := Eh) hn (show k < 5 by omega) hI hR hT
    rw [n_b, if_neg (by rw [n_le (by omega) (by omega)]; omega), r1, n_b, n_1]
    unfold sp_ba
    obtain ⟨w, hw0⟩ : ∃ w, w = sp_ml (fun N => sp_so n te hs N m) n k Q (fun _ => 0) 0 := ⟨_, rfl⟩
    show ∃ La' Eh', (if nI (sp_ml (fun N => sp_so n te hs N m) n k Q (fun _ => 0) 0) ≤ 0 then _ else if best = (-1 : Int32) then _ else if nI few ≤ nI (sp_ml (fun N => sp_so n te hs N m) n k Q (fun _ => 0) 0) then _ else _) = some (if sp_ml (fun N => sp_so n te hs N m) n k Q (fun _ => 0) 0 = 0 then _ else if best = (-1 : Int32) ∨ sp_ml (fun N => sp_so n te hs N m) n k Q (fun _ => 0) 0 < few then sp_ba _ d (k + 1) (nI k) (sp_ml (fun N => sp_so n te hs N m) n k Q (fun _ => 0) 0) else _, _, _)
    rw [← hw0] at r2 ⊢
    by_cases c : w = 0
    · rw [if_pos (by rw [c]; decide), if_pos c]
      exact ih (k + 1) f best few _ _ (by omega) (by omega) hw
    · rw [if_neg (show ¬ nI w ≤ (0 : Int32) from nI_nle (by omega) (by omega)), if_neg c]
      by_cases c1 : best = (-1 : Int32)
      · rw [if_pos c1, if_pos (Or.inl c1)]
        exact ih (k + 1) f (nI k) w _ _ (by omega) (by omega) r2
      · rw [if_neg c1]
        by_cases c2 : w < few
        · rw [if_neg (by rw [n_le (by omega) (by omega)]; omega), if_pos (Or.inr c2)]
          exact ih (k + 1) f (nI k) w _ _ (by omega) (by omega) r2
        · rw [if_pos (by rw [n_le (by omega) (by omega)]; omega), if_neg (fun z => z.elim c1 c2)]
          exact ih (k + 1) f best few _ _ (by omega) (by omega) hw
theorem sp_best {n m : Nat} {te hs : Nat → Nat} {Q : List sp_BE} {t tl : Int32} {re st fi ir tt th La Eh : Nat → Int32} (hn : n ≤ 5) (hI : sp_QI n Q) (hR : sp_RL Q t re st fi ir) (hT : sp_TK n m te hs tl tt th) :
    ∃ La' Eh', F_X2_bestAsked (nI n) t re La Eh tl tt th = some (sp_ba (fun b => sp_ml (fun N => sp_so n te hs N m) n b Q (fun _ => 0) 0) n 0 (-1) 0, La', Eh') := by
  unfold F_X2_bestAsked
  exact sp_bestL hn hI hR hT n 0 sw_fu (-1) 0 La Eh (by omega) (by unfold sw_fu; omega) (by omega)
theorem sp_ba0 {W : Nat → Nat} (h : ∀ k, W k = 0) : ∀ d k best few, sp_ba W d k best few = best := by
  intro d
  induction d with
  | zero => intro k best few; rfl
  | succ d ih => intro k best few; unfold sp_ba; rw [if_pos (h k)]; exact ih _ _ _
theorem sp_askML {n m : Nat} {te hs : Nat → Nat} {Q : List sp_BE} {ld tm : Int32} {far fi ln tr : Nat → Int32} (hn : n ≤ 5) (hm : m ≤ 4) (hte : ∀ j, j < m → te j < n ∧ hs j < 32) (hI : sp_QI n Q) (hR : sp_RM Q ld far fi ln) (hT : sp_TM m te hs tm tr) (hW : ∀ b, sp_ml (fun N => sp_so n te hs N m) n b Q (fun _ => 0) 0 ≤ 1297) (hfc : sp_fc (fun N => sp_so n te hs N m) Q 0 ≤ 1297) : ∀ d k fu (best : Int32) (few : Nat) (Pa : Nat → Int32), k + d = n → d < fu → few ≤ 1297 → (sp_fc (fun N => sp_so n te hs N m) Q 0 = 0 → best = (-1 : Int32)) →
    ∃ Pa', F_X6_askOf_6 (nI n) ld tm ln tr fu Pa best (nI few) (nI k) = some (sp_ba (fun b => sp_ml (fun N => sp_so n te hs N m) n b Q (fun _ => 0) 0) d k best few, Pa') := by
  intro d
  induction d with
  | zero =>
    intro k fu best few Pa hk hf hw hb
    obtain ⟨f, rfl⟩ : ∃ f, fu = f + 1 := ⟨fu - 1, by omega⟩
    rw [F_X6_askOf_6.eq_2, if_pos (by rw [n_le (by omega) (by omega)]; omega)]
    exact ⟨_, rfl⟩
  | succ d ih =>
    intro k fu best few Pa hk hf hw hb
    obtain ⟨f, rfl⟩ : ∃ f, fu = f + 1 := ⟨fu - 1, by omega⟩
    have ef : F_X6_fitMany (nI n) ld tm ln tr = some (nI (sp_fc (fun N => sp_so n te hs N m) Q 0)) := sp_fitML hn hm hte hI hR hT 1297 0 sw_fu 0 (by omega) (by unfold sw_fu; omega)
    rw [F_X6_askOf_6.eq_2, if_neg (by rw [n_le (by omega) (by omega)]; omega), ef, n_b]
    by_cases c0 : sp_fc (fun N => sp_so n te hs N m) Q 0 = 0
    · rw [c0, if_pos (by decide), sp_ba0 (fun b => (sp_ml_ge Q (fun _ => 0) 0).2.2 c0)]
      exact ⟨_, rfl⟩
    · rw [if_neg (show ¬ nI _ ≤ (0 : Int32) from nI_nle (by omega) (by omega))]
      obtain ⟨Pa1, r1⟩ := sp_worst (b := k) hn hm (by omega) hte hI hR hT 32 0 sw_fu Pa (by omega) (by unfold sw_fu; omega) (fun x hx => by omega)
      have r1 : F_X6_worstOf (nI n) ld tm ln tr Pa (nI k) = _ := r1
      have hwk := hW k
      have hpos := (sp_ml_ge (P := fun N => sp_so n te hs N m) (n := n) (b := k) Q (fun _ => 0) 0).2.1 (by omega)
      rw [r1, n_b]
      unfold sp_ba
      show ∃ Pa', (if best = (-1 : Int32) then _ else if nI few ≤ nI (sp_ml (fun N => sp_so n te hs N m) n k Q (fun _ => 0) 0) then _ else _) = some (if sp_ml (fun N => sp_so n te hs N m) n k Q (fun _ => 0) 0 = 0 then _ else if best = (-1 : Int32) ∨ sp_ml (fun N => sp_so n te hs N m) n k Q (fun _ => 0) 0 < few then sp_ba _ d (k + 1) (nI k) (sp_ml (fun N => sp_so n te hs N m) n k Q (fun _ => 0) 0) else _, _)
      obtain ⟨w, hw0⟩ : ∃ w, w = sp_ml (fun N => sp_so n te hs N m) n k Q (fun _ => 0) 0 := ⟨_, rfl⟩
      rw [← hw0] at hwk hpos ⊢
      have t1 : F_X6_askOf_44 (F_X6_askOf_6 (nI n) ld tm ln tr f) (nI n) ld tm ln tr Pa1 best (nI few) (nI k) (nI w) 1 = F_X6_askOf_6 (nI n) ld tm ln tr f Pa1 (nI k) (nI w) (nI (k + 1)) := by
        unfold F_X6_askOf_44 F_X6_askOf_56
        rw [if_neg (by decide), if_neg (by decide), n_1]
      have t0 : F_X6_askOf_44 (F_X6_askOf_6 (nI n) ld tm ln tr f) (nI n) ld tm ln tr Pa1 best (nI few) (nI k) (nI w) 0 = F_X6_askOf_6 (nI n) ld tm ln tr f Pa1 best (nI few) (nI (k + 1)) := by
        unfold F_X6_askOf_44 F_X6_askOf_56
        rw [if_pos rfl, if_pos rfl, n_1]
      rw [if_neg (show ¬ w = 0 by omega)]
      by_cases c1 : best = (-1 : Int32)
      · rw [if_pos c1, if_pos (Or.inl c1)]
        dsimp only
        rw [t1]
        exact ih (k + 1) f (nI k) w Pa1 (by omega) (by omega) hwk (fun z => absurd z c0)
      · rw [if_neg c1]
        by_cases c2 : w < few
        · rw [if_neg (by rw [n_le (by omega) (by omega)]; omega), if_pos (Or.inr c2)]
          dsimp only
          rw [t1]
          exact ih (k + 1) f (nI k) w Pa1 (by omega) (by omega) hwk (fun z => absurd z c0)
        · rw [if_pos (by rw [n_le (by omega) (by omega)]; omega), if_neg (fun z => z.elim c1 c2)]
          dsimp only
          rw [t0]
          exact ih (k + 1) f best few Pa1 (by omega) (by omega) hw (fun z => absurd z c0)
theorem sp_fc_le {P : Nat → Bool} : ∀ (r : List sp_BE) (a : Nat), sp_fc P r a ≤ a + r.length := by
  intro r
  induction r with
  | nil => intro a; exact Nat.le_refl _
  | cons e r ih =>
    intro a
    unfold sp_fc
    rw [List.length_cons]
    by_cases c : P e.1 = true
    · rw [if_pos c]; have := ih (a + 1); omega
    · rw [if_neg c]; have := ih a; omega
theorem sp_ml_le {P : Nat → Bool} {n b : Nat} : ∀ (r : List sp_BE) (A : Nat → Nat) (m B : Nat), m ≤ B → (∀ x, A x ≤ B) → sp_ml P n b r A m ≤ B + r.length := by
  intro r
  induction r with
  | nil => intro A m B h1 h2; exact h1
  | cons e r ih =>
    intro A m B h1 h2
    unfold sp_ml
    rw [List.length_cons]
    by_cases c : P e.1 = true
    · rw [if_pos c]
      have h3 := h2 (sp_hd e.1 b n)
      have := ih (fun x => if x = sp_hd e.1 b n then A (sp_hd e.1 b n) + 1 else A x) (if m < A (sp_hd e.1 b n) + 1 then A (sp_hd e.1 b n) + 1 else m) (B + 1) (by
        by_cases q : m < A (sp_hd e.1 b n) + 1
        · rw [if_pos q]; omega
        · rw [if_neg q]; omega) (fun x => by
        show (if x = sp_hd e.1 b n then A (sp_hd e.1 b n) + 1 else A x) ≤ B + 1
        by_cases q : x = sp_hd e.1 b n
        · rw [if_pos q]; omega
        · rw [if_neg q]; have := h2 x; omega)
      omega
    · rw [if_neg c]
      have := ih A m B h1 h2
      omega
theorem sp_askM {n m : Nat} {te hs : Nat → Nat} {Q : List sp_BE} {ld tm : Int32} {far fi ln tr Pa : Nat → Int32} (hn : n ≤ 5) (hm : m ≤ 4) (hte : ∀ j, j < m → te j < n ∧ hs j < 32) (hI : sp_QI n Q) (hR : sp_RM Q ld far fi ln) (hT : sp_TM m te hs tm tr) :
    ∃ Pa', F_X6_askOf (nI n) ld tm ln tr Pa = some (sp_ba (fun b => sp_ml (fun N => sp_so n te hs N m) n b Q (fun _ => 0) 0) n 0 (-1) 0, Pa') := by
  have hl := sp_QI_len hI
  exact sp_askML hn hm hte hI hR hT (fun b => by have := sp_ml_le (P := fun N => sp_so n te hs N m) (n := n) (b := b) Q (fun _ => 0) 0 0 (Nat.le_refl _) (fun _ => Nat.le_refl _); omega) (by have := sp_fc_le (P := fun N => sp_so n te hs N m) Q 0; omega) n 0 sw_fu (-1) 0 Pa (by omega) (by unfold sw_fu; omega) (by omega) (fun _ => rfl)
