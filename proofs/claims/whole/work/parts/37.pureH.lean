/-! pure: all nestings that can come, as a list in the order in which they are reached: (number, by how few deeds, the first deed) -/
abbrev sp_BE : Type := Nat × Int32 × Int32
def sp_ad (Q : List sp_BE) (x : sp_BE) : List sp_BE := if x.1 ∈ Q.map Prod.fst then Q else Q ++ [x]
def sp_nw (e : sp_BE) (d M : Nat) : sp_BE := (M, e.2.1 + 1, if e.2.2 = (-1 : Int32) then nI d else e.2.2)
def sp_b1 (τ : Nat → Int32) (n : Nat) (e : sp_BE) (d : Nat) (Q : List sp_BE) : List sp_BE := if sp_K n d = true then (match sp_nx τ n e.1 d with
  | none => Q
  | some M => sp_ad Q (sp_nw e d M)) else Q
def sp_b2 (τ : Nat → Int32) (n : Nat) (e : sp_BE) : Nat → List sp_BE → List sp_BE
  | 0, Q => Q
  | k + 1, Q => sp_b2 τ n e k (sp_b1 τ n e (44 - k) Q)
def sp_b3 (τ : Nat → Int32) (n : Nat) : Nat → Nat → List sp_BE → List sp_BE
  | 0, _, Q => Q
  | f + 1, i, Q => match Q[i]? with
    | none => Q
    | some e => sp_b3 τ n f (i + 1) (sp_b2 τ n e 45 Q)
/-- all that can come from N -/
def sp_bf (τ : Nat → Int32) (n N : Nat) : List sp_BE := sp_b3 τ n 1298 0 [(N, 0, -1)]
def sp_QI (n : Nat) (Q : List sp_BE) : Prop := (∀ i e, Q[i]? = some e → sp_V n e.1 ∧ (∃ s, s ≤ i ∧ e.2.1 = nI s) ∧ (e.2.2 = (-1 : Int32) ↔ i = 0)) ∧ (Q.map Prod.fst).Nodup
theorem sp_nd_le {l : List Nat} : ∀ {l' : List Nat}, l.Nodup → (∀ x, x ∈ l → x ∈ l') → l.length ≤ l'.length := by
  induction l with
  | nil => intro l' _ _; exact Nat.zero_le _
  | cons a l ih =>
    intro l' hn hs
    rw [List.nodup_cons] at hn
    have ha := hs a List.mem_cons_self
    have h1 := ih (l' := l'.erase a) hn.2 (fun x hx => by
      have hxa : x ≠ a := fun e => hn.1 (e ▸ hx)
      exact (List.mem_erase_of_ne hxa).mpr (hs x (List.mem_cons_of_mem _ hx)))
    have h2 := List.length_erase_of_mem ha
    have h3 : 0 < l'.length := List.length_pos_of_mem ha
    rw [List.length_cons]
    omega
theorem sp_QI_len {n : Nat} {Q : List sp_BE} (h : sp_QI n Q) : Q.length ≤ 1296 := by
  have h1 : (Q.map Prod.fst).length ≤ ((List.range 7776).filter sp_ac).length := sp_nd_le h.2 (fun x hx => by
    obtain ⟨e, he, rfl⟩ := List.mem_map.mp hx
    obtain ⟨i, hi⟩ := List.getElem?_of_mem he
    have hV := (h.1 i e hi).1
    exact List.mem_filter.mpr ⟨List.mem_range.mpr hV.1, sp_ac_V hV⟩)
  rw [sp_1296, List.length_map] at h1
  exact h1
theorem sp_ad_x {Q : List sp_BE} {x : sp_BE} {i : Nat} {e : sp_BE} (h : Q[i]? = some e) : (sp_ad Q x)[i]? = some e := by
  unfold sp_ad
  by_cases c : x.1 ∈ Q.map Prod.fst
  · rw [if_pos c]; exact h
  · rw [if_neg c, List.getElem?_append_left (List.getElem?_eq_some_iff.mp h).1]; exact h
theorem sp_ad_QI {n d i M : Nat} {Q : List sp_BE} {e : sp_BE} (h : sp_QI n Q) (he : Q[i]? = some e) (hV : sp_V n M) (hd : d < 45) : sp_QI n (sp_ad Q (sp_nw e d M)) := by
  unfold sp_ad
  by_cases c : (sp_nw e d M).1 ∈ Q.map Prod.fst
  · rw [if_pos c]; exact h
  · rw [if_neg c]
    have hi := (List.getElem?_eq_some_iff.mp he).1
    refine ⟨fun j x hj => ?_, ?_⟩
    · by_cases q : j < Q.length
      · rw [List.getElem?_append_left q] at hj
        exact h.1 j x hj
      · rw [List.getElem?_append_right (by omega)] at hj
        have hz : j - Q.length < 1 := (List.getElem?_eq_some_iff.mp hj).1
        rw [show j - Q.length = 0 by omega] at hj
        cases hj
        obtain ⟨-, ⟨s, s1, s2⟩, s3⟩ := h.1 i e he
        refine ⟨hV, ⟨s + 1, by omega, by unfold sp_nw; rw [s2, n_1]⟩, ?_⟩
        unfold sp_nw
        constructor
        · intro z
          by_cases q2 : e.2.2 = (-1 : Int32)
          · have z : nI d = (-1 : Int32) := by simpa [q2] using z
            exact absurd z ((show ∀ d, d < 45 → ¬ nI d = (-1 : Int32) by decide +kernel) d hd)
          · have z : e.2.2 = (-1 : Int32) := by simpa [q2] using z
            exact absurd z q2
        · intro z; omega
    · rw [List.map_append, List.nodup_append]
      refine ⟨h.2, by simp, fun a ha b hb => ?_⟩
      simp only [List.map_cons, List.map_nil, List.mem_singleton] at hb
      rw [hb]
      exact fun z => c (z ▸ ha)
theorem sp_b1_QI {τ : Nat → Int32} {n d i : Nat} {Q : List sp_BE} {e : sp_BE} (hn : n ≤ 5) (h : sp_QI n Q) (he : Q[i]? = some e) : sp_QI n (sp_b1 τ n e d Q) ∧ (sp_b1 τ n e d Q)[i]? = some e := by
  unfold sp_b1
  by_cases k : sp_K n d = true
  · rw [if_pos k]
    cases hx : sp_nx τ n e.1 d with
    | none => exact ⟨h, he⟩
    | some M => exact ⟨sp_ad_QI h he (sp_nx_V hn (h.1 i e he).1 k hx) (sp_K3 k), sp_ad_x he⟩
  · rw [if_neg k]; exact ⟨h, he⟩
theorem sp_b2_QI {τ : Nat → Int32} {n i : Nat} {e : sp_BE} (hn : n ≤ 5) : ∀ k (Q : List sp_BE), sp_QI n Q → Q[i]? = some e → sp_QI n (sp_b2 τ n e k Q) ∧ (sp_b2 τ n e k Q)[i]? = some e := by
  intro k
  induction k with
  | zero => intro Q h he; exact ⟨h, he⟩
  | succ k ih =>
    intro Q h he
    unfold sp_b2
    obtain ⟨h1, h2⟩ := sp_b1_QI (τ := τ) (d := 44 - k) hn h he
    exact ih _ h1 h2
theorem sp_b3_QI {τ : Nat → Int32} {n : Nat} (hn : n ≤ 5) : ∀ f i (Q : List sp_BE), sp_QI n Q → sp_QI n (sp_b3 τ n f i Q) := by
  intro f
  induction f with
  | zero => intro i Q h; exact h
  | succ f ih =>
    intro i Q h
    unfold sp_b3
    cases he : Q[i]? with
    | none => exact h
    | some e => exact ih _ _ (sp_b2_QI hn 45 Q h he).1
theorem sp_QI_0 {n N : Nat} (hV : sp_V n N) : sp_QI n [(N, 0, -1)] := by
  refine ⟨fun i e hi => ?_, by simp⟩
  have hz : i < 1 := (List.getElem?_eq_some_iff.mp hi).1
  rw [show i = 0 by omega] at hi ⊢
  cases hi
  exact ⟨hV, ⟨0, Nat.le_refl _, rfl⟩, fun _ => rfl, fun _ => rfl⟩
theorem sp_bf_QI {τ : Nat → Int32} {n N : Nat} (hn : n ≤ 5) (hV : sp_V n N) : sp_QI n (sp_bf τ n N) := sp_b3_QI hn _ _ _ (sp_QI_0 hV)
/-- the class's rows hold the list -/
def sp_RL (Q : List sp_BE) (t : Int32) (re st fi ir : Nat → Int32) : Prop := t = nI Q.length ∧ (∀ i e, Q[i]? = some e → re i = nI e.1 ∧ st i = e.2.1 ∧ fi i = e.2.2) ∧ ∀ x, x < 7776 → ir x = if x ∈ Q.map Prod.fst then 1 else 0
theorem sp_reach {Q : List sp_BE} {t : Int32} {re st fi ir : Nat → Int32} {x : sp_BE} (hx : x.1 < 7776) (h : sp_RL Q t re st fi ir) (hl : (sp_ad Q x).length ≤ 1296) :
    ∃ t' re' st' fi' ir', F_X2_reach t re st fi ir (nI x.1) x.2.1 x.2.2 = some (t', re', st', fi', ir') ∧ sp_RL (sp_ad Q x) t' re' st' fi' ir' := by
  obtain ⟨h1, h2, h3⟩ := h
  unfold sp_ad at hl ⊢
  unfold F_X2_reach
  rw [if_neg (nI_pos (by omega)), if_neg (by rw [n_le7776 (by omega)]; omega), n_ix hx (by decide), n_cl (by omega), h3 _ hx]
  by_cases c : x.1 ∈ Q.map Prod.fst
  · rw [if_pos c, if_pos c, if_neg (by decide)]
    exact ⟨_, _, _, _, _, rfl, h1, h2, h3⟩
  · rw [if_neg c] at hl
    rw [List.length_append, List.length_singleton] at hl
    rw [if_neg c, if_neg c, if_pos rfl, h1, if_neg (nI_pos (by omega)), if_neg (by rw [n_le1296 (by omega)]; omega), if_neg (by rw [n_le1296 (by omega)]; omega), if_pos (show nI Q.length < (1296 : Int32) from nI_lt (b := 1296) (by omega) (by decide)), n_ix hx (by decide), n_ix (by omega) (by decide), n_ix (by omega) (by decide), n_ix (by omega) (by decide), n_cl (by omega), n_1]
    refine ⟨_, _, _, _, _, rfl, by rw [List.length_append, List.length_singleton], fun i e hi => ?_, fun y hy => ?_⟩
    · by_cases q : i < Q.length
      · rw [List.getElem?_append_left q] at hi
        have := h2 i e hi
        unfold upd
        rw [if_neg (by omega), if_neg (by omega), if_neg (by omega)]
        exact this
      · rw [List.getElem?_append_right (by omega)] at hi
        have hz : i - Q.length < 1 := (List.getElem?_eq_some_iff.mp hi).1
        rw [show i - Q.length = 0 by omega] at hi
        cases hi
        unfold upd
        rw [if_pos (by omega), if_pos (by omega), if_pos (by omega)]
        exact ⟨rfl, rfl, rfl⟩
    · unfold upd
      by_cases q : y = x.1
      · rw [if_pos q, if_pos (by rw [List.map_append, List.mem_append]; right; rw [q]; simp)]
      · rw [if_neg q, h3 y hy]
        by_cases q2 : y ∈ Q.map Prod.fst
        · rw [if_pos q2, if_pos (by rw [List.map_append, List.mem_append]; exact Or.inl q2)]
        · rw [if_neg q2, if_neg]
          rw [List.map_append, List.mem_append]
          rintro (z | z)
          · exact q2 z
          · simp at z; exact q z
