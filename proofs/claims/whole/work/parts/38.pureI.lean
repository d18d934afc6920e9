/-! pure: the class looks -/
theorem sp_spreadL {τ E : Nat → Int32} {n i : Nat} {e : sp_BE} (hn : n ≤ 5) (T : sp_T τ n) (HE : sp_R E e.1) (hV : sp_V n e.1) : ∀ k fu (Q : List sp_BE) (t : Int32) (re st fi ir Fh : Nat → Int32), k ≤ 45 → k < fu → sp_QI n Q → Q[i]? = some e → sp_RL Q t re st fi ir →
    ∃ t' re' st' fi' ir' Fh', F_X2_spread_29 (nI n) τ E (e.2.1 + 1) e.2.2 fu t re st fi ir Fh (nI (45 - k)) = some (t', re', st', fi', ir', E, Fh') ∧ sp_RL (sp_b2 τ n e k Q) t' re' st' fi' ir' := by
  intro k
  induction k with
  | zero =>
    intro fu Q t re st fi ir Fh hk hf hI he hR
    obtain ⟨f, rfl⟩ : ∃ f, fu = f + 1 := ⟨fu - 1, by omega⟩
    rw [F_X2_spread_29.eq_2, if_pos (by rw [n_le45 (by omega)]; omega)]
    exact ⟨_, _, _, _, _, _, rfl, hR⟩
  | succ k ih =>
    intro fu Q t re st fi ir Fh hk hf hI he hR
    obtain ⟨f, rfl⟩ : ∃ f, fu = f + 1 := ⟨fu - 1, by omega⟩
    obtain ⟨d, hd⟩ : ∃ d, d = 44 - k := ⟨_, rfl⟩
    have hd45 : d < 45 := by omega
    rw [F_X2_spread_29.eq_2, show 45 - (k + 1) = d by omega, if_neg (by rw [n_le45 (by omega)]; omega), n_1, show d + 1 = 45 - k by omega]
    obtain ⟨g1, g2⟩ := sp_b1_QI (τ := τ) (d := d) hn hI he
    have eb : sp_b2 τ n e (k + 1) Q = sp_b2 τ n e k (sp_b1 τ n e d Q) := by rw [hd]; rfl
    rw [eb]
    have stay : sp_b1 τ n e d Q = Q → ∃ t' re' st' fi' ir' Fh', F_X2_spread_29 (nI n) τ E (e.2.1 + 1) e.2.2 f t re st fi ir Fh (nI (45 - k)) = some (t', re', st', fi', ir', E, Fh') ∧ sp_RL (sp_b2 τ n e k (sp_b1 τ n e d Q)) t' re' st' fi' ir' := by
      intro q
      rw [q]
      exact ih f Q t re st fi ir Fh (by omega) (by omega) hI he hR
    by_cases K : sp_K n d = true
    · rw [sp_allow HE hn T K, n_b]
      cases hx : sp_nx τ n e.1 d with
      | none =>
        rw [if_neg (show ¬ (none : Option Nat).isSome = true by decide), if_pos rfl]
        exact stay (by unfold sp_b1; rw [if_pos K, hx])
      | some M =>
        have hb1 : sp_b1 τ n e d Q = sp_ad Q (sp_nw e d M) := by unfold sp_b1; rw [if_pos K, hx]
        rw [hb1] at g1 g2 ⊢
        have hVM := sp_nx_V hn hV K hx
        rw [if_pos (show (some M).isSome = true from rfl), if_neg (by decide)]
        obtain ⟨q3, e3, R3⟩ := sp_copy (h := Fh) HE
        obtain ⟨q4, e4, R4⟩ := sp_carry R3 hV.1 hn T K hx
        rw [e3, n_b, e4, n_b, sp_num R4 hVM.1, n_b]
        obtain ⟨t', re', st', fi', ir', r1, r2⟩ := sp_reach (x := sp_nw e d M) hVM.1 hR (sp_QI_len g1)
        have r1 : F_X2_reach t re st fi ir (nI M) (e.2.1 + 1) (if e.2.2 = (-1 : Int32) then nI d else e.2.2) = some (t', re', st', fi', ir') := r1
        unfold F_X2_spread_88
        by_cases c : e.2.2 = (-1 : Int32)
        · rw [if_pos c] at r1
          rw [if_pos c, r1, n_b, n_1, show d + 1 = 45 - k by omega]
          exact ih f _ t' re' st' fi' ir' q4 (by omega) (by omega) g1 g2 r2
        · rw [if_neg c] at r1
          rw [if_neg c, r1, n_b, n_1, show d + 1 = 45 - k by omega]
          exact ih f _ t' re' st' fi' ir' q4 (by omega) (by omega) g1 g2 r2
    · rw [sp_allowN hn hd45 K, n_b, if_pos rfl]
      exact stay (by unfold sp_b1; rw [if_neg K])
theorem sp_at1 {re : Nat → Int32} {i : Nat} (hi : i < 1296) : F_X2_reachedAt re (nI i) = some (re i) := by
  unfold F_X2_reachedAt
  rw [if_neg (nI_pos (by omega)), if_neg (by rw [n_le1296 (by omega)]; omega), n_ix hi (by decide), n_cl (by omega)]
theorem sp_at2 {re : Nat → Int32} {i : Nat} (hi : i < 1296) : F_X2_stepsAt re (nI i) = some (re i) := by
  unfold F_X2_stepsAt
  rw [if_neg (nI_pos (by omega)), if_neg (by rw [n_le1296 (by omega)]; omega), n_ix hi (by decide), n_cl (by omega)]
theorem sp_at3 {re : Nat → Int32} {i : Nat} (hi : i < 1296) : F_X2_firstAt re (nI i) = some (re i) := by
  unfold F_X2_firstAt
  rw [if_neg (nI_pos (by omega)), if_neg (by rw [n_le1296 (by omega)]; omega), n_ix hi (by decide), n_cl (by omega)]
theorem sp_spread {τ : Nat → Int32} {n i : Nat} {e : sp_BE} {Q : List sp_BE} {t : Int32} {re st fi ir Eh Fh : Nat → Int32} (hn : n ≤ 5) (T : sp_T τ n) (hI : sp_QI n Q) (he : Q[i]? = some e) (hR : sp_RL Q t re st fi ir) :
    ∃ t' re' st' fi' ir' Eh' Fh', F_X2_spread (nI n) τ t re st fi ir Eh Fh (nI i) = some (t', re', st', fi', ir', Eh', Fh') ∧ sp_RL (sp_b2 τ n e 45 Q) t' re' st' fi' ir' := by
  have hi : i < 1296 := Nat.lt_of_lt_of_le (List.getElem?_eq_some_iff.mp he).1 (sp_QI_len hI)
  obtain ⟨a1, a2, a3⟩ := hR.2.1 i e he
  have hV := (hI.1 i e he).1
  unfold F_X2_spread
  obtain ⟨E, e1, R1⟩ := sp_become (h := Eh) hV.1
  rw [sp_at1 hi, n_b, a1, e1, n_b, sp_at2 hi, n_b, sp_at3 hi, n_b, a2, a3]
  obtain ⟨t', re', st', fi', ir', Fh', r1, r2⟩ := sp_spreadL hn T R1 hV 45 sw_fu Q t re st fi ir Fh (Nat.le_refl _) (by unfold sw_fu; omega) hI he hR
  exact ⟨t', re', st', fi', ir', E, Fh', r1, r2⟩
theorem sp_lookL {τ : Nat → Int32} {n : Nat} {sn stt : Int32} (hn : n ≤ 5) (T : sp_T τ n) : ∀ k i fu g (Q : List sp_BE) (t : Int32) (re st fi ir Eh Fh : Nat → Int32), i + k = 1297 → k < fu → k < g → sp_QI n Q → sp_RL Q t re st fi ir →
    ∃ t' re' st' fi' ir' Eh' Fh', F_X2_lookFrom_82 (nI n) τ sn stt fu t re st fi ir Eh Fh (nI i) = some (t', sn, stt, re', st', fi', ir', Eh', Fh') ∧ sp_RL (sp_b3 τ n g i Q) t' re' st' fi' ir' := by
  intro k
  induction k with
  | zero =>
    intro i fu g Q t re st fi ir Eh Fh hk hf hg hI hR
    obtain ⟨f, rfl⟩ : ∃ f, fu = f + 1 := ⟨fu - 1, by omega⟩
    obtain ⟨g', rfl⟩ : ∃ g', g = g' + 1 := ⟨g - 1, by omega⟩
    have hl := sp_QI_len hI
    have hne : Q[i]? = none := List.getElem?_eq_none (by omega)
    rw [F_X2_lookFrom_82.eq_2, hR.1, if_pos (by rw [n_le (by omega) (by omega)]; omega)]
    unfold sp_b3
    rw [hne]
    exact ⟨_, _, _, _, _, _, _, rfl, hR.1 ▸ hR⟩
  | succ k ih =>
    intro i fu g Q t re st fi ir Eh Fh hk hf hg hI hR
    obtain ⟨f, rfl⟩ : ∃ f, fu = f + 1 := ⟨fu - 1, by omega⟩
    obtain ⟨g', rfl⟩ : ∃ g', g = g' + 1 := ⟨g - 1, by omega⟩
    have hl := sp_QI_len hI
    rw [F_X2_lookFrom_82.eq_2]
    unfold sp_b3
    cases he : Q[i]? with
    | none =>
      have : Q.length ≤ i := by
        rw [List.getElem?_eq_none_iff] at he; exact he
      rw [if_pos (by rw [hR.1, n_le (by omega) (by omega)]; omega)]
      exact ⟨_, _, _, _, _, _, _, rfl, hR⟩
    | some e =>
      have hi := (List.getElem?_eq_some_iff.mp he).1
      rw [if_neg (by rw [hR.1, n_le (by omega) (by omega)]; omega), if_neg (by rw [n_le1296 (by omega)]; omega)]
      obtain ⟨t', re', st', fi', ir', Eh', Fh', r1, r2⟩ := sp_spread (Eh := Eh) (Fh := Fh) hn T hI he hR
      rw [r1, n_b, n_1]
      exact ih (i + 1) f g' _ t' re' st' fi' ir' Eh' Fh' (by omega) (by omega) (by omega) (sp_b2_QI hn 45 Q hI he).1 r2
theorem sp_clearL {τ : Nat → Int32} {n : Nat} {sn stt l2 : Int32} {re st fi Eh Fh : Nat → Int32} : ∀ k i fu (ir : Nat → Int32), i + k = 7776 → k < fu → (∀ x, x < i → ir x = 0) →
    ∃ ir', (∀ x, x < 7776 → ir' x = 0) ∧ F_X2_lookFrom_46 (nI n) τ sn stt re st fi Eh Fh l2 fu ir (nI i) = (F_X2_reach 0 re st fi ir' l2 0 (-1)).bind (fun q2 => F_X2_lookFrom_82 (nI n) τ sn stt sw_fu q2.1 q2.2.1 q2.2.2.1 q2.2.2.2.1 q2.2.2.2.2 Eh Fh 0) := by
  intro k
  induction k with
  | zero =>
    intro i fu ir hk hf h0
    obtain ⟨f, rfl⟩ : ∃ f, fu = f + 1 := ⟨fu - 1, by omega⟩
    rw [F_X2_lookFrom_46.eq_2, if_pos (by rw [n_le7776 (by omega)]; omega)]
    exact ⟨ir, fun x hx => h0 x (by omega), rfl⟩
  | succ k ih =>
    intro i fu ir hk hf h0
    obtain ⟨f, rfl⟩ : ∃ f, fu = f + 1 := ⟨fu - 1, by omega⟩
    rw [F_X2_lookFrom_46.eq_2, if_neg (by rw [n_le7776 (by omega)]; omega), n_ix (by omega) (by decide), n_cl (by omega), n_1]
    refine ih (i + 1) f _ (by omega) (by omega) (fun x hx => ?_)
    unfold upd
    by_cases q : x = i
    · rw [if_pos q]
    · rw [if_neg q]; exact h0 x (by omega)
/-- what the outlook keeps -/
def sp_LC (τ : Nat → Int32) (n : Nat) (t sn stt : Int32) (re st fi ir : Nat → Int32) : Prop := (stt = (-1 : Int32) ∨ ∃ k, k ≤ n ∧ stt = nI k) ∧ ∀ N, sp_V n N → sn = nI N → stt = nI n → sp_RL (sp_bf τ n N) t re st fi ir
theorem sp_look {τ Nh : Nat → Int32} {n N : Nat} {t sn stt : Int32} {re st fi ir Eh Fh : Nat → Int32} (hn : n ≤ 5) (T : sp_T τ n) (H : sp_R Nh N) (hV : sp_V n N) (hC : sp_LC τ n t sn stt re st fi ir) :
    ∃ t' re' st' fi' ir' Eh' Fh', F_X2_lookFrom (nI n) τ Nh t sn stt re st fi ir Eh Fh = some (t', nI N, nI n, re', st', fi', ir', Eh', Fh') ∧ sp_RL (sp_bf τ n N) t' re' st' fi' ir' ∧ sp_LC τ n t' (nI N) (nI n) re' st' fi' ir' := by
  have fin : ∀ {t' re' st' fi' ir'}, sp_RL (sp_bf τ n N) t' re' st' fi' ir' → sp_LC τ n t' (nI N) (nI n) re' st' fi' ir' := by
    intro t' re' st' fi' ir' h
    refine ⟨Or.inr ⟨n, Nat.le_refl n, rfl⟩, fun M hM e _ => ?_⟩
    have h1 := hV.1
    have h2 := hM.1
    have : N = M := (nI_eq (by omega) (by omega)).mp e
    rw [← this]; exact h
  have fresh : ∃ t' re' st' fi' ir' Eh' Fh', F_X2_lookFrom_28 (nI n) τ re st fi ir Eh Fh (nI N) = some (t', nI N, nI n, re', st', fi', ir', Eh', Fh') ∧ sp_RL (sp_bf τ n N) t' re' st' fi' ir' ∧ sp_LC τ n t' (nI N) (nI n) re' st' fi' ir' := by
    unfold F_X2_lookFrom_28 F_X0_total
    rw [n_b]
    obtain ⟨ir0, z, e0⟩ := sp_clearL (τ := τ) (n := n) (sn := nI N) (stt := nI n) (l2 := nI N) (re := re) (st := st) (fi := fi) (Eh := Eh) (Fh := Fh) 7776 0 sw_fu ir (by omega) (by unfold sw_fu; omega) (fun x hx => by omega)
    have e0 : F_X2_lookFrom_46 (nI n) τ (nI N) (nI n) re st fi Eh Fh (nI N) sw_fu ir 0 = _ := e0
    rw [e0]
    obtain ⟨t', re', st', fi', ir', r1, r2⟩ := sp_reach (Q := []) (t := 0) (re := re) (st := st) (fi := fi) (ir := ir0) (x := (N, 0, -1)) hV.1 ⟨rfl, fun i e h => by simp at h, fun x hx => by rw [z x hx]; simp⟩ (by unfold sp_ad; simp)
    have r1 : F_X2_reach 0 re st fi ir0 (nI N) 0 (-1) = some (t', re', st', fi', ir') := r1
    rw [r1, n_b]
    have r2 : sp_RL [(N, 0, -1)] t' re' st' fi' ir' := r2
    obtain ⟨t2, re2, st2, fi2, ir2, E2, F2, s1, s2⟩ := sp_lookL (sn := nI N) (stt := nI n) hn T 1297 0 sw_fu 1298 _ t' re' st' fi' ir' Eh Fh (by omega) (by unfold sw_fu; omega) (by omega) (sp_QI_0 hV) r2
    exact ⟨t2, re2, st2, fi2, ir2, E2, F2, s1, s2, fin s2⟩
  unfold F_X2_lookFrom
  rw [sp_num H hV.1, n_b]
  by_cases c : nI N = sn
  · rw [if_pos c]
    unfold F_X0_total
    rw [n_b]
    by_cases c2 : nI n = stt
    · rw [if_pos c2, ← c, ← c2]
      have h := hC.2 N hV c.symm c2.symm
      exact ⟨t, re, st, fi, ir, Eh, Fh, rfl, h, fin h⟩
    · rw [if_neg c2]; exact fresh
  · rw [if_neg c]; exact fresh
