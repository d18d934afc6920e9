/-! digest -/
theorem sp_say (h v : Int64) : F_X6_say h v = some ((31 : Int64) * h + v) := rfl
theorem sp_dgC {τ Nh : Nat → Int32} {n N : Nat} {dn pl tl : Int32} {t sn stt : Int32} {re st fi ir La Eh Fh : Nat → Int32} {ld : Int32} {far mf ln Pa : Nat → Int32} (hn : n ≤ 5) (T : sp_T τ n) (H : sp_R Nh N) (hV : sp_V n N) : ∀ d j fu fu' h, j + d = 6 → d < fu → d < fu' →
    ∃ v, F_X5_digest_237 dn (nI n) τ Nh t sn stt re st fi ir La Eh Fh pl tl fu h (nI j) = some (v, t, sn, stt, re, st, fi, ir, La, Eh, Fh) ∧ F_X6_digest_158 pl (nI n) (nI N) dn ld tl τ far mf ln Pa fu' h (nI j) = some (v, ld, v, far, mf, ln, Pa) := by
  intro d
  induction d with
  | zero =>
    intro j fu fu' h hj hf hf'
    obtain ⟨f, rfl⟩ : ∃ f, fu = f + 1 := ⟨fu - 1, by omega⟩
    obtain ⟨f', rfl⟩ : ∃ f, fu' = f + 1 := ⟨fu' - 1, by omega⟩
    obtain rfl : j = 6 := by omega
    rw [F_X5_digest_237.eq_2, F_X6_digest_158.eq_2, if_pos (show (5 : Int32) < nI 6 by decide), if_pos (show (6 : Int32) ≤ nI 6 by decide)]
    exact ⟨_, rfl, rfl⟩
  | succ d ih =>
    intro j fu fu' h hj hf hf'
    obtain ⟨f, rfl⟩ : ∃ f, fu = f + 1 := ⟨fu - 1, by omega⟩
    obtain ⟨f', rfl⟩ : ∃ f, fu' = f + 1 := ⟨fu' - 1, by omega⟩
    rw [F_X5_digest_237.eq_2, F_X6_digest_158.eq_2, if_neg (show ¬ (5 : Int32) < nI j from nI_nlt (b := j) (a := 5) (by omega) (by decide)), if_neg (show ¬ (6 : Int32) ≤ nI j from nI_ge (b := 6) (by omega) (by decide))]
    obtain ⟨v, e1, e2, _⟩ := op_count (dn := dn) (pl := pl) (tl := tl) hn T H hV (nI j)
    rw [e1, e2, n_b, n_b, sp_say, n_b, n_1]
    exact ih (j + 1) f f' _ (by omega) (by omega) (by omega)
theorem sp_dgB {τ Nh pg : Nat → Int32} {n N len : Nat} {dn tl : Int32} {t sn stt : Int32} {re st fi ir La Eh Fh : Nat → Int32} {ld : Int32} {far mf ln Pa : Nat → Int32} (hn : n ≤ 5) (T : sp_T τ n) (H : sp_R Nh N) (hV : sp_V n N) (hl : len ≤ 40) : ∀ d j fu fu' h, j + d = len → d < fu → d < fu' →
    ∃ v, F_X5_digest_199 dn (nI n) τ Nh t sn stt re st fi ir La Eh Fh (nI len) pg tl fu h (nI j) = some (v, t, sn, stt, re, st, fi, ir, La, Eh, Fh) ∧ F_X6_digest_131 (nI len) (nI n) (nI N) dn ld tl pg τ far mf ln Pa fu' h (nI j) = some (v, ld, v, far, mf, ln, Pa) := by
  intro d
  induction d with
  | zero =>
    intro j fu fu' h hj hf hf'
    obtain ⟨f, rfl⟩ : ∃ f, fu = f + 1 := ⟨fu - 1, by omega⟩
    obtain ⟨f', rfl⟩ : ∃ f, fu' = f + 1 := ⟨fu' - 1, by omega⟩
    obtain rfl : j = len := by omega
    have q : nI j ≤ nI j := nI_le (Nat.le_refl j) (by omega)
    rw [F_X5_digest_199.eq_2, F_X6_digest_131.eq_2]
    unfold F_X3_length
    rw [n_b, if_pos q, if_pos q]
    exact sp_dgC hn T H hV 6 0 sw_fu sw_fu h (by omega) (by unfold sw_fu; omega) (by unfold sw_fu; omega)
  | succ d ih =>
    intro j fu fu' h hj hf hf'
    obtain ⟨f, rfl⟩ : ∃ f, fu = f + 1 := ⟨fu - 1, by omega⟩
    obtain ⟨f', rfl⟩ : ∃ f, fu' = f + 1 := ⟨fu' - 1, by omega⟩
    have q : ¬ nI len ≤ nI j := nI_ge (by omega) (by omega)
    rw [F_X5_digest_199.eq_2, F_X6_digest_131.eq_2]
    unfold F_X3_length F_X3_letterAt
    rw [n_b, if_neg q, if_neg q, if_neg (nI_pos (by omega)), if_neg (show ¬ (40 : Int32) ≤ nI j from nI_ge (b := 40) (by omega) (by decide)), n_ix (by omega) (by decide), n_ix (by omega) (by decide), n_cl (by omega), n_b, sp_say, n_b, n_1]
    exact ih (j + 1) f f' _ (by omega) (by omega) (by omega)
theorem sp_dgI {τ Nh pg : Nat → Int32} {n N b : Nat} {dn tl tm : Int32} {t sn stt pl : Int32} {re st fi ir La Fh tt th tr : Nat → Int32} {ld : Int32} {far mf ln Pa : Nat → Int32}
    {k17 : (Nat → Int32) → Int64 → Int32 → Option (Int64 × Int32 × Int32 × Int32 × (Nat → Int32) × (Nat → Int32) × (Nat → Int32) × (Nat → Int32) × (Nat → Int32) × (Nat → Int32) × (Nat → Int32))}
    {k13 : Int64 → Int32 → Option (Int64 × Int32 × Int64 × (Nat → Int32) × (Nat → Int32) × (Nat → Int32) × (Nat → Int32))}
    (hn : n ≤ 5) (T : sp_T τ n) (H : sp_R Nh N) (hV : sp_V n N) (hb : b < n) (hRL : sp_RL (sp_bf τ n N) t re st fi ir) (hRM : sp_RM (sp_bf τ n N) ld far mf ln) : ∀ d j fu fu' h (Eh : Nat → Int32), j + d = 8 → d < fu → d < fu' →
    ∃ v Eh', F_X5_digest_31 k17 dn (nI n) τ Nh t sn stt re st fi ir La Eh Fh pl pg tl tt th (nI b) fu h (nI j) = k17 Eh' v (nI (b + 1)) ∧ F_X6_digest_23 k13 pl (nI n) (nI N) dn ld tm pg τ far mf ln tr Pa (nI b) fu' h (nI j) = k13 v (nI (b + 1)) := by
  have hI := sp_bf_QI (τ := τ) hn hV
  intro d
  induction d with
  | zero =>
    intro j fu fu' h Eh hj hf hf'
    obtain ⟨f, rfl⟩ : ∃ f, fu = f + 1 := ⟨fu - 1, by omega⟩
    obtain ⟨f', rfl⟩ : ∃ f, fu' = f + 1 := ⟨fu' - 1, by omega⟩
    obtain rfl : j = 8 := by omega
    rw [F_X5_digest_31.eq_2, F_X6_digest_23.eq_2, if_pos (show (7 : Int32) < nI 8 by decide), if_pos (show (8 : Int32) ≤ nI 8 by decide)]
    have eS := sp_mostML (b := b) hI hRM (by omega) 1297 0 sw_fu 0 (by omega) (by unfold sw_fu; omega) (by omega)
    obtain ⟨Eh2, eP⟩ := sp_mostL (b := b) hI hRL (by omega) 1297 0 sw_fu 0 Eh (by omega) (by unfold sw_fu; omega) (by omega)
    unfold F_X2_mostWalls F_X6_deepest
    have z0 : (0 : Int32) = nI 0 := rfl
    rw [← z0] at eS eP
    rw [eS, eP, n_b, n_b, sp_say, n_b, n_1]
    exact ⟨_, _, rfl, rfl⟩
  | succ d ih =>
    intro j fu fu' h Eh hj hf hf'
    obtain ⟨f, rfl⟩ : ∃ f, fu = f + 1 := ⟨fu - 1, by omega⟩
    obtain ⟨f', rfl⟩ : ∃ f, fu' = f + 1 := ⟨fu' - 1, by omega⟩
    rw [F_X5_digest_31.eq_2, F_X6_digest_23.eq_2, if_neg (show ¬ (7 : Int32) < nI j from nI_nlt (b := j) (a := 7) (by omega) (by decide)), if_neg (show ¬ (8 : Int32) ≤ nI j from nI_ge (b := 8) (by omega) (by decide))]
    obtain ⟨v, e1, _, e2⟩ := op_about hn T H hV (nI b) (nI j)
    rw [e1, e2 b hb rfl, n_b, n_b, sp_say, n_b, n_1]
    exact ih (j + 1) f f' _ Eh (by omega) (by omega) (by omega)
theorem sp_dgA {τ Nh pg : Nat → Int32} {n N len m : Nat} {te hs : Nat → Nat} {dn tl : Int32} {t sn stt : Int32} {re st fi ir La Fh tt th tr : Nat → Int32} {ld : Int32} {far mf ln Pa : Nat → Int32}
    (hn : n ≤ 5) (T : sp_T τ n) (H : sp_R Nh N) (hV : sp_V n N) (hl : len ≤ 40) (hRL : sp_RL (sp_bf τ n N) t re st fi ir) (hRM : sp_RM (sp_bf τ n N) ld far mf ln) (hK : sp_TK n m te hs tl tt th) (hM : sp_TM m te hs tl tr) : ∀ d b fu fu' h (Eh : Nat → Int32), b + d = n → d < fu → d < fu' →
    ∃ v La' Eh' b1 b2 b3 b4 b5 b6, F_X5_digest_17 dn (nI n) τ Nh t sn stt re st fi ir La Fh (nI len) pg tl tt th fu Eh h (nI b) = some (v, t, sn, stt, re, st, fi, ir, La', Eh', Fh) ∧ F_X6_digest_13 (nI len) (nI n) (nI N) dn ld tl pg τ far mf ln tr Pa fu' h (nI b) = some (v, b1, b2, b3, b4, b5, b6) := by
  have hI := sp_bf_QI (τ := τ) hn hV
  have hQ := sp_QI_len hI
  intro d
  induction d with
  | zero =>
    intro b fu fu' h Eh hj hf hf'
    obtain ⟨f, rfl⟩ : ∃ f, fu = f + 1 := ⟨fu - 1, by omega⟩
    obtain ⟨f', rfl⟩ : ∃ f, fu' = f + 1 := ⟨fu' - 1, by omega⟩
    obtain rfl : b = n := by omega
    obtain ⟨hA, hA2⟩ := sp_all b (by omega)
    have q : nI b ≤ nI b := nI_le (Nat.le_refl b) (by omega)
    rw [F_X5_digest_17.eq_2, F_X6_digest_13.eq_2]
    unfold F_X0_total F_X0_all F_X2_total F_X2_placeWhereOut F_X2_fitting F_X6_fitMany
    rw [n_b, if_pos q, if_pos q, n_b, hA]
    obtain ⟨p, Eh2, eP, hp⟩ := sp_pwoL hI hRL hA2 1297 0 sw_fu Eh (by omega) (by unfold sw_fu; omega)
    have hte : ∀ j, j < m → te j < b ∧ hs j < 32 := fun j hj => ⟨(hK.2.2 j hj).1, (hK.2.2 j hj).2.1⟩
    have eF := sp_fitML hn hK.2.1 hte hI hRM hM 1297 0 sw_fu 0 (by omega) (by unfold sw_fu; omega)
    obtain ⟨Eh3, eG⟩ := sp_fitL hn hI hRL hK 1297 0 sw_fu 0 Eh2 (by omega) (by unfold sw_fu; omega)
    obtain ⟨La2, Eh4, eB⟩ := sp_best (La := La) (Eh := Eh3) hn hI hRL hK
    obtain ⟨Pa2, eK⟩ := sp_askM (Pa := Pa) hn hK.2.1 hte hI hRM hM
    obtain ⟨ld1, far1, mf1, ln1, eL1, hR1⟩ := sp_lay (ld := ld) (far := far) (fi := mf) (ln := ln) hn T hV
    obtain ⟨ld2, far2, mf2, ln2, eL2, hR2⟩ := sp_lay (ld := ld1) (far := far1) (fi := mf1) (ln := ln1) hn T hV
    have eS1 := sp_soonL (w := 0) hI hR1 hA2 1297 0 sw_fu (by omega) (by unfold sw_fu; omega)
    have eS2 := sp_soonL (w := 1) hI hR2 hA2 1297 0 sw_fu (by omega) (by unfold sw_fu; omega)
    have z0 : (0 : Int32) = nI 0 := rfl
    rw [← z0] at eP eF eG eS1 eS2
    have eO1 := (show F_X6_soonestOf (nI b) (nI N) ld τ far mf ln (nI (2 ^ b - 1)) 0 = F_X6_soonestOf_6 ld1 far1 mf1 ln1 (nI (2 ^ b - 1)) 0 sw_fu 0 by
      unfold F_X6_soonestOf
      rw [eL1, n_b]).trans eS1
    have eO2 := (show F_X6_soonestOf (nI b) (nI N) ld1 τ far1 mf1 ln1 (nI (2 ^ b - 1)) 1 = F_X6_soonestOf_6 ld2 far2 mf2 ln2 (nI (2 ^ b - 1)) 1 sw_fu 0 by
      unfold F_X6_soonestOf
      rw [eL2, n_b]).trans eS2
    rw [eP, n_b, sp_num H hV.1, n_b, n_b]
    dsimp only
    rw [eG, n_b]
    dsimp only
    rw [eB, n_b]
    dsimp only
    rw [sp_say, n_b, sp_say, n_b, eF, n_b, sp_say, n_b, eK, n_b]
    dsimp only
    rw [sp_say, n_b, eO1, n_b]
    dsimp only
    rw [sp_say, n_b, eO2, n_b]
    dsimp only
    rw [sp_say, n_b]
    have i0 : ∀ x y : Int32, (if (0 : Int32) = 0 then x else y) = x := fun x y => if_pos rfl
    have i1 : ∀ x y : Int32, (if (1 : Int32) = 0 then x else y) = y := fun x y => if_neg n_10
    simp only [i0, i1]
    have eLd : ld = t := by rw [hRM.1, hRL.1]
    subst eLd
    rcases hp with ⟨hp, hg⟩ | ⟨j, e, hp, he, hg⟩
    · rw [hp, sp_at2N, n_b, sp_at3N, n_b, hg, hg]
      obtain ⟨v, e1, e2⟩ := sp_dgB (dn := dn) (tl := tl) (t := ld) (sn := sn) (stt := stt) (re := re) (st := st) (fi := fi) (ir := ir) (La := La2) (Eh := Eh4) (Fh := Fh) (ld := ld2) (far := far2) (mf := mf2) (ln := ln2) (Pa := Pa2) (pg := pg) hn T H hV hl len 0 sw_fu sw_fu _ (by omega) (by unfold sw_fu; omega) (by unfold sw_fu; omega)
      exact ⟨v, _, _, _, _, _, _, _, _, e1, e2⟩
    · have := sp_getlt he
      rw [hp, sp_at2 (by omega), n_b, sp_at3 (by omega), n_b, hg, hg, (hRL.2.1 j e he).2.1, (hRL.2.1 j e he).2.2]
      obtain ⟨v, e1, e2⟩ := sp_dgB (dn := dn) (tl := tl) (t := ld) (sn := sn) (stt := stt) (re := re) (st := st) (fi := fi) (ir := ir) (La := La2) (Eh := Eh4) (Fh := Fh) (ld := ld2) (far := far2) (mf := mf2) (ln := ln2) (Pa := Pa2) (pg := pg) hn T H hV hl len 0 sw_fu sw_fu _ (by omega) (by unfold sw_fu; omega) (by unfold sw_fu; omega)
      exact ⟨v, _, _, _, _, _, _, _, _, e1, e2⟩
  | succ d ih =>
    intro b fu fu' h Eh hj hf hf'
    obtain ⟨f, rfl⟩ : ∃ f, fu = f + 1 := ⟨fu - 1, by omega⟩
    obtain ⟨f', rfl⟩ : ∃ f, fu' = f + 1 := ⟨fu' - 1, by omega⟩
    have q : ¬ nI n ≤ nI b := nI_ge (by omega) (by omega)
    rw [F_X5_digest_17.eq_2, F_X6_digest_13.eq_2]
    unfold F_X0_total
    rw [n_b, if_neg q, if_neg q]
    obtain ⟨v, Eh', e1, e2⟩ := sp_dgI (pg := pg) (dn := dn) (tl := tl) (tm := tl) (sn := sn) (stt := stt) (pl := nI len) (La := La) (Fh := Fh) (tt := tt) (th := th) (tr := tr) (Pa := Pa)
      (k17 := F_X5_digest_17 dn (nI n) τ Nh t sn stt re st fi ir La Fh (nI len) pg tl tt th f)
      (k13 := F_X6_digest_13 (nI len) (nI n) (nI N) dn ld tl pg τ far mf ln tr Pa f')
      hn T H hV (by omega : b < n) hRL hRM 8 0 sw_fu sw_fu h Eh (by omega) (by unfold sw_fu; omega) (by unfold sw_fu; omega)
    have z0 : (0 : Int32) = nI 0 := rfl
    rw [← z0] at e1 e2
    rw [e1, e2]
    exact ih (b + 1) f f' v Eh' (by omega) (by omega) (by omega)
theorem op_digest {τ Nh pg : Nat → Int32} {n N len m : Nat} {te hs : Nat → Nat} {dn tl tm : Int32} {t sn stt ld : Int32} {hh : Int64} {re st fi ir La Eh Fh far mf ln tt th tr Pa : Nat → Int32} (hn : n ≤ 5) (T : sp_T τ n) (H : sp_R Nh N) (hV : sp_V n N) (hC : sp_LC τ n t sn stt re st fi ir) (hl : len ≤ 40) (hK : sp_TK n m te hs tl tt th) (hM : sp_TM m te hs tm tr) :
    ∃ v t' sn' stt' re' st' fi' ir' La' Eh' Fh' b1 b2 b3 b4 b5 b6, F_X5_digest dn (nI n) τ Nh t sn stt re st fi ir La Eh Fh (nI len) pg tl tt th = some (v, t', sn', stt', re', st', fi', ir', La', Eh', Fh') ∧ F_X6_digest (nI len) (nI n) (nI N) dn ld tm hh pg τ far mf ln tr Pa = some (v, b1, b2, b3, b4, b5, b6) ∧ sp_LC τ n t' sn' stt' re' st' fi' ir' := by
  have etm : tm = tl := by rw [hM.1, hK.1]
  subst etm
  obtain ⟨t', re', st', fi', ir', Eh', Fh', eL, hRL, hC'⟩ := sp_look (Eh := Eh) (Fh := Fh) hn T H hV hC
  obtain ⟨ld', far', mf', ln', eM, hRM⟩ := sp_lay (ld := ld) (far := far) (fi := mf) (ln := ln) hn T hV
  unfold F_X5_digest F_X6_digest
  rw [eL, eM, n_b, n_b]
  dsimp only
  obtain ⟨v, La', Eh2, b1, b2, b3, b4, b5, b6, e1, e2⟩ := sp_dgA (pg := pg) (dn := dn) (sn := nI N) (stt := nI n) (La := La) (Fh := Fh') (Pa := Pa) hn T H hV hl hRL hRM hK hM n 0 sw_fu sw_fu 709 Eh' (by omega) (by unfold sw_fu; omega) (by unfold sw_fu; omega)
  have z0 : (0 : Int32) = nI 0 := rfl
  rw [← z0] at e1 e2
  exact ⟨v, _, _, _, _, _, _, _, _, _, _, _, _, _, _, _, _, e1, e2, hC'⟩
