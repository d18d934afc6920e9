/-! the outlook's operations -/
theorem sp_at2N (st : Nat → Int32) : F_X2_stepsAt st (-1 : Int32) = some (-1) := by unfold F_X2_stepsAt; rw [if_pos (by decide)]
theorem sp_at3N (st : Nat → Int32) : F_X2_firstAt st (-1 : Int32) = some (-1) := by unfold F_X2_firstAt; rw [if_pos (by decide)]
theorem sp_getlt {Q : List sp_BE} {j : Nat} {e : sp_BE} (h : Q[j]? = some e) : j < Q.length := by
  rcases Nat.lt_or_ge j Q.length with h1 | h1
  · exact h1
  · rw [List.getElem?_eq_none h1] at h; exact absurd h (by simp)
theorem op_many {τ Nh : Nat → Int32} {n N : Nat} {t sn stt ld : Int32} {re st fi ir Eh Fh far mf ln : Nat → Int32} (hn : n ≤ 5) (T : sp_T τ n) (H : sp_R Nh N) (hV : sp_V n N) (hC : sp_LC τ n t sn stt re st fi ir) :
    ∃ v t' sn' stt' re' st' fi' ir' Eh' Fh' b1 b2 b3 b4, F_X5_many (nI n) τ Nh t sn stt re st fi ir Eh Fh = some (v, t', sn', stt', re', st', fi', ir', Eh', Fh') ∧ F_X6_many (nI n) (nI N) ld τ far mf ln = some (v, b1, b2, b3, b4) ∧ sp_LC τ n t' sn' stt' re' st' fi' ir' := by
  obtain ⟨t', re', st', fi', ir', Eh', Fh', eL, hRL, hC'⟩ := sp_look (Eh := Eh) (Fh := Fh) hn T H hV hC
  obtain ⟨ld', far', mf', ln', eM, hRM⟩ := sp_lay (ld := ld) (far := far) (fi := mf) (ln := ln) hn T hV
  unfold F_X5_many F_X6_many F_X2_total
  rw [eL, eM, n_b, n_b, n_b]
  dsimp only
  rw [hRM.1, ← hRL.1]
  exact ⟨_, _, _, _, _, _, _, _, _, _, _, _, _, _, rfl, rfl, hC'⟩
theorem op_soonest {τ Nh : Nat → Int32} {n N : Nat} {t sn stt ld : Int32} {re st fi ir Eh Fh far mf ln : Nat → Int32} (hn : n ≤ 5) (T : sp_T τ n) (H : sp_R Nh N) (hV : sp_V n N) (hC : sp_LC τ n t sn stt re st fi ir) (l1 l2 : Int32) :
    ∃ v t' sn' stt' re' st' fi' ir' Eh' Fh' b1 b2 b3 b4, F_X5_soonest (nI n) τ Nh t sn stt re st fi ir Eh Fh l1 l2 = some (v, t', sn', stt', re', st', fi', ir', Eh', Fh') ∧ F_X6_soonest (nI n) (nI N) ld τ far mf ln l1 l2 = some (v, b1, b2, b3, b4) ∧ sp_LC τ n t' sn' stt' re' st' fi' ir' := by
  unfold F_X5_soonest F_X6_soonest
  rcases sp_hasA hn l1 with ⟨S, hS, e, a1, a2⟩ | ⟨a1, a2⟩
  rotate_left
  · rw [a1, a2, n_b, n_b, if_pos rfl, if_pos rfl]
    exact ⟨_, _, _, _, _, _, _, _, _, _, _, _, _, _, rfl, rfl, hC⟩
  subst e
  rw [a1, a2, n_b, n_b, if_neg n_10, if_neg n_10]
  rcases sp_btw2 l2 0 1 0 1 (by decide) (by decide) with ⟨c1, c2, c3, c4⟩ | ⟨c1, c2⟩
  rotate_left
  · rw [c1, c2, n_b, n_b, if_pos rfl, if_pos rfl]
    exact ⟨_, _, _, _, _, _, _, _, _, _, _, _, _, _, rfl, rfl, hC⟩
  rw [c1, c2, n_b, n_b, if_neg n_10, if_neg n_10]
  obtain ⟨t', re', st', fi', ir', Eh', Fh', eL, hRL, hC'⟩ := sp_look (Eh := Eh) (Fh := Fh) hn T H hV hC
  obtain ⟨ld', far', mf', ln', eM, hRM⟩ := sp_lay (ld := ld) (far := far) (fi := mf) (ln := ln) hn T hV
  have hI := sp_bf_QI (τ := τ) hn hV
  have hl := sp_QI_len hI
  unfold F_X6_soonestOf
  rw [eL, eM, n_b, n_b]
  dsimp only
  have eS := sp_soonL (w := l2) hI hRM hS 1297 0 sw_fu (by omega) (by unfold sw_fu; omega)
  obtain ⟨p, Eh2, eP, hp⟩ := sp_pwoL hI hRL hS 1297 0 sw_fu Eh' (by omega) (by unfold sw_fu; omega)
  unfold F_X2_placeWhereOut
  have z0 : (0 : Int32) = nI 0 := rfl
  rw [← z0] at eS eP
  rw [eS, eP, n_b, n_b]
  dsimp only
  by_cases hw : l2 = 0
  · simp only [if_pos hw]
    rcases hp with ⟨hp, hg⟩ | ⟨j, e, hp, he, hg⟩
    · rw [hp, sp_at2N, n_b, hg]
      exact ⟨_, _, _, _, _, _, _, _, _, _, _, _, _, _, rfl, rfl, hC'⟩
    · have := sp_getlt he
      rw [hp, sp_at2 (by omega), n_b, hg, (hRL.2.1 j e he).2.1]
      exact ⟨_, _, _, _, _, _, _, _, _, _, _, _, _, _, rfl, rfl, hC'⟩
  · simp only [if_neg hw]
    rcases hp with ⟨hp, hg⟩ | ⟨j, e, hp, he, hg⟩
    · rw [hp, sp_at3N, n_b, hg]
      exact ⟨_, _, _, _, _, _, _, _, _, _, _, _, _, _, rfl, rfl, hC'⟩
    · have := sp_getlt he
      rw [hp, sp_at3 (by omega), n_b, hg, (hRL.2.1 j e he).2.2]
      exact ⟨_, _, _, _, _, _, _, _, _, _, _, _, _, _, rfl, rfl, hC'⟩
theorem op_together {τ Nh : Nat → Int32} {n N : Nat} {t sn stt ld : Int32} {re st fi ir Eh Fh far mf ln : Nat → Int32} (hn : n ≤ 5) (T : sp_T τ n) (H : sp_R Nh N) (hV : sp_V n N) (hC : sp_LC τ n t sn stt re st fi ir) (l1 l2 : Int32) :
    ∃ v t' sn' stt' re' st' fi' ir' Eh' Fh' b1 b2 b3 b4, F_X5_together (nI n) τ Nh t sn stt re st fi ir Eh Fh l1 l2 = some (v, t', sn', stt', re', st', fi', ir', Eh', Fh') ∧ F_X6_together (nI n) (nI N) ld τ far mf ln l1 l2 = some (v, b1, b2, b3, b4) ∧ sp_LC τ n t' sn' stt' re' st' fi' ir' := by
  unfold F_X5_together F_X6_together
  rcases sp_isB hn l1 with ⟨a, ha, e, a1, a2⟩ | ⟨a1, a2⟩
  rotate_left
  · rw [a1, a2, n_b, n_b, if_pos rfl, if_pos rfl]
    exact ⟨_, _, _, _, _, _, _, _, _, _, _, _, _, _, rfl, rfl, hC⟩
  subst e
  rw [a1, a2, n_b, n_b, if_neg n_10, if_neg n_10]
  rcases sp_isB hn l2 with ⟨b, hb, e, c1, c2⟩ | ⟨c1, c2⟩
  rotate_left
  · rw [c1, c2, n_b, n_b, if_pos rfl, if_pos rfl]
    exact ⟨_, _, _, _, _, _, _, _, _, _, _, _, _, _, rfl, rfl, hC⟩
  subst e
  rw [c1, c2, n_b, n_b, if_neg n_10, if_neg n_10]
  by_cases hab : nI a = nI b
  · rw [if_pos hab, if_pos hab]
    exact ⟨_, _, _, _, _, _, _, _, _, _, _, _, _, _, rfl, rfl, hC⟩
  rw [if_neg hab, if_neg hab]
  obtain ⟨t', re', st', fi', ir', Eh', Fh', eL, hRL, hC'⟩ := sp_look (Eh := Eh) (Fh := Fh) hn T H hV hC
  obtain ⟨ld', far', mf', ln', eM, hRM⟩ := sp_lay (ld := ld) (far := far) (fi := mf) (ln := ln) hn T hV
  have hI := sp_bf_QI (τ := τ) hn hV
  have hl := sp_QI_len hI
  rw [eL, eM, n_b, n_b]
  dsimp only
  have eS := sp_togML (a := a) (b := b) hI hRM (by omega) (by omega) 1297 0 sw_fu (by omega) (by unfold sw_fu; omega)
  obtain ⟨p, Eh2, eP, hp⟩ := sp_togL (a := a) (b := b) hI hRL (by omega) (by omega) 1297 0 sw_fu Eh' (by omega) (by unfold sw_fu; omega)
  unfold F_X2_placeWhereTogether
  have z0 : (0 : Int32) = nI 0 := rfl
  rw [← z0] at eS eP
  rw [eS, eP, n_b]
  dsimp only
  rcases hp with ⟨hp, hg⟩ | ⟨j, e, hp, he, hg⟩
  · rw [hp, sp_at2N, n_b, hg]
    exact ⟨_, _, _, _, _, _, _, _, _, _, _, _, _, _, rfl, rfl, hC'⟩
  · have := sp_getlt he
    rw [hp, sp_at2 (by omega), n_b, hg, (hRL.2.1 j e he).2.1]
    exact ⟨_, _, _, _, _, _, _, _, _, _, _, _, _, _, rfl, rfl, hC'⟩
theorem op_deep {τ Nh : Nat → Int32} {n N : Nat} {t sn stt ld : Int32} {re st fi ir Eh Fh far mf ln : Nat → Int32} (hn : n ≤ 5) (T : sp_T τ n) (H : sp_R Nh N) (hV : sp_V n N) (hC : sp_LC τ n t sn stt re st fi ir) (l1 : Int32) :
    ∃ v t' sn' stt' re' st' fi' ir' Eh' Fh' b1 b2 b3 b4, F_X5_deep (nI n) τ Nh t sn stt re st fi ir Eh Fh l1 = some (v, t', sn', stt', re', st', fi', ir', Eh', Fh') ∧ F_X6_deep (nI n) (nI N) ld τ far mf ln l1 = some (v, b1, b2, b3, b4) ∧ sp_LC τ n t' sn' stt' re' st' fi' ir' := by
  unfold F_X5_deep F_X6_deep
  rcases sp_isB hn l1 with ⟨a, ha, e, a1, a2⟩ | ⟨a1, a2⟩
  rotate_left
  · rw [a1, a2, n_b, n_b, if_pos rfl, if_pos rfl]
    exact ⟨_, _, _, _, _, _, _, _, _, _, _, _, _, _, rfl, rfl, hC⟩
  subst e
  rw [a1, a2, n_b, n_b, if_neg n_10, if_neg n_10]
  obtain ⟨t', re', st', fi', ir', Eh', Fh', eL, hRL, hC'⟩ := sp_look (Eh := Eh) (Fh := Fh) hn T H hV hC
  obtain ⟨ld', far', mf', ln', eM, hRM⟩ := sp_lay (ld := ld) (far := far) (fi := mf) (ln := ln) hn T hV
  have hI := sp_bf_QI (τ := τ) hn hV
  rw [eL, eM, n_b, n_b]
  dsimp only
  have eS := sp_mostML (b := a) hI hRM (by omega) 1297 0 sw_fu 0 (by omega) (by unfold sw_fu; omega) (by omega)
  obtain ⟨Eh2, eP⟩ := sp_mostL (b := a) hI hRL (by omega) 1297 0 sw_fu 0 Eh' (by omega) (by unfold sw_fu; omega) (by omega)
  unfold F_X2_mostWalls F_X6_deepest
  have z0 : (0 : Int32) = nI 0 := rfl
  rw [← z0] at eS eP
  rw [eS, eP, n_b, n_b]
  exact ⟨_, _, _, _, _, _, _, _, _, _, _, _, _, _, rfl, rfl, hC'⟩
theorem op_nesting {τ Nh : Nat → Int32} {n N : Nat} {t sn stt ld : Int32} {re st fi ir Eh Fh far mf ln : Nat → Int32} (hn : n ≤ 5) (T : sp_T τ n) (H : sp_R Nh N) (hV : sp_V n N) (hC : sp_LC τ n t sn stt re st fi ir) (l1 : Int32) :
    ∃ v t' sn' stt' re' st' fi' ir' Eh' Fh' b1 b2 b3 b4, F_X5_nesting (nI n) τ Nh t sn stt re st fi ir Eh Fh l1 = some (v, t', sn', stt', re', st', fi', ir', Eh', Fh') ∧ F_X6_nesting (nI n) (nI N) ld τ far mf ln l1 = some (v, b1, b2, b3, b4) ∧ sp_LC τ n t' sn' stt' re' st' fi' ir' := by
  unfold F_X5_nesting F_X6_nesting F_X2_numberAt
  obtain ⟨t', re', st', fi', ir', Eh', Fh', eL, hRL, hC'⟩ := sp_look (Eh := Eh) (Fh := Fh) hn T H hV hC
  obtain ⟨ld', far', mf', ln', eM, hRM⟩ := sp_lay (ld := ld) (far := far) (fi := mf) (ln := ln) hn T hV
  have hI := sp_bf_QI (τ := τ) hn hV
  rw [eL, eM, n_b, n_b]
  dsimp only
  by_cases h : l1 < 0
  · have eC := sp_nAtN hRL h 7776 0 sw_fu 0 (by omega) (by unfold sw_fu; omega) (by omega)
    have z0 : (0 : Int32) = nI 0 := rfl
    rw [← z0] at eC
    rw [eC, n_b, if_pos rfl]
    rw [show sw_fu = 9999 + 1 from rfl, F_X6_nesting_8.eq_2, if_neg (by decide), if_pos h]
    exact ⟨_, _, _, _, _, _, _, _, _, _, _, _, _, _, rfl, rfl, hC'⟩
  · obtain ⟨I, hI2, e⟩ := nI_of h
    subst e
    have eC := sp_nAtL hRL hI2 7776 0 sw_fu 0 (by omega) (by unfold sw_fu; omega) (by omega) (by omega)
    have eS := sp_nestL hI hRM 7776 0 sw_fu I (by omega) (by unfold sw_fu; omega) hI2
    have z0 : (0 : Int32) = nI 0 := rfl
    rw [← z0, Nat.sub_zero] at eC
    rw [← z0] at eS
    rw [eC, eS, n_b]
    by_cases hv : sp_na (sp_bf τ n N) 7776 0 I = (-1 : Int32)
    · rw [if_pos hv, if_pos hv]
      exact ⟨_, _, _, _, _, _, _, _, _, _, _, _, _, _, rfl, rfl, hC'⟩
    · rw [if_neg hv, if_neg hv]
      exact ⟨_, _, _, _, _, _, _, _, _, _, _, _, _, _, rfl, rfl, hC'⟩
theorem op_fits {τ Nh : Nat → Int32} {n N m : Nat} {te hs : Nat → Nat} {t sn stt ld tl tm : Int32} {re st fi ir Eh Fh far mf ln tt th tr : Nat → Int32} (hn : n ≤ 5) (T : sp_T τ n) (H : sp_R Nh N) (hV : sp_V n N) (hC : sp_LC τ n t sn stt re st fi ir) (hK : sp_TK n m te hs tl tt th) (hM : sp_TM m te hs tm tr) :
    ∃ v t' sn' stt' re' st' fi' ir' Eh' Fh' b1 b2 b3 b4, F_X5_fits (nI n) τ Nh t sn stt re st fi ir Eh Fh tl tt th = some (v, t', sn', stt', re', st', fi', ir', Eh', Fh') ∧ F_X6_fits (nI n) (nI N) ld tm τ far mf ln tr = some (v, b1, b2, b3, b4) ∧ sp_LC τ n t' sn' stt' re' st' fi' ir' := by
  unfold F_X5_fits F_X6_fits F_X2_fitting F_X6_fitMany
  obtain ⟨t', re', st', fi', ir', Eh', Fh', eL, hRL, hC'⟩ := sp_look (Eh := Eh) (Fh := Fh) hn T H hV hC
  obtain ⟨ld', far', mf', ln', eM, hRM⟩ := sp_lay (ld := ld) (far := far) (fi := mf) (ln := ln) hn T hV
  have hI := sp_bf_QI (τ := τ) hn hV
  rw [eL, eM, n_b, n_b]
  dsimp only
  have eS := sp_fitML hn hK.2.1 (fun j hj => ⟨(hK.2.2 j hj).1, (hK.2.2 j hj).2.1⟩) hI hRM hM 1297 0 sw_fu 0 (by omega) (by unfold sw_fu; omega)
  obtain ⟨Eh2, eP⟩ := sp_fitL hn hI hRL hK 1297 0 sw_fu 0 Eh' (by omega) (by unfold sw_fu; omega)
  have z0 : (0 : Int32) = nI 0 := rfl
  rw [← z0] at eS eP
  rw [eS, eP, n_b, n_b]
  exact ⟨_, _, _, _, _, _, _, _, _, _, _, _, _, _, rfl, rfl, hC'⟩
theorem op_sure {τ Nh : Nat → Int32} {n N m : Nat} {te hs : Nat → Nat} {t sn stt ld tl tm : Int32} {re st fi ir Eh Fh far mf ln tt th tr : Nat → Int32} (hn : n ≤ 5) (T : sp_T τ n) (H : sp_R Nh N) (hV : sp_V n N) (hC : sp_LC τ n t sn stt re st fi ir) (hK : sp_TK n m te hs tl tt th) (hM : sp_TM m te hs tm tr) (l1 : Int32) :
    ∃ v t' sn' stt' re' st' fi' ir' Eh' Fh' b1 b2 b3 b4, F_X5_sure (nI n) τ Nh t sn stt re st fi ir Eh Fh tl tt th l1 = some (v, t', sn', stt', re', st', fi', ir', Eh', Fh') ∧ F_X6_sure (nI n) (nI N) ld tm τ far mf ln tr l1 = some (v, b1, b2, b3, b4) ∧ sp_LC τ n t' sn' stt' re' st' fi' ir' := by
  unfold F_X5_sure F_X6_sure F_X2_sureHolder
  rcases sp_isB hn l1 with ⟨a, ha, e, a1, a2⟩ | ⟨a1, a2⟩
  rotate_left
  · rw [a1, a2, n_b, n_b, if_pos rfl, if_pos rfl]
    exact ⟨_, _, _, _, _, _, _, _, _, _, _, _, _, _, rfl, rfl, hC⟩
  subst e
  rw [a1, a2, n_b, n_b, if_neg n_10, if_neg n_10]
  obtain ⟨t', re', st', fi', ir', Eh', Fh', eL, hRL, hC'⟩ := sp_look (Eh := Eh) (Fh := Fh) hn T H hV hC
  obtain ⟨ld', far', mf', ln', eM, hRM⟩ := sp_lay (ld := ld) (far := far) (fi := mf) (ln := ln) hn T hV
  have hI := sp_bf_QI (τ := τ) hn hV
  rw [eL, eM, n_b, n_b]
  dsimp only
  have eS := sp_sureML (b := a) hn hK.2.1 (by omega) (fun j hj => ⟨(hK.2.2 j hj).1, (hK.2.2 j hj).2.1⟩) hI hRM hM 1297 0 sw_fu 0 (by omega) (by unfold sw_fu; omega) (by omega)
  obtain ⟨Eh2, eP⟩ := sp_sureL (b := a) hn (by omega) hI hRL hK 1297 0 sw_fu (-2) Eh' (by omega) (by unfold sw_fu; omega)
  have z0 : (0 : Int32) = nI 0 := rfl
  rw [← z0] at eS eP
  rw [eS, eP, n_b, sp_sub _ (-2) 0 (Or.inl ⟨rfl, rfl⟩)]
  exact ⟨_, _, _, _, _, _, _, _, _, _, _, _, _, _, rfl, rfl, hC'⟩
theorem op_ask {τ Nh : Nat → Int32} {n N m : Nat} {te hs : Nat → Nat} {t sn stt ld tl tm : Int32} {re st fi ir La Eh Fh far mf ln tt th tr Pa : Nat → Int32} (hn : n ≤ 5) (T : sp_T τ n) (H : sp_R Nh N) (hV : sp_V n N) (hC : sp_LC τ n t sn stt re st fi ir) (hK : sp_TK n m te hs tl tt th) (hM : sp_TM m te hs tm tr) :
    ∃ v t' sn' stt' re' st' fi' ir' La' Eh' Fh' b1 b2 b3 b4 b5, F_X5_ask (nI n) τ Nh t sn stt re st fi ir La Eh Fh tl tt th = some (v, t', sn', stt', re', st', fi', ir', La', Eh', Fh') ∧ F_X6_ask (nI n) (nI N) ld tm τ far mf ln tr Pa = some (v, b1, b2, b3, b4, b5) ∧ sp_LC τ n t' sn' stt' re' st' fi' ir' := by
  unfold F_X5_ask F_X6_ask
  obtain ⟨t', re', st', fi', ir', Eh', Fh', eL, hRL, hC'⟩ := sp_look (Eh := Eh) (Fh := Fh) hn T H hV hC
  obtain ⟨ld', far', mf', ln', eM, hRM⟩ := sp_lay (ld := ld) (far := far) (fi := mf) (ln := ln) hn T hV
  have hI := sp_bf_QI (τ := τ) hn hV
  rw [eL, eM, n_b, n_b]
  dsimp only
  obtain ⟨La2, Eh2, eP⟩ := sp_best (La := La) (Eh := Eh') hn hI hRL hK
  obtain ⟨Pa2, eS⟩ := sp_askM (Pa := Pa) hn hK.2.1 (fun j hj => ⟨(hK.2.2 j hj).1, (hK.2.2 j hj).2.1⟩) hI hRM hM
  rw [eS, eP, n_b, n_b]
  exact ⟨_, _, _, _, _, _, _, _, _, _, _, _, _, _, _, _, rfl, rfl, hC'⟩
