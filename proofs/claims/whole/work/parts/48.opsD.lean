/-! told, forget, days, image, restore, count -/
theorem op_told {n m : Nat} {te hs : Nat → Nat} {tl tm : Int32} {tt th tr : Nat → Int32} (hn : n ≤ 5) (hK : sp_TK n m te hs tl tt th) (hM : sp_TM m te hs tm tr) (l1 l2 : Int32) :
    ∃ v tl' tt' th' tm' tr' m' te' hs', F_X5_told (nI n) tl tt th l1 l2 = some (v, tl', tt', th') ∧ F_X6_told (nI n) tm tr l1 l2 = some (v, tm', tr') ∧ sp_TK n m' te' hs' tl' tt' th' ∧ sp_TM m' te' hs' tm' tr' := by
  unfold F_X5_told F_X6_told
  rcases sp_isB hn l1 with ⟨a, ha, e, a1, a2⟩ | ⟨a1, a2⟩
  rotate_left
  · rw [a1, a2, n_b, n_b, if_pos rfl, if_pos rfl]
    exact ⟨_, _, _, _, _, _, _, _, _, rfl, rfl, hK, hM⟩
  subst e
  rw [a1, a2, n_b, n_b, if_neg n_10, if_neg n_10]
  rcases sp_hasA hn l2 with ⟨S, hS, e, c1, c2⟩ | ⟨c1, c2⟩
  rotate_left
  · rw [c1, c2, n_b, n_b, if_pos rfl, if_pos rfl]
    exact ⟨_, _, _, _, _, _, _, _, _, rfl, rfl, hK, hM⟩
  subst e
  rw [c1, c2, n_b, n_b, if_neg n_10, if_neg n_10]
  obtain ⟨eT, hm, hj⟩ := hK
  obtain ⟨eM, hr⟩ := hM
  subst eT; subst eM
  unfold F_X4_keep F_X4_length
  rw [if_neg (nI_pos (by omega))]
  by_cases h4 : m = 4
  · subst h4
    rw [if_pos (by decide), n_b, if_pos rfl, if_pos (by decide)]
    exact ⟨_, _, _, _, _, _, _, _, _, rfl, rfl, ⟨rfl, by omega, hj⟩, ⟨rfl, hr⟩⟩
  · have p1 : (2 : Int32) * nI m + 1 = nI (2 * m + 1) := by
      rw [show (2 : Int32) = nI 2 from rfl, pk_mul, n_1]
    have p0 : (2 : Int32) * nI m = nI (2 * m) := by
      rw [show (2 : Int32) = nI 2 from rfl, pk_mul]
    rw [if_neg (show ¬ (4 : Int32) ≤ nI m by rw [n_le4 (by omega)]; omega), if_pos (show nI m < (4 : Int32) from nI_lt (b := 4) (by omega) (by decide)), if_neg (show ¬ nI m = (4 : Int32) from fun h => h4 ((nI_eq (b := 4) (by omega) (by decide)).mp h))]
    rw [p1, p0, n_ix (by omega) (by decide), n_ix (by omega) (by decide), n_ix (by omega) (by decide), n_ix (by omega) (by decide)]
    rw [n_b, n_cl (by omega), n_cl (by omega), n_cl (by omega), n_1]
    dsimp only
    rw [if_neg n_10, n_b]
    refine ⟨_, _, _, _, _, _, m + 1, fun j => if j = m then a else te j, fun j => if j = m then S else hs j, rfl, rfl, ⟨rfl, by omega, fun j hjm => ?_⟩, ⟨rfl, fun j hjm => ?_⟩⟩
    · dsimp only
      by_cases e : j = m
      · subst e
        refine ⟨?_, ?_, ?_, ?_⟩
        · rw [if_pos rfl]; exact ha
        · rw [if_pos rfl]; exact hS
        · unfold upd; rw [if_pos rfl, if_pos rfl]
        · unfold upd; rw [if_pos rfl, if_pos rfl]
      · obtain ⟨x1, x2, x3, x4⟩ := hj j (by omega)
        refine ⟨?_, ?_, ?_, ?_⟩
        · rw [if_neg e]; exact x1
        · rw [if_neg e]; exact x2
        · unfold upd; rw [if_neg e, if_neg e]; exact x3
        · unfold upd; rw [if_neg e, if_neg e]; exact x4
    · dsimp only
      by_cases e : j = m
      · subst e
        refine ⟨?_, ?_⟩
        · unfold upd; rw [if_neg (by omega), if_pos rfl, if_pos rfl]
        · unfold upd; rw [if_pos rfl, if_pos rfl]
      · obtain ⟨x1, x2⟩ := hr j (by omega)
        refine ⟨?_, ?_⟩
        · unfold upd; rw [if_neg (by omega), if_neg (by omega), if_neg e]; exact x1
        · unfold upd; rw [if_neg (by omega), if_neg (by omega), if_neg e]; exact x2
theorem op_forget {n m : Nat} {te hs : Nat → Nat} {tl tm : Int32} {tt th tr : Nat → Int32} (hK : sp_TK n m te hs tl tt th) (hM : sp_TM m te hs tm tr) :
    ∃ v tl' tm' m' te' hs', F_X5_forget tl = some (v, tl') ∧ F_X6_forget tm = some (v, tm') ∧ sp_TK n m' te' hs' tl' tt th ∧ sp_TM m' te' hs' tm' tr := by
  unfold F_X5_forget F_X6_forget F_X4_clear
  rw [n_b]
  refine ⟨_, _, _, 0, te, hs, rfl, ?_, ⟨rfl, by omega, fun j hj => by omega⟩, ⟨rfl, fun j hj => by omega⟩⟩
  rw [hK.1, hM.1]
  rfl
theorem op_days {τ Nh Rh : Nat → Int32} {n N : Nat} {sd : Int32} (hn : n ≤ 5) (T : sp_T τ n) (H : sp_R Nh N) (hV : sp_V n N) (l1 l2 l3 : Int32) : ∃ v a1 b1, F_X5_days (nI n) τ Nh Rh l1 l2 l3 = some (v, a1) ∧ F_X6_days (nI n) (nI N) sd τ l1 l2 l3 = some (v, b1) := by
  unfold F_X5_days F_X6_days
  rcases sp_btw2 l1 1 60 1 60 (by decide) (by decide) with ⟨a1, a2, a3, a4⟩ | ⟨a1, a2⟩
  rotate_left
  · rw [a1, a2, n_b, n_b, if_pos rfl, if_pos rfl]
    exact ⟨_, _, _, rfl, rfl⟩
  rw [a1, a2, n_b, n_b, if_neg n_10, if_neg n_10]
  by_cases h2 : l2 < 0
  · rw [if_pos h2, if_pos h2]
    exact ⟨_, _, _, rfl, rfl⟩
  rw [if_neg h2, if_neg h2]
  rcases sp_btw2 l3 0 2 0 2 (by decide) (by decide) with ⟨c1, c2, c3, c4⟩ | ⟨c1, c2⟩
  rotate_left
  · rw [c1, c2, n_b, n_b, if_pos rfl, if_pos rfl]
    exact ⟨_, _, _, rfl, rfl⟩
  rw [c1, c2, n_b, n_b, if_neg n_10, if_neg n_10]
  obtain ⟨S, hS, e⟩ := nI_of h2
  subst e
  obtain ⟨L, hL, e⟩ := sp_nnr (m := 60) (x := l1) (by have : (1 : Int32).toInt = 1 := by decide
                                                      omega) a4
  subst e
  obtain ⟨h', hc, hR⟩ := sp_copy (h := Rh) H
  rw [hc, n_b, sp_choices hR hn T, sp_may hV hn T, n_b, n_b]
  obtain ⟨v, h2, s', e1, e2⟩ := sp_daysL (w := l3) hn T hL L 0 sw_fu N S h' (by omega) (by unfold sw_fu; omega) hV hR hS
  exact ⟨_, _, _, e1, e2⟩
theorem sp_cp40 {tt uh : Nat → Int32} {ul : Int32} : ∀ d k fu (th : Nat → Int32), k + d = 4 → d < fu → (∀ j, j < k → th j = uh j) → ∃ th', F_X4_copy_40 tt ul uh fu th (nI k) = some (ul, tt, th') ∧ ∀ j, j < 4 → th' j = uh j := by
  intro d
  induction d with
  | zero =>
    intro k fu th hk hf h
    obtain ⟨f, rfl⟩ : ∃ f, fu = f + 1 := ⟨fu - 1, by omega⟩
    obtain rfl : k = 4 := by omega
    rw [F_X4_copy_40.eq_2, if_pos (by decide)]
    exact ⟨th, rfl, h⟩
  | succ d ih =>
    intro k fu th hk hf h
    obtain ⟨f, rfl⟩ : ∃ f, fu = f + 1 := ⟨fu - 1, by omega⟩
    have q : ¬ (4 : Int32) ≤ nI k := by rw [n_le4 (by omega)]; omega
    rw [F_X4_copy_40.eq_2, if_neg q, if_neg q, n_ix (by omega) (by decide), n_ix (by omega) (by decide), n_cl (by omega), n_1]
    refine ih (k + 1) f _ (by omega) (by omega) (fun j hj => ?_)
    unfold upd
    by_cases e : j = k
    · rw [if_pos e, e]
    · rw [if_neg e]; exact h j (by omega)
theorem sp_cp2 {th ut uh : Nat → Int32} {ul : Int32} : ∀ d k fu (tt : Nat → Int32), k + d = 4 → d < fu → (∀ j, j < k → tt j = ut j) → ∃ tt' th', F_X4_copy_2 th ul ut uh fu tt (nI k) = some (ul, tt', th') ∧ (∀ j, j < 4 → tt' j = ut j) ∧ ∀ j, j < 4 → th' j = uh j := by
  intro d
  induction d with
  | zero =>
    intro k fu tt hk hf h
    obtain ⟨f, rfl⟩ : ∃ f, fu = f + 1 := ⟨fu - 1, by omega⟩
    obtain rfl : k = 4 := by omega
    rw [F_X4_copy_2.eq_2, if_pos (by decide)]
    obtain ⟨th', e, h'⟩ := sp_cp40 (tt := tt) (uh := uh) (ul := ul) 4 0 sw_fu th (by omega) (by unfold sw_fu; omega) (fun j hj => by omega)
    exact ⟨tt, th', e, h, h'⟩
  | succ d ih =>
    intro k fu tt hk hf h
    obtain ⟨f, rfl⟩ : ∃ f, fu = f + 1 := ⟨fu - 1, by omega⟩
    have q : ¬ (4 : Int32) ≤ nI k := by rw [n_le4 (by omega)]; omega
    rw [F_X4_copy_2.eq_2, if_neg q, if_neg q, n_ix (by omega) (by decide), n_ix (by omega) (by decide), n_cl (by omega), n_1]
    refine ih (k + 1) f _ (by omega) (by omega) (fun j hj => ?_)
    unfold upd
    by_cases e : j = k
    · rw [if_pos e, e]
    · rw [if_neg e]; exact h j (by omega)
theorem sp_cpT {n m : Nat} {te hs : Nat → Nat} {ul tl : Int32} {tt th ut uh : Nat → Int32} (h : sp_TK n m te hs ul ut uh) : ∃ tl' tt' th', F_X4_copy tl tt th ul ut uh = some (tl', tt', th') ∧ sp_TK n m te hs tl' tt' th' := by
  obtain ⟨tt', th', e, h1, h2⟩ := sp_cp2 (th := th) (ut := ut) (uh := uh) (ul := ul) 4 0 sw_fu tt (by omega) (by unfold sw_fu; omega) (fun j hj => by omega)
  refine ⟨_, _, _, e, h.1, h.2.1, fun j hj => ?_⟩
  obtain ⟨x1, x2, x3, x4⟩ := h.2.2 j hj
  have := h.2.1
  exact ⟨x1, x2, by rw [h1 j (by omega)]; exact x3, by rw [h2 j (by omega)]; exact x4⟩
theorem sp_im {bn nb dd tm : Int32} {R : Nat → Int32} : ∀ d k fu (K : Nat → Int32), k + d = 8 → d < fu → (∀ j, j < k → K j = R j) → ∃ K', F_X6_image_2 bn nb dd tm R fu K (nI k) = some (nb, nb, bn, dd, tm, K') ∧ ∀ j, j < 8 → K' j = R j := by
  intro d
  induction d with
  | zero =>
    intro k fu tt hk hf h
    obtain ⟨f, rfl⟩ : ∃ f, fu = f + 1 := ⟨fu - 1, by omega⟩
    obtain rfl : k = 8 := by omega
    rw [F_X6_image_2.eq_2, if_pos (by decide)]
    exact ⟨tt, rfl, h⟩
  | succ d ih =>
    intro k fu tt hk hf h
    obtain ⟨f, rfl⟩ : ∃ f, fu = f + 1 := ⟨fu - 1, by omega⟩
    have q : ¬ (8 : Int32) ≤ nI k := nI_ge (b := 8) (by omega) (by decide)
    rw [F_X6_image_2.eq_2, if_neg q, n_ix (by omega) (by decide), n_ix (by omega) (by decide), n_cl (by omega), n_1]
    refine ih (k + 1) f _ (by omega) (by omega) (fun j hj => ?_)
    unfold upd
    by_cases e : j = k
    · rw [if_pos e, e]
    · rw [if_neg e]; exact h j (by omega)
theorem sp_re {kn kd kt : Int32} {R : Nat → Int32} : ∀ d k fu (K : Nat → Int32), k + d = 8 → d < fu → (∀ j, j < k → K j = R j) → ∃ K', F_X6_restore_24 kn kd kt R fu K (nI k) = some (kn, kn, kd, kt, K') ∧ ∀ j, j < 8 → K' j = R j := by
  intro d
  induction d with
  | zero =>
    intro k fu tt hk hf h
    obtain ⟨f, rfl⟩ : ∃ f, fu = f + 1 := ⟨fu - 1, by omega⟩
    obtain rfl : k = 8 := by omega
    rw [F_X6_restore_24.eq_2, if_pos (by decide)]
    exact ⟨tt, rfl, h⟩
  | succ d ih =>
    intro k fu tt hk hf h
    obtain ⟨f, rfl⟩ : ∃ f, fu = f + 1 := ⟨fu - 1, by omega⟩
    have q : ¬ (8 : Int32) ≤ nI k := nI_ge (b := 8) (by omega) (by decide)
    rw [F_X6_restore_24.eq_2, if_neg q, n_ix (by omega) (by decide), n_ix (by omega) (by decide), n_cl (by omega), n_1]
    refine ih (k + 1) f _ (by omega) (by omega) (fun j hj => ?_)
    unfold upd
    by_cases e : j = k
    · rw [if_pos e, e]
    · rw [if_neg e]; exact h j (by omega)
theorem sp_TM_c {m : Nat} {te hs : Nat → Nat} {tm : Int32} {tr tr' : Nat → Int32} (hm : m ≤ 4) (h : sp_TM m te hs tm tr) (hr : ∀ j, j < 8 → tr' j = tr j) : sp_TM m te hs tm tr' :=
  ⟨h.1, fun j hj => ⟨by rw [hr _ (by omega)]; exact (h.2 j hj).1, by rw [hr _ (by omega)]; exact (h.2 j hj).2⟩⟩
/-- what is kept -/
def sp_Kp (n : Nat) (xN xD xT kl : Int32) (kt kh : Nat → Int32) (mN mB mD mT : Int32) (mR : Nat → Int32) : Prop := (xT = (-1 : Int32) ∧ mN = (-1 : Int32)) ∨ ∃ (n' N' m : Nat) (te hs : Nat → Nat), n' ≤ n ∧ xT = nI n' ∧ mB = nI n' ∧ xN = nI N' ∧ mN = nI N' ∧ sp_V n' N' ∧ mD = xD ∧ sp_TK n' m te hs kl kt kh ∧ sp_TM m te hs mT mR
theorem sp_Kp_m {n n' : Nat} {xN xD xT kl : Int32} {kt kh : Nat → Int32} {mN mB mD mT : Int32} {mR : Nat → Int32} (hn : n ≤ n') (h : sp_Kp n xN xD xT kl kt kh mN mB mD mT mR) : sp_Kp n' xN xD xT kl kt kh mN mB mD mT mR := by
  rcases h with h | ⟨k, N', m, te, hs, h1, h2⟩
  · exact Or.inl h
  · exact Or.inr ⟨k, N', m, te, hs, by omega, h2⟩
theorem op_image {n N m : Nat} {te hs : Nat → Nat} {xN xD xT dn tl kl tm mN mB mD mT : Int32} {Nh tt th kt kh tr mR : Nat → Int32} (H : sp_R Nh N) (hV : sp_V n N) (hK : sp_TK n m te hs tl tt th) (hM : sp_TM m te hs tm tr) :
    ∃ v xN' xD' xT' kl' kt' kh' mN' mB' mD' mT' mR', F_X5_image dn xN xD xT (nI n) Nh tl tt th kl kt kh = some (v, xN', xD', xT', kl', kt', kh') ∧ F_X6_image (nI n) (nI N) dn tm mN mB mD mT tr mR = some (v, mN', mB', mD', mT', mR') ∧ sp_Kp n xN' xD' xT' kl' kt' kh' mN' mB' mD' mT' mR' := by
  unfold F_X5_image F_X6_image F_X0_total
  obtain ⟨kl', kt', kh', eC, hC⟩ := sp_cpT (tl := kl) (tt := kt) (th := kh) hK
  obtain ⟨mR', eM, hR⟩ := sp_im (bn := nI n) (nb := nI N) (dd := dn) (tm := tm) (R := tr) 8 0 sw_fu mR (by omega) (by unfold sw_fu; omega) (fun j hj => by omega)
  have z0 : (0 : Int32) = nI 0 := rfl
  rw [← z0] at eM
  rw [sp_num H hV.1, n_b, eC, n_b, n_b, eM]
  exact ⟨_, _, _, _, _, _, _, _, _, _, _, _, rfl, rfl, Or.inr ⟨n, N, m, te, hs, Nat.le_refl n, rfl, rfl, rfl, rfl, hV, rfl, hC, sp_TM_c hK.2.1 hM hR⟩⟩
theorem op_restore {n N m : Nat} {te hs : Nat → Nat} {xN xD xT dn tl kl tm mN mB mD mT : Int32} {Nh tt th kt kh tr mR : Nat → Int32} (hn : n ≤ 5) (H : sp_R Nh N) (hV : sp_V n N) (hK : sp_TK n m te hs tl tt th) (hM : sp_TM m te hs tm tr) (hP : sp_Kp n xN xD xT kl kt kh mN mB mD mT mR) :
    ∃ v dn' Nh' tl' tt' th' N' tm' tr' m' te' hs', F_X5_restore dn xN xD xT (nI n) Nh tl tt th kl kt kh = some (v, dn', Nh', tl', tt', th') ∧ F_X6_restore (nI n) (nI N) dn tm mN mB mD mT tr mR = some (v, nI N', dn', tm', tr') ∧ sp_R Nh' N' ∧ sp_V n N' ∧ sp_TK n m' te' hs' tl' tt' th' ∧ sp_TM m' te' hs' tm' tr' := by
  unfold F_X5_restore F_X6_restore F_X0_total
  rw [n_b]
  rcases hP with ⟨h1, h2⟩ | ⟨n', N', m', te', hs', h1, h2, h3, h4, h5, h6, h7, h8, h9⟩
  · rw [h1, h2, if_pos rfl, if_neg (fun h => sp_ne1 (s := n) (by omega) h.symm)]
    exact ⟨_, _, _, _, _, _, _, _, _, _, _, _, rfl, rfl, H, hV, hK, hM⟩
  · rw [h2, h3, h4, h5, h7, if_neg (sp_ne1 h6.1)]
    by_cases e : n' = n
    · subst e
      obtain ⟨Nh', eB, hR⟩ := sp_become (h := Nh) h6.1
      obtain ⟨tl', tt', th', eC, hC⟩ := sp_cpT (tl := tl) (tt := tt) (th := th) h8
      obtain ⟨tr', eM, hTR⟩ := sp_re (kn := nI N') (kd := xD) (kt := mT) (R := mR) 8 0 sw_fu tr (by omega) (by unfold sw_fu; omega) (fun j hj => by omega)
      have z0 : (0 : Int32) = nI 0 := rfl
      rw [← z0] at eM
      rw [if_pos rfl, if_pos rfl, eB, n_b, eC, n_b, eM]
      exact ⟨_, _, _, _, _, _, _, _, _, _, _, _, rfl, rfl, hR, h6, hC, sp_TM_c h8.2.1 h9 hTR⟩
    · have ne : ¬ nI n' = nI n := fun h => e ((nI_eq (by omega) (by omega)).mp h)
      rw [if_neg ne, if_neg ne]
      exact ⟨_, _, _, _, _, _, _, _, _, _, _, _, rfl, rfl, H, hV, hK, hM⟩
/-- how many of the first k are outside -/
def sp_oc (N : Nat) : Nat → Nat
  | 0 => 0
  | k + 1 => sp_oc N k + (if sp_h N k = (-1 : Int32) then 1 else 0)
theorem sp_outC {h : Nat → Int32} {N n : Nat} (H : sp_R h N) (hn : n ≤ 5) : ∀ d k fu, k + d = n → d < fu → F_X1_outside_4 (nI n) h fu (nI (sp_oc N k)) (nI k) = some (nI (sp_oc N n)) := by
  intro d
  induction d with
  | zero =>
    intro k fu hk hf
    obtain ⟨f, rfl⟩ : ∃ f, fu = f + 1 := ⟨fu - 1, by omega⟩
    obtain rfl : k = n := by omega
    rw [F_X1_outside_4.eq_2]
    unfold F_X0_total
    rw [n_b, if_pos (by rw [n_le (by omega) (by omega)]; omega)]
  | succ d ih =>
    intro k fu hk hf
    obtain ⟨f, rfl⟩ : ∃ f, fu = f + 1 := ⟨fu - 1, by omega⟩
    rw [F_X1_outside_4.eq_2]
    unfold F_X0_total
    rw [n_b, if_neg (by rw [n_le (by omega) (by omega)]; omega), sp_holder H (by omega), n_b, n_1, n_1]
    have := ih (k + 1) f (by omega) (by omega)
    rw [show sp_oc N (k + 1) = sp_oc N k + (if sp_h N k = (-1 : Int32) then 1 else 0) from rfl] at this
    by_cases e : sp_h N k = (-1 : Int32)
    · rw [if_pos e] at this ⊢; exact this
    · rw [if_neg e] at this ⊢; exact this
theorem sp_countM {τ : Nat → Int32} {N n : Nat} {pm dd tm l1 v : Int32} (hN : N < 7776) (hn : n ≤ 5)
    (hv : (if l1 = (0 : Int32) then some (nI n) else if l1 = (1 : Int32) then some (nI (sp_oc N n)) else if l1 = (2 : Int32) then some dd else if l1 = (3 : Int32) then some tm else if l1 = (4 : Int32) then some pm else if l1 = (5 : Int32) then (F_X6_mayMany (nI n) τ (nI N)).bind (fun q1 => some (q1)) else some ((-102 : Int32))) = some v) : ∀ d k fu, k + d = n → d < fu → F_X6_countOf_4 pm (nI n) (nI N) dd tm τ l1 fu (nI (sp_oc N k)) (nI k) = some v := by
  intro d
  induction d with
  | zero =>
    intro k fu hk hf
    obtain ⟨f, rfl⟩ : ∃ f, fu = f + 1 := ⟨fu - 1, by omega⟩
    obtain rfl : k = n := by omega
    rw [F_X6_countOf_4.eq_2, if_pos (by rw [n_le (by omega) (by omega)]; omega)]
    exact hv
  | succ d ih =>
    intro k fu hk hf
    obtain ⟨f, rfl⟩ : ∃ f, fu = f + 1 := ⟨fu - 1, by omega⟩
    rw [F_X6_countOf_4.eq_2, if_neg (by rw [n_le (by omega) (by omega)]; omega), sp_holderM hN (by omega), n_b]
    unfold F_X6_countOf_30
    have := ih (k + 1) f (by omega) (by omega)
    rw [show sp_oc N (k + 1) = sp_oc N k + (if sp_h N k = (-1 : Int32) then 1 else 0) from rfl] at this
    by_cases e : sp_h N k = (-1 : Int32)
    · rw [if_pos e] at this ⊢
      rw [n_1, n_1]; exact this
    · rw [if_neg e] at this ⊢
      rw [n_1, show (0 : Int32) = nI 0 from rfl, nI_add]; exact this
theorem op_count {τ Nh : Nat → Int32} {n N : Nat} {dn pl tl : Int32} (hn : n ≤ 5) (T : sp_T τ n) (H : sp_R Nh N) (hV : sp_V n N) (l1 : Int32) : ∃ v, F_X5_count dn (nI n) τ Nh pl tl l1 = some v ∧ F_X6_countOf pl (nI n) (nI N) dn tl τ l1 = some v ∧ F_X6_count pl (nI n) (nI N) dn tl τ l1 = some v := by
  have eO : F_X1_outside (nI n) Nh = some (nI (sp_oc N n)) := sp_outC H hn n 0 sw_fu (by omega) (by unfold sw_fu; omega)
  have key : ∃ v, F_X5_count dn (nI n) τ Nh pl tl l1 = some v ∧ (if l1 = (0 : Int32) then some (nI n) else if l1 = (1 : Int32) then some (nI (sp_oc N n)) else if l1 = (2 : Int32) then some dn else if l1 = (3 : Int32) then some tl else if l1 = (4 : Int32) then some pl else if l1 = (5 : Int32) then (F_X6_mayMany (nI n) τ (nI N)).bind (fun q1 => some (q1)) else some ((-102 : Int32))) = some v := by
    unfold F_X5_count F_X0_total F_X4_length F_X3_length
    rw [eO, sp_choices H hn T, sp_may hV hn T, n_b, n_b, n_b, n_b, n_b]
    by_cases h0 : l1 = 0
    · rw [if_pos h0]; exact ⟨_, rfl, rfl⟩
    rw [if_neg h0]
    by_cases h1 : l1 = 1
    · rw [if_pos h1]; exact ⟨_, rfl, rfl⟩
    rw [if_neg h1]
    by_cases h2 : l1 = 2
    · rw [if_pos h2]; exact ⟨_, rfl, rfl⟩
    rw [if_neg h2]
    by_cases h3 : l1 = 3
    · rw [if_pos h3]; exact ⟨_, rfl, rfl⟩
    rw [if_neg h3]
    by_cases h4 : l1 = 4
    · rw [if_pos h4]; exact ⟨_, rfl, rfl⟩
    rw [if_neg h4]
    by_cases h5 : l1 = 5
    · rw [if_pos h5]; exact ⟨_, rfl, rfl⟩
    rw [if_neg h5]
    exact ⟨_, rfl, rfl⟩
  obtain ⟨v, e1, e2⟩ := key
  have e3 : F_X6_countOf pl (nI n) (nI N) dn tl τ l1 = some v := sp_countM hV.1 hn e2 n 0 sw_fu (by omega) (by unfold sw_fu; omega)
  refine ⟨v, e1, e3, ?_⟩
  unfold F_X6_count
  rw [e3, n_b]
