/-! pure: small ints, figures of a nesting's number -/
theorem n_0 {k : Nat} (h : k < 2 ^ 31) : (nI k < 0) = False := eq_false (nI_pos h)
theorem n_le {a b : Nat} (ha : a < 2 ^ 31) (hb : b < 2 ^ 31) : (nI a ≤ nI b) = (a ≤ b) := propext (nI_leI ha hb)
theorem n_lt {a b : Nat} (ha : a < 2 ^ 31) (hb : b < 2 ^ 31) : (nI a < nI b) = (a < b) := propext (nI_ltI ha hb)
theorem n_eq {a b : Nat} (ha : a < 2 ^ 31) (hb : b < 2 ^ 31) : (nI a = nI b) = (a = b) := propext (nI_eq ha hb)
theorem n_lit (n : Nat) : (OfNat.ofNat n : Int32) = nI n := rfl
theorem n_le4 {k : Nat} (h : k < 2 ^ 31) : ((4 : Int32) ≤ nI k) = (4 ≤ k) := n_le (a := 4) (by decide) h
theorem n_le5 {k : Nat} (h : k < 2 ^ 31) : ((5 : Int32) ≤ nI k) = (5 ≤ k) := n_le (a := 5) (by decide) h
theorem n_le45 {k : Nat} (h : k < 2 ^ 31) : ((45 : Int32) ≤ nI k) = (45 ≤ k) := n_le (a := 45) (by decide) h
theorem n_le7776 {k : Nat} (h : k < 2 ^ 31) : ((7776 : Int32) ≤ nI k) = (7776 ≤ k) := n_le (a := 7776) (by decide) h
theorem n_le1296 {k : Nat} (h : k < 2 ^ 31) : ((1296 : Int32) ≤ nI k) = (1296 ≤ k) := n_le (a := 1296) (by decide) h
theorem n_1 (k : Nat) : nI k + 1 = nI (k + 1) := nI_1 k
theorem n_s1 (k : Nat) : nI (k + 1) - 1 = nI k := nI_pred k
theorem n_m1 (x : Int32) : x + (-1) = x - 1 := by rw [Int32.sub_eq_add_neg]
theorem n_ix {α : Type} {k N : Nat} {c : Option α} (h : k < N) (hN : N < 2 ^ 31) : sw_ix (nI k) N c = c := by
  unfold sw_ix; rw [if_neg (nI_in h hN)]
theorem n_dz {α : Type} {k : Nat} {c : Option α} (h0 : 0 < k) (h : k < 2 ^ 31) : sw_dz (nI k) c = c := by
  unfold sw_dz; rw [if_neg (nI_ne0 h0 h)]
theorem n_cl {k : Nat} (h : k < 2 ^ 31) : (nI k).toNatClampNeg = k := nI_clamp h
theorem n_b {α β : Type} (a : α) (f : α → Option β) : (some a).bind f = f a := rfl
/-- figure b of N -/
def sp_d (N b : Nat) : Nat := N / 6 ^ b % 6
/-- who is around b: its number, or -1 -/
def sp_h (N b : Nat) : Int32 := nI (sp_d N b) - 1
def sp_R (h : Nat → Int32) (N : Nat) : Prop := ∀ b, b < 5 → h b = sp_h N b
theorem sp_lt (N b : Nat) : sp_d N b < 6 := Nat.mod_lt _ (by decide)
theorem sp_hh {x y : Nat} (hx : x < 6) (hy : y < 6) : (nI x - 1 = nI y - 1) ↔ x = y :=
  (show ∀ x, x < 6 → ∀ y, y < 6 → ((nI x - 1 = nI y - 1) ↔ x = y) by decide +kernel) x hx y hy
theorem sp_ha {x a : Nat} (hx : x < 6) (ha : a < 6) : (nI x - 1 = nI a) ↔ x = a + 1 :=
  (show ∀ x, x < 6 → ∀ a, a < 6 → ((nI x - 1 = nI a) ↔ x = a + 1) by decide +kernel) x hx a ha
theorem sp_hm {x : Nat} (hx : x < 6) : (nI x - 1 = (-1 : Int32)) ↔ x = 0 :=
  (show ∀ x, x < 6 → ((nI x - 1 = (-1 : Int32)) ↔ x = 0) by decide +kernel) x hx
theorem sp_eq (N a b : Nat) : (sp_h N a = sp_h N b) = (sp_d N a = sp_d N b) := propext (sp_hh (sp_lt N a) (sp_lt N b))
theorem sp_is {N a b : Nat} (ha : a < 6) : (sp_h N b = nI a) = (sp_d N b = a + 1) := propext (sp_ha (sp_lt N b) ha)
theorem sp_no (N b : Nat) : (sp_h N b = (-1 : Int32)) = (sp_d N b = 0) := propext (sp_hm (sp_lt N b))
theorem sp_in {N b : Nat} (h : sp_d N b ≠ 0) : sp_h N b = nI (sp_d N b - 1) := by
  unfold sp_h
  obtain ⟨x, hx⟩ : ∃ x, sp_d N b = x + 1 := ⟨sp_d N b - 1, by omega⟩
  rw [hx, n_s1]; rfl
theorem sp_holder {h : Nat → Int32} {N b : Nat} (H : sp_R h N) (hb : b < 5) : F_X1_holder h (nI b) = some (sp_h N b) := by
  unfold F_X1_holder
  rw [if_neg (nI_pos (by omega)), if_neg (by rw [n_le5 (by omega)]; omega), n_ix hb (by decide), n_cl (by omega), H b hb]
theorem sp_holderN {h : Nat → Int32} : F_X1_holder h (-1 : Int32) = some (-1) := by
  unfold F_X1_holder
  rw [if_pos (by decide)]
theorem sp_unit : ∀ b, b < 5 → F_X6_unit (nI b) = some (nI (6 ^ b)) := by decide +kernel
theorem sp_p {b : Nat} (hb : b < 5) : 0 < 6 ^ b ∧ 6 ^ b < 7776 := (show ∀ b, b < 5 → 0 < 6 ^ b ∧ 6 ^ b < 7776 by decide +kernel) b hb
theorem sp_holderM {N b : Nat} (hN : N < 7776) (hb : b < 5) : F_X6_holder (nI N) (nI b) = some (sp_h N b) := by
  unfold F_X6_holder
  obtain ⟨h1, h2⟩ := sp_p hb
  rw [sp_unit b hb, n_b, n_dz h1 (by omega), pk_div (by omega) h1 (by omega)]
  have h3 : N / 6 ^ b < 2 ^ 31 := Nat.lt_of_le_of_lt (Nat.div_le_self _ _) (by omega)
  rw [show (6 : Int32) = nI 6 from rfl, pk_rem h3 (by decide) (by decide)]
  rfl
/-- N with figure b put to t -/
def sp_rp (N b t : Nat) : Nat := N - sp_d N b * 6 ^ b + t * 6 ^ b
theorem sp_5 {P : Nat → Prop} (h0 : P 0) (h1 : P 1) (h2 : P 2) (h3 : P 3) (h4 : P 4) {b : Nat} (hb : b < 5) : P b := by
  match b, hb with
  | 0, _ => exact h0
  | 1, _ => exact h1
  | 2, _ => exact h2
  | 3, _ => exact h3
  | 4, _ => exact h4
theorem sp_d0 (N : Nat) : sp_d N 0 = N % 6 := by show N / 1 % 6 = _; rw [Nat.div_one]
theorem sp_d1 (N : Nat) : sp_d N 1 = N / 6 % 6 := rfl
theorem sp_d2 (N : Nat) : sp_d N 2 = N / 36 % 6 := rfl
theorem sp_d3 (N : Nat) : sp_d N 3 = N / 216 % 6 := rfl
theorem sp_d4 (N : Nat) : sp_d N 4 = N / 1296 % 6 := rfl
theorem sp_sum {N : Nat} (h : N < 7776) : N = sp_d N 0 + 6 * sp_d N 1 + 36 * sp_d N 2 + 216 * sp_d N 3 + 1296 * sp_d N 4 := by
  rw [sp_d0, sp_d1, sp_d2, sp_d3, sp_d4]; omega
theorem sp_ext {N M : Nat} (hN : N < 7776) (hM : M < 7776) (h : ∀ b, b < 5 → sp_d N b = sp_d M b) : N = M := by
  rw [sp_sum hN, sp_sum hM, h 0 (by decide), h 1 (by decide), h 2 (by decide), h 3 (by decide), h 4 (by decide)]
theorem sp_rp_d {N b t c : Nat} (hN : N < 7776) (hb : b < 5) (hc : c < 5) (ht : t < 6) : sp_d (sp_rp N b t) c = if c = b then t else sp_d N c := by
  have e0 : (6 : Nat) ^ 0 = 1 := rfl
  have e1 : (6 : Nat) ^ 1 = 6 := rfl
  have e2 : (6 : Nat) ^ 2 = 36 := rfl
  have e3 : (6 : Nat) ^ 3 = 216 := rfl
  have e4 : (6 : Nat) ^ 4 = 1296 := rfl
  revert hc
  revert c
  revert hb
  refine fun hb => sp_5 (P := fun b => ∀ {c : Nat}, c < 5 → sp_d (sp_rp N b t) c = if c = b then t else sp_d N c) ?_ ?_ ?_ ?_ ?_ hb <;> (intro c hc; refine sp_5 (P := fun c => sp_d (sp_rp N _ t) c = if c = _ then t else sp_d N c) ?_ ?_ ?_ ?_ ?_ hc) <;> (first | rw [if_pos rfl] | rw [if_neg (by decide)]) <;> simp only [sp_rp, sp_d, e0, e1, e2, e3, e4] <;> omega
theorem sp_rp_lt {N b t : Nat} (hN : N < 7776) (hb : b < 5) (ht : t < 6) : sp_rp N b t < 7776 := by
  refine sp_5 (P := fun b => sp_rp N b t < 7776) ?_ ?_ ?_ ?_ ?_ hb <;> simp only [sp_rp, sp_d, show (6 : Nat) ^ 0 = 1 from rfl, show (6 : Nat) ^ 1 = 6 from rfl, show (6 : Nat) ^ 2 = 36 from rfl, show (6 : Nat) ^ 3 = 216 from rfl, show (6 : Nat) ^ 4 = 1296 from rfl] <;> omega
theorem sp_du {N b : Nat} : sp_d N b * 6 ^ b ≤ N := by
  unfold sp_d
  have h1 : N / 6 ^ b % 6 ≤ N / 6 ^ b := Nat.mod_le _ _
  have h2 : N / 6 ^ b * 6 ^ b ≤ N := Nat.div_mul_le_self _ _
  exact Nat.le_trans (Nat.mul_le_mul_right _ h1) h2
theorem sp_ring (a d t u : Int32) : (a + d * u) + ((t - 1) - (d - 1)) * u = a + t * u := by grind
theorem sp_moved {N b t : Nat} (hN : N < 7776) (hb : b < 5) : F_X6_moved (nI N) (nI b) (nI t - 1) = some (nI (sp_rp N b t)) := by
  unfold F_X6_moved
  rw [sp_holderM hN hb, n_b, sp_unit b hb, n_b]
  have h := @sp_du N b
  have e : nI N = nI (N - sp_d N b * 6 ^ b) + nI (sp_d N b) * nI (6 ^ b) := by
    rw [pk_mul, nI_add, Nat.sub_add_cancel h]
  unfold sp_h
  rw [e, sp_ring, pk_mul, nI_add]
  rfl
theorem sp_upd {h : Nat → Int32} {N b t : Nat} (H : sp_R h N) (hN : N < 7776) (hb : b < 5) (ht : t < 6) : sp_R (upd h b (nI t - 1)) (sp_rp N b t) := by
  intro c hc
  unfold upd sp_h
  rw [sp_rp_d hN hb hc ht]
  by_cases e : c = b
  · rw [if_pos e, if_pos e]
  · rw [if_neg e, if_neg e, H c hc]; rfl
theorem sp_num {h : Nat → Int32} {N : Nat} (H : sp_R h N) (hN : N < 7776) : F_X1_toNumber h = some (nI N) := by
  unfold F_X1_toNumber
  rw [show sw_fu = 9994 + 1 + 1 + 1 + 1 + 1 + 1 from rfl]
  have r : ∀ x d : Int32, x * 6 + (d - 1) + 1 = x * 6 + d := fun x d => by grind
  have hh : ∀ b, b < 5 → h b = nI (sp_d N b) - 1 := H
  rw [F_X1_toNumber_10.eq_2, if_neg (by decide), show (5 : Int32) - 1 = nI 4 from rfl, n_ix (by decide) (by decide), n_cl (by decide), hh 4 (by decide), r]
  rw [F_X1_toNumber_10.eq_2, if_neg (by decide), show nI 4 + (-1 : Int32) = nI 3 from rfl, n_ix (by decide) (by decide), n_cl (by decide), hh 3 (by decide), r]
  rw [F_X1_toNumber_10.eq_2, if_neg (by decide), show nI 3 + (-1 : Int32) = nI 2 from rfl, n_ix (by decide) (by decide), n_cl (by decide), hh 2 (by decide), r]
  rw [F_X1_toNumber_10.eq_2, if_neg (by decide), show nI 2 + (-1 : Int32) = nI 1 from rfl, n_ix (by decide) (by decide), n_cl (by decide), hh 1 (by decide), r]
  rw [F_X1_toNumber_10.eq_2, if_neg (by decide), show nI 1 + (-1 : Int32) = nI 0 from rfl, n_ix (by decide) (by decide), n_cl (by decide), hh 0 (by decide), r]
  rw [F_X1_toNumber_10.eq_2, if_pos (by decide)]
  rw [show (6 : Int32) = nI 6 from rfl, show (0 : Int32) = nI 0 from rfl]
  simp only [pk_mul, nI_add]
  congr 2
  have := sp_sum hN
  omega
theorem sp_become {h : Nat → Int32} {N : Nat} (hN : N < 7776) : ∃ h', F_X1_become h (nI N) = some h' ∧ sp_R h' N := by
  unfold F_X1_become
  rw [show sw_fu = 9994 + 1 + 1 + 1 + 1 + 1 + 1 from rfl]
  have dv : ∀ x, x < 7776 → nI x / (6 : Int32) = nI (x / 6) := fun x hx => pk_div (by omega) (d := 6) (by decide) (by decide)
  have rm : ∀ x, x < 7776 → nI x - nI x / (6 : Int32) * 6 = nI (x % 6) := fun x hx => pk_rem (by omega) (d := 6) (by decide) (by decide)
  rw [F_X1_become_4.eq_2, if_neg (by decide), show (0 : Int32) = nI 0 from rfl, n_ix (by decide) (by decide), n_cl (by decide), rm _ hN, dv _ hN]
  rw [F_X1_become_4.eq_2, if_neg (by decide), show nI 0 + (1 : Int32) = nI 1 from rfl, n_ix (by decide) (by decide), n_cl (by decide), rm _ (by omega), dv _ (by omega)]
  rw [F_X1_become_4.eq_2, if_neg (by decide), show nI 1 + (1 : Int32) = nI 2 from rfl, n_ix (by decide) (by decide), n_cl (by decide), rm _ (by omega), dv _ (by omega)]
  rw [F_X1_become_4.eq_2, if_neg (by decide), show nI 2 + (1 : Int32) = nI 3 from rfl, n_ix (by decide) (by decide), n_cl (by decide), rm _ (by omega), dv _ (by omega)]
  rw [F_X1_become_4.eq_2, if_neg (by decide), show nI 3 + (1 : Int32) = nI 4 from rfl, n_ix (by decide) (by decide), n_cl (by decide), rm _ (by omega), dv _ (by omega)]
  rw [F_X1_become_4.eq_2, if_pos (by decide)]
  refine ⟨_, rfl, ?_⟩
  intro b hb
  refine sp_5 (P := fun b => upd (upd (upd (upd (upd h 0 (nI (N % 6) - 1)) 1 (nI (N / 6 % 6) - 1)) 2 (nI (N / 6 / 6 % 6) - 1)) 3 (nI (N / 6 / 6 / 6 % 6) - 1)) 4 (nI (N / 6 / 6 / 6 / 6 % 6) - 1) b = sp_h N b) ?_ ?_ ?_ ?_ ?_ hb <;> simp only [upd, sp_h, sp_d0, sp_d1, sp_d2, sp_d3, sp_d4, Nat.div_div_eq_div_mul] <;> simp
theorem sp_copy {h o : Nat → Int32} {N : Nat} (H : sp_R o N) : ∃ h', F_X1_copy h o = some h' ∧ sp_R h' N := by
  unfold F_X1_copy
  rw [show sw_fu = 9994 + 1 + 1 + 1 + 1 + 1 + 1 from rfl]
  rw [F_X1_copy_2.eq_2, if_neg (by decide), show (0 : Int32) = nI 0 from rfl, sp_holder H (by decide), n_b, n_ix (by decide) (by decide), n_cl (by decide)]
  rw [F_X1_copy_2.eq_2, if_neg (by decide), show nI 0 + (1 : Int32) = nI 1 from rfl, sp_holder H (by decide), n_b, n_ix (by decide) (by decide), n_cl (by decide)]
  rw [F_X1_copy_2.eq_2, if_neg (by decide), show nI 1 + (1 : Int32) = nI 2 from rfl, sp_holder H (by decide), n_b, n_ix (by decide) (by decide), n_cl (by decide)]
  rw [F_X1_copy_2.eq_2, if_neg (by decide), show nI 2 + (1 : Int32) = nI 3 from rfl, sp_holder H (by decide), n_b, n_ix (by decide) (by decide), n_cl (by decide)]
  rw [F_X1_copy_2.eq_2, if_neg (by decide), show nI 3 + (1 : Int32) = nI 4 from rfl, sp_holder H (by decide), n_b, n_ix (by decide) (by decide), n_cl (by decide)]
  rw [F_X1_copy_2.eq_2, if_pos (by decide)]
  refine ⟨_, rfl, ?_⟩
  intro b hb
  refine sp_5 (P := fun b => upd (upd (upd (upd (upd h 0 (sp_h N 0)) 1 (sp_h N 1)) 2 (sp_h N 2)) 3 (sp_h N 3)) 4 (sp_h N 4) b = sp_h N b) ?_ ?_ ?_ ?_ ?_ hb <;> simp [upd]
theorem sp_put {h : Nat → Int32} {N b t : Nat} (H : sp_R h N) (hN : N < 7776) (hb : b < 5) (ht : t < 5) : ∃ h', F_X1_put h (nI b) (nI t) = some h' ∧ sp_R h' (sp_rp N b (t + 1)) := by
  unfold F_X1_put
  rw [if_neg (nI_pos (by omega)), if_neg (by rw [n_le5 (by omega)]; omega), n_ix hb (by decide), n_cl (by omega)]
  refine ⟨_, rfl, ?_⟩
  rw [← n_s1 t]
  exact sp_upd H hN hb (by omega)
