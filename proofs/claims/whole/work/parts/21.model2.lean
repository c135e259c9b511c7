/-! walks: the reference: blocked, by whom, handing -/
theorem sp_st_T {a f : Nat} {k h : Nat → Nat} {i aw p : Nat} (oF : f < 4096) (hp : p < 24) (hc : sp_cn a f k h i (p / 12) aw (p % 12) = true) : sp_st a f k h i aw = true := by
  unfold sp_st
  rw [decide_eq_false]
  · rfl
  · intro z
    have hz : ∀ j, (sp_bs (fun q => sp_cn a f k h i 0 aw q) 12 ||| sp_bs (fun q => sp_cn a f k h i 1 aw q) 12).testBit j = false := fun j => by rw [z]; exact Nat.zero_testBit j
    have h1 := hz (p % 12)
    rw [Nat.testBit_or, sp_bs_cn oF, sp_bs_cn oF] at h1
    have h2 : p / 12 = 0 ∨ p / 12 = 1 := by omega
    rcases h2 with h2 | h2
    · rw [h2] at hc; rw [hc] at h1; cases h1
    · rw [h2] at hc; rw [hc, Bool.or_true] at h1; cases h1
theorem sp_st_F {a f : Nat} {k h : Nat → Nat} {i aw : Nat} (oF : f < 4096) (hc : ∀ p, p < 24 → sp_cn a f k h i (p / 12) aw (p % 12) = false) : sp_st a f k h i aw = false := by
  unfold sp_st
  rw [decide_eq_true]
  · rfl
  · apply sp_eq_bit
    intro j
    rw [Nat.testBit_or, sp_bs_cn oF, sp_bs_cn oF, Nat.zero_testBit]
    by_cases hj : j < 12
    · have h1 := hc j (by omega)
      have h2 := hc (12 + j) (by omega)
      rw [show j / 12 = 0 by omega, show j % 12 = j by omega] at h1
      rw [show (12 + j) / 12 = 1 by omega, show (12 + j) % 12 = j by omega] at h2
      rw [h1, h2]
      rfl
    · rw [sp_cn_big oF (by omega), sp_cn_big oF (by omega)]
      rfl
theorem sp_ht_comm (h : Nat → Nat) (x y : Nat) : sp_ht h x y = sp_ht h y x := by
  unfold sp_ht sp_nr
  rw [sp_ds_comm (h (2 * y)) (h (2 * x)), sp_ds_comm (h (2 * y + 1)) (h (2 * x)), sp_ds_comm (h (2 * y)) (h (2 * x + 1)), sp_ds_comm (h (2 * y + 1)) (h (2 * x + 1))]
  cases decide (sp_ds (h (2 * x)) (h (2 * y)) ≤ 2) <;> cases decide (sp_ds (h (2 * x)) (h (2 * y + 1)) ≤ 2) <;> cases decide (sp_ds (h (2 * x + 1)) (h (2 * y)) ≤ 2) <;> rfl
theorem sp_pg_skip {h : Nat → Nat} {a aw g A q : Nat} (hg : g.testBit A = false) : sp_pg h a aw g A q = sp_pg h a aw g (A + 1) q := by
  unfold sp_pg
  rw [List.range_succ, List.any_append]
  simp [sp_pc, hg]
theorem sp_tk_w {h : Nat → Nat} {a aw j q : Nat} (hq : (sp_tk h a aw j).testBit q = true) : ¬ q = aw := by
  unfold sp_tk at hq
  rw [sp_bs_bit] at hq
  simp only [Bool.and_eq_true, Bool.not_eq_true', decide_eq_false_iff_not] at hq
  exact hq.2.1
theorem sp_gv_w {h : Nat → Nat} {a aw g q : Nat} (hgw : ∀ q, g.testBit q = true → q < 4 → ¬ q = aw) (hq : (sp_gv h a aw g).testBit q = true) (hq4 : q < 4) : ¬ q = aw := by
  unfold sp_gv at hq
  rw [sp_bs_bit] at hq
  simp only [Bool.and_eq_true, Bool.or_eq_true, Bool.not_eq_true', decide_eq_false_iff_not] at hq
  rcases hq.2 with z | z
  · exact hgw q z hq4
  · exact z.1
/-- nobody of the first A who has the part is by the joint -/
def sp_nh (h : Nat → Nat) (g j A : Nat) : Prop := ∀ q, q < A → ¬ (g.testBit q = true ∧ sp_nr h q j 1 = true)
theorem sp_nh.s {h : Nat → Nat} {g j A : Nat} (hn : sp_nh h g j A) (h1 : g.testBit A = false ∨ sp_nr h A j 1 = false) : sp_nh h g j (A + 1) := by
  intro q hq z
  by_cases e : q = A
  · subst e
    rcases h1 with h1 | h1
    · rw [h1] at z; cases z.1
    · rw [h1] at z; cases z.2
  · exact hn q (by omega) z
theorem sp_and_tk {h : Nat → Nat} {a aw g j : Nat} (hg : g < 2 ^ a) (hn : sp_nh h g j a) : (g &&& sp_tk h a aw j) = 0 := by
  apply sp_eq_bit
  intro q
  rw [Nat.testBit_and, Nat.zero_testBit]
  unfold sp_tk
  rw [sp_bs_bit]
  by_cases hq : q < a
  · have h1 := hn q hq
    cases hb : g.testBit q with
    | false => rfl
    | true =>
      cases hc : sp_nr h q j 1 with
      | false => simp
      | true => exact absurd ⟨hb, hc⟩ h1
  · rw [decide_eq_false hq]
    simp
theorem sp_and_tk1 {h : Nat → Nat} {a aw g j q : Nat} (hq : q < a) (hb : g.testBit q = true) (hc : sp_nr h q j 1 = true) (hw : ¬ q = aw) : ¬ (g &&& sp_tk h a aw j) = 0 := by
  intro z
  have h1 : (g &&& sp_tk h a aw j).testBit q = false := by rw [z]; exact Nat.zero_testBit q
  rw [Nat.testBit_and, hb, Bool.true_and] at h1
  unfold sp_tk at h1
  rw [sp_bs_bit, decide_eq_true hq, hc, decide_eq_false hw] at h1
  cases h1

set_option maxHeartbeats 4000000 in
theorem t_hasStepn_loop {M : am_Mem} {a f hr hs lt : Nat} {k h : Nat → Nat} (hS : sp_M M a f hr hs lt k h) (hO : sp_ok a f hr lt k h) (oD : ∀ p q, p < 2 * a → q < 2 * a → h p = h q → p = q) {i : Nat} (hi : i < a)  : ∀ n p : Nat, n + p = 25 → p ≤ 24 → (∀ q, q < p → sp_cn a f k h i (q / 12) 9 (q % 12) = false) → am_go 128 (2, [.ref 17, .int (nI i), .int ((-nI 9)), .int (nI p)], [], M) (am_is (am_b (sp_st a f k h i 9)) M) := by
  obtain ⟨oA, oF, oHr, oLt, oK, oH⟩ := id hO
  intro n
  induction n with
  | zero => intro p h1 h2; omega
  | succ n ih =>
    intro p h1 h2 hz
    refine am_goR 2 (s2 := (5, [.ref 17, .int (nI i), .int ((-nI 9)), .int (nI p)], [.int (nI 24), .int (nI p)], M)) rfl ?_
    refine am_bLE (24) (p) (s1 := (33, [.ref 17, .int (nI i), .int ((-nI 9)), .int (nI p)], [], M)) (s2 := (8, [.ref 17, .int (nI i), .int ((-nI 9)), .int (nI p)], [], M)) rfl (by omega) (by omega) (fun c1 => ?_) (fun c1 => ?_)
    · refine am_goR 1 (s2 := (34, [.ref 17, .int (nI i), .int ((-nI 9)), .int (nI p)], [.int (nI 0)], M)) rfl ?_
      exact am_endz false _ rfl (sp_st_F oF (fun q hq => hz q (by omega))).symm rfl
    · refine am_goQ 9 (s1 := (19, [.ref 17, .int (nI i), .int ((-nI 9)), .int (nI p)], [.int ((-nI 9)), .int ((nI p - nI p / nI 12 * nI 12)), .int ((nI p / nI 12)), .int (nI i), .ref 17], M)) (s2 := (19, [.ref 17, .int (nI i), .int ((-nI 9)), .int (nI p)], [.int ((-nI 9)), .int (nI (p % 12)), .int (nI (p / 12)), .int (nI i), .ref 17], M)) rfl (by rw [pk_rem (a := p) (d := 12) (by omega) (by omega) (by omega)]; simp only [pk_div (a := p) (d := 12) (by omega) (by omega) (by omega)]) ?_
      refine am_goX (v := am_b (sp_cn a f k h i (p / 12) 9 (p % 12))) (M2 := M) (s2 := (22, [.ref 17, .int (nI i), .int ((-nI 9)), .int (nI p)], [], M)) rfl (t_canStepn hS hO oD (i := i) (b := (p / 12)) (j := (p % 12)) (by omega) (by omega) (by omega)) ?_
      refine am_bB0 (sp_cn a f k h i (p / 12) 9 (p % 12)) (s1 := (27, [.ref 17, .int (nI i), .int ((-nI 9)), .int (nI p)], [], M)) (s2 := (25, [.ref 17, .int (nI i), .int ((-nI 9)), .int (nI p)], [], M)) rfl (fun c2 => ?_) (fun c2 => ?_)
      · refine am_goQ 2 (s1 := (2, [.ref 17, .int (nI i), .int ((-nI 9)), .int ((nI p + nI 1))], [], M)) (s2 := (2, [.ref 17, .int (nI i), .int ((-nI 9)), .int (nI (p + 1))], [], M)) rfl (by simp only [nI_add]) ?_
        refine ih (p + 1) (by omega) (by omega) (fun q hq => ?_)
        by_cases eq : q = p
        · rw [eq]; assumption
        · exact hz q (by omega)
      · refine am_goR 1 (s2 := (26, [.ref 17, .int (nI i), .int ((-nI 9)), .int (nI p)], [.int (nI 1)], M)) rfl ?_
        exact am_endz true _ rfl (sp_st_T oF (by omega) (by assumption)).symm rfl
theorem t_hasStepn {M : am_Mem} {a f hr hs lt : Nat} {k h : Nat → Nat} (hS : sp_M M a f hr hs lt k h) (hO : sp_ok a f hr lt k h) (oD : ∀ p q, p < 2 * a → q < 2 * a → h p = h q → p = q) {i : Nat} (hi : i < a)  : am_go 128 (am_ent 128 [.ref 17, .int (nI i), .int ((-nI 9))] M) (am_is (am_b (sp_st a f k h i 9)) M) := by
  refine am_goR 2 (s2 := (2, [.ref 17, .int (nI i), .int ((-nI 9)), .int (nI 0)], [], M)) rfl ?_
  exact t_hasStepn_loop hS hO oD hi 25 0 (by omega) (by omega) (fun q hq => absurd hq (Nat.not_lt_zero q))
set_option maxHeartbeats 4000000 in
theorem t_hasStepw_loop {M : am_Mem} {a f hr hs lt : Nat} {k h : Nat → Nat} (hS : sp_M M a f hr hs lt k h) (hO : sp_ok a f hr lt k h) (oD : ∀ p q, p < 2 * a → q < 2 * a → h p = h q → p = q) {i : Nat} (hi : i < a) {w : Nat} (hw : w < 4) : ∀ n p : Nat, n + p = 25 → p ≤ 24 → (∀ q, q < p → sp_cn a f k h i (q / 12) w (q % 12) = false) → am_go 128 (2, [.ref 17, .int (nI i), .int (nI w), .int (nI p)], [], M) (am_is (am_b (sp_st a f k h i w)) M) := by
  obtain ⟨oA, oF, oHr, oLt, oK, oH⟩ := id hO
  intro n
  induction n with
  | zero => intro p h1 h2; omega
  | succ n ih =>
    intro p h1 h2 hz
    refine am_goR 2 (s2 := (5, [.ref 17, .int (nI i), .int (nI w), .int (nI p)], [.int (nI 24), .int (nI p)], M)) rfl ?_
    refine am_bLE (24) (p) (s1 := (33, [.ref 17, .int (nI i), .int (nI w), .int (nI p)], [], M)) (s2 := (8, [.ref 17, .int (nI i), .int (nI w), .int (nI p)], [], M)) rfl (by omega) (by omega) (fun c1 => ?_) (fun c1 => ?_)
    · refine am_goR 1 (s2 := (34, [.ref 17, .int (nI i), .int (nI w), .int (nI p)], [.int (nI 0)], M)) rfl ?_
      exact am_endz false _ rfl (sp_st_F oF (fun q hq => hz q (by omega))).symm rfl
    · refine am_goQ 9 (s1 := (19, [.ref 17, .int (nI i), .int (nI w), .int (nI p)], [.int (nI w), .int ((nI p - nI p / nI 12 * nI 12)), .int ((nI p / nI 12)), .int (nI i), .ref 17], M)) (s2 := (19, [.ref 17, .int (nI i), .int (nI w), .int (nI p)], [.int (nI w), .int (nI (p % 12)), .int (nI (p / 12)), .int (nI i), .ref 17], M)) rfl (by rw [pk_rem (a := p) (d := 12) (by omega) (by omega) (by omega)]; simp only [pk_div (a := p) (d := 12) (by omega) (by omega) (by omega)]) ?_
      refine am_goX (v := am_b (sp_cn a f k h i (p / 12) w (p % 12))) (M2 := M) (s2 := (22, [.ref 17, .int (nI i), .int (nI w), .int (nI p)], [], M)) rfl (t_canStepw hS hO oD (i := i) (b := (p / 12)) (j := (p % 12)) (by omega) (by omega) (by omega) (w := w) (by omega)) ?_
      refine am_bB0 (sp_cn a f k h i (p / 12) w (p % 12)) (s1 := (27, [.ref 17, .int (nI i), .int (nI w), .int (nI p)], [], M)) (s2 := (25, [.ref 17, .int (nI i), .int (nI w), .int (nI p)], [], M)) rfl (fun c2 => ?_) (fun c2 => ?_)
      · refine am_goQ 2 (s1 := (2, [.ref 17, .int (nI i), .int (nI w), .int ((nI p + nI 1))], [], M)) (s2 := (2, [.ref 17, .int (nI i), .int (nI w), .int (nI (p + 1))], [], M)) rfl (by simp only [nI_add]) ?_
        refine ih (p + 1) (by omega) (by omega) (fun q hq => ?_)
        by_cases eq : q = p
        · rw [eq]; assumption
        · exact hz q (by omega)
      · refine am_goR 1 (s2 := (26, [.ref 17, .int (nI i), .int (nI w), .int (nI p)], [.int (nI 1)], M)) rfl ?_
        exact am_endz true _ rfl (sp_st_T oF (by omega) (by assumption)).symm rfl
theorem t_hasStepw {M : am_Mem} {a f hr hs lt : Nat} {k h : Nat → Nat} (hS : sp_M M a f hr hs lt k h) (hO : sp_ok a f hr lt k h) (oD : ∀ p q, p < 2 * a → q < 2 * a → h p = h q → p = q) {i : Nat} (hi : i < a) {w : Nat} (hw : w < 4) : am_go 128 (am_ent 128 [.ref 17, .int (nI i), .int (nI w)] M) (am_is (am_b (sp_st a f k h i w)) M) := by
  refine am_goR 2 (s2 := (2, [.ref 17, .int (nI i), .int (nI w), .int (nI 0)], [], M)) rfl ?_
  exact t_hasStepw_loop hS hO oD hi hw 25 0 (by omega) (by omega) (fun q hq => absurd hq (Nat.not_lt_zero q))
set_option maxHeartbeats 4000000 in
theorem t_isBlocked {M : am_Mem} {a f hr hs lt : Nat} {k h : Nat → Nat} (hS : sp_M M a f hr hs lt k h) (hO : sp_ok a f hr lt k h) (oD : ∀ p q, p < 2 * a → q < 2 * a → h p = h q → p = q) {i : Nat} (hi : i < a) : am_go 129 (am_ent 129 [.ref 17, .int (nI i)] M) (am_is (am_b (sp_wk lt (k i) hr && !sp_st a f k h i 9)) M) := by
  obtain ⟨hF, hA, hHr, hHs, hLt, hK, hH⟩ := id hS
  obtain ⟨oA, oF, oHr, oLt, oK, oH⟩ := id hO
  refine am_goQ 4 (s1 := (6, [.ref 17, .int (nI i)], [.int ((M 17 5)), .int (nI i), .ref 17], M)) (s2 := (6, [.ref 17, .int (nI i)], [.int (nI hr), .int (nI i), .ref 17], M)) rfl (by simp only [hHr]) ?_
  refine am_goX (v := am_b (sp_wk lt (k i) hr)) (M2 := M) (s2 := (9, [.ref 17, .int (nI i)], [], M)) rfl (t_doesWork hS hO (i := i) (r := hr) (by omega) (by omega)) ?_
  refine am_bB0 (sp_wk lt (k i) hr) (s1 := (26, [.ref 17, .int (nI i)], [], M)) (s2 := (12, [.ref 17, .int (nI i)], [], M)) rfl (fun c1 => ?_) (fun c1 => ?_)
  · refine am_goR 1 (s2 := (27, [.ref 17, .int (nI i)], [.int (nI 0)], M)) rfl ?_
    exact am_endz false _ rfl (by first | (simp [*]; done) | (simp [*] <;> omega)) (rfl)
  · refine am_goR 3 (s2 := (16, [.ref 17, .int (nI i)], [.int ((-nI 9)), .int (nI i), .ref 17], M)) rfl ?_
    refine am_goX (v := am_b (sp_st a f k h i 9)) (M2 := M) (s2 := (19, [.ref 17, .int (nI i)], [], M)) rfl (t_hasStepn hS hO oD (i := i) (by omega)) ?_
    refine am_bB1 (sp_st a f k h i 9) (s1 := (26, [.ref 17, .int (nI i)], [], M)) (s2 := (22, [.ref 17, .int (nI i)], [], M)) rfl (fun c2 => ?_) (fun c2 => ?_)
    · refine am_goR 1 (s2 := (27, [.ref 17, .int (nI i)], [.int (nI 0)], M)) rfl ?_
      exact am_endz false _ rfl (by first | (simp [*]; done) | (simp [*] <;> omega)) (rfl)
    · refine am_goR 2 (s2 := (27, [.ref 17, .int (nI i)], [.int (nI 1)], M)) rfl ?_
      exact am_endz true _ rfl (by first | (simp [*]; done) | (simp [*] <;> omega)) (rfl)

set_option maxHeartbeats 4000000 in
theorem t_byBits_loop {M : am_Mem} {a f hr hs lt : Nat} {k h : Nat → Nat} (hS : sp_M M a f hr hs lt k h) (hO : sp_ok a f hr lt k h) (oD : ∀ p q, p < 2 * a → q < 2 * a → h p = h q → p = q) {i : Nat} (hi : i < a) : ∀ n p : Nat, n + p = a + 1 → p ≤ a → am_go 130 (4, [.ref 17, .int (nI i), .int (nI (sp_bs (fun q => !decide (q = i) && sp_st a f k h i q) p)), .int (nI p)], [], M) (am_is (nI (sp_bs (fun q => !decide (q = i) && sp_st a f k h i q) a)) M) := by
  obtain ⟨hF, hA, hHr, hHs, hLt, hK, hH⟩ := id hS
  obtain ⟨oA, oF, oHr, oLt, oK, oH⟩ := id hO
  intro n
  induction n with
  | zero => intro p  h1 h2; omega
  | succ n ih =>
    intro p  h1 h2
    refine am_goQ 3 (s1 := (9, [.ref 17, .int (nI i), .int (nI (sp_bs (fun q => !decide (q = i) && sp_st a f k h i q) p)), .int (nI p)], [.int ((M 17 3)), .int (nI p)], M)) (s2 := (9, [.ref 17, .int (nI i), .int (nI (sp_bs (fun q => !decide (q = i) && sp_st a f k h i q) p)), .int (nI p)], [.int (nI a), .int (nI p)], M)) rfl (by simp only [hA]) ?_
    refine am_bLE (a) (p) (s1 := (42, [.ref 17, .int (nI i), .int (nI (sp_bs (fun q => !decide (q = i) && sp_st a f k h i q) p)), .int (nI p)], [], M)) (s2 := (12, [.ref 17, .int (nI i), .int (nI (sp_bs (fun q => !decide (q = i) && sp_st a f k h i q) p)), .int (nI p)], [], M)) rfl (by omega) (by omega) (fun c1 => ?_) (fun c1 => ?_)
    · refine am_goR 1 (s2 := (43, [.ref 17, .int (nI i), .int (nI (sp_bs (fun q => !decide (q = i) && sp_st a f k h i q) p)), .int (nI p)], [.int (nI (sp_bs (fun q => !decide (q = i) && sp_st a f k h i q) p))], M)) rfl ?_
      exact am_ends (nI (sp_bs (fun q => !decide (q = i) && sp_st a f k h i q) p)) _ rfl (by rw [show p = a by omega]) (rfl)
    · refine am_goR 3 (s2 := (15, [.ref 17, .int (nI i), .int (nI (sp_bs (fun q => !decide (q = i) && sp_st a f k h i q) p)), .int (nI p)], [.int (nI i), .int (nI p), .int (nI (sp_bs (fun q => !decide (q = i) && sp_st a f k h i q) p))], M)) rfl ?_
      refine am_bEQ (p) (i) (s1 := (33, [.ref 17, .int (nI i), .int (nI (sp_bs (fun q => !decide (q = i) && sp_st a f k h i q) p)), .int (nI p)], [.int (nI (sp_bs (fun q => !decide (q = i) && sp_st a f k h i q) p))], M)) (s2 := (18, [.ref 17, .int (nI i), .int (nI (sp_bs (fun q => !decide (q = i) && sp_st a f k h i q) p)), .int (nI p)], [.int (nI (sp_bs (fun q => !decide (q = i) && sp_st a f k h i q) p))], M)) rfl (by omega) (by omega) (fun c2 => ?_) (fun c2 => ?_)
      · refine am_goQ 5 (s1 := (4, [.ref 17, .int (nI i), .int ((nI (sp_bs (fun q => !decide (q = i) && sp_st a f k h i q) p) ||| nI 0)), .int ((nI p + nI 1))], [], M)) (s2 := (4, [.ref 17, .int (nI i), .int (nI ((sp_bs (fun q => !decide (q = i) && sp_st a f k h i q) p) ||| 0)), .int (nI (p + 1))], [], M)) rfl (by simp only [am_or, nI_add]) ?_
        rw [show ((sp_bs (fun q => !decide (q = i) && sp_st a f k h i q) p) ||| 0) = sp_bs (fun q => !decide (q = i) && sp_st a f k h i q) (p + 1) from (Nat.or_zero _).trans (sp_bsN (by simp [*]; try omega))]
        exact ih (p + 1) (by omega) (by omega)
      · refine am_goR 3 (s2 := (21, [.ref 17, .int (nI i), .int (nI (sp_bs (fun q => !decide (q = i) && sp_st a f k h i q) p)), .int (nI p)], [.int (nI p), .int (nI i), .ref 17, .int (nI (sp_bs (fun q => !decide (q = i) && sp_st a f k h i q) p))], M)) rfl ?_
        refine am_goX (v := am_b (sp_st a f k h i p)) (M2 := M) (s2 := (24, [.ref 17, .int (nI i), .int (nI (sp_bs (fun q => !decide (q = i) && sp_st a f k h i q) p)), .int (nI p)], [.int (nI (sp_bs (fun q => !decide (q = i) && sp_st a f k h i q) p))], M)) rfl (t_hasStepw hS hO oD (i := i) (by omega) (w := p) (by omega)) ?_
        refine am_bB0 (sp_st a f k h i p) (s1 := (33, [.ref 17, .int (nI i), .int (nI (sp_bs (fun q => !decide (q = i) && sp_st a f k h i q) p)), .int (nI p)], [.int (nI (sp_bs (fun q => !decide (q = i) && sp_st a f k h i q) p))], M)) (s2 := (27, [.ref 17, .int (nI i), .int (nI (sp_bs (fun q => !decide (q = i) && sp_st a f k h i q) p)), .int (nI p)], [.int (nI (sp_bs (fun q => !decide (q = i) && sp_st a f k h i q) p))], M)) rfl (fun c3 => ?_) (fun c3 => ?_)
        · refine am_goQ 5 (s1 := (4, [.ref 17, .int (nI i), .int ((nI (sp_bs (fun q => !decide (q = i) && sp_st a f k h i q) p) ||| nI 0)), .int ((nI p + nI 1))], [], M)) (s2 := (4, [.ref 17, .int (nI i), .int (nI ((sp_bs (fun q => !decide (q = i) && sp_st a f k h i q) p) ||| 0)), .int (nI (p + 1))], [], M)) rfl (by simp only [am_or, nI_add]) ?_
          rw [show ((sp_bs (fun q => !decide (q = i) && sp_st a f k h i q) p) ||| 0) = sp_bs (fun q => !decide (q = i) && sp_st a f k h i q) (p + 1) from (Nat.or_zero _).trans (sp_bsN (by simp [*]; try omega))]
          exact ih (p + 1) (by omega) (by omega)
        · refine am_goQ 8 (s1 := (4, [.ref 17, .int (nI i), .int ((nI (sp_bs (fun q => !decide (q = i) && sp_st a f k h i q) p) ||| (nI 1 <<< (nI p &&& 31)))), .int ((nI p + nI 1))], [], M)) (s2 := (4, [.ref 17, .int (nI i), .int (nI ((sp_bs (fun q => !decide (q = i) && sp_st a f k h i q) p) ||| (2 ^ p))), .int (nI (p + 1))], [], M)) rfl (by simp only [am_shl1 (j := p) (by omega), am_or, nI_add]) ?_
          rw [show ((sp_bs (fun q => !decide (q = i) && sp_st a f k h i q) p) ||| (2 ^ p)) = sp_bs (fun q => !decide (q = i) && sp_st a f k h i q) (p + 1) from sp_bsP (by simp [*]; try omega)]
          exact ih (p + 1) (by omega) (by omega)

set_option maxHeartbeats 4000000 in
theorem t_byBits {M : am_Mem} {a f hr hs lt : Nat} {k h : Nat → Nat} (hS : sp_M M a f hr hs lt k h) (hO : sp_ok a f hr lt k h) (oD : ∀ p q, p < 2 * a → q < 2 * a → h p = h q → p = q) {i : Nat} (hi : i < a) : am_go 130 (am_ent 130 [.ref 17, .int (nI i)] M) (am_is (nI (sp_bs (fun q => !decide (q = i) && sp_st a f k h i q) a)) M) := by
  refine am_goR 4 (s2 := (4, [.ref 17, .int (nI i), .int (nI 0), .int (nI 0)], [], M)) rfl ?_
  exact t_byBits_loop hS hO oD hi (a + 1) 0 (by omega) (by omega)

set_option maxHeartbeats 4000000 in
theorem t_handedn_now {M : am_Mem} {a f hr hs lt : Nat} {k h : Nat → Nat} (hS : sp_M M a f hr hs lt k h) (hO : sp_ok a f hr lt k h) {j j2 : Nat} (hj : j < 12)  {Q : Option Value → am_Mem → Prop} (kk : am_go 142 (58, [.ref 17, .int (nI j), .int (nI j2), .int ((-nI 9)), .int (nI (sp_tk h a 9 j)), .int (nI a), .null, .null, .null], [], M) Q) : ∀ n p : Nat, n + p = a + 1 → p ≤ a → am_go 142 (13, [.ref 17, .int (nI j), .int (nI j2), .int ((-nI 9)), .int (nI (sp_bs (fun q => !decide (q = 9) && sp_nr h q j 1) p)), .int (nI p), .null, .null, .null], [], M) Q := by
  obtain ⟨hF, hA, hHr, hHs, hLt, hK, hH⟩ := id hS
  obtain ⟨oA, oF, oHr, oLt, oK, oH⟩ := id hO
  intro n
  induction n with
  | zero => intro p h1 h2; omega
  | succ n ih =>
    intro p h1 h2
    refine am_goQ 3 (s1 := (19, [.ref 17, .int (nI j), .int (nI j2), .int ((-nI 9)), .int (nI (sp_bs (fun q => !decide (q = 9) && sp_nr h q j 1) p)), .int (nI p), .null, .null, .null], [.int ((M 17 3)), .int (nI p)], M)) (s2 := (19, [.ref 17, .int (nI j), .int (nI j2), .int ((-nI 9)), .int (nI (sp_bs (fun q => !decide (q = 9) && sp_nr h q j 1) p)), .int (nI p), .null, .null, .null], [.int (nI a), .int (nI p)], M)) rfl (by simp only [hA]) ?_
    refine am_bLE (a) (p) (s1 := (58, [.ref 17, .int (nI j), .int (nI j2), .int ((-nI 9)), .int (nI (sp_bs (fun q => !decide (q = 9) && sp_nr h q j 1) p)), .int (nI p), .null, .null, .null], [], M)) (s2 := (22, [.ref 17, .int (nI j), .int (nI j2), .int ((-nI 9)), .int (nI (sp_bs (fun q => !decide (q = 9) && sp_nr h q j 1) p)), .int (nI p), .null, .null, .null], [], M)) rfl (by omega) (by omega) (fun c1 => ?_) (fun c1 => ?_)
    · have ep : p = a := by omega
      rw [ep]
      exact kk
    · refine am_goR 3 (s2 := (27, [.ref 17, .int (nI j), .int (nI j2), .int ((-nI 9)), .int (nI (sp_bs (fun q => !decide (q = 9) && sp_nr h q j 1) p)), .int (nI p), .null, .null, .null], [.int ((-nI 9)), .int (nI p), .int (nI (sp_bs (fun q => !decide (q = 9) && sp_nr h q j 1) p))], M)) rfl ?_
      refine am_bF (s1 := (48, [.ref 17, .int (nI j), .int (nI j2), .int ((-nI 9)), .int (nI (sp_bs (fun q => !decide (q = 9) && sp_nr h q j 1) p)), .int (nI p), .null, .null, .null], [.int (nI (sp_bs (fun q => !decide (q = 9) && sp_nr h q j 1) p))], M)) (s2 := (30, [.ref 17, .int (nI j), .int (nI j2), .int ((-nI 9)), .int (nI (sp_bs (fun q => !decide (q = 9) && sp_nr h q j 1) p)), .int (nI p), .null, .null, .null], [.int (nI (sp_bs (fun q => !decide (q = 9) && sp_nr h q j 1) p))], M)) rfl (am_nm_ne (x := p) (m := 9) (by omega) (by decide) (by decide)) ?_
      refine am_goR 4 (s2 := (35, [.ref 17, .int (nI j), .int (nI j2), .int ((-nI 9)), .int (nI (sp_bs (fun q => !decide (q = 9) && sp_nr h q j 1) p)), .int (nI p), .null, .null, .null], [.int (nI 1), .int (nI j), .int (nI p), .ref 17, .int (nI (sp_bs (fun q => !decide (q = 9) && sp_nr h q j 1) p))], M)) rfl ?_
      refine am_goX (v := am_b (sp_nr h p j 1)) (M2 := M) (s2 := (38, [.ref 17, .int (nI j), .int (nI j2), .int ((-nI 9)), .int (nI (sp_bs (fun q => !decide (q = 9) && sp_nr h q j 1) p)), .int (nI p), .null, .null, .null], [.int (nI (sp_bs (fun q => !decide (q = 9) && sp_nr h q j 1) p))], M)) rfl (t_near hS hO (i := p) (j := j) (m := 1) (by omega) (by omega) (by omega)) ?_
      refine am_bB0 (sp_nr h p j 1) (s1 := (48, [.ref 17, .int (nI j), .int (nI j2), .int ((-nI 9)), .int (nI (sp_bs (fun q => !decide (q = 9) && sp_nr h q j 1) p)), .int (nI p), .null, .null, .null], [.int (nI (sp_bs (fun q => !decide (q = 9) && sp_nr h q j 1) p))], M)) (s2 := (41, [.ref 17, .int (nI j), .int (nI j2), .int ((-nI 9)), .int (nI (sp_bs (fun q => !decide (q = 9) && sp_nr h q j 1) p)), .int (nI p), .null, .null, .null], [.int (nI (sp_bs (fun q => !decide (q = 9) && sp_nr h q j 1) p))], M)) rfl (fun c2 => ?_) (fun c2 => ?_)
      · refine am_goQ 5 (s1 := (13, [.ref 17, .int (nI j), .int (nI j2), .int ((-nI 9)), .int ((nI (sp_bs (fun q => !decide (q = 9) && sp_nr h q j 1) p) ||| nI 0)), .int ((nI p + nI 1)), .null, .null, .null], [], M)) (s2 := (13, [.ref 17, .int (nI j), .int (nI j2), .int ((-nI 9)), .int (nI ((sp_bs (fun q => !decide (q = 9) && sp_nr h q j 1) p) ||| 0)), .int (nI (p + 1)), .null, .null, .null], [], M)) rfl (by simp only [am_or, nI_add]) ?_
        rw [show ((sp_bs (fun q => !decide (q = 9) && sp_nr h q j 1) p) ||| 0) = sp_bs (fun q => !decide (q = 9) && sp_nr h q j 1) (p + 1) from (Nat.or_zero _).trans (sp_bsN (by simp [*]; try omega))]
        exact ih (p + 1) (by omega) (by omega)
      · refine am_goQ 8 (s1 := (13, [.ref 17, .int (nI j), .int (nI j2), .int ((-nI 9)), .int ((nI (sp_bs (fun q => !decide (q = 9) && sp_nr h q j 1) p) ||| (nI 1 <<< (nI p &&& 31)))), .int ((nI p + nI 1)), .null, .null, .null], [], M)) (s2 := (13, [.ref 17, .int (nI j), .int (nI j2), .int ((-nI 9)), .int (nI ((sp_bs (fun q => !decide (q = 9) && sp_nr h q j 1) p) ||| (2 ^ p))), .int (nI (p + 1)), .null, .null, .null], [], M)) rfl (by simp only [am_shl1 (j := p) (by omega), am_or, nI_add]) ?_
        rw [show ((sp_bs (fun q => !decide (q = 9) && sp_nr h q j 1) p) ||| (2 ^ p)) = sp_bs (fun q => !decide (q = 9) && sp_nr h q j 1) (p + 1) from sp_bsP (by simp [*]; try omega)]
        exact ih (p + 1) (by omega) (by omega)
set_option maxHeartbeats 4000000 in
theorem t_handedn_in {M : am_Mem} {a f hr hs lt : Nat} {k h : Nat → Nat} (hS : sp_M M a f hr hs lt k h) (hO : sp_ok a f hr lt k h) {j j2 m : Nat}  {Q : Option Value → am_Mem → Prop} {g G : Nat} (hg : g < 16) (hG : G < a) (hgG : g.testBit G = true) (kk : ∀ bits : Nat, bits < 16 → (∀ q, bits.testBit q = sp_pg h a 9 g (G + 1) q) → am_go 142 (161, [.ref 17, .int (nI j), .int (nI j2), .int ((-nI 9)), .int (nI g), .int (nI m), .int (nI bits), .int (nI G), .int (nI a)], [], M) Q) : ∀ n A bits : Nat, bits < 16 → (∀ q, bits.testBit q = sp_pi h a 9 g G A q) → n + A = a + 1 → A ≤ a → am_go 142 (116, [.ref 17, .int (nI j), .int (nI j2), .int ((-nI 9)), .int (nI g), .int (nI m), .int (nI bits), .int (nI G), .int (nI A)], [], M) Q := by
  obtain ⟨hF, hA, hHr, hHs, hLt, hK, hH⟩ := id hS
  obtain ⟨oA, oF, oHr, oLt, oK, oH⟩ := id hO
  intro n
  induction n with
  | zero => intro A bits hb4 hb h1 h2; omega
  | succ n ih =>
    intro A bits hb4 hb h1 h2
    refine am_goQ 3 (s1 := (122, [.ref 17, .int (nI j), .int (nI j2), .int ((-nI 9)), .int (nI g), .int (nI m), .int (nI bits), .int (nI G), .int (nI A)], [.int ((M 17 3)), .int (nI A)], M)) (s2 := (122, [.ref 17, .int (nI j), .int (nI j2), .int ((-nI 9)), .int (nI g), .int (nI m), .int (nI bits), .int (nI G), .int (nI A)], [.int (nI a), .int (nI A)], M)) rfl (by simp only [hA]) ?_
    refine am_bLE (a) (A) (s1 := (161, [.ref 17, .int (nI j), .int (nI j2), .int ((-nI 9)), .int (nI g), .int (nI m), .int (nI bits), .int (nI G), .int (nI A)], [], M)) (s2 := (125, [.ref 17, .int (nI j), .int (nI j2), .int ((-nI 9)), .int (nI g), .int (nI m), .int (nI bits), .int (nI G), .int (nI A)], [], M)) rfl (by omega) (by omega) (fun c1 => ?_) (fun c1 => ?_)
    · have eA : A = a := by omega
      subst eA
      exact kk bits hb4 (fun q => (hb q).trans (sp_piS h A 9 g G q))
    · refine am_goR 3 (s2 := (130, [.ref 17, .int (nI j), .int (nI j2), .int ((-nI 9)), .int (nI g), .int (nI m), .int (nI bits), .int (nI G), .int (nI A)], [.int ((-nI 9)), .int (nI A), .int (nI bits)], M)) rfl ?_
      refine am_bF (s1 := (151, [.ref 17, .int (nI j), .int (nI j2), .int ((-nI 9)), .int (nI g), .int (nI m), .int (nI bits), .int (nI G), .int (nI A)], [.int (nI bits)], M)) (s2 := (133, [.ref 17, .int (nI j), .int (nI j2), .int ((-nI 9)), .int (nI g), .int (nI m), .int (nI bits), .int (nI G), .int (nI A)], [.int (nI bits)], M)) rfl (am_nm_ne (x := A) (m := 9) (by omega) (by decide) (by decide)) ?_
      refine am_goR 3 (s2 := (138, [.ref 17, .int (nI j), .int (nI j2), .int ((-nI 9)), .int (nI g), .int (nI m), .int (nI bits), .int (nI G), .int (nI A)], [.int (nI A), .int (nI G), .ref 17, .int (nI bits)], M)) rfl ?_
      refine am_goX (v := am_b (sp_ht h A G)) (M2 := M) (s2 := (141, [.ref 17, .int (nI j), .int (nI j2), .int ((-nI 9)), .int (nI g), .int (nI m), .int (nI bits), .int (nI G), .int (nI A)], [.int (nI bits)], M)) rfl (t_canHand hS hO (i := G) (i2 := A) (by omega) (by omega)) ?_
      refine am_bB0 (sp_ht h A G) (s1 := (151, [.ref 17, .int (nI j), .int (nI j2), .int ((-nI 9)), .int (nI g), .int (nI m), .int (nI bits), .int (nI G), .int (nI A)], [.int (nI bits)], M)) (s2 := (144, [.ref 17, .int (nI j), .int (nI j2), .int ((-nI 9)), .int (nI g), .int (nI m), .int (nI bits), .int (nI G), .int (nI A)], [.int (nI bits)], M)) rfl (fun c2 => ?_) (fun c2 => ?_)
      · refine am_goQ 5 (s1 := (116, [.ref 17, .int (nI j), .int (nI j2), .int ((-nI 9)), .int (nI g), .int (nI m), .int ((nI bits ||| nI 0)), .int (nI G), .int ((nI A + nI 1))], [], M)) (s2 := (116, [.ref 17, .int (nI j), .int (nI j2), .int ((-nI 9)), .int (nI g), .int (nI m), .int (nI (bits ||| 0)), .int (nI G), .int (nI (A + 1))], [], M)) rfl (by simp only [am_or, nI_add]) ?_
        rw [Nat.or_zero]
        exact ih (A + 1) bits hb4 (sp_pi_no hb (by unfold sp_pc; rw [sp_ht_comm]; simp [*]; try omega)) (by omega) (by omega)
      · refine am_goQ 8 (s1 := (116, [.ref 17, .int (nI j), .int (nI j2), .int ((-nI 9)), .int (nI g), .int (nI m), .int ((nI bits ||| (nI 1 <<< (nI A &&& 31)))), .int (nI G), .int ((nI A + nI 1))], [], M)) (s2 := (116, [.ref 17, .int (nI j), .int (nI j2), .int ((-nI 9)), .int (nI g), .int (nI m), .int (nI (bits ||| (2 ^ A))), .int (nI G), .int (nI (A + 1))], [], M)) rfl (by simp only [am_shl1 (j := A) (by omega), am_or, nI_add]) ?_
        exact ih (A + 1) (bits ||| (2 ^ A)) (sp_or4 hb4 (by omega)) (sp_pi_yes hb (by unfold sp_pc; rw [sp_ht_comm]; simp [*]; try omega)) (by omega) (by omega)
set_option maxHeartbeats 4000000 in
theorem t_handedn_mid {M : am_Mem} {a f hr hs lt : Nat} {k h : Nat → Nat} (hS : sp_M M a f hr hs lt k h) (hO : sp_ok a f hr lt k h) {j j2 m : Nat} (hj2 : j2 < 12)  {Q : Option Value → am_Mem → Prop} {g : Nat} (hg : g < 16) (hga : g < 2 ^ a) (hgw : ∀ q, g.testBit q = true → q < 4 → ¬ q = 9) (kk1 : ¬ (g &&& sp_tk h a 9 j2) = 0 → ∀ s : am_St, am_go 142 s (am_is (nI m) M) → am_go 142 s Q)
    (kk0 : ∀ v8 : Value, (g &&& sp_tk h a 9 j2) = 0 → ∀ bits : Nat, bits < 16 → (∀ q, bits.testBit q = sp_pg h a 9 g a q) → am_go 142 (167, [.ref 17, .int (nI j), .int (nI j2), .int ((-nI 9)), .int (nI g), .int (nI m), .int (nI bits), .int (nI a), v8], [], M) Q) : ∀ n G bits : Nat, ∀ v8 : Value, bits < 16 → (∀ q, bits.testBit q = sp_pg h a 9 g G q) → sp_nh h g j2 G → n + G = a + 1 → G ≤ a → am_go 142 (77, [.ref 17, .int (nI j), .int (nI j2), .int ((-nI 9)), .int (nI g), .int (nI m), .int (nI bits), .int (nI G), v8], [], M) Q := by
  obtain ⟨hF, hA, hHr, hHs, hLt, hK, hH⟩ := id hS
  obtain ⟨oA, oF, oHr, oLt, oK, oH⟩ := id hO
  intro n
  induction n with
  | zero => intro G bits v8 hb4 hb hn h1 h2; omega
  | succ n ih =>
    intro G bits v8 hb4 hb hn h1 h2
    refine am_goQ 3 (s1 := (83, [.ref 17, .int (nI j), .int (nI j2), .int ((-nI 9)), .int (nI g), .int (nI m), .int (nI bits), .int (nI G), v8], [.int ((M 17 3)), .int (nI G)], M)) (s2 := (83, [.ref 17, .int (nI j), .int (nI j2), .int ((-nI 9)), .int (nI g), .int (nI m), .int (nI bits), .int (nI G), v8], [.int (nI a), .int (nI G)], M)) rfl (by simp only [hA]) ?_
    refine am_bLE (a) (G) (s1 := (167, [.ref 17, .int (nI j), .int (nI j2), .int ((-nI 9)), .int (nI g), .int (nI m), .int (nI bits), .int (nI G), v8], [], M)) (s2 := (86, [.ref 17, .int (nI j), .int (nI j2), .int ((-nI 9)), .int (nI g), .int (nI m), .int (nI bits), .int (nI G), v8], [], M)) rfl (by omega) (by omega) (fun c1 => ?_) (fun c1 => ?_)
    · have eG : G = a := by omega
      subst eG
      exact kk0 v8 (sp_and_tk hga hn) bits hb4 hb
    · refine am_goQ 5 (s1 := (93, [.ref 17, .int (nI j), .int (nI j2), .int ((-nI 9)), .int (nI g), .int (nI m), .int (nI bits), .int (nI G), v8], [.int (((nI g >>> (nI G &&& 31)) &&& nI 1))], M)) (s2 := (93, [.ref 17, .int (nI j), .int (nI j2), .int ((-nI 9)), .int (nI g), .int (nI m), .int (nI bits), .int (nI G), v8], [.int (am_b (g.testBit G))], M)) rfl (by simp only [am_shr (x := g) (j := G) (by omega) (by omega), am_and, am_bit]) ?_
      refine am_bB1 (g.testBit G) (s1 := (99, [.ref 17, .int (nI j), .int (nI j2), .int ((-nI 9)), .int (nI g), .int (nI m), .int (nI bits), .int (nI G), v8], [], M)) (s2 := (96, [.ref 17, .int (nI j), .int (nI j2), .int ((-nI 9)), .int (nI g), .int (nI m), .int (nI bits), .int (nI G), v8], [], M)) rfl (fun c2 => ?_) (fun c2 => ?_)
      · refine am_goR 4 (s2 := (104, [.ref 17, .int (nI j), .int (nI j2), .int ((-nI 9)), .int (nI g), .int (nI m), .int (nI bits), .int (nI G), v8], [.int (nI 1), .int (nI j2), .int (nI G), .ref 17], M)) rfl ?_
        refine am_goX (v := am_b (sp_nr h G j2 1)) (M2 := M) (s2 := (107, [.ref 17, .int (nI j), .int (nI j2), .int ((-nI 9)), .int (nI g), .int (nI m), .int (nI bits), .int (nI G), v8], [], M)) rfl (t_near hS hO (i := G) (j := j2) (m := 1) (by omega) (by omega) (by omega)) ?_
        refine am_bB0 (sp_nr h G j2 1) (s1 := (113, [.ref 17, .int (nI j), .int (nI j2), .int ((-nI 9)), .int (nI g), .int (nI m), .int (nI bits), .int (nI G), v8], [], M)) (s2 := (110, [.ref 17, .int (nI j), .int (nI j2), .int ((-nI 9)), .int (nI g), .int (nI m), .int (nI bits), .int (nI G), v8], [], M)) rfl (fun c3 => ?_) (fun c3 => ?_)
        · refine am_goR 2 (s2 := (116, [.ref 17, .int (nI j), .int (nI j2), .int ((-nI 9)), .int (nI g), .int (nI m), .int (nI bits), .int (nI G), .int (nI 0)], [], M)) rfl ?_
          exact t_handedn_in hS hO hg (by omega) (by assumption) (fun bits2 b1 b2 => am_goQ 2 (s1 := (77, [.ref 17, .int (nI j), .int (nI j2), .int ((-nI 9)), .int (nI g), .int (nI m), .int (nI bits2), .int (nI G + nI 1), .int (nI a)], [], M)) (s2 := (77, [.ref 17, .int (nI j), .int (nI j2), .int ((-nI 9)), .int (nI g), .int (nI m), .int (nI bits2), .int (nI (G + 1)), .int (nI a)], [], M)) rfl (by simp only [nI_add]) (ih (G + 1) bits2 _ b1 b2 (sp_nh.s hn (Or.inr (by assumption))) (by omega) (by omega))) (a + 1) 0 bits hb4 (fun q => (hb q).trans (sp_pi0 h a 9 g G q).symm) (by omega) (by omega)
        · refine am_goR 1 (s2 := (112, [.ref 17, .int (nI j), .int (nI j2), .int ((-nI 9)), .int (nI g), .int (nI m), .int (nI bits), .int (nI G), v8], [.int (nI m)], M)) rfl ?_
          refine kk1 (sp_and_tk1 (q := G) (by omega) (by assumption) (by assumption) (hgw G (by assumption) (by omega))) _ ?_
          exact am_ends (nI m) _ rfl rfl rfl
      · refine am_goQ 3 (s1 := (77, [.ref 17, .int (nI j), .int (nI j2), .int ((-nI 9)), .int (nI g), .int (nI m), .int (nI bits), .int ((nI G + nI 1)), v8], [], M)) (s2 := (77, [.ref 17, .int (nI j), .int (nI j2), .int ((-nI 9)), .int (nI g), .int (nI m), .int (nI bits), .int (nI (G + 1)), v8], [], M)) rfl (by simp only [nI_add]) ?_
        exact ih (G + 1) bits v8 hb4 (fun q => (hb q).trans (sp_pg_skip (by assumption))) (sp_nh.s hn (Or.inl (by assumption))) (by omega) (by omega)
set_option maxHeartbeats 4000000 in
theorem t_handedn_loop {M : am_Mem} {a f hr hs lt : Nat} {k h : Nat → Nat} (hS : sp_M M a f hr hs lt k h) (hO : sp_ok a f hr lt k h) {j j2 : Nat} (hj2 : j2 < 12)  : ∀ n m g : Nat, ∀ v6 v7 v8 : Value, g < 2 ^ a → (∀ q, g.testBit q = true → q < 4 → ¬ q = 9) → n + m = a + 1 → 1 ≤ m → am_go 142 (61, [.ref 17, .int (nI j), .int (nI j2), .int ((-nI 9)), .int (nI g), .int (nI m), v6, v7, v8], [], M) (am_is (sp_oi (sp_hn h a 9 (sp_tk h a 9 j2) n g m)) M) := by
  obtain ⟨hF, hA, hHr, hHs, hLt, hK, hH⟩ := id hS
  obtain ⟨oA, oF, oHr, oLt, oK, oH⟩ := id hO
  intro n
  induction n with
  | zero =>
    intro m g v6 v7 v8 hga hgw h1 h2
    refine am_goQ 3 (s1 := (67, [.ref 17, .int (nI j), .int (nI j2), .int ((-nI 9)), .int (nI g), .int (nI m), v6, v7, v8], [.int ((M 17 3)), .int (nI m)], M)) (s2 := (67, [.ref 17, .int (nI j), .int (nI j2), .int ((-nI 9)), .int (nI g), .int (nI m), v6, v7, v8], [.int (nI a), .int (nI m)], M)) rfl (by simp only [hA]) ?_
    refine am_bLT (a) (m) (s1 := (177, [.ref 17, .int (nI j), .int (nI j2), .int ((-nI 9)), .int (nI g), .int (nI m), v6, v7, v8], [], M)) (s2 := (70, [.ref 17, .int (nI j), .int (nI j2), .int ((-nI 9)), .int (nI g), .int (nI m), v6, v7, v8], [], M)) rfl (by omega) (by omega) (fun c1 => ?_) (fun c1 => absurd c1 (by omega))
    refine am_goR 1 (s2 := (179, [.ref 17, .int (nI j), .int (nI j2), .int ((-nI 9)), .int (nI g), .int (nI m), v6, v7, v8], [.int ((-nI 9))], M)) rfl ?_
    exact am_ends (-nI 9) _ rfl rfl rfl
  | succ n ih =>
    intro m g v6 v7 v8 hga hgw h1 h2
    refine am_goQ 3 (s1 := (67, [.ref 17, .int (nI j), .int (nI j2), .int ((-nI 9)), .int (nI g), .int (nI m), v6, v7, v8], [.int ((M 17 3)), .int (nI m)], M)) (s2 := (67, [.ref 17, .int (nI j), .int (nI j2), .int ((-nI 9)), .int (nI g), .int (nI m), v6, v7, v8], [.int (nI a), .int (nI m)], M)) rfl (by simp only [hA]) ?_
    refine am_bLT (a) (m) (s1 := (177, [.ref 17, .int (nI j), .int (nI j2), .int ((-nI 9)), .int (nI g), .int (nI m), v6, v7, v8], [], M)) (s2 := (70, [.ref 17, .int (nI j), .int (nI j2), .int ((-nI 9)), .int (nI g), .int (nI m), v6, v7, v8], [], M)) rfl (by omega) (by omega) (fun c1 => absurd c1 (by omega)) (fun c1 => ?_)
    refine am_goR 4 (s2 := (77, [.ref 17, .int (nI j), .int (nI j2), .int ((-nI 9)), .int (nI g), .int (nI m), .int (nI g), .int (nI 0), v8], [], M)) rfl ?_
    refine t_handedn_mid hS hO (m := m) hj2 (sp_p16 oA hga) hga hgw (fun hne s hs => by rw [sp_hn, if_neg hne]; exact hs) (fun w8 hz bits b1 b2 => ?_) (a + 1) 0 g v8 (sp_p16 oA hga) (fun q => by simp [sp_pg]) (fun q hq => absurd hq (Nat.not_lt_zero q)) (by omega) (by omega)
    have eb := sp_pg_gv hga b2
    subst eb
    rw [sp_hn, if_pos hz]
    refine am_goQ 4 (s1 := (61, [.ref 17, .int (nI j), .int (nI j2), .int ((-nI 9)), .int (nI (sp_gv h a 9 g)), .int (nI m + nI 1), .int (nI (sp_gv h a 9 g)), .int (nI a), w8], [], M)) (s2 := (61, [.ref 17, .int (nI j), .int (nI j2), .int ((-nI 9)), .int (nI (sp_gv h a 9 g)), .int (nI (m + 1)), .int (nI (sp_gv h a 9 g)), .int (nI a), w8], [], M)) rfl (by simp only [nI_add]) ?_
    exact ih (m + 1) (sp_gv h a 9 g) _ _ _ (sp_gv_lt h a _ g) (fun q hq hq4 => sp_gv_w hgw hq hq4) (by omega) (by omega)
set_option maxHeartbeats 4000000 in
theorem t_handedn {M : am_Mem} {a f hr hs lt : Nat} {k h : Nat → Nat} (hS : sp_M M a f hr hs lt k h) (hO : sp_ok a f hr lt k h) {j j2 : Nat} (hj : j < 12) (hj2 : j2 < 12)  : am_go 142 (am_ent 142 [.ref 17, .int (nI j), .int (nI j2), .int ((-nI 9))] M) (am_is (sp_oi (if j = j2 then some 0 else sp_hn h a 9 (sp_tk h a 9 j2) a (sp_tk h a 9 j) 1)) M) := by
  obtain ⟨hF, hA, hHr, hHs, hLt, hK, hH⟩ := id hS
  obtain ⟨oA, oF, oHr, oLt, oK, oH⟩ := id hO
  refine am_goR 2 (s2 := (2, [.ref 17, .int (nI j), .int (nI j2), .int ((-nI 9)), .null, .null, .null, .null, .null], [.int (nI j2), .int (nI j)], M)) rfl ?_
  refine am_bNE (j) (j2) (s1 := (7, [.ref 17, .int (nI j), .int (nI j2), .int ((-nI 9)), .null, .null, .null, .null, .null], [], M)) (s2 := (5, [.ref 17, .int (nI j), .int (nI j2), .int ((-nI 9)), .null, .null, .null, .null, .null], [], M)) rfl (by omega) (by omega) (fun c1 => ?_) (fun c1 => ?_)
  · refine am_goR 4 (s2 := (13, [.ref 17, .int (nI j), .int (nI j2), .int ((-nI 9)), .int (nI 0), .int (nI 0), .null, .null, .null], [], M)) rfl ?_
    rw [if_neg (by assumption)]
    refine t_handedn_now hS hO hj (am_goR 2 (s2 := (61, [.ref 17, .int (nI j), .int (nI j2), .int ((-nI 9)), .int (nI (sp_tk h a 9 j)), .int (nI 1), .null, .null, .null], [], M)) rfl ?_) (a + 1) 0 (by omega) (by omega)
    exact t_handedn_loop hS hO hj2 a 1 _ _ _ _ (sp_tk_lt h a _ j) (fun q hq hq4 => sp_tk_w hq) (by omega) (by omega)
  · refine am_goR 1 (s2 := (6, [.ref 17, .int (nI j), .int (nI j2), .int ((-nI 9)), .null, .null, .null, .null, .null], [.int (nI 0)], M)) rfl ?_
    rw [if_pos (by assumption)]
    exact am_ends (nI 0) _ rfl rfl rfl

set_option maxHeartbeats 4000000 in
theorem t_handedw_now {M : am_Mem} {a f hr hs lt : Nat} {k h : Nat → Nat} (hS : sp_M M a f hr hs lt k h) (hO : sp_ok a f hr lt k h) {j j2 : Nat} (hj : j < 12) {w : Nat} (hw : w < 4) {Q : Option Value → am_Mem → Prop} (kk : am_go 142 (58, [.ref 17, .int (nI j), .int (nI j2), .int (nI w), .int (nI (sp_tk h a w j)), .int (nI a), .null, .null, .null], [], M) Q) : ∀ n p : Nat, n + p = a + 1 → p ≤ a → am_go 142 (13, [.ref 17, .int (nI j), .int (nI j2), .int (nI w), .int (nI (sp_bs (fun q => !decide (q = w) && sp_nr h q j 1) p)), .int (nI p), .null, .null, .null], [], M) Q := by
  obtain ⟨hF, hA, hHr, hHs, hLt, hK, hH⟩ := id hS
  obtain ⟨oA, oF, oHr, oLt, oK, oH⟩ := id hO
  intro n
  induction n with
  | zero => intro p h1 h2; omega
  | succ n ih =>
    intro p h1 h2
    refine am_goQ 3 (s1 := (19, [.ref 17, .int (nI j), .int (nI j2), .int (nI w), .int (nI (sp_bs (fun q => !decide (q = w) && sp_nr h q j 1) p)), .int (nI p), .null, .null, .null], [.int ((M 17 3)), .int (nI p)], M)) (s2 := (19, [.ref 17, .int (nI j), .int (nI j2), .int (nI w), .int (nI (sp_bs (fun q => !decide (q = w) && sp_nr h q j 1) p)), .int (nI p), .null, .null, .null], [.int (nI a), .int (nI p)], M)) rfl (by simp only [hA]) ?_
    refine am_bLE (a) (p) (s1 := (58, [.ref 17, .int (nI j), .int (nI j2), .int (nI w), .int (nI (sp_bs (fun q => !decide (q = w) && sp_nr h q j 1) p)), .int (nI p), .null, .null, .null], [], M)) (s2 := (22, [.ref 17, .int (nI j), .int (nI j2), .int (nI w), .int (nI (sp_bs (fun q => !decide (q = w) && sp_nr h q j 1) p)), .int (nI p), .null, .null, .null], [], M)) rfl (by omega) (by omega) (fun c1 => ?_) (fun c1 => ?_)
    · have ep : p = a := by omega
      rw [ep]
      exact kk
    · refine am_goR 3 (s2 := (27, [.ref 17, .int (nI j), .int (nI j2), .int (nI w), .int (nI (sp_bs (fun q => !decide (q = w) && sp_nr h q j 1) p)), .int (nI p), .null, .null, .null], [.int (nI w), .int (nI p), .int (nI (sp_bs (fun q => !decide (q = w) && sp_nr h q j 1) p))], M)) rfl ?_
      refine am_bEQ (p) (w) (s1 := (48, [.ref 17, .int (nI j), .int (nI j2), .int (nI w), .int (nI (sp_bs (fun q => !decide (q = w) && sp_nr h q j 1) p)), .int (nI p), .null, .null, .null], [.int (nI (sp_bs (fun q => !decide (q = w) && sp_nr h q j 1) p))], M)) (s2 := (30, [.ref 17, .int (nI j), .int (nI j2), .int (nI w), .int (nI (sp_bs (fun q => !decide (q = w) && sp_nr h q j 1) p)), .int (nI p), .null, .null, .null], [.int (nI (sp_bs (fun q => !decide (q = w) && sp_nr h q j 1) p))], M)) rfl (by omega) (by omega) (fun c2 => ?_) (fun c2 => ?_)
      · refine am_goQ 5 (s1 := (13, [.ref 17, .int (nI j), .int (nI j2), .int (nI w), .int ((nI (sp_bs (fun q => !decide (q = w) && sp_nr h q j 1) p) ||| nI 0)), .int ((nI p + nI 1)), .null, .null, .null], [], M)) (s2 := (13, [.ref 17, .int (nI j), .int (nI j2), .int (nI w), .int (nI ((sp_bs (fun q => !decide (q = w) && sp_nr h q j 1) p) ||| 0)), .int (nI (p + 1)), .null, .null, .null], [], M)) rfl (by simp only [am_or, nI_add]) ?_
        rw [show ((sp_bs (fun q => !decide (q = w) && sp_nr h q j 1) p) ||| 0) = sp_bs (fun q => !decide (q = w) && sp_nr h q j 1) (p + 1) from (Nat.or_zero _).trans (sp_bsN (by simp [*]; try omega))]
        exact ih (p + 1) (by omega) (by omega)
      · refine am_goR 4 (s2 := (35, [.ref 17, .int (nI j), .int (nI j2), .int (nI w), .int (nI (sp_bs (fun q => !decide (q = w) && sp_nr h q j 1) p)), .int (nI p), .null, .null, .null], [.int (nI 1), .int (nI j), .int (nI p), .ref 17, .int (nI (sp_bs (fun q => !decide (q = w) && sp_nr h q j 1) p))], M)) rfl ?_
        refine am_goX (v := am_b (sp_nr h p j 1)) (M2 := M) (s2 := (38, [.ref 17, .int (nI j), .int (nI j2), .int (nI w), .int (nI (sp_bs (fun q => !decide (q = w) && sp_nr h q j 1) p)), .int (nI p), .null, .null, .null], [.int (nI (sp_bs (fun q => !decide (q = w) && sp_nr h q j 1) p))], M)) rfl (t_near hS hO (i := p) (j := j) (m := 1) (by omega) (by omega) (by omega)) ?_
        refine am_bB0 (sp_nr h p j 1) (s1 := (48, [.ref 17, .int (nI j), .int (nI j2), .int (nI w), .int (nI (sp_bs (fun q => !decide (q = w) && sp_nr h q j 1) p)), .int (nI p), .null, .null, .null], [.int (nI (sp_bs (fun q => !decide (q = w) && sp_nr h q j 1) p))], M)) (s2 := (41, [.ref 17, .int (nI j), .int (nI j2), .int (nI w), .int (nI (sp_bs (fun q => !decide (q = w) && sp_nr h q j 1) p)), .int (nI p), .null, .null, .null], [.int (nI (sp_bs (fun q => !decide (q = w) && sp_nr h q j 1) p))], M)) rfl (fun c3 => ?_) (fun c3 => ?_)
        · refine am_goQ 5 (s1 := (13, [.ref 17, .int (nI j), .int (nI j2), .int (nI w), .int ((nI (sp_bs (fun q => !decide (q = w) && sp_nr h q j 1) p) ||| nI 0)), .int ((nI p + nI 1)), .null, .null, .null], [], M)) (s2 := (13, [.ref 17, .int (nI j), .int (nI j2), .int (nI w), .int (nI ((sp_bs (fun q => !decide (q = w) && sp_nr h q j 1) p) ||| 0)), .int (nI (p + 1)), .null, .null, .null], [], M)) rfl (by simp only [am_or, nI_add]) ?_
          rw [show ((sp_bs (fun q => !decide (q = w) && sp_nr h q j 1) p) ||| 0) = sp_bs (fun q => !decide (q = w) && sp_nr h q j 1) (p + 1) from (Nat.or_zero _).trans (sp_bsN (by simp [*]; try omega))]
          exact ih (p + 1) (by omega) (by omega)
        · refine am_goQ 8 (s1 := (13, [.ref 17, .int (nI j), .int (nI j2), .int (nI w), .int ((nI (sp_bs (fun q => !decide (q = w) && sp_nr h q j 1) p) ||| (nI 1 <<< (nI p &&& 31)))), .int ((nI p + nI 1)), .null, .null, .null], [], M)) (s2 := (13, [.ref 17, .int (nI j), .int (nI j2), .int (nI w), .int (nI ((sp_bs (fun q => !decide (q = w) && sp_nr h q j 1) p) ||| (2 ^ p))), .int (nI (p + 1)), .null, .null, .null], [], M)) rfl (by simp only [am_shl1 (j := p) (by omega), am_or, nI_add]) ?_
          rw [show ((sp_bs (fun q => !decide (q = w) && sp_nr h q j 1) p) ||| (2 ^ p)) = sp_bs (fun q => !decide (q = w) && sp_nr h q j 1) (p + 1) from sp_bsP (by simp [*]; try omega)]
          exact ih (p + 1) (by omega) (by omega)
set_option maxHeartbeats 4000000 in
theorem t_handedw_in {M : am_Mem} {a f hr hs lt : Nat} {k h : Nat → Nat} (hS : sp_M M a f hr hs lt k h) (hO : sp_ok a f hr lt k h) {j j2 m : Nat} {w : Nat} (hw : w < 4) {Q : Option Value → am_Mem → Prop} {g G : Nat} (hg : g < 16) (hG : G < a) (hgG : g.testBit G = true) (kk : ∀ bits : Nat, bits < 16 → (∀ q, bits.testBit q = sp_pg h a w g (G + 1) q) → am_go 142 (161, [.ref 17, .int (nI j), .int (nI j2), .int (nI w), .int (nI g), .int (nI m), .int (nI bits), .int (nI G), .int (nI a)], [], M) Q) : ∀ n A bits : Nat, bits < 16 → (∀ q, bits.testBit q = sp_pi h a w g G A q) → n + A = a + 1 → A ≤ a → am_go 142 (116, [.ref 17, .int (nI j), .int (nI j2), .int (nI w), .int (nI g), .int (nI m), .int (nI bits), .int (nI G), .int (nI A)], [], M) Q := by
  obtain ⟨hF, hA, hHr, hHs, hLt, hK, hH⟩ := id hS
  obtain ⟨oA, oF, oHr, oLt, oK, oH⟩ := id hO
  intro n
  induction n with
  | zero => intro A bits hb4 hb h1 h2; omega
  | succ n ih =>
    intro A bits hb4 hb h1 h2
    refine am_goQ 3 (s1 := (122, [.ref 17, .int (nI j), .int (nI j2), .int (nI w), .int (nI g), .int (nI m), .int (nI bits), .int (nI G), .int (nI A)], [.int ((M 17 3)), .int (nI A)], M)) (s2 := (122, [.ref 17, .int (nI j), .int (nI j2), .int (nI w), .int (nI g), .int (nI m), .int (nI bits), .int (nI G), .int (nI A)], [.int (nI a), .int (nI A)], M)) rfl (by simp only [hA]) ?_
    refine am_bLE (a) (A) (s1 := (161, [.ref 17, .int (nI j), .int (nI j2), .int (nI w), .int (nI g), .int (nI m), .int (nI bits), .int (nI G), .int (nI A)], [], M)) (s2 := (125, [.ref 17, .int (nI j), .int (nI j2), .int (nI w), .int (nI g), .int (nI m), .int (nI bits), .int (nI G), .int (nI A)], [], M)) rfl (by omega) (by omega) (fun c1 => ?_) (fun c1 => ?_)
    · have eA : A = a := by omega
      subst eA
      exact kk bits hb4 (fun q => (hb q).trans (sp_piS h A w g G q))
    · refine am_goR 3 (s2 := (130, [.ref 17, .int (nI j), .int (nI j2), .int (nI w), .int (nI g), .int (nI m), .int (nI bits), .int (nI G), .int (nI A)], [.int (nI w), .int (nI A), .int (nI bits)], M)) rfl ?_
      refine am_bEQ (A) (w) (s1 := (151, [.ref 17, .int (nI j), .int (nI j2), .int (nI w), .int (nI g), .int (nI m), .int (nI bits), .int (nI G), .int (nI A)], [.int (nI bits)], M)) (s2 := (133, [.ref 17, .int (nI j), .int (nI j2), .int (nI w), .int (nI g), .int (nI m), .int (nI bits), .int (nI G), .int (nI A)], [.int (nI bits)], M)) rfl (by omega) (by omega) (fun c2 => ?_) (fun c2 => ?_)
      · refine am_goQ 5 (s1 := (116, [.ref 17, .int (nI j), .int (nI j2), .int (nI w), .int (nI g), .int (nI m), .int ((nI bits ||| nI 0)), .int (nI G), .int ((nI A + nI 1))], [], M)) (s2 := (116, [.ref 17, .int (nI j), .int (nI j2), .int (nI w), .int (nI g), .int (nI m), .int (nI (bits ||| 0)), .int (nI G), .int (nI (A + 1))], [], M)) rfl (by simp only [am_or, nI_add]) ?_
        rw [Nat.or_zero]
        exact ih (A + 1) bits hb4 (sp_pi_no hb (by unfold sp_pc; rw [sp_ht_comm]; simp [*]; try omega)) (by omega) (by omega)
      · refine am_goR 3 (s2 := (138, [.ref 17, .int (nI j), .int (nI j2), .int (nI w), .int (nI g), .int (nI m), .int (nI bits), .int (nI G), .int (nI A)], [.int (nI A), .int (nI G), .ref 17, .int (nI bits)], M)) rfl ?_
        refine am_goX (v := am_b (sp_ht h A G)) (M2 := M) (s2 := (141, [.ref 17, .int (nI j), .int (nI j2), .int (nI w), .int (nI g), .int (nI m), .int (nI bits), .int (nI G), .int (nI A)], [.int (nI bits)], M)) rfl (t_canHand hS hO (i := G) (i2 := A) (by omega) (by omega)) ?_
        refine am_bB0 (sp_ht h A G) (s1 := (151, [.ref 17, .int (nI j), .int (nI j2), .int (nI w), .int (nI g), .int (nI m), .int (nI bits), .int (nI G), .int (nI A)], [.int (nI bits)], M)) (s2 := (144, [.ref 17, .int (nI j), .int (nI j2), .int (nI w), .int (nI g), .int (nI m), .int (nI bits), .int (nI G), .int (nI A)], [.int (nI bits)], M)) rfl (fun c3 => ?_) (fun c3 => ?_)
        · refine am_goQ 5 (s1 := (116, [.ref 17, .int (nI j), .int (nI j2), .int (nI w), .int (nI g), .int (nI m), .int ((nI bits ||| nI 0)), .int (nI G), .int ((nI A + nI 1))], [], M)) (s2 := (116, [.ref 17, .int (nI j), .int (nI j2), .int (nI w), .int (nI g), .int (nI m), .int (nI (bits ||| 0)), .int (nI G), .int (nI (A + 1))], [], M)) rfl (by simp only [am_or, nI_add]) ?_
          rw [Nat.or_zero]
          exact ih (A + 1) bits hb4 (sp_pi_no hb (by unfold sp_pc; rw [sp_ht_comm]; simp [*]; try omega)) (by omega) (by omega)
        · refine am_goQ 8 (s1 := (116, [.ref 17, .int (nI j), .int (nI j2), .int (nI w), .int (nI g), .int (nI m), .int ((nI bits ||| (nI 1 <<< (nI A &&& 31)))), .int (nI G), .int ((nI A + nI 1))], [], M)) (s2 := (116, [.ref 17, .int (nI j), .int (nI j2), .int (nI w), .int (nI g), .int (nI m), .int (nI (bits ||| (2 ^ A))), .int (nI G), .int (nI (A + 1))], [], M)) rfl (by simp only [am_shl1 (j := A) (by omega), am_or, nI_add]) ?_
          exact ih (A + 1) (bits ||| (2 ^ A)) (sp_or4 hb4 (by omega)) (sp_pi_yes hb (by unfold sp_pc; rw [sp_ht_comm]; simp [*]; try omega)) (by omega) (by omega)
set_option maxHeartbeats 4000000 in
theorem t_handedw_mid {M : am_Mem} {a f hr hs lt : Nat} {k h : Nat → Nat} (hS : sp_M M a f hr hs lt k h) (hO : sp_ok a f hr lt k h) {j j2 m : Nat} (hj2 : j2 < 12) {w : Nat} (hw : w < 4) {Q : Option Value → am_Mem → Prop} {g : Nat} (hg : g < 16) (hga : g < 2 ^ a) (hgw : ∀ q, g.testBit q = true → q < 4 → ¬ q = w) (kk1 : ¬ (g &&& sp_tk h a w j2) = 0 → ∀ s : am_St, am_go 142 s (am_is (nI m) M) → am_go 142 s Q)
    (kk0 : ∀ v8 : Value, (g &&& sp_tk h a w j2) = 0 → ∀ bits : Nat, bits < 16 → (∀ q, bits.testBit q = sp_pg h a w g a q) → am_go 142 (167, [.ref 17, .int (nI j), .int (nI j2), .int (nI w), .int (nI g), .int (nI m), .int (nI bits), .int (nI a), v8], [], M) Q) : ∀ n G bits : Nat, ∀ v8 : Value, bits < 16 → (∀ q, bits.testBit q = sp_pg h a w g G q) → sp_nh h g j2 G → n + G = a + 1 → G ≤ a → am_go 142 (77, [.ref 17, .int (nI j), .int (nI j2), .int (nI w), .int (nI g), .int (nI m), .int (nI bits), .int (nI G), v8], [], M) Q := by
  obtain ⟨hF, hA, hHr, hHs, hLt, hK, hH⟩ := id hS
  obtain ⟨oA, oF, oHr, oLt, oK, oH⟩ := id hO
  intro n
  induction n with
  | zero => intro G bits v8 hb4 hb hn h1 h2; omega
  | succ n ih =>
    intro G bits v8 hb4 hb hn h1 h2
    refine am_goQ 3 (s1 := (83, [.ref 17, .int (nI j), .int (nI j2), .int (nI w), .int (nI g), .int (nI m), .int (nI bits), .int (nI G), v8], [.int ((M 17 3)), .int (nI G)], M)) (s2 := (83, [.ref 17, .int (nI j), .int (nI j2), .int (nI w), .int (nI g), .int (nI m), .int (nI bits), .int (nI G), v8], [.int (nI a), .int (nI G)], M)) rfl (by simp only [hA]) ?_
    refine am_bLE (a) (G) (s1 := (167, [.ref 17, .int (nI j), .int (nI j2), .int (nI w), .int (nI g), .int (nI m), .int (nI bits), .int (nI G), v8], [], M)) (s2 := (86, [.ref 17, .int (nI j), .int (nI j2), .int (nI w), .int (nI g), .int (nI m), .int (nI bits), .int (nI G), v8], [], M)) rfl (by omega) (by omega) (fun c1 => ?_) (fun c1 => ?_)
    · have eG : G = a := by omega
      subst eG
      exact kk0 v8 (sp_and_tk hga hn) bits hb4 hb
    · refine am_goQ 5 (s1 := (93, [.ref 17, .int (nI j), .int (nI j2), .int (nI w), .int (nI g), .int (nI m), .int (nI bits), .int (nI G), v8], [.int (((nI g >>> (nI G &&& 31)) &&& nI 1))], M)) (s2 := (93, [.ref 17, .int (nI j), .int (nI j2), .int (nI w), .int (nI g), .int (nI m), .int (nI bits), .int (nI G), v8], [.int (am_b (g.testBit G))], M)) rfl (by simp only [am_shr (x := g) (j := G) (by omega) (by omega), am_and, am_bit]) ?_
      refine am_bB1 (g.testBit G) (s1 := (99, [.ref 17, .int (nI j), .int (nI j2), .int (nI w), .int (nI g), .int (nI m), .int (nI bits), .int (nI G), v8], [], M)) (s2 := (96, [.ref 17, .int (nI j), .int (nI j2), .int (nI w), .int (nI g), .int (nI m), .int (nI bits), .int (nI G), v8], [], M)) rfl (fun c2 => ?_) (fun c2 => ?_)
      · refine am_goR 4 (s2 := (104, [.ref 17, .int (nI j), .int (nI j2), .int (nI w), .int (nI g), .int (nI m), .int (nI bits), .int (nI G), v8], [.int (nI 1), .int (nI j2), .int (nI G), .ref 17], M)) rfl ?_
        refine am_goX (v := am_b (sp_nr h G j2 1)) (M2 := M) (s2 := (107, [.ref 17, .int (nI j), .int (nI j2), .int (nI w), .int (nI g), .int (nI m), .int (nI bits), .int (nI G), v8], [], M)) rfl (t_near hS hO (i := G) (j := j2) (m := 1) (by omega) (by omega) (by omega)) ?_
        refine am_bB0 (sp_nr h G j2 1) (s1 := (113, [.ref 17, .int (nI j), .int (nI j2), .int (nI w), .int (nI g), .int (nI m), .int (nI bits), .int (nI G), v8], [], M)) (s2 := (110, [.ref 17, .int (nI j), .int (nI j2), .int (nI w), .int (nI g), .int (nI m), .int (nI bits), .int (nI G), v8], [], M)) rfl (fun c3 => ?_) (fun c3 => ?_)
        · refine am_goR 2 (s2 := (116, [.ref 17, .int (nI j), .int (nI j2), .int (nI w), .int (nI g), .int (nI m), .int (nI bits), .int (nI G), .int (nI 0)], [], M)) rfl ?_
          exact t_handedw_in hS hO hw hg (by omega) (by assumption) (fun bits2 b1 b2 => am_goQ 2 (s1 := (77, [.ref 17, .int (nI j), .int (nI j2), .int (nI w), .int (nI g), .int (nI m), .int (nI bits2), .int (nI G + nI 1), .int (nI a)], [], M)) (s2 := (77, [.ref 17, .int (nI j), .int (nI j2), .int (nI w), .int (nI g), .int (nI m), .int (nI bits2), .int (nI (G + 1)), .int (nI a)], [], M)) rfl (by simp only [nI_add]) (ih (G + 1) bits2 _ b1 b2 (sp_nh.s hn (Or.inr (by assumption))) (by omega) (by omega))) (a + 1) 0 bits hb4 (fun q => (hb q).trans (sp_pi0 h a w g G q).symm) (by omega) (by omega)
        · refine am_goR 1 (s2 := (112, [.ref 17, .int (nI j), .int (nI j2), .int (nI w), .int (nI g), .int (nI m), .int (nI bits), .int (nI G), v8], [.int (nI m)], M)) rfl ?_
          refine kk1 (sp_and_tk1 (q := G) (by omega) (by assumption) (by assumption) (hgw G (by assumption) (by omega))) _ ?_
          exact am_ends (nI m) _ rfl rfl rfl
      · refine am_goQ 3 (s1 := (77, [.ref 17, .int (nI j), .int (nI j2), .int (nI w), .int (nI g), .int (nI m), .int (nI bits), .int ((nI G + nI 1)), v8], [], M)) (s2 := (77, [.ref 17, .int (nI j), .int (nI j2), .int (nI w), .int (nI g), .int (nI m), .int (nI bits), .int (nI (G + 1)), v8], [], M)) rfl (by simp only [nI_add]) ?_
        exact ih (G + 1) bits v8 hb4 (fun q => (hb q).trans (sp_pg_skip (by assumption))) (sp_nh.s hn (Or.inl (by assumption))) (by omega) (by omega)
set_option maxHeartbeats 4000000 in
theorem t_handedw_loop {M : am_Mem} {a f hr hs lt : Nat} {k h : Nat → Nat} (hS : sp_M M a f hr hs lt k h) (hO : sp_ok a f hr lt k h) {j j2 : Nat} (hj2 : j2 < 12) {w : Nat} (hw : w < 4) : ∀ n m g : Nat, ∀ v6 v7 v8 : Value, g < 2 ^ a → (∀ q, g.testBit q = true → q < 4 → ¬ q = w) → n + m = a + 1 → 1 ≤ m → am_go 142 (61, [.ref 17, .int (nI j), .int (nI j2), .int (nI w), .int (nI g), .int (nI m), v6, v7, v8], [], M) (am_is (sp_oi (sp_hn h a w (sp_tk h a w j2) n g m)) M) := by
  obtain ⟨hF, hA, hHr, hHs, hLt, hK, hH⟩ := id hS
  obtain ⟨oA, oF, oHr, oLt, oK, oH⟩ := id hO
  intro n
  induction n with
  | zero =>
    intro m g v6 v7 v8 hga hgw h1 h2
    refine am_goQ 3 (s1 := (67, [.ref 17, .int (nI j), .int (nI j2), .int (nI w), .int (nI g), .int (nI m), v6, v7, v8], [.int ((M 17 3)), .int (nI m)], M)) (s2 := (67, [.ref 17, .int (nI j), .int (nI j2), .int (nI w), .int (nI g), .int (nI m), v6, v7, v8], [.int (nI a), .int (nI m)], M)) rfl (by simp only [hA]) ?_
    refine am_bLT (a) (m) (s1 := (177, [.ref 17, .int (nI j), .int (nI j2), .int (nI w), .int (nI g), .int (nI m), v6, v7, v8], [], M)) (s2 := (70, [.ref 17, .int (nI j), .int (nI j2), .int (nI w), .int (nI g), .int (nI m), v6, v7, v8], [], M)) rfl (by omega) (by omega) (fun c1 => ?_) (fun c1 => absurd c1 (by omega))
    refine am_goR 1 (s2 := (179, [.ref 17, .int (nI j), .int (nI j2), .int (nI w), .int (nI g), .int (nI m), v6, v7, v8], [.int ((-nI 9))], M)) rfl ?_
    exact am_ends (-nI 9) _ rfl rfl rfl
  | succ n ih =>
    intro m g v6 v7 v8 hga hgw h1 h2
    refine am_goQ 3 (s1 := (67, [.ref 17, .int (nI j), .int (nI j2), .int (nI w), .int (nI g), .int (nI m), v6, v7, v8], [.int ((M 17 3)), .int (nI m)], M)) (s2 := (67, [.ref 17, .int (nI j), .int (nI j2), .int (nI w), .int (nI g), .int (nI m), v6, v7, v8], [.int (nI a), .int (nI m)], M)) rfl (by simp only [hA]) ?_
    refine am_bLT (a) (m) (s1 := (177, [.ref 17, .int (nI j), .int (nI j2), .int (nI w), .int (nI g), .int (nI m), v6, v7, v8], [], M)) (s2 := (70, [.ref 17, .int (nI j), .int (nI j2), .int (nI w), .int (nI g), .int (nI m), v6, v7, v8], [], M)) rfl (by omega) (by omega) (fun c1 => absurd c1 (by omega)) (fun c1 => ?_)
    refine am_goR 4 (s2 := (77, [.ref 17, .int (nI j), .int (nI j2), .int (nI w), .int (nI g), .int (nI m), .int (nI g), .int (nI 0), v8], [], M)) rfl ?_
    refine t_handedw_mid hS hO (m := m) hj2 hw (sp_p16 oA hga) hga hgw (fun hne s hs => by rw [sp_hn, if_neg hne]; exact hs) (fun w8 hz bits b1 b2 => ?_) (a + 1) 0 g v8 (sp_p16 oA hga) (fun q => by simp [sp_pg]) (fun q hq => absurd hq (Nat.not_lt_zero q)) (by omega) (by omega)
    have eb := sp_pg_gv hga b2
    subst eb
    rw [sp_hn, if_pos hz]
    refine am_goQ 4 (s1 := (61, [.ref 17, .int (nI j), .int (nI j2), .int (nI w), .int (nI (sp_gv h a w g)), .int (nI m + nI 1), .int (nI (sp_gv h a w g)), .int (nI a), w8], [], M)) (s2 := (61, [.ref 17, .int (nI j), .int (nI j2), .int (nI w), .int (nI (sp_gv h a w g)), .int (nI (m + 1)), .int (nI (sp_gv h a w g)), .int (nI a), w8], [], M)) rfl (by simp only [nI_add]) ?_
    exact ih (m + 1) (sp_gv h a w g) _ _ _ (sp_gv_lt h a _ g) (fun q hq hq4 => sp_gv_w hgw hq hq4) (by omega) (by omega)
set_option maxHeartbeats 4000000 in
theorem t_handedw {M : am_Mem} {a f hr hs lt : Nat} {k h : Nat → Nat} (hS : sp_M M a f hr hs lt k h) (hO : sp_ok a f hr lt k h) {j j2 : Nat} (hj : j < 12) (hj2 : j2 < 12) {w : Nat} (hw : w < 4) : am_go 142 (am_ent 142 [.ref 17, .int (nI j), .int (nI j2), .int (nI w)] M) (am_is (sp_oi (if j = j2 then some 0 else sp_hn h a w (sp_tk h a w j2) a (sp_tk h a w j) 1)) M) := by
  obtain ⟨hF, hA, hHr, hHs, hLt, hK, hH⟩ := id hS
  obtain ⟨oA, oF, oHr, oLt, oK, oH⟩ := id hO
  refine am_goR 2 (s2 := (2, [.ref 17, .int (nI j), .int (nI j2), .int (nI w), .null, .null, .null, .null, .null], [.int (nI j2), .int (nI j)], M)) rfl ?_
  refine am_bNE (j) (j2) (s1 := (7, [.ref 17, .int (nI j), .int (nI j2), .int (nI w), .null, .null, .null, .null, .null], [], M)) (s2 := (5, [.ref 17, .int (nI j), .int (nI j2), .int (nI w), .null, .null, .null, .null, .null], [], M)) rfl (by omega) (by omega) (fun c1 => ?_) (fun c1 => ?_)
  · refine am_goR 4 (s2 := (13, [.ref 17, .int (nI j), .int (nI j2), .int (nI w), .int (nI 0), .int (nI 0), .null, .null, .null], [], M)) rfl ?_
    rw [if_neg (by assumption)]
    refine t_handedw_now hS hO hj hw (am_goR 2 (s2 := (61, [.ref 17, .int (nI j), .int (nI j2), .int (nI w), .int (nI (sp_tk h a w j)), .int (nI 1), .null, .null, .null], [], M)) rfl ?_) (a + 1) 0 (by omega) (by omega)
    exact t_handedw_loop hS hO hj2 hw a 1 _ _ _ _ (sp_tk_lt h a _ j) (fun q hq hq4 => sp_tk_w hq) (by omega) (by omega)
  · refine am_goR 1 (s2 := (6, [.ref 17, .int (nI j), .int (nI j2), .int (nI w), .null, .null, .null, .null, .null], [.int (nI 0)], M)) rfl ?_
    rw [if_pos (by assumption)]
    exact am_ends (nI 0) _ rfl rfl rfl

