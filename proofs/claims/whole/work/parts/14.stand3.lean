/-! walks: the class's stand: who blocks, handing -/
theorem sp_bsP {p : Nat → Bool} {n : Nat} (h : p n = true) : sp_bs p n ||| 2 ^ n = sp_bs p (n + 1) := by
  simp only [sp_bs]
  rw [if_pos h]
theorem sp_bsN {p : Nat → Bool} {n : Nat} (h : p n = false) : sp_bs p n = sp_bs p (n + 1) := by
  simp only [sp_bs]
  rw [if_neg (by rw [h]; decide), Nat.or_zero]
theorem sp_bs4 {p : Nat → Bool} {n : Nat} (hn : n ≤ 4) : sp_bs p n < 16 := Nat.lt_of_lt_of_le (sp_bs_lt p n) (Nat.pow_le_pow_right (n := 2) (by decide) hn)
/-- who takes a part at a joint; to whom it is handed on; the fewest arms -/
def sp_tk (h : Nat → Nat) (a aw j : Nat) : Nat := sp_bs (fun q => !decide (q = aw) && sp_nr h q j 1) a
def sp_gv (h : Nat → Nat) (a aw g : Nat) : Nat := sp_bs (fun q => g.testBit q || (!decide (q = aw) && (List.range a).any (fun z => g.testBit z && sp_ht h z q))) a
def sp_hn (h : Nat → Nat) (a aw r : Nat) : Nat → Nat → Nat → Option Nat
  | 0, _, _ => none
  | n + 1, g, m => if (g &&& r) = 0 then sp_hn h a aw r n (sp_gv h a aw g) (m + 1) else some m

set_option maxHeartbeats 4000000 in
theorem s_blockers_1_loop {M : am_Mem} {a f hr hs lt : Nat} {k h : Nat → Nat} (hS : sp_S 1 M a f hr hs lt k h) (hO : sp_ok a f hr lt k h) {i : Nat} (hi : i < a) : ∀ n p : Nat, n + p = a + 1 → p ≤ a → am_go 22 (4, [.ref 1, .int (nI i), .int (nI (sp_bs (fun q => !decide (q = i) && sp_st a f k h i q) p)), .int (nI p)], [], M) (am_is (nI (sp_bs (fun q => !decide (q = i) && sp_st a f k h i q) a)) M) := by
  obtain ⟨hF, hA, hHr, hHs, hLt, hK, hH⟩ := id hS
  obtain ⟨oA, oF, oHr, oLt, oK, oH⟩ := id hO
  intro n
  induction n with
  | zero => intro p  h1 h2; omega
  | succ n ih =>
    intro p  h1 h2
    refine am_goQ 3 (s1 := (9, [.ref 1, .int (nI i), .int (nI (sp_bs (fun q => !decide (q = i) && sp_st a f k h i q) p)), .int (nI p)], [.int ((M 1 1)), .int (nI p)], M)) (s2 := (9, [.ref 1, .int (nI i), .int (nI (sp_bs (fun q => !decide (q = i) && sp_st a f k h i q) p)), .int (nI p)], [.int (nI a), .int (nI p)], M)) rfl (by simp only [hA]) ?_
    refine am_bLE (a) (p) (s1 := (38, [.ref 1, .int (nI i), .int (nI (sp_bs (fun q => !decide (q = i) && sp_st a f k h i q) p)), .int (nI p)], [], M)) (s2 := (12, [.ref 1, .int (nI i), .int (nI (sp_bs (fun q => !decide (q = i) && sp_st a f k h i q) p)), .int (nI p)], [], M)) rfl (by omega) (by omega) (fun c1 => ?_) (fun c1 => ?_)
    · refine am_goR 1 (s2 := (39, [.ref 1, .int (nI i), .int (nI (sp_bs (fun q => !decide (q = i) && sp_st a f k h i q) p)), .int (nI p)], [.int (nI (sp_bs (fun q => !decide (q = i) && sp_st a f k h i q) p))], M)) rfl ?_
      exact am_ends (nI (sp_bs (fun q => !decide (q = i) && sp_st a f k h i q) p)) _ rfl (by rw [show p = a by omega]) (rfl)
    · refine am_goR 2 (s2 := (14, [.ref 1, .int (nI i), .int (nI (sp_bs (fun q => !decide (q = i) && sp_st a f k h i q) p)), .int (nI p)], [.int (nI i), .int (nI p)], M)) rfl ?_
      refine am_bEQ (p) (i) (s1 := (32, [.ref 1, .int (nI i), .int (nI (sp_bs (fun q => !decide (q = i) && sp_st a f k h i q) p)), .int (nI p)], [], M)) (s2 := (17, [.ref 1, .int (nI i), .int (nI (sp_bs (fun q => !decide (q = i) && sp_st a f k h i q) p)), .int (nI p)], [], M)) rfl (by omega) (by omega) (fun c2 => ?_) (fun c2 => ?_)
      · refine am_goQ 2 (s1 := (4, [.ref 1, .int (nI i), .int (nI (sp_bs (fun q => !decide (q = i) && sp_st a f k h i q) p)), .int ((nI p + nI 1))], [], M)) (s2 := (4, [.ref 1, .int (nI i), .int (nI (sp_bs (fun q => !decide (q = i) && sp_st a f k h i q) p)), .int (nI (p + 1))], [], M)) rfl (by simp only [nI_add]) ?_
        rw [show (sp_bs (fun q => !decide (q = i) && sp_st a f k h i q) p) = sp_bs (fun q => !decide (q = i) && sp_st a f k h i q) (p + 1) from sp_bsN (by simp [*])]
        exact ih (p + 1) (by omega) (by omega)
      · refine am_goR 3 (s2 := (20, [.ref 1, .int (nI i), .int (nI (sp_bs (fun q => !decide (q = i) && sp_st a f k h i q) p)), .int (nI p)], [.int (nI p), .int (nI i), .ref 1], M)) rfl ?_
        refine am_goX (v := am_b (sp_st a f k h i p)) (M2 := M) (s2 := (23, [.ref 1, .int (nI i), .int (nI (sp_bs (fun q => !decide (q = i) && sp_st a f k h i q) p)), .int (nI p)], [], M)) rfl (s_hasStepButw_1 hS hO (i := i) (by omega) (w := p) (by omega)) ?_
        refine am_bB0 (sp_st a f k h i p) (s1 := (32, [.ref 1, .int (nI i), .int (nI (sp_bs (fun q => !decide (q = i) && sp_st a f k h i q) p)), .int (nI p)], [], M)) (s2 := (26, [.ref 1, .int (nI i), .int (nI (sp_bs (fun q => !decide (q = i) && sp_st a f k h i q) p)), .int (nI p)], [], M)) rfl (fun c3 => ?_) (fun c3 => ?_)
        · refine am_goQ 2 (s1 := (4, [.ref 1, .int (nI i), .int (nI (sp_bs (fun q => !decide (q = i) && sp_st a f k h i q) p)), .int ((nI p + nI 1))], [], M)) (s2 := (4, [.ref 1, .int (nI i), .int (nI (sp_bs (fun q => !decide (q = i) && sp_st a f k h i q) p)), .int (nI (p + 1))], [], M)) rfl (by simp only [nI_add]) ?_
          rw [show (sp_bs (fun q => !decide (q = i) && sp_st a f k h i q) p) = sp_bs (fun q => !decide (q = i) && sp_st a f k h i q) (p + 1) from sp_bsN (by simp [*])]
          exact ih (p + 1) (by omega) (by omega)
        · refine am_goQ 8 (s1 := (4, [.ref 1, .int (nI i), .int ((nI (sp_bs (fun q => !decide (q = i) && sp_st a f k h i q) p) ||| (nI 1 <<< (nI p &&& 31)))), .int ((nI p + nI 1))], [], M)) (s2 := (4, [.ref 1, .int (nI i), .int (nI ((sp_bs (fun q => !decide (q = i) && sp_st a f k h i q) p) ||| (2 ^ p))), .int (nI (p + 1))], [], M)) rfl (by simp only [am_shl1 (j := p) (by omega), am_or, nI_add]) ?_
          rw [show ((sp_bs (fun q => !decide (q = i) && sp_st a f k h i q) p) ||| (2 ^ p)) = sp_bs (fun q => !decide (q = i) && sp_st a f k h i q) (p + 1) from sp_bsP (by simp [*])]
          exact ih (p + 1) (by omega) (by omega)

set_option maxHeartbeats 4000000 in
theorem s_blockers_1 {M : am_Mem} {a f hr hs lt : Nat} {k h : Nat → Nat} (hS : sp_S 1 M a f hr hs lt k h) (hO : sp_ok a f hr lt k h) {i : Nat} (hi : i < a) : am_go 22 (am_ent 22 [.ref 1, .int (nI i)] M) (am_is (nI (sp_bs (fun q => !decide (q = i) && sp_st a f k h i q) a)) M) := by
  refine am_goR 4 (s2 := (4, [.ref 1, .int (nI i), .int (nI 0), .int (nI 0)], [], M)) rfl ?_
  exact s_blockers_1_loop hS hO hi (a + 1) 0 (by omega) (by omega)

set_option maxHeartbeats 4000000 in
theorem s_takersn_1_loop {M : am_Mem} {a f hr hs lt : Nat} {k h : Nat → Nat} (hS : sp_S 1 M a f hr hs lt k h) (hO : sp_ok a f hr lt k h) {j : Nat} (hj : j < 12)  : ∀ n p : Nat, n + p = a + 1 → p ≤ a → am_go 25 (5, [.ref 1, .int (nI j), .int ((-nI 9)), .int (nI (sp_bs (fun q => !decide (q = 9) && sp_nr h q j 1) p)), .int (nI p)], [], M) (am_is (nI (sp_tk h a 9 j)) M) := by
  obtain ⟨hF, hA, hHr, hHs, hLt, hK, hH⟩ := id hS
  obtain ⟨oA, oF, oHr, oLt, oK, oH⟩ := id hO
  intro n
  induction n with
  | zero => intro p  h1 h2; omega
  | succ n ih =>
    intro p  h1 h2
    refine am_goQ 3 (s1 := (11, [.ref 1, .int (nI j), .int ((-nI 9)), .int (nI (sp_bs (fun q => !decide (q = 9) && sp_nr h q j 1) p)), .int (nI p)], [.int ((M 1 1)), .int (nI p)], M)) (s2 := (11, [.ref 1, .int (nI j), .int ((-nI 9)), .int (nI (sp_bs (fun q => !decide (q = 9) && sp_nr h q j 1) p)), .int (nI p)], [.int (nI a), .int (nI p)], M)) rfl (by simp only [hA]) ?_
    refine am_bLE (a) (p) (s1 := (44, [.ref 1, .int (nI j), .int ((-nI 9)), .int (nI (sp_bs (fun q => !decide (q = 9) && sp_nr h q j 1) p)), .int (nI p)], [], M)) (s2 := (14, [.ref 1, .int (nI j), .int ((-nI 9)), .int (nI (sp_bs (fun q => !decide (q = 9) && sp_nr h q j 1) p)), .int (nI p)], [], M)) rfl (by omega) (by omega) (fun c1 => ?_) (fun c1 => ?_)
    · refine am_goR 1 (s2 := (45, [.ref 1, .int (nI j), .int ((-nI 9)), .int (nI (sp_bs (fun q => !decide (q = 9) && sp_nr h q j 1) p)), .int (nI p)], [.int (nI (sp_bs (fun q => !decide (q = 9) && sp_nr h q j 1) p))], M)) rfl ?_
      exact am_ends (nI (sp_bs (fun q => !decide (q = 9) && sp_nr h q j 1) p)) _ rfl (by unfold sp_tk; rw [show p = a by omega]) (rfl)
    · refine am_goR 2 (s2 := (17, [.ref 1, .int (nI j), .int ((-nI 9)), .int (nI (sp_bs (fun q => !decide (q = 9) && sp_nr h q j 1) p)), .int (nI p)], [.int ((-nI 9)), .int (nI p)], M)) rfl ?_
      refine am_bF (s1 := (38, [.ref 1, .int (nI j), .int ((-nI 9)), .int (nI (sp_bs (fun q => !decide (q = 9) && sp_nr h q j 1) p)), .int (nI p)], [], M)) (s2 := (20, [.ref 1, .int (nI j), .int ((-nI 9)), .int (nI (sp_bs (fun q => !decide (q = 9) && sp_nr h q j 1) p)), .int (nI p)], [], M)) rfl (am_nm_ne (x := p) (m := 9) (by omega) (by decide) (by decide)) ?_
      refine am_goR 4 (s2 := (25, [.ref 1, .int (nI j), .int ((-nI 9)), .int (nI (sp_bs (fun q => !decide (q = 9) && sp_nr h q j 1) p)), .int (nI p)], [.int (nI 1), .int (nI j), .int (nI p), .ref 1], M)) rfl ?_
      refine am_goX (v := am_b (sp_nr h p j 1)) (M2 := M) (s2 := (28, [.ref 1, .int (nI j), .int ((-nI 9)), .int (nI (sp_bs (fun q => !decide (q = 9) && sp_nr h q j 1) p)), .int (nI p)], [], M)) rfl (s_near_1 hS hO (i := p) (j := j) (m := 1) (by omega) (by omega) (by omega)) ?_
      refine am_bB0 (sp_nr h p j 1) (s1 := (38, [.ref 1, .int (nI j), .int ((-nI 9)), .int (nI (sp_bs (fun q => !decide (q = 9) && sp_nr h q j 1) p)), .int (nI p)], [], M)) (s2 := (31, [.ref 1, .int (nI j), .int ((-nI 9)), .int (nI (sp_bs (fun q => !decide (q = 9) && sp_nr h q j 1) p)), .int (nI p)], [], M)) rfl (fun c2 => ?_) (fun c2 => ?_)
      · refine am_goQ 2 (s1 := (5, [.ref 1, .int (nI j), .int ((-nI 9)), .int (nI (sp_bs (fun q => !decide (q = 9) && sp_nr h q j 1) p)), .int ((nI p + nI 1))], [], M)) (s2 := (5, [.ref 1, .int (nI j), .int ((-nI 9)), .int (nI (sp_bs (fun q => !decide (q = 9) && sp_nr h q j 1) p)), .int (nI (p + 1))], [], M)) rfl (by simp only [nI_add]) ?_
        rw [show (sp_bs (fun q => !decide (q = 9) && sp_nr h q j 1) p) = sp_bs (fun q => !decide (q = 9) && sp_nr h q j 1) (p + 1) from sp_bsN (by simp [*]; try omega)]
        exact ih (p + 1) (by omega) (by omega)
      · refine am_goQ 8 (s1 := (5, [.ref 1, .int (nI j), .int ((-nI 9)), .int ((nI (sp_bs (fun q => !decide (q = 9) && sp_nr h q j 1) p) ||| (nI 1 <<< (nI p &&& 31)))), .int ((nI p + nI 1))], [], M)) (s2 := (5, [.ref 1, .int (nI j), .int ((-nI 9)), .int (nI ((sp_bs (fun q => !decide (q = 9) && sp_nr h q j 1) p) ||| (2 ^ p))), .int (nI (p + 1))], [], M)) rfl (by simp only [am_shl1 (j := p) (by omega), am_or, nI_add]) ?_
        rw [show ((sp_bs (fun q => !decide (q = 9) && sp_nr h q j 1) p) ||| (2 ^ p)) = sp_bs (fun q => !decide (q = 9) && sp_nr h q j 1) (p + 1) from sp_bsP (by simp [*]; try omega)]
        exact ih (p + 1) (by omega) (by omega)

set_option maxHeartbeats 4000000 in
theorem s_takersn_1 {M : am_Mem} {a f hr hs lt : Nat} {k h : Nat → Nat} (hS : sp_S 1 M a f hr hs lt k h) (hO : sp_ok a f hr lt k h) {j : Nat} (hj : j < 12)  : am_go 25 (am_ent 25 [.ref 1, .int (nI j), .int ((-nI 9))] M) (am_is (nI (sp_tk h a 9 j)) M) := by
  refine am_goR 4 (s2 := (5, [.ref 1, .int (nI j), .int ((-nI 9)), .int (nI 0), .int (nI 0)], [], M)) rfl ?_
  exact s_takersn_1_loop hS hO hj (a + 1) 0 (by omega) (by omega)

set_option maxHeartbeats 4000000 in
theorem s_takersw_1_loop {M : am_Mem} {a f hr hs lt : Nat} {k h : Nat → Nat} (hS : sp_S 1 M a f hr hs lt k h) (hO : sp_ok a f hr lt k h) {j : Nat} (hj : j < 12) {w : Nat} (hw : w < 4) : ∀ n p : Nat, n + p = a + 1 → p ≤ a → am_go 25 (5, [.ref 1, .int (nI j), .int (nI w), .int (nI (sp_bs (fun q => !decide (q = w) && sp_nr h q j 1) p)), .int (nI p)], [], M) (am_is (nI (sp_tk h a w j)) M) := by
  obtain ⟨hF, hA, hHr, hHs, hLt, hK, hH⟩ := id hS
  obtain ⟨oA, oF, oHr, oLt, oK, oH⟩ := id hO
  intro n
  induction n with
  | zero => intro p  h1 h2; omega
  | succ n ih =>
    intro p  h1 h2
    refine am_goQ 3 (s1 := (11, [.ref 1, .int (nI j), .int (nI w), .int (nI (sp_bs (fun q => !decide (q = w) && sp_nr h q j 1) p)), .int (nI p)], [.int ((M 1 1)), .int (nI p)], M)) (s2 := (11, [.ref 1, .int (nI j), .int (nI w), .int (nI (sp_bs (fun q => !decide (q = w) && sp_nr h q j 1) p)), .int (nI p)], [.int (nI a), .int (nI p)], M)) rfl (by simp only [hA]) ?_
    refine am_bLE (a) (p) (s1 := (44, [.ref 1, .int (nI j), .int (nI w), .int (nI (sp_bs (fun q => !decide (q = w) && sp_nr h q j 1) p)), .int (nI p)], [], M)) (s2 := (14, [.ref 1, .int (nI j), .int (nI w), .int (nI (sp_bs (fun q => !decide (q = w) && sp_nr h q j 1) p)), .int (nI p)], [], M)) rfl (by omega) (by omega) (fun c1 => ?_) (fun c1 => ?_)
    · refine am_goR 1 (s2 := (45, [.ref 1, .int (nI j), .int (nI w), .int (nI (sp_bs (fun q => !decide (q = w) && sp_nr h q j 1) p)), .int (nI p)], [.int (nI (sp_bs (fun q => !decide (q = w) && sp_nr h q j 1) p))], M)) rfl ?_
      exact am_ends (nI (sp_bs (fun q => !decide (q = w) && sp_nr h q j 1) p)) _ rfl (by unfold sp_tk; rw [show p = a by omega]) (rfl)
    · refine am_goR 2 (s2 := (17, [.ref 1, .int (nI j), .int (nI w), .int (nI (sp_bs (fun q => !decide (q = w) && sp_nr h q j 1) p)), .int (nI p)], [.int (nI w), .int (nI p)], M)) rfl ?_
      refine am_bEQ (p) (w) (s1 := (38, [.ref 1, .int (nI j), .int (nI w), .int (nI (sp_bs (fun q => !decide (q = w) && sp_nr h q j 1) p)), .int (nI p)], [], M)) (s2 := (20, [.ref 1, .int (nI j), .int (nI w), .int (nI (sp_bs (fun q => !decide (q = w) && sp_nr h q j 1) p)), .int (nI p)], [], M)) rfl (by omega) (by omega) (fun c2 => ?_) (fun c2 => ?_)
      · refine am_goQ 2 (s1 := (5, [.ref 1, .int (nI j), .int (nI w), .int (nI (sp_bs (fun q => !decide (q = w) && sp_nr h q j 1) p)), .int ((nI p + nI 1))], [], M)) (s2 := (5, [.ref 1, .int (nI j), .int (nI w), .int (nI (sp_bs (fun q => !decide (q = w) && sp_nr h q j 1) p)), .int (nI (p + 1))], [], M)) rfl (by simp only [nI_add]) ?_
        rw [show (sp_bs (fun q => !decide (q = w) && sp_nr h q j 1) p) = sp_bs (fun q => !decide (q = w) && sp_nr h q j 1) (p + 1) from sp_bsN (by simp [*]; try omega)]
        exact ih (p + 1) (by omega) (by omega)
      · refine am_goR 4 (s2 := (25, [.ref 1, .int (nI j), .int (nI w), .int (nI (sp_bs (fun q => !decide (q = w) && sp_nr h q j 1) p)), .int (nI p)], [.int (nI 1), .int (nI j), .int (nI p), .ref 1], M)) rfl ?_
        refine am_goX (v := am_b (sp_nr h p j 1)) (M2 := M) (s2 := (28, [.ref 1, .int (nI j), .int (nI w), .int (nI (sp_bs (fun q => !decide (q = w) && sp_nr h q j 1) p)), .int (nI p)], [], M)) rfl (s_near_1 hS hO (i := p) (j := j) (m := 1) (by omega) (by omega) (by omega)) ?_
        refine am_bB0 (sp_nr h p j 1) (s1 := (38, [.ref 1, .int (nI j), .int (nI w), .int (nI (sp_bs (fun q => !decide (q = w) && sp_nr h q j 1) p)), .int (nI p)], [], M)) (s2 := (31, [.ref 1, .int (nI j), .int (nI w), .int (nI (sp_bs (fun q => !decide (q = w) && sp_nr h q j 1) p)), .int (nI p)], [], M)) rfl (fun c3 => ?_) (fun c3 => ?_)
        · refine am_goQ 2 (s1 := (5, [.ref 1, .int (nI j), .int (nI w), .int (nI (sp_bs (fun q => !decide (q = w) && sp_nr h q j 1) p)), .int ((nI p + nI 1))], [], M)) (s2 := (5, [.ref 1, .int (nI j), .int (nI w), .int (nI (sp_bs (fun q => !decide (q = w) && sp_nr h q j 1) p)), .int (nI (p + 1))], [], M)) rfl (by simp only [nI_add]) ?_
          rw [show (sp_bs (fun q => !decide (q = w) && sp_nr h q j 1) p) = sp_bs (fun q => !decide (q = w) && sp_nr h q j 1) (p + 1) from sp_bsN (by simp [*]; try omega)]
          exact ih (p + 1) (by omega) (by omega)
        · refine am_goQ 8 (s1 := (5, [.ref 1, .int (nI j), .int (nI w), .int ((nI (sp_bs (fun q => !decide (q = w) && sp_nr h q j 1) p) ||| (nI 1 <<< (nI p &&& 31)))), .int ((nI p + nI 1))], [], M)) (s2 := (5, [.ref 1, .int (nI j), .int (nI w), .int (nI ((sp_bs (fun q => !decide (q = w) && sp_nr h q j 1) p) ||| (2 ^ p))), .int (nI (p + 1))], [], M)) rfl (by simp only [am_shl1 (j := p) (by omega), am_or, nI_add]) ?_
          rw [show ((sp_bs (fun q => !decide (q = w) && sp_nr h q j 1) p) ||| (2 ^ p)) = sp_bs (fun q => !decide (q = w) && sp_nr h q j 1) (p + 1) from sp_bsP (by simp [*]; try omega)]
          exact ih (p + 1) (by omega) (by omega)

set_option maxHeartbeats 4000000 in
theorem s_takersw_1 {M : am_Mem} {a f hr hs lt : Nat} {k h : Nat → Nat} (hS : sp_S 1 M a f hr hs lt k h) (hO : sp_ok a f hr lt k h) {j : Nat} (hj : j < 12) {w : Nat} (hw : w < 4) : am_go 25 (am_ent 25 [.ref 1, .int (nI j), .int (nI w)] M) (am_is (nI (sp_tk h a w j)) M) := by
  refine am_goR 4 (s2 := (5, [.ref 1, .int (nI j), .int (nI w), .int (nI 0), .int (nI 0)], [], M)) rfl ?_
  exact s_takersw_1_loop hS hO hj hw (a + 1) 0 (by omega) (by omega)

def sp_oi (x : Option Nat) : Int32 := match x with | none => -nI 9 | some m => nI m
def sp_pc (h : Nat → Nat) (aw g z q : Nat) : Bool := !decide (q = aw) && g.testBit z && sp_ht h z q
def sp_pg (h : Nat → Nat) (a aw g G q : Nat) : Bool := g.testBit q || (decide (q < a) && (List.range G).any (fun z => sp_pc h aw g z q))
def sp_pi (h : Nat → Nat) (a aw g G A q : Nat) : Bool := sp_pg h a aw g G q || (decide (q < A) && sp_pc h aw g G q)
theorem sp_pi0 (h : Nat → Nat) (a aw g G q : Nat) : sp_pi h a aw g G 0 q = sp_pg h a aw g G q := by
  unfold sp_pi
  rw [decide_eq_false (Nat.not_lt_zero q)]
  simp
theorem sp_piS (h : Nat → Nat) (a aw g G q : Nat) : sp_pi h a aw g G a q = sp_pg h a aw g (G + 1) q := by
  unfold sp_pi sp_pg
  rw [List.range_succ, List.any_append]
  simp only [List.any_cons, List.any_nil, Bool.or_false]
  cases g.testBit q <;> cases decide (q < a) <;> simp
theorem sp_pi1 (h : Nat → Nat) (a aw g G A q : Nat) : sp_pi h a aw g G (A + 1) q = (sp_pi h a aw g G A q || (decide (A = q) && sp_pc h aw g G A)) := by
  unfold sp_pi
  by_cases e : A = q
  · subst e
    simp
  · rw [show decide (q < A + 1) = decide (q < A) from decide_eq_decide.mpr (by omega), decide_eq_false e]
    simp
theorem sp_pi_no {h : Nat → Nat} {a aw g G A bits : Nat} (hb : ∀ q, bits.testBit q = sp_pi h a aw g G A q) (hc : sp_pc h aw g G A = false) : ∀ q, bits.testBit q = sp_pi h a aw g G (A + 1) q := by
  intro q
  rw [sp_pi1, hc, hb q]
  simp
theorem sp_pi_yes {h : Nat → Nat} {a aw g G A bits : Nat} (hb : ∀ q, bits.testBit q = sp_pi h a aw g G A q) (hc : sp_pc h aw g G A = true) : ∀ q, (bits ||| 2 ^ A).testBit q = sp_pi h a aw g G (A + 1) q := by
  intro q
  rw [sp_pi1, hc, Nat.testBit_or, hb q, Nat.testBit_two_pow]
  simp
theorem sp_or4 {x A : Nat} (hx : x < 16) (hA : A < 4) : (x ||| 2 ^ A) < 16 := Nat.or_lt_two_pow (n := 4) hx (Nat.pow_lt_pow_right (by decide) hA)
theorem sp_pg_gv {h : Nat → Nat} {a aw g bits : Nat} (hg : g < 2 ^ a) (hb : ∀ q, bits.testBit q = sp_pg h a aw g a q) : bits = sp_gv h a aw g := by
  apply sp_eq_bit
  intro q
  rw [hb, sp_gv, sp_bs_bit]
  unfold sp_pg sp_pc
  by_cases hq : q < a
  · rw [decide_eq_true hq]
    simp only [Bool.true_and]
    congr 1
    cases hd : decide (q = aw)
    · simp
    · simp
  · rw [decide_eq_false hq, Nat.testBit_lt_two_pow (Nat.lt_of_lt_of_le hg (Nat.pow_le_pow_right (by decide) (by omega)))]
    simp
theorem sp_gv_lt (h : Nat → Nat) (a aw g : Nat) : sp_gv h a aw g < 2 ^ a := sp_bs_lt _ a
theorem sp_tk_lt (h : Nat → Nat) (a aw j : Nat) : sp_tk h a aw j < 2 ^ a := sp_bs_lt _ a
theorem sp_p16 {a x : Nat} (ha : a ≤ 4) (hx : x < 2 ^ a) : x < 16 := Nat.lt_of_lt_of_le hx (Nat.pow_le_pow_right (n := 2) (by decide) ha)

set_option maxHeartbeats 4000000 in
theorem s_handedOnn_in {M : am_Mem} {a f hr hs lt : Nat} {k h : Nat → Nat} (hS : sp_S 1 M a f hr hs lt k h) (hO : sp_ok a f hr lt k h)  {Q : Option Value → am_Mem → Prop} {g G : Nat} (hg : g < 16) (hG : G < a) (kk : ∀ bits : Nat, bits < 16 → (∀ q, bits.testBit q = sp_pg h a 9 g (G + 1) q) → am_go 27 (5, [.ref 1, .int (nI g), .int ((-nI 9)), .int (nI bits), .int (nI (G + 1)), .int (nI a)], [], M) Q) : ∀ n A bits : Nat, bits < 16 → (∀ q, bits.testBit q = sp_pi h a 9 g G A q) → n + A = a + 1 → A ≤ a → am_go 27 (17, [.ref 1, .int (nI g), .int ((-nI 9)), .int (nI bits), .int (nI G), .int (nI A)], [], M) Q := by
  obtain ⟨hF, hA, hHr, hHs, hLt, hK, hH⟩ := id hS
  obtain ⟨oA, oF, oHr, oLt, oK, oH⟩ := id hO
  intro n
  induction n with
  | zero => intro A bits hb4 hb h1 h2; omega
  | succ n ih =>
    intro A bits hb4 hb h1 h2
    refine am_goQ 3 (s1 := (23, [.ref 1, .int (nI g), .int ((-nI 9)), .int (nI bits), .int (nI G), .int (nI A)], [.int ((M 1 1)), .int (nI A)], M)) (s2 := (23, [.ref 1, .int (nI g), .int ((-nI 9)), .int (nI bits), .int (nI G), .int (nI A)], [.int (nI a), .int (nI A)], M)) rfl (by simp only [hA]) ?_
    refine am_bLE (a) (A) (s1 := (65, [.ref 1, .int (nI g), .int ((-nI 9)), .int (nI bits), .int (nI G), .int (nI A)], [], M)) (s2 := (26, [.ref 1, .int (nI g), .int ((-nI 9)), .int (nI bits), .int (nI G), .int (nI A)], [], M)) rfl (by omega) (by omega) (fun c1 => ?_) (fun c1 => ?_)
    · refine am_goQ 2 (s1 := (5, [.ref 1, .int (nI g), .int ((-nI 9)), .int (nI bits), .int ((nI G + nI 1)), .int (nI A)], [], M)) (s2 := (5, [.ref 1, .int (nI g), .int ((-nI 9)), .int (nI bits), .int (nI (G + 1)), .int (nI A)], [], M)) rfl (by simp only [nI_add]) ?_
      have eA : A = a := by omega
      subst eA
      exact kk bits hb4 (fun q => (hb q).trans (sp_piS h A 9 g G q))
    · refine am_goR 2 (s2 := (29, [.ref 1, .int (nI g), .int ((-nI 9)), .int (nI bits), .int (nI G), .int (nI A)], [.int (nI G), .int (nI g)], M)) rfl ?_
      refine am_goX (v := am_b (g.testBit G)) (M2 := M) (s2 := (32, [.ref 1, .int (nI g), .int ((-nI 9)), .int (nI bits), .int (nI G), .int (nI A)], [], M)) rfl (s_hasBit1 (x := g) (j := G) (by omega) (by omega)) ?_
      refine am_bB0 (g.testBit G) (s1 := (59, [.ref 1, .int (nI g), .int ((-nI 9)), .int (nI bits), .int (nI G), .int (nI A)], [], M)) (s2 := (35, [.ref 1, .int (nI g), .int ((-nI 9)), .int (nI bits), .int (nI G), .int (nI A)], [], M)) rfl (fun c2 => ?_) (fun c2 => ?_)
      · refine am_goQ 2 (s1 := (17, [.ref 1, .int (nI g), .int ((-nI 9)), .int (nI bits), .int (nI G), .int ((nI A + nI 1))], [], M)) (s2 := (17, [.ref 1, .int (nI g), .int ((-nI 9)), .int (nI bits), .int (nI G), .int (nI (A + 1))], [], M)) rfl (by simp only [nI_add]) ?_
        exact ih (A + 1) bits hb4 (sp_pi_no hb (by unfold sp_pc; simp [*]; try omega)) (by omega) (by omega)
      · refine am_goR 2 (s2 := (38, [.ref 1, .int (nI g), .int ((-nI 9)), .int (nI bits), .int (nI G), .int (nI A)], [.int ((-nI 9)), .int (nI A)], M)) rfl ?_
        refine am_bF (s1 := (59, [.ref 1, .int (nI g), .int ((-nI 9)), .int (nI bits), .int (nI G), .int (nI A)], [], M)) (s2 := (41, [.ref 1, .int (nI g), .int ((-nI 9)), .int (nI bits), .int (nI G), .int (nI A)], [], M)) rfl (am_nm_ne (x := A) (m := 9) (by omega) (by decide) (by decide)) ?_
        refine am_goR 3 (s2 := (46, [.ref 1, .int (nI g), .int ((-nI 9)), .int (nI bits), .int (nI G), .int (nI A)], [.int (nI A), .int (nI G), .ref 1], M)) rfl ?_
        refine am_goX (v := am_b (sp_ht h G A)) (M2 := M) (s2 := (49, [.ref 1, .int (nI g), .int ((-nI 9)), .int (nI bits), .int (nI G), .int (nI A)], [], M)) rfl (s_together_1 hS hO (i := G) (i2 := A) (by omega) (by omega)) ?_
        refine am_bB0 (sp_ht h G A) (s1 := (59, [.ref 1, .int (nI g), .int ((-nI 9)), .int (nI bits), .int (nI G), .int (nI A)], [], M)) (s2 := (52, [.ref 1, .int (nI g), .int ((-nI 9)), .int (nI bits), .int (nI G), .int (nI A)], [], M)) rfl (fun c3 => ?_) (fun c3 => ?_)
        · refine am_goQ 2 (s1 := (17, [.ref 1, .int (nI g), .int ((-nI 9)), .int (nI bits), .int (nI G), .int ((nI A + nI 1))], [], M)) (s2 := (17, [.ref 1, .int (nI g), .int ((-nI 9)), .int (nI bits), .int (nI G), .int (nI (A + 1))], [], M)) rfl (by simp only [nI_add]) ?_
          exact ih (A + 1) bits hb4 (sp_pi_no hb (by unfold sp_pc; simp [*]; try omega)) (by omega) (by omega)
        · refine am_goQ 8 (s1 := (17, [.ref 1, .int (nI g), .int ((-nI 9)), .int ((nI bits ||| (nI 1 <<< (nI A &&& 31)))), .int (nI G), .int ((nI A + nI 1))], [], M)) (s2 := (17, [.ref 1, .int (nI g), .int ((-nI 9)), .int (nI (bits ||| (2 ^ A))), .int (nI G), .int (nI (A + 1))], [], M)) rfl (by simp only [am_shl1 (j := A) (by omega), am_or, nI_add]) ?_
          exact ih (A + 1) (bits ||| (2 ^ A)) (sp_or4 hb4 (by omega)) (sp_pi_yes hb (by unfold sp_pc; simp [*]; try omega)) (by omega) (by omega)
set_option maxHeartbeats 4000000 in
theorem s_handedOnn_out {M : am_Mem} {a f hr hs lt : Nat} {k h : Nat → Nat} (hS : sp_S 1 M a f hr hs lt k h) (hO : sp_ok a f hr lt k h)  {g : Nat} (hg : g < 16) (hga : g < 2 ^ a) : ∀ n G bits : Nat, ∀ v5 : Value, bits < 16 → (∀ q, bits.testBit q = sp_pg h a 9 g G q) → n + G = a + 1 → G ≤ a → am_go 27 (5, [.ref 1, .int (nI g), .int ((-nI 9)), .int (nI bits), .int (nI G), v5], [], M) (am_is (nI (sp_gv h a 9 g)) M) := by
  obtain ⟨hF, hA, hHr, hHs, hLt, hK, hH⟩ := id hS
  obtain ⟨oA, oF, oHr, oLt, oK, oH⟩ := id hO
  intro n
  induction n with
  | zero => intro G bits v5 hb4 hb h1 h2; omega
  | succ n ih =>
    intro G bits v5 hb4 hb h1 h2
    refine am_goQ 3 (s1 := (11, [.ref 1, .int (nI g), .int ((-nI 9)), .int (nI bits), .int (nI G), v5], [.int ((M 1 1)), .int (nI G)], M)) (s2 := (11, [.ref 1, .int (nI g), .int ((-nI 9)), .int (nI bits), .int (nI G), v5], [.int (nI a), .int (nI G)], M)) rfl (by simp only [hA]) ?_
    refine am_bLE (a) (G) (s1 := (71, [.ref 1, .int (nI g), .int ((-nI 9)), .int (nI bits), .int (nI G), v5], [], M)) (s2 := (14, [.ref 1, .int (nI g), .int ((-nI 9)), .int (nI bits), .int (nI G), v5], [], M)) rfl (by omega) (by omega) (fun c1 => ?_) (fun c1 => ?_)
    · refine am_goR 1 (s2 := (72, [.ref 1, .int (nI g), .int ((-nI 9)), .int (nI bits), .int (nI G), v5], [.int (nI bits)], M)) rfl ?_
      have eG : G = a := by omega
      subst eG
      exact am_ends (nI bits) _ rfl (by rw [sp_pg_gv hga hb]) rfl
    · refine am_goR 2 (s2 := (17, [.ref 1, .int (nI g), .int ((-nI 9)), .int (nI bits), .int (nI G), .int (nI 0)], [], M)) rfl ?_
      exact s_handedOnn_in hS hO hg (by omega) (fun bits2 b1 b2 => ih (G + 1) bits2 (.int (nI a)) b1 b2 (by omega) (by omega)) (a + 1) 0 bits hb4 (fun q => (hb q).trans (sp_pi0 h a 9 g G q).symm) (by omega) (by omega)
theorem s_handedOnn {M : am_Mem} {a f hr hs lt : Nat} {k h : Nat → Nat} (hS : sp_S 1 M a f hr hs lt k h) (hO : sp_ok a f hr lt k h)  {g : Nat} (hga : g < 2 ^ a) : am_go 27 (am_ent 27 [.ref 1, .int (nI g), .int ((-nI 9))] M) (am_is (nI (sp_gv h a 9 g)) M) := by
  have hg := sp_p16 hO.1 hga
  refine am_goR 4 (s2 := (5, [.ref 1, .int (nI g), .int ((-nI 9)), .int (nI g), .int (nI 0), .null], [], M)) rfl ?_
  exact s_handedOnn_out hS hO hg hga (a + 1) 0 g .null hg (fun q => by simp [sp_pg]) (by omega) (by omega)

set_option maxHeartbeats 4000000 in
theorem s_fewestn_loop {M : am_Mem} {a f hr hs lt : Nat} {k h : Nat → Nat} (hS : sp_S 1 M a f hr hs lt k h) (hO : sp_ok a f hr lt k h) {j j2 r : Nat}  (hr2 : r < 16) : ∀ n m g : Nat, g < 2 ^ a → n + m = a + 1 → 1 ≤ m → am_go 24 (26, [.ref 1, .int (nI j), .int (nI j2), .int ((-nI 9)), .int (nI g), .int (nI r), .int (nI m)], [], M) (am_is (sp_oi (sp_hn h a 9 r n g m)) M) := by
  obtain ⟨hF, hA, hHr, hHs, hLt, hK, hH⟩ := id hS
  obtain ⟨oA, oF, oHr, oLt, oK, oH⟩ := id hO
  intro n
  induction n with
  | zero =>
    intro m g hga h1 h2
    have hgr : (g &&& r) < 16 := Nat.lt_of_le_of_lt Nat.and_le_right hr2
    refine am_goQ 3 (s1 := (32, [.ref 1, .int (nI j), .int (nI j2), .int ((-nI 9)), .int (nI g), .int (nI r), .int (nI m)], [.int ((M 1 1)), .int (nI m)], M)) (s2 := (32, [.ref 1, .int (nI j), .int (nI j2), .int ((-nI 9)), .int (nI g), .int (nI r), .int (nI m)], [.int (nI a), .int (nI m)], M)) rfl (by simp only [hA]) ?_
    refine am_bLT (a) (m) (s1 := (61, [.ref 1, .int (nI j), .int (nI j2), .int ((-nI 9)), .int (nI g), .int (nI r), .int (nI m)], [], M)) (s2 := (35, [.ref 1, .int (nI j), .int (nI j2), .int ((-nI 9)), .int (nI g), .int (nI r), .int (nI m)], [], M)) rfl (by omega) (by omega) (fun c3 => ?_) (fun c3 => absurd c3 (by omega))
    refine am_goR 1 (s2 := (63, [.ref 1, .int (nI j), .int (nI j2), .int ((-nI 9)), .int (nI g), .int (nI r), .int (nI m)], [.int ((-nI 9))], M)) rfl ?_
    exact am_ends (-nI 9) _ rfl rfl rfl
  | succ n ih =>
    intro m g hga h1 h2
    have hgr : (g &&& r) < 16 := Nat.lt_of_le_of_lt Nat.and_le_right hr2
    refine am_goQ 3 (s1 := (32, [.ref 1, .int (nI j), .int (nI j2), .int ((-nI 9)), .int (nI g), .int (nI r), .int (nI m)], [.int ((M 1 1)), .int (nI m)], M)) (s2 := (32, [.ref 1, .int (nI j), .int (nI j2), .int ((-nI 9)), .int (nI g), .int (nI r), .int (nI m)], [.int (nI a), .int (nI m)], M)) rfl (by simp only [hA]) ?_
    refine am_bLT (a) (m) (s1 := (61, [.ref 1, .int (nI j), .int (nI j2), .int ((-nI 9)), .int (nI g), .int (nI r), .int (nI m)], [], M)) (s2 := (35, [.ref 1, .int (nI j), .int (nI j2), .int ((-nI 9)), .int (nI g), .int (nI r), .int (nI m)], [], M)) rfl (by omega) (by omega) (fun c1 => absurd c1 (by omega)) (fun c1 => ?_)
    refine am_goQ 3 (s1 := (40, [.ref 1, .int (nI j), .int (nI j2), .int ((-nI 9)), .int (nI g), .int (nI r), .int (nI m)], [.int ((nI g &&& nI r))], M)) (s2 := (40, [.ref 1, .int (nI j), .int (nI j2), .int ((-nI 9)), .int (nI g), .int (nI r), .int (nI m)], [.int (nI (g &&& r))], M)) rfl (by simp only [am_and]) ?_
    refine am_bEQ ((g &&& r)) (0) (s1 := (46, [.ref 1, .int (nI j), .int (nI j2), .int ((-nI 9)), .int (nI g), .int (nI r), .int (nI m)], [], M)) (s2 := (43, [.ref 1, .int (nI j), .int (nI j2), .int ((-nI 9)), .int (nI g), .int (nI r), .int (nI m)], [], M)) rfl (by omega) (by omega) (fun c2 => ?_) (fun c2 => ?_)
    · refine am_goR 3 (s2 := (50, [.ref 1, .int (nI j), .int (nI j2), .int ((-nI 9)), .int (nI g), .int (nI r), .int (nI m)], [.int ((-nI 9)), .int (nI g), .ref 1], M)) rfl ?_
      refine am_goX (v := nI (sp_gv h a 9 g)) (M2 := M) (s2 := (53, [.ref 1, .int (nI j), .int (nI j2), .int ((-nI 9)), .int (nI g), .int (nI r), .int (nI m)], [], M)) rfl (s_handedOnn hS hO (g := g) hga) ?_
      refine am_goQ 3 (s1 := (26, [.ref 1, .int (nI j), .int (nI j2), .int ((-nI 9)), .int (nI (sp_gv h a 9 g)), .int (nI r), .int ((nI m + nI 1))], [], M)) (s2 := (26, [.ref 1, .int (nI j), .int (nI j2), .int ((-nI 9)), .int (nI (sp_gv h a 9 g)), .int (nI r), .int (nI (m + 1))], [], M)) rfl (by simp only [nI_add]) ?_
      rw [sp_hn, if_pos (by assumption)]
      exact ih (m + 1) _ (sp_gv_lt h a _ g) (by omega) (by omega)
    · refine am_goR 1 (s2 := (45, [.ref 1, .int (nI j), .int (nI j2), .int ((-nI 9)), .int (nI g), .int (nI r), .int (nI m)], [.int (nI m)], M)) rfl ?_
      rw [sp_hn, if_neg (by assumption)]
      exact am_ends (nI m) _ rfl rfl rfl
set_option maxHeartbeats 4000000 in
theorem s_fewestn {M : am_Mem} {a f hr hs lt : Nat} {k h : Nat → Nat} (hS : sp_S 1 M a f hr hs lt k h) (hO : sp_ok a f hr lt k h) {j j2 : Nat} (hj : j < 12) (hj2 : j2 < 12)  : am_go 24 (am_ent 24 [.ref 1, .int (nI j), .int (nI j2), .int ((-nI 9))] M) (am_is (sp_oi (if j = j2 then some 0 else sp_hn h a 9 (sp_tk h a 9 j2) a (sp_tk h a 9 j) 1)) M) := by
  obtain ⟨hF, hA, hHr, hHs, hLt, hK, hH⟩ := id hS
  obtain ⟨oA, oF, oHr, oLt, oK, oH⟩ := id hO
  refine am_goR 2 (s2 := (2, [.ref 1, .int (nI j), .int (nI j2), .int ((-nI 9)), .null, .null, .null], [.int (nI j2), .int (nI j)], M)) rfl ?_
  refine am_bNE (j) (j2) (s1 := (7, [.ref 1, .int (nI j), .int (nI j2), .int ((-nI 9)), .null, .null, .null], [], M)) (s2 := (5, [.ref 1, .int (nI j), .int (nI j2), .int ((-nI 9)), .null, .null, .null], [], M)) rfl (by omega) (by omega) (fun c1 => ?_) (fun c1 => ?_)
  · refine am_goR 3 (s2 := (10, [.ref 1, .int (nI j), .int (nI j2), .int ((-nI 9)), .null, .null, .null], [.int ((-nI 9)), .int (nI j), .ref 1], M)) rfl ?_
    refine am_goX (v := nI (sp_tk h a 9 j)) (M2 := M) (s2 := (13, [.ref 1, .int (nI j), .int (nI j2), .int ((-nI 9)), .null, .null, .null], [], M)) rfl (s_takersn_1 hS hO (j := j) (by omega)) ?_
    refine am_goR 4 (s2 := (18, [.ref 1, .int (nI j), .int (nI j2), .int ((-nI 9)), .int (nI (sp_tk h a 9 j)), .null, .null], [.int ((-nI 9)), .int (nI j2), .ref 1], M)) rfl ?_
    refine am_goX (v := nI (sp_tk h a 9 j2)) (M2 := M) (s2 := (21, [.ref 1, .int (nI j), .int (nI j2), .int ((-nI 9)), .int (nI (sp_tk h a 9 j)), .null, .null], [], M)) rfl (s_takersn_1 hS hO (j := j2) (by omega)) ?_
    refine am_goR 3 (s2 := (26, [.ref 1, .int (nI j), .int (nI j2), .int ((-nI 9)), .int (nI (sp_tk h a 9 j)), .int (nI (sp_tk h a 9 j2)), .int (nI 1)], [], M)) rfl ?_
    rw [if_neg (by assumption)]
    exact s_fewestn_loop hS hO (sp_p16 oA (sp_tk_lt h a _ j2)) a 1 _ (sp_tk_lt h a _ j) (by omega) (by omega)
  · refine am_goR 1 (s2 := (6, [.ref 1, .int (nI j), .int (nI j2), .int ((-nI 9)), .null, .null, .null], [.int (nI 0)], M)) rfl ?_
    rw [if_pos (by assumption)]
    exact am_ends (nI 0) _ rfl rfl rfl

set_option maxHeartbeats 4000000 in
theorem s_handedOnw_in {M : am_Mem} {a f hr hs lt : Nat} {k h : Nat → Nat} (hS : sp_S 1 M a f hr hs lt k h) (hO : sp_ok a f hr lt k h) {w : Nat} (hw : w < 4) {Q : Option Value → am_Mem → Prop} {g G : Nat} (hg : g < 16) (hG : G < a) (kk : ∀ bits : Nat, bits < 16 → (∀ q, bits.testBit q = sp_pg h a w g (G + 1) q) → am_go 27 (5, [.ref 1, .int (nI g), .int (nI w), .int (nI bits), .int (nI (G + 1)), .int (nI a)], [], M) Q) : ∀ n A bits : Nat, bits < 16 → (∀ q, bits.testBit q = sp_pi h a w g G A q) → n + A = a + 1 → A ≤ a → am_go 27 (17, [.ref 1, .int (nI g), .int (nI w), .int (nI bits), .int (nI G), .int (nI A)], [], M) Q := by
  obtain ⟨hF, hA, hHr, hHs, hLt, hK, hH⟩ := id hS
  obtain ⟨oA, oF, oHr, oLt, oK, oH⟩ := id hO
  intro n
  induction n with
  | zero => intro A bits hb4 hb h1 h2; omega
  | succ n ih =>
    intro A bits hb4 hb h1 h2
    refine am_goQ 3 (s1 := (23, [.ref 1, .int (nI g), .int (nI w), .int (nI bits), .int (nI G), .int (nI A)], [.int ((M 1 1)), .int (nI A)], M)) (s2 := (23, [.ref 1, .int (nI g), .int (nI w), .int (nI bits), .int (nI G), .int (nI A)], [.int (nI a), .int (nI A)], M)) rfl (by simp only [hA]) ?_
    refine am_bLE (a) (A) (s1 := (65, [.ref 1, .int (nI g), .int (nI w), .int (nI bits), .int (nI G), .int (nI A)], [], M)) (s2 := (26, [.ref 1, .int (nI g), .int (nI w), .int (nI bits), .int (nI G), .int (nI A)], [], M)) rfl (by omega) (by omega) (fun c1 => ?_) (fun c1 => ?_)
    · refine am_goQ 2 (s1 := (5, [.ref 1, .int (nI g), .int (nI w), .int (nI bits), .int ((nI G + nI 1)), .int (nI A)], [], M)) (s2 := (5, [.ref 1, .int (nI g), .int (nI w), .int (nI bits), .int (nI (G + 1)), .int (nI A)], [], M)) rfl (by simp only [nI_add]) ?_
      have eA : A = a := by omega
      subst eA
      exact kk bits hb4 (fun q => (hb q).trans (sp_piS h A w g G q))
    · refine am_goR 2 (s2 := (29, [.ref 1, .int (nI g), .int (nI w), .int (nI bits), .int (nI G), .int (nI A)], [.int (nI G), .int (nI g)], M)) rfl ?_
      refine am_goX (v := am_b (g.testBit G)) (M2 := M) (s2 := (32, [.ref 1, .int (nI g), .int (nI w), .int (nI bits), .int (nI G), .int (nI A)], [], M)) rfl (s_hasBit1 (x := g) (j := G) (by omega) (by omega)) ?_
      refine am_bB0 (g.testBit G) (s1 := (59, [.ref 1, .int (nI g), .int (nI w), .int (nI bits), .int (nI G), .int (nI A)], [], M)) (s2 := (35, [.ref 1, .int (nI g), .int (nI w), .int (nI bits), .int (nI G), .int (nI A)], [], M)) rfl (fun c2 => ?_) (fun c2 => ?_)
      · refine am_goQ 2 (s1 := (17, [.ref 1, .int (nI g), .int (nI w), .int (nI bits), .int (nI G), .int ((nI A + nI 1))], [], M)) (s2 := (17, [.ref 1, .int (nI g), .int (nI w), .int (nI bits), .int (nI G), .int (nI (A + 1))], [], M)) rfl (by simp only [nI_add]) ?_
        exact ih (A + 1) bits hb4 (sp_pi_no hb (by unfold sp_pc; simp [*]; try omega)) (by omega) (by omega)
      · refine am_goR 2 (s2 := (38, [.ref 1, .int (nI g), .int (nI w), .int (nI bits), .int (nI G), .int (nI A)], [.int (nI w), .int (nI A)], M)) rfl ?_
        refine am_bEQ (A) (w) (s1 := (59, [.ref 1, .int (nI g), .int (nI w), .int (nI bits), .int (nI G), .int (nI A)], [], M)) (s2 := (41, [.ref 1, .int (nI g), .int (nI w), .int (nI bits), .int (nI G), .int (nI A)], [], M)) rfl (by omega) (by omega) (fun c3 => ?_) (fun c3 => ?_)
        · refine am_goQ 2 (s1 := (17, [.ref 1, .int (nI g), .int (nI w), .int (nI bits), .int (nI G), .int ((nI A + nI 1))], [], M)) (s2 := (17, [.ref 1, .int (nI g), .int (nI w), .int (nI bits), .int (nI G), .int (nI (A + 1))], [], M)) rfl (by simp only [nI_add]) ?_
          exact ih (A + 1) bits hb4 (sp_pi_no hb (by unfold sp_pc; simp [*]; try omega)) (by omega) (by omega)
        · refine am_goR 3 (s2 := (46, [.ref 1, .int (nI g), .int (nI w), .int (nI bits), .int (nI G), .int (nI A)], [.int (nI A), .int (nI G), .ref 1], M)) rfl ?_
          refine am_goX (v := am_b (sp_ht h G A)) (M2 := M) (s2 := (49, [.ref 1, .int (nI g), .int (nI w), .int (nI bits), .int (nI G), .int (nI A)], [], M)) rfl (s_together_1 hS hO (i := G) (i2 := A) (by omega) (by omega)) ?_
          refine am_bB0 (sp_ht h G A) (s1 := (59, [.ref 1, .int (nI g), .int (nI w), .int (nI bits), .int (nI G), .int (nI A)], [], M)) (s2 := (52, [.ref 1, .int (nI g), .int (nI w), .int (nI bits), .int (nI G), .int (nI A)], [], M)) rfl (fun c4 => ?_) (fun c4 => ?_)
          · refine am_goQ 2 (s1 := (17, [.ref 1, .int (nI g), .int (nI w), .int (nI bits), .int (nI G), .int ((nI A + nI 1))], [], M)) (s2 := (17, [.ref 1, .int (nI g), .int (nI w), .int (nI bits), .int (nI G), .int (nI (A + 1))], [], M)) rfl (by simp only [nI_add]) ?_
            exact ih (A + 1) bits hb4 (sp_pi_no hb (by unfold sp_pc; simp [*]; try omega)) (by omega) (by omega)
          · refine am_goQ 8 (s1 := (17, [.ref 1, .int (nI g), .int (nI w), .int ((nI bits ||| (nI 1 <<< (nI A &&& 31)))), .int (nI G), .int ((nI A + nI 1))], [], M)) (s2 := (17, [.ref 1, .int (nI g), .int (nI w), .int (nI (bits ||| (2 ^ A))), .int (nI G), .int (nI (A + 1))], [], M)) rfl (by simp only [am_shl1 (j := A) (by omega), am_or, nI_add]) ?_
            exact ih (A + 1) (bits ||| (2 ^ A)) (sp_or4 hb4 (by omega)) (sp_pi_yes hb (by unfold sp_pc; simp [*]; try omega)) (by omega) (by omega)
set_option maxHeartbeats 4000000 in
theorem s_handedOnw_out {M : am_Mem} {a f hr hs lt : Nat} {k h : Nat → Nat} (hS : sp_S 1 M a f hr hs lt k h) (hO : sp_ok a f hr lt k h) {w : Nat} (hw : w < 4) {g : Nat} (hg : g < 16) (hga : g < 2 ^ a) : ∀ n G bits : Nat, ∀ v5 : Value, bits < 16 → (∀ q, bits.testBit q = sp_pg h a w g G q) → n + G = a + 1 → G ≤ a → am_go 27 (5, [.ref 1, .int (nI g), .int (nI w), .int (nI bits), .int (nI G), v5], [], M) (am_is (nI (sp_gv h a w g)) M) := by
  obtain ⟨hF, hA, hHr, hHs, hLt, hK, hH⟩ := id hS
  obtain ⟨oA, oF, oHr, oLt, oK, oH⟩ := id hO
  intro n
  induction n with
  | zero => intro G bits v5 hb4 hb h1 h2; omega
  | succ n ih =>
    intro G bits v5 hb4 hb h1 h2
    refine am_goQ 3 (s1 := (11, [.ref 1, .int (nI g), .int (nI w), .int (nI bits), .int (nI G), v5], [.int ((M 1 1)), .int (nI G)], M)) (s2 := (11, [.ref 1, .int (nI g), .int (nI w), .int (nI bits), .int (nI G), v5], [.int (nI a), .int (nI G)], M)) rfl (by simp only [hA]) ?_
    refine am_bLE (a) (G) (s1 := (71, [.ref 1, .int (nI g), .int (nI w), .int (nI bits), .int (nI G), v5], [], M)) (s2 := (14, [.ref 1, .int (nI g), .int (nI w), .int (nI bits), .int (nI G), v5], [], M)) rfl (by omega) (by omega) (fun c1 => ?_) (fun c1 => ?_)
    · refine am_goR 1 (s2 := (72, [.ref 1, .int (nI g), .int (nI w), .int (nI bits), .int (nI G), v5], [.int (nI bits)], M)) rfl ?_
      have eG : G = a := by omega
      subst eG
      exact am_ends (nI bits) _ rfl (by rw [sp_pg_gv hga hb]) rfl
    · refine am_goR 2 (s2 := (17, [.ref 1, .int (nI g), .int (nI w), .int (nI bits), .int (nI G), .int (nI 0)], [], M)) rfl ?_
      exact s_handedOnw_in hS hO hw hg (by omega) (fun bits2 b1 b2 => ih (G + 1) bits2 (.int (nI a)) b1 b2 (by omega) (by omega)) (a + 1) 0 bits hb4 (fun q => (hb q).trans (sp_pi0 h a w g G q).symm) (by omega) (by omega)
theorem s_handedOnw {M : am_Mem} {a f hr hs lt : Nat} {k h : Nat → Nat} (hS : sp_S 1 M a f hr hs lt k h) (hO : sp_ok a f hr lt k h) {w : Nat} (hw : w < 4) {g : Nat} (hga : g < 2 ^ a) : am_go 27 (am_ent 27 [.ref 1, .int (nI g), .int (nI w)] M) (am_is (nI (sp_gv h a w g)) M) := by
  have hg := sp_p16 hO.1 hga
  refine am_goR 4 (s2 := (5, [.ref 1, .int (nI g), .int (nI w), .int (nI g), .int (nI 0), .null], [], M)) rfl ?_
  exact s_handedOnw_out hS hO hw hg hga (a + 1) 0 g .null hg (fun q => by simp [sp_pg]) (by omega) (by omega)

set_option maxHeartbeats 4000000 in
theorem s_fewestw_loop {M : am_Mem} {a f hr hs lt : Nat} {k h : Nat → Nat} (hS : sp_S 1 M a f hr hs lt k h) (hO : sp_ok a f hr lt k h) {j j2 r : Nat} {w : Nat} (hw : w < 4) (hr2 : r < 16) : ∀ n m g : Nat, g < 2 ^ a → n + m = a + 1 → 1 ≤ m → am_go 24 (26, [.ref 1, .int (nI j), .int (nI j2), .int (nI w), .int (nI g), .int (nI r), .int (nI m)], [], M) (am_is (sp_oi (sp_hn h a w r n g m)) M) := by
  obtain ⟨hF, hA, hHr, hHs, hLt, hK, hH⟩ := id hS
  obtain ⟨oA, oF, oHr, oLt, oK, oH⟩ := id hO
  intro n
  induction n with
  | zero =>
    intro m g hga h1 h2
    have hgr : (g &&& r) < 16 := Nat.lt_of_le_of_lt Nat.and_le_right hr2
    refine am_goQ 3 (s1 := (32, [.ref 1, .int (nI j), .int (nI j2), .int (nI w), .int (nI g), .int (nI r), .int (nI m)], [.int ((M 1 1)), .int (nI m)], M)) (s2 := (32, [.ref 1, .int (nI j), .int (nI j2), .int (nI w), .int (nI g), .int (nI r), .int (nI m)], [.int (nI a), .int (nI m)], M)) rfl (by simp only [hA]) ?_
    refine am_bLT (a) (m) (s1 := (61, [.ref 1, .int (nI j), .int (nI j2), .int (nI w), .int (nI g), .int (nI r), .int (nI m)], [], M)) (s2 := (35, [.ref 1, .int (nI j), .int (nI j2), .int (nI w), .int (nI g), .int (nI r), .int (nI m)], [], M)) rfl (by omega) (by omega) (fun c3 => ?_) (fun c3 => absurd c3 (by omega))
    refine am_goR 1 (s2 := (63, [.ref 1, .int (nI j), .int (nI j2), .int (nI w), .int (nI g), .int (nI r), .int (nI m)], [.int ((-nI 9))], M)) rfl ?_
    exact am_ends (-nI 9) _ rfl rfl rfl
  | succ n ih =>
    intro m g hga h1 h2
    have hgr : (g &&& r) < 16 := Nat.lt_of_le_of_lt Nat.and_le_right hr2
    refine am_goQ 3 (s1 := (32, [.ref 1, .int (nI j), .int (nI j2), .int (nI w), .int (nI g), .int (nI r), .int (nI m)], [.int ((M 1 1)), .int (nI m)], M)) (s2 := (32, [.ref 1, .int (nI j), .int (nI j2), .int (nI w), .int (nI g), .int (nI r), .int (nI m)], [.int (nI a), .int (nI m)], M)) rfl (by simp only [hA]) ?_
    refine am_bLT (a) (m) (s1 := (61, [.ref 1, .int (nI j), .int (nI j2), .int (nI w), .int (nI g), .int (nI r), .int (nI m)], [], M)) (s2 := (35, [.ref 1, .int (nI j), .int (nI j2), .int (nI w), .int (nI g), .int (nI r), .int (nI m)], [], M)) rfl (by omega) (by omega) (fun c1 => absurd c1 (by omega)) (fun c1 => ?_)
    refine am_goQ 3 (s1 := (40, [.ref 1, .int (nI j), .int (nI j2), .int (nI w), .int (nI g), .int (nI r), .int (nI m)], [.int ((nI g &&& nI r))], M)) (s2 := (40, [.ref 1, .int (nI j), .int (nI j2), .int (nI w), .int (nI g), .int (nI r), .int (nI m)], [.int (nI (g &&& r))], M)) rfl (by simp only [am_and]) ?_
    refine am_bEQ ((g &&& r)) (0) (s1 := (46, [.ref 1, .int (nI j), .int (nI j2), .int (nI w), .int (nI g), .int (nI r), .int (nI m)], [], M)) (s2 := (43, [.ref 1, .int (nI j), .int (nI j2), .int (nI w), .int (nI g), .int (nI r), .int (nI m)], [], M)) rfl (by omega) (by omega) (fun c2 => ?_) (fun c2 => ?_)
    · refine am_goR 3 (s2 := (50, [.ref 1, .int (nI j), .int (nI j2), .int (nI w), .int (nI g), .int (nI r), .int (nI m)], [.int (nI w), .int (nI g), .ref 1], M)) rfl ?_
      refine am_goX (v := nI (sp_gv h a w g)) (M2 := M) (s2 := (53, [.ref 1, .int (nI j), .int (nI j2), .int (nI w), .int (nI g), .int (nI r), .int (nI m)], [], M)) rfl (s_handedOnw hS hO (g := g) hw hga) ?_
      refine am_goQ 3 (s1 := (26, [.ref 1, .int (nI j), .int (nI j2), .int (nI w), .int (nI (sp_gv h a w g)), .int (nI r), .int ((nI m + nI 1))], [], M)) (s2 := (26, [.ref 1, .int (nI j), .int (nI j2), .int (nI w), .int (nI (sp_gv h a w g)), .int (nI r), .int (nI (m + 1))], [], M)) rfl (by simp only [nI_add]) ?_
      rw [sp_hn, if_pos (by assumption)]
      exact ih (m + 1) _ (sp_gv_lt h a _ g) (by omega) (by omega)
    · refine am_goR 1 (s2 := (45, [.ref 1, .int (nI j), .int (nI j2), .int (nI w), .int (nI g), .int (nI r), .int (nI m)], [.int (nI m)], M)) rfl ?_
      rw [sp_hn, if_neg (by assumption)]
      exact am_ends (nI m) _ rfl rfl rfl
set_option maxHeartbeats 4000000 in
theorem s_fewestw {M : am_Mem} {a f hr hs lt : Nat} {k h : Nat → Nat} (hS : sp_S 1 M a f hr hs lt k h) (hO : sp_ok a f hr lt k h) {j j2 : Nat} (hj : j < 12) (hj2 : j2 < 12) {w : Nat} (hw : w < 4) : am_go 24 (am_ent 24 [.ref 1, .int (nI j), .int (nI j2), .int (nI w)] M) (am_is (sp_oi (if j = j2 then some 0 else sp_hn h a w (sp_tk h a w j2) a (sp_tk h a w j) 1)) M) := by
  obtain ⟨hF, hA, hHr, hHs, hLt, hK, hH⟩ := id hS
  obtain ⟨oA, oF, oHr, oLt, oK, oH⟩ := id hO
  refine am_goR 2 (s2 := (2, [.ref 1, .int (nI j), .int (nI j2), .int (nI w), .null, .null, .null], [.int (nI j2), .int (nI j)], M)) rfl ?_
  refine am_bNE (j) (j2) (s1 := (7, [.ref 1, .int (nI j), .int (nI j2), .int (nI w), .null, .null, .null], [], M)) (s2 := (5, [.ref 1, .int (nI j), .int (nI j2), .int (nI w), .null, .null, .null], [], M)) rfl (by omega) (by omega) (fun c1 => ?_) (fun c1 => ?_)
  · refine am_goR 3 (s2 := (10, [.ref 1, .int (nI j), .int (nI j2), .int (nI w), .null, .null, .null], [.int (nI w), .int (nI j), .ref 1], M)) rfl ?_
    refine am_goX (v := nI (sp_tk h a w j)) (M2 := M) (s2 := (13, [.ref 1, .int (nI j), .int (nI j2), .int (nI w), .null, .null, .null], [], M)) rfl (s_takersw_1 hS hO (j := j) (by omega) hw) ?_
    refine am_goR 4 (s2 := (18, [.ref 1, .int (nI j), .int (nI j2), .int (nI w), .int (nI (sp_tk h a w j)), .null, .null], [.int (nI w), .int (nI j2), .ref 1], M)) rfl ?_
    refine am_goX (v := nI (sp_tk h a w j2)) (M2 := M) (s2 := (21, [.ref 1, .int (nI j), .int (nI j2), .int (nI w), .int (nI (sp_tk h a w j)), .null, .null], [], M)) rfl (s_takersw_1 hS hO (j := j2) (by omega) hw) ?_
    refine am_goR 3 (s2 := (26, [.ref 1, .int (nI j), .int (nI j2), .int (nI w), .int (nI (sp_tk h a w j)), .int (nI (sp_tk h a w j2)), .int (nI 1)], [], M)) rfl ?_
    rw [if_neg (by assumption)]
    exact s_fewestw_loop hS hO hw (sp_p16 oA (sp_tk_lt h a _ j2)) a 1 _ (sp_tk_lt h a _ j) (by omega) (by omega)
  · refine am_goR 1 (s2 := (6, [.ref 1, .int (nI j), .int (nI j2), .int (nI w), .null, .null, .null], [.int (nI 0)], M)) rfl ?_
    rw [if_pos (by assumption)]
    exact am_ends (nI 0) _ rfl rfl rfl

