/-! walks: the class's small helpers, its stand at one time (cell 1 now, cell 4 in mind): what it answers -/
theorem am_hF {x : Int32} (h0 : ¬ x = 0) (h1 : ¬ x = nI 1) : am_in x 2 = false := by
  cases hb : am_in x 2 with
  | false => rfl
  | true =>
    obtain ⟨k, hk, rfl⟩ := am_in_of (by decide) hb
    have : k = 0 ∨ k = 1 := by omega
    rcases this with rfl | rfl
    · exact absurd rfl h0
    · exact absurd rfl h1
set_option maxHeartbeats 4000000 in
theorem s_isJoint {M : am_Mem} {x : Int32} : am_go 86 (am_ent 86 [.int (x)] M) (am_is (am_b (am_in x 12)) M) := by
  refine am_goR 1 (s2 := (1, [.int (x)], [.int (x)], M)) rfl ?_
  refine am_goB (x < 0) (s1 := (14, [.int (x)], [], M)) (s2 := (4, [.int (x)], [], M)) rfl (fun c1 => ?_) (fun c1 => ?_)
  · refine am_goR 1 (s2 := (15, [.int (x)], [.int (nI 0)], M)) rfl ?_
    exact am_endz false _ rfl (by first | exact (am_in_F1 (by assumption)).symm | exact (am_in_F2 (n := 12) (by assumption)).symm | exact (am_in_T (by assumption) (by assumption)).symm) (rfl)
  · refine am_goR 2 (s2 := (7, [.int (x)], [.int (nI 12), .int (x)], M)) rfl ?_
    refine am_goB (nI 12 ≤ x) (s1 := (14, [.int (x)], [], M)) (s2 := (10, [.int (x)], [], M)) rfl (fun c2 => ?_) (fun c2 => ?_)
    · refine am_goR 1 (s2 := (15, [.int (x)], [.int (nI 0)], M)) rfl ?_
      exact am_endz false _ rfl (by first | exact (am_in_F1 (by assumption)).symm | exact (am_in_F2 (n := 12) (by assumption)).symm | exact (am_in_T (by assumption) (by assumption)).symm) (rfl)
    · refine am_goR 2 (s2 := (15, [.int (x)], [.int (nI 1)], M)) rfl ?_
      exact am_endz true _ rfl (by first | exact (am_in_F1 (by assumption)).symm | exact (am_in_F2 (n := 12) (by assumption)).symm | exact (am_in_T (by assumption) (by assumption)).symm) (rfl)

set_option maxHeartbeats 4000000 in
theorem s_isHand {M : am_Mem} {x : Int32} : am_go 87 (am_ent 87 [.int (x)] M) (am_is (am_b (am_in x 2)) M) := by
  refine am_goR 1 (s2 := (1, [.int (x)], [.int (x)], M)) rfl ?_
  refine am_goB (x = 0) (s1 := (9, [.int (x)], [], M)) (s2 := (4, [.int (x)], [], M)) rfl (fun c1 => ?_) (fun c1 => ?_)
  · refine am_goR 2 (s2 := (14, [.int (x)], [.int (nI 1)], M)) rfl ?_
    exact am_endz true _ rfl (by first | (subst_vars; decide +kernel) | exact (am_hF (by assumption) (by assumption)).symm) (rfl)
  · refine am_goR 2 (s2 := (6, [.int (x)], [.int (nI 1), .int (x)], M)) rfl ?_
    refine am_goB' (x = nI 1) (s1 := (13, [.int (x)], [], M)) (s2 := (9, [.int (x)], [], M)) rfl (fun c2 => ?_) (fun c2 => ?_)
    · refine am_goR 1 (s2 := (14, [.int (x)], [.int (nI 0)], M)) rfl ?_
      exact am_endz false _ rfl (by first | (subst_vars; decide +kernel) | exact (am_hF (by assumption) (by assumption)).symm) (rfl)
    · refine am_goR 2 (s2 := (14, [.int (x)], [.int (nI 1)], M)) rfl ?_
      exact am_endz true _ rfl (by first | (subst_vars; decide +kernel) | exact (am_hF (by assumption) (by assumption)).symm) (rfl)

theorem s_isJointN {M : am_Mem} {j : Nat} (hj : j < 2147483648) : am_go 86 (am_ent 86 [.int (nI j)] M) (am_is (am_b (decide (j < 12))) M) := by
  rw [← am_in_nI (n := 12) hj (by decide)]
  exact s_isJoint
theorem s_isJoint1 {M : am_Mem} {j : Nat} (hj : j < 12) : am_go 86 (am_ent 86 [.int (nI j)] M) (am_is (nI 1) M) := by
  have h := s_isJointN (M := M) (j := j) (by omega)
  rw [decide_eq_true hj] at h
  exact h
theorem s_isHandN {M : am_Mem} {b : Nat} (hb : b < 2147483648) : am_go 87 (am_ent 87 [.int (nI b)] M) (am_is (am_b (decide (b < 2))) M) := by
  rw [← am_in_nI (n := 2) hb (by decide)]
  exact s_isHand
theorem s_isHand1 {M : am_Mem} {b : Nat} (hb : b < 2) : am_go 87 (am_ent 87 [.int (nI b)] M) (am_is (nI 1) M) := by
  have h := s_isHandN (M := M) (b := b) (by omega)
  rw [decide_eq_true hb] at h
  exact h

set_option maxHeartbeats 4000000 in
theorem s_hasBit {M : am_Mem} {x j : Nat} (hx : x < 2147483648) (hj : j < 2147483648) : am_go 88 (am_ent 88 [.int (nI x), .int (nI j)] M) (am_is (am_b (decide (j < 32) && x.testBit j)) M) := by
  refine am_goR 1 (s2 := (1, [.int (nI x), .int (nI j)], [.int (nI j)], M)) rfl ?_
  refine am_bLT (j) (0) (s1 := (23, [.int (nI x), .int (nI j)], [], M)) (s2 := (4, [.int (nI x), .int (nI j)], [], M)) rfl (by omega) (by omega) (fun c1 => absurd c1 (by omega)) (fun c1 => ?_)
  refine am_goR 2 (s2 := (7, [.int (nI x), .int (nI j)], [.int (nI 32), .int (nI j)], M)) rfl ?_
  refine am_bLE (32) (j) (s1 := (23, [.int (nI x), .int (nI j)], [], M)) (s2 := (10, [.int (nI x), .int (nI j)], [], M)) rfl (by omega) (by omega) (fun c2 => ?_) (fun c2 => ?_)
  · refine am_goR 1 (s2 := (24, [.int (nI x), .int (nI j)], [.int (nI 0)], M)) rfl ?_
    exact am_endz false _ rfl (by first | (simp [*]; done) | (simp [*] <;> omega)) (rfl)
  · refine am_goQ 6 (s1 := (16, [.int (nI x), .int (nI j)], [.int (nI 1), .int (((nI x >>> (nI j &&& 31)) &&& nI 1))], M)) (s2 := (16, [.int (nI x), .int (nI j)], [.int (nI 1), .int (am_b (x.testBit j))], M)) rfl (by simp only [am_shr (x := x) (j := j) (by omega) (by omega), am_and, am_bit]) ?_
    refine am_bBN (x.testBit j) true (s1 := (23, [.int (nI x), .int (nI j)], [], M)) (s2 := (19, [.int (nI x), .int (nI j)], [], M)) rfl (fun c3 => ?_) (fun c3 => ?_)
    · refine am_goR 1 (s2 := (24, [.int (nI x), .int (nI j)], [.int (nI 0)], M)) rfl ?_
      exact am_endz false _ rfl (by first | (simp [*]; done) | (simp [*] <;> omega)) (rfl)
    · refine am_goR 2 (s2 := (24, [.int (nI x), .int (nI j)], [.int (nI 1)], M)) rfl ?_
      exact am_endz true _ rfl (by first | (simp [*]; done) | (simp [*] <;> omega)) (rfl)

theorem s_hasBit1 {M : am_Mem} {x j : Nat} (hx : x < 2147483648) (hj : j < 32) : am_go 88 (am_ent 88 [.int (nI x), .int (nI j)] M) (am_is (am_b (x.testBit j)) M) := by
  have h := s_hasBit (M := M) (x := x) (j := j) hx (by omega)
  rw [decide_eq_true hj, Bool.true_and] at h
  exact h

set_option maxHeartbeats 4000000 in
theorem s_around_loop {M : am_Mem} {j r : Nat} (hj : j < 12) (hr : r < 2147483648) : ∀ n p : Nat, n + p = 13 → p ≤ 12 → am_go 89 (4, [.int (nI j), .int (nI r), .int (nI (sp_bs (fun q => decide (sp_ds q j ≤ r)) p)), .int (nI p)], [], M) (am_is (nI (sp_bs (fun q => decide (sp_ds q j ≤ r)) 12)) M) := by
  intro n
  induction n with
  | zero => intro p h1 h2; omega
  | succ n ih =>
    intro p h1 h2
    have hb := sp_bs_lt (fun q => decide (sp_ds q j ≤ r)) p
    have hd : sp_ds p j < 2147483648 := by unfold sp_ds; omega
    refine am_goR 2 (s2 := (7, [.int (nI j), .int (nI r), .int (nI (sp_bs (fun q => decide (sp_ds q j ≤ r)) p)), .int (nI p)], [.int (nI 12), .int (nI p)], M)) rfl ?_
    refine am_bLE (12) (p) (s1 := (32, [.int (nI j), .int (nI r), .int (nI (sp_bs (fun q => decide (sp_ds q j ≤ r)) p)), .int (nI p)], [], M)) (s2 := (10, [.int (nI j), .int (nI r), .int (nI (sp_bs (fun q => decide (sp_ds q j ≤ r)) p)), .int (nI p)], [], M)) rfl (by omega) (by omega) (fun c1 => ?_) (fun c1 => ?_)
    · refine am_goR 1 (s2 := (33, [.int (nI j), .int (nI r), .int (nI (sp_bs (fun q => decide (sp_ds q j ≤ r)) p)), .int (nI p)], [.int (nI (sp_bs (fun q => decide (sp_ds q j ≤ r)) p))], M)) rfl ?_
      exact am_ends (nI (sp_bs (fun q => decide (sp_ds q j ≤ r)) p)) _ rfl (by rw [show p = 12 by omega]) (rfl)
    · refine am_goQ 5 (s1 := (17, [.int (nI j), .int (nI r), .int (nI (sp_bs (fun q => decide (sp_ds q j ≤ r)) p)), .int (nI p)], [.int (nI r), .int ((am_abs ((nI p - nI j))))], M)) (s2 := (17, [.int (nI j), .int (nI r), .int (nI (sp_bs (fun q => decide (sp_ds q j ≤ r)) p)), .int (nI p)], [.int (nI r), .int (nI (sp_ds p j))], M)) rfl (by simp only [am_absd (x := p) (y := j) (by omega) (by omega)]) ?_
      refine am_bLT (r) ((sp_ds p j)) (s1 := (26, [.int (nI j), .int (nI r), .int (nI (sp_bs (fun q => decide (sp_ds q j ≤ r)) p)), .int (nI p)], [], M)) (s2 := (20, [.int (nI j), .int (nI r), .int (nI (sp_bs (fun q => decide (sp_ds q j ≤ r)) p)), .int (nI p)], [], M)) rfl (by omega) (by omega) (fun c2 => ?_) (fun c2 => ?_)
      · refine am_goQ 2 (s1 := (4, [.int (nI j), .int (nI r), .int (nI (sp_bs (fun q => decide (sp_ds q j ≤ r)) p)), .int ((nI p + nI 1))], [], M)) (s2 := (4, [.int (nI j), .int (nI r), .int (nI (sp_bs (fun q => decide (sp_ds q j ≤ r)) p)), .int (nI (p + 1))], [], M)) rfl (by simp only [nI_add]) ?_
        rw [show (sp_bs (fun q => decide (sp_ds q j ≤ r)) p) = sp_bs (fun q => decide (sp_ds q j ≤ r)) (p + 1) from by simp only [sp_bs]; first | rw [if_pos (by simp; omega)] | rw [if_neg (by simp; omega), Nat.or_zero]]
        exact ih (p + 1) (by omega) (by omega)
      · refine am_goQ 8 (s1 := (4, [.int (nI j), .int (nI r), .int ((nI (sp_bs (fun q => decide (sp_ds q j ≤ r)) p) ||| (nI 1 <<< (nI p &&& 31)))), .int ((nI p + nI 1))], [], M)) (s2 := (4, [.int (nI j), .int (nI r), .int (nI ((sp_bs (fun q => decide (sp_ds q j ≤ r)) p) ||| (2 ^ p))), .int (nI (p + 1))], [], M)) rfl (by simp only [am_shl1 (j := p) (by omega), am_or, nI_add]) ?_
        rw [show ((sp_bs (fun q => decide (sp_ds q j ≤ r)) p) ||| (2 ^ p)) = sp_bs (fun q => decide (sp_ds q j ≤ r)) (p + 1) from by simp only [sp_bs]; first | rw [if_pos (by simp; omega)] | rw [if_neg (by simp; omega), Nat.or_zero]]
        exact ih (p + 1) (by omega) (by omega)
theorem s_around {M : am_Mem} {j r : Nat} (hj : j < 12) (hr : r < 2147483648) : am_go 89 (am_ent 89 [.int (nI j), .int (nI r)] M) (am_is (nI (sp_bs (fun q => decide (sp_ds q j ≤ r)) 12)) M) := by
  refine am_goR 4 (s2 := (4, [.int (nI j), .int (nI r), .int (nI 0), .int (nI 0)], [], M)) rfl ?_
  exact s_around_loop hj hr 13 0 (by omega) (by omega)

set_option maxHeartbeats 4000000 in
theorem s_hasArm_1 {M : am_Mem} {a : Nat} (hA : M 1 1 = nI a) (oA : a ≤ 4) {x : Int32} : am_go 1 (am_ent 1 [.ref 1, .int (x)] M) (am_is (am_b (am_in x a)) M) := by
  refine am_goR 1 (s2 := (1, [.ref 1, .int (x)], [.int (x)], M)) rfl ?_
  refine am_goB (x < 0) (s1 := (25, [.ref 1, .int (x)], [], M)) (s2 := (4, [.ref 1, .int (x)], [], M)) rfl (fun c1 => ?_) (fun c1 => ?_)
  · refine am_goR 1 (s2 := (26, [.ref 1, .int (x)], [.int (nI 0)], M)) rfl ?_
    exact am_endz false _ rfl (by first | exact (am_in_F1 (by assumption)).symm | exact (am_in_T (by assumption) (by assumption)).symm | exact (am_in_F2 (by assumption)).symm | exact (am_in_F2 (am_leT (n := 4) (by assumption) oA (by decide))).symm) (rfl)
  · refine am_goQ 3 (s1 := (9, [.ref 1, .int (x)], [.int ((M 1 1)), .int (x)], M)) (s2 := (9, [.ref 1, .int (x)], [.int (nI a), .int (x)], M)) rfl (by simp only [hA]) ?_
    refine am_goB (nI a ≤ x) (s1 := (25, [.ref 1, .int (x)], [], M)) (s2 := (12, [.ref 1, .int (x)], [], M)) rfl (fun c2 => ?_) (fun c2 => ?_)
    · refine am_goR 1 (s2 := (26, [.ref 1, .int (x)], [.int (nI 0)], M)) rfl ?_
      exact am_endz false _ rfl (by first | exact (am_in_F1 (by assumption)).symm | exact (am_in_T (by assumption) (by assumption)).symm | exact (am_in_F2 (by assumption)).symm | exact (am_in_F2 (am_leT (n := 4) (by assumption) oA (by decide))).symm) (rfl)
    · refine am_goR 4 (s2 := (18, [.ref 1, .int (x)], [.int (nI 4), .int (x)], M)) rfl ?_
      refine am_goB (nI 4 ≤ x) (s1 := (25, [.ref 1, .int (x)], [], M)) (s2 := (21, [.ref 1, .int (x)], [], M)) rfl (fun c3 => ?_) (fun c3 => ?_)
      · refine am_goR 1 (s2 := (26, [.ref 1, .int (x)], [.int (nI 0)], M)) rfl ?_
        exact am_endz false _ rfl (by first | exact (am_in_F1 (by assumption)).symm | exact (am_in_T (by assumption) (by assumption)).symm | exact (am_in_F2 (by assumption)).symm | exact (am_in_F2 (am_leT (n := 4) (by assumption) oA (by decide))).symm) (rfl)
      · refine am_goR 2 (s2 := (26, [.ref 1, .int (x)], [.int (nI 1)], M)) rfl ?_
        exact am_endz true _ rfl (by first | exact (am_in_F1 (by assumption)).symm | exact (am_in_T (by assumption) (by assumption)).symm | exact (am_in_F2 (by assumption)).symm | exact (am_in_F2 (am_leT (n := 4) (by assumption) oA (by decide))).symm) (rfl)

theorem s_hasArmN_1 {M : am_Mem} {a : Nat} (hA : M 1 1 = nI a) (oA : a ≤ 4) {i : Nat} (hi : i < 2147483648) : am_go 1 (am_ent 1 [.ref 1, .int (nI i)] M) (am_is (am_b (decide (i < a))) M) := by
  have h := s_hasArm_1 hA oA (x := nI i)
  rw [am_in_nI hi (by omega)] at h
  exact h
theorem s_hasArm1_1 {M : am_Mem} {a : Nat} (hA : M 1 1 = nI a) (oA : a ≤ 4) {i : Nat} (hi : i < a) : am_go 1 (am_ent 1 [.ref 1, .int (nI i)] M) (am_is (nI 1) M) := by
  have h := s_hasArmN_1 hA oA (i := i) (by omega)
  rw [decide_eq_true hi] at h
  exact h

set_option maxHeartbeats 4000000 in
theorem s_kindOf_1 {M : am_Mem} {a f hr hs lt : Nat} {k h : Nat → Nat} (hS : sp_S 1 M a f hr hs lt k h) (hO : sp_ok a f hr lt k h) {i : Nat} (hi : i < a) : am_go 2 (am_ent 2 [.ref 1, .int (nI i)] M) (am_is (nI (k i)) M) := by
  obtain ⟨hF, hA, hHr, hHs, hLt, hK, hH⟩ := id hS
  obtain ⟨oA, oF, oHr, oLt, oK, oH⟩ := id hO
  have oKi := oK i
  refine am_goR 1 (s2 := (1, [.ref 1, .int (nI i)], [.int (nI i)], M)) rfl ?_
  refine am_bLT (i) (0) (s1 := (22, [.ref 1, .int (nI i)], [], M)) (s2 := (4, [.ref 1, .int (nI i)], [], M)) rfl (by omega) (by omega) (fun c1 => absurd c1 (by omega)) (fun c1 => ?_)
  refine am_goR 4 (s2 := (10, [.ref 1, .int (nI i)], [.int (nI 4), .int (nI i)], M)) rfl ?_
  refine am_bLE (4) (i) (s1 := (22, [.ref 1, .int (nI i)], [], M)) (s2 := (13, [.ref 1, .int (nI i)], [], M)) rfl (by omega) (by omega) (fun c2 => absurd c2 (by omega)) (fun c2 => ?_)
  refine am_goR 3 (s2 := (18, [.ref 1, .int (nI i)], [.int (nI i), .ref 2], M)) rfl ?_
  refine am_goL2 (pc := 19) (ls := [.ref 1, .int (nI i)]) (r := []) (M := M) (a := 2) (n := 4) (i) (nI (k i)) rfl rfl (by omega) (by decide) (hK _ (by omega)) ?_
  refine am_goR 1 (s2 := (23, [.ref 1, .int (nI i)], [.int (nI (k i))], M)) rfl ?_
  exact am_ends (nI (k i)) _ rfl (by rfl) (rfl)

set_option maxHeartbeats 4000000 in
theorem s_reachOf_1 {M : am_Mem} {a f hr hs lt : Nat} {k h : Nat → Nat} (hS : sp_S 1 M a f hr hs lt k h) (hO : sp_ok a f hr lt k h) {i : Nat} (hi : i < a) : am_go 3 (am_ent 3 [.ref 1, .int (nI i)] M) (am_is (nI (sp_rc (k i))) M) := by
  obtain ⟨hF, hA, hHr, hHs, hLt, hK, hH⟩ := id hS
  obtain ⟨oA, oF, oHr, oLt, oK, oH⟩ := id hO
  have oKi := oK i
  refine am_goR 2 (s2 := (2, [.ref 1, .int (nI i), .null], [.int (nI i), .ref 1], M)) rfl ?_
  refine am_goX (v := nI (k i)) (M2 := M) (s2 := (5, [.ref 1, .int (nI i), .null], [], M)) rfl (s_kindOf_1 hS hO (i := i) (by omega)) ?_
  refine am_goR 2 (s2 := (7, [.ref 1, .int (nI i), .int (nI (k i))], [.int (nI (k i))], M)) rfl ?_
  refine am_bLT ((k i)) (0) (s1 := (26, [.ref 1, .int (nI i), .int (nI (k i))], [], M)) (s2 := (10, [.ref 1, .int (nI i), .int (nI (k i))], [], M)) rfl (by omega) (by omega) (fun c1 => absurd c1 (by omega)) (fun c1 => ?_)
  refine am_goR 3 (s2 := (15, [.ref 1, .int (nI i), .int (nI (k i))], [.int (nI 6), .int (nI (k i))], M)) rfl ?_
  refine am_bLE (6) ((k i)) (s1 := (26, [.ref 1, .int (nI i), .int (nI (k i))], [], M)) (s2 := (18, [.ref 1, .int (nI i), .int (nI (k i))], [], M)) rfl (by omega) (by omega) (fun c2 => absurd c2 (by omega)) (fun c2 => ?_)
  refine am_goR 2 (s2 := (22, [.ref 1, .int (nI i), .int (nI (k i))], [.int (nI (k i)), .ref 31], M)) rfl ?_
  refine am_goL2 (pc := 23) (ls := [.ref 1, .int (nI i), .int (nI (k i))]) (r := []) (M := M) (a := 31) (n := 6) ((k i)) (nI (sp_rc (k i))) rfl rfl (by omega) (by decide) (sp_rc_tab (by omega)) ?_
  refine am_goR 1 (s2 := (27, [.ref 1, .int (nI i), .int (nI (k i))], [.int (nI (sp_rc (k i)))], M)) rfl ?_
  exact am_ends (nI (sp_rc (k i))) _ rfl (by rfl) (rfl)

set_option maxHeartbeats 4000000 in
theorem s_handOn_1 {M : am_Mem} {a f hr hs lt : Nat} {k h : Nat → Nat} (hS : sp_S 1 M a f hr hs lt k h) (hO : sp_ok a f hr lt k h) {i : Nat} (hi : i < a) {b : Nat} (hb : b < 2) : am_go 4 (am_ent 4 [.ref 1, .int (nI i), .int (nI b)] M) (am_is (nI (h (2 * i + b))) M) := by
  obtain ⟨hF, hA, hHr, hHs, hLt, hK, hH⟩ := id hS
  obtain ⟨oA, oF, oHr, oLt, oK, oH⟩ := id hO
  have oKi := oK i
  refine am_goQ 8 (s1 := (8, [.ref 1, .int (nI i), .int (nI b), .int (((nI 2 * nI i) + nI b))], [.int (nI i), .ref 1], M)) (s2 := (8, [.ref 1, .int (nI i), .int (nI b), .int (nI ((2 * i) + b))], [.int (nI i), .ref 1], M)) rfl (by simp only [pk_mul, nI_add]) ?_
  refine am_goX (v := nI 1) (M2 := M) (s2 := (11, [.ref 1, .int (nI i), .int (nI b), .int (nI ((2 * i) + b))], [], M)) rfl (s_hasArm1_1 hS.2.1 hO.1 (i := i) (by omega)) ?_
  refine am_goR 2 (s2 := (15, [.ref 1, .int (nI i), .int (nI b), .int (nI ((2 * i) + b))], [.int (nI b)], M)) rfl ?_
  refine am_goX (v := nI 1) (M2 := M) (s2 := (18, [.ref 1, .int (nI i), .int (nI b), .int (nI ((2 * i) + b))], [], M)) rfl (s_isHand1 (b := b) (by omega)) ?_
  refine am_goR 2 (s2 := (22, [.ref 1, .int (nI i), .int (nI b), .int (nI ((2 * i) + b))], [.int (nI ((2 * i) + b))], M)) rfl ?_
  refine am_bLT (((2 * i) + b)) (0) (s1 := (43, [.ref 1, .int (nI i), .int (nI b), .int (nI ((2 * i) + b))], [], M)) (s2 := (25, [.ref 1, .int (nI i), .int (nI b), .int (nI ((2 * i) + b))], [], M)) rfl (by omega) (by omega) (fun c1 => absurd c1 (by omega)) (fun c1 => ?_)
  refine am_goR 4 (s2 := (31, [.ref 1, .int (nI i), .int (nI b), .int (nI ((2 * i) + b))], [.int (nI 8), .int (nI ((2 * i) + b))], M)) rfl ?_
  refine am_bLE (8) (((2 * i) + b)) (s1 := (43, [.ref 1, .int (nI i), .int (nI b), .int (nI ((2 * i) + b))], [], M)) (s2 := (34, [.ref 1, .int (nI i), .int (nI b), .int (nI ((2 * i) + b))], [], M)) rfl (by omega) (by omega) (fun c2 => absurd c2 (by omega)) (fun c2 => ?_)
  refine am_goR 3 (s2 := (39, [.ref 1, .int (nI i), .int (nI b), .int (nI ((2 * i) + b))], [.int (nI ((2 * i) + b)), .ref 3], M)) rfl ?_
  refine am_goL2 (pc := 40) (ls := [.ref 1, .int (nI i), .int (nI b), .int (nI ((2 * i) + b))]) (r := []) (M := M) (a := 3) (n := 8) (((2 * i) + b)) (nI (h ((2 * i) + b))) rfl rfl (by omega) (by decide) (hH _ (by omega)) ?_
  refine am_goR 1 (s2 := (45, [.ref 1, .int (nI i), .int (nI b), .int (nI ((2 * i) + b))], [.int (nI (h ((2 * i) + b)))], M)) rfl ?_
  exact am_ends (nI (h ((2 * i) + b))) _ rfl (by rfl) (rfl)

set_option maxHeartbeats 4000000 in
theorem s_putHand_1 {M : am_Mem} {a : Nat} (hA : M 1 1 = nI a) (oA : a ≤ 4) {i : Nat} (hi : i < a) {b j : Nat} (hb : b < 2) : am_go 5 (am_ent 5 [.ref 1, .int (nI i), .int (nI b), .int (nI j)] M) (am_rv (fun N => N = am_set M 3 (2 * i + b) (nI j))) := by
  refine am_goQ 8 (s1 := (9, [.ref 1, .int (nI i), .int (nI b), .int (nI j), .int (((nI 2 * nI i) + nI b))], [.int (nI i), .ref 1], M)) (s2 := (9, [.ref 1, .int (nI i), .int (nI b), .int (nI j), .int (nI ((2 * i) + b))], [.int (nI i), .ref 1], M)) rfl (by simp only [pk_mul, nI_add]) ?_
  refine am_goX (v := nI 1) (M2 := M) (s2 := (12, [.ref 1, .int (nI i), .int (nI b), .int (nI j), .int (nI ((2 * i) + b))], [], M)) rfl (s_hasArm1_1 hA oA (i := i) (by omega)) ?_
  refine am_goR 2 (s2 := (16, [.ref 1, .int (nI i), .int (nI b), .int (nI j), .int (nI ((2 * i) + b))], [.int (nI b)], M)) rfl ?_
  refine am_goX (v := nI 1) (M2 := M) (s2 := (19, [.ref 1, .int (nI i), .int (nI b), .int (nI j), .int (nI ((2 * i) + b))], [], M)) rfl (s_isHand1 (b := b) (by omega)) ?_
  refine am_goR 2 (s2 := (24, [.ref 1, .int (nI i), .int (nI b), .int (nI j), .int (nI ((2 * i) + b))], [.int (nI ((2 * i) + b))], M)) rfl ?_
  refine am_bLT (((2 * i) + b)) (0) (s1 := (45, [.ref 1, .int (nI i), .int (nI b), .int (nI j), .int (nI ((2 * i) + b))], [], M)) (s2 := (27, [.ref 1, .int (nI i), .int (nI b), .int (nI j), .int (nI ((2 * i) + b))], [], M)) rfl (by omega) (by omega) (fun c1 => absurd c1 (by omega)) (fun c1 => ?_)
  refine am_goR 4 (s2 := (34, [.ref 1, .int (nI i), .int (nI b), .int (nI j), .int (nI ((2 * i) + b))], [.int (nI 8), .int (nI ((2 * i) + b))], M)) rfl ?_
  refine am_bLE (8) (((2 * i) + b)) (s1 := (45, [.ref 1, .int (nI i), .int (nI b), .int (nI j), .int (nI ((2 * i) + b))], [], M)) (s2 := (37, [.ref 1, .int (nI i), .int (nI b), .int (nI j), .int (nI ((2 * i) + b))], [], M)) rfl (by omega) (by omega) (fun c2 => absurd c2 (by omega)) (fun c2 => ?_)
  refine am_goR 4 (s2 := (44, [.ref 1, .int (nI i), .int (nI b), .int (nI j), .int (nI ((2 * i) + b))], [.int (nI j), .int (nI ((2 * i) + b)), .ref 3], M)) rfl ?_
  refine am_goS (pc := 45) (ls := [.ref 1, .int (nI i), .int (nI b), .int (nI j), .int (nI ((2 * i) + b))]) (r := []) (M := M) (a := 3) (n := 8) (v := nI j) (((2 * i) + b)) rfl rfl (by omega) (by decide) ?_
  exact am_endv rfl (rfl)

set_option maxHeartbeats 4000000 in
theorem s_isFixed_1 {M : am_Mem} {a f hr hs lt : Nat} {k h : Nat → Nat} (hS : sp_S 1 M a f hr hs lt k h) (hO : sp_ok a f hr lt k h) {j : Nat} (hj : j < 32) : am_go 6 (am_ent 6 [.ref 1, .int (nI j)] M) (am_is (am_b (f.testBit j)) M) := by
  obtain ⟨hF, hA, hHr, hHs, hLt, hK, hH⟩ := id hS
  obtain ⟨oA, oF, oHr, oLt, oK, oH⟩ := id hO
  refine am_goQ 3 (s1 := (5, [.ref 1, .int (nI j)], [.int (nI j), .int ((M 1 0))], M)) (s2 := (5, [.ref 1, .int (nI j)], [.int (nI j), .int (nI f)], M)) rfl (by simp only [hF]) ?_
  refine am_goX (v := am_b (f.testBit j)) (M2 := M) (s2 := (8, [.ref 1, .int (nI j)], [], M)) rfl (s_hasBit1 (x := f) (j := j) (by omega) (by omega)) ?_
  exact am_endz (f.testBit j) _ rfl (by rfl) (rfl)

set_option maxHeartbeats 4000000 in
theorem s_worksAt_1 {M : am_Mem} {a f hr hs lt : Nat} {k h : Nat → Nat} (hS : sp_S 1 M a f hr hs lt k h) (hO : sp_ok a f hr lt k h) {i : Nat} (hi : i < a) {r : Nat} (hr2 : r < 32) : am_go 7 (am_ent 7 [.ref 1, .int (nI i), .int (nI r)] M) (am_is (am_b (sp_wk lt (k i) r)) M) := by
  obtain ⟨hF, hA, hHr, hHs, hLt, hK, hH⟩ := id hS
  obtain ⟨oA, oF, oHr, oLt, oK, oH⟩ := id hO
  have oKi := oK i
  have hwt : sp_wt (k i) < 3 := by unfold sp_wt; split <;> first | omega | (split <;> omega)
  refine am_goR 2 (s2 := (2, [.ref 1, .int (nI i), .int (nI r), .null, .null], [.int (nI i), .ref 1], M)) rfl ?_
  refine am_goX (v := nI (k i)) (M2 := M) (s2 := (5, [.ref 1, .int (nI i), .int (nI r), .null, .null], [], M)) rfl (s_kindOf_1 hS hO (i := i) (by omega)) ?_
  refine am_goR 2 (s2 := (7, [.ref 1, .int (nI i), .int (nI r), .int (nI (k i)), .null], [.int (nI (k i))], M)) rfl ?_
  refine am_bLT ((k i)) (0) (s1 := (26, [.ref 1, .int (nI i), .int (nI r), .int (nI (k i)), .null], [], M)) (s2 := (10, [.ref 1, .int (nI i), .int (nI r), .int (nI (k i)), .null], [], M)) rfl (by omega) (by omega) (fun c1 => absurd c1 (by omega)) (fun c1 => ?_)
  refine am_goR 3 (s2 := (15, [.ref 1, .int (nI i), .int (nI r), .int (nI (k i)), .null], [.int (nI 6), .int (nI (k i))], M)) rfl ?_
  refine am_bLE (6) ((k i)) (s1 := (26, [.ref 1, .int (nI i), .int (nI r), .int (nI (k i)), .null], [], M)) (s2 := (18, [.ref 1, .int (nI i), .int (nI r), .int (nI (k i)), .null], [], M)) rfl (by omega) (by omega) (fun c2 => absurd c2 (by omega)) (fun c2 => ?_)
  refine am_goR 2 (s2 := (22, [.ref 1, .int (nI i), .int (nI r), .int (nI (k i)), .null], [.int (nI (k i)), .ref 32], M)) rfl ?_
  refine am_goL2 (pc := 23) (ls := [.ref 1, .int (nI i), .int (nI r), .int (nI (k i)), .null]) (r := []) (M := M) (a := 32) (n := 6) ((k i)) (nI (sp_wt (k i))) rfl rfl (by omega) (by decide) (sp_wt_tab (by omega)) ?_
  refine am_goR 3 (s2 := (31, [.ref 1, .int (nI i), .int (nI r), .int (nI (k i)), .int (nI (sp_wt (k i)))], [.int (nI (sp_wt (k i)))], M)) rfl ?_
  refine am_bEQ ((sp_wt (k i))) (0) (s1 := (56, [.ref 1, .int (nI i), .int (nI r), .int (nI (k i)), .int (nI (sp_wt (k i)))], [], M)) (s2 := (34, [.ref 1, .int (nI i), .int (nI r), .int (nI (k i)), .int (nI (sp_wt (k i)))], [], M)) rfl (by omega) (by omega) (fun c3 => ?_) (fun c3 => ?_)
  · refine am_goR 2 (s2 := (61, [.ref 1, .int (nI i), .int (nI r), .int (nI (k i)), .int (nI (sp_wt (k i)))], [.int (nI 1)], M)) rfl ?_
    exact am_endz true _ rfl (by unfold sp_wt sp_wk at *; by_cases q3 : k i = 3 <;> by_cases q5 : k i = 5 <;> simp_all) (rfl)
  · refine am_goQ 3 (s1 := (39, [.ref 1, .int (nI i), .int (nI r), .int (nI (k i)), .int (nI (sp_wt (k i)))], [.int (nI r), .int ((M 1 4))], M)) (s2 := (39, [.ref 1, .int (nI i), .int (nI r), .int (nI (k i)), .int (nI (sp_wt (k i)))], [.int (nI r), .int (nI lt)], M)) rfl (by simp only [hLt]) ?_
    refine am_goX (v := am_b (lt.testBit r)) (M2 := M) (s2 := (42, [.ref 1, .int (nI i), .int (nI r), .int (nI (k i)), .int (nI (sp_wt (k i)))], [], M)) rfl (s_hasBit1 (x := lt) (j := r) (by omega) (by omega)) ?_
    refine am_goR 2 (s2 := (45, [.ref 1, .int (nI i), .int (nI r), .int (nI (k i)), .int (nI (sp_wt (k i)))], [.int (nI 1), .int (nI (sp_wt (k i))), .int (am_b (lt.testBit r))], M)) rfl ?_
    refine am_bNE ((sp_wt (k i))) (1) (s1 := (52, [.ref 1, .int (nI i), .int (nI r), .int (nI (k i)), .int (nI (sp_wt (k i)))], [.int (am_b (lt.testBit r))], M)) (s2 := (48, [.ref 1, .int (nI i), .int (nI r), .int (nI (k i)), .int (nI (sp_wt (k i)))], [.int (am_b (lt.testBit r))], M)) rfl (by omega) (by omega) (fun c4 => ?_) (fun c4 => ?_)
    · refine am_goR 1 (s2 := (53, [.ref 1, .int (nI i), .int (nI r), .int (nI (k i)), .int (nI (sp_wt (k i)))], [.int (nI 0), .int (am_b (lt.testBit r))], M)) rfl ?_
      refine am_bBN (lt.testBit r) false (s1 := (60, [.ref 1, .int (nI i), .int (nI r), .int (nI (k i)), .int (nI (sp_wt (k i)))], [], M)) (s2 := (56, [.ref 1, .int (nI i), .int (nI r), .int (nI (k i)), .int (nI (sp_wt (k i)))], [], M)) rfl (fun c5 => ?_) (fun c5 => ?_)
      · refine am_goR 1 (s2 := (61, [.ref 1, .int (nI i), .int (nI r), .int (nI (k i)), .int (nI (sp_wt (k i)))], [.int (nI 0)], M)) rfl ?_
        exact am_endz false _ rfl (by unfold sp_wt sp_wk at *; by_cases q3 : k i = 3 <;> by_cases q5 : k i = 5 <;> simp_all) (rfl)
      · refine am_goR 2 (s2 := (61, [.ref 1, .int (nI i), .int (nI r), .int (nI (k i)), .int (nI (sp_wt (k i)))], [.int (nI 1)], M)) rfl ?_
        exact am_endz true _ rfl (by unfold sp_wt sp_wk at *; by_cases q3 : k i = 3 <;> by_cases q5 : k i = 5 <;> simp_all) (rfl)
    · refine am_goR 2 (s2 := (53, [.ref 1, .int (nI i), .int (nI r), .int (nI (k i)), .int (nI (sp_wt (k i)))], [.int (nI 1), .int (am_b (lt.testBit r))], M)) rfl ?_
      refine am_bBN (lt.testBit r) true (s1 := (60, [.ref 1, .int (nI i), .int (nI r), .int (nI (k i)), .int (nI (sp_wt (k i)))], [], M)) (s2 := (56, [.ref 1, .int (nI i), .int (nI r), .int (nI (k i)), .int (nI (sp_wt (k i)))], [], M)) rfl (fun c6 => ?_) (fun c6 => ?_)
      · refine am_goR 1 (s2 := (61, [.ref 1, .int (nI i), .int (nI r), .int (nI (k i)), .int (nI (sp_wt (k i)))], [.int (nI 0)], M)) rfl ?_
        exact am_endz false _ rfl (by unfold sp_wt sp_wk at *; by_cases q3 : k i = 3 <;> by_cases q5 : k i = 5 <;> simp_all) (rfl)
      · refine am_goR 2 (s2 := (61, [.ref 1, .int (nI i), .int (nI r), .int (nI (k i)), .int (nI (sp_wt (k i)))], [.int (nI 1)], M)) rfl ?_
        exact am_endz true _ rfl (by unfold sp_wt sp_wk at *; by_cases q3 : k i = 3 <;> by_cases q5 : k i = 5 <;> simp_all) (rfl)

set_option maxHeartbeats 4000000 in
theorem s_worksNow_1 {M : am_Mem} {a f hr hs lt : Nat} {k h : Nat → Nat} (hS : sp_S 1 M a f hr hs lt k h) (hO : sp_ok a f hr lt k h) {i : Nat} (hi : i < a) : am_go 8 (am_ent 8 [.ref 1, .int (nI i)] M) (am_is (am_b (sp_wk lt (k i) hr)) M) := by
  obtain ⟨hF, hA, hHr, hHs, hLt, hK, hH⟩ := id hS
  obtain ⟨oA, oF, oHr, oLt, oK, oH⟩ := id hO
  have oKi := oK i
  refine am_goQ 4 (s1 := (6, [.ref 1, .int (nI i)], [.int ((M 1 2)), .int (nI i), .ref 1], M)) (s2 := (6, [.ref 1, .int (nI i)], [.int (nI hr), .int (nI i), .ref 1], M)) rfl (by simp only [hHr]) ?_
  refine am_goX (v := am_b (sp_wk lt (k i) hr)) (M2 := M) (s2 := (9, [.ref 1, .int (nI i)], [], M)) rfl (s_worksAt_1 hS hO (i := i) (r := hr) (by omega) (by omega)) ?_
  exact am_endz (sp_wk lt (k i) hr) _ rfl (by rfl) (rfl)

set_option maxHeartbeats 4000000 in
theorem s_staysPut_1 {M : am_Mem} {a f hr hs lt : Nat} {k h : Nat → Nat} (hS : sp_S 1 M a f hr hs lt k h) (hO : sp_ok a f hr lt k h) {i : Nat} (hi : i < a) {b : Nat} (hb : b < 2) : am_go 9 (am_ent 9 [.ref 1, .int (nI i), .int (nI b)] M) (am_is (am_b (decide (k i = 4) && decide (b = 0))) M) := by
  obtain ⟨hF, hA, hHr, hHs, hLt, hK, hH⟩ := id hS
  obtain ⟨oA, oF, oHr, oLt, oK, oH⟩ := id hO
  have oKi := oK i
  refine am_goR 2 (s2 := (2, [.ref 1, .int (nI i), .int (nI b)], [.int (nI i), .ref 1], M)) rfl ?_
  refine am_goX (v := nI (k i)) (M2 := M) (s2 := (5, [.ref 1, .int (nI i), .int (nI b)], [], M)) rfl (s_kindOf_1 hS hO (i := i) (by omega)) ?_
  refine am_goR 1 (s2 := (6, [.ref 1, .int (nI i), .int (nI b)], [.int (nI 4), .int (nI (k i))], M)) rfl ?_
  refine am_bNE ((k i)) (4) (s1 := (17, [.ref 1, .int (nI i), .int (nI b)], [], M)) (s2 := (9, [.ref 1, .int (nI i), .int (nI b)], [], M)) rfl (by omega) (by omega) (fun c1 => ?_) (fun c1 => ?_)
  · refine am_goR 1 (s2 := (18, [.ref 1, .int (nI i), .int (nI b)], [.int (nI 0)], M)) rfl ?_
    exact am_endz false _ rfl (by first | (simp [*]; done) | (simp [*] <;> omega)) (rfl)
  · refine am_goR 1 (s2 := (10, [.ref 1, .int (nI i), .int (nI b)], [.int (nI b)], M)) rfl ?_
    refine am_bNE (b) (0) (s1 := (17, [.ref 1, .int (nI i), .int (nI b)], [], M)) (s2 := (13, [.ref 1, .int (nI i), .int (nI b)], [], M)) rfl (by omega) (by omega) (fun c2 => ?_) (fun c2 => ?_)
    · refine am_goR 1 (s2 := (18, [.ref 1, .int (nI i), .int (nI b)], [.int (nI 0)], M)) rfl ?_
      exact am_endz false _ rfl (by first | (simp [*]; done) | (simp [*] <;> omega)) (rfl)
    · refine am_goR 2 (s2 := (18, [.ref 1, .int (nI i), .int (nI b)], [.int (nI 1)], M)) rfl ?_
      exact am_endz true _ rfl (by first | (simp [*]; done) | (simp [*] <;> omega)) (rfl)

theorem s_staysPut1_1 {M : am_Mem} {a f hr hs lt : Nat} {k h : Nat → Nat} (hS : sp_S 1 M a f hr hs lt k h) (hO : sp_ok a f hr lt k h) {i : Nat} (hi : i < a) : am_go 9 (am_ent 9 [.ref 1, .int (nI i), .int (nI 1)] M) (am_is (nI 0) M) := by
  have h := s_staysPut_1 hS hO hi (b := 1) (by decide)
  rw [show (decide (k i = 4) && decide (1 = 0)) = false by simp] at h
  exact h

set_option maxHeartbeats 4000000 in
theorem s_goBy_1 {M : am_Mem} {hr hs n : Nat} (hHr : M 1 2 = nI hr) (hHs : M 1 3 = nI hs) (oHr : hr < 24) (oHs : hs < 1000000) (hn : n < 1000) : am_go 10 (am_ent 10 [.ref 1, .int (nI n)] M) (am_rv (fun N => N = am_set (am_set M 1 2 (nI ((hr + n) % 24))) 1 3 (nI (hs + n)))) := by
  refine am_goQ 6 (s1 := (9, [.ref 1, .int (nI n)], [.int (nI 24), .int (((M 1 2) + nI n)), .ref 1], M)) (s2 := (9, [.ref 1, .int (nI n)], [.int (nI 24), .int (nI (hr + n)), .ref 1], M)) rfl (by simp only [hHr, nI_add]) ?_
  refine am_goQ 1 (s1 := (10, [.ref 1, .int (nI n)], [.int ((nI (hr + n) - nI (hr + n) / nI 24 * nI 24)), .ref 1], M)) (s2 := (10, [.ref 1, .int (nI n)], [.int (nI ((hr + n) % 24)), .ref 1], M)) rfl (by rw [pk_rem (a := (hr + n)) (d := 24) (by omega) (by omega) (by omega)]) ?_
  refine am_goQ 6 (s1 := (20, [.ref 1, .int (nI n)], [.int (((M 1 3) + nI n)), .ref 1], (am_set M 1 2 (nI ((hr + n) % 24))))) (s2 := (20, [.ref 1, .int (nI n)], [.int (nI (hs + n)), .ref 1], (am_set M 1 2 (nI ((hr + n) % 24))))) rfl (by simp only [hHs, nI_add]) ?_
  refine am_goR 1 (s2 := (23, [.ref 1, .int (nI n)], [], (am_set (am_set M 1 2 (nI ((hr + n) % 24))) 1 3 (nI (hs + n))))) rfl ?_
  exact am_endv rfl (rfl)

set_option maxHeartbeats 4000000 in
theorem s_heldButn_1_loop {M : am_Mem} {a f hr hs lt : Nat} {k h : Nat → Nat} (hS : sp_S 1 M a f hr hs lt k h) (hO : sp_ok a f hr lt k h)  : ∀ n p : Nat, n + p = 2 * a + 1 → p ≤ 2 * a → am_go 11 (4, [.ref 1, .int ((-nI 9)), .int (nI (sp_hb h 9 p)), .int (nI p)], [], M) (am_is (nI (sp_hb h 9 (2 * a))) M) := by
  obtain ⟨hF, hA, hHr, hHs, hLt, hK, hH⟩ := id hS
  obtain ⟨oA, oF, oHr, oLt, oK, oH⟩ := id hO
  intro n
  induction n with
  | zero => intro p h1 h2; omega
  | succ n ih =>
    intro p h1 h2
    have oHp := oH p
    refine am_goQ 5 (s1 := (11, [.ref 1, .int ((-nI 9)), .int (nI (sp_hb h 9 p)), .int (nI p)], [.int ((nI 2 * (M 1 1))), .int (nI p)], M)) (s2 := (11, [.ref 1, .int ((-nI 9)), .int (nI (sp_hb h 9 p)), .int (nI p)], [.int (nI (2 * a)), .int (nI p)], M)) rfl (by simp only [hA, pk_mul]) ?_
    refine am_bLE ((2 * a)) (p) (s1 := (47, [.ref 1, .int ((-nI 9)), .int (nI (sp_hb h 9 p)), .int (nI p)], [], M)) (s2 := (14, [.ref 1, .int ((-nI 9)), .int (nI (sp_hb h 9 p)), .int (nI p)], [], M)) rfl (by omega) (by omega) (fun c1 => ?_) (fun c1 => ?_)
    · refine am_goR 1 (s2 := (48, [.ref 1, .int ((-nI 9)), .int (nI (sp_hb h 9 p)), .int (nI p)], [.int (nI (sp_hb h 9 p))], M)) rfl ?_
      exact am_ends (nI (sp_hb h 9 p)) _ rfl (by rw [show p = 2 * a by omega]) (rfl)
    · refine am_goR 4 (s2 := (20, [.ref 1, .int ((-nI 9)), .int (nI (sp_hb h 9 p)), .int (nI p)], [.int (nI 8), .int (nI p)], M)) rfl ?_
      refine am_bLE (8) (p) (s1 := (47, [.ref 1, .int ((-nI 9)), .int (nI (sp_hb h 9 p)), .int (nI p)], [], M)) (s2 := (23, [.ref 1, .int ((-nI 9)), .int (nI (sp_hb h 9 p)), .int (nI p)], [], M)) rfl (by omega) (by omega) (fun c2 => absurd c2 (by omega)) (fun c2 => ?_)
      refine am_goQ 4 (s1 := (27, [.ref 1, .int ((-nI 9)), .int (nI (sp_hb h 9 p)), .int (nI p)], [.int ((-nI 9)), .int ((nI p / nI 2))], M)) (s2 := (27, [.ref 1, .int ((-nI 9)), .int (nI (sp_hb h 9 p)), .int (nI p)], [.int ((-nI 9)), .int (nI (p / 2))], M)) rfl (by simp only [pk_div (a := p) (d := 2) (by omega) (by omega) (by omega)]) ?_
      refine am_bF (s1 := (41, [.ref 1, .int ((-nI 9)), .int (nI (sp_hb h 9 p)), .int (nI p)], [], M)) (s2 := (30, [.ref 1, .int ((-nI 9)), .int (nI (sp_hb h 9 p)), .int (nI p)], [], M)) rfl (am_nm_ne (x := (p / 2)) (m := 9) (by omega) (by decide) (by decide)) ?_
      refine am_goR 5 (s2 := (37, [.ref 1, .int ((-nI 9)), .int (nI (sp_hb h 9 p)), .int (nI p)], [.int (nI p), .ref 3, .int (nI 1), .int (nI (sp_hb h 9 p))], M)) rfl ?_
      refine am_goL2 (pc := 38) (ls := [.ref 1, .int ((-nI 9)), .int (nI (sp_hb h 9 p)), .int (nI p)]) (r := [.int (nI 1), .int (nI (sp_hb h 9 p))]) (M := M) (a := 3) (n := 8) (p) (nI (h p)) rfl rfl (by omega) (by decide) (hH _ (by omega)) ?_
      refine am_goQ 5 (s1 := (4, [.ref 1, .int ((-nI 9)), .int ((nI (sp_hb h 9 p) ||| (nI 1 <<< (nI (h p) &&& 31)))), .int ((nI p + nI 1))], [], M)) (s2 := (4, [.ref 1, .int ((-nI 9)), .int (nI ((sp_hb h 9 p) ||| (2 ^ (h p)))), .int (nI (p + 1))], [], M)) rfl (by simp only [am_shl1 (j := (h p)) (by omega), am_or, nI_add]) ?_
      rw [show ((sp_hb h 9 p) ||| (2 ^ (h p))) = sp_hb h 9 (p + 1) from by simp only [sp_hb]; first | rw [if_pos (by omega)] | rw [if_neg (by omega)]]
      exact ih (p + 1) (by omega) (by omega)
theorem s_heldButn_1 {M : am_Mem} {a f hr hs lt : Nat} {k h : Nat → Nat} (hS : sp_S 1 M a f hr hs lt k h) (hO : sp_ok a f hr lt k h)  : am_go 11 (am_ent 11 [.ref 1, .int ((-nI 9))] M) (am_is (nI (sp_hb h 9 (2 * a))) M) := by
  refine am_goR 4 (s2 := (4, [.ref 1, .int ((-nI 9)), .int (nI 0), .int (nI 0)], [], M)) rfl ?_
  exact s_heldButn_1_loop hS hO (2 * a + 1) 0 (by omega) (by omega)

set_option maxHeartbeats 4000000 in
theorem s_heldButw_1_loop {M : am_Mem} {a f hr hs lt : Nat} {k h : Nat → Nat} (hS : sp_S 1 M a f hr hs lt k h) (hO : sp_ok a f hr lt k h) {w : Nat} (hw : w < 4) : ∀ n p : Nat, n + p = 2 * a + 1 → p ≤ 2 * a → am_go 11 (4, [.ref 1, .int (nI w), .int (nI (sp_hb h w p)), .int (nI p)], [], M) (am_is (nI (sp_hb h w (2 * a))) M) := by
  obtain ⟨hF, hA, hHr, hHs, hLt, hK, hH⟩ := id hS
  obtain ⟨oA, oF, oHr, oLt, oK, oH⟩ := id hO
  intro n
  induction n with
  | zero => intro p h1 h2; omega
  | succ n ih =>
    intro p h1 h2
    have oHp := oH p
    refine am_goQ 5 (s1 := (11, [.ref 1, .int (nI w), .int (nI (sp_hb h w p)), .int (nI p)], [.int ((nI 2 * (M 1 1))), .int (nI p)], M)) (s2 := (11, [.ref 1, .int (nI w), .int (nI (sp_hb h w p)), .int (nI p)], [.int (nI (2 * a)), .int (nI p)], M)) rfl (by simp only [hA, pk_mul]) ?_
    refine am_bLE ((2 * a)) (p) (s1 := (47, [.ref 1, .int (nI w), .int (nI (sp_hb h w p)), .int (nI p)], [], M)) (s2 := (14, [.ref 1, .int (nI w), .int (nI (sp_hb h w p)), .int (nI p)], [], M)) rfl (by omega) (by omega) (fun c1 => ?_) (fun c1 => ?_)
    · refine am_goR 1 (s2 := (48, [.ref 1, .int (nI w), .int (nI (sp_hb h w p)), .int (nI p)], [.int (nI (sp_hb h w p))], M)) rfl ?_
      exact am_ends (nI (sp_hb h w p)) _ rfl (by rw [show p = 2 * a by omega]) (rfl)
    · refine am_goR 4 (s2 := (20, [.ref 1, .int (nI w), .int (nI (sp_hb h w p)), .int (nI p)], [.int (nI 8), .int (nI p)], M)) rfl ?_
      refine am_bLE (8) (p) (s1 := (47, [.ref 1, .int (nI w), .int (nI (sp_hb h w p)), .int (nI p)], [], M)) (s2 := (23, [.ref 1, .int (nI w), .int (nI (sp_hb h w p)), .int (nI p)], [], M)) rfl (by omega) (by omega) (fun c2 => absurd c2 (by omega)) (fun c2 => ?_)
      refine am_goQ 4 (s1 := (27, [.ref 1, .int (nI w), .int (nI (sp_hb h w p)), .int (nI p)], [.int (nI w), .int ((nI p / nI 2))], M)) (s2 := (27, [.ref 1, .int (nI w), .int (nI (sp_hb h w p)), .int (nI p)], [.int (nI w), .int (nI (p / 2))], M)) rfl (by simp only [pk_div (a := p) (d := 2) (by omega) (by omega) (by omega)]) ?_
      refine am_bEQ ((p / 2)) (w) (s1 := (41, [.ref 1, .int (nI w), .int (nI (sp_hb h w p)), .int (nI p)], [], M)) (s2 := (30, [.ref 1, .int (nI w), .int (nI (sp_hb h w p)), .int (nI p)], [], M)) rfl (by omega) (by omega) (fun c3 => ?_) (fun c3 => ?_)
      · refine am_goQ 2 (s1 := (4, [.ref 1, .int (nI w), .int (nI (sp_hb h w p)), .int ((nI p + nI 1))], [], M)) (s2 := (4, [.ref 1, .int (nI w), .int (nI (sp_hb h w p)), .int (nI (p + 1))], [], M)) rfl (by simp only [nI_add]) ?_
        rw [show (sp_hb h w p) = sp_hb h w (p + 1) from by simp only [sp_hb]; first | rw [if_pos (by omega)] | rw [if_neg (by omega)]]
        exact ih (p + 1) (by omega) (by omega)
      · refine am_goR 5 (s2 := (37, [.ref 1, .int (nI w), .int (nI (sp_hb h w p)), .int (nI p)], [.int (nI p), .ref 3, .int (nI 1), .int (nI (sp_hb h w p))], M)) rfl ?_
        refine am_goL2 (pc := 38) (ls := [.ref 1, .int (nI w), .int (nI (sp_hb h w p)), .int (nI p)]) (r := [.int (nI 1), .int (nI (sp_hb h w p))]) (M := M) (a := 3) (n := 8) (p) (nI (h p)) rfl rfl (by omega) (by decide) (hH _ (by omega)) ?_
        refine am_goQ 5 (s1 := (4, [.ref 1, .int (nI w), .int ((nI (sp_hb h w p) ||| (nI 1 <<< (nI (h p) &&& 31)))), .int ((nI p + nI 1))], [], M)) (s2 := (4, [.ref 1, .int (nI w), .int (nI ((sp_hb h w p) ||| (2 ^ (h p)))), .int (nI (p + 1))], [], M)) rfl (by simp only [am_shl1 (j := (h p)) (by omega), am_or, nI_add]) ?_
        rw [show ((sp_hb h w p) ||| (2 ^ (h p))) = sp_hb h w (p + 1) from by simp only [sp_hb]; first | rw [if_pos (by omega)] | rw [if_neg (by omega)]]
        exact ih (p + 1) (by omega) (by omega)
theorem s_heldButw_1 {M : am_Mem} {a f hr hs lt : Nat} {k h : Nat → Nat} (hS : sp_S 1 M a f hr hs lt k h) (hO : sp_ok a f hr lt k h) {w : Nat} (hw : w < 4) : am_go 11 (am_ent 11 [.ref 1, .int (nI w)] M) (am_is (nI (sp_hb h w (2 * a))) M) := by
  refine am_goR 4 (s2 := (4, [.ref 1, .int (nI w), .int (nI 0), .int (nI 0)], [], M)) rfl ?_
  exact s_heldButw_1_loop hS hO hw (2 * a + 1) 0 (by omega) (by omega)

set_option maxHeartbeats 4000000 in
theorem s_whoIsOnN_1_loop {M : am_Mem} {a f hr hs lt : Nat} {k h : Nat → Nat} (hS : sp_S 1 M a f hr hs lt k h) (hO : sp_ok a f hr lt k h) {j : Nat} (hj : j < 2147483648) (hq : sp_wo h j (2 * a) = none) : ∀ n p : Nat, n + p = 2 * a + 1 → p ≤ 2 * a → am_go 12 (2, [.ref 1, .int (nI j), .int (nI p)], [], M) (am_is ((-nI 9)) M) := by
  obtain ⟨hF, hA, hHr, hHs, hLt, hK, hH⟩ := id hS
  obtain ⟨oA, oF, oHr, oLt, oK, oH⟩ := id hO
  have hq := sp_wo_none.mp hq
  skip
  intro n
  induction n with
  | zero => intro p h1 h2; omega
  | succ n ih =>
    intro p h1 h2
    have oHp := oH p
    skip
    refine am_goQ 5 (s1 := (9, [.ref 1, .int (nI j), .int (nI p)], [.int ((nI 2 * (M 1 1))), .int (nI p)], M)) (s2 := (9, [.ref 1, .int (nI j), .int (nI p)], [.int (nI (2 * a)), .int (nI p)], M)) rfl (by simp only [hA, pk_mul]) ?_
    refine am_bLE ((2 * a)) (p) (s1 := (48, [.ref 1, .int (nI j), .int (nI p)], [], M)) (s2 := (12, [.ref 1, .int (nI j), .int (nI p)], [], M)) rfl (by omega) (by omega) (fun c1 => ?_) (fun c1 => ?_)
    · refine am_goR 1 (s2 := (50, [.ref 1, .int (nI j), .int (nI p)], [.int ((-nI 9))], M)) rfl ?_
      exact am_ends ((-nI 9)) _ rfl (by rfl) (rfl)
    · refine am_goR 4 (s2 := (18, [.ref 1, .int (nI j), .int (nI p)], [.int (nI 8), .int (nI p)], M)) rfl ?_
      refine am_bLE (8) (p) (s1 := (48, [.ref 1, .int (nI j), .int (nI p)], [], M)) (s2 := (21, [.ref 1, .int (nI j), .int (nI p)], [], M)) rfl (by omega) (by omega) (fun c2 => absurd c2 (by omega)) (fun c2 => ?_)
      refine am_goR 3 (s2 := (26, [.ref 1, .int (nI j), .int (nI p)], [.int (nI p), .ref 3], M)) rfl ?_
      refine am_goL2 (pc := 27) (ls := [.ref 1, .int (nI j), .int (nI p)]) (r := []) (M := M) (a := 3) (n := 8) (p) (nI (h p)) rfl rfl (by omega) (by decide) (hH _ (by omega)) ?_
      refine am_goR 1 (s2 := (28, [.ref 1, .int (nI j), .int (nI p)], [.int (nI j), .int (nI (h p))], M)) rfl ?_
      refine am_bNE ((h p)) (j) (s1 := (42, [.ref 1, .int (nI j), .int (nI p)], [], M)) (s2 := (31, [.ref 1, .int (nI j), .int (nI p)], [], M)) rfl (by omega) (by omega) (fun c3 => ?_) (fun c3 => absurd c3 (hq p (by omega)))
      refine am_goQ 2 (s1 := (2, [.ref 1, .int (nI j), .int ((nI p + nI 1))], [], M)) (s2 := (2, [.ref 1, .int (nI j), .int (nI (p + 1))], [], M)) rfl (by simp only [nI_add]) ?_
      exact ih (p + 1) (by omega) (by omega)
theorem s_whoIsOnN_1 {M : am_Mem} {a f hr hs lt : Nat} {k h : Nat → Nat} (hS : sp_S 1 M a f hr hs lt k h) (hO : sp_ok a f hr lt k h) {j : Nat} (hj : j < 2147483648) (hq : sp_wo h j (2 * a) = none) : am_go 12 (am_ent 12 [.ref 1, .int (nI j)] M) (am_is ((-nI 9)) M) := by
  refine am_goR 2 (s2 := (2, [.ref 1, .int (nI j), .int (nI 0)], [], M)) rfl ?_
  exact s_whoIsOnN_1_loop hS hO hj hq (2 * a + 1) 0 (by omega) (by omega)

set_option maxHeartbeats 4000000 in
theorem s_whoIsOnS_1_loop {M : am_Mem} {a f hr hs lt : Nat} {k h : Nat → Nat} (hS : sp_S 1 M a f hr hs lt k h) (hO : sp_ok a f hr lt k h) {j : Nat} (hj : j < 2147483648) {q : Nat} (hq : sp_wo h j (2 * a) = some q) : ∀ n p : Nat, n + p = 2 * a + 1 → p ≤ q → am_go 12 (2, [.ref 1, .int (nI j), .int (nI p)], [], M) (am_is (nI (10 * (q / 2) + q % 2)) M) := by
  obtain ⟨hF, hA, hHr, hHs, hLt, hK, hH⟩ := id hS
  obtain ⟨oA, oF, oHr, oLt, oK, oH⟩ := id hO
  have hq := sp_wo_some.mp hq
  have hq1 := hq.1
  intro n
  induction n with
  | zero => intro p h1 h2; omega
  | succ n ih =>
    intro p h1 h2
    have oHp := oH p
    have hqp : p = q → h p = j := fun z => by rw [z]; exact hq.2.1
    refine am_goQ 5 (s1 := (9, [.ref 1, .int (nI j), .int (nI p)], [.int ((nI 2 * (M 1 1))), .int (nI p)], M)) (s2 := (9, [.ref 1, .int (nI j), .int (nI p)], [.int (nI (2 * a)), .int (nI p)], M)) rfl (by simp only [hA, pk_mul]) ?_
    refine am_bLE ((2 * a)) (p) (s1 := (48, [.ref 1, .int (nI j), .int (nI p)], [], M)) (s2 := (12, [.ref 1, .int (nI j), .int (nI p)], [], M)) rfl (by omega) (by omega) (fun c1 => absurd c1 (by omega)) (fun c1 => ?_)
    refine am_goR 4 (s2 := (18, [.ref 1, .int (nI j), .int (nI p)], [.int (nI 8), .int (nI p)], M)) rfl ?_
    refine am_bLE (8) (p) (s1 := (48, [.ref 1, .int (nI j), .int (nI p)], [], M)) (s2 := (21, [.ref 1, .int (nI j), .int (nI p)], [], M)) rfl (by omega) (by omega) (fun c2 => absurd c2 (by omega)) (fun c2 => ?_)
    refine am_goR 3 (s2 := (26, [.ref 1, .int (nI j), .int (nI p)], [.int (nI p), .ref 3], M)) rfl ?_
    refine am_goL2 (pc := 27) (ls := [.ref 1, .int (nI j), .int (nI p)]) (r := []) (M := M) (a := 3) (n := 8) (p) (nI (h p)) rfl rfl (by omega) (by decide) (hH _ (by omega)) ?_
    refine am_goR 1 (s2 := (28, [.ref 1, .int (nI j), .int (nI p)], [.int (nI j), .int (nI (h p))], M)) rfl ?_
    refine am_bNE ((h p)) (j) (s1 := (42, [.ref 1, .int (nI j), .int (nI p)], [], M)) (s2 := (31, [.ref 1, .int (nI j), .int (nI p)], [], M)) rfl (by omega) (by omega) (fun c3 => ?_) (fun c3 => ?_)
    · refine am_goQ 2 (s1 := (2, [.ref 1, .int (nI j), .int ((nI p + nI 1))], [], M)) (s2 := (2, [.ref 1, .int (nI j), .int (nI (p + 1))], [], M)) rfl (by simp only [nI_add]) ?_
      exact ih (p + 1) (by omega) (by omega)
    · refine am_goQ 9 (s1 := (41, [.ref 1, .int (nI j), .int (nI p)], [.int (((nI 10 * (nI p / nI 2)) + (nI p - nI p / nI 2 * nI 2)))], M)) (s2 := (41, [.ref 1, .int (nI j), .int (nI p)], [.int (nI ((10 * (p / 2)) + (p % 2)))], M)) rfl (by rw [pk_rem (a := p) (d := 2) (by omega) (by omega) (by omega)]; simp only [pk_div (a := p) (d := 2) (by omega) (by omega) (by omega), pk_mul, nI_add]) ?_
      exact am_ends (nI ((10 * (p / 2)) + (p % 2))) _ rfl (by rw [show p = q from by
        rcases Nat.lt_trichotomy p q with z | z | z
        · exact absurd (by assumption) (hq.2.2 p z)
        · exact z
        · omega]) (rfl)
theorem s_whoIsOnS_1 {M : am_Mem} {a f hr hs lt : Nat} {k h : Nat → Nat} (hS : sp_S 1 M a f hr hs lt k h) (hO : sp_ok a f hr lt k h) {j : Nat} (hj : j < 2147483648) {q : Nat} (hq : sp_wo h j (2 * a) = some q) : am_go 12 (am_ent 12 [.ref 1, .int (nI j)] M) (am_is (nI (10 * (q / 2) + q % 2)) M) := by
  refine am_goR 2 (s2 := (2, [.ref 1, .int (nI j), .int (nI 0)], [], M)) rfl ?_
  exact s_whoIsOnS_1_loop hS hO hj hq (2 * a + 1) 0 (by omega) (by omega)

set_option maxHeartbeats 4000000 in
theorem s_hasArm_4 {M : am_Mem} {a : Nat} (hA : M 4 1 = nI a) (oA : a ≤ 4) {x : Int32} : am_go 1 (am_ent 1 [.ref 4, .int (x)] M) (am_is (am_b (am_in x a)) M) := by
  refine am_goR 1 (s2 := (1, [.ref 4, .int (x)], [.int (x)], M)) rfl ?_
  refine am_goB (x < 0) (s1 := (25, [.ref 4, .int (x)], [], M)) (s2 := (4, [.ref 4, .int (x)], [], M)) rfl (fun c1 => ?_) (fun c1 => ?_)
  · refine am_goR 1 (s2 := (26, [.ref 4, .int (x)], [.int (nI 0)], M)) rfl ?_
    exact am_endz false _ rfl (by first | exact (am_in_F1 (by assumption)).symm | exact (am_in_T (by assumption) (by assumption)).symm | exact (am_in_F2 (by assumption)).symm | exact (am_in_F2 (am_leT (n := 4) (by assumption) oA (by decide))).symm) (rfl)
  · refine am_goQ 3 (s1 := (9, [.ref 4, .int (x)], [.int ((M 4 1)), .int (x)], M)) (s2 := (9, [.ref 4, .int (x)], [.int (nI a), .int (x)], M)) rfl (by simp only [hA]) ?_
    refine am_goB (nI a ≤ x) (s1 := (25, [.ref 4, .int (x)], [], M)) (s2 := (12, [.ref 4, .int (x)], [], M)) rfl (fun c2 => ?_) (fun c2 => ?_)
    · refine am_goR 1 (s2 := (26, [.ref 4, .int (x)], [.int (nI 0)], M)) rfl ?_
      exact am_endz false _ rfl (by first | exact (am_in_F1 (by assumption)).symm | exact (am_in_T (by assumption) (by assumption)).symm | exact (am_in_F2 (by assumption)).symm | exact (am_in_F2 (am_leT (n := 4) (by assumption) oA (by decide))).symm) (rfl)
    · refine am_goR 4 (s2 := (18, [.ref 4, .int (x)], [.int (nI 4), .int (x)], M)) rfl ?_
      refine am_goB (nI 4 ≤ x) (s1 := (25, [.ref 4, .int (x)], [], M)) (s2 := (21, [.ref 4, .int (x)], [], M)) rfl (fun c3 => ?_) (fun c3 => ?_)
      · refine am_goR 1 (s2 := (26, [.ref 4, .int (x)], [.int (nI 0)], M)) rfl ?_
        exact am_endz false _ rfl (by first | exact (am_in_F1 (by assumption)).symm | exact (am_in_T (by assumption) (by assumption)).symm | exact (am_in_F2 (by assumption)).symm | exact (am_in_F2 (am_leT (n := 4) (by assumption) oA (by decide))).symm) (rfl)
      · refine am_goR 2 (s2 := (26, [.ref 4, .int (x)], [.int (nI 1)], M)) rfl ?_
        exact am_endz true _ rfl (by first | exact (am_in_F1 (by assumption)).symm | exact (am_in_T (by assumption) (by assumption)).symm | exact (am_in_F2 (by assumption)).symm | exact (am_in_F2 (am_leT (n := 4) (by assumption) oA (by decide))).symm) (rfl)

theorem s_hasArmN_4 {M : am_Mem} {a : Nat} (hA : M 4 1 = nI a) (oA : a ≤ 4) {i : Nat} (hi : i < 2147483648) : am_go 1 (am_ent 1 [.ref 4, .int (nI i)] M) (am_is (am_b (decide (i < a))) M) := by
  have h := s_hasArm_4 hA oA (x := nI i)
  rw [am_in_nI hi (by omega)] at h
  exact h
theorem s_hasArm1_4 {M : am_Mem} {a : Nat} (hA : M 4 1 = nI a) (oA : a ≤ 4) {i : Nat} (hi : i < a) : am_go 1 (am_ent 1 [.ref 4, .int (nI i)] M) (am_is (nI 1) M) := by
  have h := s_hasArmN_4 hA oA (i := i) (by omega)
  rw [decide_eq_true hi] at h
  exact h

set_option maxHeartbeats 4000000 in
theorem s_kindOf_4 {M : am_Mem} {a f hr hs lt : Nat} {k h : Nat → Nat} (hS : sp_S 4 M a f hr hs lt k h) (hO : sp_ok a f hr lt k h) {i : Nat} (hi : i < a) : am_go 2 (am_ent 2 [.ref 4, .int (nI i)] M) (am_is (nI (k i)) M) := by
  obtain ⟨hF, hA, hHr, hHs, hLt, hK, hH⟩ := id hS
  obtain ⟨oA, oF, oHr, oLt, oK, oH⟩ := id hO
  have oKi := oK i
  refine am_goR 1 (s2 := (1, [.ref 4, .int (nI i)], [.int (nI i)], M)) rfl ?_
  refine am_bLT (i) (0) (s1 := (22, [.ref 4, .int (nI i)], [], M)) (s2 := (4, [.ref 4, .int (nI i)], [], M)) rfl (by omega) (by omega) (fun c1 => absurd c1 (by omega)) (fun c1 => ?_)
  refine am_goR 4 (s2 := (10, [.ref 4, .int (nI i)], [.int (nI 4), .int (nI i)], M)) rfl ?_
  refine am_bLE (4) (i) (s1 := (22, [.ref 4, .int (nI i)], [], M)) (s2 := (13, [.ref 4, .int (nI i)], [], M)) rfl (by omega) (by omega) (fun c2 => absurd c2 (by omega)) (fun c2 => ?_)
  refine am_goR 3 (s2 := (18, [.ref 4, .int (nI i)], [.int (nI i), .ref 5], M)) rfl ?_
  refine am_goL2 (pc := 19) (ls := [.ref 4, .int (nI i)]) (r := []) (M := M) (a := 5) (n := 4) (i) (nI (k i)) rfl rfl (by omega) (by decide) (hK _ (by omega)) ?_
  refine am_goR 1 (s2 := (23, [.ref 4, .int (nI i)], [.int (nI (k i))], M)) rfl ?_
  exact am_ends (nI (k i)) _ rfl (by rfl) (rfl)

set_option maxHeartbeats 4000000 in
theorem s_reachOf_4 {M : am_Mem} {a f hr hs lt : Nat} {k h : Nat → Nat} (hS : sp_S 4 M a f hr hs lt k h) (hO : sp_ok a f hr lt k h) {i : Nat} (hi : i < a) : am_go 3 (am_ent 3 [.ref 4, .int (nI i)] M) (am_is (nI (sp_rc (k i))) M) := by
  obtain ⟨hF, hA, hHr, hHs, hLt, hK, hH⟩ := id hS
  obtain ⟨oA, oF, oHr, oLt, oK, oH⟩ := id hO
  have oKi := oK i
  refine am_goR 2 (s2 := (2, [.ref 4, .int (nI i), .null], [.int (nI i), .ref 4], M)) rfl ?_
  refine am_goX (v := nI (k i)) (M2 := M) (s2 := (5, [.ref 4, .int (nI i), .null], [], M)) rfl (s_kindOf_4 hS hO (i := i) (by omega)) ?_
  refine am_goR 2 (s2 := (7, [.ref 4, .int (nI i), .int (nI (k i))], [.int (nI (k i))], M)) rfl ?_
  refine am_bLT ((k i)) (0) (s1 := (26, [.ref 4, .int (nI i), .int (nI (k i))], [], M)) (s2 := (10, [.ref 4, .int (nI i), .int (nI (k i))], [], M)) rfl (by omega) (by omega) (fun c1 => absurd c1 (by omega)) (fun c1 => ?_)
  refine am_goR 3 (s2 := (15, [.ref 4, .int (nI i), .int (nI (k i))], [.int (nI 6), .int (nI (k i))], M)) rfl ?_
  refine am_bLE (6) ((k i)) (s1 := (26, [.ref 4, .int (nI i), .int (nI (k i))], [], M)) (s2 := (18, [.ref 4, .int (nI i), .int (nI (k i))], [], M)) rfl (by omega) (by omega) (fun c2 => absurd c2 (by omega)) (fun c2 => ?_)
  refine am_goR 2 (s2 := (22, [.ref 4, .int (nI i), .int (nI (k i))], [.int (nI (k i)), .ref 31], M)) rfl ?_
  refine am_goL2 (pc := 23) (ls := [.ref 4, .int (nI i), .int (nI (k i))]) (r := []) (M := M) (a := 31) (n := 6) ((k i)) (nI (sp_rc (k i))) rfl rfl (by omega) (by decide) (sp_rc_tab (by omega)) ?_
  refine am_goR 1 (s2 := (27, [.ref 4, .int (nI i), .int (nI (k i))], [.int (nI (sp_rc (k i)))], M)) rfl ?_
  exact am_ends (nI (sp_rc (k i))) _ rfl (by rfl) (rfl)

set_option maxHeartbeats 4000000 in
theorem s_handOn_4 {M : am_Mem} {a f hr hs lt : Nat} {k h : Nat → Nat} (hS : sp_S 4 M a f hr hs lt k h) (hO : sp_ok a f hr lt k h) {i : Nat} (hi : i < a) {b : Nat} (hb : b < 2) : am_go 4 (am_ent 4 [.ref 4, .int (nI i), .int (nI b)] M) (am_is (nI (h (2 * i + b))) M) := by
  obtain ⟨hF, hA, hHr, hHs, hLt, hK, hH⟩ := id hS
  obtain ⟨oA, oF, oHr, oLt, oK, oH⟩ := id hO
  have oKi := oK i
  refine am_goQ 8 (s1 := (8, [.ref 4, .int (nI i), .int (nI b), .int (((nI 2 * nI i) + nI b))], [.int (nI i), .ref 4], M)) (s2 := (8, [.ref 4, .int (nI i), .int (nI b), .int (nI ((2 * i) + b))], [.int (nI i), .ref 4], M)) rfl (by simp only [pk_mul, nI_add]) ?_
  refine am_goX (v := nI 1) (M2 := M) (s2 := (11, [.ref 4, .int (nI i), .int (nI b), .int (nI ((2 * i) + b))], [], M)) rfl (s_hasArm1_4 hS.2.1 hO.1 (i := i) (by omega)) ?_
  refine am_goR 2 (s2 := (15, [.ref 4, .int (nI i), .int (nI b), .int (nI ((2 * i) + b))], [.int (nI b)], M)) rfl ?_
  refine am_goX (v := nI 1) (M2 := M) (s2 := (18, [.ref 4, .int (nI i), .int (nI b), .int (nI ((2 * i) + b))], [], M)) rfl (s_isHand1 (b := b) (by omega)) ?_
  refine am_goR 2 (s2 := (22, [.ref 4, .int (nI i), .int (nI b), .int (nI ((2 * i) + b))], [.int (nI ((2 * i) + b))], M)) rfl ?_
  refine am_bLT (((2 * i) + b)) (0) (s1 := (43, [.ref 4, .int (nI i), .int (nI b), .int (nI ((2 * i) + b))], [], M)) (s2 := (25, [.ref 4, .int (nI i), .int (nI b), .int (nI ((2 * i) + b))], [], M)) rfl (by omega) (by omega) (fun c1 => absurd c1 (by omega)) (fun c1 => ?_)
  refine am_goR 4 (s2 := (31, [.ref 4, .int (nI i), .int (nI b), .int (nI ((2 * i) + b))], [.int (nI 8), .int (nI ((2 * i) + b))], M)) rfl ?_
  refine am_bLE (8) (((2 * i) + b)) (s1 := (43, [.ref 4, .int (nI i), .int (nI b), .int (nI ((2 * i) + b))], [], M)) (s2 := (34, [.ref 4, .int (nI i), .int (nI b), .int (nI ((2 * i) + b))], [], M)) rfl (by omega) (by omega) (fun c2 => absurd c2 (by omega)) (fun c2 => ?_)
  refine am_goR 3 (s2 := (39, [.ref 4, .int (nI i), .int (nI b), .int (nI ((2 * i) + b))], [.int (nI ((2 * i) + b)), .ref 6], M)) rfl ?_
  refine am_goL2 (pc := 40) (ls := [.ref 4, .int (nI i), .int (nI b), .int (nI ((2 * i) + b))]) (r := []) (M := M) (a := 6) (n := 8) (((2 * i) + b)) (nI (h ((2 * i) + b))) rfl rfl (by omega) (by decide) (hH _ (by omega)) ?_
  refine am_goR 1 (s2 := (45, [.ref 4, .int (nI i), .int (nI b), .int (nI ((2 * i) + b))], [.int (nI (h ((2 * i) + b)))], M)) rfl ?_
  exact am_ends (nI (h ((2 * i) + b))) _ rfl (by rfl) (rfl)

set_option maxHeartbeats 4000000 in
theorem s_putHand_4 {M : am_Mem} {a : Nat} (hA : M 4 1 = nI a) (oA : a ≤ 4) {i : Nat} (hi : i < a) {b j : Nat} (hb : b < 2) : am_go 5 (am_ent 5 [.ref 4, .int (nI i), .int (nI b), .int (nI j)] M) (am_rv (fun N => N = am_set M 6 (2 * i + b) (nI j))) := by
  refine am_goQ 8 (s1 := (9, [.ref 4, .int (nI i), .int (nI b), .int (nI j), .int (((nI 2 * nI i) + nI b))], [.int (nI i), .ref 4], M)) (s2 := (9, [.ref 4, .int (nI i), .int (nI b), .int (nI j), .int (nI ((2 * i) + b))], [.int (nI i), .ref 4], M)) rfl (by simp only [pk_mul, nI_add]) ?_
  refine am_goX (v := nI 1) (M2 := M) (s2 := (12, [.ref 4, .int (nI i), .int (nI b), .int (nI j), .int (nI ((2 * i) + b))], [], M)) rfl (s_hasArm1_4 hA oA (i := i) (by omega)) ?_
  refine am_goR 2 (s2 := (16, [.ref 4, .int (nI i), .int (nI b), .int (nI j), .int (nI ((2 * i) + b))], [.int (nI b)], M)) rfl ?_
  refine am_goX (v := nI 1) (M2 := M) (s2 := (19, [.ref 4, .int (nI i), .int (nI b), .int (nI j), .int (nI ((2 * i) + b))], [], M)) rfl (s_isHand1 (b := b) (by omega)) ?_
  refine am_goR 2 (s2 := (24, [.ref 4, .int (nI i), .int (nI b), .int (nI j), .int (nI ((2 * i) + b))], [.int (nI ((2 * i) + b))], M)) rfl ?_
  refine am_bLT (((2 * i) + b)) (0) (s1 := (45, [.ref 4, .int (nI i), .int (nI b), .int (nI j), .int (nI ((2 * i) + b))], [], M)) (s2 := (27, [.ref 4, .int (nI i), .int (nI b), .int (nI j), .int (nI ((2 * i) + b))], [], M)) rfl (by omega) (by omega) (fun c1 => absurd c1 (by omega)) (fun c1 => ?_)
  refine am_goR 4 (s2 := (34, [.ref 4, .int (nI i), .int (nI b), .int (nI j), .int (nI ((2 * i) + b))], [.int (nI 8), .int (nI ((2 * i) + b))], M)) rfl ?_
  refine am_bLE (8) (((2 * i) + b)) (s1 := (45, [.ref 4, .int (nI i), .int (nI b), .int (nI j), .int (nI ((2 * i) + b))], [], M)) (s2 := (37, [.ref 4, .int (nI i), .int (nI b), .int (nI j), .int (nI ((2 * i) + b))], [], M)) rfl (by omega) (by omega) (fun c2 => absurd c2 (by omega)) (fun c2 => ?_)
  refine am_goR 4 (s2 := (44, [.ref 4, .int (nI i), .int (nI b), .int (nI j), .int (nI ((2 * i) + b))], [.int (nI j), .int (nI ((2 * i) + b)), .ref 6], M)) rfl ?_
  refine am_goS (pc := 45) (ls := [.ref 4, .int (nI i), .int (nI b), .int (nI j), .int (nI ((2 * i) + b))]) (r := []) (M := M) (a := 6) (n := 8) (v := nI j) (((2 * i) + b)) rfl rfl (by omega) (by decide) ?_
  exact am_endv rfl (rfl)

set_option maxHeartbeats 4000000 in
theorem s_isFixed_4 {M : am_Mem} {a f hr hs lt : Nat} {k h : Nat → Nat} (hS : sp_S 4 M a f hr hs lt k h) (hO : sp_ok a f hr lt k h) {j : Nat} (hj : j < 32) : am_go 6 (am_ent 6 [.ref 4, .int (nI j)] M) (am_is (am_b (f.testBit j)) M) := by
  obtain ⟨hF, hA, hHr, hHs, hLt, hK, hH⟩ := id hS
  obtain ⟨oA, oF, oHr, oLt, oK, oH⟩ := id hO
  refine am_goQ 3 (s1 := (5, [.ref 4, .int (nI j)], [.int (nI j), .int ((M 4 0))], M)) (s2 := (5, [.ref 4, .int (nI j)], [.int (nI j), .int (nI f)], M)) rfl (by simp only [hF]) ?_
  refine am_goX (v := am_b (f.testBit j)) (M2 := M) (s2 := (8, [.ref 4, .int (nI j)], [], M)) rfl (s_hasBit1 (x := f) (j := j) (by omega) (by omega)) ?_
  exact am_endz (f.testBit j) _ rfl (by rfl) (rfl)

set_option maxHeartbeats 4000000 in
theorem s_worksAt_4 {M : am_Mem} {a f hr hs lt : Nat} {k h : Nat → Nat} (hS : sp_S 4 M a f hr hs lt k h) (hO : sp_ok a f hr lt k h) {i : Nat} (hi : i < a) {r : Nat} (hr2 : r < 32) : am_go 7 (am_ent 7 [.ref 4, .int (nI i), .int (nI r)] M) (am_is (am_b (sp_wk lt (k i) r)) M) := by
  obtain ⟨hF, hA, hHr, hHs, hLt, hK, hH⟩ := id hS
  obtain ⟨oA, oF, oHr, oLt, oK, oH⟩ := id hO
  have oKi := oK i
  have hwt : sp_wt (k i) < 3 := by unfold sp_wt; split <;> first | omega | (split <;> omega)
  refine am_goR 2 (s2 := (2, [.ref 4, .int (nI i), .int (nI r), .null, .null], [.int (nI i), .ref 4], M)) rfl ?_
  refine am_goX (v := nI (k i)) (M2 := M) (s2 := (5, [.ref 4, .int (nI i), .int (nI r), .null, .null], [], M)) rfl (s_kindOf_4 hS hO (i := i) (by omega)) ?_
  refine am_goR 2 (s2 := (7, [.ref 4, .int (nI i), .int (nI r), .int (nI (k i)), .null], [.int (nI (k i))], M)) rfl ?_
  refine am_bLT ((k i)) (0) (s1 := (26, [.ref 4, .int (nI i), .int (nI r), .int (nI (k i)), .null], [], M)) (s2 := (10, [.ref 4, .int (nI i), .int (nI r), .int (nI (k i)), .null], [], M)) rfl (by omega) (by omega) (fun c1 => absurd c1 (by omega)) (fun c1 => ?_)
  refine am_goR 3 (s2 := (15, [.ref 4, .int (nI i), .int (nI r), .int (nI (k i)), .null], [.int (nI 6), .int (nI (k i))], M)) rfl ?_
  refine am_bLE (6) ((k i)) (s1 := (26, [.ref 4, .int (nI i), .int (nI r), .int (nI (k i)), .null], [], M)) (s2 := (18, [.ref 4, .int (nI i), .int (nI r), .int (nI (k i)), .null], [], M)) rfl (by omega) (by omega) (fun c2 => absurd c2 (by omega)) (fun c2 => ?_)
  refine am_goR 2 (s2 := (22, [.ref 4, .int (nI i), .int (nI r), .int (nI (k i)), .null], [.int (nI (k i)), .ref 32], M)) rfl ?_
  refine am_goL2 (pc := 23) (ls := [.ref 4, .int (nI i), .int (nI r), .int (nI (k i)), .null]) (r := []) (M := M) (a := 32) (n := 6) ((k i)) (nI (sp_wt (k i))) rfl rfl (by omega) (by decide) (sp_wt_tab (by omega)) ?_
  refine am_goR 3 (s2 := (31, [.ref 4, .int (nI i), .int (nI r), .int (nI (k i)), .int (nI (sp_wt (k i)))], [.int (nI (sp_wt (k i)))], M)) rfl ?_
  refine am_bEQ ((sp_wt (k i))) (0) (s1 := (56, [.ref 4, .int (nI i), .int (nI r), .int (nI (k i)), .int (nI (sp_wt (k i)))], [], M)) (s2 := (34, [.ref 4, .int (nI i), .int (nI r), .int (nI (k i)), .int (nI (sp_wt (k i)))], [], M)) rfl (by omega) (by omega) (fun c3 => ?_) (fun c3 => ?_)
  · refine am_goR 2 (s2 := (61, [.ref 4, .int (nI i), .int (nI r), .int (nI (k i)), .int (nI (sp_wt (k i)))], [.int (nI 1)], M)) rfl ?_
    exact am_endz true _ rfl (by unfold sp_wt sp_wk at *; by_cases q3 : k i = 3 <;> by_cases q5 : k i = 5 <;> simp_all) (rfl)
  · refine am_goQ 3 (s1 := (39, [.ref 4, .int (nI i), .int (nI r), .int (nI (k i)), .int (nI (sp_wt (k i)))], [.int (nI r), .int ((M 4 4))], M)) (s2 := (39, [.ref 4, .int (nI i), .int (nI r), .int (nI (k i)), .int (nI (sp_wt (k i)))], [.int (nI r), .int (nI lt)], M)) rfl (by simp only [hLt]) ?_
    refine am_goX (v := am_b (lt.testBit r)) (M2 := M) (s2 := (42, [.ref 4, .int (nI i), .int (nI r), .int (nI (k i)), .int (nI (sp_wt (k i)))], [], M)) rfl (s_hasBit1 (x := lt) (j := r) (by omega) (by omega)) ?_
    refine am_goR 2 (s2 := (45, [.ref 4, .int (nI i), .int (nI r), .int (nI (k i)), .int (nI (sp_wt (k i)))], [.int (nI 1), .int (nI (sp_wt (k i))), .int (am_b (lt.testBit r))], M)) rfl ?_
    refine am_bNE ((sp_wt (k i))) (1) (s1 := (52, [.ref 4, .int (nI i), .int (nI r), .int (nI (k i)), .int (nI (sp_wt (k i)))], [.int (am_b (lt.testBit r))], M)) (s2 := (48, [.ref 4, .int (nI i), .int (nI r), .int (nI (k i)), .int (nI (sp_wt (k i)))], [.int (am_b (lt.testBit r))], M)) rfl (by omega) (by omega) (fun c4 => ?_) (fun c4 => ?_)
    · refine am_goR 1 (s2 := (53, [.ref 4, .int (nI i), .int (nI r), .int (nI (k i)), .int (nI (sp_wt (k i)))], [.int (nI 0), .int (am_b (lt.testBit r))], M)) rfl ?_
      refine am_bBN (lt.testBit r) false (s1 := (60, [.ref 4, .int (nI i), .int (nI r), .int (nI (k i)), .int (nI (sp_wt (k i)))], [], M)) (s2 := (56, [.ref 4, .int (nI i), .int (nI r), .int (nI (k i)), .int (nI (sp_wt (k i)))], [], M)) rfl (fun c5 => ?_) (fun c5 => ?_)
      · refine am_goR 1 (s2 := (61, [.ref 4, .int (nI i), .int (nI r), .int (nI (k i)), .int (nI (sp_wt (k i)))], [.int (nI 0)], M)) rfl ?_
        exact am_endz false _ rfl (by unfold sp_wt sp_wk at *; by_cases q3 : k i = 3 <;> by_cases q5 : k i = 5 <;> simp_all) (rfl)
      · refine am_goR 2 (s2 := (61, [.ref 4, .int (nI i), .int (nI r), .int (nI (k i)), .int (nI (sp_wt (k i)))], [.int (nI 1)], M)) rfl ?_
        exact am_endz true _ rfl (by unfold sp_wt sp_wk at *; by_cases q3 : k i = 3 <;> by_cases q5 : k i = 5 <;> simp_all) (rfl)
    · refine am_goR 2 (s2 := (53, [.ref 4, .int (nI i), .int (nI r), .int (nI (k i)), .int (nI (sp_wt (k i)))], [.int (nI 1), .int (am_b (lt.testBit r))], M)) rfl ?_
      refine am_bBN (lt.testBit r) true (s1 := (60, [.ref 4, .int (nI i), .int (nI r), .int (nI (k i)), .int (nI (sp_wt (k i)))], [], M)) (s2 := (56, [.ref 4, .int (nI i), .int (nI r), .int (nI (k i)), .int (nI (sp_wt (k i)))], [], M)) rfl (fun c6 => ?_) (fun c6 => ?_)
      · refine am_goR 1 (s2 := (61, [.ref 4, .int (nI i), .int (nI r), .int (nI (k i)), .int (nI (sp_wt (k i)))], [.int (nI 0)], M)) rfl ?_
        exact am_endz false _ rfl (by unfold sp_wt sp_wk at *; by_cases q3 : k i = 3 <;> by_cases q5 : k i = 5 <;> simp_all) (rfl)
      · refine am_goR 2 (s2 := (61, [.ref 4, .int (nI i), .int (nI r), .int (nI (k i)), .int (nI (sp_wt (k i)))], [.int (nI 1)], M)) rfl ?_
        exact am_endz true _ rfl (by unfold sp_wt sp_wk at *; by_cases q3 : k i = 3 <;> by_cases q5 : k i = 5 <;> simp_all) (rfl)

set_option maxHeartbeats 4000000 in
theorem s_worksNow_4 {M : am_Mem} {a f hr hs lt : Nat} {k h : Nat → Nat} (hS : sp_S 4 M a f hr hs lt k h) (hO : sp_ok a f hr lt k h) {i : Nat} (hi : i < a) : am_go 8 (am_ent 8 [.ref 4, .int (nI i)] M) (am_is (am_b (sp_wk lt (k i) hr)) M) := by
  obtain ⟨hF, hA, hHr, hHs, hLt, hK, hH⟩ := id hS
  obtain ⟨oA, oF, oHr, oLt, oK, oH⟩ := id hO
  have oKi := oK i
  refine am_goQ 4 (s1 := (6, [.ref 4, .int (nI i)], [.int ((M 4 2)), .int (nI i), .ref 4], M)) (s2 := (6, [.ref 4, .int (nI i)], [.int (nI hr), .int (nI i), .ref 4], M)) rfl (by simp only [hHr]) ?_
  refine am_goX (v := am_b (sp_wk lt (k i) hr)) (M2 := M) (s2 := (9, [.ref 4, .int (nI i)], [], M)) rfl (s_worksAt_4 hS hO (i := i) (r := hr) (by omega) (by omega)) ?_
  exact am_endz (sp_wk lt (k i) hr) _ rfl (by rfl) (rfl)

set_option maxHeartbeats 4000000 in
theorem s_staysPut_4 {M : am_Mem} {a f hr hs lt : Nat} {k h : Nat → Nat} (hS : sp_S 4 M a f hr hs lt k h) (hO : sp_ok a f hr lt k h) {i : Nat} (hi : i < a) {b : Nat} (hb : b < 2) : am_go 9 (am_ent 9 [.ref 4, .int (nI i), .int (nI b)] M) (am_is (am_b (decide (k i = 4) && decide (b = 0))) M) := by
  obtain ⟨hF, hA, hHr, hHs, hLt, hK, hH⟩ := id hS
  obtain ⟨oA, oF, oHr, oLt, oK, oH⟩ := id hO
  have oKi := oK i
  refine am_goR 2 (s2 := (2, [.ref 4, .int (nI i), .int (nI b)], [.int (nI i), .ref 4], M)) rfl ?_
  refine am_goX (v := nI (k i)) (M2 := M) (s2 := (5, [.ref 4, .int (nI i), .int (nI b)], [], M)) rfl (s_kindOf_4 hS hO (i := i) (by omega)) ?_
  refine am_goR 1 (s2 := (6, [.ref 4, .int (nI i), .int (nI b)], [.int (nI 4), .int (nI (k i))], M)) rfl ?_
  refine am_bNE ((k i)) (4) (s1 := (17, [.ref 4, .int (nI i), .int (nI b)], [], M)) (s2 := (9, [.ref 4, .int (nI i), .int (nI b)], [], M)) rfl (by omega) (by omega) (fun c1 => ?_) (fun c1 => ?_)
  · refine am_goR 1 (s2 := (18, [.ref 4, .int (nI i), .int (nI b)], [.int (nI 0)], M)) rfl ?_
    exact am_endz false _ rfl (by first | (simp [*]; done) | (simp [*] <;> omega)) (rfl)
  · refine am_goR 1 (s2 := (10, [.ref 4, .int (nI i), .int (nI b)], [.int (nI b)], M)) rfl ?_
    refine am_bNE (b) (0) (s1 := (17, [.ref 4, .int (nI i), .int (nI b)], [], M)) (s2 := (13, [.ref 4, .int (nI i), .int (nI b)], [], M)) rfl (by omega) (by omega) (fun c2 => ?_) (fun c2 => ?_)
    · refine am_goR 1 (s2 := (18, [.ref 4, .int (nI i), .int (nI b)], [.int (nI 0)], M)) rfl ?_
      exact am_endz false _ rfl (by first | (simp [*]; done) | (simp [*] <;> omega)) (rfl)
    · refine am_goR 2 (s2 := (18, [.ref 4, .int (nI i), .int (nI b)], [.int (nI 1)], M)) rfl ?_
      exact am_endz true _ rfl (by first | (simp [*]; done) | (simp [*] <;> omega)) (rfl)

theorem s_staysPut1_4 {M : am_Mem} {a f hr hs lt : Nat} {k h : Nat → Nat} (hS : sp_S 4 M a f hr hs lt k h) (hO : sp_ok a f hr lt k h) {i : Nat} (hi : i < a) : am_go 9 (am_ent 9 [.ref 4, .int (nI i), .int (nI 1)] M) (am_is (nI 0) M) := by
  have h := s_staysPut_4 hS hO hi (b := 1) (by decide)
  rw [show (decide (k i = 4) && decide (1 = 0)) = false by simp] at h
  exact h

set_option maxHeartbeats 4000000 in
theorem s_goBy_4 {M : am_Mem} {hr hs n : Nat} (hHr : M 4 2 = nI hr) (hHs : M 4 3 = nI hs) (oHr : hr < 24) (oHs : hs < 1000000) (hn : n < 1000) : am_go 10 (am_ent 10 [.ref 4, .int (nI n)] M) (am_rv (fun N => N = am_set (am_set M 4 2 (nI ((hr + n) % 24))) 4 3 (nI (hs + n)))) := by
  refine am_goQ 6 (s1 := (9, [.ref 4, .int (nI n)], [.int (nI 24), .int (((M 4 2) + nI n)), .ref 4], M)) (s2 := (9, [.ref 4, .int (nI n)], [.int (nI 24), .int (nI (hr + n)), .ref 4], M)) rfl (by simp only [hHr, nI_add]) ?_
  refine am_goQ 1 (s1 := (10, [.ref 4, .int (nI n)], [.int ((nI (hr + n) - nI (hr + n) / nI 24 * nI 24)), .ref 4], M)) (s2 := (10, [.ref 4, .int (nI n)], [.int (nI ((hr + n) % 24)), .ref 4], M)) rfl (by rw [pk_rem (a := (hr + n)) (d := 24) (by omega) (by omega) (by omega)]) ?_
  refine am_goQ 6 (s1 := (20, [.ref 4, .int (nI n)], [.int (((M 4 3) + nI n)), .ref 4], (am_set M 4 2 (nI ((hr + n) % 24))))) (s2 := (20, [.ref 4, .int (nI n)], [.int (nI (hs + n)), .ref 4], (am_set M 4 2 (nI ((hr + n) % 24))))) rfl (by simp only [hHs, nI_add]) ?_
  refine am_goR 1 (s2 := (23, [.ref 4, .int (nI n)], [], (am_set (am_set M 4 2 (nI ((hr + n) % 24))) 4 3 (nI (hs + n))))) rfl ?_
  exact am_endv rfl (rfl)

set_option maxHeartbeats 4000000 in
theorem s_heldButn_4_loop {M : am_Mem} {a f hr hs lt : Nat} {k h : Nat → Nat} (hS : sp_S 4 M a f hr hs lt k h) (hO : sp_ok a f hr lt k h)  : ∀ n p : Nat, n + p = 2 * a + 1 → p ≤ 2 * a → am_go 11 (4, [.ref 4, .int ((-nI 9)), .int (nI (sp_hb h 9 p)), .int (nI p)], [], M) (am_is (nI (sp_hb h 9 (2 * a))) M) := by
  obtain ⟨hF, hA, hHr, hHs, hLt, hK, hH⟩ := id hS
  obtain ⟨oA, oF, oHr, oLt, oK, oH⟩ := id hO
  intro n
  induction n with
  | zero => intro p h1 h2; omega
  | succ n ih =>
    intro p h1 h2
    have oHp := oH p
    refine am_goQ 5 (s1 := (11, [.ref 4, .int ((-nI 9)), .int (nI (sp_hb h 9 p)), .int (nI p)], [.int ((nI 2 * (M 4 1))), .int (nI p)], M)) (s2 := (11, [.ref 4, .int ((-nI 9)), .int (nI (sp_hb h 9 p)), .int (nI p)], [.int (nI (2 * a)), .int (nI p)], M)) rfl (by simp only [hA, pk_mul]) ?_
    refine am_bLE ((2 * a)) (p) (s1 := (47, [.ref 4, .int ((-nI 9)), .int (nI (sp_hb h 9 p)), .int (nI p)], [], M)) (s2 := (14, [.ref 4, .int ((-nI 9)), .int (nI (sp_hb h 9 p)), .int (nI p)], [], M)) rfl (by omega) (by omega) (fun c1 => ?_) (fun c1 => ?_)
    · refine am_goR 1 (s2 := (48, [.ref 4, .int ((-nI 9)), .int (nI (sp_hb h 9 p)), .int (nI p)], [.int (nI (sp_hb h 9 p))], M)) rfl ?_
      exact am_ends (nI (sp_hb h 9 p)) _ rfl (by rw [show p = 2 * a by omega]) (rfl)
    · refine am_goR 4 (s2 := (20, [.ref 4, .int ((-nI 9)), .int (nI (sp_hb h 9 p)), .int (nI p)], [.int (nI 8), .int (nI p)], M)) rfl ?_
      refine am_bLE (8) (p) (s1 := (47, [.ref 4, .int ((-nI 9)), .int (nI (sp_hb h 9 p)), .int (nI p)], [], M)) (s2 := (23, [.ref 4, .int ((-nI 9)), .int (nI (sp_hb h 9 p)), .int (nI p)], [], M)) rfl (by omega) (by omega) (fun c2 => absurd c2 (by omega)) (fun c2 => ?_)
      refine am_goQ 4 (s1 := (27, [.ref 4, .int ((-nI 9)), .int (nI (sp_hb h 9 p)), .int (nI p)], [.int ((-nI 9)), .int ((nI p / nI 2))], M)) (s2 := (27, [.ref 4, .int ((-nI 9)), .int (nI (sp_hb h 9 p)), .int (nI p)], [.int ((-nI 9)), .int (nI (p / 2))], M)) rfl (by simp only [pk_div (a := p) (d := 2) (by omega) (by omega) (by omega)]) ?_
      refine am_bF (s1 := (41, [.ref 4, .int ((-nI 9)), .int (nI (sp_hb h 9 p)), .int (nI p)], [], M)) (s2 := (30, [.ref 4, .int ((-nI 9)), .int (nI (sp_hb h 9 p)), .int (nI p)], [], M)) rfl (am_nm_ne (x := (p / 2)) (m := 9) (by omega) (by decide) (by decide)) ?_
      refine am_goR 5 (s2 := (37, [.ref 4, .int ((-nI 9)), .int (nI (sp_hb h 9 p)), .int (nI p)], [.int (nI p), .ref 6, .int (nI 1), .int (nI (sp_hb h 9 p))], M)) rfl ?_
      refine am_goL2 (pc := 38) (ls := [.ref 4, .int ((-nI 9)), .int (nI (sp_hb h 9 p)), .int (nI p)]) (r := [.int (nI 1), .int (nI (sp_hb h 9 p))]) (M := M) (a := 6) (n := 8) (p) (nI (h p)) rfl rfl (by omega) (by decide) (hH _ (by omega)) ?_
      refine am_goQ 5 (s1 := (4, [.ref 4, .int ((-nI 9)), .int ((nI (sp_hb h 9 p) ||| (nI 1 <<< (nI (h p) &&& 31)))), .int ((nI p + nI 1))], [], M)) (s2 := (4, [.ref 4, .int ((-nI 9)), .int (nI ((sp_hb h 9 p) ||| (2 ^ (h p)))), .int (nI (p + 1))], [], M)) rfl (by simp only [am_shl1 (j := (h p)) (by omega), am_or, nI_add]) ?_
      rw [show ((sp_hb h 9 p) ||| (2 ^ (h p))) = sp_hb h 9 (p + 1) from by simp only [sp_hb]; first | rw [if_pos (by omega)] | rw [if_neg (by omega)]]
      exact ih (p + 1) (by omega) (by omega)
theorem s_heldButn_4 {M : am_Mem} {a f hr hs lt : Nat} {k h : Nat → Nat} (hS : sp_S 4 M a f hr hs lt k h) (hO : sp_ok a f hr lt k h)  : am_go 11 (am_ent 11 [.ref 4, .int ((-nI 9))] M) (am_is (nI (sp_hb h 9 (2 * a))) M) := by
  refine am_goR 4 (s2 := (4, [.ref 4, .int ((-nI 9)), .int (nI 0), .int (nI 0)], [], M)) rfl ?_
  exact s_heldButn_4_loop hS hO (2 * a + 1) 0 (by omega) (by omega)

set_option maxHeartbeats 4000000 in
theorem s_heldButw_4_loop {M : am_Mem} {a f hr hs lt : Nat} {k h : Nat → Nat} (hS : sp_S 4 M a f hr hs lt k h) (hO : sp_ok a f hr lt k h) {w : Nat} (hw : w < 4) : ∀ n p : Nat, n + p = 2 * a + 1 → p ≤ 2 * a → am_go 11 (4, [.ref 4, .int (nI w), .int (nI (sp_hb h w p)), .int (nI p)], [], M) (am_is (nI (sp_hb h w (2 * a))) M) := by
  obtain ⟨hF, hA, hHr, hHs, hLt, hK, hH⟩ := id hS
  obtain ⟨oA, oF, oHr, oLt, oK, oH⟩ := id hO
  intro n
  induction n with
  | zero => intro p h1 h2; omega
  | succ n ih =>
    intro p h1 h2
    have oHp := oH p
    refine am_goQ 5 (s1 := (11, [.ref 4, .int (nI w), .int (nI (sp_hb h w p)), .int (nI p)], [.int ((nI 2 * (M 4 1))), .int (nI p)], M)) (s2 := (11, [.ref 4, .int (nI w), .int (nI (sp_hb h w p)), .int (nI p)], [.int (nI (2 * a)), .int (nI p)], M)) rfl (by simp only [hA, pk_mul]) ?_
    refine am_bLE ((2 * a)) (p) (s1 := (47, [.ref 4, .int (nI w), .int (nI (sp_hb h w p)), .int (nI p)], [], M)) (s2 := (14, [.ref 4, .int (nI w), .int (nI (sp_hb h w p)), .int (nI p)], [], M)) rfl (by omega) (by omega) (fun c1 => ?_) (fun c1 => ?_)
    · refine am_goR 1 (s2 := (48, [.ref 4, .int (nI w), .int (nI (sp_hb h w p)), .int (nI p)], [.int (nI (sp_hb h w p))], M)) rfl ?_
      exact am_ends (nI (sp_hb h w p)) _ rfl (by rw [show p = 2 * a by omega]) (rfl)
    · refine am_goR 4 (s2 := (20, [.ref 4, .int (nI w), .int (nI (sp_hb h w p)), .int (nI p)], [.int (nI 8), .int (nI p)], M)) rfl ?_
      refine am_bLE (8) (p) (s1 := (47, [.ref 4, .int (nI w), .int (nI (sp_hb h w p)), .int (nI p)], [], M)) (s2 := (23, [.ref 4, .int (nI w), .int (nI (sp_hb h w p)), .int (nI p)], [], M)) rfl (by omega) (by omega) (fun c2 => absurd c2 (by omega)) (fun c2 => ?_)
      refine am_goQ 4 (s1 := (27, [.ref 4, .int (nI w), .int (nI (sp_hb h w p)), .int (nI p)], [.int (nI w), .int ((nI p / nI 2))], M)) (s2 := (27, [.ref 4, .int (nI w), .int (nI (sp_hb h w p)), .int (nI p)], [.int (nI w), .int (nI (p / 2))], M)) rfl (by simp only [pk_div (a := p) (d := 2) (by omega) (by omega) (by omega)]) ?_
      refine am_bEQ ((p / 2)) (w) (s1 := (41, [.ref 4, .int (nI w), .int (nI (sp_hb h w p)), .int (nI p)], [], M)) (s2 := (30, [.ref 4, .int (nI w), .int (nI (sp_hb h w p)), .int (nI p)], [], M)) rfl (by omega) (by omega) (fun c3 => ?_) (fun c3 => ?_)
      · refine am_goQ 2 (s1 := (4, [.ref 4, .int (nI w), .int (nI (sp_hb h w p)), .int ((nI p + nI 1))], [], M)) (s2 := (4, [.ref 4, .int (nI w), .int (nI (sp_hb h w p)), .int (nI (p + 1))], [], M)) rfl (by simp only [nI_add]) ?_
        rw [show (sp_hb h w p) = sp_hb h w (p + 1) from by simp only [sp_hb]; first | rw [if_pos (by omega)] | rw [if_neg (by omega)]]
        exact ih (p + 1) (by omega) (by omega)
      · refine am_goR 5 (s2 := (37, [.ref 4, .int (nI w), .int (nI (sp_hb h w p)), .int (nI p)], [.int (nI p), .ref 6, .int (nI 1), .int (nI (sp_hb h w p))], M)) rfl ?_
        refine am_goL2 (pc := 38) (ls := [.ref 4, .int (nI w), .int (nI (sp_hb h w p)), .int (nI p)]) (r := [.int (nI 1), .int (nI (sp_hb h w p))]) (M := M) (a := 6) (n := 8) (p) (nI (h p)) rfl rfl (by omega) (by decide) (hH _ (by omega)) ?_
        refine am_goQ 5 (s1 := (4, [.ref 4, .int (nI w), .int ((nI (sp_hb h w p) ||| (nI 1 <<< (nI (h p) &&& 31)))), .int ((nI p + nI 1))], [], M)) (s2 := (4, [.ref 4, .int (nI w), .int (nI ((sp_hb h w p) ||| (2 ^ (h p)))), .int (nI (p + 1))], [], M)) rfl (by simp only [am_shl1 (j := (h p)) (by omega), am_or, nI_add]) ?_
        rw [show ((sp_hb h w p) ||| (2 ^ (h p))) = sp_hb h w (p + 1) from by simp only [sp_hb]; first | rw [if_pos (by omega)] | rw [if_neg (by omega)]]
        exact ih (p + 1) (by omega) (by omega)
theorem s_heldButw_4 {M : am_Mem} {a f hr hs lt : Nat} {k h : Nat → Nat} (hS : sp_S 4 M a f hr hs lt k h) (hO : sp_ok a f hr lt k h) {w : Nat} (hw : w < 4) : am_go 11 (am_ent 11 [.ref 4, .int (nI w)] M) (am_is (nI (sp_hb h w (2 * a))) M) := by
  refine am_goR 4 (s2 := (4, [.ref 4, .int (nI w), .int (nI 0), .int (nI 0)], [], M)) rfl ?_
  exact s_heldButw_4_loop hS hO hw (2 * a + 1) 0 (by omega) (by omega)

set_option maxHeartbeats 4000000 in
theorem s_whoIsOnN_4_loop {M : am_Mem} {a f hr hs lt : Nat} {k h : Nat → Nat} (hS : sp_S 4 M a f hr hs lt k h) (hO : sp_ok a f hr lt k h) {j : Nat} (hj : j < 2147483648) (hq : sp_wo h j (2 * a) = none) : ∀ n p : Nat, n + p = 2 * a + 1 → p ≤ 2 * a → am_go 12 (2, [.ref 4, .int (nI j), .int (nI p)], [], M) (am_is ((-nI 9)) M) := by
  obtain ⟨hF, hA, hHr, hHs, hLt, hK, hH⟩ := id hS
  obtain ⟨oA, oF, oHr, oLt, oK, oH⟩ := id hO
  have hq := sp_wo_none.mp hq
  skip
  intro n
  induction n with
  | zero => intro p h1 h2; omega
  | succ n ih =>
    intro p h1 h2
    have oHp := oH p
    skip
    refine am_goQ 5 (s1 := (9, [.ref 4, .int (nI j), .int (nI p)], [.int ((nI 2 * (M 4 1))), .int (nI p)], M)) (s2 := (9, [.ref 4, .int (nI j), .int (nI p)], [.int (nI (2 * a)), .int (nI p)], M)) rfl (by simp only [hA, pk_mul]) ?_
    refine am_bLE ((2 * a)) (p) (s1 := (48, [.ref 4, .int (nI j), .int (nI p)], [], M)) (s2 := (12, [.ref 4, .int (nI j), .int (nI p)], [], M)) rfl (by omega) (by omega) (fun c1 => ?_) (fun c1 => ?_)
    · refine am_goR 1 (s2 := (50, [.ref 4, .int (nI j), .int (nI p)], [.int ((-nI 9))], M)) rfl ?_
      exact am_ends ((-nI 9)) _ rfl (by rfl) (rfl)
    · refine am_goR 4 (s2 := (18, [.ref 4, .int (nI j), .int (nI p)], [.int (nI 8), .int (nI p)], M)) rfl ?_
      refine am_bLE (8) (p) (s1 := (48, [.ref 4, .int (nI j), .int (nI p)], [], M)) (s2 := (21, [.ref 4, .int (nI j), .int (nI p)], [], M)) rfl (by omega) (by omega) (fun c2 => absurd c2 (by omega)) (fun c2 => ?_)
      refine am_goR 3 (s2 := (26, [.ref 4, .int (nI j), .int (nI p)], [.int (nI p), .ref 6], M)) rfl ?_
      refine am_goL2 (pc := 27) (ls := [.ref 4, .int (nI j), .int (nI p)]) (r := []) (M := M) (a := 6) (n := 8) (p) (nI (h p)) rfl rfl (by omega) (by decide) (hH _ (by omega)) ?_
      refine am_goR 1 (s2 := (28, [.ref 4, .int (nI j), .int (nI p)], [.int (nI j), .int (nI (h p))], M)) rfl ?_
      refine am_bNE ((h p)) (j) (s1 := (42, [.ref 4, .int (nI j), .int (nI p)], [], M)) (s2 := (31, [.ref 4, .int (nI j), .int (nI p)], [], M)) rfl (by omega) (by omega) (fun c3 => ?_) (fun c3 => absurd c3 (hq p (by omega)))
      refine am_goQ 2 (s1 := (2, [.ref 4, .int (nI j), .int ((nI p + nI 1))], [], M)) (s2 := (2, [.ref 4, .int (nI j), .int (nI (p + 1))], [], M)) rfl (by simp only [nI_add]) ?_
      exact ih (p + 1) (by omega) (by omega)
theorem s_whoIsOnN_4 {M : am_Mem} {a f hr hs lt : Nat} {k h : Nat → Nat} (hS : sp_S 4 M a f hr hs lt k h) (hO : sp_ok a f hr lt k h) {j : Nat} (hj : j < 2147483648) (hq : sp_wo h j (2 * a) = none) : am_go 12 (am_ent 12 [.ref 4, .int (nI j)] M) (am_is ((-nI 9)) M) := by
  refine am_goR 2 (s2 := (2, [.ref 4, .int (nI j), .int (nI 0)], [], M)) rfl ?_
  exact s_whoIsOnN_4_loop hS hO hj hq (2 * a + 1) 0 (by omega) (by omega)

set_option maxHeartbeats 4000000 in
theorem s_whoIsOnS_4_loop {M : am_Mem} {a f hr hs lt : Nat} {k h : Nat → Nat} (hS : sp_S 4 M a f hr hs lt k h) (hO : sp_ok a f hr lt k h) {j : Nat} (hj : j < 2147483648) {q : Nat} (hq : sp_wo h j (2 * a) = some q) : ∀ n p : Nat, n + p = 2 * a + 1 → p ≤ q → am_go 12 (2, [.ref 4, .int (nI j), .int (nI p)], [], M) (am_is (nI (10 * (q / 2) + q % 2)) M) := by
  obtain ⟨hF, hA, hHr, hHs, hLt, hK, hH⟩ := id hS
  obtain ⟨oA, oF, oHr, oLt, oK, oH⟩ := id hO
  have hq := sp_wo_some.mp hq
  have hq1 := hq.1
  intro n
  induction n with
  | zero => intro p h1 h2; omega
  | succ n ih =>
    intro p h1 h2
    have oHp := oH p
    have hqp : p = q → h p = j := fun z => by rw [z]; exact hq.2.1
    refine am_goQ 5 (s1 := (9, [.ref 4, .int (nI j), .int (nI p)], [.int ((nI 2 * (M 4 1))), .int (nI p)], M)) (s2 := (9, [.ref 4, .int (nI j), .int (nI p)], [.int (nI (2 * a)), .int (nI p)], M)) rfl (by simp only [hA, pk_mul]) ?_
    refine am_bLE ((2 * a)) (p) (s1 := (48, [.ref 4, .int (nI j), .int (nI p)], [], M)) (s2 := (12, [.ref 4, .int (nI j), .int (nI p)], [], M)) rfl (by omega) (by omega) (fun c1 => absurd c1 (by omega)) (fun c1 => ?_)
    refine am_goR 4 (s2 := (18, [.ref 4, .int (nI j), .int (nI p)], [.int (nI 8), .int (nI p)], M)) rfl ?_
    refine am_bLE (8) (p) (s1 := (48, [.ref 4, .int (nI j), .int (nI p)], [], M)) (s2 := (21, [.ref 4, .int (nI j), .int (nI p)], [], M)) rfl (by omega) (by omega) (fun c2 => absurd c2 (by omega)) (fun c2 => ?_)
    refine am_goR 3 (s2 := (26, [.ref 4, .int (nI j), .int (nI p)], [.int (nI p), .ref 6], M)) rfl ?_
    refine am_goL2 (pc := 27) (ls := [.ref 4, .int (nI j), .int (nI p)]) (r := []) (M := M) (a := 6) (n := 8) (p) (nI (h p)) rfl rfl (by omega) (by decide) (hH _ (by omega)) ?_
    refine am_goR 1 (s2 := (28, [.ref 4, .int (nI j), .int (nI p)], [.int (nI j), .int (nI (h p))], M)) rfl ?_
    refine am_bNE ((h p)) (j) (s1 := (42, [.ref 4, .int (nI j), .int (nI p)], [], M)) (s2 := (31, [.ref 4, .int (nI j), .int (nI p)], [], M)) rfl (by omega) (by omega) (fun c3 => ?_) (fun c3 => ?_)
    · refine am_goQ 2 (s1 := (2, [.ref 4, .int (nI j), .int ((nI p + nI 1))], [], M)) (s2 := (2, [.ref 4, .int (nI j), .int (nI (p + 1))], [], M)) rfl (by simp only [nI_add]) ?_
      exact ih (p + 1) (by omega) (by omega)
    · refine am_goQ 9 (s1 := (41, [.ref 4, .int (nI j), .int (nI p)], [.int (((nI 10 * (nI p / nI 2)) + (nI p - nI p / nI 2 * nI 2)))], M)) (s2 := (41, [.ref 4, .int (nI j), .int (nI p)], [.int (nI ((10 * (p / 2)) + (p % 2)))], M)) rfl (by rw [pk_rem (a := p) (d := 2) (by omega) (by omega) (by omega)]; simp only [pk_div (a := p) (d := 2) (by omega) (by omega) (by omega), pk_mul, nI_add]) ?_
      exact am_ends (nI ((10 * (p / 2)) + (p % 2))) _ rfl (by rw [show p = q from by
        rcases Nat.lt_trichotomy p q with z | z | z
        · exact absurd (by assumption) (hq.2.2 p z)
        · exact z
        · omega]) (rfl)
theorem s_whoIsOnS_4 {M : am_Mem} {a f hr hs lt : Nat} {k h : Nat → Nat} (hS : sp_S 4 M a f hr hs lt k h) (hO : sp_ok a f hr lt k h) {j : Nat} (hj : j < 2147483648) {q : Nat} (hq : sp_wo h j (2 * a) = some q) : am_go 12 (am_ent 12 [.ref 4, .int (nI j)] M) (am_is (nI (10 * (q / 2) + q % 2)) M) := by
  refine am_goR 2 (s2 := (2, [.ref 4, .int (nI j), .int (nI 0)], [], M)) rfl ?_
  exact s_whoIsOnS_4_loop hS hO hj hq (2 * a + 1) 0 (by omega) (by omega)

