/-! walks: the reference: its small helpers, its stand -/
/-- a stand, as the reference has it -/
def sp_M (M : am_Mem) (a f hr hs lt : Nat) (k h : Nat → Nat) : Prop := M 17 4 = nI f ∧ M 17 3 = nI a ∧ M 17 5 = nI hr ∧ M 17 6 = nI hs ∧ M 17 7 = nI lt ∧ (∀ q, q < 4 → M 19 q = nI (k q)) ∧ ∀ q, q < 8 → M 20 q = nI (h q)
def sp_in (x lo hi : Nat) : Bool := decide (lo ≤ x) && decide (x ≤ hi)
theorem am_in_F3 {x : Int32} {n : Nat} (h1 : nI n < x) (hn : n < 2147483647) : am_in x (n + 1) = false := by
  apply am_in_F2
  rw [Int32.lt_iff_toInt_lt] at h1
  rw [Int32.le_iff_toInt_le]
  rw [nI_toInt (by omega)] at h1 ⊢
  omega
theorem am_in_T3 {x : Int32} {n : Nat} (h0 : ¬ x < 0) (h1 : ¬ nI n < x) (hn : n < 2147483647) : am_in x (n + 1) = true := by
  apply am_in_T h0
  rw [Int32.lt_iff_toInt_lt] at h1
  rw [Int32.le_iff_toInt_le]
  rw [nI_toInt (by omega)] at h1 ⊢
  omega
set_option maxHeartbeats 4000000 in
theorem t_isJoint {M : am_Mem} {x : Int32} : am_go 93 (am_ent 93 [.int (x)] M) (am_is (am_b (am_in x 12)) M) := by
  refine am_goR 1 (s2 := (1, [.int (x)], [.int (x)], M)) rfl ?_
  refine am_goB (x < 0) (s1 := (14, [.int (x)], [], M)) (s2 := (4, [.int (x)], [], M)) rfl (fun c1 => ?_) (fun c1 => ?_)
  · refine am_goR 1 (s2 := (15, [.int (x)], [.int (nI 0)], M)) rfl ?_
    exact am_endz false _ rfl (by first | exact (am_in_F1 (by assumption)).symm | exact (am_in_F2 (by assumption)).symm | exact (am_in_T (by assumption) (by assumption)).symm) (rfl)
  · refine am_goR 2 (s2 := (7, [.int (x)], [.int (nI 12), .int (x)], M)) rfl ?_
    refine am_goB (nI 12 ≤ x) (s1 := (14, [.int (x)], [], M)) (s2 := (10, [.int (x)], [], M)) rfl (fun c2 => ?_) (fun c2 => ?_)
    · refine am_goR 1 (s2 := (15, [.int (x)], [.int (nI 0)], M)) rfl ?_
      exact am_endz false _ rfl (by first | exact (am_in_F1 (by assumption)).symm | exact (am_in_F2 (by assumption)).symm | exact (am_in_T (by assumption) (by assumption)).symm) (rfl)
    · refine am_goR 2 (s2 := (15, [.int (x)], [.int (nI 1)], M)) rfl ?_
      exact am_endz true _ rfl (by first | exact (am_in_F1 (by assumption)).symm | exact (am_in_F2 (by assumption)).symm | exact (am_in_T (by assumption) (by assumption)).symm) (rfl)

theorem t_isJointN {M : am_Mem} {j : Nat} (hj : j < 2147483648) : am_go 93 (am_ent 93 [.int (nI j)] M) (am_is (am_b (decide (j < 12))) M) := by
  rw [← am_in_nI (n := 12) hj (by decide)]
  exact t_isJoint
theorem t_isJoint1 {M : am_Mem} {j : Nat} (hj : j < 12) : am_go 93 (am_ent 93 [.int (nI j)] M) (am_is (nI 1) M) := by
  have h := t_isJointN (M := M) (j := j) (by omega)
  rw [decide_eq_true hj] at h
  exact h
set_option maxHeartbeats 4000000 in
theorem t_isInX {M : am_Mem} {x : Int32} {n : Nat} (hn : n < 2147483647) : am_go 91 (am_ent 91 [.int (x), .int (nI 0), .int (nI n)] M) (am_is (am_b (am_in x (n + 1))) M) := by
  refine am_goR 2 (s2 := (2, [.int (x), .int (nI 0), .int (nI n)], [.int (nI 0), .int (x)], M)) rfl ?_
  refine am_goB (x < nI 0) (s1 := (14, [.int (x), .int (nI 0), .int (nI n)], [], M)) (s2 := (5, [.int (x), .int (nI 0), .int (nI n)], [], M)) rfl (fun c1 => ?_) (fun c1 => ?_)
  · refine am_goR 1 (s2 := (15, [.int (x), .int (nI 0), .int (nI n)], [.int (nI 0)], M)) rfl ?_
    exact am_endz false _ rfl (by first | exact (am_in_F1 (by assumption)).symm | exact (am_in_F3 (by assumption) hn).symm | exact (am_in_T3 (by assumption) (by assumption) hn).symm) (rfl)
  · refine am_goR 2 (s2 := (7, [.int (x), .int (nI 0), .int (nI n)], [.int (nI n), .int (x)], M)) rfl ?_
    refine am_goB (nI n < x) (s1 := (14, [.int (x), .int (nI 0), .int (nI n)], [], M)) (s2 := (10, [.int (x), .int (nI 0), .int (nI n)], [], M)) rfl (fun c2 => ?_) (fun c2 => ?_)
    · refine am_goR 1 (s2 := (15, [.int (x), .int (nI 0), .int (nI n)], [.int (nI 0)], M)) rfl ?_
      exact am_endz false _ rfl (by first | exact (am_in_F1 (by assumption)).symm | exact (am_in_F3 (by assumption) hn).symm | exact (am_in_T3 (by assumption) (by assumption) hn).symm) (rfl)
    · refine am_goR 2 (s2 := (15, [.int (x), .int (nI 0), .int (nI n)], [.int (nI 1)], M)) rfl ?_
      exact am_endz true _ rfl (by first | exact (am_in_F1 (by assumption)).symm | exact (am_in_F3 (by assumption) hn).symm | exact (am_in_T3 (by assumption) (by assumption) hn).symm) (rfl)

set_option maxHeartbeats 4000000 in
theorem t_isInG {M : am_Mem} {x lo hi : Nat} (hx : x < 2147483648) (hlo : lo < 2147483648) (hhi : hi < 2147483648) : am_go 91 (am_ent 91 [.int (nI x), .int (nI lo), .int (nI hi)] M) (am_is (am_b (sp_in x lo hi)) M) := by
  refine am_goR 2 (s2 := (2, [.int (nI x), .int (nI lo), .int (nI hi)], [.int (nI lo), .int (nI x)], M)) rfl ?_
  refine am_bLT (x) (lo) (s1 := (14, [.int (nI x), .int (nI lo), .int (nI hi)], [], M)) (s2 := (5, [.int (nI x), .int (nI lo), .int (nI hi)], [], M)) rfl (by omega) (by omega) (fun c1 => ?_) (fun c1 => ?_)
  · refine am_goR 1 (s2 := (15, [.int (nI x), .int (nI lo), .int (nI hi)], [.int (nI 0)], M)) rfl ?_
    exact am_endz false _ rfl (by unfold sp_in; first | (simp [*]; done) | (simp [*] <;> omega) | (simp <;> omega)) (rfl)
  · refine am_goR 2 (s2 := (7, [.int (nI x), .int (nI lo), .int (nI hi)], [.int (nI hi), .int (nI x)], M)) rfl ?_
    refine am_bLT (hi) (x) (s1 := (14, [.int (nI x), .int (nI lo), .int (nI hi)], [], M)) (s2 := (10, [.int (nI x), .int (nI lo), .int (nI hi)], [], M)) rfl (by omega) (by omega) (fun c2 => ?_) (fun c2 => ?_)
    · refine am_goR 1 (s2 := (15, [.int (nI x), .int (nI lo), .int (nI hi)], [.int (nI 0)], M)) rfl ?_
      exact am_endz false _ rfl (by unfold sp_in; first | (simp [*]; done) | (simp [*] <;> omega) | (simp <;> omega)) (rfl)
    · refine am_goR 2 (s2 := (15, [.int (nI x), .int (nI lo), .int (nI hi)], [.int (nI 1)], M)) rfl ?_
      exact am_endz true _ rfl (by unfold sp_in; first | (simp [*]; done) | (simp [*] <;> omega) | (simp <;> omega)) (rfl)

theorem t_isInN {M : am_Mem} {x : Nat} (hx : x < 2147483648) : am_go 91 (am_ent 91 [.int (nI x), .int (nI 0), .int (nI 1)] M) (am_is (am_b (decide (x < 2))) M) := by
  have h := t_isInG (M := M) (x := x) (lo := 0) (hi := 1) hx (by decide) (by decide)
  rw [show sp_in x 0 1 = decide (x < 2) from by
    unfold sp_in
    rw [decide_eq_true (Nat.zero_le x), Bool.true_and]
    exact decide_eq_decide.mpr (by omega)] at h
  exact h
theorem t_isIn1 {M : am_Mem} {x : Nat} (hx : x < 2) : am_go 91 (am_ent 91 [.int (nI x), .int (nI 0), .int (nI 1)] M) (am_is (nI 1) M) := by
  have h := t_isInN (M := M) (x := x) (by omega)
  rw [decide_eq_true hx] at h
  exact h
set_option maxHeartbeats 4000000 in
theorem t_isArm {M : am_Mem} {a : Nat} (hA : M 17 3 = nI a) (oA : a ≤ 4) {x : Int32} : am_go 94 (am_ent 94 [.ref 17, .int (x)] M) (am_is (am_b (am_in x a)) M) := by
  refine am_goR 1 (s2 := (1, [.ref 17, .int (x)], [.int (x)], M)) rfl ?_
  refine am_goB (x < 0) (s1 := (16, [.ref 17, .int (x)], [], M)) (s2 := (4, [.ref 17, .int (x)], [], M)) rfl (fun c1 => ?_) (fun c1 => ?_)
  · refine am_goR 1 (s2 := (17, [.ref 17, .int (x)], [.int (nI 0)], M)) rfl ?_
    exact am_endz false _ rfl (by first | exact (am_in_F1 (by assumption)).symm | exact (am_in_F2 (by assumption)).symm | exact (am_in_T (by assumption) (by assumption)).symm) (rfl)
  · refine am_goQ 3 (s1 := (9, [.ref 17, .int (x)], [.int ((M 17 3)), .int (x)], M)) (s2 := (9, [.ref 17, .int (x)], [.int (nI a), .int (x)], M)) rfl (by simp only [hA]) ?_
    refine am_goB (nI a ≤ x) (s1 := (16, [.ref 17, .int (x)], [], M)) (s2 := (12, [.ref 17, .int (x)], [], M)) rfl (fun c2 => ?_) (fun c2 => ?_)
    · refine am_goR 1 (s2 := (17, [.ref 17, .int (x)], [.int (nI 0)], M)) rfl ?_
      exact am_endz false _ rfl (by first | exact (am_in_F1 (by assumption)).symm | exact (am_in_F2 (by assumption)).symm | exact (am_in_T (by assumption) (by assumption)).symm) (rfl)
    · refine am_goR 2 (s2 := (17, [.ref 17, .int (x)], [.int (nI 1)], M)) rfl ?_
      exact am_endz true _ rfl (by first | exact (am_in_F1 (by assumption)).symm | exact (am_in_F2 (by assumption)).symm | exact (am_in_T (by assumption) (by assumption)).symm) (rfl)

theorem t_isArmN {M : am_Mem} {a : Nat} (hA : M 17 3 = nI a) (oA : a ≤ 4) {i : Nat} (hi : i < 2147483648) : am_go 94 (am_ent 94 [.ref 17, .int (nI i)] M) (am_is (am_b (decide (i < a))) M) := by
  have h := t_isArm hA oA (x := nI i)
  rw [am_in_nI hi (by omega)] at h
  exact h
theorem t_isArm1 {M : am_Mem} {a : Nat} (hA : M 17 3 = nI a) (oA : a ≤ 4) {i : Nat} (hi : i < a) : am_go 94 (am_ent 94 [.ref 17, .int (nI i)] M) (am_is (nI 1) M) := by
  have h := t_isArmN hA oA (i := i) (by omega)
  rw [decide_eq_true hi] at h
  exact h
set_option maxHeartbeats 4000000 in
theorem t_isHand {M : am_Mem} {a : Nat} (hA : M 17 3 = nI a) (oA : a ≤ 4) {x y : Int32} : am_go 95 (am_ent 95 [.ref 17, .int (x), .int (y)] M) (am_is (am_b (am_in x a && am_in y 2)) M) := by
  refine am_goR 2 (s2 := (2, [.ref 17, .int (x), .int (y)], [.int (x), .ref 17], M)) rfl ?_
  refine am_goX (v := am_b (am_in x a)) (M2 := M) (s2 := (5, [.ref 17, .int (x), .int (y)], [], M)) rfl (t_isArm hA oA) ?_
  refine am_bB0 (am_in x a) (s1 := (21, [.ref 17, .int (x), .int (y)], [], M)) (s2 := (8, [.ref 17, .int (x), .int (y)], [], M)) rfl (fun c1 => ?_) (fun c1 => ?_)
  · refine am_goR 1 (s2 := (22, [.ref 17, .int (x), .int (y)], [.int (nI 0)], M)) rfl ?_
    exact am_endz false _ rfl (by first | (simp [*]; done) | (simp [*] <;> omega)) (rfl)
  · refine am_goR 3 (s2 := (11, [.ref 17, .int (x), .int (y)], [.int (nI 1), .int (nI 0), .int (y)], M)) rfl ?_
    refine am_goX (v := am_b (am_in y 2)) (M2 := M) (s2 := (14, [.ref 17, .int (x), .int (y)], [], M)) rfl (t_isInX (n := 1) (by decide)) ?_
    refine am_bB0 (am_in y 2) (s1 := (21, [.ref 17, .int (x), .int (y)], [], M)) (s2 := (17, [.ref 17, .int (x), .int (y)], [], M)) rfl (fun c2 => ?_) (fun c2 => ?_)
    · refine am_goR 1 (s2 := (22, [.ref 17, .int (x), .int (y)], [.int (nI 0)], M)) rfl ?_
      exact am_endz false _ rfl (by first | (simp [*]; done) | (simp [*] <;> omega)) (rfl)
    · refine am_goR 2 (s2 := (22, [.ref 17, .int (x), .int (y)], [.int (nI 1)], M)) rfl ?_
      exact am_endz true _ rfl (by first | (simp [*]; done) | (simp [*] <;> omega)) (rfl)

theorem t_isHandN {M : am_Mem} {a : Nat} (hA : M 17 3 = nI a) (oA : a ≤ 4) {i b : Nat} (hi : i < 2147483648) (hb : b < 2147483648) : am_go 95 (am_ent 95 [.ref 17, .int (nI i), .int (nI b)] M) (am_is (am_b (decide (i < a) && decide (b < 2))) M) := by
  have h := t_isHand hA oA (x := nI i) (y := nI b)
  rw [am_in_nI hi (by omega), am_in_nI hb (by decide)] at h
  exact h
theorem t_isHandX {M : am_Mem} {a : Nat} (hA : M 17 3 = nI a) (oA : a ≤ 4) {i : Nat} (hi : i < a) {y : Int32} : am_go 95 (am_ent 95 [.ref 17, .int (nI i), .int y] M) (am_is (am_b (am_in y 2)) M) := by
  have h := t_isHand hA oA (x := nI i) (y := y)
  rw [am_in_nI (by omega) (by omega), decide_eq_true hi, Bool.true_and] at h
  exact h
theorem t_isHand1 {M : am_Mem} {a : Nat} (hA : M 17 3 = nI a) (oA : a ≤ 4) {i b : Nat} (hi : i < a) (hb : b < 2) : am_go 95 (am_ent 95 [.ref 17, .int (nI i), .int (nI b)] M) (am_is (nI 1) M) := by
  have h := t_isHandN hA oA (i := i) (b := b) (by omega) (by omega)
  rw [decide_eq_true hi, decide_eq_true hb] at h
  exact h
set_option maxHeartbeats 4000000 in
theorem t_isFixed {M : am_Mem} {a f hr hs lt : Nat} {k h : Nat → Nat} (hS : sp_M M a f hr hs lt k h) (hO : sp_ok a f hr lt k h) {j : Nat} (hj : j < 32) : am_go 96 (am_ent 96 [.ref 17, .int (nI j)] M) (am_is (am_b (f.testBit j)) M) := by
  obtain ⟨hF, hA, hHr, hHs, hLt, hK, hH⟩ := id hS
  obtain ⟨oA, oF, oHr, oLt, oK, oH⟩ := id hO
  refine am_goQ 7 (s1 := (9, [.ref 17, .int (nI j)], [.int (nI 1), .int ((((M 17 4) >>> (nI j &&& 31)) &&& nI 1))], M)) (s2 := (9, [.ref 17, .int (nI j)], [.int (nI 1), .int (am_b (f.testBit j))], M)) rfl (by simp only [hF, am_shr (x := f) (j := j) (by omega) (by omega), am_and, am_bit]) ?_
  refine am_bBN (f.testBit j) true (s1 := (16, [.ref 17, .int (nI j)], [], M)) (s2 := (12, [.ref 17, .int (nI j)], [], M)) rfl (fun c1 => ?_) (fun c1 => ?_)
  · refine am_goR 1 (s2 := (17, [.ref 17, .int (nI j)], [.int (nI 0)], M)) rfl ?_
    exact am_endz false _ rfl (by first | (simp [*]; done) | (simp [*] <;> omega)) (rfl)
  · refine am_goR 2 (s2 := (17, [.ref 17, .int (nI j)], [.int (nI 1)], M)) rfl ?_
    exact am_endz true _ rfl (by first | (simp [*]; done) | (simp [*] <;> omega)) (rfl)

set_option maxHeartbeats 4000000 in
theorem t_apart {M : am_Mem} {x y : Nat} (hx : x < 2147483648) (hy : y < 2147483648) : am_go 98 (am_ent 98 [.int (nI x), .int (nI y)] M) (am_is (nI (sp_ds x y)) M) := by
  refine am_goR 2 (s2 := (2, [.int (nI x), .int (nI y)], [.int (nI y), .int (nI x)], M)) rfl ?_
  refine am_bLE (y) (x) (s1 := (11, [.int (nI x), .int (nI y)], [], M)) (s2 := (5, [.int (nI x), .int (nI y)], [], M)) rfl (by omega) (by omega) (fun c1 => ?_) (fun c1 => ?_)
  · refine am_goQ 3 (s1 := (14, [.int (nI x), .int (nI y)], [.int ((nI x - nI y))], M)) (s2 := (14, [.int (nI x), .int (nI y)], [.int (nI (x - y))], M)) rfl (by simp only [pk_sub (a := x) (b := y) (by omega)]) ?_
    exact am_ends (nI (x - y)) _ rfl (by unfold sp_ds; congr 1; omega) (rfl)
  · refine am_goQ 4 (s1 := (14, [.int (nI x), .int (nI y)], [.int ((nI y - nI x))], M)) (s2 := (14, [.int (nI x), .int (nI y)], [.int (nI (y - x))], M)) rfl (by simp only [pk_sub (a := y) (b := x) (by omega)]) ?_
    exact am_ends (nI (y - x)) _ rfl (by unfold sp_ds; congr 1; omega) (rfl)

set_option maxHeartbeats 4000000 in
theorem t_reachOf {M : am_Mem} {x : Nat} (hx : x < 2147483648) : am_go 99 (am_ent 99 [.int (nI x)] M) (am_is (nI (sp_rc x)) M) := by
  refine am_goR 2 (s2 := (2, [.int (nI x)], [.int (nI 1), .int (nI x)], M)) rfl ?_
  refine am_bEQ (x) (1) (s1 := (10, [.int (nI x)], [], M)) (s2 := (5, [.int (nI x)], [], M)) rfl (by omega) (by omega) (fun c1 => ?_) (fun c1 => ?_)
  · refine am_goR 2 (s2 := (24, [.int (nI x)], [.int (nI 4)], M)) rfl ?_
    exact am_ends (nI 4) _ rfl (by unfold sp_rc; simp [*]) (rfl)
  · refine am_goR 2 (s2 := (7, [.int (nI x)], [.int (nI 4), .int (nI x)], M)) rfl ?_
    refine am_bNE (x) (4) (s1 := (14, [.int (nI x)], [], M)) (s2 := (10, [.int (nI x)], [], M)) rfl (by omega) (by omega) (fun c2 => ?_) (fun c2 => ?_)
    · refine am_goR 2 (s2 := (16, [.int (nI x)], [.int (nI 2), .int (nI x)], M)) rfl ?_
      refine am_bNE (x) (2) (s1 := (23, [.int (nI x)], [], M)) (s2 := (19, [.int (nI x)], [], M)) rfl (by omega) (by omega) (fun c3 => ?_) (fun c3 => ?_)
      · refine am_goR 1 (s2 := (24, [.int (nI x)], [.int (nI 3)], M)) rfl ?_
        exact am_ends (nI 3) _ rfl (by unfold sp_rc; simp [*]) (rfl)
      · refine am_goR 2 (s2 := (24, [.int (nI x)], [.int (nI 2)], M)) rfl ?_
        exact am_ends (nI 2) _ rfl (by unfold sp_rc; simp [*]) (rfl)
    · refine am_goR 2 (s2 := (24, [.int (nI x)], [.int (nI 4)], M)) rfl ?_
      exact am_ends (nI 4) _ rfl (by unfold sp_rc; simp [*]) (rfl)

set_option maxHeartbeats 4000000 in
theorem t_doesWork {M : am_Mem} {a f hr hs lt : Nat} {k h : Nat → Nat} (hS : sp_M M a f hr hs lt k h) (hO : sp_ok a f hr lt k h) {i : Nat} (hi : i < a) {r : Nat} (hr2 : r < 32) : am_go 100 (am_ent 100 [.ref 17, .int (nI i), .int (nI r)] M) (am_is (am_b (sp_wk lt (k i) r)) M) := by
  obtain ⟨hF, hA, hHr, hHs, hLt, hK, hH⟩ := id hS
  obtain ⟨oA, oF, oHr, oLt, oK, oH⟩ := id hO
  have oKi := oK i
  refine am_goQ 7 (s1 := (9, [.ref 17, .int (nI i), .int (nI r), .null], [.int (nI 1), .int ((((M 17 7) >>> (nI r &&& 31)) &&& nI 1))], M)) (s2 := (9, [.ref 17, .int (nI i), .int (nI r), .null], [.int (nI 1), .int (am_b (lt.testBit r))], M)) rfl (by simp only [hLt, am_shr (x := lt) (j := r) (by omega) (by omega), am_and, am_bit]) ?_
  refine am_bBN (lt.testBit r) true (s1 := (16, [.ref 17, .int (nI i), .int (nI r), .null], [], M)) (s2 := (12, [.ref 17, .int (nI i), .int (nI r), .null], [], M)) rfl (fun c1 => ?_) (fun c1 => ?_)
  · refine am_goR 5 (s2 := (23, [.ref 17, .int (nI i), .int (nI r), .int (nI 0)], [.int (nI i), .ref 19], M)) rfl ?_
    refine am_goL2 (pc := 24) (ls := [.ref 17, .int (nI i), .int (nI r), .int (nI 0)]) (r := []) (M := M) (a := 19) (n := 4) (i) (nI (k i)) rfl rfl (by omega) (by decide) (hK _ (by omega)) ?_
    refine am_goR 1 (s2 := (25, [.ref 17, .int (nI i), .int (nI r), .int (nI 0)], [.int (nI 3), .int (nI (k i))], M)) rfl ?_
    refine am_bNE ((k i)) (3) (s1 := (32, [.ref 17, .int (nI i), .int (nI r), .int (nI 0)], [], M)) (s2 := (28, [.ref 17, .int (nI i), .int (nI r), .int (nI 0)], [], M)) rfl (by omega) (by omega) (fun c2 => ?_) (fun c2 => ?_)
    · refine am_goR 3 (s2 := (37, [.ref 17, .int (nI i), .int (nI r), .int (nI 0)], [.int (nI i), .ref 19], M)) rfl ?_
      refine am_goL2 (pc := 38) (ls := [.ref 17, .int (nI i), .int (nI r), .int (nI 0)]) (r := []) (M := M) (a := 19) (n := 4) (i) (nI (k i)) rfl rfl (by omega) (by decide) (hK _ (by omega)) ?_
      refine am_goR 1 (s2 := (39, [.ref 17, .int (nI i), .int (nI r), .int (nI 0)], [.int (nI 5), .int (nI (k i))], M)) rfl ?_
      refine am_bNE ((k i)) (5) (s1 := (46, [.ref 17, .int (nI i), .int (nI r), .int (nI 0)], [], M)) (s2 := (42, [.ref 17, .int (nI i), .int (nI r), .int (nI 0)], [], M)) rfl (by omega) (by omega) (fun c3 => ?_) (fun c3 => ?_)
      · refine am_goR 2 (s2 := (51, [.ref 17, .int (nI i), .int (nI r), .int (nI 0)], [.int (nI 1)], M)) rfl ?_
        exact am_endz true _ rfl (by unfold sp_wk; simp [*]) (rfl)
      · refine am_goR 4 (s2 := (51, [.ref 17, .int (nI i), .int (nI r), .int (nI 0)], [.int (nI 1)], M)) rfl ?_
        exact am_endz true _ rfl (by unfold sp_wk; simp [*]) (rfl)
    · refine am_goR 2 (s2 := (51, [.ref 17, .int (nI i), .int (nI r), .int (nI 0)], [.int (nI 0)], M)) rfl ?_
      exact am_endz false _ rfl (by unfold sp_wk; simp [*]) (rfl)
  · refine am_goR 6 (s2 := (23, [.ref 17, .int (nI i), .int (nI r), .int (nI 1)], [.int (nI i), .ref 19], M)) rfl ?_
    refine am_goL2 (pc := 24) (ls := [.ref 17, .int (nI i), .int (nI r), .int (nI 1)]) (r := []) (M := M) (a := 19) (n := 4) (i) (nI (k i)) rfl rfl (by omega) (by decide) (hK _ (by omega)) ?_
    refine am_goR 1 (s2 := (25, [.ref 17, .int (nI i), .int (nI r), .int (nI 1)], [.int (nI 3), .int (nI (k i))], M)) rfl ?_
    refine am_bNE ((k i)) (3) (s1 := (32, [.ref 17, .int (nI i), .int (nI r), .int (nI 1)], [], M)) (s2 := (28, [.ref 17, .int (nI i), .int (nI r), .int (nI 1)], [], M)) rfl (by omega) (by omega) (fun c4 => ?_) (fun c4 => ?_)
    · refine am_goR 3 (s2 := (37, [.ref 17, .int (nI i), .int (nI r), .int (nI 1)], [.int (nI i), .ref 19], M)) rfl ?_
      refine am_goL2 (pc := 38) (ls := [.ref 17, .int (nI i), .int (nI r), .int (nI 1)]) (r := []) (M := M) (a := 19) (n := 4) (i) (nI (k i)) rfl rfl (by omega) (by decide) (hK _ (by omega)) ?_
      refine am_goR 1 (s2 := (39, [.ref 17, .int (nI i), .int (nI r), .int (nI 1)], [.int (nI 5), .int (nI (k i))], M)) rfl ?_
      refine am_bNE ((k i)) (5) (s1 := (46, [.ref 17, .int (nI i), .int (nI r), .int (nI 1)], [], M)) (s2 := (42, [.ref 17, .int (nI i), .int (nI r), .int (nI 1)], [], M)) rfl (by omega) (by omega) (fun c5 => ?_) (fun c5 => ?_)
      · refine am_goR 2 (s2 := (51, [.ref 17, .int (nI i), .int (nI r), .int (nI 1)], [.int (nI 1)], M)) rfl ?_
        exact am_endz true _ rfl (by unfold sp_wk; simp [*]) (rfl)
      · refine am_goR 3 (s2 := (51, [.ref 17, .int (nI i), .int (nI r), .int (nI 1)], [.int (nI 0)], M)) rfl ?_
        exact am_endz false _ rfl (by unfold sp_wk; simp [*]) (rfl)
    · refine am_goR 2 (s2 := (51, [.ref 17, .int (nI i), .int (nI r), .int (nI 1)], [.int (nI 1)], M)) rfl ?_
      exact am_endz true _ rfl (by unfold sp_wk; simp [*]) (rfl)

set_option maxHeartbeats 4000000 in
theorem t_whoOnN_loop {M : am_Mem} {a : Nat} {h : Nat → Nat} (hA : M 17 3 = nI a) (oA : a ≤ 4) (hH : ∀ q, q < 8 → M 20 q = nI (h q)) (oH : ∀ q, h q < 2147483648) {j : Nat} (hj : j < 2147483648) (hq : sp_wo h j (2 * a) = none) : ∀ n p : Nat, n + p = 2 * a + 1 → p ≤ 2 * a → am_go 97 (2, [.ref 17, .int (nI j), .int (nI p)], [], M) (am_is ((-nI 9)) M) := by
  have hq := sp_wo_none.mp hq
  skip
  intro n
  induction n with
  | zero => intro p h1 h2; omega
  | succ n ih =>
    intro p h1 h2
    have oHp := oH p
    skip
    refine am_goQ 5 (s1 := (9, [.ref 17, .int (nI j), .int (nI p)], [.int ((nI 2 * (M 17 3))), .int (nI p)], M)) (s2 := (9, [.ref 17, .int (nI j), .int (nI p)], [.int (nI (2 * a)), .int (nI p)], M)) rfl (by simp only [hA, pk_mul]) ?_
    refine am_bLE ((2 * a)) (p) (s1 := (30, [.ref 17, .int (nI j), .int (nI p)], [], M)) (s2 := (12, [.ref 17, .int (nI j), .int (nI p)], [], M)) rfl (by omega) (by omega) (fun c1 => ?_) (fun c1 => ?_)
    · refine am_goR 1 (s2 := (32, [.ref 17, .int (nI j), .int (nI p)], [.int ((-nI 9))], M)) rfl ?_
      exact am_ends ((-nI 9)) _ rfl (by rfl) (rfl)
    · refine am_goR 3 (s2 := (17, [.ref 17, .int (nI j), .int (nI p)], [.int (nI p), .ref 20], M)) rfl ?_
      refine am_goL2 (pc := 18) (ls := [.ref 17, .int (nI j), .int (nI p)]) (r := []) (M := M) (a := 20) (n := 8) (p) (nI (h p)) rfl rfl (by omega) (by decide) (hH _ (by omega)) ?_
      refine am_goR 1 (s2 := (19, [.ref 17, .int (nI j), .int (nI p)], [.int (nI j), .int (nI (h p))], M)) rfl ?_
      refine am_bNE ((h p)) (j) (s1 := (24, [.ref 17, .int (nI j), .int (nI p)], [], M)) (s2 := (22, [.ref 17, .int (nI j), .int (nI p)], [], M)) rfl (by omega) (by omega) (fun c2 => ?_) (fun c2 => absurd c2 (hq p (by omega)))
      refine am_goQ 2 (s1 := (2, [.ref 17, .int (nI j), .int ((nI p + nI 1))], [], M)) (s2 := (2, [.ref 17, .int (nI j), .int (nI (p + 1))], [], M)) rfl (by simp only [nI_add]) ?_
      exact ih (p + 1) (by omega) (by omega)
theorem t_whoOnN {M : am_Mem} {a : Nat} {h : Nat → Nat} (hA : M 17 3 = nI a) (oA : a ≤ 4) (hH : ∀ q, q < 8 → M 20 q = nI (h q)) (oH : ∀ q, h q < 2147483648) {j : Nat} (hj : j < 2147483648) (hq : sp_wo h j (2 * a) = none) : am_go 97 (am_ent 97 [.ref 17, .int (nI j)] M) (am_is ((-nI 9)) M) := by
  refine am_goR 2 (s2 := (2, [.ref 17, .int (nI j), .int (nI 0)], [], M)) rfl ?_
  exact t_whoOnN_loop hA oA hH oH hj hq (2 * a + 1) 0 (by omega) (by omega)
set_option maxHeartbeats 4000000 in
theorem t_whoOnS_loop {M : am_Mem} {a : Nat} {h : Nat → Nat} (hA : M 17 3 = nI a) (oA : a ≤ 4) (hH : ∀ q, q < 8 → M 20 q = nI (h q)) (oH : ∀ q, h q < 2147483648) {j : Nat} (hj : j < 2147483648) {q : Nat} (hq : sp_wo h j (2 * a) = some q) : ∀ n p : Nat, n + p = 2 * a + 1 → p ≤ q → am_go 97 (2, [.ref 17, .int (nI j), .int (nI p)], [], M) (am_is (nI q) M) := by
  have hq := sp_wo_some.mp hq
  have hq1 := hq.1
  intro n
  induction n with
  | zero => intro p h1 h2; omega
  | succ n ih =>
    intro p h1 h2
    have oHp := oH p
    have hqp : p = q → h p = j := fun z => by rw [z]; exact hq.2.1
    refine am_goQ 5 (s1 := (9, [.ref 17, .int (nI j), .int (nI p)], [.int ((nI 2 * (M 17 3))), .int (nI p)], M)) (s2 := (9, [.ref 17, .int (nI j), .int (nI p)], [.int (nI (2 * a)), .int (nI p)], M)) rfl (by simp only [hA, pk_mul]) ?_
    refine am_bLE ((2 * a)) (p) (s1 := (30, [.ref 17, .int (nI j), .int (nI p)], [], M)) (s2 := (12, [.ref 17, .int (nI j), .int (nI p)], [], M)) rfl (by omega) (by omega) (fun c1 => absurd c1 (by omega)) (fun c1 => ?_)
    refine am_goR 3 (s2 := (17, [.ref 17, .int (nI j), .int (nI p)], [.int (nI p), .ref 20], M)) rfl ?_
    refine am_goL2 (pc := 18) (ls := [.ref 17, .int (nI j), .int (nI p)]) (r := []) (M := M) (a := 20) (n := 8) (p) (nI (h p)) rfl rfl (by omega) (by decide) (hH _ (by omega)) ?_
    refine am_goR 1 (s2 := (19, [.ref 17, .int (nI j), .int (nI p)], [.int (nI j), .int (nI (h p))], M)) rfl ?_
    refine am_bNE ((h p)) (j) (s1 := (24, [.ref 17, .int (nI j), .int (nI p)], [], M)) (s2 := (22, [.ref 17, .int (nI j), .int (nI p)], [], M)) rfl (by omega) (by omega) (fun c2 => ?_) (fun c2 => ?_)
    · refine am_goQ 2 (s1 := (2, [.ref 17, .int (nI j), .int ((nI p + nI 1))], [], M)) (s2 := (2, [.ref 17, .int (nI j), .int (nI (p + 1))], [], M)) rfl (by simp only [nI_add]) ?_
      exact ih (p + 1) (by omega) (by omega)
    · refine am_goR 1 (s2 := (23, [.ref 17, .int (nI j), .int (nI p)], [.int (nI p)], M)) rfl ?_
      exact am_ends (nI p) _ rfl (by rw [show p = q from by
        rcases Nat.lt_trichotomy p q with z | z | z
        · exact absurd (by assumption) (hq.2.2 p z)
        · exact z
        · omega]) (rfl)
theorem t_whoOnS {M : am_Mem} {a : Nat} {h : Nat → Nat} (hA : M 17 3 = nI a) (oA : a ≤ 4) (hH : ∀ q, q < 8 → M 20 q = nI (h q)) (oH : ∀ q, h q < 2147483648) {j : Nat} (hj : j < 2147483648) {q : Nat} (hq : sp_wo h j (2 * a) = some q) : am_go 97 (am_ent 97 [.ref 17, .int (nI j)] M) (am_is (nI q) M) := by
  refine am_goR 2 (s2 := (2, [.ref 17, .int (nI j), .int (nI 0)], [], M)) rfl ?_
  exact t_whoOnS_loop hA oA hH oH hj hq (2 * a + 1) 0 (by omega) (by omega)
set_option maxHeartbeats 4000000 in
theorem t_canStand {M : am_Mem} {a f hr hs lt : Nat} {k h : Nat → Nat} (hS : sp_M M a f hr hs lt k h) (hO : sp_ok a f hr lt k h) {j : Nat} (hj : j < 2147483648) : am_go 107 (am_ent 107 [.ref 17, .int (nI j)] M) (am_is (am_b (sp_fe a f h j)) M) := by
  obtain ⟨hF, hA, hHr, hHs, hLt, hK, hH⟩ := id hS
  obtain ⟨oA, oF, oHr, oLt, oK, oH⟩ := id hO
  refine am_goR 1 (s2 := (1, [.ref 17, .int (nI j)], [.int (nI j)], M)) rfl ?_
  refine am_goX (v := am_b (decide (j < 12))) (M2 := M) (s2 := (4, [.ref 17, .int (nI j)], [], M)) rfl (t_isJointN (j := j) (by omega)) ?_
  refine am_bB0 (decide (j < 12)) (s1 := (27, [.ref 17, .int (nI j)], [], M)) (s2 := (7, [.ref 17, .int (nI j)], [], M)) rfl (fun c1 => ?_) (fun c1 => ?_)
  · have c1d := of_decide_eq_false c1
    refine am_goR 1 (s2 := (28, [.ref 17, .int (nI j)], [.int (nI 0)], M)) rfl ?_
    exact am_endz false _ rfl (by unfold sp_fe; first | (simp [*]; done) | (simp [*] <;> omega)) (rfl)
  · have c1d := of_decide_eq_true c1
    refine am_goR 2 (s2 := (9, [.ref 17, .int (nI j)], [.int (nI j), .ref 17], M)) rfl ?_
    refine am_goX (v := am_b (f.testBit j)) (M2 := M) (s2 := (12, [.ref 17, .int (nI j)], [], M)) rfl (t_isFixed hS hO (j := j) (by omega)) ?_
    refine am_bB0 (f.testBit j) (s1 := (27, [.ref 17, .int (nI j)], [], M)) (s2 := (15, [.ref 17, .int (nI j)], [], M)) rfl (fun c2 => ?_) (fun c2 => ?_)
    · refine am_goR 1 (s2 := (28, [.ref 17, .int (nI j)], [.int (nI 0)], M)) rfl ?_
      exact am_endz false _ rfl (by unfold sp_fe; first | (simp [*]; done) | (simp [*] <;> omega)) (rfl)
    · refine am_goR 2 (s2 := (17, [.ref 17, .int (nI j)], [.int (nI j), .ref 17], M)) rfl ?_
      rcases hw4 : sp_wo h j (2 * a) with _ | q3
      · refine am_goX (v := (-nI 9)) (M2 := M) (s2 := (20, [.ref 17, .int (nI j)], [], M)) rfl (t_whoOnN hS.2.1 hO.1 hS.2.2.2.2.2.2 (fun q => by have := hO.2.2.2.2.2 q; omega) (j := j) (by omega) hw4) ?_
        refine am_goR 3 (s2 := (28, [.ref 17, .int (nI j)], [.int (nI 1)], M)) rfl ?_
        exact am_endz true _ rfl (by unfold sp_fe; first | (simp [*]; done) | (simp [*] <;> omega)) (rfl)
      · refine am_goX (v := nI q3) (M2 := M) (s2 := (20, [.ref 17, .int (nI j)], [], M)) rfl (t_whoOnS hS.2.1 hO.1 hS.2.2.2.2.2.2 (fun q => by have := hO.2.2.2.2.2 q; omega) (j := j) (by omega) hw4) ?_
        have hq3 := (sp_wo_some.mp hw4).1
        refine am_bLE (0) (q3) (s1 := (27, [.ref 17, .int (nI j)], [], M)) (s2 := (23, [.ref 17, .int (nI j)], [], M)) rfl (by omega) (by omega) (fun c5 => ?_) (fun c5 => absurd c5 (by omega))
        refine am_goR 1 (s2 := (28, [.ref 17, .int (nI j)], [.int (nI 0)], M)) rfl ?_
        exact am_endz false _ rfl (by unfold sp_fe; first | (simp [*]; done) | (simp [*] <;> omega)) (rfl)

theorem sp_cn_none {a f : Nat} {k h : Nat → Nat} {i b aw j : Nat} (hw : sp_wo h j (2 * a) = none) : sp_cn a f k h i b aw j = (f.testBit j && !(decide (k i = 4) && decide (b = 0)) && decide (sp_ds j (h (2 * i + 1 - b)) ≤ sp_rc (k i))) := by
  unfold sp_cn
  rw [decide_eq_true (fun q hq he => absurd he (sp_wo_none.mp hw q hq)), Bool.and_true]
theorem sp_cn_some {a f : Nat} {k h : Nat → Nat} {i b aw j q : Nat} (oD : ∀ p q, p < 2 * a → q < 2 * a → h p = h q → p = q) (hw : sp_wo h j (2 * a) = some q) : sp_cn a f k h i b aw j = (f.testBit j && decide (q / 2 = aw) && !(decide (k i = 4) && decide (b = 0)) && decide (sp_ds j (h (2 * i + 1 - b)) ≤ sp_rc (k i))) := by
  obtain ⟨h1, h2, -⟩ := sp_wo_some.mp hw
  unfold sp_cn
  rw [show decide (∀ q, q < 2 * a → h q = j → q / 2 = aw) = decide (q / 2 = aw) from decide_eq_decide.mpr ⟨fun z => z q h1 h2, fun z p hp he => by rw [oD p q hp h1 (he.trans h2.symm)]; exact z⟩]
theorem sp_cn_big {a f : Nat} {k h : Nat → Nat} {i b aw j : Nat} (oF : f < 4096) (hj : 12 ≤ j) : sp_cn a f k h i b aw j = false := by
  cases hc : sp_cn a f k h i b aw j with
  | false => rfl
  | true =>
    unfold sp_cn at hc
    simp only [Bool.and_eq_true] at hc
    have := sp_f_bit oF hc.1.1.1
    omega
set_option maxHeartbeats 4000000 in
theorem t_canStepn {M : am_Mem} {a f hr hs lt : Nat} {k h : Nat → Nat} (hS : sp_M M a f hr hs lt k h) (hO : sp_ok a f hr lt k h) (oD : ∀ p q, p < 2 * a → q < 2 * a → h p = h q → p = q) {i : Nat} (hi : i < a) {b j : Nat} (hb : b < 2) (hj : j < 1000)  : am_go 116 (am_ent 116 [.ref 17, .int (nI i), .int (nI b), .int (nI j), .int ((-nI 9))] M) (am_is (am_b (sp_cn a f k h i b 9 j)) M) := by
  obtain ⟨hF, hA, hHr, hHs, hLt, hK, hH⟩ := id hS
  obtain ⟨oA, oF, oHr, oLt, oK, oH⟩ := id hO
  have oKi := oK i
  have oR := sp_rc_lt (k i)
  have oHi := oH (2 * i + 1 - b)
  have hds : sp_ds j (h (2 * i + 1 - b)) < 2000 := by unfold sp_ds; omega
  refine am_goR 1 (s2 := (1, [.ref 17, .int (nI i), .int (nI b), .int (nI j), .int ((-nI 9)), .null], [.int (nI j)], M)) rfl ?_
  refine am_goX (v := am_b (decide (j < 12))) (M2 := M) (s2 := (4, [.ref 17, .int (nI i), .int (nI b), .int (nI j), .int ((-nI 9)), .null], [], M)) rfl (t_isJointN (j := j) (by omega)) ?_
  refine am_bB0 (decide (j < 12)) (s1 := (15, [.ref 17, .int (nI i), .int (nI b), .int (nI j), .int ((-nI 9)), .null], [], M)) (s2 := (7, [.ref 17, .int (nI i), .int (nI b), .int (nI j), .int ((-nI 9)), .null], [], M)) rfl (fun c1 => ?_) (fun c1 => ?_)
  · have c1d := of_decide_eq_false c1
    refine am_goR 3 (s2 := (19, [.ref 17, .int (nI i), .int (nI b), .int (nI j), .int ((-nI 9)), .int (nI 0)], [.int (nI j)], M)) rfl ?_
    refine am_goX (v := am_b (decide (j < 12))) (M2 := M) (s2 := (22, [.ref 17, .int (nI i), .int (nI b), .int (nI j), .int ((-nI 9)), .int (nI 0)], [], M)) rfl (t_isJointN (j := j) (by omega)) ?_
    refine am_bB0 (decide (j < 12)) (s1 := (61, [.ref 17, .int (nI i), .int (nI b), .int (nI j), .int ((-nI 9)), .int (nI 0)], [], M)) (s2 := (25, [.ref 17, .int (nI i), .int (nI b), .int (nI j), .int ((-nI 9)), .int (nI 0)], [], M)) rfl (fun c2 => ?_) (fun c2 => absurd c2 (by simp [*]))
    have c2d := of_decide_eq_false c2
    refine am_goR 1 (s2 := (62, [.ref 17, .int (nI i), .int (nI b), .int (nI j), .int ((-nI 9)), .int (nI 0)], [.int (nI 0)], M)) rfl ?_
    exact am_endz false _ rfl (by first | (rw [sp_cn_big oF (by omega)]; done) | (rw [sp_cn_none (by assumption)]; generalize sp_rc (k i) = R at *; simp [*]; done) | (rw [sp_cn_some oD (by assumption)]; generalize sp_rc (k i) = R at *; simp [*]; done) | (rw [sp_cn_none (by assumption)]; generalize sp_rc (k i) = R at *; simp [*] <;> omega) | (rw [sp_cn_some oD (by assumption)]; generalize sp_rc (k i) = R at *; simp [*] <;> omega)) (rfl)
  · have c1d := of_decide_eq_true c1
    refine am_goR 2 (s2 := (9, [.ref 17, .int (nI i), .int (nI b), .int (nI j), .int ((-nI 9)), .null], [.int (nI j), .ref 17], M)) rfl ?_
    rcases hw4 : sp_wo h j (2 * a) with _ | q3
    · refine am_goX (v := (-nI 9)) (M2 := M) (s2 := (12, [.ref 17, .int (nI i), .int (nI b), .int (nI j), .int ((-nI 9)), .null], [], M)) rfl (t_whoOnN hS.2.1 hO.1 hS.2.2.2.2.2.2 (fun q => by have := hO.2.2.2.2.2 q; omega) (j := j) (by omega) hw4) ?_
      refine am_goR 3 (s2 := (19, [.ref 17, .int (nI i), .int (nI b), .int (nI j), .int ((-nI 9)), .int ((-nI 9))], [.int (nI j)], M)) rfl ?_
      refine am_goX (v := nI 1) (M2 := M) (s2 := (22, [.ref 17, .int (nI i), .int (nI b), .int (nI j), .int ((-nI 9)), .int ((-nI 9))], [], M)) rfl (t_isJoint1 (j := j) (by omega)) ?_
      refine am_goR 3 (s2 := (27, [.ref 17, .int (nI i), .int (nI b), .int (nI j), .int ((-nI 9)), .int ((-nI 9))], [.int (nI j), .ref 17], M)) rfl ?_
      refine am_goX (v := am_b (f.testBit j)) (M2 := M) (s2 := (30, [.ref 17, .int (nI i), .int (nI b), .int (nI j), .int ((-nI 9)), .int ((-nI 9))], [], M)) rfl (t_isFixed hS hO (j := j) (by omega)) ?_
      refine am_bB0 (f.testBit j) (s1 := (61, [.ref 17, .int (nI i), .int (nI b), .int (nI j), .int ((-nI 9)), .int ((-nI 9))], [], M)) (s2 := (33, [.ref 17, .int (nI i), .int (nI b), .int (nI j), .int ((-nI 9)), .int ((-nI 9))], [], M)) rfl (fun c5 => ?_) (fun c5 => ?_)
      · refine am_goR 1 (s2 := (62, [.ref 17, .int (nI i), .int (nI b), .int (nI j), .int ((-nI 9)), .int ((-nI 9))], [.int (nI 0)], M)) rfl ?_
        exact am_endz false _ rfl (by first | (rw [sp_cn_big oF (by omega)]; done) | (rw [sp_cn_none (by assumption)]; generalize sp_rc (k i) = R at *; simp [*]; done) | (rw [sp_cn_some oD (by assumption)]; generalize sp_rc (k i) = R at *; simp [*]; done) | (rw [sp_cn_none (by assumption)]; generalize sp_rc (k i) = R at *; simp [*] <;> omega) | (rw [sp_cn_some oD (by assumption)]; generalize sp_rc (k i) = R at *; simp [*] <;> omega)) (rfl)
      · refine am_goR 5 (s2 := (52, [.ref 17, .int (nI i), .int (nI b), .int (nI j), .int ((-nI 9)), .int ((-nI 9))], [.int (nI i), .ref 19], M)) rfl ?_
        refine am_goL2 (pc := 53) (ls := [.ref 17, .int (nI i), .int (nI b), .int (nI j), .int ((-nI 9)), .int ((-nI 9))]) (r := []) (M := M) (a := 19) (n := 4) (i) (nI (k i)) rfl rfl (by omega) (by decide) (hK _ (by omega)) ?_
        refine am_goR 1 (s2 := (54, [.ref 17, .int (nI i), .int (nI b), .int (nI j), .int ((-nI 9)), .int ((-nI 9))], [.int (nI 4), .int (nI (k i))], M)) rfl ?_
        refine am_bNE ((k i)) (4) (s1 := (63, [.ref 17, .int (nI i), .int (nI b), .int (nI j), .int ((-nI 9)), .int ((-nI 9))], [], M)) (s2 := (57, [.ref 17, .int (nI i), .int (nI b), .int (nI j), .int ((-nI 9)), .int ((-nI 9))], [], M)) rfl (by omega) (by omega) (fun c6 => ?_) (fun c6 => ?_)
        · refine am_goQ 10 (s1 := (75, [.ref 17, .int (nI i), .int (nI b), .int (nI j), .int ((-nI 9)), .int ((-nI 9))], [.int ((((nI 2 * nI i) + nI 1) - nI b)), .ref 20, .int (nI j)], M)) (s2 := (75, [.ref 17, .int (nI i), .int (nI b), .int (nI j), .int ((-nI 9)), .int ((-nI 9))], [.int (nI (((2 * i) + 1) - b)), .ref 20, .int (nI j)], M)) rfl (by simp only [pk_mul, nI_add, pk_sub (a := ((2 * i) + 1)) (b := b) (by omega)]) ?_
          refine am_goL2 (pc := 76) (ls := [.ref 17, .int (nI i), .int (nI b), .int (nI j), .int ((-nI 9)), .int ((-nI 9))]) (r := [.int (nI j)]) (M := M) (a := 20) (n := 8) ((((2 * i) + 1) - b)) (nI (h (((2 * i) + 1) - b))) rfl rfl (by omega) (by decide) (hH _ (by omega)) ?_
          refine am_goX (v := nI (sp_ds j (h (((2 * i) + 1) - b)))) (M2 := M) (s2 := (79, [.ref 17, .int (nI i), .int (nI b), .int (nI j), .int ((-nI 9)), .int ((-nI 9))], [], M)) rfl (t_apart (x := j) (y := (h (((2 * i) + 1) - b))) (by omega) (by omega)) ?_
          refine am_goR 3 (s2 := (84, [.ref 17, .int (nI i), .int (nI b), .int (nI j), .int ((-nI 9)), .int ((-nI 9))], [.int (nI i), .ref 19, .int (nI (sp_ds j (h (((2 * i) + 1) - b))))], M)) rfl ?_
          refine am_goL2 (pc := 85) (ls := [.ref 17, .int (nI i), .int (nI b), .int (nI j), .int ((-nI 9)), .int ((-nI 9))]) (r := [.int (nI (sp_ds j (h (((2 * i) + 1) - b))))]) (M := M) (a := 19) (n := 4) (i) (nI (k i)) rfl rfl (by omega) (by decide) (hK _ (by omega)) ?_
          refine am_goX (v := nI (sp_rc (k i))) (M2 := M) (s2 := (88, [.ref 17, .int (nI i), .int (nI b), .int (nI j), .int ((-nI 9)), .int ((-nI 9))], [.int (nI (sp_ds j (h (((2 * i) + 1) - b))))], M)) rfl (t_reachOf (x := (k i)) (by omega)) ?_
          refine am_bLT ((sp_rc (k i))) ((sp_ds j (h (((2 * i) + 1) - b)))) (s1 := (95, [.ref 17, .int (nI i), .int (nI b), .int (nI j), .int ((-nI 9)), .int ((-nI 9))], [], M)) (s2 := (91, [.ref 17, .int (nI i), .int (nI b), .int (nI j), .int ((-nI 9)), .int ((-nI 9))], [], M)) rfl (by omega) (by omega) (fun c7 => ?_) (fun c7 => ?_)
          · refine am_goR 1 (s2 := (96, [.ref 17, .int (nI i), .int (nI b), .int (nI j), .int ((-nI 9)), .int ((-nI 9))], [.int (nI 0)], M)) rfl ?_
            exact am_endz false _ rfl (by first | (rw [sp_cn_big oF (by omega)]; done) | (rw [sp_cn_none (by assumption)]; generalize sp_rc (k i) = R at *; simp [*]; done) | (rw [sp_cn_some oD (by assumption)]; generalize sp_rc (k i) = R at *; simp [*]; done) | (rw [sp_cn_none (by assumption)]; generalize sp_rc (k i) = R at *; simp [*] <;> omega) | (rw [sp_cn_some oD (by assumption)]; generalize sp_rc (k i) = R at *; simp [*] <;> omega)) (rfl)
          · refine am_goR 2 (s2 := (96, [.ref 17, .int (nI i), .int (nI b), .int (nI j), .int ((-nI 9)), .int ((-nI 9))], [.int (nI 1)], M)) rfl ?_
            exact am_endz true _ rfl (by first | (rw [sp_cn_big oF (by omega)]; done) | (rw [sp_cn_none (by assumption)]; generalize sp_rc (k i) = R at *; simp [*]; done) | (rw [sp_cn_some oD (by assumption)]; generalize sp_rc (k i) = R at *; simp [*]; done) | (rw [sp_cn_none (by assumption)]; generalize sp_rc (k i) = R at *; simp [*] <;> omega) | (rw [sp_cn_some oD (by assumption)]; generalize sp_rc (k i) = R at *; simp [*] <;> omega)) (rfl)
        · refine am_goR 1 (s2 := (58, [.ref 17, .int (nI i), .int (nI b), .int (nI j), .int ((-nI 9)), .int ((-nI 9))], [.int (nI b)], M)) rfl ?_
          refine am_bNE (b) (0) (s1 := (63, [.ref 17, .int (nI i), .int (nI b), .int (nI j), .int ((-nI 9)), .int ((-nI 9))], [], M)) (s2 := (61, [.ref 17, .int (nI i), .int (nI b), .int (nI j), .int ((-nI 9)), .int ((-nI 9))], [], M)) rfl (by omega) (by omega) (fun c8 => ?_) (fun c8 => ?_)
          · refine am_goQ 10 (s1 := (75, [.ref 17, .int (nI i), .int (nI b), .int (nI j), .int ((-nI 9)), .int ((-nI 9))], [.int ((((nI 2 * nI i) + nI 1) - nI b)), .ref 20, .int (nI j)], M)) (s2 := (75, [.ref 17, .int (nI i), .int (nI b), .int (nI j), .int ((-nI 9)), .int ((-nI 9))], [.int (nI (((2 * i) + 1) - b)), .ref 20, .int (nI j)], M)) rfl (by simp only [pk_mul, nI_add, pk_sub (a := ((2 * i) + 1)) (b := b) (by omega)]) ?_
            refine am_goL2 (pc := 76) (ls := [.ref 17, .int (nI i), .int (nI b), .int (nI j), .int ((-nI 9)), .int ((-nI 9))]) (r := [.int (nI j)]) (M := M) (a := 20) (n := 8) ((((2 * i) + 1) - b)) (nI (h (((2 * i) + 1) - b))) rfl rfl (by omega) (by decide) (hH _ (by omega)) ?_
            refine am_goX (v := nI (sp_ds j (h (((2 * i) + 1) - b)))) (M2 := M) (s2 := (79, [.ref 17, .int (nI i), .int (nI b), .int (nI j), .int ((-nI 9)), .int ((-nI 9))], [], M)) rfl (t_apart (x := j) (y := (h (((2 * i) + 1) - b))) (by omega) (by omega)) ?_
            refine am_goR 3 (s2 := (84, [.ref 17, .int (nI i), .int (nI b), .int (nI j), .int ((-nI 9)), .int ((-nI 9))], [.int (nI i), .ref 19, .int (nI (sp_ds j (h (((2 * i) + 1) - b))))], M)) rfl ?_
            refine am_goL2 (pc := 85) (ls := [.ref 17, .int (nI i), .int (nI b), .int (nI j), .int ((-nI 9)), .int ((-nI 9))]) (r := [.int (nI (sp_ds j (h (((2 * i) + 1) - b))))]) (M := M) (a := 19) (n := 4) (i) (nI (k i)) rfl rfl (by omega) (by decide) (hK _ (by omega)) ?_
            refine am_goX (v := nI (sp_rc (k i))) (M2 := M) (s2 := (88, [.ref 17, .int (nI i), .int (nI b), .int (nI j), .int ((-nI 9)), .int ((-nI 9))], [.int (nI (sp_ds j (h (((2 * i) + 1) - b))))], M)) rfl (t_reachOf (x := (k i)) (by omega)) ?_
            refine am_bLT ((sp_rc (k i))) ((sp_ds j (h (((2 * i) + 1) - b)))) (s1 := (95, [.ref 17, .int (nI i), .int (nI b), .int (nI j), .int ((-nI 9)), .int ((-nI 9))], [], M)) (s2 := (91, [.ref 17, .int (nI i), .int (nI b), .int (nI j), .int ((-nI 9)), .int ((-nI 9))], [], M)) rfl (by omega) (by omega) (fun c9 => ?_) (fun c9 => ?_)
            · refine am_goR 1 (s2 := (96, [.ref 17, .int (nI i), .int (nI b), .int (nI j), .int ((-nI 9)), .int ((-nI 9))], [.int (nI 0)], M)) rfl ?_
              exact am_endz false _ rfl (by first | (rw [sp_cn_big oF (by omega)]; done) | (rw [sp_cn_none (by assumption)]; generalize sp_rc (k i) = R at *; simp [*]; done) | (rw [sp_cn_some oD (by assumption)]; generalize sp_rc (k i) = R at *; simp [*]; done) | (rw [sp_cn_none (by assumption)]; generalize sp_rc (k i) = R at *; simp [*] <;> omega) | (rw [sp_cn_some oD (by assumption)]; generalize sp_rc (k i) = R at *; simp [*] <;> omega)) (rfl)
            · refine am_goR 2 (s2 := (96, [.ref 17, .int (nI i), .int (nI b), .int (nI j), .int ((-nI 9)), .int ((-nI 9))], [.int (nI 1)], M)) rfl ?_
              exact am_endz true _ rfl (by first | (rw [sp_cn_big oF (by omega)]; done) | (rw [sp_cn_none (by assumption)]; generalize sp_rc (k i) = R at *; simp [*]; done) | (rw [sp_cn_some oD (by assumption)]; generalize sp_rc (k i) = R at *; simp [*]; done) | (rw [sp_cn_none (by assumption)]; generalize sp_rc (k i) = R at *; simp [*] <;> omega) | (rw [sp_cn_some oD (by assumption)]; generalize sp_rc (k i) = R at *; simp [*] <;> omega)) (rfl)
          · refine am_goR 1 (s2 := (62, [.ref 17, .int (nI i), .int (nI b), .int (nI j), .int ((-nI 9)), .int ((-nI 9))], [.int (nI 0)], M)) rfl ?_
            exact am_endz false _ rfl (by first | (rw [sp_cn_big oF (by omega)]; done) | (rw [sp_cn_none (by assumption)]; generalize sp_rc (k i) = R at *; simp [*]; done) | (rw [sp_cn_some oD (by assumption)]; generalize sp_rc (k i) = R at *; simp [*]; done) | (rw [sp_cn_none (by assumption)]; generalize sp_rc (k i) = R at *; simp [*] <;> omega) | (rw [sp_cn_some oD (by assumption)]; generalize sp_rc (k i) = R at *; simp [*] <;> omega)) (rfl)
    · refine am_goX (v := nI q3) (M2 := M) (s2 := (12, [.ref 17, .int (nI i), .int (nI b), .int (nI j), .int ((-nI 9)), .null], [], M)) rfl (t_whoOnS hS.2.1 hO.1 hS.2.2.2.2.2.2 (fun q => by have := hO.2.2.2.2.2 q; omega) (j := j) (by omega) hw4) ?_
      have hq3 := (sp_wo_some.mp hw4).1
      refine am_goR 3 (s2 := (19, [.ref 17, .int (nI i), .int (nI b), .int (nI j), .int ((-nI 9)), .int (nI q3)], [.int (nI j)], M)) rfl ?_
      refine am_goX (v := nI 1) (M2 := M) (s2 := (22, [.ref 17, .int (nI i), .int (nI b), .int (nI j), .int ((-nI 9)), .int (nI q3)], [], M)) rfl (t_isJoint1 (j := j) (by omega)) ?_
      refine am_goR 3 (s2 := (27, [.ref 17, .int (nI i), .int (nI b), .int (nI j), .int ((-nI 9)), .int (nI q3)], [.int (nI j), .ref 17], M)) rfl ?_
      refine am_goX (v := am_b (f.testBit j)) (M2 := M) (s2 := (30, [.ref 17, .int (nI i), .int (nI b), .int (nI j), .int ((-nI 9)), .int (nI q3)], [], M)) rfl (t_isFixed hS hO (j := j) (by omega)) ?_
      refine am_bB0 (f.testBit j) (s1 := (61, [.ref 17, .int (nI i), .int (nI b), .int (nI j), .int ((-nI 9)), .int (nI q3)], [], M)) (s2 := (33, [.ref 17, .int (nI i), .int (nI b), .int (nI j), .int ((-nI 9)), .int (nI q3)], [], M)) rfl (fun c10 => ?_) (fun c10 => ?_)
      · refine am_goR 1 (s2 := (62, [.ref 17, .int (nI i), .int (nI b), .int (nI j), .int ((-nI 9)), .int (nI q3)], [.int (nI 0)], M)) rfl ?_
        exact am_endz false _ rfl (by first | (rw [sp_cn_big oF (by omega)]; done) | (rw [sp_cn_none (by assumption)]; generalize sp_rc (k i) = R at *; simp [*]; done) | (rw [sp_cn_some oD (by assumption)]; generalize sp_rc (k i) = R at *; simp [*]; done) | (rw [sp_cn_none (by assumption)]; generalize sp_rc (k i) = R at *; simp [*] <;> omega) | (rw [sp_cn_some oD (by assumption)]; generalize sp_rc (k i) = R at *; simp [*] <;> omega)) (rfl)
      · refine am_goR 1 (s2 := (35, [.ref 17, .int (nI i), .int (nI b), .int (nI j), .int ((-nI 9)), .int (nI q3)], [.int (nI q3)], M)) rfl ?_
        refine am_bLT (q3) (0) (s1 := (47, [.ref 17, .int (nI i), .int (nI b), .int (nI j), .int ((-nI 9)), .int (nI q3)], [], M)) (s2 := (38, [.ref 17, .int (nI i), .int (nI b), .int (nI j), .int ((-nI 9)), .int (nI q3)], [], M)) rfl (by omega) (by omega) (fun c11 => absurd c11 (by omega)) (fun c11 => ?_)
        refine am_goQ 4 (s1 := (44, [.ref 17, .int (nI i), .int (nI b), .int (nI j), .int ((-nI 9)), .int (nI q3)], [.int ((-nI 9)), .int ((nI q3 / nI 2))], M)) (s2 := (44, [.ref 17, .int (nI i), .int (nI b), .int (nI j), .int ((-nI 9)), .int (nI q3)], [.int ((-nI 9)), .int (nI (q3 / 2))], M)) rfl (by simp only [pk_div (a := q3) (d := 2) (by omega) (by omega) (by omega)]) ?_
        refine am_bTn (s1 := (61, [.ref 17, .int (nI i), .int (nI b), .int (nI j), .int ((-nI 9)), .int (nI q3)], [], M)) (s2 := (47, [.ref 17, .int (nI i), .int (nI b), .int (nI j), .int ((-nI 9)), .int (nI q3)], [], M)) rfl (am_nm_ne (x := (q3 / 2)) (m := 9) (by omega) (by decide) (by decide)) ?_
        refine am_goR 1 (s2 := (62, [.ref 17, .int (nI i), .int (nI b), .int (nI j), .int ((-nI 9)), .int (nI q3)], [.int (nI 0)], M)) rfl ?_
        exact am_endz false _ rfl (by first | (rw [sp_cn_big oF (by omega)]; done) | (rw [sp_cn_none (by assumption)]; generalize sp_rc (k i) = R at *; simp [*]; done) | (rw [sp_cn_some oD (by assumption)]; generalize sp_rc (k i) = R at *; simp [*]; done) | (rw [sp_cn_none (by assumption)]; generalize sp_rc (k i) = R at *; simp [*] <;> omega) | (rw [sp_cn_some oD (by assumption)]; generalize sp_rc (k i) = R at *; simp [*] <;> omega)) (rfl)

set_option maxHeartbeats 4000000 in
theorem t_canStepw {M : am_Mem} {a f hr hs lt : Nat} {k h : Nat → Nat} (hS : sp_M M a f hr hs lt k h) (hO : sp_ok a f hr lt k h) (oD : ∀ p q, p < 2 * a → q < 2 * a → h p = h q → p = q) {i : Nat} (hi : i < a) {b j : Nat} (hb : b < 2) (hj : j < 1000) {w : Nat} (hw : w < 4) : am_go 116 (am_ent 116 [.ref 17, .int (nI i), .int (nI b), .int (nI j), .int (nI w)] M) (am_is (am_b (sp_cn a f k h i b w j)) M) := by
  obtain ⟨hF, hA, hHr, hHs, hLt, hK, hH⟩ := id hS
  obtain ⟨oA, oF, oHr, oLt, oK, oH⟩ := id hO
  have oKi := oK i
  have oR := sp_rc_lt (k i)
  have oHi := oH (2 * i + 1 - b)
  have hds : sp_ds j (h (2 * i + 1 - b)) < 2000 := by unfold sp_ds; omega
  refine am_goR 1 (s2 := (1, [.ref 17, .int (nI i), .int (nI b), .int (nI j), .int (nI w), .null], [.int (nI j)], M)) rfl ?_
  refine am_goX (v := am_b (decide (j < 12))) (M2 := M) (s2 := (4, [.ref 17, .int (nI i), .int (nI b), .int (nI j), .int (nI w), .null], [], M)) rfl (t_isJointN (j := j) (by omega)) ?_
  refine am_bB0 (decide (j < 12)) (s1 := (15, [.ref 17, .int (nI i), .int (nI b), .int (nI j), .int (nI w), .null], [], M)) (s2 := (7, [.ref 17, .int (nI i), .int (nI b), .int (nI j), .int (nI w), .null], [], M)) rfl (fun c1 => ?_) (fun c1 => ?_)
  · have c1d := of_decide_eq_false c1
    refine am_goR 3 (s2 := (19, [.ref 17, .int (nI i), .int (nI b), .int (nI j), .int (nI w), .int (nI 0)], [.int (nI j)], M)) rfl ?_
    refine am_goX (v := am_b (decide (j < 12))) (M2 := M) (s2 := (22, [.ref 17, .int (nI i), .int (nI b), .int (nI j), .int (nI w), .int (nI 0)], [], M)) rfl (t_isJointN (j := j) (by omega)) ?_
    refine am_bB0 (decide (j < 12)) (s1 := (61, [.ref 17, .int (nI i), .int (nI b), .int (nI j), .int (nI w), .int (nI 0)], [], M)) (s2 := (25, [.ref 17, .int (nI i), .int (nI b), .int (nI j), .int (nI w), .int (nI 0)], [], M)) rfl (fun c2 => ?_) (fun c2 => absurd c2 (by simp [*]))
    have c2d := of_decide_eq_false c2
    refine am_goR 1 (s2 := (62, [.ref 17, .int (nI i), .int (nI b), .int (nI j), .int (nI w), .int (nI 0)], [.int (nI 0)], M)) rfl ?_
    exact am_endz false _ rfl (by first | (rw [sp_cn_big oF (by omega)]; done) | (rw [sp_cn_none (by assumption)]; generalize sp_rc (k i) = R at *; simp [*]; done) | (rw [sp_cn_some oD (by assumption)]; generalize sp_rc (k i) = R at *; simp [*]; done) | (rw [sp_cn_none (by assumption)]; generalize sp_rc (k i) = R at *; simp [*] <;> omega) | (rw [sp_cn_some oD (by assumption)]; generalize sp_rc (k i) = R at *; simp [*] <;> omega)) (rfl)
  · have c1d := of_decide_eq_true c1
    refine am_goR 2 (s2 := (9, [.ref 17, .int (nI i), .int (nI b), .int (nI j), .int (nI w), .null], [.int (nI j), .ref 17], M)) rfl ?_
    rcases hw4 : sp_wo h j (2 * a) with _ | q3
    · refine am_goX (v := (-nI 9)) (M2 := M) (s2 := (12, [.ref 17, .int (nI i), .int (nI b), .int (nI j), .int (nI w), .null], [], M)) rfl (t_whoOnN hS.2.1 hO.1 hS.2.2.2.2.2.2 (fun q => by have := hO.2.2.2.2.2 q; omega) (j := j) (by omega) hw4) ?_
      refine am_goR 3 (s2 := (19, [.ref 17, .int (nI i), .int (nI b), .int (nI j), .int (nI w), .int ((-nI 9))], [.int (nI j)], M)) rfl ?_
      refine am_goX (v := nI 1) (M2 := M) (s2 := (22, [.ref 17, .int (nI i), .int (nI b), .int (nI j), .int (nI w), .int ((-nI 9))], [], M)) rfl (t_isJoint1 (j := j) (by omega)) ?_
      refine am_goR 3 (s2 := (27, [.ref 17, .int (nI i), .int (nI b), .int (nI j), .int (nI w), .int ((-nI 9))], [.int (nI j), .ref 17], M)) rfl ?_
      refine am_goX (v := am_b (f.testBit j)) (M2 := M) (s2 := (30, [.ref 17, .int (nI i), .int (nI b), .int (nI j), .int (nI w), .int ((-nI 9))], [], M)) rfl (t_isFixed hS hO (j := j) (by omega)) ?_
      refine am_bB0 (f.testBit j) (s1 := (61, [.ref 17, .int (nI i), .int (nI b), .int (nI j), .int (nI w), .int ((-nI 9))], [], M)) (s2 := (33, [.ref 17, .int (nI i), .int (nI b), .int (nI j), .int (nI w), .int ((-nI 9))], [], M)) rfl (fun c5 => ?_) (fun c5 => ?_)
      · refine am_goR 1 (s2 := (62, [.ref 17, .int (nI i), .int (nI b), .int (nI j), .int (nI w), .int ((-nI 9))], [.int (nI 0)], M)) rfl ?_
        exact am_endz false _ rfl (by first | (rw [sp_cn_big oF (by omega)]; done) | (rw [sp_cn_none (by assumption)]; generalize sp_rc (k i) = R at *; simp [*]; done) | (rw [sp_cn_some oD (by assumption)]; generalize sp_rc (k i) = R at *; simp [*]; done) | (rw [sp_cn_none (by assumption)]; generalize sp_rc (k i) = R at *; simp [*] <;> omega) | (rw [sp_cn_some oD (by assumption)]; generalize sp_rc (k i) = R at *; simp [*] <;> omega)) (rfl)
      · refine am_goR 5 (s2 := (52, [.ref 17, .int (nI i), .int (nI b), .int (nI j), .int (nI w), .int ((-nI 9))], [.int (nI i), .ref 19], M)) rfl ?_
        refine am_goL2 (pc := 53) (ls := [.ref 17, .int (nI i), .int (nI b), .int (nI j), .int (nI w), .int ((-nI 9))]) (r := []) (M := M) (a := 19) (n := 4) (i) (nI (k i)) rfl rfl (by omega) (by decide) (hK _ (by omega)) ?_
        refine am_goR 1 (s2 := (54, [.ref 17, .int (nI i), .int (nI b), .int (nI j), .int (nI w), .int ((-nI 9))], [.int (nI 4), .int (nI (k i))], M)) rfl ?_
        refine am_bNE ((k i)) (4) (s1 := (63, [.ref 17, .int (nI i), .int (nI b), .int (nI j), .int (nI w), .int ((-nI 9))], [], M)) (s2 := (57, [.ref 17, .int (nI i), .int (nI b), .int (nI j), .int (nI w), .int ((-nI 9))], [], M)) rfl (by omega) (by omega) (fun c6 => ?_) (fun c6 => ?_)
        · refine am_goQ 10 (s1 := (75, [.ref 17, .int (nI i), .int (nI b), .int (nI j), .int (nI w), .int ((-nI 9))], [.int ((((nI 2 * nI i) + nI 1) - nI b)), .ref 20, .int (nI j)], M)) (s2 := (75, [.ref 17, .int (nI i), .int (nI b), .int (nI j), .int (nI w), .int ((-nI 9))], [.int (nI (((2 * i) + 1) - b)), .ref 20, .int (nI j)], M)) rfl (by simp only [pk_mul, nI_add, pk_sub (a := ((2 * i) + 1)) (b := b) (by omega)]) ?_
          refine am_goL2 (pc := 76) (ls := [.ref 17, .int (nI i), .int (nI b), .int (nI j), .int (nI w), .int ((-nI 9))]) (r := [.int (nI j)]) (M := M) (a := 20) (n := 8) ((((2 * i) + 1) - b)) (nI (h (((2 * i) + 1) - b))) rfl rfl (by omega) (by decide) (hH _ (by omega)) ?_
          refine am_goX (v := nI (sp_ds j (h (((2 * i) + 1) - b)))) (M2 := M) (s2 := (79, [.ref 17, .int (nI i), .int (nI b), .int (nI j), .int (nI w), .int ((-nI 9))], [], M)) rfl (t_apart (x := j) (y := (h (((2 * i) + 1) - b))) (by omega) (by omega)) ?_
          refine am_goR 3 (s2 := (84, [.ref 17, .int (nI i), .int (nI b), .int (nI j), .int (nI w), .int ((-nI 9))], [.int (nI i), .ref 19, .int (nI (sp_ds j (h (((2 * i) + 1) - b))))], M)) rfl ?_
          refine am_goL2 (pc := 85) (ls := [.ref 17, .int (nI i), .int (nI b), .int (nI j), .int (nI w), .int ((-nI 9))]) (r := [.int (nI (sp_ds j (h (((2 * i) + 1) - b))))]) (M := M) (a := 19) (n := 4) (i) (nI (k i)) rfl rfl (by omega) (by decide) (hK _ (by omega)) ?_
          refine am_goX (v := nI (sp_rc (k i))) (M2 := M) (s2 := (88, [.ref 17, .int (nI i), .int (nI b), .int (nI j), .int (nI w), .int ((-nI 9))], [.int (nI (sp_ds j (h (((2 * i) + 1) - b))))], M)) rfl (t_reachOf (x := (k i)) (by omega)) ?_
          refine am_bLT ((sp_rc (k i))) ((sp_ds j (h (((2 * i) + 1) - b)))) (s1 := (95, [.ref 17, .int (nI i), .int (nI b), .int (nI j), .int (nI w), .int ((-nI 9))], [], M)) (s2 := (91, [.ref 17, .int (nI i), .int (nI b), .int (nI j), .int (nI w), .int ((-nI 9))], [], M)) rfl (by omega) (by omega) (fun c7 => ?_) (fun c7 => ?_)
          · refine am_goR 1 (s2 := (96, [.ref 17, .int (nI i), .int (nI b), .int (nI j), .int (nI w), .int ((-nI 9))], [.int (nI 0)], M)) rfl ?_
            exact am_endz false _ rfl (by first | (rw [sp_cn_big oF (by omega)]; done) | (rw [sp_cn_none (by assumption)]; generalize sp_rc (k i) = R at *; simp [*]; done) | (rw [sp_cn_some oD (by assumption)]; generalize sp_rc (k i) = R at *; simp [*]; done) | (rw [sp_cn_none (by assumption)]; generalize sp_rc (k i) = R at *; simp [*] <;> omega) | (rw [sp_cn_some oD (by assumption)]; generalize sp_rc (k i) = R at *; simp [*] <;> omega)) (rfl)
          · refine am_goR 2 (s2 := (96, [.ref 17, .int (nI i), .int (nI b), .int (nI j), .int (nI w), .int ((-nI 9))], [.int (nI 1)], M)) rfl ?_
            exact am_endz true _ rfl (by first | (rw [sp_cn_big oF (by omega)]; done) | (rw [sp_cn_none (by assumption)]; generalize sp_rc (k i) = R at *; simp [*]; done) | (rw [sp_cn_some oD (by assumption)]; generalize sp_rc (k i) = R at *; simp [*]; done) | (rw [sp_cn_none (by assumption)]; generalize sp_rc (k i) = R at *; simp [*] <;> omega) | (rw [sp_cn_some oD (by assumption)]; generalize sp_rc (k i) = R at *; simp [*] <;> omega)) (rfl)
        · refine am_goR 1 (s2 := (58, [.ref 17, .int (nI i), .int (nI b), .int (nI j), .int (nI w), .int ((-nI 9))], [.int (nI b)], M)) rfl ?_
          refine am_bNE (b) (0) (s1 := (63, [.ref 17, .int (nI i), .int (nI b), .int (nI j), .int (nI w), .int ((-nI 9))], [], M)) (s2 := (61, [.ref 17, .int (nI i), .int (nI b), .int (nI j), .int (nI w), .int ((-nI 9))], [], M)) rfl (by omega) (by omega) (fun c8 => ?_) (fun c8 => ?_)
          · refine am_goQ 10 (s1 := (75, [.ref 17, .int (nI i), .int (nI b), .int (nI j), .int (nI w), .int ((-nI 9))], [.int ((((nI 2 * nI i) + nI 1) - nI b)), .ref 20, .int (nI j)], M)) (s2 := (75, [.ref 17, .int (nI i), .int (nI b), .int (nI j), .int (nI w), .int ((-nI 9))], [.int (nI (((2 * i) + 1) - b)), .ref 20, .int (nI j)], M)) rfl (by simp only [pk_mul, nI_add, pk_sub (a := ((2 * i) + 1)) (b := b) (by omega)]) ?_
            refine am_goL2 (pc := 76) (ls := [.ref 17, .int (nI i), .int (nI b), .int (nI j), .int (nI w), .int ((-nI 9))]) (r := [.int (nI j)]) (M := M) (a := 20) (n := 8) ((((2 * i) + 1) - b)) (nI (h (((2 * i) + 1) - b))) rfl rfl (by omega) (by decide) (hH _ (by omega)) ?_
            refine am_goX (v := nI (sp_ds j (h (((2 * i) + 1) - b)))) (M2 := M) (s2 := (79, [.ref 17, .int (nI i), .int (nI b), .int (nI j), .int (nI w), .int ((-nI 9))], [], M)) rfl (t_apart (x := j) (y := (h (((2 * i) + 1) - b))) (by omega) (by omega)) ?_
            refine am_goR 3 (s2 := (84, [.ref 17, .int (nI i), .int (nI b), .int (nI j), .int (nI w), .int ((-nI 9))], [.int (nI i), .ref 19, .int (nI (sp_ds j (h (((2 * i) + 1) - b))))], M)) rfl ?_
            refine am_goL2 (pc := 85) (ls := [.ref 17, .int (nI i), .int (nI b), .int (nI j), .int (nI w), .int ((-nI 9))]) (r := [.int (nI (sp_ds j (h (((2 * i) + 1) - b))))]) (M := M) (a := 19) (n := 4) (i) (nI (k i)) rfl rfl (by omega) (by decide) (hK _ (by omega)) ?_
            refine am_goX (v := nI (sp_rc (k i))) (M2 := M) (s2 := (88, [.ref 17, .int (nI i), .int (nI b), .int (nI j), .int (nI w), .int ((-nI 9))], [.int (nI (sp_ds j (h (((2 * i) + 1) - b))))], M)) rfl (t_reachOf (x := (k i)) (by omega)) ?_
            refine am_bLT ((sp_rc (k i))) ((sp_ds j (h (((2 * i) + 1) - b)))) (s1 := (95, [.ref 17, .int (nI i), .int (nI b), .int (nI j), .int (nI w), .int ((-nI 9))], [], M)) (s2 := (91, [.ref 17, .int (nI i), .int (nI b), .int (nI j), .int (nI w), .int ((-nI 9))], [], M)) rfl (by omega) (by omega) (fun c9 => ?_) (fun c9 => ?_)
            · refine am_goR 1 (s2 := (96, [.ref 17, .int (nI i), .int (nI b), .int (nI j), .int (nI w), .int ((-nI 9))], [.int (nI 0)], M)) rfl ?_
              exact am_endz false _ rfl (by first | (rw [sp_cn_big oF (by omega)]; done) | (rw [sp_cn_none (by assumption)]; generalize sp_rc (k i) = R at *; simp [*]; done) | (rw [sp_cn_some oD (by assumption)]; generalize sp_rc (k i) = R at *; simp [*]; done) | (rw [sp_cn_none (by assumption)]; generalize sp_rc (k i) = R at *; simp [*] <;> omega) | (rw [sp_cn_some oD (by assumption)]; generalize sp_rc (k i) = R at *; simp [*] <;> omega)) (rfl)
            · refine am_goR 2 (s2 := (96, [.ref 17, .int (nI i), .int (nI b), .int (nI j), .int (nI w), .int ((-nI 9))], [.int (nI 1)], M)) rfl ?_
              exact am_endz true _ rfl (by first | (rw [sp_cn_big oF (by omega)]; done) | (rw [sp_cn_none (by assumption)]; generalize sp_rc (k i) = R at *; simp [*]; done) | (rw [sp_cn_some oD (by assumption)]; generalize sp_rc (k i) = R at *; simp [*]; done) | (rw [sp_cn_none (by assumption)]; generalize sp_rc (k i) = R at *; simp [*] <;> omega) | (rw [sp_cn_some oD (by assumption)]; generalize sp_rc (k i) = R at *; simp [*] <;> omega)) (rfl)
          · refine am_goR 1 (s2 := (62, [.ref 17, .int (nI i), .int (nI b), .int (nI j), .int (nI w), .int ((-nI 9))], [.int (nI 0)], M)) rfl ?_
            exact am_endz false _ rfl (by first | (rw [sp_cn_big oF (by omega)]; done) | (rw [sp_cn_none (by assumption)]; generalize sp_rc (k i) = R at *; simp [*]; done) | (rw [sp_cn_some oD (by assumption)]; generalize sp_rc (k i) = R at *; simp [*]; done) | (rw [sp_cn_none (by assumption)]; generalize sp_rc (k i) = R at *; simp [*] <;> omega) | (rw [sp_cn_some oD (by assumption)]; generalize sp_rc (k i) = R at *; simp [*] <;> omega)) (rfl)
    · refine am_goX (v := nI q3) (M2 := M) (s2 := (12, [.ref 17, .int (nI i), .int (nI b), .int (nI j), .int (nI w), .null], [], M)) rfl (t_whoOnS hS.2.1 hO.1 hS.2.2.2.2.2.2 (fun q => by have := hO.2.2.2.2.2 q; omega) (j := j) (by omega) hw4) ?_
      have hq3 := (sp_wo_some.mp hw4).1
      refine am_goR 3 (s2 := (19, [.ref 17, .int (nI i), .int (nI b), .int (nI j), .int (nI w), .int (nI q3)], [.int (nI j)], M)) rfl ?_
      refine am_goX (v := nI 1) (M2 := M) (s2 := (22, [.ref 17, .int (nI i), .int (nI b), .int (nI j), .int (nI w), .int (nI q3)], [], M)) rfl (t_isJoint1 (j := j) (by omega)) ?_
      refine am_goR 3 (s2 := (27, [.ref 17, .int (nI i), .int (nI b), .int (nI j), .int (nI w), .int (nI q3)], [.int (nI j), .ref 17], M)) rfl ?_
      refine am_goX (v := am_b (f.testBit j)) (M2 := M) (s2 := (30, [.ref 17, .int (nI i), .int (nI b), .int (nI j), .int (nI w), .int (nI q3)], [], M)) rfl (t_isFixed hS hO (j := j) (by omega)) ?_
      refine am_bB0 (f.testBit j) (s1 := (61, [.ref 17, .int (nI i), .int (nI b), .int (nI j), .int (nI w), .int (nI q3)], [], M)) (s2 := (33, [.ref 17, .int (nI i), .int (nI b), .int (nI j), .int (nI w), .int (nI q3)], [], M)) rfl (fun c10 => ?_) (fun c10 => ?_)
      · refine am_goR 1 (s2 := (62, [.ref 17, .int (nI i), .int (nI b), .int (nI j), .int (nI w), .int (nI q3)], [.int (nI 0)], M)) rfl ?_
        exact am_endz false _ rfl (by first | (rw [sp_cn_big oF (by omega)]; done) | (rw [sp_cn_none (by assumption)]; generalize sp_rc (k i) = R at *; simp [*]; done) | (rw [sp_cn_some oD (by assumption)]; generalize sp_rc (k i) = R at *; simp [*]; done) | (rw [sp_cn_none (by assumption)]; generalize sp_rc (k i) = R at *; simp [*] <;> omega) | (rw [sp_cn_some oD (by assumption)]; generalize sp_rc (k i) = R at *; simp [*] <;> omega)) (rfl)
      · refine am_goR 1 (s2 := (35, [.ref 17, .int (nI i), .int (nI b), .int (nI j), .int (nI w), .int (nI q3)], [.int (nI q3)], M)) rfl ?_
        refine am_bLT (q3) (0) (s1 := (47, [.ref 17, .int (nI i), .int (nI b), .int (nI j), .int (nI w), .int (nI q3)], [], M)) (s2 := (38, [.ref 17, .int (nI i), .int (nI b), .int (nI j), .int (nI w), .int (nI q3)], [], M)) rfl (by omega) (by omega) (fun c11 => absurd c11 (by omega)) (fun c11 => ?_)
        refine am_goQ 4 (s1 := (44, [.ref 17, .int (nI i), .int (nI b), .int (nI j), .int (nI w), .int (nI q3)], [.int (nI w), .int ((nI q3 / nI 2))], M)) (s2 := (44, [.ref 17, .int (nI i), .int (nI b), .int (nI j), .int (nI w), .int (nI q3)], [.int (nI w), .int (nI (q3 / 2))], M)) rfl (by simp only [pk_div (a := q3) (d := 2) (by omega) (by omega) (by omega)]) ?_
        refine am_bNE ((q3 / 2)) (w) (s1 := (61, [.ref 17, .int (nI i), .int (nI b), .int (nI j), .int (nI w), .int (nI q3)], [], M)) (s2 := (47, [.ref 17, .int (nI i), .int (nI b), .int (nI j), .int (nI w), .int (nI q3)], [], M)) rfl (by omega) (by omega) (fun c12 => ?_) (fun c12 => ?_)
        · refine am_goR 1 (s2 := (62, [.ref 17, .int (nI i), .int (nI b), .int (nI j), .int (nI w), .int (nI q3)], [.int (nI 0)], M)) rfl ?_
          exact am_endz false _ rfl (by first | (rw [sp_cn_big oF (by omega)]; done) | (rw [sp_cn_none (by assumption)]; generalize sp_rc (k i) = R at *; simp [*]; done) | (rw [sp_cn_some oD (by assumption)]; generalize sp_rc (k i) = R at *; simp [*]; done) | (rw [sp_cn_none (by assumption)]; generalize sp_rc (k i) = R at *; simp [*] <;> omega) | (rw [sp_cn_some oD (by assumption)]; generalize sp_rc (k i) = R at *; simp [*] <;> omega)) (rfl)
        · refine am_goR 3 (s2 := (52, [.ref 17, .int (nI i), .int (nI b), .int (nI j), .int (nI w), .int (nI q3)], [.int (nI i), .ref 19], M)) rfl ?_
          refine am_goL2 (pc := 53) (ls := [.ref 17, .int (nI i), .int (nI b), .int (nI j), .int (nI w), .int (nI q3)]) (r := []) (M := M) (a := 19) (n := 4) (i) (nI (k i)) rfl rfl (by omega) (by decide) (hK _ (by omega)) ?_
          refine am_goR 1 (s2 := (54, [.ref 17, .int (nI i), .int (nI b), .int (nI j), .int (nI w), .int (nI q3)], [.int (nI 4), .int (nI (k i))], M)) rfl ?_
          refine am_bNE ((k i)) (4) (s1 := (63, [.ref 17, .int (nI i), .int (nI b), .int (nI j), .int (nI w), .int (nI q3)], [], M)) (s2 := (57, [.ref 17, .int (nI i), .int (nI b), .int (nI j), .int (nI w), .int (nI q3)], [], M)) rfl (by omega) (by omega) (fun c13 => ?_) (fun c13 => ?_)
          · refine am_goQ 10 (s1 := (75, [.ref 17, .int (nI i), .int (nI b), .int (nI j), .int (nI w), .int (nI q3)], [.int ((((nI 2 * nI i) + nI 1) - nI b)), .ref 20, .int (nI j)], M)) (s2 := (75, [.ref 17, .int (nI i), .int (nI b), .int (nI j), .int (nI w), .int (nI q3)], [.int (nI (((2 * i) + 1) - b)), .ref 20, .int (nI j)], M)) rfl (by simp only [pk_mul, nI_add, pk_sub (a := ((2 * i) + 1)) (b := b) (by omega)]) ?_
            refine am_goL2 (pc := 76) (ls := [.ref 17, .int (nI i), .int (nI b), .int (nI j), .int (nI w), .int (nI q3)]) (r := [.int (nI j)]) (M := M) (a := 20) (n := 8) ((((2 * i) + 1) - b)) (nI (h (((2 * i) + 1) - b))) rfl rfl (by omega) (by decide) (hH _ (by omega)) ?_
            refine am_goX (v := nI (sp_ds j (h (((2 * i) + 1) - b)))) (M2 := M) (s2 := (79, [.ref 17, .int (nI i), .int (nI b), .int (nI j), .int (nI w), .int (nI q3)], [], M)) rfl (t_apart (x := j) (y := (h (((2 * i) + 1) - b))) (by omega) (by omega)) ?_
            refine am_goR 3 (s2 := (84, [.ref 17, .int (nI i), .int (nI b), .int (nI j), .int (nI w), .int (nI q3)], [.int (nI i), .ref 19, .int (nI (sp_ds j (h (((2 * i) + 1) - b))))], M)) rfl ?_
            refine am_goL2 (pc := 85) (ls := [.ref 17, .int (nI i), .int (nI b), .int (nI j), .int (nI w), .int (nI q3)]) (r := [.int (nI (sp_ds j (h (((2 * i) + 1) - b))))]) (M := M) (a := 19) (n := 4) (i) (nI (k i)) rfl rfl (by omega) (by decide) (hK _ (by omega)) ?_
            refine am_goX (v := nI (sp_rc (k i))) (M2 := M) (s2 := (88, [.ref 17, .int (nI i), .int (nI b), .int (nI j), .int (nI w), .int (nI q3)], [.int (nI (sp_ds j (h (((2 * i) + 1) - b))))], M)) rfl (t_reachOf (x := (k i)) (by omega)) ?_
            refine am_bLT ((sp_rc (k i))) ((sp_ds j (h (((2 * i) + 1) - b)))) (s1 := (95, [.ref 17, .int (nI i), .int (nI b), .int (nI j), .int (nI w), .int (nI q3)], [], M)) (s2 := (91, [.ref 17, .int (nI i), .int (nI b), .int (nI j), .int (nI w), .int (nI q3)], [], M)) rfl (by omega) (by omega) (fun c14 => ?_) (fun c14 => ?_)
            · refine am_goR 1 (s2 := (96, [.ref 17, .int (nI i), .int (nI b), .int (nI j), .int (nI w), .int (nI q3)], [.int (nI 0)], M)) rfl ?_
              exact am_endz false _ rfl (by first | (rw [sp_cn_big oF (by omega)]; done) | (rw [sp_cn_none (by assumption)]; generalize sp_rc (k i) = R at *; simp [*]; done) | (rw [sp_cn_some oD (by assumption)]; generalize sp_rc (k i) = R at *; simp [*]; done) | (rw [sp_cn_none (by assumption)]; generalize sp_rc (k i) = R at *; simp [*] <;> omega) | (rw [sp_cn_some oD (by assumption)]; generalize sp_rc (k i) = R at *; simp [*] <;> omega)) (rfl)
            · refine am_goR 2 (s2 := (96, [.ref 17, .int (nI i), .int (nI b), .int (nI j), .int (nI w), .int (nI q3)], [.int (nI 1)], M)) rfl ?_
              exact am_endz true _ rfl (by first | (rw [sp_cn_big oF (by omega)]; done) | (rw [sp_cn_none (by assumption)]; generalize sp_rc (k i) = R at *; simp [*]; done) | (rw [sp_cn_some oD (by assumption)]; generalize sp_rc (k i) = R at *; simp [*]; done) | (rw [sp_cn_none (by assumption)]; generalize sp_rc (k i) = R at *; simp [*] <;> omega) | (rw [sp_cn_some oD (by assumption)]; generalize sp_rc (k i) = R at *; simp [*] <;> omega)) (rfl)
          · refine am_goR 1 (s2 := (58, [.ref 17, .int (nI i), .int (nI b), .int (nI j), .int (nI w), .int (nI q3)], [.int (nI b)], M)) rfl ?_
            refine am_bNE (b) (0) (s1 := (63, [.ref 17, .int (nI i), .int (nI b), .int (nI j), .int (nI w), .int (nI q3)], [], M)) (s2 := (61, [.ref 17, .int (nI i), .int (nI b), .int (nI j), .int (nI w), .int (nI q3)], [], M)) rfl (by omega) (by omega) (fun c15 => ?_) (fun c15 => ?_)
            · refine am_goQ 10 (s1 := (75, [.ref 17, .int (nI i), .int (nI b), .int (nI j), .int (nI w), .int (nI q3)], [.int ((((nI 2 * nI i) + nI 1) - nI b)), .ref 20, .int (nI j)], M)) (s2 := (75, [.ref 17, .int (nI i), .int (nI b), .int (nI j), .int (nI w), .int (nI q3)], [.int (nI (((2 * i) + 1) - b)), .ref 20, .int (nI j)], M)) rfl (by simp only [pk_mul, nI_add, pk_sub (a := ((2 * i) + 1)) (b := b) (by omega)]) ?_
              refine am_goL2 (pc := 76) (ls := [.ref 17, .int (nI i), .int (nI b), .int (nI j), .int (nI w), .int (nI q3)]) (r := [.int (nI j)]) (M := M) (a := 20) (n := 8) ((((2 * i) + 1) - b)) (nI (h (((2 * i) + 1) - b))) rfl rfl (by omega) (by decide) (hH _ (by omega)) ?_
              refine am_goX (v := nI (sp_ds j (h (((2 * i) + 1) - b)))) (M2 := M) (s2 := (79, [.ref 17, .int (nI i), .int (nI b), .int (nI j), .int (nI w), .int (nI q3)], [], M)) rfl (t_apart (x := j) (y := (h (((2 * i) + 1) - b))) (by omega) (by omega)) ?_
              refine am_goR 3 (s2 := (84, [.ref 17, .int (nI i), .int (nI b), .int (nI j), .int (nI w), .int (nI q3)], [.int (nI i), .ref 19, .int (nI (sp_ds j (h (((2 * i) + 1) - b))))], M)) rfl ?_
              refine am_goL2 (pc := 85) (ls := [.ref 17, .int (nI i), .int (nI b), .int (nI j), .int (nI w), .int (nI q3)]) (r := [.int (nI (sp_ds j (h (((2 * i) + 1) - b))))]) (M := M) (a := 19) (n := 4) (i) (nI (k i)) rfl rfl (by omega) (by decide) (hK _ (by omega)) ?_
              refine am_goX (v := nI (sp_rc (k i))) (M2 := M) (s2 := (88, [.ref 17, .int (nI i), .int (nI b), .int (nI j), .int (nI w), .int (nI q3)], [.int (nI (sp_ds j (h (((2 * i) + 1) - b))))], M)) rfl (t_reachOf (x := (k i)) (by omega)) ?_
              refine am_bLT ((sp_rc (k i))) ((sp_ds j (h (((2 * i) + 1) - b)))) (s1 := (95, [.ref 17, .int (nI i), .int (nI b), .int (nI j), .int (nI w), .int (nI q3)], [], M)) (s2 := (91, [.ref 17, .int (nI i), .int (nI b), .int (nI j), .int (nI w), .int (nI q3)], [], M)) rfl (by omega) (by omega) (fun c16 => ?_) (fun c16 => ?_)
              · refine am_goR 1 (s2 := (96, [.ref 17, .int (nI i), .int (nI b), .int (nI j), .int (nI w), .int (nI q3)], [.int (nI 0)], M)) rfl ?_
                exact am_endz false _ rfl (by first | (rw [sp_cn_big oF (by omega)]; done) | (rw [sp_cn_none (by assumption)]; generalize sp_rc (k i) = R at *; simp [*]; done) | (rw [sp_cn_some oD (by assumption)]; generalize sp_rc (k i) = R at *; simp [*]; done) | (rw [sp_cn_none (by assumption)]; generalize sp_rc (k i) = R at *; simp [*] <;> omega) | (rw [sp_cn_some oD (by assumption)]; generalize sp_rc (k i) = R at *; simp [*] <;> omega)) (rfl)
              · refine am_goR 2 (s2 := (96, [.ref 17, .int (nI i), .int (nI b), .int (nI j), .int (nI w), .int (nI q3)], [.int (nI 1)], M)) rfl ?_
                exact am_endz true _ rfl (by first | (rw [sp_cn_big oF (by omega)]; done) | (rw [sp_cn_none (by assumption)]; generalize sp_rc (k i) = R at *; simp [*]; done) | (rw [sp_cn_some oD (by assumption)]; generalize sp_rc (k i) = R at *; simp [*]; done) | (rw [sp_cn_none (by assumption)]; generalize sp_rc (k i) = R at *; simp [*] <;> omega) | (rw [sp_cn_some oD (by assumption)]; generalize sp_rc (k i) = R at *; simp [*] <;> omega)) (rfl)
            · refine am_goR 1 (s2 := (62, [.ref 17, .int (nI i), .int (nI b), .int (nI j), .int (nI w), .int (nI q3)], [.int (nI 0)], M)) rfl ?_
              exact am_endz false _ rfl (by first | (rw [sp_cn_big oF (by omega)]; done) | (rw [sp_cn_none (by assumption)]; generalize sp_rc (k i) = R at *; simp [*]; done) | (rw [sp_cn_some oD (by assumption)]; generalize sp_rc (k i) = R at *; simp [*]; done) | (rw [sp_cn_none (by assumption)]; generalize sp_rc (k i) = R at *; simp [*] <;> omega) | (rw [sp_cn_some oD (by assumption)]; generalize sp_rc (k i) = R at *; simp [*] <;> omega)) (rfl)

set_option maxHeartbeats 4000000 in
theorem t_maySo {M : am_Mem} {a f hr hs lt : Nat} {k h : Nat → Nat} (hS : sp_M M a f hr hs lt k h) (hO : sp_ok a f hr lt k h) (oD : ∀ p q, p < 2 * a → q < 2 * a → h p = h q → p = q) {i : Nat} (hi : i < a) {b j : Nat} (hb : b < 2) (hj : j < 1000) : am_go 117 (am_ent 117 [.ref 17, .int (nI i), .int (nI b), .int (nI j)] M) (am_is (am_b (sp_wk lt (k i) hr && sp_cn a f k h i b 9 j)) M) := by
  obtain ⟨hF, hA, hHr, hHs, hLt, hK, hH⟩ := id hS
  obtain ⟨oA, oF, oHr, oLt, oK, oH⟩ := id hO
  have oKi := oK i
  refine am_goQ 4 (s1 := (6, [.ref 17, .int (nI i), .int (nI b), .int (nI j)], [.int ((M 17 5)), .int (nI i), .ref 17], M)) (s2 := (6, [.ref 17, .int (nI i), .int (nI b), .int (nI j)], [.int (nI hr), .int (nI i), .ref 17], M)) rfl (by simp only [hHr]) ?_
  refine am_goX (v := am_b (sp_wk lt (k i) hr)) (M2 := M) (s2 := (9, [.ref 17, .int (nI i), .int (nI b), .int (nI j)], [], M)) rfl (t_doesWork hS hO (i := i) (r := hr) (by omega) (by omega)) ?_
  refine am_bB0 (sp_wk lt (k i) hr) (s1 := (28, [.ref 17, .int (nI i), .int (nI b), .int (nI j)], [], M)) (s2 := (12, [.ref 17, .int (nI i), .int (nI b), .int (nI j)], [], M)) rfl (fun c1 => ?_) (fun c1 => ?_)
  · refine am_goR 1 (s2 := (29, [.ref 17, .int (nI i), .int (nI b), .int (nI j)], [.int (nI 0)], M)) rfl ?_
    exact am_endz false _ rfl (by first | (simp [*]; done) | (simp [*] <;> omega)) (rfl)
  · refine am_goR 5 (s2 := (18, [.ref 17, .int (nI i), .int (nI b), .int (nI j)], [.int ((-nI 9)), .int (nI j), .int (nI b), .int (nI i), .ref 17], M)) rfl ?_
    refine am_goX (v := am_b (sp_cn a f k h i b 9 j)) (M2 := M) (s2 := (21, [.ref 17, .int (nI i), .int (nI b), .int (nI j)], [], M)) rfl (t_canStepn hS hO oD (i := i) (b := b) (j := j) (by omega) (by omega) (by omega)) ?_
    refine am_bB0 (sp_cn a f k h i b 9 j) (s1 := (28, [.ref 17, .int (nI i), .int (nI b), .int (nI j)], [], M)) (s2 := (24, [.ref 17, .int (nI i), .int (nI b), .int (nI j)], [], M)) rfl (fun c2 => ?_) (fun c2 => ?_)
    · refine am_goR 1 (s2 := (29, [.ref 17, .int (nI i), .int (nI b), .int (nI j)], [.int (nI 0)], M)) rfl ?_
      exact am_endz false _ rfl (by first | (simp [*]; done) | (simp [*] <;> omega)) (rfl)
    · refine am_goR 2 (s2 := (29, [.ref 17, .int (nI i), .int (nI b), .int (nI j)], [.int (nI 1)], M)) rfl ?_
      exact am_endz true _ rfl (by first | (simp [*]; done) | (simp [*] <;> omega)) (rfl)

set_option maxHeartbeats 4000000 in
theorem t_goesHour {M : am_Mem} {hr hs : Nat} (hHr : M 17 5 = nI hr) (hHs : M 17 6 = nI hs) (oHr : hr < 24) (oHs : hs < 1000000) : am_go 118 (am_ent 118 [.ref 17] M) (am_rv (fun N => N = am_set (am_set M 17 5 (nI ((hr + 1) % 24))) 17 6 (nI (hs + 1)))) := by
  refine am_goQ 6 (s1 := (9, [.ref 17], [.int (nI 24), .int (((M 17 5) + nI 1)), .ref 17], M)) (s2 := (9, [.ref 17], [.int (nI 24), .int (nI (hr + 1)), .ref 17], M)) rfl (by simp only [hHr, nI_add]) ?_
  refine am_goQ 1 (s1 := (10, [.ref 17], [.int ((nI (hr + 1) - nI (hr + 1) / nI 24 * nI 24)), .ref 17], M)) (s2 := (10, [.ref 17], [.int (nI ((hr + 1) % 24)), .ref 17], M)) rfl (by rw [pk_rem (a := (hr + 1)) (d := 24) (by omega) (by omega) (by omega)]) ?_
  refine am_goQ 6 (s1 := (20, [.ref 17], [.int (((M 17 6) + nI 1)), .ref 17], (am_set M 17 5 (nI ((hr + 1) % 24))))) (s2 := (20, [.ref 17], [.int (nI (hs + 1)), .ref 17], (am_set M 17 5 (nI ((hr + 1) % 24))))) rfl (by simp only [hHs, nI_add]) ?_
  refine am_goR 1 (s2 := (23, [.ref 17], [], (am_set (am_set M 17 5 (nI ((hr + 1) % 24))) 17 6 (nI (hs + 1))))) rfl ?_
  exact am_endv rfl (rfl)

set_option maxHeartbeats 4000000 in
theorem t_near {M : am_Mem} {a f hr hs lt : Nat} {k h : Nat → Nat} (hS : sp_M M a f hr hs lt k h) (hO : sp_ok a f hr lt k h) {i : Nat} (hi : i < a) {j m : Nat} (hj : j < 1073741824) (hm : m < 2147483648) : am_go 140 (am_ent 140 [.ref 17, .int (nI i), .int (nI j), .int (nI m)] M) (am_is (am_b (sp_nr h i j m)) M) := by
  obtain ⟨hF, hA, hHr, hHs, hLt, hK, hH⟩ := id hS
  obtain ⟨oA, oF, oHr, oLt, oK, oH⟩ := id hO
  have oH0 := oH (2 * i)
  have oH1 := oH (2 * i + 1)
  have hd0 : sp_ds (h (2 * i)) j < 2147483648 := by unfold sp_ds; omega
  have hd1 : sp_ds (h (2 * i + 1)) j < 2147483648 := by unfold sp_ds; omega
  refine am_goQ 5 (s1 := (7, [.ref 17, .int (nI i), .int (nI j), .int (nI m)], [.int ((nI 2 * nI i)), .ref 20], M)) (s2 := (7, [.ref 17, .int (nI i), .int (nI j), .int (nI m)], [.int (nI (2 * i)), .ref 20], M)) rfl (by simp only [pk_mul]) ?_
  refine am_goL2 (pc := 8) (ls := [.ref 17, .int (nI i), .int (nI j), .int (nI m)]) (r := []) (M := M) (a := 20) (n := 8) ((2 * i)) (nI (h (2 * i))) rfl rfl (by omega) (by decide) (hH _ (by omega)) ?_
  refine am_goR 1 (s2 := (9, [.ref 17, .int (nI i), .int (nI j), .int (nI m)], [.int (nI j), .int (nI (h (2 * i)))], M)) rfl ?_
  refine am_goX (v := nI (sp_ds (h (2 * i)) j)) (M2 := M) (s2 := (12, [.ref 17, .int (nI i), .int (nI j), .int (nI m)], [], M)) rfl (t_apart (x := (h (2 * i))) (y := j) (by omega) (by omega)) ?_
  refine am_goR 1 (s2 := (13, [.ref 17, .int (nI i), .int (nI j), .int (nI m)], [.int (nI m), .int (nI (sp_ds (h (2 * i)) j))], M)) rfl ?_
  refine am_bLE ((sp_ds (h (2 * i)) j)) (m) (s1 := (34, [.ref 17, .int (nI i), .int (nI j), .int (nI m)], [], M)) (s2 := (16, [.ref 17, .int (nI i), .int (nI j), .int (nI m)], [], M)) rfl (by omega) (by omega) (fun c1 => ?_) (fun c1 => ?_)
  · refine am_goR 2 (s2 := (39, [.ref 17, .int (nI i), .int (nI j), .int (nI m)], [.int (nI 1)], M)) rfl ?_
    exact am_endz true _ rfl (by unfold sp_nr; first | (simp [*]; done) | (simp <;> omega)) (rfl)
  · refine am_goQ 7 (s1 := (25, [.ref 17, .int (nI i), .int (nI j), .int (nI m)], [.int (((nI 2 * nI i) + nI 1)), .ref 20], M)) (s2 := (25, [.ref 17, .int (nI i), .int (nI j), .int (nI m)], [.int (nI ((2 * i) + 1)), .ref 20], M)) rfl (by simp only [pk_mul, nI_add]) ?_
    refine am_goL2 (pc := 26) (ls := [.ref 17, .int (nI i), .int (nI j), .int (nI m)]) (r := []) (M := M) (a := 20) (n := 8) (((2 * i) + 1)) (nI (h ((2 * i) + 1))) rfl rfl (by omega) (by decide) (hH _ (by omega)) ?_
    refine am_goR 1 (s2 := (27, [.ref 17, .int (nI i), .int (nI j), .int (nI m)], [.int (nI j), .int (nI (h ((2 * i) + 1)))], M)) rfl ?_
    refine am_goX (v := nI (sp_ds (h ((2 * i) + 1)) j)) (M2 := M) (s2 := (30, [.ref 17, .int (nI i), .int (nI j), .int (nI m)], [], M)) rfl (t_apart (x := (h ((2 * i) + 1))) (y := j) (by omega) (by omega)) ?_
    refine am_goR 1 (s2 := (31, [.ref 17, .int (nI i), .int (nI j), .int (nI m)], [.int (nI m), .int (nI (sp_ds (h ((2 * i) + 1)) j))], M)) rfl ?_
    refine am_bLT (m) ((sp_ds (h ((2 * i) + 1)) j)) (s1 := (38, [.ref 17, .int (nI i), .int (nI j), .int (nI m)], [], M)) (s2 := (34, [.ref 17, .int (nI i), .int (nI j), .int (nI m)], [], M)) rfl (by omega) (by omega) (fun c2 => ?_) (fun c2 => ?_)
    · refine am_goR 1 (s2 := (39, [.ref 17, .int (nI i), .int (nI j), .int (nI m)], [.int (nI 0)], M)) rfl ?_
      exact am_endz false _ rfl (by unfold sp_nr; first | (simp [*]; done) | (simp <;> omega)) (rfl)
    · refine am_goR 2 (s2 := (39, [.ref 17, .int (nI i), .int (nI j), .int (nI m)], [.int (nI 1)], M)) rfl ?_
      exact am_endz true _ rfl (by unfold sp_nr; first | (simp [*]; done) | (simp <;> omega)) (rfl)

set_option maxHeartbeats 4000000 in
theorem t_beside {M : am_Mem} {a f hr hs lt : Nat} {k h : Nat → Nat} (hS : sp_M M a f hr hs lt k h) (hO : sp_ok a f hr lt k h) {i : Nat} (hi : i < a) {j : Nat} (hj : j < 1073741824) : am_go 123 (am_ent 123 [.ref 17, .int (nI i), .int (nI j)] M) (am_is (am_b (sp_be h i j)) M) := by
  obtain ⟨hF, hA, hHr, hHs, hLt, hK, hH⟩ := id hS
  obtain ⟨oA, oF, oHr, oLt, oK, oH⟩ := id hO
  have oH0 := oH (2 * i)
  have oH1 := oH (2 * i + 1)
  have hd0 : sp_ds (h (2 * i)) j < 2147483648 := by unfold sp_ds; omega
  have hd1 : sp_ds (h (2 * i + 1)) j < 2147483648 := by unfold sp_ds; omega
  refine am_goQ 5 (s1 := (7, [.ref 17, .int (nI i), .int (nI j)], [.int ((nI 2 * nI i)), .ref 20], M)) (s2 := (7, [.ref 17, .int (nI i), .int (nI j)], [.int (nI (2 * i)), .ref 20], M)) rfl (by simp only [pk_mul]) ?_
  refine am_goL2 (pc := 8) (ls := [.ref 17, .int (nI i), .int (nI j)]) (r := []) (M := M) (a := 20) (n := 8) ((2 * i)) (nI (h (2 * i))) rfl rfl (by omega) (by decide) (hH _ (by omega)) ?_
  refine am_goR 1 (s2 := (9, [.ref 17, .int (nI i), .int (nI j)], [.int (nI j), .int (nI (h (2 * i)))], M)) rfl ?_
  refine am_goX (v := nI (sp_ds (h (2 * i)) j)) (M2 := M) (s2 := (12, [.ref 17, .int (nI i), .int (nI j)], [], M)) rfl (t_apart (x := (h (2 * i))) (y := j) (by omega) (by omega)) ?_
  refine am_goR 1 (s2 := (13, [.ref 17, .int (nI i), .int (nI j)], [.int (nI 1), .int (nI (sp_ds (h (2 * i)) j))], M)) rfl ?_
  refine am_bEQ ((sp_ds (h (2 * i)) j)) (1) (s1 := (34, [.ref 17, .int (nI i), .int (nI j)], [], M)) (s2 := (16, [.ref 17, .int (nI i), .int (nI j)], [], M)) rfl (by omega) (by omega) (fun c1 => ?_) (fun c1 => ?_)
  · refine am_goR 2 (s2 := (39, [.ref 17, .int (nI i), .int (nI j)], [.int (nI 1)], M)) rfl ?_
    exact am_endz true _ rfl (by unfold sp_be; first | (simp [*]; done) | (simp <;> omega)) (rfl)
  · refine am_goQ 7 (s1 := (25, [.ref 17, .int (nI i), .int (nI j)], [.int (((nI 2 * nI i) + nI 1)), .ref 20], M)) (s2 := (25, [.ref 17, .int (nI i), .int (nI j)], [.int (nI ((2 * i) + 1)), .ref 20], M)) rfl (by simp only [pk_mul, nI_add]) ?_
    refine am_goL2 (pc := 26) (ls := [.ref 17, .int (nI i), .int (nI j)]) (r := []) (M := M) (a := 20) (n := 8) (((2 * i) + 1)) (nI (h ((2 * i) + 1))) rfl rfl (by omega) (by decide) (hH _ (by omega)) ?_
    refine am_goR 1 (s2 := (27, [.ref 17, .int (nI i), .int (nI j)], [.int (nI j), .int (nI (h ((2 * i) + 1)))], M)) rfl ?_
    refine am_goX (v := nI (sp_ds (h ((2 * i) + 1)) j)) (M2 := M) (s2 := (30, [.ref 17, .int (nI i), .int (nI j)], [], M)) rfl (t_apart (x := (h ((2 * i) + 1))) (y := j) (by omega) (by omega)) ?_
    refine am_goR 1 (s2 := (31, [.ref 17, .int (nI i), .int (nI j)], [.int (nI 1), .int (nI (sp_ds (h ((2 * i) + 1)) j))], M)) rfl ?_
    refine am_bNE ((sp_ds (h ((2 * i) + 1)) j)) (1) (s1 := (38, [.ref 17, .int (nI i), .int (nI j)], [], M)) (s2 := (34, [.ref 17, .int (nI i), .int (nI j)], [], M)) rfl (by omega) (by omega) (fun c2 => ?_) (fun c2 => ?_)
    · refine am_goR 1 (s2 := (39, [.ref 17, .int (nI i), .int (nI j)], [.int (nI 0)], M)) rfl ?_
      exact am_endz false _ rfl (by unfold sp_be; first | (simp [*]; done) | (simp <;> omega)) (rfl)
    · refine am_goR 2 (s2 := (39, [.ref 17, .int (nI i), .int (nI j)], [.int (nI 1)], M)) rfl ?_
      exact am_endz true _ rfl (by unfold sp_be; first | (simp [*]; done) | (simp <;> omega)) (rfl)

set_option maxHeartbeats 4000000 in
theorem t_canHand {M : am_Mem} {a f hr hs lt : Nat} {k h : Nat → Nat} (hS : sp_M M a f hr hs lt k h) (hO : sp_ok a f hr lt k h) {i : Nat} (hi : i < a) {i2 : Nat} (hi2 : i2 < a) : am_go 141 (am_ent 141 [.ref 17, .int (nI i), .int (nI i2)] M) (am_is (am_b (sp_ht h i2 i)) M) := by
  obtain ⟨hF, hA, hHr, hHs, hLt, hK, hH⟩ := id hS
  obtain ⟨oA, oF, oHr, oLt, oK, oH⟩ := id hO
  have oH0 := oH (2 * i2)
  have oH1 := oH (2 * i2 + 1)
  refine am_goQ 7 (s1 := (9, [.ref 17, .int (nI i), .int (nI i2)], [.int ((nI 2 * nI i2)), .ref 20, .int (nI i), .ref 17], M)) (s2 := (9, [.ref 17, .int (nI i), .int (nI i2)], [.int (nI (2 * i2)), .ref 20, .int (nI i), .ref 17], M)) rfl (by simp only [pk_mul]) ?_
  refine am_goL2 (pc := 10) (ls := [.ref 17, .int (nI i), .int (nI i2)]) (r := [.int (nI i), .ref 17]) (M := M) (a := 20) (n := 8) ((2 * i2)) (nI (h (2 * i2))) rfl rfl (by omega) (by decide) (hH _ (by omega)) ?_
  refine am_goR 1 (s2 := (11, [.ref 17, .int (nI i), .int (nI i2)], [.int (nI 2), .int (nI (h (2 * i2))), .int (nI i), .ref 17], M)) rfl ?_
  refine am_goX (v := am_b (sp_nr h i (h (2 * i2)) 2)) (M2 := M) (s2 := (14, [.ref 17, .int (nI i), .int (nI i2)], [], M)) rfl (t_near hS hO (i := i) (j := (h (2 * i2))) (m := 2) (by omega) (by omega) (by omega)) ?_
  refine am_bB1 (sp_nr h i (h (2 * i2)) 2) (s1 := (36, [.ref 17, .int (nI i), .int (nI i2)], [], M)) (s2 := (17, [.ref 17, .int (nI i), .int (nI i2)], [], M)) rfl (fun c1 => ?_) (fun c1 => ?_)
  · refine am_goR 2 (s2 := (41, [.ref 17, .int (nI i), .int (nI i2)], [.int (nI 1)], M)) rfl ?_
    exact am_endz true _ rfl (by unfold sp_ht; simp [*]) (rfl)
  · refine am_goQ 9 (s1 := (28, [.ref 17, .int (nI i), .int (nI i2)], [.int (((nI 2 * nI i2) + nI 1)), .ref 20, .int (nI i), .ref 17], M)) (s2 := (28, [.ref 17, .int (nI i), .int (nI i2)], [.int (nI ((2 * i2) + 1)), .ref 20, .int (nI i), .ref 17], M)) rfl (by simp only [pk_mul, nI_add]) ?_
    refine am_goL2 (pc := 29) (ls := [.ref 17, .int (nI i), .int (nI i2)]) (r := [.int (nI i), .ref 17]) (M := M) (a := 20) (n := 8) (((2 * i2) + 1)) (nI (h ((2 * i2) + 1))) rfl rfl (by omega) (by decide) (hH _ (by omega)) ?_
    refine am_goR 1 (s2 := (30, [.ref 17, .int (nI i), .int (nI i2)], [.int (nI 2), .int (nI (h ((2 * i2) + 1))), .int (nI i), .ref 17], M)) rfl ?_
    refine am_goX (v := am_b (sp_nr h i (h ((2 * i2) + 1)) 2)) (M2 := M) (s2 := (33, [.ref 17, .int (nI i), .int (nI i2)], [], M)) rfl (t_near hS hO (i := i) (j := (h ((2 * i2) + 1))) (m := 2) (by omega) (by omega) (by omega)) ?_
    refine am_bB0 (sp_nr h i (h ((2 * i2) + 1)) 2) (s1 := (40, [.ref 17, .int (nI i), .int (nI i2)], [], M)) (s2 := (36, [.ref 17, .int (nI i), .int (nI i2)], [], M)) rfl (fun c2 => ?_) (fun c2 => ?_)
    · refine am_goR 1 (s2 := (41, [.ref 17, .int (nI i), .int (nI i2)], [.int (nI 0)], M)) rfl ?_
      exact am_endz false _ rfl (by unfold sp_ht; simp [*]) (rfl)
    · refine am_goR 2 (s2 := (41, [.ref 17, .int (nI i), .int (nI i2)], [.int (nI 1)], M)) rfl ?_
      exact am_endz true _ rfl (by unfold sp_ht; simp [*]) (rfl)

