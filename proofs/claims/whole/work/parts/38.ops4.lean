/-! calls: step, fix, unfix, pass -/
theorem am_rg {x : Int32} {n : Nat} (hn : n < 2147483647) (h0 : ¬ x < nI 0) (h1 : ¬ nI n < x) : ∃ g : Nat, g ≤ n ∧ x = nI g := by
  obtain ⟨g, hg, rfl⟩ := nI_of (x := x) (fun z => h0 z)
  exact ⟨g, Nat.not_lt.mp (fun z => h1 ((nI_ltI (by omega) (by omega)).mpr z)), rfl⟩
theorem am_lt_tr {x : Int32} {n : Nat} (h : x < nI 0) (hn : n < 2147483648) : x < nI n := by
  rw [Int32.lt_iff_toInt_lt] at h ⊢
  rw [nI_toInt (by omega)] at h ⊢
  omega

def sp_up (h : Nat → Nat) (p j : Nat) : Nat → Nat := fun q => if q = p then j else h q
theorem sp_S_up {M : am_Mem} {a f hr hs lt : Nat} {k h : Nat → Nat} (hS : sp_S 1 M a f hr hs lt k h) {p j hr2 hs2 : Nat} : sp_S 1 (am_set (am_set (am_set M 3 p (nI j)) 1 2 (nI hr2)) 1 3 (nI hs2)) a f hr2 hs2 lt k (sp_up h p j) := by
  refine ⟨hS.1, hS.2.1, rfl, rfl, hS.2.2.2.2.1, fun q hq => hS.2.2.2.2.2.1 q hq, fun q hq => ?_⟩
  show am_set M 3 p (nI j) 3 q = nI (sp_up h p j q)
  unfold sp_up
  by_cases e : q = p
  · subst e; rw [am_set_s, if_pos rfl]
  · rw [am_set_o (by omega), if_neg e]; exact hS.2.2.2.2.2.2 q hq
theorem sp_M_up {M : am_Mem} {a f hr hs lt : Nat} {k h : Nat → Nat} (hS : sp_M M a f hr hs lt k h) {p j hr2 hs2 : Nat} : sp_M (am_set (am_set (am_set M 20 p (nI j)) 17 5 (nI hr2)) 17 6 (nI hs2)) a f hr2 hs2 lt k (sp_up h p j) := by
  refine ⟨hS.1, hS.2.1, rfl, rfl, hS.2.2.2.2.1, fun q hq => hS.2.2.2.2.2.1 q hq, fun q hq => ?_⟩
  show am_set M 20 p (nI j) 20 q = nI (sp_up h p j q)
  unfold sp_up
  by_cases e : q = p
  · subst e; rw [am_set_s, if_pos rfl]
  · rw [am_set_o (by omega), if_neg e]; exact hS.2.2.2.2.2.2 q hq
theorem sp_cn_of {a f : Nat} {k h : Nat → Nat} {i b j : Nat} (oA : a ≤ 4) (hc : sp_cn a f k h i b 9 j = true) : f.testBit j = true ∧ ∀ q, q < 2 * a → ¬ h q = j := by
  unfold sp_cn at hc
  simp only [Bool.and_eq_true, decide_eq_true_eq] at hc
  exact ⟨hc.1.1.1, fun q hq z => by have := hc.1.1.2 q hq z; omega⟩
/-- a step keeps a stand good, hours aside -/
theorem sp_go.up {a f hr hs lt : Nat} {k h : Nat → Nat} (hg : sp_go (a, f, hr, hs, lt, k, h)) {p j hr2 hs2 : Nat} (hr3 : hr2 < 24) (hs3 : hs2 ≤ 9999) (hj : j < 12) (hf : f.testBit j = true) (hn : ∀ q, q < 2 * a → ¬ h q = j) : sp_go (a, f, hr2, hs2, lt, k, sp_up h p j) := by
  obtain ⟨⟨oA, oF, oHr, oLt, oK, oH⟩, g1, g2, g3⟩ := hg
  dsimp only at oA oF oHr oLt oK oH g1 g2 g3
  refine ⟨⟨oA, oF, hr3, oLt, oK, fun q => ?_⟩, hs3, fun x y hx hy e => ?_, fun q hq => ?_⟩
  · show sp_up h p j q < 12
    unfold sp_up
    split
    · exact hj
    · exact oH q
  · dsimp only at hx hy e
    unfold sp_up at e
    by_cases ex : x = p
    · rw [if_pos ex] at e
      by_cases ey : y = p
      · omega
      · rw [if_neg ey] at e; exact absurd e.symm (hn y hy)
    · rw [if_neg ex] at e
      by_cases ey : y = p
      · rw [if_pos ey] at e; exact absurd e (hn x hx)
      · rw [if_neg ey] at e; exact g2 x y hx hy e
  · dsimp only at hq ⊢
    unfold sp_up
    split
    · exact hf
    · exact g3 q hq
theorem sp_go.tn {a f hr hs lt : Nat} {k h : Nat → Nat} (hg : sp_go (a, f, hr, hs, lt, k, h)) {j hr2 hs2 : Nat} (hr3 : hr2 < 24) (hs3 : hs2 ≤ 9999) (hj : j < 12) (hn : ∀ q, q < 2 * a → ¬ h q = j) : sp_go (a, f ^^^ 2 ^ j, hr2, hs2, lt, k, h) := by
  obtain ⟨⟨oA, oF, oHr, oLt, oK, oH⟩, g1, g2, g3⟩ := hg
  dsimp only at oA oF oHr oLt oK oH g1 g2 g3
  refine ⟨⟨oA, Nat.xor_lt_two_pow (n := 12) oF (Nat.lt_of_lt_of_le (Nat.pow_lt_pow_right (by decide) hj) (Nat.le_refl _)), hr3, oLt, oK, oH⟩, hs3, g2, fun q hq => ?_⟩
  dsimp only at hq ⊢
  rw [Nat.testBit_xor, g3 q hq, Nat.testBit_two_pow, decide_eq_false (fun z => hn q hq z.symm)]
  rfl
theorem sp_go.hr {a f hr hs lt : Nat} {k h : Nat → Nat} (hg : sp_go (a, f, hr, hs, lt, k, h)) {hr2 hs2 : Nat} (hr3 : hr2 < 24) (hs3 : hs2 ≤ 9999) : sp_go (a, f, hr2, hs2, lt, k, h) := ⟨⟨hg.1.1, hg.1.2.1, hr3, hg.1.2.2.2.1, hg.1.2.2.2.2.1, hg.1.2.2.2.2.2⟩, hs3, hg.2.2.1, hg.2.2.2⟩
theorem sp_or_xor {f j : Nat} (h : f.testBit j = false) : f ||| 2 ^ j = f ^^^ 2 ^ j := by
  apply sp_eq_bit
  intro q
  rw [Nat.testBit_or, Nat.testBit_xor, Nat.testBit_two_pow]
  by_cases e : j = q
  · subst e; rw [h, decide_eq_true rfl]; rfl
  · rw [decide_eq_false e, Bool.or_false, Bool.xor_false]
theorem sp_and_xor {f j : Nat} (oF : f < 4096) (h : f.testBit j = true) : f &&& (2 ^ j ^^^ 4294967295) = f ^^^ 2 ^ j := by
  have hj := sp_f_bit oF h
  apply sp_eq_bit
  intro q
  by_cases hq : q < 32
  · rw [Nat.testBit_and, sp_m1_bit _ _ hq, Nat.testBit_xor, Nat.testBit_two_pow]
    by_cases e : j = q
    · subst e; rw [h, decide_eq_true rfl]; rfl
    · rw [decide_eq_false e]; simp
  · have this : f.testBit q = false := by
      cases e : f.testBit q with
      | false => rfl
      | true => have := sp_f_bit oF e; omega
    rw [Nat.testBit_and, this, Bool.false_and, Nat.testBit_xor, this, Nat.testBit_two_pow, decide_eq_false (by omega)]
    rfl

set_option maxHeartbeats 4000000 in
theorem t_done {M : am_Mem} {hr hs : Nat} (hHr : M 17 5 = nI hr) (hHs : M 17 6 = nI hs) (oHr : hr < 24) (oHs : hs < 1000000) : am_go 121 (am_ent 121 [.ref 17] M) (am_is (nI (hs + 1)) (am_set (am_set M 17 5 (nI ((hr + 1) % 24))) 17 6 (nI (hs + 1)))) := by
  refine am_goR 1 (s2 := (1, [.ref 17], [.ref 17], M)) rfl ?_
  refine am_goY (M2 := (am_set (am_set M 17 5 (nI ((hr + 1) % 24))) 17 6 (nI (hs + 1)))) (s2 := (4, [.ref 17], [], M)) rfl (t_goesHour (hr := hr) (hs := hs) hHr hHs (by omega) (by omega)) ?_
  refine am_goR 2 (s2 := (8, [.ref 17], [.int (nI (hs + 1))], (am_set (am_set M 17 5 (nI ((hr + 1) % 24))) 17 6 (nI (hs + 1))))) rfl ?_
  exact am_ends (nI (hs + 1)) _ rfl (by rfl) (rfl)

set_option maxHeartbeats 4000000 in
theorem c_step_0 {M : am_Mem} {a f hr hs lt : Nat} {k h : Nat → Nat} (hS : sp_S 1 M a f hr hs lt k h) (hO : sp_ok a f hr lt k h) {x : Int32} (hx : am_in x a = false) {y z : Int32} : am_go 58 (am_ent 58 [.ref 0, .int (x), .int (y), .int (z)] M) (am_is (-nI 1) (am_set M 16 1 (M 16 1 + nI 1))) := by
  obtain ⟨hF, hA, hHr, hHs, hLt, hK, hH⟩ := id hS
  obtain ⟨oA, oF, oHr, oLt, oK, oH⟩ := id hO
  refine am_goR 3 (s2 := (5, [.ref 0, .int (x), .int (y), .int (z)], [.int (x), .ref 1], M)) rfl ?_
  refine am_goX (v := am_b (am_in x a)) (M2 := M) (s2 := (8, [.ref 0, .int (x), .int (y), .int (z)], [], M)) rfl (s_hasArm_1 hS.2.1 hO.1) ?_
  refine am_bB0 (am_in x a) (s1 := (25, [.ref 0, .int (x), .int (y), .int (z)], [], M)) (s2 := (11, [.ref 0, .int (x), .int (y), .int (z)], [], M)) rfl (fun c1 => ?_) (fun c1 => absurd c1 (by simp [*]))
  refine am_goR 2 (s2 := (27, [.ref 0, .int (x), .int (y), .int (z)], [.int ((-nI 1)), .ref 0], M)) rfl ?_
  refine am_goX (v := (-nI 1)) (M2 := (am_set M 16 1 (M 16 1 + nI 1))) (s2 := (30, [.ref 0, .int (x), .int (y), .int (z)], [], M)) rfl (s_refuse_1) ?_
  exact am_ends (-nI 1) _ rfl rfl rfl

set_option maxHeartbeats 4000000 in
theorem r_step_0 {M : am_Mem} {a f hr hs lt : Nat} {k h : Nat → Nat} (hS : sp_M M a f hr hs lt k h) (hO : sp_ok a f hr lt k h) (oD : ∀ p q, p < 2 * a → q < 2 * a → h p = h q → p = q) {x : Int32} (hx : am_in x a = false) {y z : Int32} : am_go 122 (am_ent 122 [.ref 17, .int (x), .int (y), .int (z)] M) (am_is (-nI 1) (am_set M 18 1 (M 18 1 + nI 1))) := by
  obtain ⟨hF, hA, hHr, hHs, hLt, hK, hH⟩ := id hS
  obtain ⟨oA, oF, oHr, oLt, oK, oH⟩ := id hO
  refine am_goR 3 (s2 := (3, [.ref 17, .int (x), .int (y), .int (z), .null], [.int (y), .int (x), .ref 17], M)) rfl ?_
  refine am_goX (v := am_b (am_in x a && am_in y 2)) (M2 := M) (s2 := (6, [.ref 17, .int (x), .int (y), .int (z), .null], [], M)) rfl (t_isHand hS.2.1 hO.1) ?_
  refine am_bB0 (am_in x a && am_in y 2) (s1 := (16, [.ref 17, .int (x), .int (y), .int (z), .null], [], M)) (s2 := (9, [.ref 17, .int (x), .int (y), .int (z), .null], [], M)) rfl (fun c1 => ?_) (fun c1 => absurd c1 (by simp [*]))
  refine am_goR 7 (s2 := (61, [.ref 17, .int (x), .int (y), .int (z), .int ((-nI 1))], [.int ((-nI 1)), .ref 17], M)) rfl ?_
  refine am_goX (v := (-nI 1)) (M2 := (am_set M 18 1 (M 18 1 + nI 1))) (s2 := (64, [.ref 17, .int (x), .int (y), .int (z), .int ((-nI 1))], [], M)) rfl (t_no_1) ?_
  exact am_ends (-nI 1) _ rfl rfl rfl

set_option maxHeartbeats 4000000 in
theorem c_step_1 {M : am_Mem} {a f hr hs lt : Nat} {k h : Nat → Nat} (hS : sp_S 1 M a f hr hs lt k h) (hO : sp_ok a f hr lt k h) {i : Nat} (hi : i < a) {y z : Int32} (hy : am_in y 2 = false) : am_go 58 (am_ent 58 [.ref 0, .int (nI i), .int (y), .int (z)] M) (am_is (-nI 1) (am_set M 16 1 (M 16 1 + nI 1))) := by
  obtain ⟨hF, hA, hHr, hHs, hLt, hK, hH⟩ := id hS
  obtain ⟨oA, oF, oHr, oLt, oK, oH⟩ := id hO
  refine am_goR 3 (s2 := (5, [.ref 0, .int (nI i), .int (y), .int (z)], [.int (nI i), .ref 1], M)) rfl ?_
  refine am_goX (v := nI 1) (M2 := M) (s2 := (8, [.ref 0, .int (nI i), .int (y), .int (z)], [], M)) rfl (s_hasArm1_1 hS.2.1 hO.1 (i := i) (by omega)) ?_
  refine am_goR 2 (s2 := (12, [.ref 0, .int (nI i), .int (y), .int (z)], [.int (y)], M)) rfl ?_
  refine am_goX (v := am_b (am_in y 2)) (M2 := M) (s2 := (15, [.ref 0, .int (nI i), .int (y), .int (z)], [], M)) rfl (s_isHand) ?_
  refine am_bB0 (am_in y 2) (s1 := (25, [.ref 0, .int (nI i), .int (y), .int (z)], [], M)) (s2 := (18, [.ref 0, .int (nI i), .int (y), .int (z)], [], M)) rfl (fun c1 => ?_) (fun c1 => absurd c1 (by simp [*]))
  refine am_goR 2 (s2 := (27, [.ref 0, .int (nI i), .int (y), .int (z)], [.int ((-nI 1)), .ref 0], M)) rfl ?_
  refine am_goX (v := (-nI 1)) (M2 := (am_set M 16 1 (M 16 1 + nI 1))) (s2 := (30, [.ref 0, .int (nI i), .int (y), .int (z)], [], M)) rfl (s_refuse_1) ?_
  exact am_ends (-nI 1) _ rfl rfl rfl

set_option maxHeartbeats 4000000 in
theorem r_step_1 {M : am_Mem} {a f hr hs lt : Nat} {k h : Nat → Nat} (hS : sp_M M a f hr hs lt k h) (hO : sp_ok a f hr lt k h) (oD : ∀ p q, p < 2 * a → q < 2 * a → h p = h q → p = q) {i : Nat} (hi : i < a) {y z : Int32} (hy : am_in y 2 = false) : am_go 122 (am_ent 122 [.ref 17, .int (nI i), .int (y), .int (z)] M) (am_is (-nI 1) (am_set M 18 1 (M 18 1 + nI 1))) := by
  obtain ⟨hF, hA, hHr, hHs, hLt, hK, hH⟩ := id hS
  obtain ⟨oA, oF, oHr, oLt, oK, oH⟩ := id hO
  refine am_goR 3 (s2 := (3, [.ref 17, .int (nI i), .int (y), .int (z), .null], [.int (y), .int (nI i), .ref 17], M)) rfl ?_
  refine am_goX (v := am_b (am_in y 2)) (M2 := M) (s2 := (6, [.ref 17, .int (nI i), .int (y), .int (z), .null], [], M)) rfl (t_isHandX hS.2.1 hO.1 (i := i) (by omega)) ?_
  refine am_bB0 (am_in y 2) (s1 := (16, [.ref 17, .int (nI i), .int (y), .int (z), .null], [], M)) (s2 := (9, [.ref 17, .int (nI i), .int (y), .int (z), .null], [], M)) rfl (fun c1 => ?_) (fun c1 => absurd c1 (by simp [*]))
  refine am_goR 7 (s2 := (61, [.ref 17, .int (nI i), .int (y), .int (z), .int ((-nI 1))], [.int ((-nI 1)), .ref 17], M)) rfl ?_
  refine am_goX (v := (-nI 1)) (M2 := (am_set M 18 1 (M 18 1 + nI 1))) (s2 := (64, [.ref 17, .int (nI i), .int (y), .int (z), .int ((-nI 1))], [], M)) rfl (t_no_1) ?_
  exact am_ends (-nI 1) _ rfl rfl rfl

set_option maxHeartbeats 4000000 in
theorem c_step_2 {M : am_Mem} {a f hr hs lt : Nat} {k h : Nat → Nat} (hS : sp_S 1 M a f hr hs lt k h) (hO : sp_ok a f hr lt k h) {i : Nat} (hi : i < a) {b : Nat} (hb : b < 2) {z : Int32} (hz : am_in z 12 = false) : am_go 58 (am_ent 58 [.ref 0, .int (nI i), .int (nI b), .int (z)] M) (am_is (-nI 1) (am_set M 16 1 (M 16 1 + nI 1))) := by
  obtain ⟨hF, hA, hHr, hHs, hLt, hK, hH⟩ := id hS
  obtain ⟨oA, oF, oHr, oLt, oK, oH⟩ := id hO
  refine am_goR 3 (s2 := (5, [.ref 0, .int (nI i), .int (nI b), .int (z)], [.int (nI i), .ref 1], M)) rfl ?_
  refine am_goX (v := nI 1) (M2 := M) (s2 := (8, [.ref 0, .int (nI i), .int (nI b), .int (z)], [], M)) rfl (s_hasArm1_1 hS.2.1 hO.1 (i := i) (by omega)) ?_
  refine am_goR 2 (s2 := (12, [.ref 0, .int (nI i), .int (nI b), .int (z)], [.int (nI b)], M)) rfl ?_
  refine am_goX (v := nI 1) (M2 := M) (s2 := (15, [.ref 0, .int (nI i), .int (nI b), .int (z)], [], M)) rfl (s_isHand1 (b := b) (by omega)) ?_
  refine am_goR 2 (s2 := (19, [.ref 0, .int (nI i), .int (nI b), .int (z)], [.int (z)], M)) rfl ?_
  refine am_goX (v := am_b (am_in z 12)) (M2 := M) (s2 := (22, [.ref 0, .int (nI i), .int (nI b), .int (z)], [], M)) rfl (s_isJoint) ?_
  refine am_bB1 (am_in z 12) (s1 := (31, [.ref 0, .int (nI i), .int (nI b), .int (z)], [], M)) (s2 := (25, [.ref 0, .int (nI i), .int (nI b), .int (z)], [], M)) rfl (fun c1 => absurd c1 (by simp [*])) (fun c1 => ?_)
  refine am_goR 2 (s2 := (27, [.ref 0, .int (nI i), .int (nI b), .int (z)], [.int ((-nI 1)), .ref 0], M)) rfl ?_
  refine am_goX (v := (-nI 1)) (M2 := (am_set M 16 1 (M 16 1 + nI 1))) (s2 := (30, [.ref 0, .int (nI i), .int (nI b), .int (z)], [], M)) rfl (s_refuse_1) ?_
  exact am_ends (-nI 1) _ rfl rfl rfl

set_option maxHeartbeats 4000000 in
theorem r_step_2 {M : am_Mem} {a f hr hs lt : Nat} {k h : Nat → Nat} (hS : sp_M M a f hr hs lt k h) (hO : sp_ok a f hr lt k h) (oD : ∀ p q, p < 2 * a → q < 2 * a → h p = h q → p = q) {i : Nat} (hi : i < a) {b : Nat} (hb : b < 2) {z : Int32} (hz : am_in z 12 = false) : am_go 122 (am_ent 122 [.ref 17, .int (nI i), .int (nI b), .int (z)] M) (am_is (-nI 1) (am_set M 18 1 (M 18 1 + nI 1))) := by
  obtain ⟨hF, hA, hHr, hHs, hLt, hK, hH⟩ := id hS
  obtain ⟨oA, oF, oHr, oLt, oK, oH⟩ := id hO
  refine am_goR 3 (s2 := (3, [.ref 17, .int (nI i), .int (nI b), .int (z), .null], [.int (nI b), .int (nI i), .ref 17], M)) rfl ?_
  refine am_goX (v := nI 1) (M2 := M) (s2 := (6, [.ref 17, .int (nI i), .int (nI b), .int (z), .null], [], M)) rfl (t_isHand1 hS.2.1 hO.1 (i := i) (b := b) (by omega) (by omega)) ?_
  refine am_goR 2 (s2 := (10, [.ref 17, .int (nI i), .int (nI b), .int (z), .null], [.int (z)], M)) rfl ?_
  refine am_goX (v := am_b (am_in z 12)) (M2 := M) (s2 := (13, [.ref 17, .int (nI i), .int (nI b), .int (z), .null], [], M)) rfl (t_isJoint) ?_
  refine am_bB1 (am_in z 12) (s1 := (20, [.ref 17, .int (nI i), .int (nI b), .int (z), .null], [], M)) (s2 := (16, [.ref 17, .int (nI i), .int (nI b), .int (z), .null], [], M)) rfl (fun c1 => absurd c1 (by simp [*])) (fun c1 => ?_)
  refine am_goR 7 (s2 := (61, [.ref 17, .int (nI i), .int (nI b), .int (z), .int ((-nI 1))], [.int ((-nI 1)), .ref 17], M)) rfl ?_
  refine am_goX (v := (-nI 1)) (M2 := (am_set M 18 1 (M 18 1 + nI 1))) (s2 := (64, [.ref 17, .int (nI i), .int (nI b), .int (z), .int ((-nI 1))], [], M)) rfl (t_no_1) ?_
  exact am_ends (-nI 1) _ rfl rfl rfl

set_option maxHeartbeats 4000000 in
theorem c_step_3 {M : am_Mem} {a f hr hs lt : Nat} {k h : Nat → Nat} (hS : sp_S 1 M a f hr hs lt k h) (hO : sp_ok a f hr lt k h) {i : Nat} (hi : i < a) {b : Nat} (hb : b < 2) {j : Nat} (hj : j < 12) (hc : (sp_wk lt (k i) hr && sp_cn a f k h i b 9 j) = false) : am_go 58 (am_ent 58 [.ref 0, .int (nI i), .int (nI b), .int (nI j)] M) (am_is (-nI 3) (am_set M 16 3 (M 16 3 + nI 1))) := by
  obtain ⟨hF, hA, hHr, hHs, hLt, hK, hH⟩ := id hS
  obtain ⟨oA, oF, oHr, oLt, oK, oH⟩ := id hO
  refine am_goR 3 (s2 := (5, [.ref 0, .int (nI i), .int (nI b), .int (nI j)], [.int (nI i), .ref 1], M)) rfl ?_
  refine am_goX (v := nI 1) (M2 := M) (s2 := (8, [.ref 0, .int (nI i), .int (nI b), .int (nI j)], [], M)) rfl (s_hasArm1_1 hS.2.1 hO.1 (i := i) (by omega)) ?_
  refine am_goR 2 (s2 := (12, [.ref 0, .int (nI i), .int (nI b), .int (nI j)], [.int (nI b)], M)) rfl ?_
  refine am_goX (v := nI 1) (M2 := M) (s2 := (15, [.ref 0, .int (nI i), .int (nI b), .int (nI j)], [], M)) rfl (s_isHand1 (b := b) (by omega)) ?_
  refine am_goR 2 (s2 := (19, [.ref 0, .int (nI i), .int (nI b), .int (nI j)], [.int (nI j)], M)) rfl ?_
  refine am_goX (v := nI 1) (M2 := M) (s2 := (22, [.ref 0, .int (nI i), .int (nI b), .int (nI j)], [], M)) rfl (s_isJoint1 (j := j) (by omega)) ?_
  refine am_goR 6 (s2 := (38, [.ref 0, .int (nI i), .int (nI b), .int (nI j)], [.int (nI j), .int (nI b), .int (nI i), .ref 1], M)) rfl ?_
  refine am_goX (v := am_b (sp_wk lt (k i) hr && sp_cn a f k h i b 9 j)) (M2 := M) (s2 := (41, [.ref 0, .int (nI i), .int (nI b), .int (nI j)], [], M)) rfl (s_canGo_1 hS hO (i := i) (b := b) (j := j) (by omega) (by omega) (by omega)) ?_
  refine am_bB1 (sp_wk lt (k i) hr && sp_cn a f k h i b 9 j) (s1 := (51, [.ref 0, .int (nI i), .int (nI b), .int (nI j)], [], M)) (s2 := (44, [.ref 0, .int (nI i), .int (nI b), .int (nI j)], [], M)) rfl (fun c1 => absurd c1 (by simp [*])) (fun c1 => ?_)
  refine am_goR 2 (s2 := (47, [.ref 0, .int (nI i), .int (nI b), .int (nI j)], [.int ((-nI 3)), .ref 0], M)) rfl ?_
  refine am_goX (v := (-nI 3)) (M2 := (am_set M 16 3 (M 16 3 + nI 1))) (s2 := (50, [.ref 0, .int (nI i), .int (nI b), .int (nI j)], [], M)) rfl (s_refuse_3) ?_
  exact am_ends (-nI 3) _ rfl rfl rfl

set_option maxHeartbeats 4000000 in
theorem r_step_3 {M : am_Mem} {a f hr hs lt : Nat} {k h : Nat → Nat} (hS : sp_M M a f hr hs lt k h) (hO : sp_ok a f hr lt k h) (oD : ∀ p q, p < 2 * a → q < 2 * a → h p = h q → p = q) {i : Nat} (hi : i < a) {b : Nat} (hb : b < 2) {j : Nat} (hj : j < 12) (hc : (sp_wk lt (k i) hr && sp_cn a f k h i b 9 j) = false) : am_go 122 (am_ent 122 [.ref 17, .int (nI i), .int (nI b), .int (nI j)] M) (am_is (-nI 3) (am_set M 18 3 (M 18 3 + nI 1))) := by
  obtain ⟨hF, hA, hHr, hHs, hLt, hK, hH⟩ := id hS
  obtain ⟨oA, oF, oHr, oLt, oK, oH⟩ := id hO
  refine am_goR 3 (s2 := (3, [.ref 17, .int (nI i), .int (nI b), .int (nI j), .null], [.int (nI b), .int (nI i), .ref 17], M)) rfl ?_
  refine am_goX (v := nI 1) (M2 := M) (s2 := (6, [.ref 17, .int (nI i), .int (nI b), .int (nI j), .null], [], M)) rfl (t_isHand1 hS.2.1 hO.1 (i := i) (b := b) (by omega) (by omega)) ?_
  refine am_goR 2 (s2 := (10, [.ref 17, .int (nI i), .int (nI b), .int (nI j), .null], [.int (nI j)], M)) rfl ?_
  refine am_goX (v := nI 1) (M2 := M) (s2 := (13, [.ref 17, .int (nI i), .int (nI b), .int (nI j), .null], [], M)) rfl (t_isJoint1 (j := j) (by omega)) ?_
  refine am_goR 5 (s2 := (24, [.ref 17, .int (nI i), .int (nI b), .int (nI j), .null], [.int (nI j), .int (nI b), .int (nI i), .ref 17], M)) rfl ?_
  refine am_goX (v := am_b (sp_wk lt (k i) hr && sp_cn a f k h i b 9 j)) (M2 := M) (s2 := (27, [.ref 17, .int (nI i), .int (nI b), .int (nI j), .null], [], M)) rfl (t_maySo hS hO oD (i := i) (b := b) (j := j) (by omega) (by omega) (by omega)) ?_
  refine am_bB1 (sp_wk lt (k i) hr && sp_cn a f k h i b 9 j) (s1 := (35, [.ref 17, .int (nI i), .int (nI b), .int (nI j), .null], [], M)) (s2 := (30, [.ref 17, .int (nI i), .int (nI b), .int (nI j), .null], [], M)) rfl (fun c1 => absurd c1 (by simp [*])) (fun c1 => ?_)
  refine am_goR 7 (s2 := (61, [.ref 17, .int (nI i), .int (nI b), .int (nI j), .int ((-nI 3))], [.int ((-nI 3)), .ref 17], M)) rfl ?_
  refine am_goX (v := (-nI 3)) (M2 := (am_set M 18 3 (M 18 3 + nI 1))) (s2 := (64, [.ref 17, .int (nI i), .int (nI b), .int (nI j), .int ((-nI 3))], [], M)) rfl (t_no_3) ?_
  exact am_ends (-nI 3) _ rfl rfl rfl

set_option maxHeartbeats 4000000 in
theorem c_step_4 {M : am_Mem} {a f hr hs lt : Nat} {k h : Nat → Nat} (hS : sp_S 1 M a f hr hs lt k h) (hO : sp_ok a f hr lt k h) {i : Nat} (hi : i < a) {b : Nat} (hb : b < 2) {j : Nat} (hj : j < 12) (hc : (sp_wk lt (k i) hr && sp_cn a f k h i b 9 j) = true) (hh : hs = 9999) : am_go 58 (am_ent 58 [.ref 0, .int (nI i), .int (nI b), .int (nI j)] M) (am_is (-nI 6) (am_set M 16 6 (M 16 6 + nI 1))) := by
  obtain ⟨hF, hA, hHr, hHs, hLt, hK, hH⟩ := id hS
  obtain ⟨oA, oF, oHr, oLt, oK, oH⟩ := id hO
  refine am_goR 3 (s2 := (5, [.ref 0, .int (nI i), .int (nI b), .int (nI j)], [.int (nI i), .ref 1], M)) rfl ?_
  refine am_goX (v := nI 1) (M2 := M) (s2 := (8, [.ref 0, .int (nI i), .int (nI b), .int (nI j)], [], M)) rfl (s_hasArm1_1 hS.2.1 hO.1 (i := i) (by omega)) ?_
  refine am_goR 2 (s2 := (12, [.ref 0, .int (nI i), .int (nI b), .int (nI j)], [.int (nI b)], M)) rfl ?_
  refine am_goX (v := nI 1) (M2 := M) (s2 := (15, [.ref 0, .int (nI i), .int (nI b), .int (nI j)], [], M)) rfl (s_isHand1 (b := b) (by omega)) ?_
  refine am_goR 2 (s2 := (19, [.ref 0, .int (nI i), .int (nI b), .int (nI j)], [.int (nI j)], M)) rfl ?_
  refine am_goX (v := nI 1) (M2 := M) (s2 := (22, [.ref 0, .int (nI i), .int (nI b), .int (nI j)], [], M)) rfl (s_isJoint1 (j := j) (by omega)) ?_
  refine am_goR 6 (s2 := (38, [.ref 0, .int (nI i), .int (nI b), .int (nI j)], [.int (nI j), .int (nI b), .int (nI i), .ref 1], M)) rfl ?_
  refine am_goX (v := am_b (sp_wk lt (k i) hr && sp_cn a f k h i b 9 j)) (M2 := M) (s2 := (41, [.ref 0, .int (nI i), .int (nI b), .int (nI j)], [], M)) rfl (s_canGo_1 hS hO (i := i) (b := b) (j := j) (by omega) (by omega) (by omega)) ?_
  refine am_bB1 (sp_wk lt (k i) hr && sp_cn a f k h i b 9 j) (s1 := (51, [.ref 0, .int (nI i), .int (nI b), .int (nI j)], [], M)) (s2 := (44, [.ref 0, .int (nI i), .int (nI b), .int (nI j)], [], M)) rfl (fun c1 => ?_) (fun c1 => absurd c1 (by simp [*]))
  refine am_goQ 4 (s1 := (61, [.ref 0, .int (nI i), .int (nI b), .int (nI j)], [.int (nI 9999), .int ((M 1 3))], M)) (s2 := (61, [.ref 0, .int (nI i), .int (nI b), .int (nI j)], [.int (nI 9999), .int (nI hs)], M)) rfl (by simp only [hHs]) ?_
  refine am_bLT (hs) (9999) (s1 := (71, [.ref 0, .int (nI i), .int (nI b), .int (nI j)], [], M)) (s2 := (64, [.ref 0, .int (nI i), .int (nI b), .int (nI j)], [], M)) rfl (by omega) (by omega) (fun c2 => absurd c2 (by omega)) (fun c2 => ?_)
  refine am_goR 2 (s2 := (67, [.ref 0, .int (nI i), .int (nI b), .int (nI j)], [.int ((-nI 6)), .ref 0], M)) rfl ?_
  refine am_goX (v := (-nI 6)) (M2 := (am_set M 16 6 (M 16 6 + nI 1))) (s2 := (70, [.ref 0, .int (nI i), .int (nI b), .int (nI j)], [], M)) rfl (s_refuse_6) ?_
  exact am_ends (-nI 6) _ rfl rfl rfl

set_option maxHeartbeats 4000000 in
theorem r_step_4 {M : am_Mem} {a f hr hs lt : Nat} {k h : Nat → Nat} (hS : sp_M M a f hr hs lt k h) (hO : sp_ok a f hr lt k h) (oD : ∀ p q, p < 2 * a → q < 2 * a → h p = h q → p = q) {i : Nat} (hi : i < a) {b : Nat} (hb : b < 2) {j : Nat} (hj : j < 12) (hc : (sp_wk lt (k i) hr && sp_cn a f k h i b 9 j) = true) (hh : hs = 9999) : am_go 122 (am_ent 122 [.ref 17, .int (nI i), .int (nI b), .int (nI j)] M) (am_is (-nI 6) (am_set M 18 6 (M 18 6 + nI 1))) := by
  obtain ⟨hF, hA, hHr, hHs, hLt, hK, hH⟩ := id hS
  obtain ⟨oA, oF, oHr, oLt, oK, oH⟩ := id hO
  refine am_goR 3 (s2 := (3, [.ref 17, .int (nI i), .int (nI b), .int (nI j), .null], [.int (nI b), .int (nI i), .ref 17], M)) rfl ?_
  refine am_goX (v := nI 1) (M2 := M) (s2 := (6, [.ref 17, .int (nI i), .int (nI b), .int (nI j), .null], [], M)) rfl (t_isHand1 hS.2.1 hO.1 (i := i) (b := b) (by omega) (by omega)) ?_
  refine am_goR 2 (s2 := (10, [.ref 17, .int (nI i), .int (nI b), .int (nI j), .null], [.int (nI j)], M)) rfl ?_
  refine am_goX (v := nI 1) (M2 := M) (s2 := (13, [.ref 17, .int (nI i), .int (nI b), .int (nI j), .null], [], M)) rfl (t_isJoint1 (j := j) (by omega)) ?_
  refine am_goR 5 (s2 := (24, [.ref 17, .int (nI i), .int (nI b), .int (nI j), .null], [.int (nI j), .int (nI b), .int (nI i), .ref 17], M)) rfl ?_
  refine am_goX (v := am_b (sp_wk lt (k i) hr && sp_cn a f k h i b 9 j)) (M2 := M) (s2 := (27, [.ref 17, .int (nI i), .int (nI b), .int (nI j), .null], [], M)) rfl (t_maySo hS hO oD (i := i) (b := b) (j := j) (by omega) (by omega) (by omega)) ?_
  refine am_bB1 (sp_wk lt (k i) hr && sp_cn a f k h i b 9 j) (s1 := (35, [.ref 17, .int (nI i), .int (nI b), .int (nI j), .null], [], M)) (s2 := (30, [.ref 17, .int (nI i), .int (nI b), .int (nI j), .null], [], M)) rfl (fun c1 => ?_) (fun c1 => absurd c1 (by simp [*]))
  refine am_goQ 3 (s1 := (42, [.ref 17, .int (nI i), .int (nI b), .int (nI j), .null], [.int (nI 9999), .int ((M 17 6))], M)) (s2 := (42, [.ref 17, .int (nI i), .int (nI b), .int (nI j), .null], [.int (nI 9999), .int (nI hs)], M)) rfl (by simp only [hHs]) ?_
  refine am_bNE (hs) (9999) (s1 := (50, [.ref 17, .int (nI i), .int (nI b), .int (nI j), .null], [], M)) (s2 := (45, [.ref 17, .int (nI i), .int (nI b), .int (nI j), .null], [], M)) rfl (by omega) (by omega) (fun c2 => absurd c2 (by omega)) (fun c2 => ?_)
  refine am_goR 7 (s2 := (61, [.ref 17, .int (nI i), .int (nI b), .int (nI j), .int ((-nI 6))], [.int ((-nI 6)), .ref 17], M)) rfl ?_
  refine am_goX (v := (-nI 6)) (M2 := (am_set M 18 6 (M 18 6 + nI 1))) (s2 := (64, [.ref 17, .int (nI i), .int (nI b), .int (nI j), .int ((-nI 6))], [], M)) rfl (t_no_6) ?_
  exact am_ends (-nI 6) _ rfl rfl rfl

set_option maxHeartbeats 4000000 in
theorem c_step_5 {M : am_Mem} {a f hr hs lt : Nat} {k h : Nat → Nat} (hS : sp_S 1 M a f hr hs lt k h) (hO : sp_ok a f hr lt k h) {i : Nat} (hi : i < a) {b : Nat} (hb : b < 2) {j : Nat} (hj : j < 12) (hc : (sp_wk lt (k i) hr && sp_cn a f k h i b 9 j) = true) (hh : hs < 9999) : am_go 58 (am_ent 58 [.ref 0, .int (nI i), .int (nI b), .int (nI j)] M) (am_is (nI (hs + 1)) (am_set (am_set (am_set M 3 (2 * i + b) (nI j)) 1 2 (nI ((hr + 1) % 24))) 1 3 (nI (hs + 1)))) := by
  obtain ⟨hF, hA, hHr, hHs, hLt, hK, hH⟩ := id hS
  obtain ⟨oA, oF, oHr, oLt, oK, oH⟩ := id hO
  refine am_goR 3 (s2 := (5, [.ref 0, .int (nI i), .int (nI b), .int (nI j)], [.int (nI i), .ref 1], M)) rfl ?_
  refine am_goX (v := nI 1) (M2 := M) (s2 := (8, [.ref 0, .int (nI i), .int (nI b), .int (nI j)], [], M)) rfl (s_hasArm1_1 hS.2.1 hO.1 (i := i) (by omega)) ?_
  refine am_goR 2 (s2 := (12, [.ref 0, .int (nI i), .int (nI b), .int (nI j)], [.int (nI b)], M)) rfl ?_
  refine am_goX (v := nI 1) (M2 := M) (s2 := (15, [.ref 0, .int (nI i), .int (nI b), .int (nI j)], [], M)) rfl (s_isHand1 (b := b) (by omega)) ?_
  refine am_goR 2 (s2 := (19, [.ref 0, .int (nI i), .int (nI b), .int (nI j)], [.int (nI j)], M)) rfl ?_
  refine am_goX (v := nI 1) (M2 := M) (s2 := (22, [.ref 0, .int (nI i), .int (nI b), .int (nI j)], [], M)) rfl (s_isJoint1 (j := j) (by omega)) ?_
  refine am_goR 6 (s2 := (38, [.ref 0, .int (nI i), .int (nI b), .int (nI j)], [.int (nI j), .int (nI b), .int (nI i), .ref 1], M)) rfl ?_
  refine am_goX (v := am_b (sp_wk lt (k i) hr && sp_cn a f k h i b 9 j)) (M2 := M) (s2 := (41, [.ref 0, .int (nI i), .int (nI b), .int (nI j)], [], M)) rfl (s_canGo_1 hS hO (i := i) (b := b) (j := j) (by omega) (by omega) (by omega)) ?_
  refine am_bB1 (sp_wk lt (k i) hr && sp_cn a f k h i b 9 j) (s1 := (51, [.ref 0, .int (nI i), .int (nI b), .int (nI j)], [], M)) (s2 := (44, [.ref 0, .int (nI i), .int (nI b), .int (nI j)], [], M)) rfl (fun c1 => ?_) (fun c1 => absurd c1 (by simp [*]))
  refine am_goQ 4 (s1 := (61, [.ref 0, .int (nI i), .int (nI b), .int (nI j)], [.int (nI 9999), .int ((M 1 3))], M)) (s2 := (61, [.ref 0, .int (nI i), .int (nI b), .int (nI j)], [.int (nI 9999), .int (nI hs)], M)) rfl (by simp only [hHs]) ?_
  refine am_bLT (hs) (9999) (s1 := (71, [.ref 0, .int (nI i), .int (nI b), .int (nI j)], [], M)) (s2 := (64, [.ref 0, .int (nI i), .int (nI b), .int (nI j)], [], M)) rfl (by omega) (by omega) (fun c2 => ?_) (fun c2 => absurd c2 (by omega))
  refine am_goR 5 (s2 := (78, [.ref 0, .int (nI i), .int (nI b), .int (nI j)], [.int (nI j), .int (nI b), .int (nI i), .ref 1], M)) rfl ?_
  refine am_goY (M2 := (am_set M 3 (((2 * i) + b)) (nI j))) (s2 := (81, [.ref 0, .int (nI i), .int (nI b), .int (nI j)], [], M)) rfl (s_putHand_1 hS.2.1 hO.1 (i := i) (b := b) (j := j) (by omega) (by omega)) ?_
  refine am_goR 3 (s2 := (86, [.ref 0, .int (nI i), .int (nI b), .int (nI j)], [.int (nI 1), .ref 1], (am_set M 3 (((2 * i) + b)) (nI j)))) rfl ?_
  refine am_goY (M2 := (am_set (am_set (am_set M 3 (((2 * i) + b)) (nI j)) 1 2 (nI ((hr + 1) % 24))) 1 3 (nI (hs + 1)))) (s2 := (89, [.ref 0, .int (nI i), .int (nI b), .int (nI j)], [], (am_set M 3 (((2 * i) + b)) (nI j)))) rfl (s_goBy_1 hS.2.2.1 hS.2.2.2.1 (n := 1) (by omega) (by omega) (by omega)) ?_
  refine am_goR 3 (s2 := (96, [.ref 0, .int (nI i), .int (nI b), .int (nI j)], [.int (nI (hs + 1))], (am_set (am_set (am_set M 3 (((2 * i) + b)) (nI j)) 1 2 (nI ((hr + 1) % 24))) 1 3 (nI (hs + 1))))) rfl ?_
  exact am_ends (nI (hs + 1)) _ rfl (by rfl) (rfl)

set_option maxHeartbeats 4000000 in
theorem r_step_5 {M : am_Mem} {a f hr hs lt : Nat} {k h : Nat → Nat} (hS : sp_M M a f hr hs lt k h) (hO : sp_ok a f hr lt k h) (oD : ∀ p q, p < 2 * a → q < 2 * a → h p = h q → p = q) {i : Nat} (hi : i < a) {b : Nat} (hb : b < 2) {j : Nat} (hj : j < 12) (hc : (sp_wk lt (k i) hr && sp_cn a f k h i b 9 j) = true) (hh : hs < 9999) : am_go 122 (am_ent 122 [.ref 17, .int (nI i), .int (nI b), .int (nI j)] M) (am_is (nI (hs + 1)) (am_set (am_set (am_set M 20 (2 * i + b) (nI j)) 17 5 (nI ((hr + 1) % 24))) 17 6 (nI (hs + 1)))) := by
  obtain ⟨hF, hA, hHr, hHs, hLt, hK, hH⟩ := id hS
  obtain ⟨oA, oF, oHr, oLt, oK, oH⟩ := id hO
  refine am_goR 3 (s2 := (3, [.ref 17, .int (nI i), .int (nI b), .int (nI j), .null], [.int (nI b), .int (nI i), .ref 17], M)) rfl ?_
  refine am_goX (v := nI 1) (M2 := M) (s2 := (6, [.ref 17, .int (nI i), .int (nI b), .int (nI j), .null], [], M)) rfl (t_isHand1 hS.2.1 hO.1 (i := i) (b := b) (by omega) (by omega)) ?_
  refine am_goR 2 (s2 := (10, [.ref 17, .int (nI i), .int (nI b), .int (nI j), .null], [.int (nI j)], M)) rfl ?_
  refine am_goX (v := nI 1) (M2 := M) (s2 := (13, [.ref 17, .int (nI i), .int (nI b), .int (nI j), .null], [], M)) rfl (t_isJoint1 (j := j) (by omega)) ?_
  refine am_goR 5 (s2 := (24, [.ref 17, .int (nI i), .int (nI b), .int (nI j), .null], [.int (nI j), .int (nI b), .int (nI i), .ref 17], M)) rfl ?_
  refine am_goX (v := am_b (sp_wk lt (k i) hr && sp_cn a f k h i b 9 j)) (M2 := M) (s2 := (27, [.ref 17, .int (nI i), .int (nI b), .int (nI j), .null], [], M)) rfl (t_maySo hS hO oD (i := i) (b := b) (j := j) (by omega) (by omega) (by omega)) ?_
  refine am_bB1 (sp_wk lt (k i) hr && sp_cn a f k h i b 9 j) (s1 := (35, [.ref 17, .int (nI i), .int (nI b), .int (nI j), .null], [], M)) (s2 := (30, [.ref 17, .int (nI i), .int (nI b), .int (nI j), .null], [], M)) rfl (fun c1 => ?_) (fun c1 => absurd c1 (by simp [*]))
  refine am_goQ 3 (s1 := (42, [.ref 17, .int (nI i), .int (nI b), .int (nI j), .null], [.int (nI 9999), .int ((M 17 6))], M)) (s2 := (42, [.ref 17, .int (nI i), .int (nI b), .int (nI j), .null], [.int (nI 9999), .int (nI hs)], M)) rfl (by simp only [hHs]) ?_
  refine am_bNE (hs) (9999) (s1 := (50, [.ref 17, .int (nI i), .int (nI b), .int (nI j), .null], [], M)) (s2 := (45, [.ref 17, .int (nI i), .int (nI b), .int (nI j), .null], [], M)) rfl (by omega) (by omega) (fun c2 => ?_) (fun c2 => absurd c2 (by omega))
  refine am_goQ 12 (s1 := (75, [.ref 17, .int (nI i), .int (nI b), .int (nI j), .int (nI 0)], [.int (nI j), .int (((nI 2 * nI i) + nI b)), .ref 20], M)) (s2 := (75, [.ref 17, .int (nI i), .int (nI b), .int (nI j), .int (nI 0)], [.int (nI j), .int (nI ((2 * i) + b)), .ref 20], M)) rfl (by simp only [pk_mul, nI_add]) ?_
  refine am_goS (pc := 76) (ls := [.ref 17, .int (nI i), .int (nI b), .int (nI j), .int (nI 0)]) (r := []) (M := M) (a := 20) (n := 8) (v := nI j) (((2 * i) + b)) rfl rfl (by omega) (by decide) ?_
  refine am_goR 1 (s2 := (77, [.ref 17, .int (nI i), .int (nI b), .int (nI j), .int (nI 0)], [.ref 17], (am_set M 20 ((2 * i) + b) (nI j)))) rfl ?_
  refine am_goX (v := nI (hs + 1)) (M2 := (am_set (am_set (am_set M 20 ((2 * i) + b) (nI j)) 17 5 (nI ((hr + 1) % 24))) 17 6 (nI (hs + 1)))) (s2 := (80, [.ref 17, .int (nI i), .int (nI b), .int (nI j), .int (nI 0)], [], (am_set M 20 ((2 * i) + b) (nI j)))) rfl (t_done (M := (am_set M 20 ((2 * i) + b) (nI j))) (hr := hr) (hs := hs) hS.2.2.1 hS.2.2.2.1 (by omega) (by omega)) ?_
  exact am_ends (nI (hs + 1)) _ rfl (by rfl) (rfl)

theorem pp_step {M : am_Mem} (hI : sp_Inv M) (x y z : Int32) : sp_PP 58 122 [.int x, .int y, .int z] M := by
  obtain ⟨⟨⟨a, f, hr, hs, lt, k, h⟩, t, w2, n, tx, rn, ro, rf⟩, hC, hR, hG⟩ := hI
  have hO := hG.1.1
  have oD := hG.1.2.2.1
  have oFx := hG.1.2.2.2
  have oA := hO.1
  have oHs := hG.1.2.1
  dsimp only at oD oFx oA oHs
  have hO : sp_ok a f hr lt k h := hO
  have hS1 : sp_S 1 M a f hr hs lt k h := hC.1
  have hM1 : ∀ N, sp_IR N ((a, f, hr, hs, lt, k, h), t, w2, n, tx, rn, ro, rf) → sp_M N a f hr hs lt k h := fun N hN => hN.1
  rcases am_in_cs x (n := a) (by omega) with hx | ⟨i, hi, rfl⟩
  · exact sp_PPr 1 (by decide) hC hR hG (c_step_0 hS1 hO hx) (fun N hN => r_step_0 (hM1 N hN) hO oD hx)
  · rcases am_in_cs y (n := 2) (by omega) with hy | ⟨b, hb, rfl⟩
    · exact sp_PPr 1 (by decide) hC hR hG (c_step_1 hS1 hO hi hy) (fun N hN => r_step_1 (hM1 N hN) hO oD hi hy)
    · rcases am_in_cs z (n := 12) (by omega) with hz | ⟨j, hj, rfl⟩
      · exact sp_PPr 1 (by decide) hC hR hG (c_step_2 hS1 hO hi hb hz) (fun N hN => r_step_2 (hM1 N hN) hO oD hi hb hz)
      · cases hc : (sp_wk lt (k i) hr && sp_cn a f k h i b 9 j) with
        | false => exact sp_PPr 3 (by decide) hC hR hG (c_step_3 hS1 hO hi hb hj hc) (fun N hN => r_step_3 (hM1 N hN) hO oD hi hb hj hc)
        | true =>
          by_cases hh : hs = 9999
          · exact sp_PPr 6 (by decide) hC hR hG (c_step_4 hS1 hO hi hb hj hc hh) (fun N hN => r_step_4 (hM1 N hN) hO oD hi hb hj hc hh)
          · have hcn := sp_cn_of oA (Bool.and_eq_true _ _ ▸ hc).2
            refine sp_comb (z2 := ((a, f, (hr + 1) % 24, hs + 1, lt, k, sp_up h (2 * i + b) j), t, w2, n, tx, rn, ro, rf)) hR (am_goW (c_step_5 hS1 hO hi hb hj hc (by omega)) (fun r N9 hN9 => by
          obtain ⟨v, rfl, rfl, rfl⟩ := hN9
          refine ⟨_, rfl, rfl, fun a9 b9 c9 => by rw [am_set_o (by omega)]; rw [am_set_o (by omega)]; rw [am_set_o (by omega)], hC.st (sp_S_up hS1) (fun a9 b9 c9 c1 c2 c3 => by rw [am_set_o (by omega)]; rw [am_set_o (by omega)]; rw [am_set_o (by omega)])⟩)) (fun N hN => am_goW (r_step_5 (hM1 N hN) hO oD hi hb hj hc (by omega)) (fun r N9 hN9 => by
          obtain ⟨v, rfl, rfl, rfl⟩ := hN9
          refine ⟨_, rfl, rfl, fun a9 b9 c9 => by rw [am_set_o (by omega)]; rw [am_set_o (by omega)]; rw [am_set_o (by omega)], hN.st (sp_M_up (hM1 N hN)) (fun a9 b9 c9 c1 c2 c3 => by rw [am_set_o (by omega)]; rw [am_set_o (by omega)]; rw [am_set_o (by omega)])⟩)) ⟨hG.1.up (by omega) (by omega) hj hcn.1 hcn.2, hG.2⟩

set_option maxHeartbeats 4000000 in
theorem s_turn_full {M : am_Mem} {a f hr hs lt : Nat} {k h : Nat → Nat} (hS : sp_S 1 M a f hr hs lt k h) (hO : sp_ok a f hr lt k h) {j : Nat} (hj : j < 12) (hh : hs = 9999) : am_go 61 (am_ent 61 [.ref 0, .int (nI j)] M) (am_is (-nI 6) (am_set M 16 6 (M 16 6 + nI 1))) := by
  obtain ⟨hF, hA, hHr, hHs, hLt, hK, hH⟩ := id hS
  obtain ⟨oA, oF, oHr, oLt, oK, oH⟩ := id hO
  refine am_goQ 4 (s1 := (10, [.ref 0, .int (nI j)], [.int (nI 9999), .int ((M 1 3))], M)) (s2 := (10, [.ref 0, .int (nI j)], [.int (nI 9999), .int (nI hs)], M)) rfl (by simp only [hHs]) ?_
  refine am_bLT (hs) (9999) (s1 := (20, [.ref 0, .int (nI j)], [], M)) (s2 := (13, [.ref 0, .int (nI j)], [], M)) rfl (by omega) (by omega) (fun c1 => absurd c1 (by omega)) (fun c1 => ?_)
  refine am_goR 2 (s2 := (16, [.ref 0, .int (nI j)], [.int ((-nI 6)), .ref 0], M)) rfl ?_
  refine am_goX (v := (-nI 6)) (M2 := (am_set M 16 6 (M 16 6 + nI 1))) (s2 := (19, [.ref 0, .int (nI j)], [], M)) rfl (s_refuse_6) ?_
  exact am_ends (-nI 6) _ rfl rfl rfl

set_option maxHeartbeats 4000000 in
theorem s_turn {M : am_Mem} {a f hr hs lt : Nat} {k h : Nat → Nat} (hS : sp_S 1 M a f hr hs lt k h) (hO : sp_ok a f hr lt k h) {j : Nat} (hj : j < 12) (hh : hs < 9999) : am_go 61 (am_ent 61 [.ref 0, .int (nI j)] M) (am_is (nI (hs + 1)) (am_set (am_set (am_set M 1 0 (nI (f ^^^ 2 ^ j))) 1 2 (nI ((hr + 1) % 24))) 1 3 (nI (hs + 1)))) := by
  obtain ⟨hF, hA, hHr, hHs, hLt, hK, hH⟩ := id hS
  obtain ⟨oA, oF, oHr, oLt, oK, oH⟩ := id hO
  refine am_goQ 4 (s1 := (10, [.ref 0, .int (nI j)], [.int (nI 9999), .int ((M 1 3))], M)) (s2 := (10, [.ref 0, .int (nI j)], [.int (nI 9999), .int (nI hs)], M)) rfl (by simp only [hHs]) ?_
  refine am_bLT (hs) (9999) (s1 := (20, [.ref 0, .int (nI j)], [], M)) (s2 := (13, [.ref 0, .int (nI j)], [], M)) rfl (by omega) (by omega) (fun c1 => ?_) (fun c1 => absurd c1 (by omega))
  refine am_goQ 8 (s1 := (32, [.ref 0, .int (nI j)], [.int (((M 1 0) ^^^ (nI 1 <<< (nI j &&& 31)))), .ref 1], M)) (s2 := (32, [.ref 0, .int (nI j)], [.int (nI (f ^^^ (2 ^ j))), .ref 1], M)) rfl (by simp only [hF, am_shl1 (j := j) (by omega), am_xor]) ?_
  refine am_goR 4 (s2 := (40, [.ref 0, .int (nI j)], [.int (nI 1), .ref 1], (am_set M 1 0 (nI (f ^^^ (2 ^ j)))))) rfl ?_
  refine am_goY (M2 := (am_set (am_set (am_set M 1 0 (nI (f ^^^ (2 ^ j)))) 1 2 (nI ((hr + 1) % 24))) 1 3 (nI (hs + 1)))) (s2 := (43, [.ref 0, .int (nI j)], [], (am_set M 1 0 (nI (f ^^^ (2 ^ j)))))) rfl (s_goBy_1 hS.2.2.1 hS.2.2.2.1 (n := 1) (by omega) (by omega) (by omega)) ?_
  refine am_goR 3 (s2 := (50, [.ref 0, .int (nI j)], [.int (nI (hs + 1))], (am_set (am_set (am_set M 1 0 (nI (f ^^^ (2 ^ j)))) 1 2 (nI ((hr + 1) % 24))) 1 3 (nI (hs + 1))))) rfl ?_
  exact am_ends (nI (hs + 1)) _ rfl (by rfl) (rfl)

set_option maxHeartbeats 4000000 in
theorem c_fix_0 {M : am_Mem} {a f hr hs lt : Nat} {k h : Nat → Nat} (hS : sp_S 1 M a f hr hs lt k h) (hO : sp_ok a f hr lt k h) {x : Int32} (hx : am_in x a = false) {y : Int32} : am_go 59 (am_ent 59 [.ref 0, .int (x), .int (y)] M) (am_is (-nI 1) (am_set M 16 1 (M 16 1 + nI 1))) := by
  obtain ⟨hF, hA, hHr, hHs, hLt, hK, hH⟩ := id hS
  obtain ⟨oA, oF, oHr, oLt, oK, oH⟩ := id hO
  refine am_goR 3 (s2 := (5, [.ref 0, .int (x), .int (y)], [.int (x), .ref 1], M)) rfl ?_
  refine am_goX (v := am_b (am_in x a)) (M2 := M) (s2 := (8, [.ref 0, .int (x), .int (y)], [], M)) rfl (s_hasArm_1 hS.2.1 hO.1) ?_
  refine am_bB0 (am_in x a) (s1 := (18, [.ref 0, .int (x), .int (y)], [], M)) (s2 := (11, [.ref 0, .int (x), .int (y)], [], M)) rfl (fun c1 => ?_) (fun c1 => absurd c1 (by simp [*]))
  refine am_goR 2 (s2 := (20, [.ref 0, .int (x), .int (y)], [.int ((-nI 1)), .ref 0], M)) rfl ?_
  refine am_goX (v := (-nI 1)) (M2 := (am_set M 16 1 (M 16 1 + nI 1))) (s2 := (23, [.ref 0, .int (x), .int (y)], [], M)) rfl (s_refuse_1) ?_
  exact am_ends (-nI 1) _ rfl rfl rfl

set_option maxHeartbeats 4000000 in
theorem r_fix_0 {M : am_Mem} {a f hr hs lt : Nat} {k h : Nat → Nat} (hS : sp_M M a f hr hs lt k h) (hO : sp_ok a f hr lt k h) (oD : ∀ p q, p < 2 * a → q < 2 * a → h p = h q → p = q) {x : Int32} (hx : am_in x a = false) {y : Int32} : am_go 124 (am_ent 124 [.ref 17, .int (x), .int (y)] M) (am_is (-nI 1) (am_set M 18 1 (M 18 1 + nI 1))) := by
  obtain ⟨hF, hA, hHr, hHs, hLt, hK, hH⟩ := id hS
  obtain ⟨oA, oF, oHr, oLt, oK, oH⟩ := id hO
  refine am_goR 2 (s2 := (2, [.ref 17, .int (x), .int (y), .null], [.int (x), .ref 17], M)) rfl ?_
  refine am_goX (v := am_b (am_in x a)) (M2 := M) (s2 := (5, [.ref 17, .int (x), .int (y), .null], [], M)) rfl (t_isArm hS.2.1 hO.1) ?_
  refine am_bB0 (am_in x a) (s1 := (15, [.ref 17, .int (x), .int (y), .null], [], M)) (s2 := (8, [.ref 17, .int (x), .int (y), .null], [], M)) rfl (fun c1 => ?_) (fun c1 => absurd c1 (by simp [*]))
  refine am_goR 7 (s2 := (76, [.ref 17, .int (x), .int (y), .int ((-nI 1))], [.int ((-nI 1)), .ref 17], M)) rfl ?_
  refine am_goX (v := (-nI 1)) (M2 := (am_set M 18 1 (M 18 1 + nI 1))) (s2 := (79, [.ref 17, .int (x), .int (y), .int ((-nI 1))], [], M)) rfl (t_no_1) ?_
  exact am_ends (-nI 1) _ rfl rfl rfl

set_option maxHeartbeats 4000000 in
theorem c_fix_1 {M : am_Mem} {a f hr hs lt : Nat} {k h : Nat → Nat} (hS : sp_S 1 M a f hr hs lt k h) (hO : sp_ok a f hr lt k h) {i : Nat} (hi : i < a) {y : Int32} (hy : am_in y 12 = false) : am_go 59 (am_ent 59 [.ref 0, .int (nI i), .int (y)] M) (am_is (-nI 1) (am_set M 16 1 (M 16 1 + nI 1))) := by
  obtain ⟨hF, hA, hHr, hHs, hLt, hK, hH⟩ := id hS
  obtain ⟨oA, oF, oHr, oLt, oK, oH⟩ := id hO
  refine am_goR 3 (s2 := (5, [.ref 0, .int (nI i), .int (y)], [.int (nI i), .ref 1], M)) rfl ?_
  refine am_goX (v := nI 1) (M2 := M) (s2 := (8, [.ref 0, .int (nI i), .int (y)], [], M)) rfl (s_hasArm1_1 hS.2.1 hO.1 (i := i) (by omega)) ?_
  refine am_goR 2 (s2 := (12, [.ref 0, .int (nI i), .int (y)], [.int (y)], M)) rfl ?_
  refine am_goX (v := am_b (am_in y 12)) (M2 := M) (s2 := (15, [.ref 0, .int (nI i), .int (y)], [], M)) rfl (s_isJoint) ?_
  refine am_bB1 (am_in y 12) (s1 := (24, [.ref 0, .int (nI i), .int (y)], [], M)) (s2 := (18, [.ref 0, .int (nI i), .int (y)], [], M)) rfl (fun c1 => absurd c1 (by simp [*])) (fun c1 => ?_)
  refine am_goR 2 (s2 := (20, [.ref 0, .int (nI i), .int (y)], [.int ((-nI 1)), .ref 0], M)) rfl ?_
  refine am_goX (v := (-nI 1)) (M2 := (am_set M 16 1 (M 16 1 + nI 1))) (s2 := (23, [.ref 0, .int (nI i), .int (y)], [], M)) rfl (s_refuse_1) ?_
  exact am_ends (-nI 1) _ rfl rfl rfl

set_option maxHeartbeats 4000000 in
theorem r_fix_1 {M : am_Mem} {a f hr hs lt : Nat} {k h : Nat → Nat} (hS : sp_M M a f hr hs lt k h) (hO : sp_ok a f hr lt k h) (oD : ∀ p q, p < 2 * a → q < 2 * a → h p = h q → p = q) {i : Nat} (hi : i < a) {y : Int32} (hy : am_in y 12 = false) : am_go 124 (am_ent 124 [.ref 17, .int (nI i), .int (y)] M) (am_is (-nI 1) (am_set M 18 1 (M 18 1 + nI 1))) := by
  obtain ⟨hF, hA, hHr, hHs, hLt, hK, hH⟩ := id hS
  obtain ⟨oA, oF, oHr, oLt, oK, oH⟩ := id hO
  refine am_goR 2 (s2 := (2, [.ref 17, .int (nI i), .int (y), .null], [.int (nI i), .ref 17], M)) rfl ?_
  refine am_goX (v := nI 1) (M2 := M) (s2 := (5, [.ref 17, .int (nI i), .int (y), .null], [], M)) rfl (t_isArm1 hS.2.1 hO.1 (i := i) (by omega)) ?_
  refine am_goR 2 (s2 := (9, [.ref 17, .int (nI i), .int (y), .null], [.int (y)], M)) rfl ?_
  refine am_goX (v := am_b (am_in y 12)) (M2 := M) (s2 := (12, [.ref 17, .int (nI i), .int (y), .null], [], M)) rfl (t_isJoint) ?_
  refine am_bB1 (am_in y 12) (s1 := (19, [.ref 17, .int (nI i), .int (y), .null], [], M)) (s2 := (15, [.ref 17, .int (nI i), .int (y), .null], [], M)) rfl (fun c1 => absurd c1 (by simp [*])) (fun c1 => ?_)
  refine am_goR 7 (s2 := (76, [.ref 17, .int (nI i), .int (y), .int ((-nI 1))], [.int ((-nI 1)), .ref 17], M)) rfl ?_
  refine am_goX (v := (-nI 1)) (M2 := (am_set M 18 1 (M 18 1 + nI 1))) (s2 := (79, [.ref 17, .int (nI i), .int (y), .int ((-nI 1))], [], M)) rfl (t_no_1) ?_
  exact am_ends (-nI 1) _ rfl rfl rfl

set_option maxHeartbeats 4000000 in
theorem c_fix_2 {M : am_Mem} {a f hr hs lt : Nat} {k h : Nat → Nat} (hS : sp_S 1 M a f hr hs lt k h) (hO : sp_ok a f hr lt k h) {i : Nat} (hi : i < a) {j : Nat} (hj : j < 12) (hc : (sp_wk lt (k i) hr && sp_be h i j && !f.testBit j) = false) : am_go 59 (am_ent 59 [.ref 0, .int (nI i), .int (nI j)] M) (am_is (-nI 3) (am_set M 16 3 (M 16 3 + nI 1))) := by
  obtain ⟨hF, hA, hHr, hHs, hLt, hK, hH⟩ := id hS
  obtain ⟨oA, oF, oHr, oLt, oK, oH⟩ := id hO
  refine am_goR 3 (s2 := (5, [.ref 0, .int (nI i), .int (nI j)], [.int (nI i), .ref 1], M)) rfl ?_
  refine am_goX (v := nI 1) (M2 := M) (s2 := (8, [.ref 0, .int (nI i), .int (nI j)], [], M)) rfl (s_hasArm1_1 hS.2.1 hO.1 (i := i) (by omega)) ?_
  refine am_goR 2 (s2 := (12, [.ref 0, .int (nI i), .int (nI j)], [.int (nI j)], M)) rfl ?_
  refine am_goX (v := nI 1) (M2 := M) (s2 := (15, [.ref 0, .int (nI i), .int (nI j)], [], M)) rfl (s_isJoint1 (j := j) (by omega)) ?_
  refine am_goR 5 (s2 := (30, [.ref 0, .int (nI i), .int (nI j)], [.int (nI j), .int (nI i), .ref 1], M)) rfl ?_
  refine am_goX (v := am_b (sp_wk lt (k i) hr && sp_be h i j && !f.testBit j)) (M2 := M) (s2 := (33, [.ref 0, .int (nI i), .int (nI j)], [], M)) rfl (s_canFix_1 hS hO (i := i) (by omega) (j := j) (by omega)) ?_
  refine am_bB1 (sp_wk lt (k i) hr && sp_be h i j && !f.testBit j) (s1 := (43, [.ref 0, .int (nI i), .int (nI j)], [], M)) (s2 := (36, [.ref 0, .int (nI i), .int (nI j)], [], M)) rfl (fun c1 => absurd c1 (by simp [*])) (fun c1 => ?_)
  refine am_goR 2 (s2 := (39, [.ref 0, .int (nI i), .int (nI j)], [.int ((-nI 3)), .ref 0], M)) rfl ?_
  refine am_goX (v := (-nI 3)) (M2 := (am_set M 16 3 (M 16 3 + nI 1))) (s2 := (42, [.ref 0, .int (nI i), .int (nI j)], [], M)) rfl (s_refuse_3) ?_
  exact am_ends (-nI 3) _ rfl rfl rfl

set_option maxHeartbeats 4000000 in
theorem r_fix_2 {M : am_Mem} {a f hr hs lt : Nat} {k h : Nat → Nat} (hS : sp_M M a f hr hs lt k h) (hO : sp_ok a f hr lt k h) (oD : ∀ p q, p < 2 * a → q < 2 * a → h p = h q → p = q) {i : Nat} (hi : i < a) {j : Nat} (hj : j < 12) (hc : (sp_wk lt (k i) hr && sp_be h i j && !f.testBit j) = false) : am_go 124 (am_ent 124 [.ref 17, .int (nI i), .int (nI j)] M) (am_is (-nI 3) (am_set M 18 3 (M 18 3 + nI 1))) := by
  obtain ⟨hF, hA, hHr, hHs, hLt, hK, hH⟩ := id hS
  obtain ⟨oA, oF, oHr, oLt, oK, oH⟩ := id hO
  refine am_goR 2 (s2 := (2, [.ref 17, .int (nI i), .int (nI j), .null], [.int (nI i), .ref 17], M)) rfl ?_
  refine am_goX (v := nI 1) (M2 := M) (s2 := (5, [.ref 17, .int (nI i), .int (nI j), .null], [], M)) rfl (t_isArm1 hS.2.1 hO.1 (i := i) (by omega)) ?_
  refine am_goR 2 (s2 := (9, [.ref 17, .int (nI i), .int (nI j), .null], [.int (nI j)], M)) rfl ?_
  refine am_goX (v := nI 1) (M2 := M) (s2 := (12, [.ref 17, .int (nI i), .int (nI j), .null], [], M)) rfl (t_isJoint1 (j := j) (by omega)) ?_
  refine am_goQ 5 (s1 := (25, [.ref 17, .int (nI i), .int (nI j), .null], [.int ((M 17 5)), .int (nI i), .ref 17], M)) (s2 := (25, [.ref 17, .int (nI i), .int (nI j), .null], [.int (nI hr), .int (nI i), .ref 17], M)) rfl (by simp only [hHr]) ?_
  refine am_goX (v := am_b (sp_wk lt (k i) hr)) (M2 := M) (s2 := (28, [.ref 17, .int (nI i), .int (nI j), .null], [], M)) rfl (t_doesWork hS hO (i := i) (r := hr) (by omega) (by omega)) ?_
  refine am_bB0 (sp_wk lt (k i) hr) (s1 := (48, [.ref 17, .int (nI i), .int (nI j), .null], [], M)) (s2 := (31, [.ref 17, .int (nI i), .int (nI j), .null], [], M)) rfl (fun c1 => ?_) (fun c1 => ?_)
  · refine am_goR 7 (s2 := (76, [.ref 17, .int (nI i), .int (nI j), .int ((-nI 3))], [.int ((-nI 3)), .ref 17], M)) rfl ?_
    refine am_goX (v := (-nI 3)) (M2 := (am_set M 18 3 (M 18 3 + nI 1))) (s2 := (79, [.ref 17, .int (nI i), .int (nI j), .int ((-nI 3))], [], M)) rfl (t_no_3) ?_
    exact am_ends (-nI 3) _ rfl rfl rfl
  · refine am_goR 2 (s2 := (33, [.ref 17, .int (nI i), .int (nI j), .null], [.int (nI j), .ref 17], M)) rfl ?_
    refine am_goX (v := am_b (f.testBit j)) (M2 := M) (s2 := (36, [.ref 17, .int (nI i), .int (nI j), .null], [], M)) rfl (t_isFixed hS hO (j := j) (by omega)) ?_
    refine am_bB1 (f.testBit j) (s1 := (48, [.ref 17, .int (nI i), .int (nI j), .null], [], M)) (s2 := (39, [.ref 17, .int (nI i), .int (nI j), .null], [], M)) rfl (fun c2 => ?_) (fun c2 => ?_)
    · refine am_goR 7 (s2 := (76, [.ref 17, .int (nI i), .int (nI j), .int ((-nI 3))], [.int ((-nI 3)), .ref 17], M)) rfl ?_
      refine am_goX (v := (-nI 3)) (M2 := (am_set M 18 3 (M 18 3 + nI 1))) (s2 := (79, [.ref 17, .int (nI i), .int (nI j), .int ((-nI 3))], [], M)) rfl (t_no_3) ?_
      exact am_ends (-nI 3) _ rfl rfl rfl
    · refine am_goR 3 (s2 := (42, [.ref 17, .int (nI i), .int (nI j), .null], [.int (nI j), .int (nI i), .ref 17], M)) rfl ?_
      refine am_goX (v := am_b (sp_be h i j)) (M2 := M) (s2 := (45, [.ref 17, .int (nI i), .int (nI j), .null], [], M)) rfl (t_beside hS hO (i := i) (j := j) (by omega) (by omega)) ?_
      refine am_bB1 (sp_be h i j) (s1 := (53, [.ref 17, .int (nI i), .int (nI j), .null], [], M)) (s2 := (48, [.ref 17, .int (nI i), .int (nI j), .null], [], M)) rfl (fun c3 => absurd c3 (by simp_all [sp_fe])) (fun c3 => ?_)
      refine am_goR 7 (s2 := (76, [.ref 17, .int (nI i), .int (nI j), .int ((-nI 3))], [.int ((-nI 3)), .ref 17], M)) rfl ?_
      refine am_goX (v := (-nI 3)) (M2 := (am_set M 18 3 (M 18 3 + nI 1))) (s2 := (79, [.ref 17, .int (nI i), .int (nI j), .int ((-nI 3))], [], M)) rfl (t_no_3) ?_
      exact am_ends (-nI 3) _ rfl rfl rfl

set_option maxHeartbeats 4000000 in
theorem c_fix_3 {M : am_Mem} {a f hr hs lt : Nat} {k h : Nat → Nat} (hS : sp_S 1 M a f hr hs lt k h) (hO : sp_ok a f hr lt k h) {i : Nat} (hi : i < a) {j : Nat} (hj : j < 12) (hc : (sp_wk lt (k i) hr && sp_be h i j && !f.testBit j) = true) (hh : hs = 9999) : am_go 59 (am_ent 59 [.ref 0, .int (nI i), .int (nI j)] M) (am_is (-nI 6) (am_set M 16 6 (M 16 6 + nI 1))) := by
  obtain ⟨hF, hA, hHr, hHs, hLt, hK, hH⟩ := id hS
  obtain ⟨oA, oF, oHr, oLt, oK, oH⟩ := id hO
  refine am_goR 3 (s2 := (5, [.ref 0, .int (nI i), .int (nI j)], [.int (nI i), .ref 1], M)) rfl ?_
  refine am_goX (v := nI 1) (M2 := M) (s2 := (8, [.ref 0, .int (nI i), .int (nI j)], [], M)) rfl (s_hasArm1_1 hS.2.1 hO.1 (i := i) (by omega)) ?_
  refine am_goR 2 (s2 := (12, [.ref 0, .int (nI i), .int (nI j)], [.int (nI j)], M)) rfl ?_
  refine am_goX (v := nI 1) (M2 := M) (s2 := (15, [.ref 0, .int (nI i), .int (nI j)], [], M)) rfl (s_isJoint1 (j := j) (by omega)) ?_
  refine am_goR 5 (s2 := (30, [.ref 0, .int (nI i), .int (nI j)], [.int (nI j), .int (nI i), .ref 1], M)) rfl ?_
  refine am_goX (v := am_b (sp_wk lt (k i) hr && sp_be h i j && !f.testBit j)) (M2 := M) (s2 := (33, [.ref 0, .int (nI i), .int (nI j)], [], M)) rfl (s_canFix_1 hS hO (i := i) (by omega) (j := j) (by omega)) ?_
  refine am_bB1 (sp_wk lt (k i) hr && sp_be h i j && !f.testBit j) (s1 := (43, [.ref 0, .int (nI i), .int (nI j)], [], M)) (s2 := (36, [.ref 0, .int (nI i), .int (nI j)], [], M)) rfl (fun c1 => ?_) (fun c1 => absurd c1 (by simp [*]))
  refine am_goR 2 (s2 := (45, [.ref 0, .int (nI i), .int (nI j)], [.int (nI j), .ref 0], M)) rfl ?_
  refine am_goX (v := (-nI 6)) (M2 := (am_set M 16 6 (M 16 6 + nI 1))) (s2 := (48, [.ref 0, .int (nI i), .int (nI j)], [], M)) rfl (s_turn_full hS hO hj hh) ?_
  exact am_ends (-nI 6) _ rfl rfl rfl

set_option maxHeartbeats 4000000 in
theorem r_fix_3 {M : am_Mem} {a f hr hs lt : Nat} {k h : Nat → Nat} (hS : sp_M M a f hr hs lt k h) (hO : sp_ok a f hr lt k h) (oD : ∀ p q, p < 2 * a → q < 2 * a → h p = h q → p = q) {i : Nat} (hi : i < a) {j : Nat} (hj : j < 12) (hc : (sp_wk lt (k i) hr && sp_be h i j && !f.testBit j) = true) (hh : hs = 9999) : am_go 124 (am_ent 124 [.ref 17, .int (nI i), .int (nI j)] M) (am_is (-nI 6) (am_set M 18 6 (M 18 6 + nI 1))) := by
  obtain ⟨hF, hA, hHr, hHs, hLt, hK, hH⟩ := id hS
  obtain ⟨oA, oF, oHr, oLt, oK, oH⟩ := id hO
  refine am_goR 2 (s2 := (2, [.ref 17, .int (nI i), .int (nI j), .null], [.int (nI i), .ref 17], M)) rfl ?_
  refine am_goX (v := nI 1) (M2 := M) (s2 := (5, [.ref 17, .int (nI i), .int (nI j), .null], [], M)) rfl (t_isArm1 hS.2.1 hO.1 (i := i) (by omega)) ?_
  refine am_goR 2 (s2 := (9, [.ref 17, .int (nI i), .int (nI j), .null], [.int (nI j)], M)) rfl ?_
  refine am_goX (v := nI 1) (M2 := M) (s2 := (12, [.ref 17, .int (nI i), .int (nI j), .null], [], M)) rfl (t_isJoint1 (j := j) (by omega)) ?_
  refine am_goQ 5 (s1 := (25, [.ref 17, .int (nI i), .int (nI j), .null], [.int ((M 17 5)), .int (nI i), .ref 17], M)) (s2 := (25, [.ref 17, .int (nI i), .int (nI j), .null], [.int (nI hr), .int (nI i), .ref 17], M)) rfl (by simp only [hHr]) ?_
  refine am_goX (v := am_b (sp_wk lt (k i) hr)) (M2 := M) (s2 := (28, [.ref 17, .int (nI i), .int (nI j), .null], [], M)) rfl (t_doesWork hS hO (i := i) (r := hr) (by omega) (by omega)) ?_
  refine am_bB0 (sp_wk lt (k i) hr) (s1 := (48, [.ref 17, .int (nI i), .int (nI j), .null], [], M)) (s2 := (31, [.ref 17, .int (nI i), .int (nI j), .null], [], M)) rfl (fun c1 => absurd c1 (by simp_all [sp_fe])) (fun c1 => ?_)
  refine am_goR 2 (s2 := (33, [.ref 17, .int (nI i), .int (nI j), .null], [.int (nI j), .ref 17], M)) rfl ?_
  refine am_goX (v := am_b (f.testBit j)) (M2 := M) (s2 := (36, [.ref 17, .int (nI i), .int (nI j), .null], [], M)) rfl (t_isFixed hS hO (j := j) (by omega)) ?_
  refine am_bB1 (f.testBit j) (s1 := (48, [.ref 17, .int (nI i), .int (nI j), .null], [], M)) (s2 := (39, [.ref 17, .int (nI i), .int (nI j), .null], [], M)) rfl (fun c2 => absurd c2 (by simp_all [sp_fe])) (fun c2 => ?_)
  refine am_goR 3 (s2 := (42, [.ref 17, .int (nI i), .int (nI j), .null], [.int (nI j), .int (nI i), .ref 17], M)) rfl ?_
  refine am_goX (v := am_b (sp_be h i j)) (M2 := M) (s2 := (45, [.ref 17, .int (nI i), .int (nI j), .null], [], M)) rfl (t_beside hS hO (i := i) (j := j) (by omega) (by omega)) ?_
  refine am_bB1 (sp_be h i j) (s1 := (53, [.ref 17, .int (nI i), .int (nI j), .null], [], M)) (s2 := (48, [.ref 17, .int (nI i), .int (nI j), .null], [], M)) rfl (fun c3 => ?_) (fun c3 => absurd c3 (by simp_all [sp_fe]))
  refine am_goQ 3 (s1 := (60, [.ref 17, .int (nI i), .int (nI j), .null], [.int (nI 9999), .int ((M 17 6))], M)) (s2 := (60, [.ref 17, .int (nI i), .int (nI j), .null], [.int (nI 9999), .int (nI hs)], M)) rfl (by simp only [hHs]) ?_
  refine am_bNE (hs) (9999) (s1 := (68, [.ref 17, .int (nI i), .int (nI j), .null], [], M)) (s2 := (63, [.ref 17, .int (nI i), .int (nI j), .null], [], M)) rfl (by omega) (by omega) (fun c4 => absurd c4 (by omega)) (fun c4 => ?_)
  refine am_goR 7 (s2 := (76, [.ref 17, .int (nI i), .int (nI j), .int ((-nI 6))], [.int ((-nI 6)), .ref 17], M)) rfl ?_
  refine am_goX (v := (-nI 6)) (M2 := (am_set M 18 6 (M 18 6 + nI 1))) (s2 := (79, [.ref 17, .int (nI i), .int (nI j), .int ((-nI 6))], [], M)) rfl (t_no_6) ?_
  exact am_ends (-nI 6) _ rfl rfl rfl

set_option maxHeartbeats 4000000 in
theorem c_fix_4 {M : am_Mem} {a f hr hs lt : Nat} {k h : Nat → Nat} (hS : sp_S 1 M a f hr hs lt k h) (hO : sp_ok a f hr lt k h) {i : Nat} (hi : i < a) {j : Nat} (hj : j < 12) (hc : (sp_wk lt (k i) hr && sp_be h i j && !f.testBit j) = true) (hh : hs < 9999) : am_go 59 (am_ent 59 [.ref 0, .int (nI i), .int (nI j)] M) (am_is (nI (hs + 1)) (am_set (am_set (am_set M 1 0 (nI (f ^^^ 2 ^ j))) 1 2 (nI ((hr + 1) % 24))) 1 3 (nI (hs + 1)))) := by
  obtain ⟨hF, hA, hHr, hHs, hLt, hK, hH⟩ := id hS
  obtain ⟨oA, oF, oHr, oLt, oK, oH⟩ := id hO
  refine am_goR 3 (s2 := (5, [.ref 0, .int (nI i), .int (nI j)], [.int (nI i), .ref 1], M)) rfl ?_
  refine am_goX (v := nI 1) (M2 := M) (s2 := (8, [.ref 0, .int (nI i), .int (nI j)], [], M)) rfl (s_hasArm1_1 hS.2.1 hO.1 (i := i) (by omega)) ?_
  refine am_goR 2 (s2 := (12, [.ref 0, .int (nI i), .int (nI j)], [.int (nI j)], M)) rfl ?_
  refine am_goX (v := nI 1) (M2 := M) (s2 := (15, [.ref 0, .int (nI i), .int (nI j)], [], M)) rfl (s_isJoint1 (j := j) (by omega)) ?_
  refine am_goR 5 (s2 := (30, [.ref 0, .int (nI i), .int (nI j)], [.int (nI j), .int (nI i), .ref 1], M)) rfl ?_
  refine am_goX (v := am_b (sp_wk lt (k i) hr && sp_be h i j && !f.testBit j)) (M2 := M) (s2 := (33, [.ref 0, .int (nI i), .int (nI j)], [], M)) rfl (s_canFix_1 hS hO (i := i) (by omega) (j := j) (by omega)) ?_
  refine am_bB1 (sp_wk lt (k i) hr && sp_be h i j && !f.testBit j) (s1 := (43, [.ref 0, .int (nI i), .int (nI j)], [], M)) (s2 := (36, [.ref 0, .int (nI i), .int (nI j)], [], M)) rfl (fun c1 => ?_) (fun c1 => absurd c1 (by simp [*]))
  refine am_goR 2 (s2 := (45, [.ref 0, .int (nI i), .int (nI j)], [.int (nI j), .ref 0], M)) rfl ?_
  refine am_goX (v := nI (hs + 1)) (M2 := (am_set (am_set (am_set M 1 0 (nI (f ^^^ 2 ^ j))) 1 2 (nI ((hr + 1) % 24))) 1 3 (nI (hs + 1)))) (s2 := (48, [.ref 0, .int (nI i), .int (nI j)], [], M)) rfl (s_turn hS hO hj hh) ?_
  exact am_ends (nI (hs + 1)) _ rfl (by rfl) (rfl)

set_option maxHeartbeats 4000000 in
theorem r_fix_4 {M : am_Mem} {a f hr hs lt : Nat} {k h : Nat → Nat} (hS : sp_M M a f hr hs lt k h) (hO : sp_ok a f hr lt k h) (oD : ∀ p q, p < 2 * a → q < 2 * a → h p = h q → p = q) {i : Nat} (hi : i < a) {j : Nat} (hj : j < 12) (hc : (sp_wk lt (k i) hr && sp_be h i j && !f.testBit j) = true) (hh : hs < 9999) : am_go 124 (am_ent 124 [.ref 17, .int (nI i), .int (nI j)] M) (am_is (nI (hs + 1)) (am_set (am_set (am_set M 17 4 (nI (f ^^^ 2 ^ j))) 17 5 (nI ((hr + 1) % 24))) 17 6 (nI (hs + 1)))) := by
  obtain ⟨hF, hA, hHr, hHs, hLt, hK, hH⟩ := id hS
  obtain ⟨oA, oF, oHr, oLt, oK, oH⟩ := id hO
  refine am_goR 2 (s2 := (2, [.ref 17, .int (nI i), .int (nI j), .null], [.int (nI i), .ref 17], M)) rfl ?_
  refine am_goX (v := nI 1) (M2 := M) (s2 := (5, [.ref 17, .int (nI i), .int (nI j), .null], [], M)) rfl (t_isArm1 hS.2.1 hO.1 (i := i) (by omega)) ?_
  refine am_goR 2 (s2 := (9, [.ref 17, .int (nI i), .int (nI j), .null], [.int (nI j)], M)) rfl ?_
  refine am_goX (v := nI 1) (M2 := M) (s2 := (12, [.ref 17, .int (nI i), .int (nI j), .null], [], M)) rfl (t_isJoint1 (j := j) (by omega)) ?_
  refine am_goQ 5 (s1 := (25, [.ref 17, .int (nI i), .int (nI j), .null], [.int ((M 17 5)), .int (nI i), .ref 17], M)) (s2 := (25, [.ref 17, .int (nI i), .int (nI j), .null], [.int (nI hr), .int (nI i), .ref 17], M)) rfl (by simp only [hHr]) ?_
  refine am_goX (v := am_b (sp_wk lt (k i) hr)) (M2 := M) (s2 := (28, [.ref 17, .int (nI i), .int (nI j), .null], [], M)) rfl (t_doesWork hS hO (i := i) (r := hr) (by omega) (by omega)) ?_
  refine am_bB0 (sp_wk lt (k i) hr) (s1 := (48, [.ref 17, .int (nI i), .int (nI j), .null], [], M)) (s2 := (31, [.ref 17, .int (nI i), .int (nI j), .null], [], M)) rfl (fun c1 => absurd c1 (by simp_all [sp_fe])) (fun c1 => ?_)
  refine am_goR 2 (s2 := (33, [.ref 17, .int (nI i), .int (nI j), .null], [.int (nI j), .ref 17], M)) rfl ?_
  refine am_goX (v := am_b (f.testBit j)) (M2 := M) (s2 := (36, [.ref 17, .int (nI i), .int (nI j), .null], [], M)) rfl (t_isFixed hS hO (j := j) (by omega)) ?_
  refine am_bB1 (f.testBit j) (s1 := (48, [.ref 17, .int (nI i), .int (nI j), .null], [], M)) (s2 := (39, [.ref 17, .int (nI i), .int (nI j), .null], [], M)) rfl (fun c2 => absurd c2 (by simp_all [sp_fe])) (fun c2 => ?_)
  refine am_goR 3 (s2 := (42, [.ref 17, .int (nI i), .int (nI j), .null], [.int (nI j), .int (nI i), .ref 17], M)) rfl ?_
  refine am_goX (v := am_b (sp_be h i j)) (M2 := M) (s2 := (45, [.ref 17, .int (nI i), .int (nI j), .null], [], M)) rfl (t_beside hS hO (i := i) (j := j) (by omega) (by omega)) ?_
  refine am_bB1 (sp_be h i j) (s1 := (53, [.ref 17, .int (nI i), .int (nI j), .null], [], M)) (s2 := (48, [.ref 17, .int (nI i), .int (nI j), .null], [], M)) rfl (fun c3 => ?_) (fun c3 => absurd c3 (by simp_all [sp_fe]))
  refine am_goQ 3 (s1 := (60, [.ref 17, .int (nI i), .int (nI j), .null], [.int (nI 9999), .int ((M 17 6))], M)) (s2 := (60, [.ref 17, .int (nI i), .int (nI j), .null], [.int (nI 9999), .int (nI hs)], M)) rfl (by simp only [hHs]) ?_
  refine am_bNE (hs) (9999) (s1 := (68, [.ref 17, .int (nI i), .int (nI j), .null], [], M)) (s2 := (63, [.ref 17, .int (nI i), .int (nI j), .null], [], M)) rfl (by omega) (by omega) (fun c4 => ?_) (fun c4 => absurd c4 (by omega))
  refine am_goQ 11 (s1 := (89, [.ref 17, .int (nI i), .int (nI j), .int (nI 0)], [.int (((M 17 4) ||| (nI 1 <<< (nI j &&& 31)))), .ref 17], M)) (s2 := (89, [.ref 17, .int (nI i), .int (nI j), .int (nI 0)], [.int (nI (f ||| (2 ^ j))), .ref 17], M)) rfl (by simp only [hF, am_shl1 (j := j) (by omega), am_or]) ?_
  refine am_goR 2 (s2 := (93, [.ref 17, .int (nI i), .int (nI j), .int (nI 0)], [.ref 17], (am_set M 17 4 (nI (f ||| (2 ^ j)))))) rfl ?_
  refine am_goX (v := nI (hs + 1)) (M2 := (am_set (am_set (am_set M 17 4 (nI (f ||| (2 ^ j)))) 17 5 (nI ((hr + 1) % 24))) 17 6 (nI (hs + 1)))) (s2 := (96, [.ref 17, .int (nI i), .int (nI j), .int (nI 0)], [], (am_set M 17 4 (nI (f ||| (2 ^ j)))))) rfl (t_done (M := (am_set M 17 4 (nI (f ||| (2 ^ j))))) (hr := hr) (hs := hs) hS.2.2.1 hS.2.2.2.1 (by omega) (by omega)) ?_
  exact am_ends (nI (hs + 1)) _ rfl (by rfl) ((by rw [sp_or_xor (by simp_all)]))

theorem pp_fix {M : am_Mem} (hI : sp_Inv M) (x y : Int32) : sp_PP 59 124 [.int x, .int y] M := by
  obtain ⟨⟨⟨a, f, hr, hs, lt, k, h⟩, t, w2, n, tx, rn, ro, rf⟩, hC, hR, hG⟩ := hI
  have hO := hG.1.1
  have oD := hG.1.2.2.1
  have oFx := hG.1.2.2.2
  have oA := hO.1
  have oHs := hG.1.2.1
  dsimp only at oD oFx oA oHs
  have hO : sp_ok a f hr lt k h := hO
  have hS1 : sp_S 1 M a f hr hs lt k h := hC.1
  have hM1 : ∀ N, sp_IR N ((a, f, hr, hs, lt, k, h), t, w2, n, tx, rn, ro, rf) → sp_M N a f hr hs lt k h := fun N hN => hN.1
  rcases am_in_cs x (n := a) (by omega) with hx | ⟨i, hi, rfl⟩
  · exact sp_PPr 1 (by decide) hC hR hG (c_fix_0 hS1 hO hx) (fun N hN => r_fix_0 (hM1 N hN) hO oD hx)
  · rcases am_in_cs y (n := 12) (by omega) with hy | ⟨j, hj, rfl⟩
    · exact sp_PPr 1 (by decide) hC hR hG (c_fix_1 hS1 hO hi hy) (fun N hN => r_fix_1 (hM1 N hN) hO oD hi hy)
    · cases hc : (sp_wk lt (k i) hr && sp_be h i j && !f.testBit j) with
      | false => exact sp_PPr 3 (by decide) hC hR hG (c_fix_2 hS1 hO hi hj hc) (fun N hN => r_fix_2 (hM1 N hN) hO oD hi hj hc)
      | true =>
        by_cases hh : hs = 9999
        · exact sp_PPr 6 (by decide) hC hR hG (c_fix_3 hS1 hO hi hj hc hh) (fun N hN => r_fix_3 (hM1 N hN) hO oD hi hj hc hh)
        · have hne : ∀ q, q < 2 * a → ¬ h q = j := fun q hq e => by
            have z := oFx q hq; rw [e] at z; simp [z] at hc
          refine sp_comb (z2 := ((a, f ^^^ 2 ^ j, (hr + 1) % 24, hs + 1, lt, k, h), t, w2, n, tx, rn, ro, rf)) hR (am_goW (c_fix_4 hS1 hO hi hj hc (by omega)) (fun r N9 hN9 => by
          obtain ⟨v, rfl, rfl, rfl⟩ := hN9
          refine ⟨_, rfl, rfl, fun a9 b9 c9 => by rw [am_set_o (by omega)]; rw [am_set_o (by omega)]; rw [am_set_o (by omega)], hC.st ⟨rfl, hC.1.2.1, rfl, rfl, hC.1.2.2.2.2.1, hC.1.2.2.2.2.2.1, hC.1.2.2.2.2.2.2⟩ (fun a9 b9 c9 c1 c2 c3 => by rw [am_set_o (by omega)]; rw [am_set_o (by omega)]; rw [am_set_o (by omega)])⟩)) (fun N hN => am_goW (r_fix_4 (hM1 N hN) hO oD hi hj hc (by omega)) (fun r N9 hN9 => by
          obtain ⟨v, rfl, rfl, rfl⟩ := hN9
          refine ⟨_, rfl, rfl, fun a9 b9 c9 => by rw [am_set_o (by omega)]; rw [am_set_o (by omega)]; rw [am_set_o (by omega)], hN.st ⟨rfl, hN.1.2.1, rfl, rfl, hN.1.2.2.2.2.1, hN.1.2.2.2.2.2.1, hN.1.2.2.2.2.2.2⟩ (fun a9 b9 c9 c1 c2 c3 => by rw [am_set_o (by omega)]; rw [am_set_o (by omega)]; rw [am_set_o (by omega)])⟩)) ⟨hG.1.tn (by omega) (by omega) hj hne, hG.2⟩

set_option maxHeartbeats 4000000 in
theorem c_unfix_0 {M : am_Mem} {a f hr hs lt : Nat} {k h : Nat → Nat} (hS : sp_S 1 M a f hr hs lt k h) (hO : sp_ok a f hr lt k h) {x : Int32} (hx : am_in x a = false) {y : Int32} : am_go 60 (am_ent 60 [.ref 0, .int (x), .int (y)] M) (am_is (-nI 1) (am_set M 16 1 (M 16 1 + nI 1))) := by
  obtain ⟨hF, hA, hHr, hHs, hLt, hK, hH⟩ := id hS
  obtain ⟨oA, oF, oHr, oLt, oK, oH⟩ := id hO
  refine am_goR 3 (s2 := (5, [.ref 0, .int (x), .int (y)], [.int (x), .ref 1], M)) rfl ?_
  refine am_goX (v := am_b (am_in x a)) (M2 := M) (s2 := (8, [.ref 0, .int (x), .int (y)], [], M)) rfl (s_hasArm_1 hS.2.1 hO.1) ?_
  refine am_bB0 (am_in x a) (s1 := (18, [.ref 0, .int (x), .int (y)], [], M)) (s2 := (11, [.ref 0, .int (x), .int (y)], [], M)) rfl (fun c1 => ?_) (fun c1 => absurd c1 (by simp [*]))
  refine am_goR 2 (s2 := (20, [.ref 0, .int (x), .int (y)], [.int ((-nI 1)), .ref 0], M)) rfl ?_
  refine am_goX (v := (-nI 1)) (M2 := (am_set M 16 1 (M 16 1 + nI 1))) (s2 := (23, [.ref 0, .int (x), .int (y)], [], M)) rfl (s_refuse_1) ?_
  exact am_ends (-nI 1) _ rfl rfl rfl

set_option maxHeartbeats 4000000 in
theorem r_unfix_0 {M : am_Mem} {a f hr hs lt : Nat} {k h : Nat → Nat} (hS : sp_M M a f hr hs lt k h) (hO : sp_ok a f hr lt k h) (oD : ∀ p q, p < 2 * a → q < 2 * a → h p = h q → p = q) {x : Int32} (hx : am_in x a = false) {y : Int32} : am_go 125 (am_ent 125 [.ref 17, .int (x), .int (y)] M) (am_is (-nI 1) (am_set M 18 1 (M 18 1 + nI 1))) := by
  obtain ⟨hF, hA, hHr, hHs, hLt, hK, hH⟩ := id hS
  obtain ⟨oA, oF, oHr, oLt, oK, oH⟩ := id hO
  refine am_goR 2 (s2 := (2, [.ref 17, .int (x), .int (y), .null], [.int (x), .ref 17], M)) rfl ?_
  refine am_goX (v := am_b (am_in x a)) (M2 := M) (s2 := (5, [.ref 17, .int (x), .int (y), .null], [], M)) rfl (t_isArm hS.2.1 hO.1) ?_
  refine am_bB0 (am_in x a) (s1 := (15, [.ref 17, .int (x), .int (y), .null], [], M)) (s2 := (8, [.ref 17, .int (x), .int (y), .null], [], M)) rfl (fun c1 => ?_) (fun c1 => absurd c1 (by simp [*]))
  refine am_goR 7 (s2 := (76, [.ref 17, .int (x), .int (y), .int ((-nI 1))], [.int ((-nI 1)), .ref 17], M)) rfl ?_
  refine am_goX (v := (-nI 1)) (M2 := (am_set M 18 1 (M 18 1 + nI 1))) (s2 := (79, [.ref 17, .int (x), .int (y), .int ((-nI 1))], [], M)) rfl (t_no_1) ?_
  exact am_ends (-nI 1) _ rfl rfl rfl

set_option maxHeartbeats 4000000 in
theorem c_unfix_1 {M : am_Mem} {a f hr hs lt : Nat} {k h : Nat → Nat} (hS : sp_S 1 M a f hr hs lt k h) (hO : sp_ok a f hr lt k h) {i : Nat} (hi : i < a) {y : Int32} (hy : am_in y 12 = false) : am_go 60 (am_ent 60 [.ref 0, .int (nI i), .int (y)] M) (am_is (-nI 1) (am_set M 16 1 (M 16 1 + nI 1))) := by
  obtain ⟨hF, hA, hHr, hHs, hLt, hK, hH⟩ := id hS
  obtain ⟨oA, oF, oHr, oLt, oK, oH⟩ := id hO
  refine am_goR 3 (s2 := (5, [.ref 0, .int (nI i), .int (y)], [.int (nI i), .ref 1], M)) rfl ?_
  refine am_goX (v := nI 1) (M2 := M) (s2 := (8, [.ref 0, .int (nI i), .int (y)], [], M)) rfl (s_hasArm1_1 hS.2.1 hO.1 (i := i) (by omega)) ?_
  refine am_goR 2 (s2 := (12, [.ref 0, .int (nI i), .int (y)], [.int (y)], M)) rfl ?_
  refine am_goX (v := am_b (am_in y 12)) (M2 := M) (s2 := (15, [.ref 0, .int (nI i), .int (y)], [], M)) rfl (s_isJoint) ?_
  refine am_bB1 (am_in y 12) (s1 := (24, [.ref 0, .int (nI i), .int (y)], [], M)) (s2 := (18, [.ref 0, .int (nI i), .int (y)], [], M)) rfl (fun c1 => absurd c1 (by simp [*])) (fun c1 => ?_)
  refine am_goR 2 (s2 := (20, [.ref 0, .int (nI i), .int (y)], [.int ((-nI 1)), .ref 0], M)) rfl ?_
  refine am_goX (v := (-nI 1)) (M2 := (am_set M 16 1 (M 16 1 + nI 1))) (s2 := (23, [.ref 0, .int (nI i), .int (y)], [], M)) rfl (s_refuse_1) ?_
  exact am_ends (-nI 1) _ rfl rfl rfl

set_option maxHeartbeats 4000000 in
theorem r_unfix_1 {M : am_Mem} {a f hr hs lt : Nat} {k h : Nat → Nat} (hS : sp_M M a f hr hs lt k h) (hO : sp_ok a f hr lt k h) (oD : ∀ p q, p < 2 * a → q < 2 * a → h p = h q → p = q) {i : Nat} (hi : i < a) {y : Int32} (hy : am_in y 12 = false) : am_go 125 (am_ent 125 [.ref 17, .int (nI i), .int (y)] M) (am_is (-nI 1) (am_set M 18 1 (M 18 1 + nI 1))) := by
  obtain ⟨hF, hA, hHr, hHs, hLt, hK, hH⟩ := id hS
  obtain ⟨oA, oF, oHr, oLt, oK, oH⟩ := id hO
  refine am_goR 2 (s2 := (2, [.ref 17, .int (nI i), .int (y), .null], [.int (nI i), .ref 17], M)) rfl ?_
  refine am_goX (v := nI 1) (M2 := M) (s2 := (5, [.ref 17, .int (nI i), .int (y), .null], [], M)) rfl (t_isArm1 hS.2.1 hO.1 (i := i) (by omega)) ?_
  refine am_goR 2 (s2 := (9, [.ref 17, .int (nI i), .int (y), .null], [.int (y)], M)) rfl ?_
  refine am_goX (v := am_b (am_in y 12)) (M2 := M) (s2 := (12, [.ref 17, .int (nI i), .int (y), .null], [], M)) rfl (t_isJoint) ?_
  refine am_bB1 (am_in y 12) (s1 := (19, [.ref 17, .int (nI i), .int (y), .null], [], M)) (s2 := (15, [.ref 17, .int (nI i), .int (y), .null], [], M)) rfl (fun c1 => absurd c1 (by simp [*])) (fun c1 => ?_)
  refine am_goR 7 (s2 := (76, [.ref 17, .int (nI i), .int (y), .int ((-nI 1))], [.int ((-nI 1)), .ref 17], M)) rfl ?_
  refine am_goX (v := (-nI 1)) (M2 := (am_set M 18 1 (M 18 1 + nI 1))) (s2 := (79, [.ref 17, .int (nI i), .int (y), .int ((-nI 1))], [], M)) rfl (t_no_1) ?_
  exact am_ends (-nI 1) _ rfl rfl rfl

set_option maxHeartbeats 4000000 in
theorem c_unfix_2 {M : am_Mem} {a f hr hs lt : Nat} {k h : Nat → Nat} (hS : sp_S 1 M a f hr hs lt k h) (hO : sp_ok a f hr lt k h) {i : Nat} (hi : i < a) {j : Nat} (hj : j < 12) (hc : (sp_wk lt (k i) hr && sp_be h i j && f.testBit j && (sp_wo h j (2 * a)).isNone) = false) : am_go 60 (am_ent 60 [.ref 0, .int (nI i), .int (nI j)] M) (am_is (-nI 3) (am_set M 16 3 (M 16 3 + nI 1))) := by
  obtain ⟨hF, hA, hHr, hHs, hLt, hK, hH⟩ := id hS
  obtain ⟨oA, oF, oHr, oLt, oK, oH⟩ := id hO
  refine am_goR 3 (s2 := (5, [.ref 0, .int (nI i), .int (nI j)], [.int (nI i), .ref 1], M)) rfl ?_
  refine am_goX (v := nI 1) (M2 := M) (s2 := (8, [.ref 0, .int (nI i), .int (nI j)], [], M)) rfl (s_hasArm1_1 hS.2.1 hO.1 (i := i) (by omega)) ?_
  refine am_goR 2 (s2 := (12, [.ref 0, .int (nI i), .int (nI j)], [.int (nI j)], M)) rfl ?_
  refine am_goX (v := nI 1) (M2 := M) (s2 := (15, [.ref 0, .int (nI i), .int (nI j)], [], M)) rfl (s_isJoint1 (j := j) (by omega)) ?_
  refine am_goR 5 (s2 := (30, [.ref 0, .int (nI i), .int (nI j)], [.int (nI j), .int (nI i), .ref 1], M)) rfl ?_
  refine am_goX (v := am_b (sp_wk lt (k i) hr && sp_be h i j && f.testBit j && (sp_wo h j (2 * a)).isNone)) (M2 := M) (s2 := (33, [.ref 0, .int (nI i), .int (nI j)], [], M)) rfl (s_canFree_1 hS hO (i := i) (by omega) (j := j) (by omega)) ?_
  refine am_bB1 (sp_wk lt (k i) hr && sp_be h i j && f.testBit j && (sp_wo h j (2 * a)).isNone) (s1 := (43, [.ref 0, .int (nI i), .int (nI j)], [], M)) (s2 := (36, [.ref 0, .int (nI i), .int (nI j)], [], M)) rfl (fun c1 => absurd c1 (by simp [*])) (fun c1 => ?_)
  refine am_goR 2 (s2 := (39, [.ref 0, .int (nI i), .int (nI j)], [.int ((-nI 3)), .ref 0], M)) rfl ?_
  refine am_goX (v := (-nI 3)) (M2 := (am_set M 16 3 (M 16 3 + nI 1))) (s2 := (42, [.ref 0, .int (nI i), .int (nI j)], [], M)) rfl (s_refuse_3) ?_
  exact am_ends (-nI 3) _ rfl rfl rfl

set_option maxHeartbeats 4000000 in
theorem r_unfix_2 {M : am_Mem} {a f hr hs lt : Nat} {k h : Nat → Nat} (hS : sp_M M a f hr hs lt k h) (hO : sp_ok a f hr lt k h) (oD : ∀ p q, p < 2 * a → q < 2 * a → h p = h q → p = q) {i : Nat} (hi : i < a) {j : Nat} (hj : j < 12) (hc : (sp_wk lt (k i) hr && sp_be h i j && f.testBit j && (sp_wo h j (2 * a)).isNone) = false) : am_go 125 (am_ent 125 [.ref 17, .int (nI i), .int (nI j)] M) (am_is (-nI 3) (am_set M 18 3 (M 18 3 + nI 1))) := by
  obtain ⟨hF, hA, hHr, hHs, hLt, hK, hH⟩ := id hS
  obtain ⟨oA, oF, oHr, oLt, oK, oH⟩ := id hO
  refine am_goR 2 (s2 := (2, [.ref 17, .int (nI i), .int (nI j), .null], [.int (nI i), .ref 17], M)) rfl ?_
  refine am_goX (v := nI 1) (M2 := M) (s2 := (5, [.ref 17, .int (nI i), .int (nI j), .null], [], M)) rfl (t_isArm1 hS.2.1 hO.1 (i := i) (by omega)) ?_
  refine am_goR 2 (s2 := (9, [.ref 17, .int (nI i), .int (nI j), .null], [.int (nI j)], M)) rfl ?_
  refine am_goX (v := nI 1) (M2 := M) (s2 := (12, [.ref 17, .int (nI i), .int (nI j), .null], [], M)) rfl (t_isJoint1 (j := j) (by omega)) ?_
  refine am_goQ 5 (s1 := (25, [.ref 17, .int (nI i), .int (nI j), .null], [.int ((M 17 5)), .int (nI i), .ref 17], M)) (s2 := (25, [.ref 17, .int (nI i), .int (nI j), .null], [.int (nI hr), .int (nI i), .ref 17], M)) rfl (by simp only [hHr]) ?_
  refine am_goX (v := am_b (sp_wk lt (k i) hr)) (M2 := M) (s2 := (28, [.ref 17, .int (nI i), .int (nI j), .null], [], M)) rfl (t_doesWork hS hO (i := i) (r := hr) (by omega) (by omega)) ?_
  refine am_bB0 (sp_wk lt (k i) hr) (s1 := (48, [.ref 17, .int (nI i), .int (nI j), .null], [], M)) (s2 := (31, [.ref 17, .int (nI i), .int (nI j), .null], [], M)) rfl (fun c1 => ?_) (fun c1 => ?_)
  · refine am_goR 7 (s2 := (76, [.ref 17, .int (nI i), .int (nI j), .int ((-nI 3))], [.int ((-nI 3)), .ref 17], M)) rfl ?_
    refine am_goX (v := (-nI 3)) (M2 := (am_set M 18 3 (M 18 3 + nI 1))) (s2 := (79, [.ref 17, .int (nI i), .int (nI j), .int ((-nI 3))], [], M)) rfl (t_no_3) ?_
    exact am_ends (-nI 3) _ rfl rfl rfl
  · refine am_goR 2 (s2 := (33, [.ref 17, .int (nI i), .int (nI j), .null], [.int (nI j), .ref 17], M)) rfl ?_
    refine am_goX (v := am_b (sp_fe a f h j)) (M2 := M) (s2 := (36, [.ref 17, .int (nI i), .int (nI j), .null], [], M)) rfl (t_canStand hS hO (j := j) (by omega)) ?_
    refine am_bB0 (sp_fe a f h j) (s1 := (48, [.ref 17, .int (nI i), .int (nI j), .null], [], M)) (s2 := (39, [.ref 17, .int (nI i), .int (nI j), .null], [], M)) rfl (fun c2 => ?_) (fun c2 => ?_)
    · refine am_goR 7 (s2 := (76, [.ref 17, .int (nI i), .int (nI j), .int ((-nI 3))], [.int ((-nI 3)), .ref 17], M)) rfl ?_
      refine am_goX (v := (-nI 3)) (M2 := (am_set M 18 3 (M 18 3 + nI 1))) (s2 := (79, [.ref 17, .int (nI i), .int (nI j), .int ((-nI 3))], [], M)) rfl (t_no_3) ?_
      exact am_ends (-nI 3) _ rfl rfl rfl
    · refine am_goR 3 (s2 := (42, [.ref 17, .int (nI i), .int (nI j), .null], [.int (nI j), .int (nI i), .ref 17], M)) rfl ?_
      refine am_goX (v := am_b (sp_be h i j)) (M2 := M) (s2 := (45, [.ref 17, .int (nI i), .int (nI j), .null], [], M)) rfl (t_beside hS hO (i := i) (j := j) (by omega) (by omega)) ?_
      refine am_bB1 (sp_be h i j) (s1 := (53, [.ref 17, .int (nI i), .int (nI j), .null], [], M)) (s2 := (48, [.ref 17, .int (nI i), .int (nI j), .null], [], M)) rfl (fun c3 => absurd c3 (by simp_all [sp_fe])) (fun c3 => ?_)
      refine am_goR 7 (s2 := (76, [.ref 17, .int (nI i), .int (nI j), .int ((-nI 3))], [.int ((-nI 3)), .ref 17], M)) rfl ?_
      refine am_goX (v := (-nI 3)) (M2 := (am_set M 18 3 (M 18 3 + nI 1))) (s2 := (79, [.ref 17, .int (nI i), .int (nI j), .int ((-nI 3))], [], M)) rfl (t_no_3) ?_
      exact am_ends (-nI 3) _ rfl rfl rfl

set_option maxHeartbeats 4000000 in
theorem c_unfix_3 {M : am_Mem} {a f hr hs lt : Nat} {k h : Nat → Nat} (hS : sp_S 1 M a f hr hs lt k h) (hO : sp_ok a f hr lt k h) {i : Nat} (hi : i < a) {j : Nat} (hj : j < 12) (hc : (sp_wk lt (k i) hr && sp_be h i j && f.testBit j && (sp_wo h j (2 * a)).isNone) = true) (hh : hs = 9999) : am_go 60 (am_ent 60 [.ref 0, .int (nI i), .int (nI j)] M) (am_is (-nI 6) (am_set M 16 6 (M 16 6 + nI 1))) := by
  obtain ⟨hF, hA, hHr, hHs, hLt, hK, hH⟩ := id hS
  obtain ⟨oA, oF, oHr, oLt, oK, oH⟩ := id hO
  refine am_goR 3 (s2 := (5, [.ref 0, .int (nI i), .int (nI j)], [.int (nI i), .ref 1], M)) rfl ?_
  refine am_goX (v := nI 1) (M2 := M) (s2 := (8, [.ref 0, .int (nI i), .int (nI j)], [], M)) rfl (s_hasArm1_1 hS.2.1 hO.1 (i := i) (by omega)) ?_
  refine am_goR 2 (s2 := (12, [.ref 0, .int (nI i), .int (nI j)], [.int (nI j)], M)) rfl ?_
  refine am_goX (v := nI 1) (M2 := M) (s2 := (15, [.ref 0, .int (nI i), .int (nI j)], [], M)) rfl (s_isJoint1 (j := j) (by omega)) ?_
  refine am_goR 5 (s2 := (30, [.ref 0, .int (nI i), .int (nI j)], [.int (nI j), .int (nI i), .ref 1], M)) rfl ?_
  refine am_goX (v := am_b (sp_wk lt (k i) hr && sp_be h i j && f.testBit j && (sp_wo h j (2 * a)).isNone)) (M2 := M) (s2 := (33, [.ref 0, .int (nI i), .int (nI j)], [], M)) rfl (s_canFree_1 hS hO (i := i) (by omega) (j := j) (by omega)) ?_
  refine am_bB1 (sp_wk lt (k i) hr && sp_be h i j && f.testBit j && (sp_wo h j (2 * a)).isNone) (s1 := (43, [.ref 0, .int (nI i), .int (nI j)], [], M)) (s2 := (36, [.ref 0, .int (nI i), .int (nI j)], [], M)) rfl (fun c1 => ?_) (fun c1 => absurd c1 (by simp [*]))
  refine am_goR 2 (s2 := (45, [.ref 0, .int (nI i), .int (nI j)], [.int (nI j), .ref 0], M)) rfl ?_
  refine am_goX (v := (-nI 6)) (M2 := (am_set M 16 6 (M 16 6 + nI 1))) (s2 := (48, [.ref 0, .int (nI i), .int (nI j)], [], M)) rfl (s_turn_full hS hO hj hh) ?_
  exact am_ends (-nI 6) _ rfl rfl rfl

set_option maxHeartbeats 4000000 in
theorem r_unfix_3 {M : am_Mem} {a f hr hs lt : Nat} {k h : Nat → Nat} (hS : sp_M M a f hr hs lt k h) (hO : sp_ok a f hr lt k h) (oD : ∀ p q, p < 2 * a → q < 2 * a → h p = h q → p = q) {i : Nat} (hi : i < a) {j : Nat} (hj : j < 12) (hc : (sp_wk lt (k i) hr && sp_be h i j && f.testBit j && (sp_wo h j (2 * a)).isNone) = true) (hh : hs = 9999) : am_go 125 (am_ent 125 [.ref 17, .int (nI i), .int (nI j)] M) (am_is (-nI 6) (am_set M 18 6 (M 18 6 + nI 1))) := by
  obtain ⟨hF, hA, hHr, hHs, hLt, hK, hH⟩ := id hS
  obtain ⟨oA, oF, oHr, oLt, oK, oH⟩ := id hO
  refine am_goR 2 (s2 := (2, [.ref 17, .int (nI i), .int (nI j), .null], [.int (nI i), .ref 17], M)) rfl ?_
  refine am_goX (v := nI 1) (M2 := M) (s2 := (5, [.ref 17, .int (nI i), .int (nI j), .null], [], M)) rfl (t_isArm1 hS.2.1 hO.1 (i := i) (by omega)) ?_
  refine am_goR 2 (s2 := (9, [.ref 17, .int (nI i), .int (nI j), .null], [.int (nI j)], M)) rfl ?_
  refine am_goX (v := nI 1) (M2 := M) (s2 := (12, [.ref 17, .int (nI i), .int (nI j), .null], [], M)) rfl (t_isJoint1 (j := j) (by omega)) ?_
  refine am_goQ 5 (s1 := (25, [.ref 17, .int (nI i), .int (nI j), .null], [.int ((M 17 5)), .int (nI i), .ref 17], M)) (s2 := (25, [.ref 17, .int (nI i), .int (nI j), .null], [.int (nI hr), .int (nI i), .ref 17], M)) rfl (by simp only [hHr]) ?_
  refine am_goX (v := am_b (sp_wk lt (k i) hr)) (M2 := M) (s2 := (28, [.ref 17, .int (nI i), .int (nI j), .null], [], M)) rfl (t_doesWork hS hO (i := i) (r := hr) (by omega) (by omega)) ?_
  refine am_bB0 (sp_wk lt (k i) hr) (s1 := (48, [.ref 17, .int (nI i), .int (nI j), .null], [], M)) (s2 := (31, [.ref 17, .int (nI i), .int (nI j), .null], [], M)) rfl (fun c1 => absurd c1 (by simp_all [sp_fe])) (fun c1 => ?_)
  refine am_goR 2 (s2 := (33, [.ref 17, .int (nI i), .int (nI j), .null], [.int (nI j), .ref 17], M)) rfl ?_
  refine am_goX (v := am_b (sp_fe a f h j)) (M2 := M) (s2 := (36, [.ref 17, .int (nI i), .int (nI j), .null], [], M)) rfl (t_canStand hS hO (j := j) (by omega)) ?_
  refine am_bB0 (sp_fe a f h j) (s1 := (48, [.ref 17, .int (nI i), .int (nI j), .null], [], M)) (s2 := (39, [.ref 17, .int (nI i), .int (nI j), .null], [], M)) rfl (fun c2 => absurd c2 (by simp_all [sp_fe])) (fun c2 => ?_)
  refine am_goR 3 (s2 := (42, [.ref 17, .int (nI i), .int (nI j), .null], [.int (nI j), .int (nI i), .ref 17], M)) rfl ?_
  refine am_goX (v := am_b (sp_be h i j)) (M2 := M) (s2 := (45, [.ref 17, .int (nI i), .int (nI j), .null], [], M)) rfl (t_beside hS hO (i := i) (j := j) (by omega) (by omega)) ?_
  refine am_bB1 (sp_be h i j) (s1 := (53, [.ref 17, .int (nI i), .int (nI j), .null], [], M)) (s2 := (48, [.ref 17, .int (nI i), .int (nI j), .null], [], M)) rfl (fun c3 => ?_) (fun c3 => absurd c3 (by simp_all [sp_fe]))
  refine am_goQ 3 (s1 := (60, [.ref 17, .int (nI i), .int (nI j), .null], [.int (nI 9999), .int ((M 17 6))], M)) (s2 := (60, [.ref 17, .int (nI i), .int (nI j), .null], [.int (nI 9999), .int (nI hs)], M)) rfl (by simp only [hHs]) ?_
  refine am_bNE (hs) (9999) (s1 := (68, [.ref 17, .int (nI i), .int (nI j), .null], [], M)) (s2 := (63, [.ref 17, .int (nI i), .int (nI j), .null], [], M)) rfl (by omega) (by omega) (fun c4 => absurd c4 (by omega)) (fun c4 => ?_)
  refine am_goR 7 (s2 := (76, [.ref 17, .int (nI i), .int (nI j), .int ((-nI 6))], [.int ((-nI 6)), .ref 17], M)) rfl ?_
  refine am_goX (v := (-nI 6)) (M2 := (am_set M 18 6 (M 18 6 + nI 1))) (s2 := (79, [.ref 17, .int (nI i), .int (nI j), .int ((-nI 6))], [], M)) rfl (t_no_6) ?_
  exact am_ends (-nI 6) _ rfl rfl rfl

set_option maxHeartbeats 4000000 in
theorem c_unfix_4 {M : am_Mem} {a f hr hs lt : Nat} {k h : Nat → Nat} (hS : sp_S 1 M a f hr hs lt k h) (hO : sp_ok a f hr lt k h) {i : Nat} (hi : i < a) {j : Nat} (hj : j < 12) (hc : (sp_wk lt (k i) hr && sp_be h i j && f.testBit j && (sp_wo h j (2 * a)).isNone) = true) (hh : hs < 9999) : am_go 60 (am_ent 60 [.ref 0, .int (nI i), .int (nI j)] M) (am_is (nI (hs + 1)) (am_set (am_set (am_set M 1 0 (nI (f ^^^ 2 ^ j))) 1 2 (nI ((hr + 1) % 24))) 1 3 (nI (hs + 1)))) := by
  obtain ⟨hF, hA, hHr, hHs, hLt, hK, hH⟩ := id hS
  obtain ⟨oA, oF, oHr, oLt, oK, oH⟩ := id hO
  refine am_goR 3 (s2 := (5, [.ref 0, .int (nI i), .int (nI j)], [.int (nI i), .ref 1], M)) rfl ?_
  refine am_goX (v := nI 1) (M2 := M) (s2 := (8, [.ref 0, .int (nI i), .int (nI j)], [], M)) rfl (s_hasArm1_1 hS.2.1 hO.1 (i := i) (by omega)) ?_
  refine am_goR 2 (s2 := (12, [.ref 0, .int (nI i), .int (nI j)], [.int (nI j)], M)) rfl ?_
  refine am_goX (v := nI 1) (M2 := M) (s2 := (15, [.ref 0, .int (nI i), .int (nI j)], [], M)) rfl (s_isJoint1 (j := j) (by omega)) ?_
  refine am_goR 5 (s2 := (30, [.ref 0, .int (nI i), .int (nI j)], [.int (nI j), .int (nI i), .ref 1], M)) rfl ?_
  refine am_goX (v := am_b (sp_wk lt (k i) hr && sp_be h i j && f.testBit j && (sp_wo h j (2 * a)).isNone)) (M2 := M) (s2 := (33, [.ref 0, .int (nI i), .int (nI j)], [], M)) rfl (s_canFree_1 hS hO (i := i) (by omega) (j := j) (by omega)) ?_
  refine am_bB1 (sp_wk lt (k i) hr && sp_be h i j && f.testBit j && (sp_wo h j (2 * a)).isNone) (s1 := (43, [.ref 0, .int (nI i), .int (nI j)], [], M)) (s2 := (36, [.ref 0, .int (nI i), .int (nI j)], [], M)) rfl (fun c1 => ?_) (fun c1 => absurd c1 (by simp [*]))
  refine am_goR 2 (s2 := (45, [.ref 0, .int (nI i), .int (nI j)], [.int (nI j), .ref 0], M)) rfl ?_
  refine am_goX (v := nI (hs + 1)) (M2 := (am_set (am_set (am_set M 1 0 (nI (f ^^^ 2 ^ j))) 1 2 (nI ((hr + 1) % 24))) 1 3 (nI (hs + 1)))) (s2 := (48, [.ref 0, .int (nI i), .int (nI j)], [], M)) rfl (s_turn hS hO hj hh) ?_
  exact am_ends (nI (hs + 1)) _ rfl (by rfl) (rfl)

set_option maxHeartbeats 4000000 in
theorem r_unfix_4 {M : am_Mem} {a f hr hs lt : Nat} {k h : Nat → Nat} (hS : sp_M M a f hr hs lt k h) (hO : sp_ok a f hr lt k h) (oD : ∀ p q, p < 2 * a → q < 2 * a → h p = h q → p = q) {i : Nat} (hi : i < a) {j : Nat} (hj : j < 12) (hc : (sp_wk lt (k i) hr && sp_be h i j && f.testBit j && (sp_wo h j (2 * a)).isNone) = true) (hh : hs < 9999) : am_go 125 (am_ent 125 [.ref 17, .int (nI i), .int (nI j)] M) (am_is (nI (hs + 1)) (am_set (am_set (am_set M 17 4 (nI (f ^^^ 2 ^ j))) 17 5 (nI ((hr + 1) % 24))) 17 6 (nI (hs + 1)))) := by
  obtain ⟨hF, hA, hHr, hHs, hLt, hK, hH⟩ := id hS
  obtain ⟨oA, oF, oHr, oLt, oK, oH⟩ := id hO
  refine am_goR 2 (s2 := (2, [.ref 17, .int (nI i), .int (nI j), .null], [.int (nI i), .ref 17], M)) rfl ?_
  refine am_goX (v := nI 1) (M2 := M) (s2 := (5, [.ref 17, .int (nI i), .int (nI j), .null], [], M)) rfl (t_isArm1 hS.2.1 hO.1 (i := i) (by omega)) ?_
  refine am_goR 2 (s2 := (9, [.ref 17, .int (nI i), .int (nI j), .null], [.int (nI j)], M)) rfl ?_
  refine am_goX (v := nI 1) (M2 := M) (s2 := (12, [.ref 17, .int (nI i), .int (nI j), .null], [], M)) rfl (t_isJoint1 (j := j) (by omega)) ?_
  refine am_goQ 5 (s1 := (25, [.ref 17, .int (nI i), .int (nI j), .null], [.int ((M 17 5)), .int (nI i), .ref 17], M)) (s2 := (25, [.ref 17, .int (nI i), .int (nI j), .null], [.int (nI hr), .int (nI i), .ref 17], M)) rfl (by simp only [hHr]) ?_
  refine am_goX (v := am_b (sp_wk lt (k i) hr)) (M2 := M) (s2 := (28, [.ref 17, .int (nI i), .int (nI j), .null], [], M)) rfl (t_doesWork hS hO (i := i) (r := hr) (by omega) (by omega)) ?_
  refine am_bB0 (sp_wk lt (k i) hr) (s1 := (48, [.ref 17, .int (nI i), .int (nI j), .null], [], M)) (s2 := (31, [.ref 17, .int (nI i), .int (nI j), .null], [], M)) rfl (fun c1 => absurd c1 (by simp_all [sp_fe])) (fun c1 => ?_)
  refine am_goR 2 (s2 := (33, [.ref 17, .int (nI i), .int (nI j), .null], [.int (nI j), .ref 17], M)) rfl ?_
  refine am_goX (v := am_b (sp_fe a f h j)) (M2 := M) (s2 := (36, [.ref 17, .int (nI i), .int (nI j), .null], [], M)) rfl (t_canStand hS hO (j := j) (by omega)) ?_
  refine am_bB0 (sp_fe a f h j) (s1 := (48, [.ref 17, .int (nI i), .int (nI j), .null], [], M)) (s2 := (39, [.ref 17, .int (nI i), .int (nI j), .null], [], M)) rfl (fun c2 => absurd c2 (by simp_all [sp_fe])) (fun c2 => ?_)
  refine am_goR 3 (s2 := (42, [.ref 17, .int (nI i), .int (nI j), .null], [.int (nI j), .int (nI i), .ref 17], M)) rfl ?_
  refine am_goX (v := am_b (sp_be h i j)) (M2 := M) (s2 := (45, [.ref 17, .int (nI i), .int (nI j), .null], [], M)) rfl (t_beside hS hO (i := i) (j := j) (by omega) (by omega)) ?_
  refine am_bB1 (sp_be h i j) (s1 := (53, [.ref 17, .int (nI i), .int (nI j), .null], [], M)) (s2 := (48, [.ref 17, .int (nI i), .int (nI j), .null], [], M)) rfl (fun c3 => ?_) (fun c3 => absurd c3 (by simp_all [sp_fe]))
  refine am_goQ 3 (s1 := (60, [.ref 17, .int (nI i), .int (nI j), .null], [.int (nI 9999), .int ((M 17 6))], M)) (s2 := (60, [.ref 17, .int (nI i), .int (nI j), .null], [.int (nI 9999), .int (nI hs)], M)) rfl (by simp only [hHs]) ?_
  refine am_bNE (hs) (9999) (s1 := (68, [.ref 17, .int (nI i), .int (nI j), .null], [], M)) (s2 := (63, [.ref 17, .int (nI i), .int (nI j), .null], [], M)) rfl (by omega) (by omega) (fun c4 => ?_) (fun c4 => absurd c4 (by omega))
  refine am_goQ 13 (s1 := (91, [.ref 17, .int (nI i), .int (nI j), .int (nI 0)], [.int (((M 17 4) &&& ((nI 1 <<< (nI j &&& 31)) ^^^ (-nI 1)))), .ref 17], M)) (s2 := (91, [.ref 17, .int (nI i), .int (nI j), .int (nI 0)], [.int (nI (f &&& ((2 ^ j) ^^^ 4294967295))), .ref 17], M)) rfl (by simp only [hF, am_shl1 (j := j) (by omega), am_xm, am_and]) ?_
  refine am_goR 2 (s2 := (95, [.ref 17, .int (nI i), .int (nI j), .int (nI 0)], [.ref 17], (am_set M 17 4 (nI (f &&& ((2 ^ j) ^^^ 4294967295)))))) rfl ?_
  refine am_goX (v := nI (hs + 1)) (M2 := (am_set (am_set (am_set M 17 4 (nI (f &&& ((2 ^ j) ^^^ 4294967295)))) 17 5 (nI ((hr + 1) % 24))) 17 6 (nI (hs + 1)))) (s2 := (98, [.ref 17, .int (nI i), .int (nI j), .int (nI 0)], [], (am_set M 17 4 (nI (f &&& ((2 ^ j) ^^^ 4294967295)))))) rfl (t_done (M := (am_set M 17 4 (nI (f &&& ((2 ^ j) ^^^ 4294967295))))) (hr := hr) (hs := hs) hS.2.2.1 hS.2.2.2.1 (by omega) (by omega)) ?_
  exact am_ends (nI (hs + 1)) _ rfl (by rfl) ((by rw [sp_and_xor oF (by simp_all)]))

theorem pp_unfix {M : am_Mem} (hI : sp_Inv M) (x y : Int32) : sp_PP 60 125 [.int x, .int y] M := by
  obtain ⟨⟨⟨a, f, hr, hs, lt, k, h⟩, t, w2, n, tx, rn, ro, rf⟩, hC, hR, hG⟩ := hI
  have hO := hG.1.1
  have oD := hG.1.2.2.1
  have oFx := hG.1.2.2.2
  have oA := hO.1
  have oHs := hG.1.2.1
  dsimp only at oD oFx oA oHs
  have hO : sp_ok a f hr lt k h := hO
  have hS1 : sp_S 1 M a f hr hs lt k h := hC.1
  have hM1 : ∀ N, sp_IR N ((a, f, hr, hs, lt, k, h), t, w2, n, tx, rn, ro, rf) → sp_M N a f hr hs lt k h := fun N hN => hN.1
  rcases am_in_cs x (n := a) (by omega) with hx | ⟨i, hi, rfl⟩
  · exact sp_PPr 1 (by decide) hC hR hG (c_unfix_0 hS1 hO hx) (fun N hN => r_unfix_0 (hM1 N hN) hO oD hx)
  · rcases am_in_cs y (n := 12) (by omega) with hy | ⟨j, hj, rfl⟩
    · exact sp_PPr 1 (by decide) hC hR hG (c_unfix_1 hS1 hO hi hy) (fun N hN => r_unfix_1 (hM1 N hN) hO oD hi hy)
    · cases hc : (sp_wk lt (k i) hr && sp_be h i j && f.testBit j && (sp_wo h j (2 * a)).isNone) with
      | false => exact sp_PPr 3 (by decide) hC hR hG (c_unfix_2 hS1 hO hi hj hc) (fun N hN => r_unfix_2 (hM1 N hN) hO oD hi hj hc)
      | true =>
        by_cases hh : hs = 9999
        · exact sp_PPr 6 (by decide) hC hR hG (c_unfix_3 hS1 hO hi hj hc hh) (fun N hN => r_unfix_3 (hM1 N hN) hO oD hi hj hc hh)
        · have hne : ∀ q, q < 2 * a → ¬ h q = j := fun q hq e => by
            simp only [Bool.and_eq_true, Option.isNone_iff_eq_none] at hc; exact (sp_wo_none.mp hc.2) q hq e
          refine sp_comb (z2 := ((a, f ^^^ 2 ^ j, (hr + 1) % 24, hs + 1, lt, k, h), t, w2, n, tx, rn, ro, rf)) hR (am_goW (c_unfix_4 hS1 hO hi hj hc (by omega)) (fun r N9 hN9 => by
          obtain ⟨v, rfl, rfl, rfl⟩ := hN9
          refine ⟨_, rfl, rfl, fun a9 b9 c9 => by rw [am_set_o (by omega)]; rw [am_set_o (by omega)]; rw [am_set_o (by omega)], hC.st ⟨rfl, hC.1.2.1, rfl, rfl, hC.1.2.2.2.2.1, hC.1.2.2.2.2.2.1, hC.1.2.2.2.2.2.2⟩ (fun a9 b9 c9 c1 c2 c3 => by rw [am_set_o (by omega)]; rw [am_set_o (by omega)]; rw [am_set_o (by omega)])⟩)) (fun N hN => am_goW (r_unfix_4 (hM1 N hN) hO oD hi hj hc (by omega)) (fun r N9 hN9 => by
          obtain ⟨v, rfl, rfl, rfl⟩ := hN9
          refine ⟨_, rfl, rfl, fun a9 b9 c9 => by rw [am_set_o (by omega)]; rw [am_set_o (by omega)]; rw [am_set_o (by omega)], hN.st ⟨rfl, hN.1.2.1, rfl, rfl, hN.1.2.2.2.2.1, hN.1.2.2.2.2.2.1, hN.1.2.2.2.2.2.2⟩ (fun a9 b9 c9 c1 c2 c3 => by rw [am_set_o (by omega)]; rw [am_set_o (by omega)]; rw [am_set_o (by omega)])⟩)) ⟨hG.1.tn (by omega) (by omega) hj hne, hG.2⟩

set_option maxHeartbeats 4000000 in
theorem c_pass_lo {M : am_Mem} {a f hr hs lt : Nat} {k h : Nat → Nat} (hS : sp_S 1 M a f hr hs lt k h) (hO : sp_ok a f hr lt k h) {x : Int32} (hx : x < nI 1) : am_go 62 (am_ent 62 [.ref 0, .int (x)] M) (am_is (-nI 4) (am_set M 16 4 (M 16 4 + nI 1))) := by
  obtain ⟨hF, hA, hHr, hHs, hLt, hK, hH⟩ := id hS
  obtain ⟨oA, oF, oHr, oLt, oK, oH⟩ := id hO
  refine am_goR 2 (s2 := (2, [.ref 0, .int (x)], [.int (nI 1), .int (x)], M)) rfl ?_
  refine am_bF (P := nI 1 ≤ x) (s1 := (12, [.ref 0, .int (x)], [], M)) (s2 := (5, [.ref 0, .int (x)], [], M)) rfl (k2_nle hx) ?_
  refine am_goR 2 (s2 := (8, [.ref 0, .int (x)], [.int ((-nI 4)), .ref 0], M)) rfl ?_
  refine am_goX (v := (-nI 4)) (M2 := (am_set M 16 4 (M 16 4 + nI 1))) (s2 := (11, [.ref 0, .int (x)], [], M)) rfl (s_refuse_4) ?_
  exact am_ends (-nI 4) _ rfl rfl rfl

set_option maxHeartbeats 4000000 in
theorem r_pass_lo {M : am_Mem} {a f hr hs lt : Nat} {k h : Nat → Nat} (hS : sp_M M a f hr hs lt k h) (hO : sp_ok a f hr lt k h) (oD : ∀ p q, p < 2 * a → q < 2 * a → h p = h q → p = q) {x : Int32} (hx : x < nI 1) : am_go 126 (am_ent 126 [.ref 17, .int (x)] M) (am_is (-nI 4) (am_set M 18 4 (M 18 4 + nI 1))) := by
  obtain ⟨hF, hA, hHr, hHs, hLt, hK, hH⟩ := id hS
  obtain ⟨oA, oF, oHr, oLt, oK, oH⟩ := id hO
  refine am_goR 3 (s2 := (4, [.ref 17, .int (x), .null, .null], [.int (nI 99), .int (nI 1), .int (x)], M)) rfl ?_
  refine am_goX (v := (-nI 4)) (M2 := M) (s2 := (7, [.ref 17, .int (x), .null, .null], [], M)) rfl (t_bound_lo hx) ?_
  refine am_goR 7 (s2 := (33, [.ref 17, .int (x), .int ((-nI 4)), .null], [.int ((-nI 4)), .ref 17], M)) rfl ?_
  refine am_goX (v := (-nI 4)) (M2 := (am_set M 18 4 (M 18 4 + nI 1))) (s2 := (36, [.ref 17, .int (x), .int ((-nI 4)), .null], [], M)) rfl (t_no_4) ?_
  exact am_ends (-nI 4) _ rfl rfl rfl

set_option maxHeartbeats 4000000 in
theorem c_pass_hi {M : am_Mem} {a f hr hs lt : Nat} {k h : Nat → Nat} (hS : sp_S 1 M a f hr hs lt k h) (hO : sp_ok a f hr lt k h) {x : Int32} (hx : ¬ x < nI 1) (hx2 : nI 99 < x) : am_go 62 (am_ent 62 [.ref 0, .int (x)] M) (am_is (-nI 6) (am_set M 16 6 (M 16 6 + nI 1))) := by
  obtain ⟨hF, hA, hHr, hHs, hLt, hK, hH⟩ := id hS
  obtain ⟨oA, oF, oHr, oLt, oK, oH⟩ := id hO
  refine am_goR 2 (s2 := (2, [.ref 0, .int (x)], [.int (nI 1), .int (x)], M)) rfl ?_
  refine am_bT (P := nI 1 ≤ x) (s1 := (12, [.ref 0, .int (x)], [], M)) (s2 := (5, [.ref 0, .int (x)], [], M)) rfl (k2_le hx) ?_
  refine am_goR 2 (s2 := (15, [.ref 0, .int (x)], [.int (nI 99), .int (x)], M)) rfl ?_
  refine am_bT (P := nI 99 < x) (s1 := (33, [.ref 0, .int (x)], [], M)) (s2 := (18, [.ref 0, .int (x)], [], M)) rfl (hx2) ?_
  refine am_goR 2 (s2 := (36, [.ref 0, .int (x)], [.int ((-nI 6)), .ref 0], M)) rfl ?_
  refine am_goX (v := (-nI 6)) (M2 := (am_set M 16 6 (M 16 6 + nI 1))) (s2 := (39, [.ref 0, .int (x)], [], M)) rfl (s_refuse_6) ?_
  exact am_ends (-nI 6) _ rfl rfl rfl

set_option maxHeartbeats 4000000 in
theorem r_pass_hi {M : am_Mem} {a f hr hs lt : Nat} {k h : Nat → Nat} (hS : sp_M M a f hr hs lt k h) (hO : sp_ok a f hr lt k h) (oD : ∀ p q, p < 2 * a → q < 2 * a → h p = h q → p = q) {x : Int32} (hx : ¬ x < nI 1) (hx2 : nI 99 < x) : am_go 126 (am_ent 126 [.ref 17, .int (x)] M) (am_is (-nI 6) (am_set M 18 6 (M 18 6 + nI 1))) := by
  obtain ⟨hF, hA, hHr, hHs, hLt, hK, hH⟩ := id hS
  obtain ⟨oA, oF, oHr, oLt, oK, oH⟩ := id hO
  refine am_goR 3 (s2 := (4, [.ref 17, .int (x), .null, .null], [.int (nI 99), .int (nI 1), .int (x)], M)) rfl ?_
  refine am_goX (v := (-nI 6)) (M2 := M) (s2 := (7, [.ref 17, .int (x), .null, .null], [], M)) rfl (t_bound_hi hx hx2) ?_
  refine am_goR 7 (s2 := (33, [.ref 17, .int (x), .int ((-nI 6)), .null], [.int ((-nI 6)), .ref 17], M)) rfl ?_
  refine am_goX (v := (-nI 6)) (M2 := (am_set M 18 6 (M 18 6 + nI 1))) (s2 := (36, [.ref 17, .int (x), .int ((-nI 6)), .null], [], M)) rfl (t_no_6) ?_
  exact am_ends (-nI 6) _ rfl rfl rfl

set_option maxHeartbeats 4000000 in
theorem c_pass_full {M : am_Mem} {a f hr hs lt : Nat} {k h : Nat → Nat} (hS : sp_S 1 M a f hr hs lt k h) (hO : sp_ok a f hr lt k h) {g : Nat} (hg1 : 1 ≤ g) (hg2 : g ≤ 99) (oHs : hs ≤ 9999) (hh : 9999 < hs + g) : am_go 62 (am_ent 62 [.ref 0, .int (nI g)] M) (am_is (-nI 6) (am_set M 16 6 (M 16 6 + nI 1))) := by
  obtain ⟨hF, hA, hHr, hHs, hLt, hK, hH⟩ := id hS
  obtain ⟨oA, oF, oHr, oLt, oK, oH⟩ := id hO
  refine am_goR 2 (s2 := (2, [.ref 0, .int (nI g)], [.int (nI 1), .int (nI g)], M)) rfl ?_
  refine am_bLE (1) (g) (s1 := (12, [.ref 0, .int (nI g)], [], M)) (s2 := (5, [.ref 0, .int (nI g)], [], M)) rfl (by omega) (by omega) (fun c1 => ?_) (fun c1 => absurd c1 (by omega))
  refine am_goR 2 (s2 := (15, [.ref 0, .int (nI g)], [.int (nI 99), .int (nI g)], M)) rfl ?_
  refine am_bLT (99) (g) (s1 := (33, [.ref 0, .int (nI g)], [], M)) (s2 := (18, [.ref 0, .int (nI g)], [], M)) rfl (by omega) (by omega) (fun c2 => absurd c2 (by omega)) (fun c2 => ?_)
  refine am_goQ 6 (s1 := (30, [.ref 0, .int (nI g)], [.int (nI 9999), .int (((M 1 3) + nI g))], M)) (s2 := (30, [.ref 0, .int (nI g)], [.int (nI 9999), .int (nI (hs + g))], M)) rfl (by simp only [hHs, nI_add]) ?_
  refine am_bLE ((hs + g)) (9999) (s1 := (40, [.ref 0, .int (nI g)], [], M)) (s2 := (33, [.ref 0, .int (nI g)], [], M)) rfl (by omega) (by omega) (fun c3 => absurd c3 (by omega)) (fun c3 => ?_)
  refine am_goR 2 (s2 := (36, [.ref 0, .int (nI g)], [.int ((-nI 6)), .ref 0], M)) rfl ?_
  refine am_goX (v := (-nI 6)) (M2 := (am_set M 16 6 (M 16 6 + nI 1))) (s2 := (39, [.ref 0, .int (nI g)], [], M)) rfl (s_refuse_6) ?_
  exact am_ends (-nI 6) _ rfl rfl rfl

set_option maxHeartbeats 4000000 in
theorem r_pass_full {M : am_Mem} {a f hr hs lt : Nat} {k h : Nat → Nat} (hS : sp_M M a f hr hs lt k h) (hO : sp_ok a f hr lt k h) (oD : ∀ p q, p < 2 * a → q < 2 * a → h p = h q → p = q) {g : Nat} (hg1 : 1 ≤ g) (hg2 : g ≤ 99) (oHs : hs ≤ 9999) (hh : 9999 < hs + g) : am_go 126 (am_ent 126 [.ref 17, .int (nI g)] M) (am_is (-nI 6) (am_set M 18 6 (M 18 6 + nI 1))) := by
  obtain ⟨hF, hA, hHr, hHs, hLt, hK, hH⟩ := id hS
  obtain ⟨oA, oF, oHr, oLt, oK, oH⟩ := id hO
  refine am_goR 3 (s2 := (4, [.ref 17, .int (nI g), .null, .null], [.int (nI 99), .int (nI 1), .int (nI g)], M)) rfl ?_
  refine am_goX (v := nI 0) (M2 := M) (s2 := (7, [.ref 17, .int (nI g), .null, .null], [], M)) rfl (t_bound_ok (fun z => by have := (nI_ltI (by omega) (by omega)).mp z; omega) (fun z => by have := (nI_ltI (by omega) (by omega)).mp z; omega)) ?_
  refine am_goQ 8 (s1 := (21, [.ref 17, .int (nI g), .int (nI 0), .null], [.int (nI 9999), .int (((M 17 6) + nI g))], M)) (s2 := (21, [.ref 17, .int (nI g), .int (nI 0), .null], [.int (nI 9999), .int (nI (hs + g))], M)) rfl (by simp only [hHs, nI_add]) ?_
  refine am_bLE ((hs + g)) (9999) (s1 := (27, [.ref 17, .int (nI g), .int (nI 0), .null], [], M)) (s2 := (24, [.ref 17, .int (nI g), .int (nI 0), .null], [], M)) rfl (by omega) (by omega) (fun c1 => absurd c1 (by omega)) (fun c1 => ?_)
  refine am_goR 6 (s2 := (33, [.ref 17, .int (nI g), .int ((-nI 6)), .null], [.int ((-nI 6)), .ref 17], M)) rfl ?_
  refine am_goX (v := (-nI 6)) (M2 := (am_set M 18 6 (M 18 6 + nI 1))) (s2 := (36, [.ref 17, .int (nI g), .int ((-nI 6)), .null], [], M)) rfl (t_no_6) ?_
  exact am_ends (-nI 6) _ rfl rfl rfl

set_option maxHeartbeats 4000000 in
theorem c_pass_ok {M : am_Mem} {a f hr hs lt : Nat} {k h : Nat → Nat} (hS : sp_S 1 M a f hr hs lt k h) (hO : sp_ok a f hr lt k h) {g : Nat} (hg1 : 1 ≤ g) (hg2 : g ≤ 99) (oHs : hs ≤ 9999) (hh : hs + g ≤ 9999) : am_go 62 (am_ent 62 [.ref 0, .int (nI g)] M) (am_is (nI ((hr + g) % 24)) (am_set (am_set M 1 2 (nI ((hr + g) % 24))) 1 3 (nI (hs + g)))) := by
  obtain ⟨hF, hA, hHr, hHs, hLt, hK, hH⟩ := id hS
  obtain ⟨oA, oF, oHr, oLt, oK, oH⟩ := id hO
  refine am_goR 2 (s2 := (2, [.ref 0, .int (nI g)], [.int (nI 1), .int (nI g)], M)) rfl ?_
  refine am_bLE (1) (g) (s1 := (12, [.ref 0, .int (nI g)], [], M)) (s2 := (5, [.ref 0, .int (nI g)], [], M)) rfl (by omega) (by omega) (fun c1 => ?_) (fun c1 => absurd c1 (by omega))
  refine am_goR 2 (s2 := (15, [.ref 0, .int (nI g)], [.int (nI 99), .int (nI g)], M)) rfl ?_
  refine am_bLT (99) (g) (s1 := (33, [.ref 0, .int (nI g)], [], M)) (s2 := (18, [.ref 0, .int (nI g)], [], M)) rfl (by omega) (by omega) (fun c2 => absurd c2 (by omega)) (fun c2 => ?_)
  refine am_goQ 6 (s1 := (30, [.ref 0, .int (nI g)], [.int (nI 9999), .int (((M 1 3) + nI g))], M)) (s2 := (30, [.ref 0, .int (nI g)], [.int (nI 9999), .int (nI (hs + g))], M)) rfl (by simp only [hHs, nI_add]) ?_
  refine am_bLE ((hs + g)) (9999) (s1 := (40, [.ref 0, .int (nI g)], [], M)) (s2 := (33, [.ref 0, .int (nI g)], [], M)) rfl (by omega) (by omega) (fun c3 => ?_) (fun c3 => absurd c3 (by omega))
  refine am_goR 3 (s2 := (45, [.ref 0, .int (nI g)], [.int (nI g), .ref 1], M)) rfl ?_
  refine am_goY (M2 := (am_set (am_set M 1 2 (nI ((hr + g) % 24))) 1 3 (nI (hs + g)))) (s2 := (48, [.ref 0, .int (nI g)], [], M)) rfl (s_goBy_1 hS.2.2.1 hS.2.2.2.1 (n := g) (by omega) (by omega) (by omega)) ?_
  refine am_goR 3 (s2 := (55, [.ref 0, .int (nI g)], [.int (nI ((hr + g) % 24))], (am_set (am_set M 1 2 (nI ((hr + g) % 24))) 1 3 (nI (hs + g))))) rfl ?_
  exact am_ends (nI ((hr + g) % 24)) _ rfl (by rfl) (rfl)

set_option maxHeartbeats 4000000 in
theorem r_pass_l {hr hs g : Nat} (oHr : hr < 24) (hh : hs + g ≤ 9999) : ∀ (c p : Nat) (N : am_Mem), c + p = g + 1 → p ≤ g → N 17 5 = nI ((hr + p) % 24) → N 17 6 = nI (hs + p) → am_go 126 (39, [.ref 17, .int (nI g), .int (nI 0), .int (nI p)], [], N) (am_ri (fun x O => x = nI ((hr + g) % 24) ∧ O 17 5 = nI ((hr + g) % 24) ∧ O 17 6 = nI (hs + g) ∧ ∀ a b, ¬ (a = 17 ∧ (b = 5 ∨ b = 6)) → O a b = N a b)) := by
  intro c
  induction c with
  | zero => intro p N h1 h2; omega
  | succ c ih =>
    intro p N h1 h2 hH5 hH6
    refine am_goR 2 (s2 := (41, [.ref 17, .int (nI g), .int (nI 0), .int (nI p)], [.int (nI g), .int (nI p)], N)) rfl ?_
    refine am_bLE (g) (p) (s1 := (54, [.ref 17, .int (nI g), .int (nI 0), .int (nI p)], [], N)) (s2 := (44, [.ref 17, .int (nI g), .int (nI 0), .int (nI p)], [], N)) rfl (by omega) (by omega) (fun c1 => ?_) (fun c1 => ?_)
    · refine am_goQ 2 (s1 := (58, [.ref 17, .int (nI g), .int (nI 0), .int (nI p)], [.int ((N 17 5))], N)) (s2 := (58, [.ref 17, .int (nI g), .int (nI 0), .int (nI p)], [.int (nI ((hr + p) % 24))], N)) rfl (by simp only [hH5]) ?_
      have ep : p = g := by omega
      rw [ep] at hH5 hH6
      exact am_goE _ _ rfl ⟨_, rfl, by rw [ep], hH5, hH6, fun a b z => rfl⟩
    · refine am_goR 1 (s2 := (45, [.ref 17, .int (nI g), .int (nI 0), .int (nI p)], [.ref 17], N)) rfl ?_
      refine am_goY (M2 := (am_set (am_set N 17 5 (nI ((((hr + p) % 24) + 1) % 24))) 17 6 (nI ((hs + p) + 1)))) (s2 := (48, [.ref 17, .int (nI g), .int (nI 0), .int (nI p)], [], N)) rfl (t_goesHour (hr := ((hr + p) % 24)) (hs := (hs + p)) hH5 hH6 (by omega) (by omega)) ?_
      refine am_goQ 2 (s1 := (39, [.ref 17, .int (nI g), .int (nI 0), .int ((nI p + nI 1))], [], (am_set (am_set N 17 5 (nI ((((hr + p) % 24) + 1) % 24))) 17 6 (nI ((hs + p) + 1))))) (s2 := (39, [.ref 17, .int (nI g), .int (nI 0), .int (nI (p + 1))], [], (am_set (am_set N 17 5 (nI ((((hr + p) % 24) + 1) % 24))) 17 6 (nI ((hs + p) + 1))))) rfl (by simp only [nI_add]) ?_
      have i1 := ih (p + 1) (am_set (am_set N 17 5 (nI ((((hr + p) % 24) + 1) % 24))) 17 6 (nI ((hs + p) + 1))) (by omega) (by omega) (by show nI (((hr + p) % 24 + 1) % 24) = nI ((hr + (p + 1)) % 24); congr 1; omega) (by show nI (hs + p + 1) = nI (hs + (p + 1)); congr 1)
      refine am_goW i1 (fun r9 O hr9 => ?_)
      obtain ⟨x, rfl, q1, q2, q3, q4⟩ := hr9
      exact ⟨x, rfl, q1, q2, q3, fun a b z => by rw [q4 a b z, am_set_o (by omega), am_set_o (by omega)]⟩
set_option maxHeartbeats 4000000 in
theorem r_pass_ok {M : am_Mem} {a f hr hs lt : Nat} {k h : Nat → Nat} (hS : sp_M M a f hr hs lt k h) (hO : sp_ok a f hr lt k h) (oD : ∀ p q, p < 2 * a → q < 2 * a → h p = h q → p = q) {g : Nat} (hg1 : 1 ≤ g) (hg2 : g ≤ 99) (oHs : hs ≤ 9999) (hh : hs + g ≤ 9999) : am_go 126 (am_ent 126 [.ref 17, .int (nI g)] M) (am_ri (fun x O => x = nI ((hr + g) % 24) ∧ O 17 5 = nI ((hr + g) % 24) ∧ O 17 6 = nI (hs + g) ∧ ∀ a b, ¬ (a = 17 ∧ (b = 5 ∨ b = 6)) → O a b = M a b)) := by
  obtain ⟨hF, hA, hHr, hHs, hLt, hK, hH⟩ := id hS
  obtain ⟨oA, oF, oHr, oLt, oK, oH⟩ := id hO
  refine am_goR 3 (s2 := (4, [.ref 17, .int (nI g), .null, .null], [.int (nI 99), .int (nI 1), .int (nI g)], M)) rfl ?_
  refine am_goX (v := nI 0) (M2 := M) (s2 := (7, [.ref 17, .int (nI g), .null, .null], [], M)) rfl (t_bound_ok (fun z => by have := (nI_ltI (by omega) (by omega)).mp z; omega) (fun z => by have := (nI_ltI (by omega) (by omega)).mp z; omega)) ?_
  refine am_goQ 8 (s1 := (21, [.ref 17, .int (nI g), .int (nI 0), .null], [.int (nI 9999), .int (((M 17 6) + nI g))], M)) (s2 := (21, [.ref 17, .int (nI g), .int (nI 0), .null], [.int (nI 9999), .int (nI (hs + g))], M)) rfl (by simp only [hHs, nI_add]) ?_
  refine am_bLE ((hs + g)) (9999) (s1 := (27, [.ref 17, .int (nI g), .int (nI 0), .null], [], M)) (s2 := (24, [.ref 17, .int (nI g), .int (nI 0), .null], [], M)) rfl (by omega) (by omega) (fun c1 => ?_) (fun c1 => absurd c1 (by omega))
  refine am_goR 4 (s2 := (39, [.ref 17, .int (nI g), .int (nI 0), .int (nI 0)], [], M)) rfl ?_
  exact r_pass_l oHr hh (g + 1) 0 M (by omega) (by omega) (by rw [hHr]; congr 1; omega) (by rw [hHs]; congr 1)

theorem pp_pass {M : am_Mem} (hI : sp_Inv M) (x : Int32) : sp_PP 62 126 [.int x] M := by
  obtain ⟨⟨⟨a, f, hr, hs, lt, k, h⟩, t, w2, n, tx, rn, ro, rf⟩, hC, hR, hG⟩ := hI
  have hO := hG.1.1
  have oD := hG.1.2.2.1
  have oFx := hG.1.2.2.2
  have oA := hO.1
  have oHs := hG.1.2.1
  dsimp only at oD oFx oA oHs
  have hO : sp_ok a f hr lt k h := hO
  have hS1 : sp_S 1 M a f hr hs lt k h := hC.1
  have hM1 : ∀ N, sp_IR N ((a, f, hr, hs, lt, k, h), t, w2, n, tx, rn, ro, rf) → sp_M N a f hr hs lt k h := fun N hN => hN.1
  by_cases hx : x < nI 1
  · exact sp_PPr 4 (by decide) hC hR hG (c_pass_lo hS1 hO hx) (fun N hN => r_pass_lo (hM1 N hN) hO oD hx)
  · by_cases hx2 : nI 99 < x
    · exact sp_PPr 6 (by decide) hC hR hG (c_pass_hi hS1 hO hx hx2) (fun N hN => r_pass_hi (hM1 N hN) hO oD hx hx2)
    · obtain ⟨g, hg, rfl⟩ := am_rg (n := 99) (by decide) (fun z => hx (am_lt_tr z (by decide))) hx2
      have hg1 : 1 ≤ g := Nat.not_lt.mp (fun z => hx ((nI_ltI (by omega) (by omega)).mpr z))
      by_cases hh : 9999 < hs + g
      · exact sp_PPr 6 (by decide) hC hR hG (c_pass_full hS1 hO hg1 hg oHs hh) (fun N hN => r_pass_full (hM1 N hN) hO oD hg1 hg oHs hh)
      · refine sp_comb (z2 := ((a, f, (hr + g) % 24, hs + g, lt, k, h), t, w2, n, tx, rn, ro, rf)) hR (am_goW (c_pass_ok hS1 hO hg1 hg oHs (by omega)) (fun r N9 hN9 => by
          obtain ⟨v, rfl, rfl, rfl⟩ := hN9
          refine ⟨_, rfl, rfl, fun a9 b9 c9 => by rw [am_set_o (by omega)]; rw [am_set_o (by omega)], hC.st ⟨hC.1.1, hC.1.2.1, rfl, rfl, hC.1.2.2.2.2.1, hC.1.2.2.2.2.2.1, hC.1.2.2.2.2.2.2⟩ (fun a9 b9 c9 c1 c2 c3 => by rw [am_set_o (by omega)]; rw [am_set_o (by omega)])⟩)) (fun N hN => am_goW (r_pass_ok (hM1 N hN) hO oD hg1 hg oHs (by omega)) (fun r O hO9 => ?_)) ⟨hG.1.hr (by omega) (by omega), hG.2⟩
        obtain ⟨v, rfl, rfl, q1, q2, q3⟩ := hO9
        exact ⟨_, rfl, rfl, fun a9 b9 c9 => q3 a9 b9 (by omega), hN.st ⟨(q3 _ _ (by omega)).trans hN.1.1, (q3 _ _ (by omega)).trans hN.1.2.1, q1, q2, (q3 _ _ (by omega)).trans hN.1.2.2.2.2.1, fun q hq => (q3 _ _ (by omega)).trans (hN.1.2.2.2.2.2.1 q hq), fun q hq => (q3 _ _ (by omega)).trans (hN.1.2.2.2.2.2.2 q hq)⟩ (fun a9 b9 c9 c1 c2 c3 => q3 a9 b9 (by omega))⟩

