/-! walks: steps, tellings -/
set_option maxHeartbeats 4000000 in
theorem s_tryStep_4 {M : am_Mem} {a f hr hs lt : Nat} {k h : Nat → Nat} (hS : sp_S 4 M a f hr hs lt k h) (hO : sp_ok a f hr lt k h) (oHs : hs < 1000000) {i b j : Nat} (hi : i < 1000) (hb : b < 1000) (hj : j < 1000) : am_go 16 (am_ent 16 [.ref 4, .int (nI i), .int (nI b), .int (nI j)] M) (am_is (am_b (decide (i < a) && decide (b < 2) && (sp_wk lt (k i) hr && sp_cn a f k h i b 9 j))) (am_set (am_set (bif (decide (i < a) && decide (b < 2) && (sp_wk lt (k i) hr && sp_cn a f k h i b 9 j)) then am_set M 6 (2 * i + b) (nI j) else M) 4 2 (nI ((hr + 1) % 24))) 4 3 (nI (hs + 1)))) := by
  obtain ⟨hF, hA, hHr, hHs, hLt, hK, hH⟩ := id hS
  obtain ⟨oA, oF, oHr, oLt, oK, oH⟩ := id hO
  have hg : (if sp_wk lt (k i) hr = true then sp_bs (fun q => sp_cn a f k h i b 9 q) 12 else 0) < 4096 := by split <;> first | exact sp_bs12 _ | decide
  refine am_goR 2 (s2 := (2, [.ref 4, .int (nI i), .int (nI b), .int (nI j), .null], [.int (nI i), .ref 4], M)) rfl ?_
  refine am_goX (v := am_b (decide (i < a))) (M2 := M) (s2 := (5, [.ref 4, .int (nI i), .int (nI b), .int (nI j), .null], [], M)) rfl (s_hasArmN_4 hS.2.1 hO.1 (i := i) (by omega)) ?_
  refine am_bB0 (decide (i < a)) (s1 := (32, [.ref 4, .int (nI i), .int (nI b), .int (nI j), .null], [], M)) (s2 := (8, [.ref 4, .int (nI i), .int (nI b), .int (nI j), .null], [], M)) rfl (fun c1 => ?_) (fun c1 => ?_)
  · have c1d := of_decide_eq_false c1
    refine am_goR 6 (s2 := (49, [.ref 4, .int (nI i), .int (nI b), .int (nI j), .int (nI 0)], [.int (nI 1), .ref 4], M)) rfl ?_
    refine am_goY (M2 := (am_set (am_set M 4 2 (nI ((hr + 1) % 24))) 4 3 (nI (hs + 1)))) (s2 := (52, [.ref 4, .int (nI i), .int (nI b), .int (nI j), .int (nI 0)], [], M)) rfl (s_goBy_4 hHr hHs (n := 1) (by omega) (by omega) (by omega)) ?_
    refine am_goR 1 (s2 := (54, [.ref 4, .int (nI i), .int (nI b), .int (nI j), .int (nI 0)], [.int (nI 0)], (am_set (am_set M 4 2 (nI ((hr + 1) % 24))) 4 3 (nI (hs + 1))))) rfl ?_
    have eB : (decide (i < a) && decide (b < 2) && (sp_wk lt (k i) hr && sp_cn a f k h i b 9 j)) = false := by by_cases hw : sp_wk lt (k i) hr = true <;> first | (simp_all [sp_bs_cn oF]; done) | (simp_all [sp_bs_cn oF]; intros; omega)
    rw [eB]
    exact am_endz false _ rfl rfl rfl
  · have c1d := of_decide_eq_true c1
    refine am_goR 1 (s2 := (9, [.ref 4, .int (nI i), .int (nI b), .int (nI j), .null], [.int (nI b)], M)) rfl ?_
    refine am_goX (v := am_b (decide (b < 2))) (M2 := M) (s2 := (12, [.ref 4, .int (nI i), .int (nI b), .int (nI j), .null], [], M)) rfl (s_isHandN (b := b) (by omega)) ?_
    refine am_bB0 (decide (b < 2)) (s1 := (32, [.ref 4, .int (nI i), .int (nI b), .int (nI j), .null], [], M)) (s2 := (15, [.ref 4, .int (nI i), .int (nI b), .int (nI j), .null], [], M)) rfl (fun c2 => ?_) (fun c2 => ?_)
    · have c2d := of_decide_eq_false c2
      refine am_goR 6 (s2 := (49, [.ref 4, .int (nI i), .int (nI b), .int (nI j), .int (nI 0)], [.int (nI 1), .ref 4], M)) rfl ?_
      refine am_goY (M2 := (am_set (am_set M 4 2 (nI ((hr + 1) % 24))) 4 3 (nI (hs + 1)))) (s2 := (52, [.ref 4, .int (nI i), .int (nI b), .int (nI j), .int (nI 0)], [], M)) rfl (s_goBy_4 hHr hHs (n := 1) (by omega) (by omega) (by omega)) ?_
      refine am_goR 1 (s2 := (54, [.ref 4, .int (nI i), .int (nI b), .int (nI j), .int (nI 0)], [.int (nI 0)], (am_set (am_set M 4 2 (nI ((hr + 1) % 24))) 4 3 (nI (hs + 1))))) rfl ?_
      have eB : (decide (i < a) && decide (b < 2) && (sp_wk lt (k i) hr && sp_cn a f k h i b 9 j)) = false := by by_cases hw : sp_wk lt (k i) hr = true <;> first | (simp_all [sp_bs_cn oF]; done) | (simp_all [sp_bs_cn oF]; intros; omega)
      rw [eB]
      exact am_endz false _ rfl rfl rfl
    · have c2d := of_decide_eq_true c2
      refine am_goR 3 (s2 := (18, [.ref 4, .int (nI i), .int (nI b), .int (nI j), .null], [.int (nI b), .int (nI i), .ref 4], M)) rfl ?_
      refine am_goX (v := nI (if sp_wk lt (k i) hr = true then sp_bs (fun q => sp_cn a f k h i b 9 q) 12 else 0)) (M2 := M) (s2 := (21, [.ref 4, .int (nI i), .int (nI b), .int (nI j), .null], [], M)) rfl (s_goesTo_4 hS hO (i := i) (b := b) (by omega) (by omega)) ?_
      refine am_goR 1 (s2 := (22, [.ref 4, .int (nI i), .int (nI b), .int (nI j), .null], [.int (nI j), .int (nI (if sp_wk lt (k i) hr = true then sp_bs (fun q => sp_cn a f k h i b 9 q) 12 else 0))], M)) rfl ?_
      refine am_goX (v := am_b ((if sp_wk lt (k i) hr = true then sp_bs (fun q => sp_cn a f k h i b 9 q) 12 else 0).testBit j)) (M2 := M) (s2 := (25, [.ref 4, .int (nI i), .int (nI b), .int (nI j), .null], [], M)) rfl (s_hasBitS (x := (if sp_wk lt (k i) hr = true then sp_bs (fun q => sp_cn a f k h i b 9 q) 12 else 0)) (j := j) (by omega) (by omega)) ?_
      refine am_bB0 ((if sp_wk lt (k i) hr = true then sp_bs (fun q => sp_cn a f k h i b 9 q) 12 else 0).testBit j) (s1 := (32, [.ref 4, .int (nI i), .int (nI b), .int (nI j), .null], [], M)) (s2 := (28, [.ref 4, .int (nI i), .int (nI b), .int (nI j), .null], [], M)) rfl (fun c3 => ?_) (fun c3 => ?_)
      · refine am_goR 6 (s2 := (49, [.ref 4, .int (nI i), .int (nI b), .int (nI j), .int (nI 0)], [.int (nI 1), .ref 4], M)) rfl ?_
        refine am_goY (M2 := (am_set (am_set M 4 2 (nI ((hr + 1) % 24))) 4 3 (nI (hs + 1)))) (s2 := (52, [.ref 4, .int (nI i), .int (nI b), .int (nI j), .int (nI 0)], [], M)) rfl (s_goBy_4 hHr hHs (n := 1) (by omega) (by omega) (by omega)) ?_
        refine am_goR 1 (s2 := (54, [.ref 4, .int (nI i), .int (nI b), .int (nI j), .int (nI 0)], [.int (nI 0)], (am_set (am_set M 4 2 (nI ((hr + 1) % 24))) 4 3 (nI (hs + 1))))) rfl ?_
        have eB : (decide (i < a) && decide (b < 2) && (sp_wk lt (k i) hr && sp_cn a f k h i b 9 j)) = false := by by_cases hw : sp_wk lt (k i) hr = true <;> first | (simp_all [sp_bs_cn oF]; done) | (simp_all [sp_bs_cn oF]; intros; omega)
        rw [eB]
        exact am_endz false _ rfl rfl rfl
      · refine am_goR 9 (s2 := (44, [.ref 4, .int (nI i), .int (nI b), .int (nI j), .int (nI 1)], [.int (nI j), .int (nI b), .int (nI i), .ref 4], M)) rfl ?_
        refine am_goY (M2 := (am_set M 6 (((2 * i) + b)) (nI j))) (s2 := (47, [.ref 4, .int (nI i), .int (nI b), .int (nI j), .int (nI 1)], [], M)) rfl (s_putHand_4 hS.2.1 hO.1 (i := i) (b := b) (j := j) (by omega) (by omega)) ?_
        refine am_goR 2 (s2 := (49, [.ref 4, .int (nI i), .int (nI b), .int (nI j), .int (nI 1)], [.int (nI 1), .ref 4], (am_set M 6 (((2 * i) + b)) (nI j)))) rfl ?_
        refine am_goY (M2 := (am_set (am_set (am_set M 6 (((2 * i) + b)) (nI j)) 4 2 (nI ((hr + 1) % 24))) 4 3 (nI (hs + 1)))) (s2 := (52, [.ref 4, .int (nI i), .int (nI b), .int (nI j), .int (nI 1)], [], (am_set M 6 (((2 * i) + b)) (nI j)))) rfl (s_goBy_4 hHr hHs (n := 1) (by omega) (by omega) (by omega)) ?_
        refine am_goR 1 (s2 := (54, [.ref 4, .int (nI i), .int (nI b), .int (nI j), .int (nI 1)], [.int (nI 1)], (am_set (am_set (am_set M 6 (((2 * i) + b)) (nI j)) 4 2 (nI ((hr + 1) % 24))) 4 3 (nI (hs + 1))))) rfl ?_
        have eB : (decide (i < a) && decide (b < 2) && (sp_wk lt (k i) hr && sp_cn a f k h i b 9 j)) = true := by by_cases hw : sp_wk lt (k i) hr = true <;> first | (simp_all [sp_bs_cn oF]; done) | (simp_all [sp_bs_cn oF]; intros; omega)
        rw [eB]
        exact am_endz true _ rfl rfl rfl

set_option maxHeartbeats 4000000 in
theorem s_tellJoint {M : am_Mem} {a f hr hs lt : Nat} {k h : Nat → Nat} (hS : sp_S 4 M a f hr hs lt k h) (hO : sp_ok a f hr lt k h) {j : Nat} (hj : j < 100) : am_go 31 (am_ent 31 [.ref 4, .int (nI j)] M) (am_is (am_b (decide (j < 12) && (sp_wo h j (2 * a)).isNone)) (bif (decide (j < 12) && (sp_wo h j (2 * a)).isNone) then am_set M 4 0 (nI (f ^^^ 2 ^ j)) else M)) := by
  obtain ⟨hF, hA, hHr, hHs, hLt, hK, hH⟩ := id hS
  obtain ⟨oA, oF, oHr, oLt, oK, oH⟩ := id hO
  refine am_goR 1 (s2 := (1, [.ref 4, .int (nI j)], [.int (nI j)], M)) rfl ?_
  refine am_goX (v := am_b (decide (j < 12))) (M2 := M) (s2 := (4, [.ref 4, .int (nI j)], [], M)) rfl (s_isJointN (j := j) (by omega)) ?_
  refine am_bB0 (decide (j < 12)) (s1 := (17, [.ref 4, .int (nI j)], [], M)) (s2 := (7, [.ref 4, .int (nI j)], [], M)) rfl (fun c1 => ?_) (fun c1 => ?_)
  · have c1d := of_decide_eq_false c1
    refine am_goR 1 (s2 := (18, [.ref 4, .int (nI j)], [.int (nI 0)], M)) rfl ?_
    exact am_endz false _ rfl (by simp [*]) (by simp [*])
  · have c1d := of_decide_eq_true c1
    refine am_goR 2 (s2 := (9, [.ref 4, .int (nI j)], [.int (nI j), .ref 4], M)) rfl ?_
    rcases hw3 : sp_wo h j (2 * a) with _ | q2
    · refine am_goX (v := (-nI 9)) (M2 := M) (s2 := (12, [.ref 4, .int (nI j)], [], M)) rfl (s_whoIsOnN_4 hS hO (j := j) (by omega) hw3) ?_
      refine am_goQ 9 (s1 := (28, [.ref 4, .int (nI j)], [.int (((M 4 0) ^^^ (nI 1 <<< (nI j &&& 31)))), .ref 4], M)) (s2 := (28, [.ref 4, .int (nI j)], [.int (nI (f ^^^ (2 ^ j))), .ref 4], M)) rfl (by simp only [hF, am_shl1 (j := j) (by omega), am_xor]) ?_
      refine am_goR 2 (s2 := (32, [.ref 4, .int (nI j)], [.int (nI 1)], (am_set M 4 0 (nI (f ^^^ (2 ^ j)))))) rfl ?_
      exact am_endz true _ rfl (by simp [*]) (by simp [*])
    · refine am_goX (v := nI ((10 * (q2 / 2)) + (q2 % 2))) (M2 := M) (s2 := (12, [.ref 4, .int (nI j)], [], M)) rfl (s_whoIsOnS_4 hS hO (j := j) (by omega) hw3) ?_
      have hq2 := (sp_wo_some.mp hw3).1
      refine am_goR 1 (s2 := (14, [.ref 4, .int (nI j)], [.int ((-nI 9)), .int (nI ((10 * (q2 / 2)) + (q2 % 2)))], M)) rfl ?_
      refine am_bF (s1 := (19, [.ref 4, .int (nI j)], [], M)) (s2 := (17, [.ref 4, .int (nI j)], [], M)) rfl (am_nm_ne (x := ((10 * (q2 / 2)) + (q2 % 2))) (m := 9) (by omega) (by decide) (by decide)) ?_
      refine am_goR 1 (s2 := (18, [.ref 4, .int (nI j)], [.int (nI 0)], M)) rfl ?_
      exact am_endz false _ rfl (by simp [*]) (by simp [*])

set_option maxHeartbeats 4000000 in
theorem s_tellHour {M : am_Mem} {a f hr hs lt : Nat} {k h : Nat → Nat} (hS : sp_S 4 M a f hr hs lt k h) (hO : sp_ok a f hr lt k h) {j : Nat} (hj : j < 100) : am_go 32 (am_ent 32 [.ref 4, .int (nI j)] M) (am_is (am_b (decide (j < 24))) (bif (decide (j < 24)) then am_set M 4 2 (nI j) else M)) := by
  obtain ⟨hF, hA, hHr, hHs, hLt, hK, hH⟩ := id hS
  obtain ⟨oA, oF, oHr, oLt, oK, oH⟩ := id hO
  refine am_goR 1 (s2 := (1, [.ref 4, .int (nI j)], [.int (nI j)], M)) rfl ?_
  refine am_bLT (j) (0) (s1 := (10, [.ref 4, .int (nI j)], [], M)) (s2 := (4, [.ref 4, .int (nI j)], [], M)) rfl (by omega) (by omega) (fun c1 => absurd c1 (by omega)) (fun c1 => ?_)
  refine am_goR 2 (s2 := (7, [.ref 4, .int (nI j)], [.int (nI 24), .int (nI j)], M)) rfl ?_
  refine am_bLT (j) (24) (s1 := (12, [.ref 4, .int (nI j)], [], M)) (s2 := (10, [.ref 4, .int (nI j)], [], M)) rfl (by omega) (by omega) (fun c2 => ?_) (fun c2 => ?_)
  · refine am_goR 4 (s2 := (18, [.ref 4, .int (nI j)], [.int (nI 1)], (am_set M 4 2 (nI j)))) rfl ?_
    exact am_endz true _ rfl (by first | (rw [decide_eq_true (by omega)]; done) | (rw [decide_eq_false (by omega)]; done) | (rw [decide_eq_true (by omega)]; rfl) | (rw [decide_eq_false (by omega)]; rfl)) (by first | (rw [decide_eq_true (by omega)]; done) | (rw [decide_eq_false (by omega)]; done) | (rw [decide_eq_true (by omega)]; rfl) | (rw [decide_eq_false (by omega)]; rfl))
  · refine am_goR 1 (s2 := (11, [.ref 4, .int (nI j)], [.int (nI 0)], M)) rfl ?_
    exact am_endz false _ rfl (by first | (rw [decide_eq_true (by omega)]; done) | (rw [decide_eq_false (by omega)]; done) | (rw [decide_eq_true (by omega)]; rfl) | (rw [decide_eq_false (by omega)]; rfl)) (by first | (rw [decide_eq_true (by omega)]; done) | (rw [decide_eq_false (by omega)]; done) | (rw [decide_eq_true (by omega)]; rfl) | (rw [decide_eq_false (by omega)]; rfl))

set_option maxHeartbeats 4000000 in
theorem s_tellDark {M : am_Mem} {a f hr hs lt : Nat} {k h : Nat → Nat} (hS : sp_S 4 M a f hr hs lt k h) (hO : sp_ok a f hr lt k h) {j : Nat} (hj : j < 100) : am_go 33 (am_ent 33 [.ref 4, .int (nI j)] M) (am_is (am_b (decide (j < 24))) (bif (decide (j < 24)) then am_set M 4 4 (nI (lt ^^^ 2 ^ j)) else M)) := by
  obtain ⟨hF, hA, hHr, hHs, hLt, hK, hH⟩ := id hS
  obtain ⟨oA, oF, oHr, oLt, oK, oH⟩ := id hO
  refine am_goR 1 (s2 := (1, [.ref 4, .int (nI j)], [.int (nI j)], M)) rfl ?_
  refine am_bLT (j) (0) (s1 := (10, [.ref 4, .int (nI j)], [], M)) (s2 := (4, [.ref 4, .int (nI j)], [], M)) rfl (by omega) (by omega) (fun c1 => absurd c1 (by omega)) (fun c1 => ?_)
  refine am_goR 2 (s2 := (7, [.ref 4, .int (nI j)], [.int (nI 24), .int (nI j)], M)) rfl ?_
  refine am_bLT (j) (24) (s1 := (12, [.ref 4, .int (nI j)], [], M)) (s2 := (10, [.ref 4, .int (nI j)], [], M)) rfl (by omega) (by omega) (fun c2 => ?_) (fun c2 => ?_)
  · refine am_goQ 7 (s1 := (21, [.ref 4, .int (nI j)], [.int (((M 4 4) ^^^ (nI 1 <<< (nI j &&& 31)))), .ref 4], M)) (s2 := (21, [.ref 4, .int (nI j)], [.int (nI (lt ^^^ (2 ^ j))), .ref 4], M)) rfl (by simp only [hLt, am_shl1 (j := j) (by omega), am_xor]) ?_
    refine am_goR 2 (s2 := (25, [.ref 4, .int (nI j)], [.int (nI 1)], (am_set M 4 4 (nI (lt ^^^ (2 ^ j)))))) rfl ?_
    exact am_endz true _ rfl (by first | (rw [decide_eq_true (by omega)]; done) | (rw [decide_eq_false (by omega)]; done) | (rw [decide_eq_true (by omega)]; rfl) | (rw [decide_eq_false (by omega)]; rfl)) (by first | (rw [decide_eq_true (by omega)]; done) | (rw [decide_eq_false (by omega)]; done) | (rw [decide_eq_true (by omega)]; rfl) | (rw [decide_eq_false (by omega)]; rfl))
  · refine am_goR 1 (s2 := (11, [.ref 4, .int (nI j)], [.int (nI 0)], M)) rfl ?_
    exact am_endz false _ rfl (by first | (rw [decide_eq_true (by omega)]; done) | (rw [decide_eq_false (by omega)]; done) | (rw [decide_eq_true (by omega)]; rfl) | (rw [decide_eq_false (by omega)]; rfl)) (by first | (rw [decide_eq_true (by omega)]; done) | (rw [decide_eq_false (by omega)]; done) | (rw [decide_eq_true (by omega)]; rfl) | (rw [decide_eq_false (by omega)]; rfl))

set_option maxHeartbeats 4000000 in
theorem s_tellArm {M : am_Mem} {a f hr hs lt : Nat} {k h : Nat → Nat} (hS : sp_S 4 M a f hr hs lt k h) (hO : sp_ok a f hr lt k h) {kd x y : Nat} (hkd : kd < 6) (hx : x < 100) (hy : y < 100) : am_go 34 (am_ent 34 [.ref 4, .int (nI kd), .int (nI x), .int (nI y)] M) (am_is (am_b (sp_tk2 a f k h kd x y)) (bif sp_tk2 a f k h kd x y then sp_ta M kd a x y else M)) := by
  obtain ⟨hF, hA, hHr, hHs, hLt, hK, hH⟩ := id hS
  obtain ⟨oA, oF, oHr, oLt, oK, oH⟩ := id hO
  have hds : sp_ds x y < 1000 := by unfold sp_ds; omega
  have hrc := sp_rc_lt kd
  refine am_goQ 2 (s1 := (4, [.ref 4, .int (nI kd), .int (nI x), .int (nI y)], [.int ((M 4 1))], M)) (s2 := (4, [.ref 4, .int (nI kd), .int (nI x), .int (nI y)], [.int (nI a)], M)) rfl (by simp only [hA]) ?_
  refine am_bLT (a) (0) (s1 := (31, [.ref 4, .int (nI kd), .int (nI x), .int (nI y)], [], M)) (s2 := (7, [.ref 4, .int (nI kd), .int (nI x), .int (nI y)], [], M)) rfl (by omega) (by omega) (fun c1 => absurd c1 (by omega)) (fun c1 => ?_)
  refine am_goQ 5 (s1 := (16, [.ref 4, .int (nI kd), .int (nI x), .int (nI y)], [.int (nI 4), .int ((M 4 1))], M)) (s2 := (16, [.ref 4, .int (nI kd), .int (nI x), .int (nI y)], [.int (nI 4), .int (nI a)], M)) rfl (by simp only [hA]) ?_
  refine am_bLE (4) (a) (s1 := (31, [.ref 4, .int (nI kd), .int (nI x), .int (nI y)], [], M)) (s2 := (19, [.ref 4, .int (nI kd), .int (nI x), .int (nI y)], [], M)) rfl (by omega) (by omega) (fun c2 => ?_) (fun c2 => ?_)
  · refine am_goR 1 (s2 := (32, [.ref 4, .int (nI kd), .int (nI x), .int (nI y)], [.int (nI 0)], M)) rfl ?_
    have eB : sp_tk2 a f k h kd x y = false := by unfold sp_tk2; first | (simp [*]; done) | (simp <;> omega) | (simp [*] <;> omega)
    rw [eB]
    exact am_endz false _ rfl rfl rfl
  · refine am_goR 1 (s2 := (20, [.ref 4, .int (nI kd), .int (nI x), .int (nI y)], [.int (nI kd)], M)) rfl ?_
    refine am_bLT (kd) (0) (s1 := (31, [.ref 4, .int (nI kd), .int (nI x), .int (nI y)], [], M)) (s2 := (23, [.ref 4, .int (nI kd), .int (nI x), .int (nI y)], [], M)) rfl (by omega) (by omega) (fun c3 => absurd c3 (by omega)) (fun c3 => ?_)
    refine am_goR 3 (s2 := (28, [.ref 4, .int (nI kd), .int (nI x), .int (nI y)], [.int (nI 6), .int (nI kd)], M)) rfl ?_
    refine am_bLT (kd) (6) (s1 := (33, [.ref 4, .int (nI kd), .int (nI x), .int (nI y)], [], M)) (s2 := (31, [.ref 4, .int (nI kd), .int (nI x), .int (nI y)], [], M)) rfl (by omega) (by omega) (fun c4 => ?_) (fun c4 => absurd c4 (by omega))
    refine am_goR 2 (s2 := (35, [.ref 4, .int (nI kd), .int (nI x), .int (nI y)], [.int (nI x), .ref 4], M)) rfl ?_
    refine am_goX (v := am_b (sp_fe a f h x)) (M2 := M) (s2 := (38, [.ref 4, .int (nI kd), .int (nI x), .int (nI y)], [], M)) rfl (s_isFree_4 hS hO (j := x) (by omega)) ?_
    refine am_bB0 (sp_fe a f h x) (s1 := (68, [.ref 4, .int (nI kd), .int (nI x), .int (nI y)], [], M)) (s2 := (41, [.ref 4, .int (nI kd), .int (nI x), .int (nI y)], [], M)) rfl (fun c5 => ?_) (fun c5 => ?_)
    · refine am_goR 1 (s2 := (69, [.ref 4, .int (nI kd), .int (nI x), .int (nI y)], [.int (nI 0)], M)) rfl ?_
      have eB : sp_tk2 a f k h kd x y = false := by unfold sp_tk2; first | (simp [*]; done) | (simp <;> omega) | (simp [*] <;> omega)
      rw [eB]
      exact am_endz false _ rfl rfl rfl
    · refine am_goR 2 (s2 := (43, [.ref 4, .int (nI kd), .int (nI x), .int (nI y)], [.int (nI y), .ref 4], M)) rfl ?_
      refine am_goX (v := am_b (sp_fe a f h y)) (M2 := M) (s2 := (46, [.ref 4, .int (nI kd), .int (nI x), .int (nI y)], [], M)) rfl (s_isFree_4 hS hO (j := y) (by omega)) ?_
      refine am_bB0 (sp_fe a f h y) (s1 := (68, [.ref 4, .int (nI kd), .int (nI x), .int (nI y)], [], M)) (s2 := (49, [.ref 4, .int (nI kd), .int (nI x), .int (nI y)], [], M)) rfl (fun c6 => ?_) (fun c6 => ?_)
      · refine am_goR 1 (s2 := (69, [.ref 4, .int (nI kd), .int (nI x), .int (nI y)], [.int (nI 0)], M)) rfl ?_
        have eB : sp_tk2 a f k h kd x y = false := by unfold sp_tk2; first | (simp [*]; done) | (simp <;> omega) | (simp [*] <;> omega)
        rw [eB]
        exact am_endz false _ rfl rfl rfl
      · refine am_goR 2 (s2 := (51, [.ref 4, .int (nI kd), .int (nI x), .int (nI y)], [.int (nI y), .int (nI x)], M)) rfl ?_
        refine am_bEQ (x) (y) (s1 := (68, [.ref 4, .int (nI kd), .int (nI x), .int (nI y)], [], M)) (s2 := (54, [.ref 4, .int (nI kd), .int (nI x), .int (nI y)], [], M)) rfl (by omega) (by omega) (fun c7 => ?_) (fun c7 => ?_)
        · refine am_goR 1 (s2 := (69, [.ref 4, .int (nI kd), .int (nI x), .int (nI y)], [.int (nI 0)], M)) rfl ?_
          have eB : sp_tk2 a f k h kd x y = false := by unfold sp_tk2; first | (simp [*]; done) | (simp <;> omega) | (simp [*] <;> omega)
          rw [eB]
          exact am_endz false _ rfl rfl rfl
        · refine am_goQ 6 (s1 := (64, [.ref 4, .int (nI kd), .int (nI x), .int (nI y)], [.int (nI kd), .ref 31, .int ((am_abs ((nI x - nI y))))], M)) (s2 := (64, [.ref 4, .int (nI kd), .int (nI x), .int (nI y)], [.int (nI kd), .ref 31, .int (nI (sp_ds x y))], M)) rfl (by simp only [am_absd (x := x) (y := y) (by omega) (by omega)]) ?_
          refine am_goL2 (pc := 65) (ls := [.ref 4, .int (nI kd), .int (nI x), .int (nI y)]) (r := [.int (nI (sp_ds x y))]) (M := M) (a := 31) (n := 6) (kd) (nI (sp_rc kd)) rfl rfl (by omega) (by decide) (sp_rc_tab (by omega)) ?_
          refine am_bLE ((sp_ds x y)) ((sp_rc kd)) (s1 := (70, [.ref 4, .int (nI kd), .int (nI x), .int (nI y)], [], M)) (s2 := (68, [.ref 4, .int (nI kd), .int (nI x), .int (nI y)], [], M)) rfl (by omega) (by omega) (fun c8 => ?_) (fun c8 => ?_)
          · refine am_goQ 5 (s1 := (79, [.ref 4, .int (nI kd), .int (nI x), .int (nI y)], [.int (nI kd), .int ((M 4 1)), .ref 5], M)) (s2 := (79, [.ref 4, .int (nI kd), .int (nI x), .int (nI y)], [.int (nI kd), .int (nI a), .ref 5], M)) rfl (by simp only [hA]) ?_
            refine am_goS (pc := 80) (ls := [.ref 4, .int (nI kd), .int (nI x), .int (nI y)]) (r := []) (M := M) (a := 5) (n := 4) (v := nI kd) (a) rfl rfl (by omega) (by decide) ?_
            refine am_goQ 5 (s1 := (87, [.ref 4, .int (nI kd), .int (nI x), .int (nI y)], [.int (((M 4 1) + nI 1)), .ref 4], (am_set M 5 a (nI kd)))) (s2 := (87, [.ref 4, .int (nI kd), .int (nI x), .int (nI y)], [.int (nI (a + 1)), .ref 4], (am_set M 5 a (nI kd)))) rfl (by simp only [hA, nI_add]) ?_
            refine am_goR 1 (s2 := (90, [.ref 4, .int (nI kd), .int (nI x), .int (nI y)], [], (am_set (am_set M 5 a (nI kd)) 4 1 (nI (a + 1))))) rfl ?_
            refine am_goQ 7 (s1 := (99, [.ref 4, .int (nI kd), .int (nI x), .int (nI y)], [.int (nI x), .int (nI 0), .int ((nI (a + 1) - nI 1)), .ref 4], (am_set (am_set M 5 a (nI kd)) 4 1 (nI (a + 1))))) (s2 := (99, [.ref 4, .int (nI kd), .int (nI x), .int (nI y)], [.int (nI x), .int (nI 0), .int (nI ((a + 1) - 1)), .ref 4], (am_set (am_set M 5 a (nI kd)) 4 1 (nI (a + 1))))) rfl (by simp only [pk_sub (a := (a + 1)) (b := 1) (by omega)]) ?_
            refine am_goY (M2 := (am_set (am_set (am_set M 5 a (nI kd)) 4 1 (nI (a + 1))) 6 (((2 * ((a + 1) - 1)) + 0)) (nI x))) (s2 := (102, [.ref 4, .int (nI kd), .int (nI x), .int (nI y)], [], (am_set (am_set M 5 a (nI kd)) 4 1 (nI (a + 1))))) rfl (s_putHand_4 (a := a + 1) rfl (by omega) (i := ((a + 1) - 1)) (b := 0) (j := x) (by omega) (by omega)) ?_
            refine am_goQ 7 (s1 := (111, [.ref 4, .int (nI kd), .int (nI x), .int (nI y)], [.int (nI y), .int (nI 1), .int ((nI (a + 1) - nI 1)), .ref 4], (am_set (am_set (am_set M 5 a (nI kd)) 4 1 (nI (a + 1))) 6 (((2 * ((a + 1) - 1)) + 0)) (nI x)))) (s2 := (111, [.ref 4, .int (nI kd), .int (nI x), .int (nI y)], [.int (nI y), .int (nI 1), .int (nI ((a + 1) - 1)), .ref 4], (am_set (am_set (am_set M 5 a (nI kd)) 4 1 (nI (a + 1))) 6 (((2 * ((a + 1) - 1)) + 0)) (nI x)))) rfl (by simp only [pk_sub (a := (a + 1)) (b := 1) (by omega)]) ?_
            refine am_goY (M2 := (am_set (am_set (am_set (am_set M 5 a (nI kd)) 4 1 (nI (a + 1))) 6 (((2 * ((a + 1) - 1)) + 0)) (nI x)) 6 (((2 * ((a + 1) - 1)) + 1)) (nI y))) (s2 := (114, [.ref 4, .int (nI kd), .int (nI x), .int (nI y)], [], (am_set (am_set (am_set M 5 a (nI kd)) 4 1 (nI (a + 1))) 6 (((2 * ((a + 1) - 1)) + 0)) (nI x)))) rfl (s_putHand_4 (a := a + 1) rfl (by omega) (i := ((a + 1) - 1)) (b := 1) (j := y) (by omega) (by omega)) ?_
            refine am_goR 1 (s2 := (115, [.ref 4, .int (nI kd), .int (nI x), .int (nI y)], [.int (nI 1)], (am_set (am_set (am_set (am_set M 5 a (nI kd)) 4 1 (nI (a + 1))) 6 (((2 * ((a + 1) - 1)) + 0)) (nI x)) 6 (((2 * ((a + 1) - 1)) + 1)) (nI y)))) rfl ?_
            have eB : sp_tk2 a f k h kd x y = true := by unfold sp_tk2; first | (simp [*]; done) | (simp <;> omega) | (simp [*] <;> omega)
            rw [eB]
            exact am_endz true _ rfl rfl rfl
          · refine am_goR 1 (s2 := (69, [.ref 4, .int (nI kd), .int (nI x), .int (nI y)], [.int (nI 0)], M)) rfl ?_
            have eB : sp_tk2 a f k h kd x y = false := by unfold sp_tk2; first | (simp [*]; done) | (simp <;> omega) | (simp [*] <;> omega)
            rw [eB]
            exact am_endz false _ rfl rfl rfl

