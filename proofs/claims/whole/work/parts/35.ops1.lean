/-! calls: arm, joint, may, rest -/
set_option maxHeartbeats 4000000 in
theorem c_arm_0 {M : am_Mem} {a f hr hs lt : Nat} {k h : Nat → Nat} (hS : sp_S 1 M a f hr hs lt k h) (hO : sp_ok a f hr lt k h) {x : Int32} (hx : am_in x a = false) {y : Int32} : am_go 56 (am_ent 56 [.ref 0, .int (x), .int (y)] M) (am_is (-nI 1) (am_set M 16 1 (M 16 1 + nI 1))) := by
  obtain ⟨hF, hA, hHr, hHs, hLt, hK, hH⟩ := id hS
  obtain ⟨oA, oF, oHr, oLt, oK, oH⟩ := id hO
  refine am_goR 3 (s2 := (5, [.ref 0, .int (x), .int (y)], [.int (x), .ref 1], M)) rfl ?_
  refine am_goX (v := am_b (am_in x a)) (M2 := M) (s2 := (8, [.ref 0, .int (x), .int (y)], [], M)) rfl (s_hasArm_1 hS.2.1 hO.1) ?_
  refine am_bB1 (am_in x a) (s1 := (17, [.ref 0, .int (x), .int (y)], [], M)) (s2 := (11, [.ref 0, .int (x), .int (y)], [], M)) rfl (fun c1 => absurd c1 (by simp [*])) (fun c1 => ?_)
  refine am_goR 2 (s2 := (13, [.ref 0, .int (x), .int (y)], [.int ((-nI 1)), .ref 0], M)) rfl ?_
  refine am_goX (v := (-nI 1)) (M2 := (am_set M 16 1 (M 16 1 + nI 1))) (s2 := (16, [.ref 0, .int (x), .int (y)], [], M)) rfl (s_refuse_1) ?_
  exact am_ends (-nI 1) _ rfl rfl rfl

set_option maxHeartbeats 4000000 in
theorem r_arm_0 {M : am_Mem} {a f hr hs lt : Nat} {k h : Nat → Nat} (hS : sp_M M a f hr hs lt k h) (hO : sp_ok a f hr lt k h) (oD : ∀ p q, p < 2 * a → q < 2 * a → h p = h q → p = q) {x : Int32} (hx : am_in x a = false) {y : Int32} : am_go 119 (am_ent 119 [.ref 17, .int (x), .int (y)] M) (am_is (-nI 1) (am_set M 18 1 (M 18 1 + nI 1))) := by
  obtain ⟨hF, hA, hHr, hHs, hLt, hK, hH⟩ := id hS
  obtain ⟨oA, oF, oHr, oLt, oK, oH⟩ := id hO
  refine am_goR 2 (s2 := (2, [.ref 17, .int (x), .int (y)], [.int (x), .ref 17], M)) rfl ?_
  refine am_goX (v := am_b (am_in x a)) (M2 := M) (s2 := (5, [.ref 17, .int (x), .int (y)], [], M)) rfl (t_isArm hS.2.1 hO.1) ?_
  refine am_bB1 (am_in x a) (s1 := (14, [.ref 17, .int (x), .int (y)], [], M)) (s2 := (8, [.ref 17, .int (x), .int (y)], [], M)) rfl (fun c1 => absurd c1 (by simp [*])) (fun c1 => ?_)
  refine am_goR 2 (s2 := (10, [.ref 17, .int (x), .int (y)], [.int ((-nI 1)), .ref 17], M)) rfl ?_
  refine am_goX (v := (-nI 1)) (M2 := (am_set M 18 1 (M 18 1 + nI 1))) (s2 := (13, [.ref 17, .int (x), .int (y)], [], M)) rfl (t_no_1) ?_
  exact am_ends (-nI 1) _ rfl rfl rfl

set_option maxHeartbeats 4000000 in
theorem c_arm_v0 {M : am_Mem} {a f hr hs lt : Nat} {k h : Nat → Nat} (hS : sp_S 1 M a f hr hs lt k h) (hO : sp_ok a f hr lt k h) {i : Nat} (hi : i < a) : am_go 56 (am_ent 56 [.ref 0, .int (nI i), .int (nI 0)] M) (am_is (nI (k i)) M) := by
  obtain ⟨hF, hA, hHr, hHs, hLt, hK, hH⟩ := id hS
  obtain ⟨oA, oF, oHr, oLt, oK, oH⟩ := id hO
  have okI := oK i
  refine am_goR 3 (s2 := (5, [.ref 0, .int (nI i), .int (nI 0)], [.int (nI i), .ref 1], M)) rfl ?_
  refine am_goX (v := nI 1) (M2 := M) (s2 := (8, [.ref 0, .int (nI i), .int (nI 0)], [], M)) rfl (s_hasArm1_1 hS.2.1 hO.1 (i := i) (by omega)) ?_
  refine am_goR 6 (s2 := (57, [.ref 0, .int (nI i), .int (nI 0)], [.int (nI i), .ref 1], M)) rfl ?_
  refine am_goX (v := nI (k i)) (M2 := M) (s2 := (60, [.ref 0, .int (nI i), .int (nI 0)], [], M)) rfl (s_kindOf_1 hS hO (i := i) (by omega)) ?_
  exact am_ends (nI (k i)) _ rfl (by first | rfl | (simp only [*]; rfl)) (rfl)

set_option maxHeartbeats 4000000 in
theorem r_arm_v0 {M : am_Mem} {a f hr hs lt : Nat} {k h : Nat → Nat} (hS : sp_M M a f hr hs lt k h) (hO : sp_ok a f hr lt k h) (oD : ∀ p q, p < 2 * a → q < 2 * a → h p = h q → p = q) {i : Nat} (hi : i < a) : am_go 119 (am_ent 119 [.ref 17, .int (nI i), .int (nI 0)] M) (am_is (nI (k i)) M) := by
  obtain ⟨hF, hA, hHr, hHs, hLt, hK, hH⟩ := id hS
  obtain ⟨oA, oF, oHr, oLt, oK, oH⟩ := id hO
  have okI := oK i
  refine am_goR 2 (s2 := (2, [.ref 17, .int (nI i), .int (nI 0)], [.int (nI i), .ref 17], M)) rfl ?_
  refine am_goX (v := nI 1) (M2 := M) (s2 := (5, [.ref 17, .int (nI i), .int (nI 0)], [], M)) rfl (t_isArm1 hS.2.1 hO.1 (i := i) (by omega)) ?_
  refine am_goR 6 (s2 := (53, [.ref 17, .int (nI i), .int (nI 0)], [.int (nI i), .ref 19], M)) rfl ?_
  refine am_goL2 (pc := 54) (ls := [.ref 17, .int (nI i), .int (nI 0)]) (r := []) (M := M) (a := 19) (n := 4) (i) (nI (k i)) rfl rfl (by omega) (by decide) (hK _ (by omega)) ?_
  exact am_ends (nI (k i)) _ rfl (by first | rfl | (simp only [*]; rfl)) (rfl)

set_option maxHeartbeats 4000000 in
theorem c_arm_v1 {M : am_Mem} {a f hr hs lt : Nat} {k h : Nat → Nat} (hS : sp_S 1 M a f hr hs lt k h) (hO : sp_ok a f hr lt k h) {i : Nat} (hi : i < a) : am_go 56 (am_ent 56 [.ref 0, .int (nI i), .int (nI 1)] M) (am_is (nI (h (2 * i))) M) := by
  obtain ⟨hF, hA, hHr, hHs, hLt, hK, hH⟩ := id hS
  obtain ⟨oA, oF, oHr, oLt, oK, oH⟩ := id hO
  have okI := oK i
  refine am_goR 3 (s2 := (5, [.ref 0, .int (nI i), .int (nI 1)], [.int (nI i), .ref 1], M)) rfl ?_
  refine am_goX (v := nI 1) (M2 := M) (s2 := (8, [.ref 0, .int (nI i), .int (nI 1)], [], M)) rfl (s_hasArm1_1 hS.2.1 hO.1 (i := i) (by omega)) ?_
  refine am_goR 7 (s2 := (67, [.ref 0, .int (nI i), .int (nI 1)], [.int (nI 0), .int (nI i), .ref 1], M)) rfl ?_
  refine am_goX (v := nI (h (2 * i))) (M2 := M) (s2 := (70, [.ref 0, .int (nI i), .int (nI 1)], [], M)) rfl (s_handOn_1 hS hO (i := i) (b := 0) (by omega) (by omega)) ?_
  exact am_ends (nI (h (2 * i))) _ rfl (by first | rfl | (simp only [*]; rfl)) (rfl)

set_option maxHeartbeats 4000000 in
theorem r_arm_v1 {M : am_Mem} {a f hr hs lt : Nat} {k h : Nat → Nat} (hS : sp_M M a f hr hs lt k h) (hO : sp_ok a f hr lt k h) (oD : ∀ p q, p < 2 * a → q < 2 * a → h p = h q → p = q) {i : Nat} (hi : i < a) : am_go 119 (am_ent 119 [.ref 17, .int (nI i), .int (nI 1)] M) (am_is (nI (h (2 * i))) M) := by
  obtain ⟨hF, hA, hHr, hHs, hLt, hK, hH⟩ := id hS
  obtain ⟨oA, oF, oHr, oLt, oK, oH⟩ := id hO
  have okI := oK i
  refine am_goR 2 (s2 := (2, [.ref 17, .int (nI i), .int (nI 1)], [.int (nI i), .ref 17], M)) rfl ?_
  refine am_goX (v := nI 1) (M2 := M) (s2 := (5, [.ref 17, .int (nI i), .int (nI 1)], [], M)) rfl (t_isArm1 hS.2.1 hO.1 (i := i) (by omega)) ?_
  refine am_goQ 12 (s1 := (66, [.ref 17, .int (nI i), .int (nI 1)], [.int ((((nI 2 * nI i) + nI 1) - nI 1)), .ref 20], M)) (s2 := (66, [.ref 17, .int (nI i), .int (nI 1)], [.int (nI (((2 * i) + 1) - 1)), .ref 20], M)) rfl (by simp only [pk_mul, nI_add, pk_sub (a := ((2 * i) + 1)) (b := 1) (by omega)]) ?_
  refine am_goL2 (pc := 67) (ls := [.ref 17, .int (nI i), .int (nI 1)]) (r := []) (M := M) (a := 20) (n := 8) ((((2 * i) + 1) - 1)) (nI (h (((2 * i) + 1) - 1))) rfl rfl (by omega) (by decide) (hH _ (by omega)) ?_
  exact am_ends (nI (h (((2 * i) + 1) - 1))) _ rfl (by first | rfl | (simp only [*]; rfl)) (rfl)

set_option maxHeartbeats 4000000 in
theorem c_arm_v2 {M : am_Mem} {a f hr hs lt : Nat} {k h : Nat → Nat} (hS : sp_S 1 M a f hr hs lt k h) (hO : sp_ok a f hr lt k h) {i : Nat} (hi : i < a) : am_go 56 (am_ent 56 [.ref 0, .int (nI i), .int (nI 2)] M) (am_is (nI (h (2 * i + 1))) M) := by
  obtain ⟨hF, hA, hHr, hHs, hLt, hK, hH⟩ := id hS
  obtain ⟨oA, oF, oHr, oLt, oK, oH⟩ := id hO
  have okI := oK i
  refine am_goR 3 (s2 := (5, [.ref 0, .int (nI i), .int (nI 2)], [.int (nI i), .ref 1], M)) rfl ?_
  refine am_goX (v := nI 1) (M2 := M) (s2 := (8, [.ref 0, .int (nI i), .int (nI 2)], [], M)) rfl (s_hasArm1_1 hS.2.1 hO.1 (i := i) (by omega)) ?_
  refine am_goR 7 (s2 := (77, [.ref 0, .int (nI i), .int (nI 2)], [.int (nI 1), .int (nI i), .ref 1], M)) rfl ?_
  refine am_goX (v := nI (h ((2 * i) + 1))) (M2 := M) (s2 := (80, [.ref 0, .int (nI i), .int (nI 2)], [], M)) rfl (s_handOn_1 hS hO (i := i) (b := 1) (by omega) (by omega)) ?_
  exact am_ends (nI (h ((2 * i) + 1))) _ rfl (by first | rfl | (simp only [*]; rfl)) (rfl)

set_option maxHeartbeats 4000000 in
theorem r_arm_v2 {M : am_Mem} {a f hr hs lt : Nat} {k h : Nat → Nat} (hS : sp_M M a f hr hs lt k h) (hO : sp_ok a f hr lt k h) (oD : ∀ p q, p < 2 * a → q < 2 * a → h p = h q → p = q) {i : Nat} (hi : i < a) : am_go 119 (am_ent 119 [.ref 17, .int (nI i), .int (nI 2)] M) (am_is (nI (h (2 * i + 1))) M) := by
  obtain ⟨hF, hA, hHr, hHs, hLt, hK, hH⟩ := id hS
  obtain ⟨oA, oF, oHr, oLt, oK, oH⟩ := id hO
  have okI := oK i
  refine am_goR 2 (s2 := (2, [.ref 17, .int (nI i), .int (nI 2)], [.int (nI i), .ref 17], M)) rfl ?_
  refine am_goX (v := nI 1) (M2 := M) (s2 := (5, [.ref 17, .int (nI i), .int (nI 2)], [], M)) rfl (t_isArm1 hS.2.1 hO.1 (i := i) (by omega)) ?_
  refine am_goQ 12 (s1 := (66, [.ref 17, .int (nI i), .int (nI 2)], [.int ((((nI 2 * nI i) + nI 2) - nI 1)), .ref 20], M)) (s2 := (66, [.ref 17, .int (nI i), .int (nI 2)], [.int (nI (((2 * i) + 2) - 1)), .ref 20], M)) rfl (by simp only [pk_mul, nI_add, pk_sub (a := ((2 * i) + 2)) (b := 1) (by omega)]) ?_
  refine am_goL2 (pc := 67) (ls := [.ref 17, .int (nI i), .int (nI 2)]) (r := []) (M := M) (a := 20) (n := 8) ((((2 * i) + 2) - 1)) (nI (h (((2 * i) + 2) - 1))) rfl rfl (by omega) (by decide) (hH _ (by omega)) ?_
  exact am_ends (nI (h (((2 * i) + 2) - 1))) _ rfl (by first | rfl | (simp only [*]; rfl)) (rfl)

set_option maxHeartbeats 4000000 in
theorem c_arm_v3 {M : am_Mem} {a f hr hs lt : Nat} {k h : Nat → Nat} (hS : sp_S 1 M a f hr hs lt k h) (hO : sp_ok a f hr lt k h) {i : Nat} (hi : i < a) : am_go 56 (am_ent 56 [.ref 0, .int (nI i), .int (nI 3)] M) (am_is (nI (sp_rc (k i))) M) := by
  obtain ⟨hF, hA, hHr, hHs, hLt, hK, hH⟩ := id hS
  obtain ⟨oA, oF, oHr, oLt, oK, oH⟩ := id hO
  have okI := oK i
  refine am_goR 3 (s2 := (5, [.ref 0, .int (nI i), .int (nI 3)], [.int (nI i), .ref 1], M)) rfl ?_
  refine am_goX (v := nI 1) (M2 := M) (s2 := (8, [.ref 0, .int (nI i), .int (nI 3)], [], M)) rfl (s_hasArm1_1 hS.2.1 hO.1 (i := i) (by omega)) ?_
  refine am_goR 6 (s2 := (86, [.ref 0, .int (nI i), .int (nI 3)], [.int (nI i), .ref 1], M)) rfl ?_
  refine am_goX (v := nI (sp_rc (k i))) (M2 := M) (s2 := (89, [.ref 0, .int (nI i), .int (nI 3)], [], M)) rfl (s_reachOf_1 hS hO (i := i) (by omega)) ?_
  exact am_ends (nI (sp_rc (k i))) _ rfl (by first | rfl | (simp only [*]; rfl)) (rfl)

set_option maxHeartbeats 4000000 in
theorem r_arm_v3 {M : am_Mem} {a f hr hs lt : Nat} {k h : Nat → Nat} (hS : sp_M M a f hr hs lt k h) (hO : sp_ok a f hr lt k h) (oD : ∀ p q, p < 2 * a → q < 2 * a → h p = h q → p = q) {i : Nat} (hi : i < a) : am_go 119 (am_ent 119 [.ref 17, .int (nI i), .int (nI 3)] M) (am_is (nI (sp_rc (k i))) M) := by
  obtain ⟨hF, hA, hHr, hHs, hLt, hK, hH⟩ := id hS
  obtain ⟨oA, oF, oHr, oLt, oK, oH⟩ := id hO
  have okI := oK i
  refine am_goR 2 (s2 := (2, [.ref 17, .int (nI i), .int (nI 3)], [.int (nI i), .ref 17], M)) rfl ?_
  refine am_goX (v := nI 1) (M2 := M) (s2 := (5, [.ref 17, .int (nI i), .int (nI 3)], [], M)) rfl (t_isArm1 hS.2.1 hO.1 (i := i) (by omega)) ?_
  refine am_goR 6 (s2 := (73, [.ref 17, .int (nI i), .int (nI 3)], [.int (nI i), .ref 19], M)) rfl ?_
  refine am_goL2 (pc := 74) (ls := [.ref 17, .int (nI i), .int (nI 3)]) (r := []) (M := M) (a := 19) (n := 4) (i) (nI (k i)) rfl rfl (by omega) (by decide) (hK _ (by omega)) ?_
  refine am_goX (v := nI (sp_rc (k i))) (M2 := M) (s2 := (77, [.ref 17, .int (nI i), .int (nI 3)], [], M)) rfl (t_reachOf (x := (k i)) (by omega)) ?_
  exact am_ends (nI (sp_rc (k i))) _ rfl (by first | rfl | (simp only [*]; rfl)) (rfl)

set_option maxHeartbeats 4000000 in
theorem c_arm_v4 {M : am_Mem} {a f hr hs lt : Nat} {k h : Nat → Nat} (hS : sp_S 1 M a f hr hs lt k h) (hO : sp_ok a f hr lt k h) {i : Nat} (hi : i < a) : am_go 56 (am_ent 56 [.ref 0, .int (nI i), .int (nI 4)] M) (am_is (am_b (sp_wk lt (k i) hr)) M) := by
  obtain ⟨hF, hA, hHr, hHs, hLt, hK, hH⟩ := id hS
  obtain ⟨oA, oF, oHr, oLt, oK, oH⟩ := id hO
  have okI := oK i
  refine am_goR 3 (s2 := (5, [.ref 0, .int (nI i), .int (nI 4)], [.int (nI i), .ref 1], M)) rfl ?_
  refine am_goX (v := nI 1) (M2 := M) (s2 := (8, [.ref 0, .int (nI i), .int (nI 4)], [], M)) rfl (s_hasArm1_1 hS.2.1 hO.1 (i := i) (by omega)) ?_
  refine am_goR 6 (s2 := (95, [.ref 0, .int (nI i), .int (nI 4)], [.int (nI i), .ref 1], M)) rfl ?_
  refine am_goX (v := am_b (sp_wk lt (k i) hr)) (M2 := M) (s2 := (98, [.ref 0, .int (nI i), .int (nI 4)], [], M)) rfl (s_worksNow_1 hS hO (i := i) (by omega)) ?_
  refine am_bB0 (sp_wk lt (k i) hr) (s1 := (105, [.ref 0, .int (nI i), .int (nI 4)], [], M)) (s2 := (101, [.ref 0, .int (nI i), .int (nI 4)], [], M)) rfl (fun c1 => ?_) (fun c1 => ?_)
  · refine am_goR 1 (s2 := (106, [.ref 0, .int (nI i), .int (nI 4)], [.int (nI 0)], M)) rfl ?_
    exact am_ends (nI 0) _ rfl (by first | rfl | (simp only [*]; rfl)) (rfl)
  · refine am_goR 2 (s2 := (106, [.ref 0, .int (nI i), .int (nI 4)], [.int (nI 1)], M)) rfl ?_
    exact am_ends (nI 1) _ rfl (by first | rfl | (simp only [*]; rfl)) (rfl)

set_option maxHeartbeats 4000000 in
theorem r_arm_v4 {M : am_Mem} {a f hr hs lt : Nat} {k h : Nat → Nat} (hS : sp_M M a f hr hs lt k h) (hO : sp_ok a f hr lt k h) (oD : ∀ p q, p < 2 * a → q < 2 * a → h p = h q → p = q) {i : Nat} (hi : i < a) : am_go 119 (am_ent 119 [.ref 17, .int (nI i), .int (nI 4)] M) (am_is (am_b (sp_wk lt (k i) hr)) M) := by
  obtain ⟨hF, hA, hHr, hHs, hLt, hK, hH⟩ := id hS
  obtain ⟨oA, oF, oHr, oLt, oK, oH⟩ := id hO
  have okI := oK i
  refine am_goR 2 (s2 := (2, [.ref 17, .int (nI i), .int (nI 4)], [.int (nI i), .ref 17], M)) rfl ?_
  refine am_goX (v := nI 1) (M2 := M) (s2 := (5, [.ref 17, .int (nI i), .int (nI 4)], [], M)) rfl (t_isArm1 hS.2.1 hO.1 (i := i) (by omega)) ?_
  refine am_goQ 7 (s1 := (84, [.ref 17, .int (nI i), .int (nI 4)], [.int ((M 17 5)), .int (nI i), .ref 17], M)) (s2 := (84, [.ref 17, .int (nI i), .int (nI 4)], [.int (nI hr), .int (nI i), .ref 17], M)) rfl (by simp only [hHr]) ?_
  refine am_goX (v := am_b (sp_wk lt (k i) hr)) (M2 := M) (s2 := (87, [.ref 17, .int (nI i), .int (nI 4)], [], M)) rfl (t_doesWork hS hO (i := i) (r := hr) (by omega) (by omega)) ?_
  refine am_bB0 (sp_wk lt (k i) hr) (s1 := (94, [.ref 17, .int (nI i), .int (nI 4)], [], M)) (s2 := (90, [.ref 17, .int (nI i), .int (nI 4)], [], M)) rfl (fun c1 => ?_) (fun c1 => ?_)
  · refine am_goR 1 (s2 := (95, [.ref 17, .int (nI i), .int (nI 4)], [.int (nI 0)], M)) rfl ?_
    exact am_ends (nI 0) _ rfl (by first | rfl | (simp only [*]; rfl)) (rfl)
  · refine am_goR 2 (s2 := (95, [.ref 17, .int (nI i), .int (nI 4)], [.int (nI 1)], M)) rfl ?_
    exact am_ends (nI 1) _ rfl (by first | rfl | (simp only [*]; rfl)) (rfl)

set_option maxHeartbeats 4000000 in
theorem c_arm_d {M : am_Mem} {a f hr hs lt : Nat} {k h : Nat → Nat} (hS : sp_S 1 M a f hr hs lt k h) (hO : sp_ok a f hr lt k h) {i : Nat} (hi : i < a) {y : Int32} (hy : y.toInt < 0 ∨ 4 < y.toInt) : am_go 56 (am_ent 56 [.ref 0, .int (nI i), .int (y)] M) (am_is (-nI 2) (am_set M 16 2 (M 16 2 + nI 1))) := by
  obtain ⟨hF, hA, hHr, hHs, hLt, hK, hH⟩ := id hS
  obtain ⟨oA, oF, oHr, oLt, oK, oH⟩ := id hO
  refine am_goR 3 (s2 := (5, [.ref 0, .int (nI i), .int (y)], [.int (nI i), .ref 1], M)) rfl ?_
  refine am_goX (v := nI 1) (M2 := M) (s2 := (8, [.ref 0, .int (nI i), .int (y)], [], M)) rfl (s_hasArm1_1 hS.2.1 hO.1 (i := i) (by omega)) ?_
  refine am_goR 2 (s2 := (18, [.ref 0, .int (nI i), .int (y)], [.int (y)], M)) rfl ?_
  refine am_goTS (pc := 18) (d := (89)) (lo := (0)) (hi := (4)) (offs := #[34, 43, 53, 63, 72]) (ls := [.ref 0, .int (nI i), .int (y)]) (r := []) (M := M) (x := y) (89) 107 rfl (by unfold am_tso; rw [if_pos hy]) rfl ?_
  refine am_goR 2 (s2 := (110, [.ref 0, .int (nI i), .int (y)], [.int ((-nI 2)), .ref 0], M)) rfl ?_
  refine am_goX (v := (-nI 2)) (M2 := (am_set M 16 2 (M 16 2 + nI 1))) (s2 := (113, [.ref 0, .int (nI i), .int (y)], [], M)) rfl (s_refuse_2) ?_
  exact am_ends (-nI 2) _ rfl rfl rfl

set_option maxHeartbeats 4000000 in
theorem r_arm_d {M : am_Mem} {a f hr hs lt : Nat} {k h : Nat → Nat} (hS : sp_M M a f hr hs lt k h) (hO : sp_ok a f hr lt k h) (oD : ∀ p q, p < 2 * a → q < 2 * a → h p = h q → p = q) {i : Nat} (hi : i < a) {y : Int32} (hy : y.toInt < 0 ∨ 4 < y.toInt) : am_go 119 (am_ent 119 [.ref 17, .int (nI i), .int (y)] M) (am_is (-nI 2) (am_set M 18 2 (M 18 2 + nI 1))) := by
  obtain ⟨hF, hA, hHr, hHs, hLt, hK, hH⟩ := id hS
  obtain ⟨oA, oF, oHr, oLt, oK, oH⟩ := id hO
  refine am_goR 2 (s2 := (2, [.ref 17, .int (nI i), .int (y)], [.int (nI i), .ref 17], M)) rfl ?_
  refine am_goX (v := nI 1) (M2 := M) (s2 := (5, [.ref 17, .int (nI i), .int (y)], [], M)) rfl (t_isArm1 hS.2.1 hO.1 (i := i) (by omega)) ?_
  refine am_goR 2 (s2 := (15, [.ref 17, .int (nI i), .int (y)], [.int (y)], M)) rfl ?_
  refine am_goTS (pc := 15) (d := (81)) (lo := (0)) (hi := (4)) (offs := #[33, 40, 40, 53, 63]) (ls := [.ref 17, .int (nI i), .int (y)]) (r := []) (M := M) (x := y) (81) 96 rfl (by unfold am_tso; rw [if_pos hy]) rfl ?_
  refine am_goR 2 (s2 := (99, [.ref 17, .int (nI i), .int (y)], [.int ((-nI 2)), .ref 17], M)) rfl ?_
  refine am_goX (v := (-nI 2)) (M2 := (am_set M 18 2 (M 18 2 + nI 1))) (s2 := (102, [.ref 17, .int (nI i), .int (y)], [], M)) rfl (t_no_2) ?_
  exact am_ends (-nI 2) _ rfl rfl rfl

theorem am_sw_cs {y : Int32} {n : Nat} (hn : n < 2147483647) (h : ¬ (y.toInt < 0 ∨ (n : Int) < y.toInt)) : ∃ j : Nat, j ≤ n ∧ y = nI j := by
  obtain ⟨j, hj, rfl⟩ := nI_of (x := y) (fun z => h (Or.inl (by rw [Int32.lt_iff_toInt_lt] at z; exact z)))
  refine ⟨j, ?_, rfl⟩
  rw [nI_toInt hj] at h
  omega
theorem pp_arm {M : am_Mem} (hI : sp_Inv M) (x y : Int32) : sp_PP 56 119 [.int x, .int y] M := by
  obtain ⟨⟨⟨a, f, hr, hs, lt, k, h⟩, t, w2, n, tx, rn, ro, rf⟩, hC, hR, hG⟩ := hI
  have hO := hG.1.1
  have oD := hG.1.2.2.1
  have oFx := hG.1.2.2.2
  have oA := hO.1
  have oHs := hG.1.2.1
  dsimp only at oD oFx oA oHs
  have hO : sp_ok a f hr lt k h := hO
  rcases am_in_cs x (n := a) (by omega) with hx | ⟨i, hi, rfl⟩
  · exact sp_PPr 1 (by decide) hC hR hG (c_arm_0 hC.1 hO hx) (fun N hN => r_arm_0 hN.1 hO oD hx)
  · by_cases hy : y.toInt < 0 ∨ 4 < y.toInt
    · exact sp_PPr 2 (by decide) hC hR hG (c_arm_d hC.1 hO hi hy) (fun N hN => r_arm_d hN.1 hO oD hi hy)
    · obtain ⟨j, hj, rfl⟩ := am_sw_cs (n := 4) (by decide) hy
      rcases (show j = 0 ∨ j = 1 ∨ j = 2 ∨ j = 3 ∨ j = 4 by omega) with rfl | rfl | rfl | rfl | rfl
      · exact sp_PP0 hC hR hG (c_arm_v0 hC.1 hO hi) (fun N hN => r_arm_v0 hN.1 hO oD hi)
      · exact sp_PP0 hC hR hG (c_arm_v1 hC.1 hO hi) (fun N hN => r_arm_v1 hN.1 hO oD hi)
      · exact sp_PP0 hC hR hG (c_arm_v2 hC.1 hO hi) (fun N hN => r_arm_v2 hN.1 hO oD hi)
      · exact sp_PP0 hC hR hG (c_arm_v3 hC.1 hO hi) (fun N hN => r_arm_v3 hN.1 hO oD hi)
      · exact sp_PP0 hC hR hG (c_arm_v4 hC.1 hO hi) (fun N hN => r_arm_v4 hN.1 hO oD hi)

def sp_jv (a f : Nat) (h : Nat → Nat) (j : Nat) : Int32 := match sp_wo h j (2 * a) with | some q => nI (10 * (q / 2) + q % 2) | none => if f.testBit j = true then -nI 9 else -nI 8
set_option maxHeartbeats 4000000 in
theorem c_joint_0 {M : am_Mem} {a f hr hs lt : Nat} {k h : Nat → Nat} (hS : sp_S 1 M a f hr hs lt k h) (hO : sp_ok a f hr lt k h) {x : Int32} (hx : am_in x 12 = false) : am_go 57 (am_ent 57 [.ref 0, .int (x)] M) (am_is (-nI 1) (am_set M 16 1 (M 16 1 + nI 1))) := by
  obtain ⟨hF, hA, hHr, hHs, hLt, hK, hH⟩ := id hS
  obtain ⟨oA, oF, oHr, oLt, oK, oH⟩ := id hO
  refine am_goR 1 (s2 := (1, [.ref 0, .int (x)], [.int (x)], M)) rfl ?_
  refine am_goX (v := am_b (am_in x 12)) (M2 := M) (s2 := (4, [.ref 0, .int (x)], [], M)) rfl (s_isJoint) ?_
  refine am_bB1 (am_in x 12) (s1 := (13, [.ref 0, .int (x)], [], M)) (s2 := (7, [.ref 0, .int (x)], [], M)) rfl (fun c1 => absurd c1 (by simp [*])) (fun c1 => ?_)
  refine am_goR 2 (s2 := (9, [.ref 0, .int (x)], [.int ((-nI 1)), .ref 0], M)) rfl ?_
  refine am_goX (v := (-nI 1)) (M2 := (am_set M 16 1 (M 16 1 + nI 1))) (s2 := (12, [.ref 0, .int (x)], [], M)) rfl (s_refuse_1) ?_
  exact am_ends (-nI 1) _ rfl rfl rfl

set_option maxHeartbeats 4000000 in
theorem r_joint_0 {M : am_Mem} {a f hr hs lt : Nat} {k h : Nat → Nat} (hS : sp_M M a f hr hs lt k h) (hO : sp_ok a f hr lt k h) (oD : ∀ p q, p < 2 * a → q < 2 * a → h p = h q → p = q) {x : Int32} (hx : am_in x 12 = false) : am_go 120 (am_ent 120 [.ref 17, .int (x)] M) (am_is (-nI 1) (am_set M 18 1 (M 18 1 + nI 1))) := by
  obtain ⟨hF, hA, hHr, hHs, hLt, hK, hH⟩ := id hS
  obtain ⟨oA, oF, oHr, oLt, oK, oH⟩ := id hO
  refine am_goR 1 (s2 := (1, [.ref 17, .int (x), .null], [.int (x)], M)) rfl ?_
  refine am_goX (v := am_b (am_in x 12)) (M2 := M) (s2 := (4, [.ref 17, .int (x), .null], [], M)) rfl (t_isJoint) ?_
  refine am_bB1 (am_in x 12) (s1 := (13, [.ref 17, .int (x), .null], [], M)) (s2 := (7, [.ref 17, .int (x), .null], [], M)) rfl (fun c1 => absurd c1 (by simp [*])) (fun c1 => ?_)
  refine am_goR 2 (s2 := (9, [.ref 17, .int (x), .null], [.int ((-nI 1)), .ref 17], M)) rfl ?_
  refine am_goX (v := (-nI 1)) (M2 := (am_set M 18 1 (M 18 1 + nI 1))) (s2 := (12, [.ref 17, .int (x), .null], [], M)) rfl (t_no_1) ?_
  exact am_ends (-nI 1) _ rfl rfl rfl

set_option maxHeartbeats 4000000 in
theorem c_joint_v {M : am_Mem} {a f hr hs lt : Nat} {k h : Nat → Nat} (hS : sp_S 1 M a f hr hs lt k h) (hO : sp_ok a f hr lt k h) {j : Nat} (hj : j < 12) (hfx : ∀ q, sp_wo h j (2 * a) = some q → f.testBit j = true) : am_go 57 (am_ent 57 [.ref 0, .int (nI j)] M) (am_is (sp_jv a f h j) M) := by
  obtain ⟨hF, hA, hHr, hHs, hLt, hK, hH⟩ := id hS
  obtain ⟨oA, oF, oHr, oLt, oK, oH⟩ := id hO
  refine am_goR 1 (s2 := (1, [.ref 0, .int (nI j)], [.int (nI j)], M)) rfl ?_
  refine am_goX (v := nI 1) (M2 := M) (s2 := (4, [.ref 0, .int (nI j)], [], M)) rfl (s_isJoint1 (j := j) (by omega)) ?_
  refine am_goR 4 (s2 := (18, [.ref 0, .int (nI j)], [.int (nI j), .ref 1], M)) rfl ?_
  refine am_goX (v := am_b (f.testBit j)) (M2 := M) (s2 := (21, [.ref 0, .int (nI j)], [], M)) rfl (s_isFixed_1 hS hO (j := j) (by omega)) ?_
  refine am_bB0 (f.testBit j) (s1 := (35, [.ref 0, .int (nI j)], [], M)) (s2 := (24, [.ref 0, .int (nI j)], [], M)) rfl (fun c1 => ?_) (fun c1 => ?_)
  · refine am_goR 1 (s2 := (37, [.ref 0, .int (nI j)], [.int ((-nI 8))], M)) rfl ?_
    exact am_ends ((-nI 8)) _ rfl (by unfold sp_jv; first | (simp [*]; done) | (cases e9 : sp_wo h j (2 * a) with | none => simp [*] | some q => exact absurd ((hfx q e9).symm.trans (show f.testBit j = false by assumption)) (by decide))) (rfl)
  · refine am_goR 3 (s2 := (29, [.ref 0, .int (nI j)], [.int (nI j), .ref 1], M)) rfl ?_
    rcases hw3 : sp_wo h j (2 * a) with _ | q2
    · refine am_goX (v := (-nI 9)) (M2 := M) (s2 := (32, [.ref 0, .int (nI j)], [], M)) rfl (s_whoIsOnN_1 hS hO (j := j) (by omega) hw3) ?_
      refine am_goR 1 (s2 := (37, [.ref 0, .int (nI j)], [.int ((-nI 9))], M)) rfl ?_
      exact am_ends ((-nI 9)) _ rfl (by unfold sp_jv; first | (simp [*]; done) | (cases e9 : sp_wo h j (2 * a) with | none => simp [*] | some q => exact absurd ((hfx q e9).symm.trans (show f.testBit j = false by assumption)) (by decide))) (rfl)
    · refine am_goX (v := nI ((10 * (q2 / 2)) + (q2 % 2))) (M2 := M) (s2 := (32, [.ref 0, .int (nI j)], [], M)) rfl (s_whoIsOnS_1 hS hO (j := j) (by omega) hw3) ?_
      have hq2 := (sp_wo_some.mp hw3).1
      refine am_goR 1 (s2 := (37, [.ref 0, .int (nI j)], [.int (nI ((10 * (q2 / 2)) + (q2 % 2)))], M)) rfl ?_
      exact am_ends (nI ((10 * (q2 / 2)) + (q2 % 2))) _ rfl (by unfold sp_jv; first | (simp [*]; done) | (cases e9 : sp_wo h j (2 * a) with | none => simp [*] | some q => exact absurd ((hfx q e9).symm.trans (show f.testBit j = false by assumption)) (by decide))) (rfl)

set_option maxHeartbeats 4000000 in
theorem r_joint_v {M : am_Mem} {a f hr hs lt : Nat} {k h : Nat → Nat} (hS : sp_M M a f hr hs lt k h) (hO : sp_ok a f hr lt k h) (oD : ∀ p q, p < 2 * a → q < 2 * a → h p = h q → p = q) {j : Nat} (hj : j < 12) (hfx : ∀ q, sp_wo h j (2 * a) = some q → f.testBit j = true) : am_go 120 (am_ent 120 [.ref 17, .int (nI j)] M) (am_is (sp_jv a f h j) M) := by
  obtain ⟨hF, hA, hHr, hHs, hLt, hK, hH⟩ := id hS
  obtain ⟨oA, oF, oHr, oLt, oK, oH⟩ := id hO
  refine am_goR 1 (s2 := (1, [.ref 17, .int (nI j), .null], [.int (nI j)], M)) rfl ?_
  refine am_goX (v := nI 1) (M2 := M) (s2 := (4, [.ref 17, .int (nI j), .null], [], M)) rfl (t_isJoint1 (j := j) (by omega)) ?_
  refine am_goR 3 (s2 := (15, [.ref 17, .int (nI j), .null], [.int (nI j), .ref 17], M)) rfl ?_
  rcases hw2 : sp_wo h j (2 * a) with _ | q1
  · refine am_goX (v := (-nI 9)) (M2 := M) (s2 := (18, [.ref 17, .int (nI j), .null], [], M)) rfl (t_whoOnN hS.2.1 hO.1 hS.2.2.2.2.2.2 (fun q => by have := hO.2.2.2.2.2 q; omega) (j := j) (by omega) hw2) ?_
    refine am_goR 5 (s2 := (38, [.ref 17, .int (nI j), .int ((-nI 9))], [.int (nI j), .ref 17], M)) rfl ?_
    refine am_goX (v := am_b (f.testBit j)) (M2 := M) (s2 := (41, [.ref 17, .int (nI j), .int ((-nI 9))], [], M)) rfl (t_isFixed hS hO (j := j) (by omega)) ?_
    refine am_bB0 (f.testBit j) (s1 := (49, [.ref 17, .int (nI j), .int ((-nI 9))], [], M)) (s2 := (44, [.ref 17, .int (nI j), .int ((-nI 9))], [], M)) rfl (fun c3 => ?_) (fun c3 => ?_)
    · refine am_goR 1 (s2 := (51, [.ref 17, .int (nI j), .int ((-nI 9))], [.int ((-nI 8))], M)) rfl ?_
      exact am_ends ((-nI 8)) _ rfl (by unfold sp_jv; first | (simp [*]; done) | (simp [*]; congr 1; omega) | (simp only [*]; congr 1; omega)) (rfl)
    · refine am_goR 2 (s2 := (51, [.ref 17, .int (nI j), .int ((-nI 9))], [.int ((-nI 9))], M)) rfl ?_
      exact am_ends ((-nI 9)) _ rfl (by unfold sp_jv; first | (simp [*]; done) | (simp [*]; congr 1; omega) | (simp only [*]; congr 1; omega)) (rfl)
  · refine am_goX (v := nI q1) (M2 := M) (s2 := (18, [.ref 17, .int (nI j), .null], [], M)) rfl (t_whoOnS hS.2.1 hO.1 hS.2.2.2.2.2.2 (fun q => by have := hO.2.2.2.2.2 q; omega) (j := j) (by omega) hw2) ?_
    have hq1 := (sp_wo_some.mp hw2).1
    refine am_goR 2 (s2 := (20, [.ref 17, .int (nI j), .int (nI q1)], [.int (nI q1)], M)) rfl ?_
    refine am_bLT (q1) (0) (s1 := (36, [.ref 17, .int (nI j), .int (nI q1)], [], M)) (s2 := (23, [.ref 17, .int (nI j), .int (nI q1)], [], M)) rfl (by omega) (by omega) (fun c4 => absurd c4 (by omega)) (fun c4 => ?_)
    refine am_goQ 10 (s1 := (51, [.ref 17, .int (nI j), .int (nI q1)], [.int ((((nI q1 / nI 2) * nI 10) + (nI q1 - nI q1 / nI 2 * nI 2)))], M)) (s2 := (51, [.ref 17, .int (nI j), .int (nI q1)], [.int (nI (((q1 / 2) * 10) + (q1 % 2)))], M)) rfl (by rw [pk_rem (a := q1) (d := 2) (by omega) (by omega) (by omega)]; simp only [pk_div (a := q1) (d := 2) (by omega) (by omega) (by omega), pk_mul, nI_add]) ?_
    exact am_ends (nI (((q1 / 2) * 10) + (q1 % 2))) _ rfl (by unfold sp_jv; first | (simp [*]; done) | (simp [*]; congr 1; omega) | (simp only [*]; congr 1; omega)) (rfl)

theorem pp_joint {M : am_Mem} (hI : sp_Inv M) (x : Int32) : sp_PP 57 120 [.int x] M := by
  obtain ⟨⟨⟨a, f, hr, hs, lt, k, h⟩, t, w2, n, tx, rn, ro, rf⟩, hC, hR, hG⟩ := hI
  have hO := hG.1.1
  have oD := hG.1.2.2.1
  have oFx := hG.1.2.2.2
  have oA := hO.1
  have oHs := hG.1.2.1
  dsimp only at oD oFx oA oHs
  have hO : sp_ok a f hr lt k h := hO
  rcases am_in_cs x (n := 12) (by omega) with hx | ⟨j, hj, rfl⟩
  · exact sp_PPr 1 (by decide) hC hR hG (c_joint_0 hC.1 hO hx) (fun N hN => r_joint_0 hN.1 hO oD hx)
  · have hfx : ∀ q, sp_wo h j (2 * a) = some q → f.testBit j = true := fun q hq => by
      obtain ⟨q1, q2, -⟩ := sp_wo_some.mp hq
      rw [← q2]
      exact oFx q q1
    exact sp_PP0 hC hR hG (c_joint_v hC.1 hO hj hfx) (fun N hN => r_joint_v hN.1 hO oD hj hfx)

set_option maxHeartbeats 4000000 in
theorem c_may_0 {M : am_Mem} {a f hr hs lt : Nat} {k h : Nat → Nat} (hS : sp_S 1 M a f hr hs lt k h) (hO : sp_ok a f hr lt k h) {x : Int32} (hx : am_in x a = false) {y : Int32} : am_go 63 (am_ent 63 [.ref 0, .int (x), .int (y)] M) (am_is (-nI 1) (am_set M 16 1 (M 16 1 + nI 1))) := by
  obtain ⟨hF, hA, hHr, hHs, hLt, hK, hH⟩ := id hS
  obtain ⟨oA, oF, oHr, oLt, oK, oH⟩ := id hO
  refine am_goR 3 (s2 := (5, [.ref 0, .int (x), .int (y)], [.int (x), .ref 1], M)) rfl ?_
  refine am_goX (v := am_b (am_in x a)) (M2 := M) (s2 := (8, [.ref 0, .int (x), .int (y)], [], M)) rfl (s_hasArm_1 hS.2.1 hO.1) ?_
  refine am_bB0 (am_in x a) (s1 := (18, [.ref 0, .int (x), .int (y)], [], M)) (s2 := (11, [.ref 0, .int (x), .int (y)], [], M)) rfl (fun c1 => ?_) (fun c1 => absurd c1 (by simp [*]))
  refine am_goR 2 (s2 := (20, [.ref 0, .int (x), .int (y)], [.int ((-nI 1)), .ref 0], M)) rfl ?_
  refine am_goX (v := (-nI 1)) (M2 := (am_set M 16 1 (M 16 1 + nI 1))) (s2 := (23, [.ref 0, .int (x), .int (y)], [], M)) rfl (s_refuse_1) ?_
  exact am_ends (-nI 1) _ rfl rfl rfl

set_option maxHeartbeats 4000000 in
theorem r_may_0 {M : am_Mem} {a f hr hs lt : Nat} {k h : Nat → Nat} (hS : sp_M M a f hr hs lt k h) (hO : sp_ok a f hr lt k h) (oD : ∀ p q, p < 2 * a → q < 2 * a → h p = h q → p = q) {x : Int32} (hx : am_in x a = false) {y : Int32} : am_go 127 (am_ent 127 [.ref 17, .int (x), .int (y)] M) (am_is (-nI 1) (am_set M 18 1 (M 18 1 + nI 1))) := by
  obtain ⟨hF, hA, hHr, hHs, hLt, hK, hH⟩ := id hS
  obtain ⟨oA, oF, oHr, oLt, oK, oH⟩ := id hO
  refine am_goR 3 (s2 := (3, [.ref 17, .int (x), .int (y), .null, .null], [.int (y), .int (x), .ref 17], M)) rfl ?_
  refine am_goX (v := am_b (am_in x a && am_in y 2)) (M2 := M) (s2 := (6, [.ref 17, .int (x), .int (y), .null, .null], [], M)) rfl (t_isHand hS.2.1 hO.1) ?_
  refine am_bB1 (am_in x a && am_in y 2) (s1 := (15, [.ref 17, .int (x), .int (y), .null, .null], [], M)) (s2 := (9, [.ref 17, .int (x), .int (y), .null, .null], [], M)) rfl (fun c1 => absurd c1 (by simp [*])) (fun c1 => ?_)
  refine am_goR 2 (s2 := (11, [.ref 17, .int (x), .int (y), .null, .null], [.int ((-nI 1)), .ref 17], M)) rfl ?_
  refine am_goX (v := (-nI 1)) (M2 := (am_set M 18 1 (M 18 1 + nI 1))) (s2 := (14, [.ref 17, .int (x), .int (y), .null, .null], [], M)) rfl (t_no_1) ?_
  exact am_ends (-nI 1) _ rfl rfl rfl

set_option maxHeartbeats 4000000 in
theorem c_may_1 {M : am_Mem} {a f hr hs lt : Nat} {k h : Nat → Nat} (hS : sp_S 1 M a f hr hs lt k h) (hO : sp_ok a f hr lt k h) {i : Nat} (hi : i < a) {y : Int32} (hy : am_in y 2 = false) : am_go 63 (am_ent 63 [.ref 0, .int (nI i), .int (y)] M) (am_is (-nI 1) (am_set M 16 1 (M 16 1 + nI 1))) := by
  obtain ⟨hF, hA, hHr, hHs, hLt, hK, hH⟩ := id hS
  obtain ⟨oA, oF, oHr, oLt, oK, oH⟩ := id hO
  refine am_goR 3 (s2 := (5, [.ref 0, .int (nI i), .int (y)], [.int (nI i), .ref 1], M)) rfl ?_
  refine am_goX (v := nI 1) (M2 := M) (s2 := (8, [.ref 0, .int (nI i), .int (y)], [], M)) rfl (s_hasArm1_1 hS.2.1 hO.1 (i := i) (by omega)) ?_
  refine am_goR 2 (s2 := (12, [.ref 0, .int (nI i), .int (y)], [.int (y)], M)) rfl ?_
  refine am_goX (v := am_b (am_in y 2)) (M2 := M) (s2 := (15, [.ref 0, .int (nI i), .int (y)], [], M)) rfl (s_isHand) ?_
  refine am_bB1 (am_in y 2) (s1 := (24, [.ref 0, .int (nI i), .int (y)], [], M)) (s2 := (18, [.ref 0, .int (nI i), .int (y)], [], M)) rfl (fun c1 => absurd c1 (by simp [*])) (fun c1 => ?_)
  refine am_goR 2 (s2 := (20, [.ref 0, .int (nI i), .int (y)], [.int ((-nI 1)), .ref 0], M)) rfl ?_
  refine am_goX (v := (-nI 1)) (M2 := (am_set M 16 1 (M 16 1 + nI 1))) (s2 := (23, [.ref 0, .int (nI i), .int (y)], [], M)) rfl (s_refuse_1) ?_
  exact am_ends (-nI 1) _ rfl rfl rfl

set_option maxHeartbeats 4000000 in
theorem r_may_1 {M : am_Mem} {a f hr hs lt : Nat} {k h : Nat → Nat} (hS : sp_M M a f hr hs lt k h) (hO : sp_ok a f hr lt k h) (oD : ∀ p q, p < 2 * a → q < 2 * a → h p = h q → p = q) {i : Nat} (hi : i < a) {y : Int32} (hy : am_in y 2 = false) : am_go 127 (am_ent 127 [.ref 17, .int (nI i), .int (y)] M) (am_is (-nI 1) (am_set M 18 1 (M 18 1 + nI 1))) := by
  obtain ⟨hF, hA, hHr, hHs, hLt, hK, hH⟩ := id hS
  obtain ⟨oA, oF, oHr, oLt, oK, oH⟩ := id hO
  refine am_goR 3 (s2 := (3, [.ref 17, .int (nI i), .int (y), .null, .null], [.int (y), .int (nI i), .ref 17], M)) rfl ?_
  refine am_goX (v := am_b (am_in y 2)) (M2 := M) (s2 := (6, [.ref 17, .int (nI i), .int (y), .null, .null], [], M)) rfl (t_isHandX hS.2.1 hO.1 (i := i) (by omega)) ?_
  refine am_bB1 (am_in y 2) (s1 := (15, [.ref 17, .int (nI i), .int (y), .null, .null], [], M)) (s2 := (9, [.ref 17, .int (nI i), .int (y), .null, .null], [], M)) rfl (fun c1 => absurd c1 (by simp [*])) (fun c1 => ?_)
  refine am_goR 2 (s2 := (11, [.ref 17, .int (nI i), .int (y), .null, .null], [.int ((-nI 1)), .ref 17], M)) rfl ?_
  refine am_goX (v := (-nI 1)) (M2 := (am_set M 18 1 (M 18 1 + nI 1))) (s2 := (14, [.ref 17, .int (nI i), .int (y), .null, .null], [], M)) rfl (t_no_1) ?_
  exact am_ends (-nI 1) _ rfl rfl rfl

set_option maxHeartbeats 4000000 in
theorem c_may_v {M : am_Mem} {a f hr hs lt : Nat} {k h : Nat → Nat} (hS : sp_S 1 M a f hr hs lt k h) (hO : sp_ok a f hr lt k h) {i : Nat} (hi : i < a) {b : Nat} (hb : b < 2) : am_go 63 (am_ent 63 [.ref 0, .int (nI i), .int (nI b)] M) (am_is (nI (if sp_wk lt (k i) hr = true then sp_bs (fun q => sp_cn a f k h i b 9 q) 12 else 0)) M) := by
  obtain ⟨hF, hA, hHr, hHs, hLt, hK, hH⟩ := id hS
  obtain ⟨oA, oF, oHr, oLt, oK, oH⟩ := id hO
  refine am_goR 3 (s2 := (5, [.ref 0, .int (nI i), .int (nI b)], [.int (nI i), .ref 1], M)) rfl ?_
  refine am_goX (v := nI 1) (M2 := M) (s2 := (8, [.ref 0, .int (nI i), .int (nI b)], [], M)) rfl (s_hasArm1_1 hS.2.1 hO.1 (i := i) (by omega)) ?_
  refine am_goR 2 (s2 := (12, [.ref 0, .int (nI i), .int (nI b)], [.int (nI b)], M)) rfl ?_
  refine am_goX (v := nI 1) (M2 := M) (s2 := (15, [.ref 0, .int (nI i), .int (nI b)], [], M)) rfl (s_isHand1 (b := b) (by omega)) ?_
  refine am_goR 5 (s2 := (30, [.ref 0, .int (nI i), .int (nI b)], [.int (nI b), .int (nI i), .ref 1], M)) rfl ?_
  refine am_goX (v := nI (if sp_wk lt (k i) hr = true then sp_bs (fun q => sp_cn a f k h i b 9 q) 12 else 0)) (M2 := M) (s2 := (33, [.ref 0, .int (nI i), .int (nI b)], [], M)) rfl (s_goesTo_1 hS hO (i := i) (b := b) (by omega) (by omega)) ?_
  exact am_ends (nI (if sp_wk lt (k i) hr = true then sp_bs (fun q => sp_cn a f k h i b 9 q) 12 else 0)) _ rfl (by rfl) (rfl)

set_option maxHeartbeats 4000000 in
theorem r_may_v_loop {M : am_Mem} {a f hr hs lt : Nat} {k h : Nat → Nat} (hS : sp_M M a f hr hs lt k h) (hO : sp_ok a f hr lt k h) (oD : ∀ p q, p < 2 * a → q < 2 * a → h p = h q → p = q) {i : Nat} (hi : i < a) {b : Nat} (hb : b < 2) : ∀ n p : Nat, n + p = 12 + 1 → p ≤ 12 → am_go 127 (20, [.ref 17, .int (nI i), .int (nI b), .int (nI (sp_bs (fun q => sp_wk lt (k i) hr && sp_cn a f k h i b 9 q) p)), .int (nI p)], [], M) (am_is (nI (sp_bs (fun q => sp_wk lt (k i) hr && sp_cn a f k h i b 9 q) 12)) M) := by
  obtain ⟨hF, hA, hHr, hHs, hLt, hK, hH⟩ := id hS
  obtain ⟨oA, oF, oHr, oLt, oK, oH⟩ := id hO
  intro n
  induction n with
  | zero => intro p  h1 h2; omega
  | succ n ih =>
    intro p  h1 h2
    refine am_goR 2 (s2 := (24, [.ref 17, .int (nI i), .int (nI b), .int (nI (sp_bs (fun q => sp_wk lt (k i) hr && sp_cn a f k h i b 9 q) p)), .int (nI p)], [.int (nI 12), .int (nI p)], M)) rfl ?_
    refine am_bLE (12) (p) (s1 := (55, [.ref 17, .int (nI i), .int (nI b), .int (nI (sp_bs (fun q => sp_wk lt (k i) hr && sp_cn a f k h i b 9 q) p)), .int (nI p)], [], M)) (s2 := (27, [.ref 17, .int (nI i), .int (nI b), .int (nI (sp_bs (fun q => sp_wk lt (k i) hr && sp_cn a f k h i b 9 q) p)), .int (nI p)], [], M)) rfl (by omega) (by omega) (fun c1 => ?_) (fun c1 => ?_)
    · refine am_goR 1 (s2 := (56, [.ref 17, .int (nI i), .int (nI b), .int (nI (sp_bs (fun q => sp_wk lt (k i) hr && sp_cn a f k h i b 9 q) p)), .int (nI p)], [.int (nI (sp_bs (fun q => sp_wk lt (k i) hr && sp_cn a f k h i b 9 q) p))], M)) rfl ?_
      exact am_ends (nI (sp_bs (fun q => sp_wk lt (k i) hr && sp_cn a f k h i b 9 q) p)) _ rfl (by rw [show p = 12 by omega]) (rfl)
    · refine am_goR 5 (s2 := (33, [.ref 17, .int (nI i), .int (nI b), .int (nI (sp_bs (fun q => sp_wk lt (k i) hr && sp_cn a f k h i b 9 q) p)), .int (nI p)], [.int (nI p), .int (nI b), .int (nI i), .ref 17, .int (nI (sp_bs (fun q => sp_wk lt (k i) hr && sp_cn a f k h i b 9 q) p))], M)) rfl ?_
      refine am_goX (v := am_b (sp_wk lt (k i) hr && sp_cn a f k h i b 9 p)) (M2 := M) (s2 := (36, [.ref 17, .int (nI i), .int (nI b), .int (nI (sp_bs (fun q => sp_wk lt (k i) hr && sp_cn a f k h i b 9 q) p)), .int (nI p)], [.int (nI (sp_bs (fun q => sp_wk lt (k i) hr && sp_cn a f k h i b 9 q) p))], M)) rfl (t_maySo hS hO oD (i := i) (b := b) (j := p) (by omega) (by omega) (by omega)) ?_
      refine am_bB0 (sp_wk lt (k i) hr && sp_cn a f k h i b 9 p) (s1 := (46, [.ref 17, .int (nI i), .int (nI b), .int (nI (sp_bs (fun q => sp_wk lt (k i) hr && sp_cn a f k h i b 9 q) p)), .int (nI p)], [.int (nI (sp_bs (fun q => sp_wk lt (k i) hr && sp_cn a f k h i b 9 q) p))], M)) (s2 := (39, [.ref 17, .int (nI i), .int (nI b), .int (nI (sp_bs (fun q => sp_wk lt (k i) hr && sp_cn a f k h i b 9 q) p)), .int (nI p)], [.int (nI (sp_bs (fun q => sp_wk lt (k i) hr && sp_cn a f k h i b 9 q) p))], M)) rfl (fun c2 => ?_) (fun c2 => ?_)
      · refine am_goQ 5 (s1 := (20, [.ref 17, .int (nI i), .int (nI b), .int ((nI (sp_bs (fun q => sp_wk lt (k i) hr && sp_cn a f k h i b 9 q) p) ||| nI 0)), .int ((nI p + nI 1))], [], M)) (s2 := (20, [.ref 17, .int (nI i), .int (nI b), .int (nI ((sp_bs (fun q => sp_wk lt (k i) hr && sp_cn a f k h i b 9 q) p) ||| 0)), .int (nI (p + 1))], [], M)) rfl (by simp only [am_or, nI_add]) ?_
        rw [show ((sp_bs (fun q => sp_wk lt (k i) hr && sp_cn a f k h i b 9 q) p) ||| 0) = sp_bs (fun q => sp_wk lt (k i) hr && sp_cn a f k h i b 9 q) (p + 1) from (Nat.or_zero _).trans (sp_bsN (by simp [*]; try omega))]
        exact ih (p + 1) (by omega) (by omega)
      · refine am_goQ 8 (s1 := (20, [.ref 17, .int (nI i), .int (nI b), .int ((nI (sp_bs (fun q => sp_wk lt (k i) hr && sp_cn a f k h i b 9 q) p) ||| (nI 1 <<< (nI p &&& 31)))), .int ((nI p + nI 1))], [], M)) (s2 := (20, [.ref 17, .int (nI i), .int (nI b), .int (nI ((sp_bs (fun q => sp_wk lt (k i) hr && sp_cn a f k h i b 9 q) p) ||| (2 ^ p))), .int (nI (p + 1))], [], M)) rfl (by simp only [am_shl1 (j := p) (by omega), am_or, nI_add]) ?_
        rw [show ((sp_bs (fun q => sp_wk lt (k i) hr && sp_cn a f k h i b 9 q) p) ||| (2 ^ p)) = sp_bs (fun q => sp_wk lt (k i) hr && sp_cn a f k h i b 9 q) (p + 1) from sp_bsP (by simp [*]; try omega)]
        exact ih (p + 1) (by omega) (by omega)

theorem sp_may_e {a f hr lt : Nat} {k h : Nat → Nat} {i b : Nat} : sp_bs (fun q => sp_wk lt (k i) hr && sp_cn a f k h i b 9 q) 12 = (if sp_wk lt (k i) hr = true then sp_bs (fun q => sp_cn a f k h i b 9 q) 12 else 0) := by
  apply sp_eq_bit
  intro j
  rw [sp_bs_bit]
  split
  · next e => rw [sp_bs_bit, e, Bool.true_and]
  · next e => rw [Nat.zero_testBit, Bool.not_eq_true _ |>.mp e, Bool.false_and, Bool.and_false]

set_option maxHeartbeats 4000000 in
theorem r_may_v {M : am_Mem} {a f hr hs lt : Nat} {k h : Nat → Nat} (hS : sp_M M a f hr hs lt k h) (hO : sp_ok a f hr lt k h) (oD : ∀ p q, p < 2 * a → q < 2 * a → h p = h q → p = q) {i : Nat} (hi : i < a) {b : Nat} (hb : b < 2) : am_go 127 (am_ent 127 [.ref 17, .int (nI i), .int (nI b)] M) (am_is (nI (if sp_wk lt (k i) hr = true then sp_bs (fun q => sp_cn a f k h i b 9 q) 12 else 0)) M) := by
  obtain ⟨hF, hA, hHr, hHs, hLt, hK, hH⟩ := id hS
  obtain ⟨oA, oF, oHr, oLt, oK, oH⟩ := id hO
  refine am_goR 3 (s2 := (3, [.ref 17, .int (nI i), .int (nI b), .null, .null], [.int (nI b), .int (nI i), .ref 17], M)) rfl ?_
  refine am_goX (v := nI 1) (M2 := M) (s2 := (6, [.ref 17, .int (nI i), .int (nI b), .null, .null], [], M)) rfl (t_isHand1 hS.2.1 hO.1 (i := i) (b := b) (by omega) (by omega)) ?_
  refine am_goR 5 (s2 := (20, [.ref 17, .int (nI i), .int (nI b), .int (nI 0), .int (nI 0)], [], M)) rfl ?_
  rw [← sp_may_e]
  exact r_may_v_loop hS hO oD hi hb 13 0 (by omega) (by omega)

theorem pp_may {M : am_Mem} (hI : sp_Inv M) (x y : Int32) : sp_PP 63 127 [.int x, .int y] M := by
  obtain ⟨⟨⟨a, f, hr, hs, lt, k, h⟩, t, w2, n, tx, rn, ro, rf⟩, hC, hR, hG⟩ := hI
  have hO := hG.1.1
  have oD := hG.1.2.2.1
  have oFx := hG.1.2.2.2
  have oA := hO.1
  have oHs := hG.1.2.1
  dsimp only at oD oFx oA oHs
  have hO : sp_ok a f hr lt k h := hO
  rcases am_in_cs x (n := a) (by omega) with hx | ⟨i, hi, rfl⟩
  · exact sp_PPr 1 (by decide) hC hR hG (c_may_0 hC.1 hO hx) (fun N hN => r_may_0 hN.1 hO oD hx)
  · rcases am_in_cs y (n := 2) (by omega) with hy | ⟨b, hb, rfl⟩
    · exact sp_PPr 1 (by decide) hC hR hG (c_may_1 hC.1 hO hi hy) (fun N hN => r_may_1 hN.1 hO oD hi hy)
    · exact sp_PP0 hC hR hG (c_may_v hC.1 hO hi hb) (fun N hN => r_may_v hN.1 hO oD hi hb)

def sp_rs (lt kk hr : Nat) : Nat → Nat → Int32 | 0, _ => -nI 9 | c + 1, p => if sp_wk lt kk ((hr + p) % 24) = true then nI p else sp_rs lt kk hr c (p + 1)
set_option maxHeartbeats 4000000 in
theorem c_rest_0 {M : am_Mem} {a f hr hs lt : Nat} {k h : Nat → Nat} (hS : sp_S 1 M a f hr hs lt k h) (hO : sp_ok a f hr lt k h) {x : Int32} (hx : am_in x a = false) : am_go 78 (am_ent 78 [.ref 0, .int (x)] M) (am_is (-nI 1) (am_set M 16 1 (M 16 1 + nI 1))) := by
  obtain ⟨hF, hA, hHr, hHs, hLt, hK, hH⟩ := id hS
  obtain ⟨oA, oF, oHr, oLt, oK, oH⟩ := id hO
  refine am_goR 3 (s2 := (5, [.ref 0, .int (x), .null], [.int (x), .ref 1], M)) rfl ?_
  refine am_goX (v := am_b (am_in x a)) (M2 := M) (s2 := (8, [.ref 0, .int (x), .null], [], M)) rfl (s_hasArm_1 hS.2.1 hO.1) ?_
  refine am_bB1 (am_in x a) (s1 := (17, [.ref 0, .int (x), .null], [], M)) (s2 := (11, [.ref 0, .int (x), .null], [], M)) rfl (fun c1 => absurd c1 (by simp [*])) (fun c1 => ?_)
  refine am_goR 2 (s2 := (13, [.ref 0, .int (x), .null], [.int ((-nI 1)), .ref 0], M)) rfl ?_
  refine am_goX (v := (-nI 1)) (M2 := (am_set M 16 1 (M 16 1 + nI 1))) (s2 := (16, [.ref 0, .int (x), .null], [], M)) rfl (s_refuse_1) ?_
  exact am_ends (-nI 1) _ rfl rfl rfl

set_option maxHeartbeats 4000000 in
theorem r_rest_0 {M : am_Mem} {a f hr hs lt : Nat} {k h : Nat → Nat} (hS : sp_M M a f hr hs lt k h) (hO : sp_ok a f hr lt k h) (oD : ∀ p q, p < 2 * a → q < 2 * a → h p = h q → p = q) {x : Int32} (hx : am_in x a = false) : am_go 154 (am_ent 154 [.ref 17, .int (x)] M) (am_is (-nI 1) (am_set M 18 1 (M 18 1 + nI 1))) := by
  obtain ⟨hF, hA, hHr, hHs, hLt, hK, hH⟩ := id hS
  obtain ⟨oA, oF, oHr, oLt, oK, oH⟩ := id hO
  refine am_goR 2 (s2 := (2, [.ref 17, .int (x), .null], [.int (x), .ref 17], M)) rfl ?_
  refine am_goX (v := am_b (am_in x a)) (M2 := M) (s2 := (5, [.ref 17, .int (x), .null], [], M)) rfl (t_isArm hS.2.1 hO.1) ?_
  refine am_bB1 (am_in x a) (s1 := (14, [.ref 17, .int (x), .null], [], M)) (s2 := (8, [.ref 17, .int (x), .null], [], M)) rfl (fun c1 => absurd c1 (by simp [*])) (fun c1 => ?_)
  refine am_goR 2 (s2 := (10, [.ref 17, .int (x), .null], [.int ((-nI 1)), .ref 17], M)) rfl ?_
  refine am_goX (v := (-nI 1)) (M2 := (am_set M 18 1 (M 18 1 + nI 1))) (s2 := (13, [.ref 17, .int (x), .null], [], M)) rfl (t_no_1) ?_
  exact am_ends (-nI 1) _ rfl rfl rfl

set_option maxHeartbeats 4000000 in
theorem c_rest_l {M : am_Mem} {a f hr hs lt : Nat} {k h : Nat → Nat} (hS : sp_S 1 M a f hr hs lt k h) (hO : sp_ok a f hr lt k h) {i : Nat} (hi : i < a) : ∀ c : Nat, ∀ p : Nat, c + p = 24 → am_go 78 (19, [.ref 0, .int (nI i), .int (nI p)], [], M) (am_is (sp_rs lt (k i) hr c p) M) := by
  obtain ⟨hF, hA, hHr, hHs, hLt, hK, hH⟩ := id hS
  obtain ⟨oA, oF, oHr, oLt, oK, oH⟩ := id hO
  intro c
  induction c using Nat.strongRecOn with
  | ind c ihs =>
    have ih : ∀ z, z < c → ∀ p : Nat, z + p = 24 → am_go 78 (19, [.ref 0, .int (nI i), .int (nI p)], [], M) (am_is (sp_rs lt (k i) hr z p) M) := ihs
    intro p h1
    refine am_goR 2 (s2 := (22, [.ref 0, .int (nI i), .int (nI p)], [.int (nI 24), .int (nI p)], M)) rfl ?_
    refine am_bLE (24) (p) (s1 := (56, [.ref 0, .int (nI i), .int (nI p)], [], M)) (s2 := (25, [.ref 0, .int (nI i), .int (nI p)], [], M)) rfl (by omega) (by omega) (fun c1 => ?_) (fun c1 => ?_)
    · refine am_goR 1 (s2 := (58, [.ref 0, .int (nI i), .int (nI p)], [.int ((-nI 9))], M)) rfl ?_
      have e0 : c = 0 := by omega
      subst e0
      exact am_ends _ _ rfl rfl rfl
    · refine am_goQ 9 (s1 := (41, [.ref 0, .int (nI i), .int (nI p)], [.int (nI 24), .int (((M 1 2) + nI p)), .int (nI i), .ref 1], M)) (s2 := (41, [.ref 0, .int (nI i), .int (nI p)], [.int (nI 24), .int (nI (hr + p)), .int (nI i), .ref 1], M)) rfl (by simp only [hHr, nI_add]) ?_
      refine am_goQ 1 (s1 := (42, [.ref 0, .int (nI i), .int (nI p)], [.int ((nI (hr + p) - nI (hr + p) / nI 24 * nI 24)), .int (nI i), .ref 1], M)) (s2 := (42, [.ref 0, .int (nI i), .int (nI p)], [.int (nI ((hr + p) % 24)), .int (nI i), .ref 1], M)) rfl (by rw [pk_rem (a := (hr + p)) (d := 24) (by omega) (by omega) (by omega)]) ?_
      refine am_goX (v := am_b (sp_wk lt (k i) ((hr + p) % 24))) (M2 := M) (s2 := (45, [.ref 0, .int (nI i), .int (nI p)], [], M)) rfl (s_worksAt_1 hS hO (i := i) (r := ((hr + p) % 24)) (by omega) (by omega)) ?_
      refine am_bB0 (sp_wk lt (k i) ((hr + p) % 24)) (s1 := (50, [.ref 0, .int (nI i), .int (nI p)], [], M)) (s2 := (48, [.ref 0, .int (nI i), .int (nI p)], [], M)) rfl (fun c2 => ?_) (fun c2 => ?_)
      · refine am_goQ 2 (s1 := (19, [.ref 0, .int (nI i), .int ((nI p + nI 1))], [], M)) (s2 := (19, [.ref 0, .int (nI i), .int (nI (p + 1))], [], M)) rfl (by simp only [nI_add]) ?_
        cases c with
        | zero => omega
        | succ c =>
          rw [sp_rs, if_neg (by simp [*])]
          exact ih c (by omega) (p + 1) (by omega)
      · refine am_goR 1 (s2 := (49, [.ref 0, .int (nI i), .int (nI p)], [.int (nI p)], M)) rfl ?_
        cases c with
        | zero => omega
        | succ c =>
          exact am_ends _ _ rfl (by rw [sp_rs, if_pos (by assumption)]) rfl
set_option maxHeartbeats 4000000 in
theorem c_rest_v {M : am_Mem} {a f hr hs lt : Nat} {k h : Nat → Nat} (hS : sp_S 1 M a f hr hs lt k h) (hO : sp_ok a f hr lt k h) {i : Nat} (hi : i < a) : am_go 78 (am_ent 78 [.ref 0, .int (nI i)] M) (am_is (sp_rs lt (k i) hr 24 0) M) := by
  obtain ⟨hF, hA, hHr, hHs, hLt, hK, hH⟩ := id hS
  obtain ⟨oA, oF, oHr, oLt, oK, oH⟩ := id hO
  refine am_goR 3 (s2 := (5, [.ref 0, .int (nI i), .null], [.int (nI i), .ref 1], M)) rfl ?_
  refine am_goX (v := nI 1) (M2 := M) (s2 := (8, [.ref 0, .int (nI i), .null], [], M)) rfl (s_hasArm1_1 hS.2.1 hO.1 (i := i) (by omega)) ?_
  refine am_goR 3 (s2 := (19, [.ref 0, .int (nI i), .int (nI 0)], [], M)) rfl ?_
  exact c_rest_l hS hO hi 24 0 (by omega)

set_option maxHeartbeats 4000000 in
theorem r_rest_l {M : am_Mem} {a f hr hs lt : Nat} {k h : Nat → Nat} (hS : sp_M M a f hr hs lt k h) (hO : sp_ok a f hr lt k h) (oD : ∀ p q, p < 2 * a → q < 2 * a → h p = h q → p = q) {i : Nat} (hi : i < a) : ∀ c : Nat, ∀ p : Nat, c + p = 24 → am_go 154 (16, [.ref 17, .int (nI i), .int (nI p)], [], M) (am_is (sp_rs lt (k i) hr c p) M) := by
  obtain ⟨hF, hA, hHr, hHs, hLt, hK, hH⟩ := id hS
  obtain ⟨oA, oF, oHr, oLt, oK, oH⟩ := id hO
  intro c
  induction c using Nat.strongRecOn with
  | ind c ihs =>
    have ih : ∀ z, z < c → ∀ p : Nat, z + p = 24 → am_go 154 (16, [.ref 17, .int (nI i), .int (nI p)], [], M) (am_is (sp_rs lt (k i) hr z p) M) := ihs
    intro p h1
    refine am_goR 2 (s2 := (19, [.ref 17, .int (nI i), .int (nI p)], [.int (nI 24), .int (nI p)], M)) rfl ?_
    refine am_bLE (24) (p) (s1 := (47, [.ref 17, .int (nI i), .int (nI p)], [], M)) (s2 := (22, [.ref 17, .int (nI i), .int (nI p)], [], M)) rfl (by omega) (by omega) (fun c1 => ?_) (fun c1 => ?_)
    · refine am_goR 1 (s2 := (49, [.ref 17, .int (nI i), .int (nI p)], [.int ((-nI 9))], M)) rfl ?_
      have e0 : c = 0 := by omega
      subst e0
      exact am_ends _ _ rfl rfl rfl
    · refine am_goQ 7 (s1 := (32, [.ref 17, .int (nI i), .int (nI p)], [.int (nI 24), .int (((M 17 5) + nI p)), .int (nI i), .ref 17], M)) (s2 := (32, [.ref 17, .int (nI i), .int (nI p)], [.int (nI 24), .int (nI (hr + p)), .int (nI i), .ref 17], M)) rfl (by simp only [hHr, nI_add]) ?_
      refine am_goQ 1 (s1 := (33, [.ref 17, .int (nI i), .int (nI p)], [.int ((nI (hr + p) - nI (hr + p) / nI 24 * nI 24)), .int (nI i), .ref 17], M)) (s2 := (33, [.ref 17, .int (nI i), .int (nI p)], [.int (nI ((hr + p) % 24)), .int (nI i), .ref 17], M)) rfl (by rw [pk_rem (a := (hr + p)) (d := 24) (by omega) (by omega) (by omega)]) ?_
      refine am_goX (v := am_b (sp_wk lt (k i) ((hr + p) % 24))) (M2 := M) (s2 := (36, [.ref 17, .int (nI i), .int (nI p)], [], M)) rfl (t_doesWork hS hO (i := i) (r := ((hr + p) % 24)) (by omega) (by omega)) ?_
      refine am_bB0 (sp_wk lt (k i) ((hr + p) % 24)) (s1 := (41, [.ref 17, .int (nI i), .int (nI p)], [], M)) (s2 := (39, [.ref 17, .int (nI i), .int (nI p)], [], M)) rfl (fun c2 => ?_) (fun c2 => ?_)
      · refine am_goQ 2 (s1 := (16, [.ref 17, .int (nI i), .int ((nI p + nI 1))], [], M)) (s2 := (16, [.ref 17, .int (nI i), .int (nI (p + 1))], [], M)) rfl (by simp only [nI_add]) ?_
        cases c with
        | zero => omega
        | succ c =>
          rw [sp_rs, if_neg (by simp [*])]
          exact ih c (by omega) (p + 1) (by omega)
      · refine am_goR 1 (s2 := (40, [.ref 17, .int (nI i), .int (nI p)], [.int (nI p)], M)) rfl ?_
        cases c with
        | zero => omega
        | succ c =>
          exact am_ends _ _ rfl (by rw [sp_rs, if_pos (by assumption)]) rfl
set_option maxHeartbeats 4000000 in
theorem r_rest_v {M : am_Mem} {a f hr hs lt : Nat} {k h : Nat → Nat} (hS : sp_M M a f hr hs lt k h) (hO : sp_ok a f hr lt k h) (oD : ∀ p q, p < 2 * a → q < 2 * a → h p = h q → p = q) {i : Nat} (hi : i < a) : am_go 154 (am_ent 154 [.ref 17, .int (nI i)] M) (am_is (sp_rs lt (k i) hr 24 0) M) := by
  obtain ⟨hF, hA, hHr, hHs, hLt, hK, hH⟩ := id hS
  obtain ⟨oA, oF, oHr, oLt, oK, oH⟩ := id hO
  refine am_goR 2 (s2 := (2, [.ref 17, .int (nI i), .null], [.int (nI i), .ref 17], M)) rfl ?_
  refine am_goX (v := nI 1) (M2 := M) (s2 := (5, [.ref 17, .int (nI i), .null], [], M)) rfl (t_isArm1 hS.2.1 hO.1 (i := i) (by omega)) ?_
  refine am_goR 3 (s2 := (16, [.ref 17, .int (nI i), .int (nI 0)], [], M)) rfl ?_
  exact r_rest_l hS hO oD hi 24 0 (by omega)

theorem pp_rest {M : am_Mem} (hI : sp_Inv M) (x : Int32) : sp_PP 78 154 [.int x] M := by
  obtain ⟨⟨⟨a, f, hr, hs, lt, k, h⟩, t, w2, n, tx, rn, ro, rf⟩, hC, hR, hG⟩ := hI
  have hO := hG.1.1
  have oD := hG.1.2.2.1
  have oFx := hG.1.2.2.2
  have oA := hO.1
  have oHs := hG.1.2.1
  dsimp only at oD oFx oA oHs
  have hO : sp_ok a f hr lt k h := hO
  rcases am_in_cs x (n := a) (by omega) with hx | ⟨i, hi, rfl⟩
  · exact sp_PPr 1 (by decide) hC hR hG (c_rest_0 hC.1 hO hx) (fun N hN => r_rest_0 hN.1 hO oD hx)
  · exact sp_PP0 hC hR hG (c_rest_v hC.1 hO hi) (fun N hN => r_rest_v hN.1 hO oD hi)

