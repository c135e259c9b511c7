/-! calls: letter, row, clear, image, on -/
set_option maxHeartbeats 4000000 in
theorem s_isFull {M : am_Mem} {n : Nat} (hL : M 13 1 = nI n) (hn : n ≤ 64) : am_go 36 (am_ent 36 [.ref 13] M) (am_is (am_b (decide (64 ≤ n))) M) := by
  refine am_goQ 5 (s1 := (9, [.ref 13], [.int (nI 64), .int ((M 13 1))], M)) (s2 := (9, [.ref 13], [.int (nI 64), .int (nI n)], M)) rfl (by simp only [hL]) ?_
  refine am_bLT (n) (64) (s1 := (16, [.ref 13], [], M)) (s2 := (12, [.ref 13], [], M)) rfl (by omega) (by omega) (fun c1 => ?_) (fun c1 => ?_)
  · refine am_goR 1 (s2 := (17, [.ref 13], [.int (nI 0)], M)) rfl ?_
    exact am_endz false _ rfl (by first | (rw [decide_eq_true (by omega)]; done) | (rw [decide_eq_false (by omega)]; done) | (rw [decide_eq_true (by omega)]; rfl) | (rw [decide_eq_false (by omega)]; rfl)) (rfl)
  · refine am_goR 2 (s2 := (17, [.ref 13], [.int (nI 1)], M)) rfl ?_
    exact am_endz true _ rfl (by first | (rw [decide_eq_true (by omega)]; done) | (rw [decide_eq_false (by omega)]; done) | (rw [decide_eq_true (by omega)]; rfl) | (rw [decide_eq_false (by omega)]; rfl)) (rfl)

set_option maxHeartbeats 4000000 in
theorem s_append {M : am_Mem} {n g : Nat} (hL : M 13 1 = nI n) (hn : n < 64) : am_go 37 (am_ent 37 [.ref 13, .int (nI g)] M) (am_is (nI (n + 1)) (am_set (am_set M 14 n (nI g)) 13 1 (nI (n + 1)))) := by
  refine am_goQ 2 (s1 := (4, [.ref 13, .int (nI g)], [.int ((M 13 1))], M)) (s2 := (4, [.ref 13, .int (nI g)], [.int (nI n)], M)) rfl (by simp only [hL]) ?_
  refine am_bLT (n) (0) (s1 := (39, [.ref 13, .int (nI g)], [], M)) (s2 := (7, [.ref 13, .int (nI g)], [], M)) rfl (by omega) (by omega) (fun c1 => absurd c1 (by omega)) (fun c1 => ?_)
  refine am_goQ 5 (s1 := (16, [.ref 13, .int (nI g)], [.int (nI 64), .int ((M 13 1))], M)) (s2 := (16, [.ref 13, .int (nI g)], [.int (nI 64), .int (nI n)], M)) rfl (by simp only [hL]) ?_
  refine am_bLE (64) (n) (s1 := (39, [.ref 13, .int (nI g)], [], M)) (s2 := (19, [.ref 13, .int (nI g)], [], M)) rfl (by omega) (by omega) (fun c2 => absurd c2 (by omega)) (fun c2 => ?_)
  refine am_goQ 5 (s1 := (28, [.ref 13, .int (nI g)], [.int (nI g), .int ((M 13 1)), .ref 14], M)) (s2 := (28, [.ref 13, .int (nI g)], [.int (nI g), .int (nI n), .ref 14], M)) rfl (by simp only [hL]) ?_
  refine am_goS (pc := 29) (ls := [.ref 13, .int (nI g)]) (r := []) (M := M) (a := 14) (n := 64) (v := nI g) (n) rfl rfl (by omega) (by decide) ?_
  refine am_goQ 5 (s1 := (36, [.ref 13, .int (nI g)], [.int (((M 13 1) + nI 1)), .ref 13], (am_set M 14 n (nI g)))) (s2 := (36, [.ref 13, .int (nI g)], [.int (nI (n + 1)), .ref 13], (am_set M 14 n (nI g)))) rfl (by simp only [hL, nI_add]) ?_
  refine am_goR 3 (s2 := (43, [.ref 13, .int (nI g)], [.int (nI (n + 1))], (am_set (am_set M 14 n (nI g)) 13 1 (nI (n + 1))))) rfl ?_
  exact am_ends (nI (n + 1)) _ rfl (by rfl) (rfl)

set_option maxHeartbeats 4000000 in
theorem c_letter_lo {M : am_Mem} {a f hr hs lt : Nat} {k h : Nat → Nat} (hS : sp_S 1 M a f hr hs lt k h) (hO : sp_ok a f hr lt k h) {n : Nat} (hL : M 13 1 = nI n) (hn : n ≤ 64) {x : Int32} (hx : x < nI 0) : am_go 54 (am_ent 54 [.ref 0, .int (x)] M) (am_is (-nI 4) (am_set M 16 4 (M 16 4 + nI 1))) := by
  obtain ⟨hF, hA, hHr, hHs, hLt, hK, hH⟩ := id hS
  obtain ⟨oA, oF, oHr, oLt, oK, oH⟩ := id hO
  refine am_goR 1 (s2 := (1, [.ref 0, .int (x)], [.int (x)], M)) rfl ?_
  refine am_bF (P := 0 ≤ x) (s1 := (11, [.ref 0, .int (x)], [], M)) (s2 := (4, [.ref 0, .int (x)], [], M)) rfl (k2_nle hx) ?_
  refine am_goR 2 (s2 := (7, [.ref 0, .int (x)], [.int ((-nI 4)), .ref 0], M)) rfl ?_
  refine am_goX (v := (-nI 4)) (M2 := (am_set M 16 4 (M 16 4 + nI 1))) (s2 := (10, [.ref 0, .int (x)], [], M)) rfl (s_refuse_4) ?_
  exact am_ends (-nI 4) _ rfl rfl rfl

set_option maxHeartbeats 4000000 in
theorem r_letter_lo {M : am_Mem} {a f hr hs lt : Nat} {k h : Nat → Nat} (hS : sp_M M a f hr hs lt k h) (hO : sp_ok a f hr lt k h) (oD : ∀ p q, p < 2 * a → q < 2 * a → h p = h q → p = q) {n : Nat} (hL : M 17 12 = nI n) (hn : n ≤ 64) {x : Int32} (hx : x < nI 0) : am_go 101 (am_ent 101 [.ref 17, .int (x)] M) (am_is (-nI 4) (am_set M 18 4 (M 18 4 + nI 1))) := by
  obtain ⟨hF, hA, hHr, hHs, hLt, hK, hH⟩ := id hS
  obtain ⟨oA, oF, oHr, oLt, oK, oH⟩ := id hO
  refine am_goR 3 (s2 := (5, [.ref 17, .int (x), .null], [.int (nI 255), .int (nI 0), .int (x)], M)) rfl ?_
  refine am_goX (v := (-nI 4)) (M2 := M) (s2 := (8, [.ref 17, .int (x), .null], [], M)) rfl (t_bound_lo hx) ?_
  refine am_goR 7 (s2 := (31, [.ref 17, .int (x), .int ((-nI 4))], [.int ((-nI 4)), .ref 17], M)) rfl ?_
  refine am_goX (v := (-nI 4)) (M2 := (am_set M 18 4 (M 18 4 + nI 1))) (s2 := (34, [.ref 17, .int (x), .int ((-nI 4))], [], M)) rfl (t_no_4) ?_
  exact am_ends (-nI 4) _ rfl rfl rfl

set_option maxHeartbeats 4000000 in
theorem c_letter_hi {M : am_Mem} {a f hr hs lt : Nat} {k h : Nat → Nat} (hS : sp_S 1 M a f hr hs lt k h) (hO : sp_ok a f hr lt k h) {n : Nat} (hL : M 13 1 = nI n) (hn : n ≤ 64) {x : Int32} (hx : ¬ x < nI 0) (hx2 : nI 255 < x) : am_go 54 (am_ent 54 [.ref 0, .int (x)] M) (am_is (-nI 6) (am_set M 16 6 (M 16 6 + nI 1))) := by
  obtain ⟨hF, hA, hHr, hHs, hLt, hK, hH⟩ := id hS
  obtain ⟨oA, oF, oHr, oLt, oK, oH⟩ := id hO
  refine am_goR 1 (s2 := (1, [.ref 0, .int (x)], [.int (x)], M)) rfl ?_
  refine am_bT (P := 0 ≤ x) (s1 := (11, [.ref 0, .int (x)], [], M)) (s2 := (4, [.ref 0, .int (x)], [], M)) rfl (k2_le hx) ?_
  refine am_goR 2 (s2 := (15, [.ref 0, .int (x)], [.int (nI 255), .int (x)], M)) rfl ?_
  refine am_bT (P := nI 255 < x) (s1 := (28, [.ref 0, .int (x)], [], M)) (s2 := (18, [.ref 0, .int (x)], [], M)) rfl (hx2) ?_
  refine am_goR 2 (s2 := (31, [.ref 0, .int (x)], [.int ((-nI 6)), .ref 0], M)) rfl ?_
  refine am_goX (v := (-nI 6)) (M2 := (am_set M 16 6 (M 16 6 + nI 1))) (s2 := (34, [.ref 0, .int (x)], [], M)) rfl (s_refuse_6) ?_
  exact am_ends (-nI 6) _ rfl rfl rfl

set_option maxHeartbeats 4000000 in
theorem r_letter_hi {M : am_Mem} {a f hr hs lt : Nat} {k h : Nat → Nat} (hS : sp_M M a f hr hs lt k h) (hO : sp_ok a f hr lt k h) (oD : ∀ p q, p < 2 * a → q < 2 * a → h p = h q → p = q) {n : Nat} (hL : M 17 12 = nI n) (hn : n ≤ 64) {x : Int32} (hx : ¬ x < nI 0) (hx2 : nI 255 < x) : am_go 101 (am_ent 101 [.ref 17, .int (x)] M) (am_is (-nI 6) (am_set M 18 6 (M 18 6 + nI 1))) := by
  obtain ⟨hF, hA, hHr, hHs, hLt, hK, hH⟩ := id hS
  obtain ⟨oA, oF, oHr, oLt, oK, oH⟩ := id hO
  refine am_goR 3 (s2 := (5, [.ref 17, .int (x), .null], [.int (nI 255), .int (nI 0), .int (x)], M)) rfl ?_
  refine am_goX (v := (-nI 6)) (M2 := M) (s2 := (8, [.ref 17, .int (x), .null], [], M)) rfl (t_bound_hi hx hx2) ?_
  refine am_goR 7 (s2 := (31, [.ref 17, .int (x), .int ((-nI 6))], [.int ((-nI 6)), .ref 17], M)) rfl ?_
  refine am_goX (v := (-nI 6)) (M2 := (am_set M 18 6 (M 18 6 + nI 1))) (s2 := (34, [.ref 17, .int (x), .int ((-nI 6))], [], M)) rfl (t_no_6) ?_
  exact am_ends (-nI 6) _ rfl rfl rfl

set_option maxHeartbeats 4000000 in
theorem c_letter_full {M : am_Mem} {a f hr hs lt : Nat} {k h : Nat → Nat} (hS : sp_S 1 M a f hr hs lt k h) (hO : sp_ok a f hr lt k h) {n : Nat} (hL : M 13 1 = nI n) (hn : n ≤ 64) {g : Nat} (hg : g ≤ 255) (hh : n = 64) : am_go 54 (am_ent 54 [.ref 0, .int (nI g)] M) (am_is (-nI 6) (am_set M 16 6 (M 16 6 + nI 1))) := by
  obtain ⟨hF, hA, hHr, hHs, hLt, hK, hH⟩ := id hS
  obtain ⟨oA, oF, oHr, oLt, oK, oH⟩ := id hO
  refine am_goR 1 (s2 := (1, [.ref 0, .int (nI g)], [.int (nI g)], M)) rfl ?_
  refine am_bLE (0) (g) (s1 := (11, [.ref 0, .int (nI g)], [], M)) (s2 := (4, [.ref 0, .int (nI g)], [], M)) rfl (by omega) (by omega) (fun c1 => ?_) (fun c1 => absurd c1 (by omega))
  refine am_goR 2 (s2 := (15, [.ref 0, .int (nI g)], [.int (nI 255), .int (nI g)], M)) rfl ?_
  refine am_bLT (255) (g) (s1 := (28, [.ref 0, .int (nI g)], [], M)) (s2 := (18, [.ref 0, .int (nI g)], [], M)) rfl (by omega) (by omega) (fun c2 => absurd c2 (by omega)) (fun c2 => ?_)
  refine am_goR 2 (s2 := (22, [.ref 0, .int (nI g)], [.ref 13], M)) rfl ?_
  refine am_goX (v := nI 1) (M2 := M) (s2 := (25, [.ref 0, .int (nI g)], [], M)) rfl ((by have z := s_isFull (M := M) hL (by omega); rw [decide_eq_true (by omega)] at z; exact z)) ?_
  refine am_goR 3 (s2 := (31, [.ref 0, .int (nI g)], [.int ((-nI 6)), .ref 0], M)) rfl ?_
  refine am_goX (v := (-nI 6)) (M2 := (am_set M 16 6 (M 16 6 + nI 1))) (s2 := (34, [.ref 0, .int (nI g)], [], M)) rfl (s_refuse_6) ?_
  exact am_ends (-nI 6) _ rfl rfl rfl

set_option maxHeartbeats 4000000 in
theorem r_letter_full {M : am_Mem} {a f hr hs lt : Nat} {k h : Nat → Nat} (hS : sp_M M a f hr hs lt k h) (hO : sp_ok a f hr lt k h) (oD : ∀ p q, p < 2 * a → q < 2 * a → h p = h q → p = q) {n : Nat} (hL : M 17 12 = nI n) (hn : n ≤ 64) {g : Nat} (hg : g ≤ 255) (hh : n = 64) : am_go 101 (am_ent 101 [.ref 17, .int (nI g)] M) (am_is (-nI 6) (am_set M 18 6 (M 18 6 + nI 1))) := by
  obtain ⟨hF, hA, hHr, hHs, hLt, hK, hH⟩ := id hS
  obtain ⟨oA, oF, oHr, oLt, oK, oH⟩ := id hO
  refine am_goR 3 (s2 := (5, [.ref 17, .int (nI g), .null], [.int (nI 255), .int (nI 0), .int (nI g)], M)) rfl ?_
  refine am_goX (v := nI 0) (M2 := M) (s2 := (8, [.ref 17, .int (nI g), .null], [], M)) rfl (t_bound_ok (fun z => by have := (nI_ltI (by omega) (by omega)).mp z; omega) (fun z => by have := (nI_ltI (by omega) (by omega)).mp z; omega)) ?_
  refine am_goQ 6 (s1 := (19, [.ref 17, .int (nI g), .int (nI 0)], [.int (nI 64), .int ((M 17 12))], M)) (s2 := (19, [.ref 17, .int (nI g), .int (nI 0)], [.int (nI 64), .int (nI n)], M)) rfl (by simp only [hL]) ?_
  refine am_bNE (n) (64) (s1 := (25, [.ref 17, .int (nI g), .int (nI 0)], [], M)) (s2 := (22, [.ref 17, .int (nI g), .int (nI 0)], [], M)) rfl (by omega) (by omega) (fun c1 => absurd c1 (by omega)) (fun c1 => ?_)
  refine am_goR 6 (s2 := (31, [.ref 17, .int (nI g), .int ((-nI 6))], [.int ((-nI 6)), .ref 17], M)) rfl ?_
  refine am_goX (v := (-nI 6)) (M2 := (am_set M 18 6 (M 18 6 + nI 1))) (s2 := (34, [.ref 17, .int (nI g), .int ((-nI 6))], [], M)) rfl (t_no_6) ?_
  exact am_ends (-nI 6) _ rfl rfl rfl

set_option maxHeartbeats 4000000 in
theorem c_letter_ok {M : am_Mem} {a f hr hs lt : Nat} {k h : Nat → Nat} (hS : sp_S 1 M a f hr hs lt k h) (hO : sp_ok a f hr lt k h) {n : Nat} (hL : M 13 1 = nI n) (hn : n ≤ 64) {g : Nat} (hg : g ≤ 255) (hh : n < 64) : am_go 54 (am_ent 54 [.ref 0, .int (nI g)] M) (am_is (nI (n + 1)) (am_set (am_set M 14 n (nI g)) 13 1 (nI (n + 1)))) := by
  obtain ⟨hF, hA, hHr, hHs, hLt, hK, hH⟩ := id hS
  obtain ⟨oA, oF, oHr, oLt, oK, oH⟩ := id hO
  refine am_goR 1 (s2 := (1, [.ref 0, .int (nI g)], [.int (nI g)], M)) rfl ?_
  refine am_bLE (0) (g) (s1 := (11, [.ref 0, .int (nI g)], [], M)) (s2 := (4, [.ref 0, .int (nI g)], [], M)) rfl (by omega) (by omega) (fun c1 => ?_) (fun c1 => absurd c1 (by omega))
  refine am_goR 2 (s2 := (15, [.ref 0, .int (nI g)], [.int (nI 255), .int (nI g)], M)) rfl ?_
  refine am_bLT (255) (g) (s1 := (28, [.ref 0, .int (nI g)], [], M)) (s2 := (18, [.ref 0, .int (nI g)], [], M)) rfl (by omega) (by omega) (fun c2 => absurd c2 (by omega)) (fun c2 => ?_)
  refine am_goR 2 (s2 := (22, [.ref 0, .int (nI g)], [.ref 13], M)) rfl ?_
  refine am_goX (v := nI 0) (M2 := M) (s2 := (25, [.ref 0, .int (nI g)], [], M)) rfl ((by have z := s_isFull (M := M) hL (by omega); rw [decide_eq_false (by omega)] at z; exact z)) ?_
  refine am_goR 4 (s2 := (40, [.ref 0, .int (nI g)], [.int (nI g), .ref 13], M)) rfl ?_
  refine am_goX (v := nI (n + 1)) (M2 := (am_set (am_set M 14 n (nI g)) 13 1 (nI (n + 1)))) (s2 := (43, [.ref 0, .int (nI g)], [], M)) rfl (s_append hL (by omega)) ?_
  exact am_ends (nI (n + 1)) _ rfl (by rfl) (rfl)

set_option maxHeartbeats 4000000 in
theorem r_letter_ok {M : am_Mem} {a f hr hs lt : Nat} {k h : Nat → Nat} (hS : sp_M M a f hr hs lt k h) (hO : sp_ok a f hr lt k h) (oD : ∀ p q, p < 2 * a → q < 2 * a → h p = h q → p = q) {n : Nat} (hL : M 17 12 = nI n) (hn : n ≤ 64) {g : Nat} (hg : g ≤ 255) (hh : n < 64) : am_go 101 (am_ent 101 [.ref 17, .int (nI g)] M) (am_is (nI (n + 1)) (am_set (am_set M 21 n (nI g)) 17 12 (nI (n + 1)))) := by
  obtain ⟨hF, hA, hHr, hHs, hLt, hK, hH⟩ := id hS
  obtain ⟨oA, oF, oHr, oLt, oK, oH⟩ := id hO
  refine am_goR 3 (s2 := (5, [.ref 17, .int (nI g), .null], [.int (nI 255), .int (nI 0), .int (nI g)], M)) rfl ?_
  refine am_goX (v := nI 0) (M2 := M) (s2 := (8, [.ref 17, .int (nI g), .null], [], M)) rfl (t_bound_ok (fun z => by have := (nI_ltI (by omega) (by omega)).mp z; omega) (fun z => by have := (nI_ltI (by omega) (by omega)).mp z; omega)) ?_
  refine am_goQ 6 (s1 := (19, [.ref 17, .int (nI g), .int (nI 0)], [.int (nI 64), .int ((M 17 12))], M)) (s2 := (19, [.ref 17, .int (nI g), .int (nI 0)], [.int (nI 64), .int (nI n)], M)) rfl (by simp only [hL]) ?_
  refine am_bNE (n) (64) (s1 := (25, [.ref 17, .int (nI g), .int (nI 0)], [], M)) (s2 := (22, [.ref 17, .int (nI g), .int (nI 0)], [], M)) rfl (by omega) (by omega) (fun c1 => ?_) (fun c1 => absurd c1 (by omega))
  refine am_goQ 7 (s1 := (44, [.ref 17, .int (nI g), .int (nI 0)], [.int (nI g), .int ((M 17 12)), .ref 21], M)) (s2 := (44, [.ref 17, .int (nI g), .int (nI 0)], [.int (nI g), .int (nI n), .ref 21], M)) rfl (by simp only [hL]) ?_
  refine am_goS (pc := 45) (ls := [.ref 17, .int (nI g), .int (nI 0)]) (r := []) (M := M) (a := 21) (n := 64) (v := nI g) (n) rfl rfl (by omega) (by decide) ?_
  refine am_goQ 5 (s1 := (52, [.ref 17, .int (nI g), .int (nI 0)], [.int (((M 17 12) + nI 1)), .ref 17], (am_set M 21 n (nI g)))) (s2 := (52, [.ref 17, .int (nI g), .int (nI 0)], [.int (nI (n + 1)), .ref 17], (am_set M 21 n (nI g)))) rfl (by simp only [hL, nI_add]) ?_
  refine am_goR 3 (s2 := (59, [.ref 17, .int (nI g), .int (nI 0)], [.int (nI (n + 1))], (am_set (am_set M 21 n (nI g)) 17 12 (nI (n + 1))))) rfl ?_
  exact am_ends (nI (n + 1)) _ rfl (by rfl) (rfl)

def sp_ap (f : Nat → Nat) (n g : Nat) : Nat → Nat := fun q => if q = n then g else f q
theorem pp_letter {M : am_Mem} (hI : sp_Inv M) (x : Int32) : sp_PP 54 101 [.int x] M := by
  obtain ⟨⟨⟨a, f, hr, hs, lt, k, h⟩, t, w2, n, tx, rn, ro, rf⟩, hC, hR, hG⟩ := hI
  have hO := hG.1.1
  have oD := hG.1.2.2.1
  have oFx := hG.1.2.2.2
  have oA := hO.1
  have oHs := hG.1.2.1
  dsimp only at oD oFx oA oHs
  have hO : sp_ok a f hr lt k h := hO
  have hS1 : sp_S 1 M a f hr hs lt k h := hC.1
  have hM1 : ∀ N, sp_IR N ((a, f, hr, hs, lt, k, h), t, w2, n, tx, rn, ro, rf) → sp_M N a f hr hs lt k h := fun N hN => hN.1
  have hLc : M 13 1 = nI n := hC.2.2.2.1
  have hRc : M 0 7 = nI rn := hC.2.2.2.2.2.1
  have hLm : ∀ N, sp_IR N ((a, f, hr, hs, lt, k, h), t, w2, n, tx, rn, ro, rf) → N 17 12 = nI n := fun N hN => hN.2.2.2.1
  have hRm : ∀ N, sp_IR N ((a, f, hr, hs, lt, k, h), t, w2, n, tx, rn, ro, rf) → N 17 24 = nI rn := fun N hN => hN.2.2.2.2.2.1
  have oN : n ≤ 64 := hG.2.2.1
  by_cases hx : x < nI 0
  · exact sp_PPr 4 (by decide) hC hR hG (c_letter_lo hS1 hO hLc oN hx) (fun N hN => r_letter_lo (hM1 N hN) hO oD (hLm N hN) oN hx)
  · by_cases hx2 : nI 255 < x
    · exact sp_PPr 6 (by decide) hC hR hG (c_letter_hi hS1 hO hLc oN hx hx2) (fun N hN => r_letter_hi (hM1 N hN) hO oD (hLm N hN) oN hx hx2)
    · obtain ⟨g, hg, rfl⟩ := am_rg (n := 255) (by decide) hx hx2
      by_cases hh : n = 64
      · exact sp_PPr 6 (by decide) hC hR hG (c_letter_full hS1 hO hLc oN hg hh) (fun N hN => r_letter_full (hM1 N hN) hO oD (hLm N hN) oN hg hh)
      · refine sp_comb (z2 := ((a, f, hr, hs, lt, k, h), t, w2, n + 1, sp_ap tx n g, rn, ro, rf)) hR (am_goW (c_letter_ok hS1 hO hLc oN hg (by omega)) (fun r9 N9 hN9 => by
        obtain ⟨v9, rfl, rfl, rfl⟩ := hN9
        have ff : ∀ a9 b9, ¬ (a9 = 14 ∨ (a9 = 13 ∧ b9 = 1)) → (am_set (am_set M 14 n (nI g)) 13 1 (nI (n + 1))) a9 b9 = M a9 b9 := fun a9 b9 c9 => (am_set_o (by omega)).trans (am_set_o (by omega))
        exact ⟨_, rfl, rfl, fun a9 b9 c9 => ff a9 b9 (by omega), ⟨hC.1.fr (fun a9 b9 c9 => ff a9 b9 (by omega)), (ff _ _ (by omega)).trans hC.2.1, fun t9 => (hC.2.2.1 t9).fr (fun a9 b9 c9 => ff a9 b9 (by omega)), rfl, (fun q hq => by
          show am_set (am_set M 14 n (nI g)) 13 1 (nI (n + 1)) 14 q = nI (if q = n then g else tx q)
          by_cases e : q = n
          · subst e; rw [am_set_o (by omega), am_set_s, if_pos rfl]
          · rw [am_set_o (by omega), am_set_o (by omega), if_neg e]; exact hC.2.2.2.2.1 q hq), (ff _ _ (by omega)).trans hC.2.2.2.2.2.1, fun q hq => (ff _ _ (by omega)).trans (hC.2.2.2.2.2.2.1 q hq), fun q hq => (ff _ _ (by omega)).trans (hC.2.2.2.2.2.2.2 q hq)⟩⟩)) (fun N hN => am_goW (r_letter_ok (hM1 N hN) hO oD (hLm N hN) oN hg (by omega)) (fun r9 N9 hN9 => by
        obtain ⟨v9, rfl, rfl, rfl⟩ := hN9
        have ff : ∀ a9 b9, ¬ (a9 = 21 ∨ (a9 = 17 ∧ b9 = 12)) → (am_set (am_set N 21 n (nI g)) 17 12 (nI (n + 1))) a9 b9 = N a9 b9 := fun a9 b9 c9 => (am_set_o (by omega)).trans (am_set_o (by omega))
        exact ⟨_, rfl, rfl, fun a9 b9 c9 => ff a9 b9 (by omega), ⟨hN.1.fr (fun a9 b9 c9 => ff a9 b9 (by omega)), (ff _ _ (by omega)).trans hN.2.1, fun t9 => (hN.2.2.1 t9).fr2 (fun b9 c9 => ff 25 b9 (by omega)), rfl, (fun q hq => by
          show am_set (am_set N 21 n (nI g)) 17 12 (nI (n + 1)) 21 q = nI (if q = n then g else tx q)
          by_cases e : q = n
          · subst e; rw [am_set_o (by omega), am_set_s, if_pos rfl]
          · rw [am_set_o (by omega), am_set_o (by omega), if_neg e]; exact hN.2.2.2.2.1 q hq), (ff _ _ (by omega)).trans hN.2.2.2.2.2.1, fun q hq => (ff _ _ (by omega)).trans (hN.2.2.2.2.2.2.1 q hq), fun q hq => (ff _ _ (by omega)).trans (hN.2.2.2.2.2.2.2 q hq)⟩⟩)) ⟨hG.1, hG.2.1, by show n + 1 ≤ 64; omega, fun q => ?_, hG.2.2.2.2⟩
        show sp_ap tx n g q < 256
        unfold sp_ap
        split
        · omega
        · exact hG.2.2.2.1 q

set_option maxHeartbeats 4000000 in
theorem c_row_lo {M : am_Mem} {a f hr hs lt : Nat} {k h : Nat → Nat} (hS : sp_S 1 M a f hr hs lt k h) (hO : sp_ok a f hr lt k h) {rn : Nat} (hRn : M 0 7 = nI rn) (hrn : rn ≤ 16) {x : Int32} (hx : x < nI 0) : am_go 73 (am_ent 73 [.ref 0, .int (x)] M) (am_is (-nI 4) (am_set M 16 4 (M 16 4 + nI 1))) := by
  obtain ⟨hF, hA, hHr, hHs, hLt, hK, hH⟩ := id hS
  obtain ⟨oA, oF, oHr, oLt, oK, oH⟩ := id hO
  refine am_goR 1 (s2 := (1, [.ref 0, .int (x)], [.int (x)], M)) rfl ?_
  refine am_bF (P := 0 ≤ x) (s1 := (11, [.ref 0, .int (x)], [], M)) (s2 := (4, [.ref 0, .int (x)], [], M)) rfl (k2_nle hx) ?_
  refine am_goR 2 (s2 := (7, [.ref 0, .int (x)], [.int ((-nI 4)), .ref 0], M)) rfl ?_
  refine am_goX (v := (-nI 4)) (M2 := (am_set M 16 4 (M 16 4 + nI 1))) (s2 := (10, [.ref 0, .int (x)], [], M)) rfl (s_refuse_4) ?_
  exact am_ends (-nI 4) _ rfl rfl rfl

set_option maxHeartbeats 4000000 in
theorem r_row_lo {M : am_Mem} {a f hr hs lt : Nat} {k h : Nat → Nat} (hS : sp_M M a f hr hs lt k h) (hO : sp_ok a f hr lt k h) (oD : ∀ p q, p < 2 * a → q < 2 * a → h p = h q → p = q) {rn : Nat} (hRn : M 17 24 = nI rn) (hrn : rn ≤ 16) {x : Int32} (hx : x < nI 0) : am_go 146 (am_ent 146 [.ref 17, .int (x)] M) (am_is (-nI 4) (am_set M 18 4 (M 18 4 + nI 1))) := by
  obtain ⟨hF, hA, hHr, hHs, hLt, hK, hH⟩ := id hS
  obtain ⟨oA, oF, oHr, oLt, oK, oH⟩ := id hO
  refine am_goR 3 (s2 := (5, [.ref 17, .int (x), .null], [.int (nI 3111), .int (nI 0), .int (x)], M)) rfl ?_
  refine am_goX (v := (-nI 4)) (M2 := M) (s2 := (8, [.ref 17, .int (x), .null], [], M)) rfl (t_bound_lo hx) ?_
  refine am_goR 7 (s2 := (31, [.ref 17, .int (x), .int ((-nI 4))], [.int ((-nI 4)), .ref 17], M)) rfl ?_
  refine am_goX (v := (-nI 4)) (M2 := (am_set M 18 4 (M 18 4 + nI 1))) (s2 := (34, [.ref 17, .int (x), .int ((-nI 4))], [], M)) rfl (t_no_4) ?_
  exact am_ends (-nI 4) _ rfl rfl rfl

set_option maxHeartbeats 4000000 in
theorem c_row_hi {M : am_Mem} {a f hr hs lt : Nat} {k h : Nat → Nat} (hS : sp_S 1 M a f hr hs lt k h) (hO : sp_ok a f hr lt k h) {rn : Nat} (hRn : M 0 7 = nI rn) (hrn : rn ≤ 16) {x : Int32} (hx : ¬ x < nI 0) (hx2 : nI 3111 < x) : am_go 73 (am_ent 73 [.ref 0, .int (x)] M) (am_is (-nI 6) (am_set M 16 6 (M 16 6 + nI 1))) := by
  obtain ⟨hF, hA, hHr, hHs, hLt, hK, hH⟩ := id hS
  obtain ⟨oA, oF, oHr, oLt, oK, oH⟩ := id hO
  refine am_goR 1 (s2 := (1, [.ref 0, .int (x)], [.int (x)], M)) rfl ?_
  refine am_bT (P := 0 ≤ x) (s1 := (11, [.ref 0, .int (x)], [], M)) (s2 := (4, [.ref 0, .int (x)], [], M)) rfl (k2_le hx) ?_
  refine am_goR 2 (s2 := (15, [.ref 0, .int (x)], [.int (nI 3111), .int (x)], M)) rfl ?_
  refine am_bT (P := nI 3111 < x) (s1 := (37, [.ref 0, .int (x)], [], M)) (s2 := (18, [.ref 0, .int (x)], [], M)) rfl (hx2) ?_
  refine am_goR 2 (s2 := (40, [.ref 0, .int (x)], [.int ((-nI 6)), .ref 0], M)) rfl ?_
  refine am_goX (v := (-nI 6)) (M2 := (am_set M 16 6 (M 16 6 + nI 1))) (s2 := (43, [.ref 0, .int (x)], [], M)) rfl (s_refuse_6) ?_
  exact am_ends (-nI 6) _ rfl rfl rfl

set_option maxHeartbeats 4000000 in
theorem r_row_hi {M : am_Mem} {a f hr hs lt : Nat} {k h : Nat → Nat} (hS : sp_M M a f hr hs lt k h) (hO : sp_ok a f hr lt k h) (oD : ∀ p q, p < 2 * a → q < 2 * a → h p = h q → p = q) {rn : Nat} (hRn : M 17 24 = nI rn) (hrn : rn ≤ 16) {x : Int32} (hx : ¬ x < nI 0) (hx2 : nI 3111 < x) : am_go 146 (am_ent 146 [.ref 17, .int (x)] M) (am_is (-nI 6) (am_set M 18 6 (M 18 6 + nI 1))) := by
  obtain ⟨hF, hA, hHr, hHs, hLt, hK, hH⟩ := id hS
  obtain ⟨oA, oF, oHr, oLt, oK, oH⟩ := id hO
  refine am_goR 3 (s2 := (5, [.ref 17, .int (x), .null], [.int (nI 3111), .int (nI 0), .int (x)], M)) rfl ?_
  refine am_goX (v := (-nI 6)) (M2 := M) (s2 := (8, [.ref 17, .int (x), .null], [], M)) rfl (t_bound_hi hx hx2) ?_
  refine am_goR 7 (s2 := (31, [.ref 17, .int (x), .int ((-nI 6))], [.int ((-nI 6)), .ref 17], M)) rfl ?_
  refine am_goX (v := (-nI 6)) (M2 := (am_set M 18 6 (M 18 6 + nI 1))) (s2 := (34, [.ref 17, .int (x), .int ((-nI 6))], [], M)) rfl (t_no_6) ?_
  exact am_ends (-nI 6) _ rfl rfl rfl

set_option maxHeartbeats 4000000 in
theorem c_row_full {M : am_Mem} {a f hr hs lt : Nat} {k h : Nat → Nat} (hS : sp_S 1 M a f hr hs lt k h) (hO : sp_ok a f hr lt k h) {rn : Nat} (hRn : M 0 7 = nI rn) (hrn : rn ≤ 16) {g : Nat} (hg : g ≤ 3111) (hh : rn = 16) : am_go 73 (am_ent 73 [.ref 0, .int (nI g)] M) (am_is (-nI 6) (am_set M 16 6 (M 16 6 + nI 1))) := by
  obtain ⟨hF, hA, hHr, hHs, hLt, hK, hH⟩ := id hS
  obtain ⟨oA, oF, oHr, oLt, oK, oH⟩ := id hO
  refine am_goR 1 (s2 := (1, [.ref 0, .int (nI g)], [.int (nI g)], M)) rfl ?_
  refine am_bLE (0) (g) (s1 := (11, [.ref 0, .int (nI g)], [], M)) (s2 := (4, [.ref 0, .int (nI g)], [], M)) rfl (by omega) (by omega) (fun c1 => ?_) (fun c1 => absurd c1 (by omega))
  refine am_goR 2 (s2 := (15, [.ref 0, .int (nI g)], [.int (nI 3111), .int (nI g)], M)) rfl ?_
  refine am_bLT (3111) (g) (s1 := (37, [.ref 0, .int (nI g)], [], M)) (s2 := (18, [.ref 0, .int (nI g)], [], M)) rfl (by omega) (by omega) (fun c2 => absurd c2 (by omega)) (fun c2 => ?_)
  refine am_goQ 2 (s1 := (22, [.ref 0, .int (nI g)], [.int ((M 0 7))], M)) (s2 := (22, [.ref 0, .int (nI g)], [.int (nI rn)], M)) rfl (by simp only [hRn]) ?_
  refine am_bLT (rn) (0) (s1 := (37, [.ref 0, .int (nI g)], [], M)) (s2 := (25, [.ref 0, .int (nI g)], [], M)) rfl (by omega) (by omega) (fun c3 => absurd c3 (by omega)) (fun c3 => ?_)
  refine am_goQ 5 (s1 := (34, [.ref 0, .int (nI g)], [.int (nI 16), .int ((M 0 7))], M)) (s2 := (34, [.ref 0, .int (nI g)], [.int (nI 16), .int (nI rn)], M)) rfl (by simp only [hRn]) ?_
  refine am_bLT (rn) (16) (s1 := (44, [.ref 0, .int (nI g)], [], M)) (s2 := (37, [.ref 0, .int (nI g)], [], M)) rfl (by omega) (by omega) (fun c4 => absurd c4 (by omega)) (fun c4 => ?_)
  refine am_goR 2 (s2 := (40, [.ref 0, .int (nI g)], [.int ((-nI 6)), .ref 0], M)) rfl ?_
  refine am_goX (v := (-nI 6)) (M2 := (am_set M 16 6 (M 16 6 + nI 1))) (s2 := (43, [.ref 0, .int (nI g)], [], M)) rfl (s_refuse_6) ?_
  exact am_ends (-nI 6) _ rfl rfl rfl

set_option maxHeartbeats 4000000 in
theorem r_row_full {M : am_Mem} {a f hr hs lt : Nat} {k h : Nat → Nat} (hS : sp_M M a f hr hs lt k h) (hO : sp_ok a f hr lt k h) (oD : ∀ p q, p < 2 * a → q < 2 * a → h p = h q → p = q) {rn : Nat} (hRn : M 17 24 = nI rn) (hrn : rn ≤ 16) {g : Nat} (hg : g ≤ 3111) (hh : rn = 16) : am_go 146 (am_ent 146 [.ref 17, .int (nI g)] M) (am_is (-nI 6) (am_set M 18 6 (M 18 6 + nI 1))) := by
  obtain ⟨hF, hA, hHr, hHs, hLt, hK, hH⟩ := id hS
  obtain ⟨oA, oF, oHr, oLt, oK, oH⟩ := id hO
  refine am_goR 3 (s2 := (5, [.ref 17, .int (nI g), .null], [.int (nI 3111), .int (nI 0), .int (nI g)], M)) rfl ?_
  refine am_goX (v := nI 0) (M2 := M) (s2 := (8, [.ref 17, .int (nI g), .null], [], M)) rfl (t_bound_ok (fun z => by have := (nI_ltI (by omega) (by omega)).mp z; omega) (fun z => by have := (nI_ltI (by omega) (by omega)).mp z; omega)) ?_
  refine am_goQ 6 (s1 := (19, [.ref 17, .int (nI g), .int (nI 0)], [.int (nI 16), .int ((M 17 24))], M)) (s2 := (19, [.ref 17, .int (nI g), .int (nI 0)], [.int (nI 16), .int (nI rn)], M)) rfl (by simp only [hRn]) ?_
  refine am_bNE (rn) (16) (s1 := (25, [.ref 17, .int (nI g), .int (nI 0)], [], M)) (s2 := (22, [.ref 17, .int (nI g), .int (nI 0)], [], M)) rfl (by omega) (by omega) (fun c1 => absurd c1 (by omega)) (fun c1 => ?_)
  refine am_goR 6 (s2 := (31, [.ref 17, .int (nI g), .int ((-nI 6))], [.int ((-nI 6)), .ref 17], M)) rfl ?_
  refine am_goX (v := (-nI 6)) (M2 := (am_set M 18 6 (M 18 6 + nI 1))) (s2 := (34, [.ref 17, .int (nI g), .int ((-nI 6))], [], M)) rfl (t_no_6) ?_
  exact am_ends (-nI 6) _ rfl rfl rfl

set_option maxHeartbeats 4000000 in
theorem c_row_ok {M : am_Mem} {a f hr hs lt : Nat} {k h : Nat → Nat} (hS : sp_S 1 M a f hr hs lt k h) (hO : sp_ok a f hr lt k h) {rn : Nat} (hRn : M 0 7 = nI rn) (hrn : rn ≤ 16) {g : Nat} (hg : g ≤ 3111) (hh : rn < 16) : am_go 73 (am_ent 73 [.ref 0, .int (nI g)] M) (am_is (nI (rn + 1)) (am_set (am_set M 15 rn (nI g)) 0 7 (nI (rn + 1)))) := by
  obtain ⟨hF, hA, hHr, hHs, hLt, hK, hH⟩ := id hS
  obtain ⟨oA, oF, oHr, oLt, oK, oH⟩ := id hO
  refine am_goR 1 (s2 := (1, [.ref 0, .int (nI g)], [.int (nI g)], M)) rfl ?_
  refine am_bLE (0) (g) (s1 := (11, [.ref 0, .int (nI g)], [], M)) (s2 := (4, [.ref 0, .int (nI g)], [], M)) rfl (by omega) (by omega) (fun c1 => ?_) (fun c1 => absurd c1 (by omega))
  refine am_goR 2 (s2 := (15, [.ref 0, .int (nI g)], [.int (nI 3111), .int (nI g)], M)) rfl ?_
  refine am_bLT (3111) (g) (s1 := (37, [.ref 0, .int (nI g)], [], M)) (s2 := (18, [.ref 0, .int (nI g)], [], M)) rfl (by omega) (by omega) (fun c2 => absurd c2 (by omega)) (fun c2 => ?_)
  refine am_goQ 2 (s1 := (22, [.ref 0, .int (nI g)], [.int ((M 0 7))], M)) (s2 := (22, [.ref 0, .int (nI g)], [.int (nI rn)], M)) rfl (by simp only [hRn]) ?_
  refine am_bLT (rn) (0) (s1 := (37, [.ref 0, .int (nI g)], [], M)) (s2 := (25, [.ref 0, .int (nI g)], [], M)) rfl (by omega) (by omega) (fun c3 => absurd c3 (by omega)) (fun c3 => ?_)
  refine am_goQ 5 (s1 := (34, [.ref 0, .int (nI g)], [.int (nI 16), .int ((M 0 7))], M)) (s2 := (34, [.ref 0, .int (nI g)], [.int (nI 16), .int (nI rn)], M)) rfl (by simp only [hRn]) ?_
  refine am_bLT (rn) (16) (s1 := (44, [.ref 0, .int (nI g)], [], M)) (s2 := (37, [.ref 0, .int (nI g)], [], M)) rfl (by omega) (by omega) (fun c4 => ?_) (fun c4 => absurd c4 (by omega))
  refine am_goQ 5 (s1 := (53, [.ref 0, .int (nI g)], [.int (nI g), .int ((M 0 7)), .ref 15], M)) (s2 := (53, [.ref 0, .int (nI g)], [.int (nI g), .int (nI rn), .ref 15], M)) rfl (by simp only [hRn]) ?_
  refine am_goS (pc := 54) (ls := [.ref 0, .int (nI g)]) (r := []) (M := M) (a := 15) (n := 16) (v := nI g) (rn) rfl rfl (by omega) (by decide) ?_
  refine am_goQ 5 (s1 := (61, [.ref 0, .int (nI g)], [.int (((M 0 7) + nI 1)), .ref 0], (am_set M 15 rn (nI g)))) (s2 := (61, [.ref 0, .int (nI g)], [.int (nI (rn + 1)), .ref 0], (am_set M 15 rn (nI g)))) rfl (by simp only [hRn, nI_add]) ?_
  refine am_goR 3 (s2 := (68, [.ref 0, .int (nI g)], [.int (nI (rn + 1))], (am_set (am_set M 15 rn (nI g)) 0 7 (nI (rn + 1))))) rfl ?_
  exact am_ends (nI (rn + 1)) _ rfl (by rfl) (rfl)

set_option maxHeartbeats 4000000 in
theorem r_row_ok {M : am_Mem} {a f hr hs lt : Nat} {k h : Nat → Nat} (hS : sp_M M a f hr hs lt k h) (hO : sp_ok a f hr lt k h) (oD : ∀ p q, p < 2 * a → q < 2 * a → h p = h q → p = q) {rn : Nat} (hRn : M 17 24 = nI rn) (hrn : rn ≤ 16) {g : Nat} (hg : g ≤ 3111) (hh : rn < 16) : am_go 146 (am_ent 146 [.ref 17, .int (nI g)] M) (am_is (nI (rn + 1)) (am_set (am_set M 28 rn (nI g)) 17 24 (nI (rn + 1)))) := by
  obtain ⟨hF, hA, hHr, hHs, hLt, hK, hH⟩ := id hS
  obtain ⟨oA, oF, oHr, oLt, oK, oH⟩ := id hO
  refine am_goR 3 (s2 := (5, [.ref 17, .int (nI g), .null], [.int (nI 3111), .int (nI 0), .int (nI g)], M)) rfl ?_
  refine am_goX (v := nI 0) (M2 := M) (s2 := (8, [.ref 17, .int (nI g), .null], [], M)) rfl (t_bound_ok (fun z => by have := (nI_ltI (by omega) (by omega)).mp z; omega) (fun z => by have := (nI_ltI (by omega) (by omega)).mp z; omega)) ?_
  refine am_goQ 6 (s1 := (19, [.ref 17, .int (nI g), .int (nI 0)], [.int (nI 16), .int ((M 17 24))], M)) (s2 := (19, [.ref 17, .int (nI g), .int (nI 0)], [.int (nI 16), .int (nI rn)], M)) rfl (by simp only [hRn]) ?_
  refine am_bNE (rn) (16) (s1 := (25, [.ref 17, .int (nI g), .int (nI 0)], [], M)) (s2 := (22, [.ref 17, .int (nI g), .int (nI 0)], [], M)) rfl (by omega) (by omega) (fun c1 => ?_) (fun c1 => absurd c1 (by omega))
  refine am_goQ 7 (s1 := (44, [.ref 17, .int (nI g), .int (nI 0)], [.int (nI g), .int ((M 17 24)), .ref 28], M)) (s2 := (44, [.ref 17, .int (nI g), .int (nI 0)], [.int (nI g), .int (nI rn), .ref 28], M)) rfl (by simp only [hRn]) ?_
  refine am_goS (pc := 45) (ls := [.ref 17, .int (nI g), .int (nI 0)]) (r := []) (M := M) (a := 28) (n := 16) (v := nI g) (rn) rfl rfl (by omega) (by decide) ?_
  refine am_goQ 5 (s1 := (52, [.ref 17, .int (nI g), .int (nI 0)], [.int (((M 17 24) + nI 1)), .ref 17], (am_set M 28 rn (nI g)))) (s2 := (52, [.ref 17, .int (nI g), .int (nI 0)], [.int (nI (rn + 1)), .ref 17], (am_set M 28 rn (nI g)))) rfl (by simp only [hRn, nI_add]) ?_
  refine am_goR 3 (s2 := (59, [.ref 17, .int (nI g), .int (nI 0)], [.int (nI (rn + 1))], (am_set (am_set M 28 rn (nI g)) 17 24 (nI (rn + 1))))) rfl ?_
  exact am_ends (nI (rn + 1)) _ rfl (by rfl) (rfl)

theorem pp_row {M : am_Mem} (hI : sp_Inv M) (x : Int32) : sp_PP 73 146 [.int x] M := by
  obtain ⟨⟨⟨a, f, hr, hs, lt, k, h⟩, t, w2, n, tx, rn, ro, rf⟩, hC, hR, hG⟩ := hI
  have hO := hG.1.1
  have oD := hG.1.2.2.1
  have oFx := hG.1.2.2.2
  have oA := hO.1
  have oHs := hG.1.2.1
  dsimp only at oD oFx oA oHs
  have hO : sp_ok a f hr lt k h := hO
  have hS1 : sp_S 1 M a f hr hs lt k h := hC.1
  have hM1 : ∀ N, sp_IR N ((a, f, hr, hs, lt, k, h), t, w2, n, tx, rn, ro, rf) → sp_M N a f hr hs lt k h := fun N hN => hN.1
  have hLc : M 13 1 = nI n := hC.2.2.2.1
  have hRc : M 0 7 = nI rn := hC.2.2.2.2.2.1
  have hLm : ∀ N, sp_IR N ((a, f, hr, hs, lt, k, h), t, w2, n, tx, rn, ro, rf) → N 17 12 = nI n := fun N hN => hN.2.2.2.1
  have hRm : ∀ N, sp_IR N ((a, f, hr, hs, lt, k, h), t, w2, n, tx, rn, ro, rf) → N 17 24 = nI rn := fun N hN => hN.2.2.2.2.2.1
  have oN : rn ≤ 16 := hG.2.2.2.2.1
  by_cases hx : x < nI 0
  · exact sp_PPr 4 (by decide) hC hR hG (c_row_lo hS1 hO hRc oN hx) (fun N hN => r_row_lo (hM1 N hN) hO oD (hRm N hN) oN hx)
  · by_cases hx2 : nI 3111 < x
    · exact sp_PPr 6 (by decide) hC hR hG (c_row_hi hS1 hO hRc oN hx hx2) (fun N hN => r_row_hi (hM1 N hN) hO oD (hRm N hN) oN hx hx2)
    · obtain ⟨g, hg, rfl⟩ := am_rg (n := 3111) (by decide) hx hx2
      by_cases hh : rn = 16
      · exact sp_PPr 6 (by decide) hC hR hG (c_row_full hS1 hO hRc oN hg hh) (fun N hN => r_row_full (hM1 N hN) hO oD (hRm N hN) oN hg hh)
      · refine sp_comb (z2 := ((a, f, hr, hs, lt, k, h), t, w2, n, tx, rn + 1, sp_ap ro rn g, rf)) hR (am_goW (c_row_ok hS1 hO hRc oN hg (by omega)) (fun r9 N9 hN9 => by
        obtain ⟨v9, rfl, rfl, rfl⟩ := hN9
        have ff : ∀ a9 b9, ¬ (a9 = 15 ∨ (a9 = 0 ∧ b9 = 7)) → (am_set (am_set M 15 rn (nI g)) 0 7 (nI (rn + 1))) a9 b9 = M a9 b9 := fun a9 b9 c9 => (am_set_o (by omega)).trans (am_set_o (by omega))
        exact ⟨_, rfl, rfl, fun a9 b9 c9 => ff a9 b9 (by omega), ⟨hC.1.fr (fun a9 b9 c9 => ff a9 b9 (by omega)), (ff _ _ (by omega)).trans hC.2.1, fun t9 => (hC.2.2.1 t9).fr (fun a9 b9 c9 => ff a9 b9 (by omega)), (ff _ _ (by omega)).trans hC.2.2.2.1, fun q hq => (ff _ _ (by omega)).trans (hC.2.2.2.2.1 q hq), rfl, (fun q hq => by
          show am_set (am_set M 15 rn (nI g)) 0 7 (nI (rn + 1)) 15 q = nI (if q = rn then g else ro q)
          by_cases e : q = rn
          · subst e; rw [am_set_o (by omega), am_set_s, if_pos rfl]
          · rw [am_set_o (by omega), am_set_o (by omega), if_neg e]; exact hC.2.2.2.2.2.2.1 q hq), fun q hq => (ff _ _ (by omega)).trans (hC.2.2.2.2.2.2.2 q hq)⟩⟩)) (fun N hN => am_goW (r_row_ok (hM1 N hN) hO oD (hRm N hN) oN hg (by omega)) (fun r9 N9 hN9 => by
        obtain ⟨v9, rfl, rfl, rfl⟩ := hN9
        have ff : ∀ a9 b9, ¬ (a9 = 28 ∨ (a9 = 17 ∧ b9 = 24)) → (am_set (am_set N 28 rn (nI g)) 17 24 (nI (rn + 1))) a9 b9 = N a9 b9 := fun a9 b9 c9 => (am_set_o (by omega)).trans (am_set_o (by omega))
        exact ⟨_, rfl, rfl, fun a9 b9 c9 => ff a9 b9 (by omega), ⟨hN.1.fr (fun a9 b9 c9 => ff a9 b9 (by omega)), (ff _ _ (by omega)).trans hN.2.1, fun t9 => (hN.2.2.1 t9).fr2 (fun b9 c9 => ff 25 b9 (by omega)), (ff _ _ (by omega)).trans hN.2.2.2.1, fun q hq => (ff _ _ (by omega)).trans (hN.2.2.2.2.1 q hq), rfl, (fun q hq => by
          show am_set (am_set N 28 rn (nI g)) 17 24 (nI (rn + 1)) 28 q = nI (if q = rn then g else ro q)
          by_cases e : q = rn
          · subst e; rw [am_set_o (by omega), am_set_s, if_pos rfl]
          · rw [am_set_o (by omega), am_set_o (by omega), if_neg e]; exact hN.2.2.2.2.2.2.1 q hq), fun q hq => (ff _ _ (by omega)).trans (hN.2.2.2.2.2.2.2 q hq)⟩⟩)) ⟨hG.1, hG.2.1, hG.2.2.1, hG.2.2.2.1, by show rn + 1 ≤ 16; omega, fun q => ?_⟩
        show sp_ap ro rn g q < 3112
        unfold sp_ap
        split
        · omega
        · exact hG.2.2.2.2.2 q

set_option maxHeartbeats 4000000 in
theorem c_clear {M : am_Mem} {a f hr hs lt : Nat} {k h : Nat → Nat} (hS : sp_S 1 M a f hr hs lt k h) (hO : sp_ok a f hr lt k h) {rn : Nat} (hRn : M 0 7 = nI rn) : am_go 77 (am_ent 77 [.ref 0] M) (am_is (nI rn) (am_set M 0 7 (nI 0))) := by
  obtain ⟨hF, hA, hHr, hHs, hLt, hK, hH⟩ := id hS
  obtain ⟨oA, oF, oHr, oLt, oK, oH⟩ := id hO
  refine am_goQ 7 (s1 := (11, [.ref 0, .int ((M 0 7))], [.int ((M 0 7))], (am_set M 0 7 (nI 0)))) (s2 := (11, [.ref 0, .int (nI rn)], [.int (nI rn)], (am_set M 0 7 (nI 0)))) rfl (by simp only [hRn]) ?_
  exact am_ends (nI rn) _ rfl (by rfl) (rfl)

set_option maxHeartbeats 4000000 in
theorem r_clear {M : am_Mem} {a f hr hs lt : Nat} {k h : Nat → Nat} (hS : sp_M M a f hr hs lt k h) (hO : sp_ok a f hr lt k h) (oD : ∀ p q, p < 2 * a → q < 2 * a → h p = h q → p = q) {rn : Nat} (hRn : M 17 24 = nI rn) : am_go 147 (am_ent 147 [.ref 17] M) (am_is (nI rn) (am_set M 17 24 (nI 0))) := by
  obtain ⟨hF, hA, hHr, hHs, hLt, hK, hH⟩ := id hS
  obtain ⟨oA, oF, oHr, oLt, oK, oH⟩ := id hO
  refine am_goQ 7 (s1 := (11, [.ref 17, .int ((M 17 24))], [.int ((M 17 24))], (am_set M 17 24 (nI 0)))) (s2 := (11, [.ref 17, .int (nI rn)], [.int (nI rn)], (am_set M 17 24 (nI 0)))) rfl (by simp only [hRn]) ?_
  exact am_ends (nI rn) _ rfl (by rfl) (rfl)

theorem pp_clear {M : am_Mem} (hI : sp_Inv M) : sp_PP 77 147 [] M := by
  obtain ⟨⟨⟨a, f, hr, hs, lt, k, h⟩, t, w2, n, tx, rn, ro, rf⟩, hC, hR, hG⟩ := hI
  have hO := hG.1.1
  have oD := hG.1.2.2.1
  have oFx := hG.1.2.2.2
  have oA := hO.1
  have oHs := hG.1.2.1
  dsimp only at oD oFx oA oHs
  have hO : sp_ok a f hr lt k h := hO
  have hS1 : sp_S 1 M a f hr hs lt k h := hC.1
  have hM1 : ∀ N, sp_IR N ((a, f, hr, hs, lt, k, h), t, w2, n, tx, rn, ro, rf) → sp_M N a f hr hs lt k h := fun N hN => hN.1
  have hLc : M 13 1 = nI n := hC.2.2.2.1
  have hRc : M 0 7 = nI rn := hC.2.2.2.2.2.1
  have hLm : ∀ N, sp_IR N ((a, f, hr, hs, lt, k, h), t, w2, n, tx, rn, ro, rf) → N 17 12 = nI n := fun N hN => hN.2.2.2.1
  have hRm : ∀ N, sp_IR N ((a, f, hr, hs, lt, k, h), t, w2, n, tx, rn, ro, rf) → N 17 24 = nI rn := fun N hN => hN.2.2.2.2.2.1
  refine sp_comb (z2 := ((a, f, hr, hs, lt, k, h), t, w2, n, tx, 0, ro, rf)) hR (am_goW (c_clear hS1 hO hRc) (fun r9 N9 hN9 => by
        obtain ⟨v9, rfl, rfl, rfl⟩ := hN9
        have ff : ∀ a9 b9, ¬ (a9 = 0 ∧ b9 = 7) → (am_set M 0 7 (nI 0)) a9 b9 = M a9 b9 := fun a9 b9 c9 => am_set_o (by omega)
        exact ⟨_, rfl, rfl, fun a9 b9 c9 => ff a9 b9 (by omega), ⟨hC.1.fr (fun a9 b9 c9 => ff a9 b9 (by omega)), (ff _ _ (by omega)).trans hC.2.1, fun t9 => (hC.2.2.1 t9).fr (fun a9 b9 c9 => ff a9 b9 (by omega)), (ff _ _ (by omega)).trans hC.2.2.2.1, fun q hq => (ff _ _ (by omega)).trans (hC.2.2.2.2.1 q hq), rfl, fun q hq => (ff _ _ (by omega)).trans (hC.2.2.2.2.2.2.1 q hq), fun q hq => (ff _ _ (by omega)).trans (hC.2.2.2.2.2.2.2 q hq)⟩⟩)) (fun N hN => am_goW (r_clear (hM1 N hN) hO oD (hRm N hN)) (fun r9 N9 hN9 => by
        obtain ⟨v9, rfl, rfl, rfl⟩ := hN9
        have ff : ∀ a9 b9, ¬ (a9 = 17 ∧ b9 = 24) → (am_set N 17 24 (nI 0)) a9 b9 = N a9 b9 := fun a9 b9 c9 => am_set_o (by omega)
        exact ⟨_, rfl, rfl, fun a9 b9 c9 => ff a9 b9 (by omega), ⟨hN.1.fr (fun a9 b9 c9 => ff a9 b9 (by omega)), (ff _ _ (by omega)).trans hN.2.1, fun t9 => (hN.2.2.1 t9).fr2 (fun b9 c9 => ff 25 b9 (by omega)), (ff _ _ (by omega)).trans hN.2.2.2.1, fun q hq => (ff _ _ (by omega)).trans (hN.2.2.2.2.1 q hq), rfl, fun q hq => (ff _ _ (by omega)).trans (hN.2.2.2.2.2.2.1 q hq), fun q hq => (ff _ _ (by omega)).trans (hN.2.2.2.2.2.2.2 q hq)⟩⟩)) ⟨hG.1, hG.2.1, hG.2.2.1, hG.2.2.2.1, Nat.zero_le _, hG.2.2.2.2.2⟩

theorem pp_image {M : am_Mem} (hI : sp_Inv M) : sp_PP 81 114 [] M := by
  obtain ⟨⟨⟨a, f, hr, hs, lt, k, h⟩, t, w2, n, tx, rn, ro, rf⟩, hC, hR, hG⟩ := hI
  have hO := hG.1.1
  have oD := hG.1.2.2.1
  have oFx := hG.1.2.2.2
  have oA := hO.1
  have oHs := hG.1.2.1
  dsimp only at oD oFx oA oHs
  have hO : sp_ok a f hr lt k h := hO
  have hS1 : sp_S 1 M a f hr hs lt k h := hC.1
  have hM1 : ∀ N, sp_IR N ((a, f, hr, hs, lt, k, h), t, w2, n, tx, rn, ro, rf) → sp_M N a f hr hs lt k h := fun N hN => hN.1
  have hLc : M 13 1 = nI n := hC.2.2.2.1
  have hRc : M 0 7 = nI rn := hC.2.2.2.2.2.1
  have hLm : ∀ N, sp_IR N ((a, f, hr, hs, lt, k, h), t, w2, n, tx, rn, ro, rf) → N 17 12 = nI n := fun N hN => hN.2.2.2.1
  have hRm : ∀ N, sp_IR N ((a, f, hr, hs, lt, k, h), t, w2, n, tx, rn, ro, rf) → N 17 24 = nI rn := fun N hN => hN.2.2.2.2.2.1
  refine sp_comb (v := nI hs) (z2 := ((a, f, hr, hs, lt, k, h), true, (a, f, hr, hs, lt, k, h), n, tx, rn, ro, rf)) hR ?_ (fun N hN => ?_) ⟨hG.1, fun _ => hG.1, hG.2.2⟩
  · refine am_goR 4 (s2 := (8, [.ref 0], [.ref 1, .ref 7], M)) rfl ?_
    refine am_goV (s2 := (11, [.ref 0], [], M)) rfl (s_become_7_1 hS1) (fun K hK => ?_)
    obtain ⟨k1, k2⟩ := hK
    have k3 : ∀ a9 b9, ¬ a9 = 7 → ¬ a9 = 8 → ¬ a9 = 9 → K a9 b9 = M a9 b9 := fun a9 b9 c1 c2 c3 => congrFun (k1 a9 c1 c2 c3) b9
    refine am_goR 3 (s2 := (16, [.ref 0], [], am_set K 0 3 (am_b true))) rfl ?_
    refine am_goQ 3 (s1 := (23, [.ref 0], [.int (K 1 3)], am_set K 0 3 (am_b true))) (s2 := (23, [.ref 0], [.int (nI hs)], am_set K 0 3 (am_b true))) rfl (by rw [show K 1 3 = nI hs from (k3 1 3 (by omega) (by omega) (by omega)).trans hC.1.2.2.2.1]) ?_
    have ff : ∀ a9 b9, ¬ a9 = 7 → ¬ a9 = 8 → ¬ a9 = 9 → ¬ (a9 = 0 ∧ b9 = 3) → am_set K 0 3 (am_b true) a9 b9 = M a9 b9 := fun a9 b9 c1 c2 c3 c4 => (am_set_o c4).trans (k3 a9 b9 c1 c2 c3)
    exact am_goE _ _ rfl ⟨_, rfl, rfl, fun a9 b9 c9 => ff a9 b9 (by omega) (by omega) (by omega) (by omega), hC.1.fr (fun a9 b9 c9 => ff a9 b9 (by omega) (by omega) (by omega) (by omega)), rfl, fun _ => k2, (ff _ _ (by omega) (by omega) (by omega) (by omega)).trans hC.2.2.2.1, fun q hq => (ff _ _ (by omega) (by omega) (by omega) (by omega)).trans (hC.2.2.2.2.1 q hq), (ff _ _ (by omega) (by omega) (by omega) (by omega)).trans hC.2.2.2.2.2.1, fun q hq => (ff _ _ (by omega) (by omega) (by omega) (by omega)).trans (hC.2.2.2.2.2.2.1 q hq), fun q hq => (ff _ _ (by omega) (by omega) (by omega) (by omega)).trans (hC.2.2.2.2.2.2.2 q hq)⟩
  · refine am_goR 6 (s2 := (8, [.ref 17], [.int (nI 1), .int (nI 0), .ref 17], am_set N 17 16 (am_b true))) rfl ?_
    have hM : sp_M (am_set N 17 16 (am_b true)) a f hr hs lt k h := hN.1
    refine am_goV (s2 := (11, [.ref 17], [], am_set N 17 16 (am_b true))) rfl (t_keepAll0 hM) (fun K hK => ?_)
    obtain ⟨k1, k2, k3, k4⟩ := hK
    refine am_goQ 2 (s1 := (15, [.ref 17], [.int (K 17 6)], K)) (s2 := (15, [.ref 17], [.int (nI hs)], K)) rfl (by rw [k3.2.2.2.1]) ?_
    have ff : ∀ a9 b9, ¬ a9 = 25 → ¬ (a9 = 17 ∧ (b9 = 16 ∨ b9 = 17 ∨ b9 = 18 ∨ (3 ≤ b9 ∧ b9 ≤ 7))) → K a9 b9 = N a9 b9 := fun a9 b9 c1 c2 => (k1 a9 b9 c1 (by omega)).trans (am_set_o (by omega))
    exact am_goE _ _ rfl ⟨_, rfl, rfl, fun a9 b9 c9 => ff a9 b9 (by omega) (by omega), k3, (k1 17 16 (by omega) (by omega)).trans rfl, fun _ => k4, (ff _ _ (by omega) (by omega)).trans hN.2.2.2.1, fun q hq => (ff _ _ (by omega) (by omega)).trans (hN.2.2.2.2.1 q hq), (ff _ _ (by omega) (by omega)).trans hN.2.2.2.2.2.1, fun q hq => (ff _ _ (by omega) (by omega)).trans (hN.2.2.2.2.2.2.1 q hq), fun q hq => (ff _ _ (by omega) (by omega)).trans (hN.2.2.2.2.2.2.2 q hq)⟩

set_option maxHeartbeats 4000000 in
theorem c_on_0 {M : am_Mem} {a f hr hs lt : Nat} {k h : Nat → Nat} (hS : sp_S 1 M a f hr hs lt k h) (hO : sp_ok a f hr lt k h) (hT : M 0 3 = am_b false) : am_go 82 (am_ent 82 [.ref 0] M) (am_is (-nI 3) (am_set M 16 3 (M 16 3 + nI 1))) := by
  obtain ⟨hF, hA, hHr, hHs, hLt, hK, hH⟩ := id hS
  obtain ⟨oA, oF, oHr, oLt, oK, oH⟩ := id hO
  refine am_goQ 2 (s1 := (4, [.ref 0], [.int ((M 0 3))], M)) (s2 := (4, [.ref 0], [.int (am_b false)], M)) rfl (by simp only [hT]) ?_
  refine am_goR 3 (s2 := (10, [.ref 0], [.int ((-nI 3)), .ref 0], M)) rfl ?_
  refine am_goX (v := (-nI 3)) (M2 := (am_set M 16 3 (M 16 3 + nI 1))) (s2 := (13, [.ref 0], [], M)) rfl (s_refuse_3) ?_
  exact am_ends (-nI 3) _ rfl rfl rfl

set_option maxHeartbeats 4000000 in
theorem r_on_0 {M : am_Mem} {a f hr hs lt : Nat} {k h : Nat → Nat} (hS : sp_M M a f hr hs lt k h) (hO : sp_ok a f hr lt k h) (oD : ∀ p q, p < 2 * a → q < 2 * a → h p = h q → p = q) (hT : M 17 16 = am_b false) : am_go 115 (am_ent 115 [.ref 17] M) (am_is (-nI 3) (am_set M 18 3 (M 18 3 + nI 1))) := by
  obtain ⟨hF, hA, hHr, hHs, hLt, hK, hH⟩ := id hS
  obtain ⟨oA, oF, oHr, oLt, oK, oH⟩ := id hO
  refine am_goQ 2 (s1 := (4, [.ref 17], [.int ((M 17 16))], M)) (s2 := (4, [.ref 17], [.int (am_b false)], M)) rfl (by simp only [hT]) ?_
  refine am_goR 3 (s2 := (10, [.ref 17], [.int ((-nI 3)), .ref 17], M)) rfl ?_
  refine am_goX (v := (-nI 3)) (M2 := (am_set M 18 3 (M 18 3 + nI 1))) (s2 := (13, [.ref 17], [], M)) rfl (t_no_3) ?_
  exact am_ends (-nI 3) _ rfl rfl rfl

theorem pp_on {M : am_Mem} (hI : sp_Inv M) : sp_PP 82 115 [] M := by
  obtain ⟨⟨⟨a, f, hr, hs, lt, k, h⟩, t, w2, n, tx, rn, ro, rf⟩, hC, hR, hG⟩ := hI
  have hO := hG.1.1
  have oD := hG.1.2.2.1
  have oFx := hG.1.2.2.2
  have oA := hO.1
  have oHs := hG.1.2.1
  dsimp only at oD oFx oA oHs
  have hO : sp_ok a f hr lt k h := hO
  have hS1 : sp_S 1 M a f hr hs lt k h := hC.1
  have hM1 : ∀ N, sp_IR N ((a, f, hr, hs, lt, k, h), t, w2, n, tx, rn, ro, rf) → sp_M N a f hr hs lt k h := fun N hN => hN.1
  have hLc : M 13 1 = nI n := hC.2.2.2.1
  have hRc : M 0 7 = nI rn := hC.2.2.2.2.2.1
  have hLm : ∀ N, sp_IR N ((a, f, hr, hs, lt, k, h), t, w2, n, tx, rn, ro, rf) → N 17 12 = nI n := fun N hN => hN.2.2.2.1
  have hRm : ∀ N, sp_IR N ((a, f, hr, hs, lt, k, h), t, w2, n, tx, rn, ro, rf) → N 17 24 = nI rn := fun N hN => hN.2.2.2.2.2.1
  cases t with
  | false => exact sp_PPr 3 (by decide) hC hR hG (c_on_0 hS1 hO hC.2.1) (fun N hN => r_on_0 (hM1 N hN) hO oD hN.2.1)
  | true =>
    obtain ⟨a2, f2, hr2, hs2, lt2, k2, h2⟩ := w2
    have hC7 := hC.2.2.1 rfl
    refine sp_comb (v := nI hs2) (z2 := ((a2, f2, hr2, hs2, lt2, k2, h2), true, (a2, f2, hr2, hs2, lt2, k2, h2), n, tx, rn, ro, rf)) hR ?_ (fun N hN => ?_) ⟨hG.2.1 rfl, hG.2⟩
    · refine am_goQ 2 (s1 := (4, [.ref 0], [.int (M 0 3)], M)) (s2 := (4, [.ref 0], [.int (am_b true)], M)) rfl (by rw [show M 0 3 = am_b true from hC.2.1]) ?_
      refine am_goR 1 (s2 := (14, [.ref 0], [], M)) rfl ?_
      refine am_goR 4 (s2 := (22, [.ref 0], [.ref 7, .ref 1], M)) rfl ?_
      refine am_goV (s2 := (25, [.ref 0], [], M)) rfl (s_become_1_7 hC7) (fun K hK => ?_)
      obtain ⟨q1, q2⟩ := hK
      have ff : ∀ a9 b9, ¬ a9 = 1 → ¬ a9 = 2 → ¬ a9 = 3 → K a9 b9 = M a9 b9 := fun a9 b9 c1 c2 c3 => congrFun (q1 a9 c1 c2 c3) b9
      refine am_goQ 3 (s1 := (32, [.ref 0], [.int (K 1 3)], K)) (s2 := (32, [.ref 0], [.int (nI hs2)], K)) rfl (by rw [q2.2.2.2.1]) ?_
      exact am_goE _ _ rfl ⟨_, rfl, rfl, fun a9 b9 c9 => ff a9 b9 (by omega) (by omega) (by omega), hC.st q2 (fun a9 b9 c9 c1 c2 c3 => ff a9 b9 c1 c2 c3)⟩
    · have hK7 : sp_K N 0 a2 f2 hr2 hs2 lt2 k2 h2 := hN.2.2.1 rfl
      refine am_goQ 2 (s1 := (4, [.ref 17], [.int (N 17 16)], N)) (s2 := (4, [.ref 17], [.int (am_b true)], N)) rfl (by rw [show N 17 16 = am_b true from hN.2.1]) ?_
      refine am_goR 1 (s2 := (14, [.ref 17], [], N)) rfl ?_
      refine am_goR 3 (s2 := (17, [.ref 17], [.int (nI 0), .int (nI 0), .ref 17], N)) rfl ?_
      refine am_goV (s2 := (20, [.ref 17], [], N)) rfl (t_putAll0 hK7 hN.1.2.1 hN.1.1 hN.1.2.2.1 hN.1.2.2.2.1 hN.1.2.2.2.2.1) (fun K hK => ?_)
      obtain ⟨q1, q2⟩ := hK
      refine am_goQ 2 (s1 := (24, [.ref 17], [.int (K 17 6)], K)) (s2 := (24, [.ref 17], [.int (nI hs2)], K)) rfl (by rw [q2.2.2.2.1]) ?_
      exact am_goE _ _ rfl ⟨_, rfl, rfl, fun a9 b9 c9 => q1 a9 b9 (by omega) (by omega) (by omega), hN.st q2 (fun a9 b9 c9 c1 c2 c3 => q1 a9 b9 c1 c2 (by unfold sp_sR at c9; omega))⟩

