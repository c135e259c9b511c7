/-! calls: count, falls -/
theorem t_isIn_F {M : am_Mem} {x : Int32} {lo hi : Nat} (h : ¬ (nI lo ≤ x ∧ x ≤ nI hi)) : am_go 91 (am_ent 91 [.int x, .int (nI lo), .int (nI hi)] M) (am_is (am_b false) M) := by
  refine am_goR 2 (s2 := (2, [.int x, .int (nI lo), .int (nI hi)], [.int (nI lo), .int x], M)) rfl ?_
  refine am_goB (x < nI lo) (s1 := (14, [.int x, .int (nI lo), .int (nI hi)], [], M)) (s2 := (5, [.int x, .int (nI lo), .int (nI hi)], [], M)) rfl (fun c => ?_) (fun c => ?_)
  · refine am_goR 1 (s2 := (15, [.int x, .int (nI lo), .int (nI hi)], [.int (am_b false)], M)) rfl ?_
    exact am_endz false _ rfl rfl rfl
  · refine am_goR 2 (s2 := (7, [.int x, .int (nI lo), .int (nI hi)], [.int (nI hi), .int x], M)) rfl ?_
    refine am_goB (nI hi < x) (s1 := (14, [.int x, .int (nI lo), .int (nI hi)], [], M)) (s2 := (10, [.int x, .int (nI lo), .int (nI hi)], [], M)) rfl (fun c2 => ?_) (fun c2 => absurd ⟨k2_le c, k2_le c2⟩ h)
    refine am_goR 1 (s2 := (15, [.int x, .int (nI lo), .int (nI hi)], [.int (am_b false)], M)) rfl ?_
    exact am_endz false _ rfl rfl rfl
theorem am_s10 {x : Int32} (h : x.toInt < 0 ∨ 16 < x.toInt) : (x - nI 10 < nI 1) ∨ (¬ x - nI 10 < nI 1 ∧ ¬ x - nI 10 < nI 7) := by
  have h1 : (x - nI 10).toInt = (x.toInt - 10).bmod (2 ^ 32) := by rw [Int32.toInt_sub, nI_toInt (by omega)]; rfl
  have h2 := x.toInt_lt
  have h3 := x.le_toInt
  rw [Int32.lt_iff_toInt_lt, Int32.lt_iff_toInt_lt, nI_toInt (by omega), nI_toInt (by omega), h1, Int.bmod_def]
  split <;> omega

set_option maxHeartbeats 4000000 in
theorem s_refOf_lo {M : am_Mem} {y : Int32} (h : y < nI 1) : am_go 84 (am_ent 84 [.ref 0, .int y] M) (am_is (-nI 9) M) := by
  refine am_goR 2 (s2 := (2, [.ref 0, .int (y)], [.int (nI 1), .int (y)], M)) rfl ?_
  refine am_bT (P := y < nI 1) (s1 := (14, [.ref 0, .int (y)], [], M)) (s2 := (5, [.ref 0, .int (y)], [], M)) rfl (h) ?_
  refine am_goR 2 (s2 := (25, [.ref 0, .int (y)], [.int ((-nI 9))], M)) rfl ?_
  exact am_ends ((-nI 9)) _ rfl (by rfl) (rfl)

set_option maxHeartbeats 4000000 in
theorem s_refOf_hi {M : am_Mem} {y : Int32} (h : ¬ y < nI 1) (h2 : ¬ y < nI 7) : am_go 84 (am_ent 84 [.ref 0, .int y] M) (am_is (-nI 9) M) := by
  refine am_goR 2 (s2 := (2, [.ref 0, .int (y)], [.int (nI 1), .int (y)], M)) rfl ?_
  refine am_bF (P := y < nI 1) (s1 := (14, [.ref 0, .int (y)], [], M)) (s2 := (5, [.ref 0, .int (y)], [], M)) rfl (h) ?_
  refine am_goR 4 (s2 := (11, [.ref 0, .int (y)], [.int (nI 7), .int (y)], M)) rfl ?_
  refine am_bF (P := y < nI 7) (s1 := (19, [.ref 0, .int (y)], [], M)) (s2 := (14, [.ref 0, .int (y)], [], M)) rfl (h2) ?_
  refine am_goR 2 (s2 := (25, [.ref 0, .int (y)], [.int ((-nI 9))], M)) rfl ?_
  exact am_ends ((-nI 9)) _ rfl (by rfl) (rfl)

set_option maxHeartbeats 4000000 in
theorem s_refOf_1 {M : am_Mem} : am_go 84 (am_ent 84 [.ref 0, .int (nI 1)] M) (am_is (M 16 1) M) := by
  refine am_goR 11 (s2 := (24, [.ref 0, .int (nI 1)], [.int (nI 1), .ref 16], M)) rfl ?_
  refine am_goL2 (pc := 25) (ls := [.ref 0, .int (nI 1)]) (r := []) (M := M) (a := 16) (n := 7) (1) ((M 16 1)) rfl rfl (by omega) (by decide) (rfl) ?_
  exact am_ends ((M 16 1)) _ rfl (by rfl) (rfl)

set_option maxHeartbeats 4000000 in
theorem s_refOf_2 {M : am_Mem} : am_go 84 (am_ent 84 [.ref 0, .int (nI 2)] M) (am_is (M 16 2) M) := by
  refine am_goR 11 (s2 := (24, [.ref 0, .int (nI 2)], [.int (nI 2), .ref 16], M)) rfl ?_
  refine am_goL2 (pc := 25) (ls := [.ref 0, .int (nI 2)]) (r := []) (M := M) (a := 16) (n := 7) (2) ((M 16 2)) rfl rfl (by omega) (by decide) (rfl) ?_
  exact am_ends ((M 16 2)) _ rfl (by rfl) (rfl)

set_option maxHeartbeats 4000000 in
theorem s_refOf_3 {M : am_Mem} : am_go 84 (am_ent 84 [.ref 0, .int (nI 3)] M) (am_is (M 16 3) M) := by
  refine am_goR 11 (s2 := (24, [.ref 0, .int (nI 3)], [.int (nI 3), .ref 16], M)) rfl ?_
  refine am_goL2 (pc := 25) (ls := [.ref 0, .int (nI 3)]) (r := []) (M := M) (a := 16) (n := 7) (3) ((M 16 3)) rfl rfl (by omega) (by decide) (rfl) ?_
  exact am_ends ((M 16 3)) _ rfl (by rfl) (rfl)

set_option maxHeartbeats 4000000 in
theorem s_refOf_4 {M : am_Mem} : am_go 84 (am_ent 84 [.ref 0, .int (nI 4)] M) (am_is (M 16 4) M) := by
  refine am_goR 11 (s2 := (24, [.ref 0, .int (nI 4)], [.int (nI 4), .ref 16], M)) rfl ?_
  refine am_goL2 (pc := 25) (ls := [.ref 0, .int (nI 4)]) (r := []) (M := M) (a := 16) (n := 7) (4) ((M 16 4)) rfl rfl (by omega) (by decide) (rfl) ?_
  exact am_ends ((M 16 4)) _ rfl (by rfl) (rfl)

set_option maxHeartbeats 4000000 in
theorem s_refOf_5 {M : am_Mem} : am_go 84 (am_ent 84 [.ref 0, .int (nI 5)] M) (am_is (M 16 5) M) := by
  refine am_goR 11 (s2 := (24, [.ref 0, .int (nI 5)], [.int (nI 5), .ref 16], M)) rfl ?_
  refine am_goL2 (pc := 25) (ls := [.ref 0, .int (nI 5)]) (r := []) (M := M) (a := 16) (n := 7) (5) ((M 16 5)) rfl rfl (by omega) (by decide) (rfl) ?_
  exact am_ends ((M 16 5)) _ rfl (by rfl) (rfl)

set_option maxHeartbeats 4000000 in
theorem s_refOf_6 {M : am_Mem} : am_go 84 (am_ent 84 [.ref 0, .int (nI 6)] M) (am_is (M 16 6) M) := by
  refine am_goR 11 (s2 := (24, [.ref 0, .int (nI 6)], [.int (nI 6), .ref 16], M)) rfl ?_
  refine am_goL2 (pc := 25) (ls := [.ref 0, .int (nI 6)]) (r := []) (M := M) (a := 16) (n := 7) (6) ((M 16 6)) rfl rfl (by omega) (by decide) (rfl) ?_
  exact am_ends ((M 16 6)) _ rfl (by rfl) (rfl)

set_option maxHeartbeats 4000000 in
theorem s_refOf_m0 {M : am_Mem} : am_go 84 (am_ent 84 [.ref 0, .int (nI 0)] M) (am_is (-nI 9) M) := by
  refine am_goR 5 (s2 := (25, [.ref 0, .int (nI 0)], [.int ((-nI 9))], M)) rfl ?_
  exact am_ends ((-nI 9)) _ rfl (by rfl) (rfl)

set_option maxHeartbeats 4000000 in
theorem s_refOf_m1 {M : am_Mem} : am_go 84 (am_ent 84 [.ref 0, .int ((-nI 1))] M) (am_is (-nI 9) M) := by
  refine am_goR 5 (s2 := (25, [.ref 0, .int ((-nI 1))], [.int ((-nI 9))], M)) rfl ?_
  exact am_ends ((-nI 9)) _ rfl (by rfl) (rfl)

set_option maxHeartbeats 4000000 in
theorem s_refOf_m2 {M : am_Mem} : am_go 84 (am_ent 84 [.ref 0, .int ((-nI 2))] M) (am_is (-nI 9) M) := by
  refine am_goR 5 (s2 := (25, [.ref 0, .int ((-nI 2))], [.int ((-nI 9))], M)) rfl ?_
  exact am_ends ((-nI 9)) _ rfl (by rfl) (rfl)

set_option maxHeartbeats 4000000 in
theorem s_refOf_m3 {M : am_Mem} : am_go 84 (am_ent 84 [.ref 0, .int ((-nI 3))] M) (am_is (-nI 9) M) := by
  refine am_goR 5 (s2 := (25, [.ref 0, .int ((-nI 3))], [.int ((-nI 9))], M)) rfl ?_
  exact am_ends ((-nI 9)) _ rfl (by rfl) (rfl)

set_option maxHeartbeats 4000000 in
theorem c_count_0 {M : am_Mem} {a f hr hs lt : Nat} {k h : Nat → Nat} (hS : sp_S 1 M a f hr hs lt k h) (hO : sp_ok a f hr lt k h) {n rn : Nat} {rf : Nat → Int32} (hL : M 13 1 = nI n) (hRn : M 0 7 = nI rn) (hf : ∀ q, q < 7 → M 16 q = rf q) : am_go 83 (am_ent 83 [.ref 0, .int (nI 0)] M) (am_is (nI a) M) := by
  obtain ⟨hF, hA, hHr, hHs, hLt, hK, hH⟩ := id hS
  obtain ⟨oA, oF, oHr, oLt, oK, oH⟩ := id hO
  refine am_goQ 5 (s1 := (51, [.ref 0, .int (nI 0)], [.int ((M 1 1))], M)) (s2 := (51, [.ref 0, .int (nI 0)], [.int (nI a)], M)) rfl (by simp only [hA]) ?_
  exact am_ends (nI a) _ rfl (by rfl) (rfl)

set_option maxHeartbeats 4000000 in
theorem r_count_0 {M : am_Mem} {a f hr hs lt : Nat} {k h : Nat → Nat} (hS : sp_M M a f hr hs lt k h) (hO : sp_ok a f hr lt k h) (oD : ∀ p q, p < 2 * a → q < 2 * a → h p = h q → p = q) {n rn : Nat} {rf : Nat → Int32} (hL : M 17 12 = nI n) (hRn : M 17 24 = nI rn) (hf : ∀ q, q < 7 → M 18 q = rf q) : am_go 158 (am_ent 158 [.ref 17, .int (nI 0)] M) (am_is (nI a) M) := by
  obtain ⟨hF, hA, hHr, hHs, hLt, hK, hH⟩ := id hS
  obtain ⟨oA, oF, oHr, oLt, oK, oH⟩ := id hO
  refine am_goR 3 (s2 := (5, [.ref 17, .int (nI 0)], [.int (nI 16), .int (nI 11), .int (nI 0)], M)) rfl ?_
  refine am_goX (v := am_b (sp_in 0 11 16)) (M2 := M) (s2 := (8, [.ref 17, .int (nI 0)], [], M)) rfl (t_isInG (x := 0) (lo := 11) (hi := 16) (by omega) (by omega) (by omega)) ?_
  refine am_bB0 (sp_in 0 11 16) (s1 := (21, [.ref 17, .int (nI 0)], [], M)) (s2 := (11, [.ref 17, .int (nI 0)], [], M)) rfl (fun c1 => ?_) (fun c1 => absurd c1 (by decide))
  refine am_goQ 4 (s1 := (68, [.ref 17, .int (nI 0)], [.int ((M 17 3))], M)) (s2 := (68, [.ref 17, .int (nI 0)], [.int (nI a)], M)) rfl (by simp only [hA]) ?_
  exact am_ends (nI a) _ rfl (by rfl) (rfl)

set_option maxHeartbeats 4000000 in
theorem c_count_1 {M : am_Mem} {a f hr hs lt : Nat} {k h : Nat → Nat} (hS : sp_S 1 M a f hr hs lt k h) (hO : sp_ok a f hr lt k h) {n rn : Nat} {rf : Nat → Int32} (hL : M 13 1 = nI n) (hRn : M 0 7 = nI rn) (hf : ∀ q, q < 7 → M 16 q = rf q) : am_go 83 (am_ent 83 [.ref 0, .int (nI 1)] M) (am_is (nI (sp_pc2 f 31)) M) := by
  obtain ⟨hF, hA, hHr, hHs, hLt, hK, hH⟩ := id hS
  obtain ⟨oA, oF, oHr, oLt, oK, oH⟩ := id hO
  refine am_goQ 5 (s1 := (59, [.ref 0, .int (nI 1)], [.int ((M 1 0))], M)) (s2 := (59, [.ref 0, .int (nI 1)], [.int (nI f)], M)) rfl (by simp only [hF]) ?_
  refine am_goX (v := nI (sp_pc2 f 31)) (M2 := M) (s2 := (62, [.ref 0, .int (nI 1)], [], M)) rfl (s_bitCount (x := f) (by omega)) ?_
  exact am_ends (nI (sp_pc2 f 31)) _ rfl (by rfl) (rfl)

set_option maxHeartbeats 4000000 in
theorem r_count_1 {M : am_Mem} {a f hr hs lt : Nat} {k h : Nat → Nat} (hS : sp_M M a f hr hs lt k h) (hO : sp_ok a f hr lt k h) (oD : ∀ p q, p < 2 * a → q < 2 * a → h p = h q → p = q) {n rn : Nat} {rf : Nat → Int32} (hL : M 17 12 = nI n) (hRn : M 17 24 = nI rn) (hf : ∀ q, q < 7 → M 18 q = rf q) : am_go 158 (am_ent 158 [.ref 17, .int (nI 1)] M) (am_is (nI (sp_pc2 f 31)) M) := by
  obtain ⟨hF, hA, hHr, hHs, hLt, hK, hH⟩ := id hS
  obtain ⟨oA, oF, oHr, oLt, oK, oH⟩ := id hO
  refine am_goR 3 (s2 := (5, [.ref 17, .int (nI 1)], [.int (nI 16), .int (nI 11), .int (nI 1)], M)) rfl ?_
  refine am_goX (v := am_b (sp_in 1 11 16)) (M2 := M) (s2 := (8, [.ref 17, .int (nI 1)], [], M)) rfl (t_isInG (x := 1) (lo := 11) (hi := 16) (by omega) (by omega) (by omega)) ?_
  refine am_bB0 (sp_in 1 11 16) (s1 := (21, [.ref 17, .int (nI 1)], [], M)) (s2 := (11, [.ref 17, .int (nI 1)], [], M)) rfl (fun c1 => ?_) (fun c1 => absurd c1 (by decide))
  refine am_goQ 4 (s1 := (73, [.ref 17, .int (nI 1)], [.int ((M 17 4))], M)) (s2 := (73, [.ref 17, .int (nI 1)], [.int (nI f)], M)) rfl (by simp only [hF]) ?_
  refine am_goX (v := nI (sp_pc2 f 31)) (M2 := M) (s2 := (76, [.ref 17, .int (nI 1)], [], M)) rfl (t_bits (x := f) (by omega)) ?_
  exact am_ends (nI (sp_pc2 f 31)) _ rfl (by rfl) (rfl)

set_option maxHeartbeats 4000000 in
theorem c_count_2 {M : am_Mem} {a f hr hs lt : Nat} {k h : Nat → Nat} (hS : sp_S 1 M a f hr hs lt k h) (hO : sp_ok a f hr lt k h) {n rn : Nat} {rf : Nat → Int32} (hL : M 13 1 = nI n) (hRn : M 0 7 = nI rn) (hf : ∀ q, q < 7 → M 16 q = rf q) : am_go 83 (am_ent 83 [.ref 0, .int (nI 2)] M) (am_is (nI hr) M) := by
  obtain ⟨hF, hA, hHr, hHs, hLt, hK, hH⟩ := id hS
  obtain ⟨oA, oF, oHr, oLt, oK, oH⟩ := id hO
  refine am_goQ 5 (s1 := (70, [.ref 0, .int (nI 2)], [.int ((M 1 2))], M)) (s2 := (70, [.ref 0, .int (nI 2)], [.int (nI hr)], M)) rfl (by simp only [hHr]) ?_
  exact am_ends (nI hr) _ rfl (by rfl) (rfl)

set_option maxHeartbeats 4000000 in
theorem r_count_2 {M : am_Mem} {a f hr hs lt : Nat} {k h : Nat → Nat} (hS : sp_M M a f hr hs lt k h) (hO : sp_ok a f hr lt k h) (oD : ∀ p q, p < 2 * a → q < 2 * a → h p = h q → p = q) {n rn : Nat} {rf : Nat → Int32} (hL : M 17 12 = nI n) (hRn : M 17 24 = nI rn) (hf : ∀ q, q < 7 → M 18 q = rf q) : am_go 158 (am_ent 158 [.ref 17, .int (nI 2)] M) (am_is (nI hr) M) := by
  obtain ⟨hF, hA, hHr, hHs, hLt, hK, hH⟩ := id hS
  obtain ⟨oA, oF, oHr, oLt, oK, oH⟩ := id hO
  refine am_goR 3 (s2 := (5, [.ref 17, .int (nI 2)], [.int (nI 16), .int (nI 11), .int (nI 2)], M)) rfl ?_
  refine am_goX (v := am_b (sp_in 2 11 16)) (M2 := M) (s2 := (8, [.ref 17, .int (nI 2)], [], M)) rfl (t_isInG (x := 2) (lo := 11) (hi := 16) (by omega) (by omega) (by omega)) ?_
  refine am_bB0 (sp_in 2 11 16) (s1 := (21, [.ref 17, .int (nI 2)], [], M)) (s2 := (11, [.ref 17, .int (nI 2)], [], M)) rfl (fun c1 => ?_) (fun c1 => absurd c1 (by decide))
  refine am_goQ 4 (s1 := (81, [.ref 17, .int (nI 2)], [.int ((M 17 5))], M)) (s2 := (81, [.ref 17, .int (nI 2)], [.int (nI hr)], M)) rfl (by simp only [hHr]) ?_
  exact am_ends (nI hr) _ rfl (by rfl) (rfl)

set_option maxHeartbeats 4000000 in
theorem c_count_3 {M : am_Mem} {a f hr hs lt : Nat} {k h : Nat → Nat} (hS : sp_S 1 M a f hr hs lt k h) (hO : sp_ok a f hr lt k h) {n rn : Nat} {rf : Nat → Int32} (hL : M 13 1 = nI n) (hRn : M 0 7 = nI rn) (hf : ∀ q, q < 7 → M 16 q = rf q) : am_go 83 (am_ent 83 [.ref 0, .int (nI 3)] M) (am_is (nI hs) M) := by
  obtain ⟨hF, hA, hHr, hHs, hLt, hK, hH⟩ := id hS
  obtain ⟨oA, oF, oHr, oLt, oK, oH⟩ := id hO
  refine am_goQ 5 (s1 := (78, [.ref 0, .int (nI 3)], [.int ((M 1 3))], M)) (s2 := (78, [.ref 0, .int (nI 3)], [.int (nI hs)], M)) rfl (by simp only [hHs]) ?_
  exact am_ends (nI hs) _ rfl (by rfl) (rfl)

set_option maxHeartbeats 4000000 in
theorem r_count_3 {M : am_Mem} {a f hr hs lt : Nat} {k h : Nat → Nat} (hS : sp_M M a f hr hs lt k h) (hO : sp_ok a f hr lt k h) (oD : ∀ p q, p < 2 * a → q < 2 * a → h p = h q → p = q) {n rn : Nat} {rf : Nat → Int32} (hL : M 17 12 = nI n) (hRn : M 17 24 = nI rn) (hf : ∀ q, q < 7 → M 18 q = rf q) : am_go 158 (am_ent 158 [.ref 17, .int (nI 3)] M) (am_is (nI hs) M) := by
  obtain ⟨hF, hA, hHr, hHs, hLt, hK, hH⟩ := id hS
  obtain ⟨oA, oF, oHr, oLt, oK, oH⟩ := id hO
  refine am_goR 3 (s2 := (5, [.ref 17, .int (nI 3)], [.int (nI 16), .int (nI 11), .int (nI 3)], M)) rfl ?_
  refine am_goX (v := am_b (sp_in 3 11 16)) (M2 := M) (s2 := (8, [.ref 17, .int (nI 3)], [], M)) rfl (t_isInG (x := 3) (lo := 11) (hi := 16) (by omega) (by omega) (by omega)) ?_
  refine am_bB0 (sp_in 3 11 16) (s1 := (21, [.ref 17, .int (nI 3)], [], M)) (s2 := (11, [.ref 17, .int (nI 3)], [], M)) rfl (fun c1 => ?_) (fun c1 => absurd c1 (by decide))
  refine am_goQ 4 (s1 := (86, [.ref 17, .int (nI 3)], [.int ((M 17 6))], M)) (s2 := (86, [.ref 17, .int (nI 3)], [.int (nI hs)], M)) rfl (by simp only [hHs]) ?_
  exact am_ends (nI hs) _ rfl (by rfl) (rfl)

set_option maxHeartbeats 4000000 in
theorem c_count_4 {M : am_Mem} {a f hr hs lt : Nat} {k h : Nat → Nat} (hS : sp_S 1 M a f hr hs lt k h) (hO : sp_ok a f hr lt k h) {n rn : Nat} {rf : Nat → Int32} (hL : M 13 1 = nI n) (hRn : M 0 7 = nI rn) (hf : ∀ q, q < 7 → M 16 q = rf q) : am_go 83 (am_ent 83 [.ref 0, .int (nI 4)] M) (am_is (nI (sp_pc2 lt 31)) M) := by
  obtain ⟨hF, hA, hHr, hHs, hLt, hK, hH⟩ := id hS
  obtain ⟨oA, oF, oHr, oLt, oK, oH⟩ := id hO
  refine am_goQ 5 (s1 := (86, [.ref 0, .int (nI 4)], [.int ((M 1 4))], M)) (s2 := (86, [.ref 0, .int (nI 4)], [.int (nI lt)], M)) rfl (by simp only [hLt]) ?_
  refine am_goX (v := nI (sp_pc2 lt 31)) (M2 := M) (s2 := (89, [.ref 0, .int (nI 4)], [], M)) rfl (s_bitCount (x := lt) (by omega)) ?_
  exact am_ends (nI (sp_pc2 lt 31)) _ rfl (by rfl) (rfl)

set_option maxHeartbeats 4000000 in
theorem r_count_4 {M : am_Mem} {a f hr hs lt : Nat} {k h : Nat → Nat} (hS : sp_M M a f hr hs lt k h) (hO : sp_ok a f hr lt k h) (oD : ∀ p q, p < 2 * a → q < 2 * a → h p = h q → p = q) {n rn : Nat} {rf : Nat → Int32} (hL : M 17 12 = nI n) (hRn : M 17 24 = nI rn) (hf : ∀ q, q < 7 → M 18 q = rf q) : am_go 158 (am_ent 158 [.ref 17, .int (nI 4)] M) (am_is (nI (sp_pc2 lt 31)) M) := by
  obtain ⟨hF, hA, hHr, hHs, hLt, hK, hH⟩ := id hS
  obtain ⟨oA, oF, oHr, oLt, oK, oH⟩ := id hO
  refine am_goR 3 (s2 := (5, [.ref 17, .int (nI 4)], [.int (nI 16), .int (nI 11), .int (nI 4)], M)) rfl ?_
  refine am_goX (v := am_b (sp_in 4 11 16)) (M2 := M) (s2 := (8, [.ref 17, .int (nI 4)], [], M)) rfl (t_isInG (x := 4) (lo := 11) (hi := 16) (by omega) (by omega) (by omega)) ?_
  refine am_bB0 (sp_in 4 11 16) (s1 := (21, [.ref 17, .int (nI 4)], [], M)) (s2 := (11, [.ref 17, .int (nI 4)], [], M)) rfl (fun c1 => ?_) (fun c1 => absurd c1 (by decide))
  refine am_goQ 4 (s1 := (91, [.ref 17, .int (nI 4)], [.int ((M 17 7))], M)) (s2 := (91, [.ref 17, .int (nI 4)], [.int (nI lt)], M)) rfl (by simp only [hLt]) ?_
  refine am_goX (v := nI (sp_pc2 lt 31)) (M2 := M) (s2 := (94, [.ref 17, .int (nI 4)], [], M)) rfl (t_bits (x := lt) (by omega)) ?_
  exact am_ends (nI (sp_pc2 lt 31)) _ rfl (by rfl) (rfl)

set_option maxHeartbeats 4000000 in
theorem c_count_5 {M : am_Mem} {a f hr hs lt : Nat} {k h : Nat → Nat} (hS : sp_S 1 M a f hr hs lt k h) (hO : sp_ok a f hr lt k h) {n rn : Nat} {rf : Nat → Int32} (hL : M 13 1 = nI n) (hRn : M 0 7 = nI rn) (hf : ∀ q, q < 7 → M 16 q = rf q) : am_go 83 (am_ent 83 [.ref 0, .int (nI 5)] M) (am_is (nI rn) M) := by
  obtain ⟨hF, hA, hHr, hHs, hLt, hK, hH⟩ := id hS
  obtain ⟨oA, oF, oHr, oLt, oK, oH⟩ := id hO
  refine am_goQ 4 (s1 := (94, [.ref 0, .int (nI 5)], [.int ((M 0 7))], M)) (s2 := (94, [.ref 0, .int (nI 5)], [.int (nI rn)], M)) rfl (by simp only [hRn]) ?_
  exact am_ends (nI rn) _ rfl (by rfl) (rfl)

set_option maxHeartbeats 4000000 in
theorem r_count_5 {M : am_Mem} {a f hr hs lt : Nat} {k h : Nat → Nat} (hS : sp_M M a f hr hs lt k h) (hO : sp_ok a f hr lt k h) (oD : ∀ p q, p < 2 * a → q < 2 * a → h p = h q → p = q) {n rn : Nat} {rf : Nat → Int32} (hL : M 17 12 = nI n) (hRn : M 17 24 = nI rn) (hf : ∀ q, q < 7 → M 18 q = rf q) : am_go 158 (am_ent 158 [.ref 17, .int (nI 5)] M) (am_is (nI rn) M) := by
  obtain ⟨hF, hA, hHr, hHs, hLt, hK, hH⟩ := id hS
  obtain ⟨oA, oF, oHr, oLt, oK, oH⟩ := id hO
  refine am_goR 3 (s2 := (5, [.ref 17, .int (nI 5)], [.int (nI 16), .int (nI 11), .int (nI 5)], M)) rfl ?_
  refine am_goX (v := am_b (sp_in 5 11 16)) (M2 := M) (s2 := (8, [.ref 17, .int (nI 5)], [], M)) rfl (t_isInG (x := 5) (lo := 11) (hi := 16) (by omega) (by omega) (by omega)) ?_
  refine am_bB0 (sp_in 5 11 16) (s1 := (21, [.ref 17, .int (nI 5)], [], M)) (s2 := (11, [.ref 17, .int (nI 5)], [], M)) rfl (fun c1 => ?_) (fun c1 => absurd c1 (by decide))
  refine am_goQ 4 (s1 := (99, [.ref 17, .int (nI 5)], [.int ((M 17 24))], M)) (s2 := (99, [.ref 17, .int (nI 5)], [.int (nI rn)], M)) rfl (by simp only [hRn]) ?_
  exact am_ends (nI rn) _ rfl (by rfl) (rfl)

set_option maxHeartbeats 4000000 in
theorem c_count_6 {M : am_Mem} {a f hr hs lt : Nat} {k h : Nat → Nat} (hS : sp_S 1 M a f hr hs lt k h) (hO : sp_ok a f hr lt k h) {n rn : Nat} {rf : Nat → Int32} (hL : M 13 1 = nI n) (hRn : M 0 7 = nI rn) (hf : ∀ q, q < 7 → M 16 q = rf q) : am_go 83 (am_ent 83 [.ref 0, .int (nI 6)] M) (am_is (nI n) M) := by
  obtain ⟨hF, hA, hHr, hHs, hLt, hK, hH⟩ := id hS
  obtain ⟨oA, oF, oHr, oLt, oK, oH⟩ := id hO
  refine am_goQ 5 (s1 := (102, [.ref 0, .int (nI 6)], [.int ((M 13 1))], M)) (s2 := (102, [.ref 0, .int (nI 6)], [.int (nI n)], M)) rfl (by simp only [hL]) ?_
  exact am_ends (nI n) _ rfl (by rfl) (rfl)

set_option maxHeartbeats 4000000 in
theorem r_count_6 {M : am_Mem} {a f hr hs lt : Nat} {k h : Nat → Nat} (hS : sp_M M a f hr hs lt k h) (hO : sp_ok a f hr lt k h) (oD : ∀ p q, p < 2 * a → q < 2 * a → h p = h q → p = q) {n rn : Nat} {rf : Nat → Int32} (hL : M 17 12 = nI n) (hRn : M 17 24 = nI rn) (hf : ∀ q, q < 7 → M 18 q = rf q) : am_go 158 (am_ent 158 [.ref 17, .int (nI 6)] M) (am_is (nI n) M) := by
  obtain ⟨hF, hA, hHr, hHs, hLt, hK, hH⟩ := id hS
  obtain ⟨oA, oF, oHr, oLt, oK, oH⟩ := id hO
  refine am_goR 3 (s2 := (5, [.ref 17, .int (nI 6)], [.int (nI 16), .int (nI 11), .int (nI 6)], M)) rfl ?_
  refine am_goX (v := am_b (sp_in 6 11 16)) (M2 := M) (s2 := (8, [.ref 17, .int (nI 6)], [], M)) rfl (t_isInG (x := 6) (lo := 11) (hi := 16) (by omega) (by omega) (by omega)) ?_
  refine am_bB0 (sp_in 6 11 16) (s1 := (21, [.ref 17, .int (nI 6)], [], M)) (s2 := (11, [.ref 17, .int (nI 6)], [], M)) rfl (fun c1 => ?_) (fun c1 => absurd c1 (by decide))
  refine am_goQ 4 (s1 := (104, [.ref 17, .int (nI 6)], [.int ((M 17 12))], M)) (s2 := (104, [.ref 17, .int (nI 6)], [.int (nI n)], M)) rfl (by simp only [hL]) ?_
  exact am_ends (nI n) _ rfl (by rfl) (rfl)

set_option maxHeartbeats 4000000 in
theorem c_count_7 {M : am_Mem} {a f hr hs lt : Nat} {k h : Nat → Nat} (hS : sp_S 1 M a f hr hs lt k h) (hO : sp_ok a f hr lt k h) {n rn : Nat} {rf : Nat → Int32} (hL : M 13 1 = nI n) (hRn : M 0 7 = nI rn) (hf : ∀ q, q < 7 → M 16 q = rf q) : am_go 83 (am_ent 83 [.ref 0, .int (nI 7)] M) (am_is (-nI 9) M) := by
  obtain ⟨hF, hA, hHr, hHs, hLt, hK, hH⟩ := id hS
  obtain ⟨oA, oF, oHr, oLt, oK, oH⟩ := id hO
  refine am_goR 6 (s2 := (108, [.ref 0, .int (nI 7)], [.int ((-nI 3)), .ref 0], M)) rfl ?_
  refine am_goX (v := (-nI 9)) (M2 := M) (s2 := (111, [.ref 0, .int (nI 7)], [], M)) rfl (s_refOf_m3) ?_
  exact am_ends ((-nI 9)) _ rfl (by rfl) (rfl)

set_option maxHeartbeats 4000000 in
theorem r_count_7 {M : am_Mem} {a f hr hs lt : Nat} {k h : Nat → Nat} (hS : sp_M M a f hr hs lt k h) (hO : sp_ok a f hr lt k h) (oD : ∀ p q, p < 2 * a → q < 2 * a → h p = h q → p = q) {n rn : Nat} {rf : Nat → Int32} (hL : M 17 12 = nI n) (hRn : M 17 24 = nI rn) (hf : ∀ q, q < 7 → M 18 q = rf q) : am_go 158 (am_ent 158 [.ref 17, .int (nI 7)] M) (am_is (-nI 9) M) := by
  obtain ⟨hF, hA, hHr, hHs, hLt, hK, hH⟩ := id hS
  obtain ⟨oA, oF, oHr, oLt, oK, oH⟩ := id hO
  refine am_goR 3 (s2 := (5, [.ref 17, .int (nI 7)], [.int (nI 16), .int (nI 11), .int (nI 7)], M)) rfl ?_
  refine am_goX (v := am_b (sp_in 7 11 16)) (M2 := M) (s2 := (8, [.ref 17, .int (nI 7)], [], M)) rfl (t_isInG (x := 7) (lo := 11) (hi := 16) (by omega) (by omega) (by omega)) ?_
  refine am_bB0 (sp_in 7 11 16) (s1 := (21, [.ref 17, .int (nI 7)], [], M)) (s2 := (11, [.ref 17, .int (nI 7)], [], M)) rfl (fun c1 => ?_) (fun c1 => absurd c1 (by decide))
  refine am_goR 3 (s2 := (107, [.ref 17, .int (nI 7)], [.int ((-nI 9))], M)) rfl ?_
  exact am_ends ((-nI 9)) _ rfl (by rfl) (rfl)

set_option maxHeartbeats 4000000 in
theorem c_count_8 {M : am_Mem} {a f hr hs lt : Nat} {k h : Nat → Nat} (hS : sp_S 1 M a f hr hs lt k h) (hO : sp_ok a f hr lt k h) {n rn : Nat} {rf : Nat → Int32} (hL : M 13 1 = nI n) (hRn : M 0 7 = nI rn) (hf : ∀ q, q < 7 → M 16 q = rf q) : am_go 83 (am_ent 83 [.ref 0, .int (nI 8)] M) (am_is (-nI 9) M) := by
  obtain ⟨hF, hA, hHr, hHs, hLt, hK, hH⟩ := id hS
  obtain ⟨oA, oF, oHr, oLt, oK, oH⟩ := id hO
  refine am_goR 6 (s2 := (108, [.ref 0, .int (nI 8)], [.int ((-nI 2)), .ref 0], M)) rfl ?_
  refine am_goX (v := (-nI 9)) (M2 := M) (s2 := (111, [.ref 0, .int (nI 8)], [], M)) rfl (s_refOf_m2) ?_
  exact am_ends ((-nI 9)) _ rfl (by rfl) (rfl)

set_option maxHeartbeats 4000000 in
theorem r_count_8 {M : am_Mem} {a f hr hs lt : Nat} {k h : Nat → Nat} (hS : sp_M M a f hr hs lt k h) (hO : sp_ok a f hr lt k h) (oD : ∀ p q, p < 2 * a → q < 2 * a → h p = h q → p = q) {n rn : Nat} {rf : Nat → Int32} (hL : M 17 12 = nI n) (hRn : M 17 24 = nI rn) (hf : ∀ q, q < 7 → M 18 q = rf q) : am_go 158 (am_ent 158 [.ref 17, .int (nI 8)] M) (am_is (-nI 9) M) := by
  obtain ⟨hF, hA, hHr, hHs, hLt, hK, hH⟩ := id hS
  obtain ⟨oA, oF, oHr, oLt, oK, oH⟩ := id hO
  refine am_goR 3 (s2 := (5, [.ref 17, .int (nI 8)], [.int (nI 16), .int (nI 11), .int (nI 8)], M)) rfl ?_
  refine am_goX (v := am_b (sp_in 8 11 16)) (M2 := M) (s2 := (8, [.ref 17, .int (nI 8)], [], M)) rfl (t_isInG (x := 8) (lo := 11) (hi := 16) (by omega) (by omega) (by omega)) ?_
  refine am_bB0 (sp_in 8 11 16) (s1 := (21, [.ref 17, .int (nI 8)], [], M)) (s2 := (11, [.ref 17, .int (nI 8)], [], M)) rfl (fun c1 => ?_) (fun c1 => absurd c1 (by decide))
  refine am_goR 3 (s2 := (107, [.ref 17, .int (nI 8)], [.int ((-nI 9))], M)) rfl ?_
  exact am_ends ((-nI 9)) _ rfl (by rfl) (rfl)

set_option maxHeartbeats 4000000 in
theorem c_count_9 {M : am_Mem} {a f hr hs lt : Nat} {k h : Nat → Nat} (hS : sp_S 1 M a f hr hs lt k h) (hO : sp_ok a f hr lt k h) {n rn : Nat} {rf : Nat → Int32} (hL : M 13 1 = nI n) (hRn : M 0 7 = nI rn) (hf : ∀ q, q < 7 → M 16 q = rf q) : am_go 83 (am_ent 83 [.ref 0, .int (nI 9)] M) (am_is (-nI 9) M) := by
  obtain ⟨hF, hA, hHr, hHs, hLt, hK, hH⟩ := id hS
  obtain ⟨oA, oF, oHr, oLt, oK, oH⟩ := id hO
  refine am_goR 6 (s2 := (108, [.ref 0, .int (nI 9)], [.int ((-nI 1)), .ref 0], M)) rfl ?_
  refine am_goX (v := (-nI 9)) (M2 := M) (s2 := (111, [.ref 0, .int (nI 9)], [], M)) rfl (s_refOf_m1) ?_
  exact am_ends ((-nI 9)) _ rfl (by rfl) (rfl)

set_option maxHeartbeats 4000000 in
theorem r_count_9 {M : am_Mem} {a f hr hs lt : Nat} {k h : Nat → Nat} (hS : sp_M M a f hr hs lt k h) (hO : sp_ok a f hr lt k h) (oD : ∀ p q, p < 2 * a → q < 2 * a → h p = h q → p = q) {n rn : Nat} {rf : Nat → Int32} (hL : M 17 12 = nI n) (hRn : M 17 24 = nI rn) (hf : ∀ q, q < 7 → M 18 q = rf q) : am_go 158 (am_ent 158 [.ref 17, .int (nI 9)] M) (am_is (-nI 9) M) := by
  obtain ⟨hF, hA, hHr, hHs, hLt, hK, hH⟩ := id hS
  obtain ⟨oA, oF, oHr, oLt, oK, oH⟩ := id hO
  refine am_goR 3 (s2 := (5, [.ref 17, .int (nI 9)], [.int (nI 16), .int (nI 11), .int (nI 9)], M)) rfl ?_
  refine am_goX (v := am_b (sp_in 9 11 16)) (M2 := M) (s2 := (8, [.ref 17, .int (nI 9)], [], M)) rfl (t_isInG (x := 9) (lo := 11) (hi := 16) (by omega) (by omega) (by omega)) ?_
  refine am_bB0 (sp_in 9 11 16) (s1 := (21, [.ref 17, .int (nI 9)], [], M)) (s2 := (11, [.ref 17, .int (nI 9)], [], M)) rfl (fun c1 => ?_) (fun c1 => absurd c1 (by decide))
  refine am_goR 3 (s2 := (107, [.ref 17, .int (nI 9)], [.int ((-nI 9))], M)) rfl ?_
  exact am_ends ((-nI 9)) _ rfl (by rfl) (rfl)

set_option maxHeartbeats 4000000 in
theorem c_count_10 {M : am_Mem} {a f hr hs lt : Nat} {k h : Nat → Nat} (hS : sp_S 1 M a f hr hs lt k h) (hO : sp_ok a f hr lt k h) {n rn : Nat} {rf : Nat → Int32} (hL : M 13 1 = nI n) (hRn : M 0 7 = nI rn) (hf : ∀ q, q < 7 → M 16 q = rf q) : am_go 83 (am_ent 83 [.ref 0, .int (nI 10)] M) (am_is (-nI 9) M) := by
  obtain ⟨hF, hA, hHr, hHs, hLt, hK, hH⟩ := id hS
  obtain ⟨oA, oF, oHr, oLt, oK, oH⟩ := id hO
  refine am_goR 6 (s2 := (108, [.ref 0, .int (nI 10)], [.int (nI 0), .ref 0], M)) rfl ?_
  refine am_goX (v := (-nI 9)) (M2 := M) (s2 := (111, [.ref 0, .int (nI 10)], [], M)) rfl (s_refOf_m0) ?_
  exact am_ends ((-nI 9)) _ rfl (by rfl) (rfl)

set_option maxHeartbeats 4000000 in
theorem r_count_10 {M : am_Mem} {a f hr hs lt : Nat} {k h : Nat → Nat} (hS : sp_M M a f hr hs lt k h) (hO : sp_ok a f hr lt k h) (oD : ∀ p q, p < 2 * a → q < 2 * a → h p = h q → p = q) {n rn : Nat} {rf : Nat → Int32} (hL : M 17 12 = nI n) (hRn : M 17 24 = nI rn) (hf : ∀ q, q < 7 → M 18 q = rf q) : am_go 158 (am_ent 158 [.ref 17, .int (nI 10)] M) (am_is (-nI 9) M) := by
  obtain ⟨hF, hA, hHr, hHs, hLt, hK, hH⟩ := id hS
  obtain ⟨oA, oF, oHr, oLt, oK, oH⟩ := id hO
  refine am_goR 3 (s2 := (5, [.ref 17, .int (nI 10)], [.int (nI 16), .int (nI 11), .int (nI 10)], M)) rfl ?_
  refine am_goX (v := am_b (sp_in 10 11 16)) (M2 := M) (s2 := (8, [.ref 17, .int (nI 10)], [], M)) rfl (t_isInG (x := 10) (lo := 11) (hi := 16) (by omega) (by omega) (by omega)) ?_
  refine am_bB0 (sp_in 10 11 16) (s1 := (21, [.ref 17, .int (nI 10)], [], M)) (s2 := (11, [.ref 17, .int (nI 10)], [], M)) rfl (fun c1 => ?_) (fun c1 => absurd c1 (by decide))
  refine am_goR 3 (s2 := (107, [.ref 17, .int (nI 10)], [.int ((-nI 9))], M)) rfl ?_
  exact am_ends ((-nI 9)) _ rfl (by rfl) (rfl)

set_option maxHeartbeats 4000000 in
theorem c_count_11 {M : am_Mem} {a f hr hs lt : Nat} {k h : Nat → Nat} (hS : sp_S 1 M a f hr hs lt k h) (hO : sp_ok a f hr lt k h) {n rn : Nat} {rf : Nat → Int32} (hL : M 13 1 = nI n) (hRn : M 0 7 = nI rn) (hf : ∀ q, q < 7 → M 16 q = rf q) : am_go 83 (am_ent 83 [.ref 0, .int (nI 11)] M) (am_is (rf 1) M) := by
  obtain ⟨hF, hA, hHr, hHs, hLt, hK, hH⟩ := id hS
  obtain ⟨oA, oF, oHr, oLt, oK, oH⟩ := id hO
  refine am_goR 6 (s2 := (108, [.ref 0, .int (nI 11)], [.int (nI 1), .ref 0], M)) rfl ?_
  refine am_goX (v := (M 16 1)) (M2 := M) (s2 := (111, [.ref 0, .int (nI 11)], [], M)) rfl (s_refOf_1) ?_
  exact am_ends ((M 16 1)) _ rfl (by exact hf 1 (by decide)) (rfl)

set_option maxHeartbeats 4000000 in
theorem r_count_11 {M : am_Mem} {a f hr hs lt : Nat} {k h : Nat → Nat} (hS : sp_M M a f hr hs lt k h) (hO : sp_ok a f hr lt k h) (oD : ∀ p q, p < 2 * a → q < 2 * a → h p = h q → p = q) {n rn : Nat} {rf : Nat → Int32} (hL : M 17 12 = nI n) (hRn : M 17 24 = nI rn) (hf : ∀ q, q < 7 → M 18 q = rf q) : am_go 158 (am_ent 158 [.ref 17, .int (nI 11)] M) (am_is (rf 1) M) := by
  obtain ⟨hF, hA, hHr, hHs, hLt, hK, hH⟩ := id hS
  obtain ⟨oA, oF, oHr, oLt, oK, oH⟩ := id hO
  refine am_goR 3 (s2 := (5, [.ref 17, .int (nI 11)], [.int (nI 16), .int (nI 11), .int (nI 11)], M)) rfl ?_
  refine am_goX (v := am_b (sp_in 11 11 16)) (M2 := M) (s2 := (8, [.ref 17, .int (nI 11)], [], M)) rfl (t_isInG (x := 11) (lo := 11) (hi := 16) (by omega) (by omega) (by omega)) ?_
  refine am_bB0 (sp_in 11 11 16) (s1 := (21, [.ref 17, .int (nI 11)], [], M)) (s2 := (11, [.ref 17, .int (nI 11)], [], M)) rfl (fun c1 => absurd c1 (by decide)) (fun c1 => ?_)
  refine am_goR 5 (s2 := (19, [.ref 17, .int (nI 11)], [.int (nI 1), .ref 18], M)) rfl ?_
  refine am_goL2 (pc := 20) (ls := [.ref 17, .int (nI 11)]) (r := []) (M := M) (a := 18) (n := 7) (1) ((M 18 1)) rfl rfl (by omega) (by decide) (rfl) ?_
  exact am_ends ((M 18 1)) _ rfl (by exact hf 1 (by decide)) (rfl)

set_option maxHeartbeats 4000000 in
theorem c_count_12 {M : am_Mem} {a f hr hs lt : Nat} {k h : Nat → Nat} (hS : sp_S 1 M a f hr hs lt k h) (hO : sp_ok a f hr lt k h) {n rn : Nat} {rf : Nat → Int32} (hL : M 13 1 = nI n) (hRn : M 0 7 = nI rn) (hf : ∀ q, q < 7 → M 16 q = rf q) : am_go 83 (am_ent 83 [.ref 0, .int (nI 12)] M) (am_is (rf 2) M) := by
  obtain ⟨hF, hA, hHr, hHs, hLt, hK, hH⟩ := id hS
  obtain ⟨oA, oF, oHr, oLt, oK, oH⟩ := id hO
  refine am_goR 6 (s2 := (108, [.ref 0, .int (nI 12)], [.int (nI 2), .ref 0], M)) rfl ?_
  refine am_goX (v := (M 16 2)) (M2 := M) (s2 := (111, [.ref 0, .int (nI 12)], [], M)) rfl (s_refOf_2) ?_
  exact am_ends ((M 16 2)) _ rfl (by exact hf 2 (by decide)) (rfl)

set_option maxHeartbeats 4000000 in
theorem r_count_12 {M : am_Mem} {a f hr hs lt : Nat} {k h : Nat → Nat} (hS : sp_M M a f hr hs lt k h) (hO : sp_ok a f hr lt k h) (oD : ∀ p q, p < 2 * a → q < 2 * a → h p = h q → p = q) {n rn : Nat} {rf : Nat → Int32} (hL : M 17 12 = nI n) (hRn : M 17 24 = nI rn) (hf : ∀ q, q < 7 → M 18 q = rf q) : am_go 158 (am_ent 158 [.ref 17, .int (nI 12)] M) (am_is (rf 2) M) := by
  obtain ⟨hF, hA, hHr, hHs, hLt, hK, hH⟩ := id hS
  obtain ⟨oA, oF, oHr, oLt, oK, oH⟩ := id hO
  refine am_goR 3 (s2 := (5, [.ref 17, .int (nI 12)], [.int (nI 16), .int (nI 11), .int (nI 12)], M)) rfl ?_
  refine am_goX (v := am_b (sp_in 12 11 16)) (M2 := M) (s2 := (8, [.ref 17, .int (nI 12)], [], M)) rfl (t_isInG (x := 12) (lo := 11) (hi := 16) (by omega) (by omega) (by omega)) ?_
  refine am_bB0 (sp_in 12 11 16) (s1 := (21, [.ref 17, .int (nI 12)], [], M)) (s2 := (11, [.ref 17, .int (nI 12)], [], M)) rfl (fun c1 => absurd c1 (by decide)) (fun c1 => ?_)
  refine am_goR 5 (s2 := (19, [.ref 17, .int (nI 12)], [.int (nI 2), .ref 18], M)) rfl ?_
  refine am_goL2 (pc := 20) (ls := [.ref 17, .int (nI 12)]) (r := []) (M := M) (a := 18) (n := 7) (2) ((M 18 2)) rfl rfl (by omega) (by decide) (rfl) ?_
  exact am_ends ((M 18 2)) _ rfl (by exact hf 2 (by decide)) (rfl)

set_option maxHeartbeats 4000000 in
theorem c_count_13 {M : am_Mem} {a f hr hs lt : Nat} {k h : Nat → Nat} (hS : sp_S 1 M a f hr hs lt k h) (hO : sp_ok a f hr lt k h) {n rn : Nat} {rf : Nat → Int32} (hL : M 13 1 = nI n) (hRn : M 0 7 = nI rn) (hf : ∀ q, q < 7 → M 16 q = rf q) : am_go 83 (am_ent 83 [.ref 0, .int (nI 13)] M) (am_is (rf 3) M) := by
  obtain ⟨hF, hA, hHr, hHs, hLt, hK, hH⟩ := id hS
  obtain ⟨oA, oF, oHr, oLt, oK, oH⟩ := id hO
  refine am_goR 6 (s2 := (108, [.ref 0, .int (nI 13)], [.int (nI 3), .ref 0], M)) rfl ?_
  refine am_goX (v := (M 16 3)) (M2 := M) (s2 := (111, [.ref 0, .int (nI 13)], [], M)) rfl (s_refOf_3) ?_
  exact am_ends ((M 16 3)) _ rfl (by exact hf 3 (by decide)) (rfl)

set_option maxHeartbeats 4000000 in
theorem r_count_13 {M : am_Mem} {a f hr hs lt : Nat} {k h : Nat → Nat} (hS : sp_M M a f hr hs lt k h) (hO : sp_ok a f hr lt k h) (oD : ∀ p q, p < 2 * a → q < 2 * a → h p = h q → p = q) {n rn : Nat} {rf : Nat → Int32} (hL : M 17 12 = nI n) (hRn : M 17 24 = nI rn) (hf : ∀ q, q < 7 → M 18 q = rf q) : am_go 158 (am_ent 158 [.ref 17, .int (nI 13)] M) (am_is (rf 3) M) := by
  obtain ⟨hF, hA, hHr, hHs, hLt, hK, hH⟩ := id hS
  obtain ⟨oA, oF, oHr, oLt, oK, oH⟩ := id hO
  refine am_goR 3 (s2 := (5, [.ref 17, .int (nI 13)], [.int (nI 16), .int (nI 11), .int (nI 13)], M)) rfl ?_
  refine am_goX (v := am_b (sp_in 13 11 16)) (M2 := M) (s2 := (8, [.ref 17, .int (nI 13)], [], M)) rfl (t_isInG (x := 13) (lo := 11) (hi := 16) (by omega) (by omega) (by omega)) ?_
  refine am_bB0 (sp_in 13 11 16) (s1 := (21, [.ref 17, .int (nI 13)], [], M)) (s2 := (11, [.ref 17, .int (nI 13)], [], M)) rfl (fun c1 => absurd c1 (by decide)) (fun c1 => ?_)
  refine am_goR 5 (s2 := (19, [.ref 17, .int (nI 13)], [.int (nI 3), .ref 18], M)) rfl ?_
  refine am_goL2 (pc := 20) (ls := [.ref 17, .int (nI 13)]) (r := []) (M := M) (a := 18) (n := 7) (3) ((M 18 3)) rfl rfl (by omega) (by decide) (rfl) ?_
  exact am_ends ((M 18 3)) _ rfl (by exact hf 3 (by decide)) (rfl)

set_option maxHeartbeats 4000000 in
theorem c_count_14 {M : am_Mem} {a f hr hs lt : Nat} {k h : Nat → Nat} (hS : sp_S 1 M a f hr hs lt k h) (hO : sp_ok a f hr lt k h) {n rn : Nat} {rf : Nat → Int32} (hL : M 13 1 = nI n) (hRn : M 0 7 = nI rn) (hf : ∀ q, q < 7 → M 16 q = rf q) : am_go 83 (am_ent 83 [.ref 0, .int (nI 14)] M) (am_is (rf 4) M) := by
  obtain ⟨hF, hA, hHr, hHs, hLt, hK, hH⟩ := id hS
  obtain ⟨oA, oF, oHr, oLt, oK, oH⟩ := id hO
  refine am_goR 6 (s2 := (108, [.ref 0, .int (nI 14)], [.int (nI 4), .ref 0], M)) rfl ?_
  refine am_goX (v := (M 16 4)) (M2 := M) (s2 := (111, [.ref 0, .int (nI 14)], [], M)) rfl (s_refOf_4) ?_
  exact am_ends ((M 16 4)) _ rfl (by exact hf 4 (by decide)) (rfl)

set_option maxHeartbeats 4000000 in
theorem r_count_14 {M : am_Mem} {a f hr hs lt : Nat} {k h : Nat → Nat} (hS : sp_M M a f hr hs lt k h) (hO : sp_ok a f hr lt k h) (oD : ∀ p q, p < 2 * a → q < 2 * a → h p = h q → p = q) {n rn : Nat} {rf : Nat → Int32} (hL : M 17 12 = nI n) (hRn : M 17 24 = nI rn) (hf : ∀ q, q < 7 → M 18 q = rf q) : am_go 158 (am_ent 158 [.ref 17, .int (nI 14)] M) (am_is (rf 4) M) := by
  obtain ⟨hF, hA, hHr, hHs, hLt, hK, hH⟩ := id hS
  obtain ⟨oA, oF, oHr, oLt, oK, oH⟩ := id hO
  refine am_goR 3 (s2 := (5, [.ref 17, .int (nI 14)], [.int (nI 16), .int (nI 11), .int (nI 14)], M)) rfl ?_
  refine am_goX (v := am_b (sp_in 14 11 16)) (M2 := M) (s2 := (8, [.ref 17, .int (nI 14)], [], M)) rfl (t_isInG (x := 14) (lo := 11) (hi := 16) (by omega) (by omega) (by omega)) ?_
  refine am_bB0 (sp_in 14 11 16) (s1 := (21, [.ref 17, .int (nI 14)], [], M)) (s2 := (11, [.ref 17, .int (nI 14)], [], M)) rfl (fun c1 => absurd c1 (by decide)) (fun c1 => ?_)
  refine am_goR 5 (s2 := (19, [.ref 17, .int (nI 14)], [.int (nI 4), .ref 18], M)) rfl ?_
  refine am_goL2 (pc := 20) (ls := [.ref 17, .int (nI 14)]) (r := []) (M := M) (a := 18) (n := 7) (4) ((M 18 4)) rfl rfl (by omega) (by decide) (rfl) ?_
  exact am_ends ((M 18 4)) _ rfl (by exact hf 4 (by decide)) (rfl)

set_option maxHeartbeats 4000000 in
theorem c_count_15 {M : am_Mem} {a f hr hs lt : Nat} {k h : Nat → Nat} (hS : sp_S 1 M a f hr hs lt k h) (hO : sp_ok a f hr lt k h) {n rn : Nat} {rf : Nat → Int32} (hL : M 13 1 = nI n) (hRn : M 0 7 = nI rn) (hf : ∀ q, q < 7 → M 16 q = rf q) : am_go 83 (am_ent 83 [.ref 0, .int (nI 15)] M) (am_is (rf 5) M) := by
  obtain ⟨hF, hA, hHr, hHs, hLt, hK, hH⟩ := id hS
  obtain ⟨oA, oF, oHr, oLt, oK, oH⟩ := id hO
  refine am_goR 6 (s2 := (108, [.ref 0, .int (nI 15)], [.int (nI 5), .ref 0], M)) rfl ?_
  refine am_goX (v := (M 16 5)) (M2 := M) (s2 := (111, [.ref 0, .int (nI 15)], [], M)) rfl (s_refOf_5) ?_
  exact am_ends ((M 16 5)) _ rfl (by exact hf 5 (by decide)) (rfl)

set_option maxHeartbeats 4000000 in
theorem r_count_15 {M : am_Mem} {a f hr hs lt : Nat} {k h : Nat → Nat} (hS : sp_M M a f hr hs lt k h) (hO : sp_ok a f hr lt k h) (oD : ∀ p q, p < 2 * a → q < 2 * a → h p = h q → p = q) {n rn : Nat} {rf : Nat → Int32} (hL : M 17 12 = nI n) (hRn : M 17 24 = nI rn) (hf : ∀ q, q < 7 → M 18 q = rf q) : am_go 158 (am_ent 158 [.ref 17, .int (nI 15)] M) (am_is (rf 5) M) := by
  obtain ⟨hF, hA, hHr, hHs, hLt, hK, hH⟩ := id hS
  obtain ⟨oA, oF, oHr, oLt, oK, oH⟩ := id hO
  refine am_goR 3 (s2 := (5, [.ref 17, .int (nI 15)], [.int (nI 16), .int (nI 11), .int (nI 15)], M)) rfl ?_
  refine am_goX (v := am_b (sp_in 15 11 16)) (M2 := M) (s2 := (8, [.ref 17, .int (nI 15)], [], M)) rfl (t_isInG (x := 15) (lo := 11) (hi := 16) (by omega) (by omega) (by omega)) ?_
  refine am_bB0 (sp_in 15 11 16) (s1 := (21, [.ref 17, .int (nI 15)], [], M)) (s2 := (11, [.ref 17, .int (nI 15)], [], M)) rfl (fun c1 => absurd c1 (by decide)) (fun c1 => ?_)
  refine am_goR 5 (s2 := (19, [.ref 17, .int (nI 15)], [.int (nI 5), .ref 18], M)) rfl ?_
  refine am_goL2 (pc := 20) (ls := [.ref 17, .int (nI 15)]) (r := []) (M := M) (a := 18) (n := 7) (5) ((M 18 5)) rfl rfl (by omega) (by decide) (rfl) ?_
  exact am_ends ((M 18 5)) _ rfl (by exact hf 5 (by decide)) (rfl)

set_option maxHeartbeats 4000000 in
theorem c_count_16 {M : am_Mem} {a f hr hs lt : Nat} {k h : Nat → Nat} (hS : sp_S 1 M a f hr hs lt k h) (hO : sp_ok a f hr lt k h) {n rn : Nat} {rf : Nat → Int32} (hL : M 13 1 = nI n) (hRn : M 0 7 = nI rn) (hf : ∀ q, q < 7 → M 16 q = rf q) : am_go 83 (am_ent 83 [.ref 0, .int (nI 16)] M) (am_is (rf 6) M) := by
  obtain ⟨hF, hA, hHr, hHs, hLt, hK, hH⟩ := id hS
  obtain ⟨oA, oF, oHr, oLt, oK, oH⟩ := id hO
  refine am_goR 6 (s2 := (108, [.ref 0, .int (nI 16)], [.int (nI 6), .ref 0], M)) rfl ?_
  refine am_goX (v := (M 16 6)) (M2 := M) (s2 := (111, [.ref 0, .int (nI 16)], [], M)) rfl (s_refOf_6) ?_
  exact am_ends ((M 16 6)) _ rfl (by exact hf 6 (by decide)) (rfl)

set_option maxHeartbeats 4000000 in
theorem r_count_16 {M : am_Mem} {a f hr hs lt : Nat} {k h : Nat → Nat} (hS : sp_M M a f hr hs lt k h) (hO : sp_ok a f hr lt k h) (oD : ∀ p q, p < 2 * a → q < 2 * a → h p = h q → p = q) {n rn : Nat} {rf : Nat → Int32} (hL : M 17 12 = nI n) (hRn : M 17 24 = nI rn) (hf : ∀ q, q < 7 → M 18 q = rf q) : am_go 158 (am_ent 158 [.ref 17, .int (nI 16)] M) (am_is (rf 6) M) := by
  obtain ⟨hF, hA, hHr, hHs, hLt, hK, hH⟩ := id hS
  obtain ⟨oA, oF, oHr, oLt, oK, oH⟩ := id hO
  refine am_goR 3 (s2 := (5, [.ref 17, .int (nI 16)], [.int (nI 16), .int (nI 11), .int (nI 16)], M)) rfl ?_
  refine am_goX (v := am_b (sp_in 16 11 16)) (M2 := M) (s2 := (8, [.ref 17, .int (nI 16)], [], M)) rfl (t_isInG (x := 16) (lo := 11) (hi := 16) (by omega) (by omega) (by omega)) ?_
  refine am_bB0 (sp_in 16 11 16) (s1 := (21, [.ref 17, .int (nI 16)], [], M)) (s2 := (11, [.ref 17, .int (nI 16)], [], M)) rfl (fun c1 => absurd c1 (by decide)) (fun c1 => ?_)
  refine am_goR 5 (s2 := (19, [.ref 17, .int (nI 16)], [.int (nI 6), .ref 18], M)) rfl ?_
  refine am_goL2 (pc := 20) (ls := [.ref 17, .int (nI 16)]) (r := []) (M := M) (a := 18) (n := 7) (6) ((M 18 6)) rfl rfl (by omega) (by decide) (rfl) ?_
  exact am_ends ((M 18 6)) _ rfl (by exact hf 6 (by decide)) (rfl)

set_option maxHeartbeats 4000000 in
theorem c_count_lo {M : am_Mem} {a f hr hs lt : Nat} {k h : Nat → Nat} (hS : sp_S 1 M a f hr hs lt k h) (hO : sp_ok a f hr lt k h) {n rn : Nat} {rf : Nat → Int32} (hL : M 13 1 = nI n) (hRn : M 0 7 = nI rn) (hf : ∀ q, q < 7 → M 16 q = rf q) {x : Int32} (hy : x.toInt < 0 ∨ 6 < x.toInt) (h : x - nI 10 < nI 1) : am_go 83 (am_ent 83 [.ref 0, .int (x)] M) (am_is (-nI 9) M) := by
  obtain ⟨hF, hA, hHr, hHs, hLt, hK, hH⟩ := id hS
  obtain ⟨oA, oF, oHr, oLt, oK, oH⟩ := id hO
  refine am_goR 1 (s2 := (1, [.ref 0, .int (x)], [.int (x)], M)) rfl ?_
  refine am_goTS (pc := 1) (d := (102)) (lo := (0)) (hi := (6)) (offs := #[43, 51, 62, 70, 78, 89, 94]) (ls := [.ref 0, .int (x)]) (r := []) (M := M) (x := x) (102) 103 rfl (by unfold am_tso; rw [if_pos hy]) rfl ?_
  refine am_goR 4 (s2 := (108, [.ref 0, .int (x)], [.int ((x - nI 10)), .ref 0], M)) rfl ?_
  refine am_goX (v := (-nI 9)) (M2 := M) (s2 := (111, [.ref 0, .int (x)], [], M)) rfl (s_refOf_lo h) ?_
  exact am_ends ((-nI 9)) _ rfl (by rfl) (rfl)

set_option maxHeartbeats 4000000 in
theorem c_count_hi {M : am_Mem} {a f hr hs lt : Nat} {k h : Nat → Nat} (hS : sp_S 1 M a f hr hs lt k h) (hO : sp_ok a f hr lt k h) {n rn : Nat} {rf : Nat → Int32} (hL : M 13 1 = nI n) (hRn : M 0 7 = nI rn) (hf : ∀ q, q < 7 → M 16 q = rf q) {x : Int32} (hy : x.toInt < 0 ∨ 6 < x.toInt) (h : ¬ x - nI 10 < nI 1) (h2 : ¬ x - nI 10 < nI 7) : am_go 83 (am_ent 83 [.ref 0, .int (x)] M) (am_is (-nI 9) M) := by
  obtain ⟨hF, hA, hHr, hHs, hLt, hK, hH⟩ := id hS
  obtain ⟨oA, oF, oHr, oLt, oK, oH⟩ := id hO
  refine am_goR 1 (s2 := (1, [.ref 0, .int (x)], [.int (x)], M)) rfl ?_
  refine am_goTS (pc := 1) (d := (102)) (lo := (0)) (hi := (6)) (offs := #[43, 51, 62, 70, 78, 89, 94]) (ls := [.ref 0, .int (x)]) (r := []) (M := M) (x := x) (102) 103 rfl (by unfold am_tso; rw [if_pos hy]) rfl ?_
  refine am_goR 4 (s2 := (108, [.ref 0, .int (x)], [.int ((x - nI 10)), .ref 0], M)) rfl ?_
  refine am_goX (v := (-nI 9)) (M2 := M) (s2 := (111, [.ref 0, .int (x)], [], M)) rfl (s_refOf_hi h h2) ?_
  exact am_ends ((-nI 9)) _ rfl (by rfl) (rfl)

set_option maxHeartbeats 4000000 in
theorem r_count_d {M : am_Mem} {a f hr hs lt : Nat} {k h : Nat → Nat} (hS : sp_M M a f hr hs lt k h) (hO : sp_ok a f hr lt k h) (oD : ∀ p q, p < 2 * a → q < 2 * a → h p = h q → p = q) {n rn : Nat} {rf : Nat → Int32} (hL : M 17 12 = nI n) (hRn : M 17 24 = nI rn) (hf : ∀ q, q < 7 → M 18 q = rf q) {x : Int32} (hy : x.toInt < 0 ∨ 6 < x.toInt) (hi : ¬ (nI 11 ≤ x ∧ x ≤ nI 16)) : am_go 158 (am_ent 158 [.ref 17, .int (x)] M) (am_is (-nI 9) M) := by
  obtain ⟨hF, hA, hHr, hHs, hLt, hK, hH⟩ := id hS
  obtain ⟨oA, oF, oHr, oLt, oK, oH⟩ := id hO
  refine am_goR 3 (s2 := (5, [.ref 17, .int (x)], [.int (nI 16), .int (nI 11), .int (x)], M)) rfl ?_
  refine am_goX (v := nI 0) (M2 := M) (s2 := (8, [.ref 17, .int (x)], [], M)) rfl (t_isIn_F hi) ?_
  refine am_goR 2 (s2 := (22, [.ref 17, .int (x)], [.int (x)], M)) rfl ?_
  refine am_goTS (pc := 22) (d := (83)) (lo := (0)) (hi := (6)) (offs := #[42, 47, 55, 60, 65, 73, 78]) (ls := [.ref 17, .int (x)]) (r := []) (M := M) (x := x) (83) 105 rfl (by unfold am_tso; rw [if_pos hy]) rfl ?_
  refine am_goR 1 (s2 := (107, [.ref 17, .int (x)], [.int ((-nI 9))], M)) rfl ?_
  exact am_ends ((-nI 9)) _ rfl (by rfl) (rfl)

theorem pp_count {M : am_Mem} (hI : sp_Inv M) (x : Int32) : sp_PP 83 158 [.int x] M := by
  obtain ⟨⟨⟨a, f, hr, hs, lt, k, h⟩, t, w2, n, tx, rn, ro, rf⟩, hC, hR, hG⟩ := hI
  have hO := hG.1.1
  have oD := hG.1.2.2.1
  have oFx := hG.1.2.2.2
  have oA := hO.1
  have oHs := hG.1.2.1
  dsimp only at oD oFx oA oHs
  have hO : sp_ok a f hr lt k h := hO
  have hS1 : sp_S 1 M a f hr hs lt k h := hC.1
  have hM1 : ∀ N, sp_IR N ((a, f, hr, hs, lt, k, h), t, w2, n, tx, rn, ro, rf) → sp_M N a f hr hs lt k h := fun N hN => hN.1
  have hLc : M 13 1 = nI n := hC.2.2.2.1
  have hRc : M 0 7 = nI rn := hC.2.2.2.2.2.1
  have hLm : ∀ N, sp_IR N ((a, f, hr, hs, lt, k, h), t, w2, n, tx, rn, ro, rf) → N 17 12 = nI n := fun N hN => hN.2.2.2.1
  have hRm : ∀ N, sp_IR N ((a, f, hr, hs, lt, k, h), t, w2, n, tx, rn, ro, rf) → N 17 24 = nI rn := fun N hN => hN.2.2.2.2.2.1
  have hfc : ∀ q, q < 7 → M 16 q = rf q := hC.2.2.2.2.2.2.2
  have hfm : ∀ N, sp_IR N ((a, f, hr, hs, lt, k, h), t, w2, n, tx, rn, ro, rf) → ∀ q, q < 7 → N 18 q = rf q := fun N hN => hN.2.2.2.2.2.2.2
  by_cases hx : x.toInt < 0 ∨ 16 < x.toInt
  · have hy : x.toInt < 0 ∨ 6 < x.toInt := by omega
    have hi : ¬ (nI 11 ≤ x ∧ x ≤ nI 16) := fun z => by
      rw [Int32.le_iff_toInt_le, Int32.le_iff_toInt_le, nI_toInt (by omega), nI_toInt (by omega)] at z
      omega
    rcases am_s10 hx with h1 | ⟨h1, h2⟩
    · exact sp_PP0 hC hR hG (c_count_lo hS1 hO hLc hRc hfc hy h1) (fun N hN => r_count_d (hM1 N hN) hO oD (hLm N hN) (hRm N hN) (hfm N hN) hy hi)
    · exact sp_PP0 hC hR hG (c_count_hi hS1 hO hLc hRc hfc hy h1 h2) (fun N hN => r_count_d (hM1 N hN) hO oD (hLm N hN) (hRm N hN) (hfm N hN) hy hi)
  · obtain ⟨j, hj, rfl⟩ := am_sw_cs (n := 16) (by decide) hx
    rcases (show j = 0 ∨ j = 1 ∨ j = 2 ∨ j = 3 ∨ j = 4 ∨ j = 5 ∨ j = 6 ∨ j = 7 ∨ j = 8 ∨ j = 9 ∨ j = 10 ∨ j = 11 ∨ j = 12 ∨ j = 13 ∨ j = 14 ∨ j = 15 ∨ j = 16 by omega) with rfl | rfl | rfl | rfl | rfl | rfl | rfl | rfl | rfl | rfl | rfl | rfl | rfl | rfl | rfl | rfl | rfl
    · exact sp_PP0 hC hR hG (c_count_0 hS1 hO hLc hRc hfc) (fun N hN => r_count_0 (hM1 N hN) hO oD (hLm N hN) (hRm N hN) (hfm N hN))
    · exact sp_PP0 hC hR hG (c_count_1 hS1 hO hLc hRc hfc) (fun N hN => r_count_1 (hM1 N hN) hO oD (hLm N hN) (hRm N hN) (hfm N hN))
    · exact sp_PP0 hC hR hG (c_count_2 hS1 hO hLc hRc hfc) (fun N hN => r_count_2 (hM1 N hN) hO oD (hLm N hN) (hRm N hN) (hfm N hN))
    · exact sp_PP0 hC hR hG (c_count_3 hS1 hO hLc hRc hfc) (fun N hN => r_count_3 (hM1 N hN) hO oD (hLm N hN) (hRm N hN) (hfm N hN))
    · exact sp_PP0 hC hR hG (c_count_4 hS1 hO hLc hRc hfc) (fun N hN => r_count_4 (hM1 N hN) hO oD (hLm N hN) (hRm N hN) (hfm N hN))
    · exact sp_PP0 hC hR hG (c_count_5 hS1 hO hLc hRc hfc) (fun N hN => r_count_5 (hM1 N hN) hO oD (hLm N hN) (hRm N hN) (hfm N hN))
    · exact sp_PP0 hC hR hG (c_count_6 hS1 hO hLc hRc hfc) (fun N hN => r_count_6 (hM1 N hN) hO oD (hLm N hN) (hRm N hN) (hfm N hN))
    · exact sp_PP0 hC hR hG (c_count_7 hS1 hO hLc hRc hfc) (fun N hN => r_count_7 (hM1 N hN) hO oD (hLm N hN) (hRm N hN) (hfm N hN))
    · exact sp_PP0 hC hR hG (c_count_8 hS1 hO hLc hRc hfc) (fun N hN => r_count_8 (hM1 N hN) hO oD (hLm N hN) (hRm N hN) (hfm N hN))
    · exact sp_PP0 hC hR hG (c_count_9 hS1 hO hLc hRc hfc) (fun N hN => r_count_9 (hM1 N hN) hO oD (hLm N hN) (hRm N hN) (hfm N hN))
    · exact sp_PP0 hC hR hG (c_count_10 hS1 hO hLc hRc hfc) (fun N hN => r_count_10 (hM1 N hN) hO oD (hLm N hN) (hRm N hN) (hfm N hN))
    · exact sp_PP0 hC hR hG (c_count_11 hS1 hO hLc hRc hfc) (fun N hN => r_count_11 (hM1 N hN) hO oD (hLm N hN) (hRm N hN) (hfm N hN))
    · exact sp_PP0 hC hR hG (c_count_12 hS1 hO hLc hRc hfc) (fun N hN => r_count_12 (hM1 N hN) hO oD (hLm N hN) (hRm N hN) (hfm N hN))
    · exact sp_PP0 hC hR hG (c_count_13 hS1 hO hLc hRc hfc) (fun N hN => r_count_13 (hM1 N hN) hO oD (hLm N hN) (hRm N hN) (hfm N hN))
    · exact sp_PP0 hC hR hG (c_count_14 hS1 hO hLc hRc hfc) (fun N hN => r_count_14 (hM1 N hN) hO oD (hLm N hN) (hRm N hN) (hfm N hN))
    · exact sp_PP0 hC hR hG (c_count_15 hS1 hO hLc hRc hfc) (fun N hN => r_count_15 (hM1 N hN) hO oD (hLm N hN) (hRm N hN) (hfm N hN))
    · exact sp_PP0 hC hR hG (c_count_16 hS1 hO hLc hRc hfc) (fun N hN => r_count_16 (hM1 N hN) hO oD (hLm N hN) (hRm N hN) (hfm N hN))

def sp_lp (L : Nat) : Nat → Nat | 0 => L | p + 1 => sp_lp L p &&& (2 ^ p ^^^ 4294967295)
def sp_mk : Nat → Nat | 0 => 0 | p + 1 => sp_mk p ||| 2 ^ p
def sp_fP (L : Nat) : Nat → Nat → Nat | 0, p => p | c + 1, p => if L.testBit p = true then sp_fP L c (p + 1) else p
theorem sp_lp_lt {L : Nat} (hL : L < 4096) : ∀ p, sp_lp L p < 4096 := by
  intro p
  induction p with
  | zero => exact hL
  | succ p ih => exact Nat.lt_of_le_of_lt Nat.and_le_left ih
theorem sp_lp_bit {L : Nat} : ∀ p q, p ≤ q → q < 32 → (sp_lp L p).testBit q = L.testBit q := by
  intro p
  induction p with
  | zero => intro q _ _; rfl
  | succ p ih =>
    intro q h1 h2
    rw [sp_lp, Nat.testBit_and, ih q (by omega) h2, sp_m1_bit _ _ h2, Nat.testBit_two_pow, decide_eq_false (by omega)]
    simp
theorem sp_mk_lt : ∀ p, p ≤ 12 → sp_mk p < 4096 := by
  intro p
  induction p with
  | zero => intro _; decide
  | succ p ih => intro h; exact Nat.or_lt_two_pow (n := 12) (ih (by omega)) (Nat.pow_lt_pow_right (by decide) (by omega))
theorem sp_lp_mk {L : Nat} (hL : L < 4096) : ∀ p, sp_lp L p = L &&& (sp_mk p ^^^ 4294967295) := by
  intro p
  apply sp_eq_bit
  intro q
  by_cases hq : q < 32
  · rw [Nat.testBit_and, sp_m1_bit _ _ hq]
    induction p with
    | zero => show L.testBit q = (L.testBit q && !(Nat.testBit 0 q)); rw [Nat.zero_testBit]; simp
    | succ p ih =>
      rw [sp_lp, sp_mk, Nat.testBit_and, ih, sp_m1_bit _ _ hq, Nat.testBit_or]
      cases L.testBit q <;> cases (sp_mk p).testBit q <;> simp
  · have z : ∀ y, y < 4096 → y.testBit q = false := fun y hy => by
      cases e : y.testBit q with
      | false => rfl
      | true => have := sp_f_bit hy e; omega
    rw [z _ (sp_lp_lt hL p), Nat.testBit_and, z L hL]
    rfl
theorem sp_fP_le {L : Nat} : ∀ c p, p ≤ sp_fP L c p ∧ sp_fP L c p ≤ c + p := by
  intro c
  induction c with
  | zero => intro p; exact ⟨Nat.le_refl _, by show p ≤ 0 + p; omega⟩
  | succ c ih =>
    intro p
    rw [sp_fP]
    split
    · have := ih (p + 1); omega
    · omega

set_option maxHeartbeats 4000000 in
theorem c_falls_0 {M : am_Mem} {a f hr hs lt : Nat} {k h : Nat → Nat} (hS : sp_S 1 M a f hr hs lt k h) (hO : sp_ok a f hr lt k h) {x : Int32} (hx : am_in x 12 = false) : am_go 72 (am_ent 72 [.ref 0, .int (x)] M) (am_is (-nI 1) (am_set M 16 1 (M 16 1 + nI 1))) := by
  obtain ⟨hF, hA, hHr, hHs, hLt, hK, hH⟩ := id hS
  obtain ⟨oA, oF, oHr, oLt, oK, oH⟩ := id hO
  refine am_goR 1 (s2 := (1, [.ref 0, .int (x), .null, .null], [.int (x)], M)) rfl ?_
  refine am_goX (v := am_b (am_in x 12)) (M2 := M) (s2 := (4, [.ref 0, .int (x), .null, .null], [], M)) rfl (s_isJoint) ?_
  refine am_bB1 (am_in x 12) (s1 := (13, [.ref 0, .int (x), .null, .null], [], M)) (s2 := (7, [.ref 0, .int (x), .null, .null], [], M)) rfl (fun c1 => absurd c1 (by simp [*])) (fun c1 => ?_)
  refine am_goR 2 (s2 := (9, [.ref 0, .int (x), .null, .null], [.int ((-nI 1)), .ref 0], M)) rfl ?_
  refine am_goX (v := (-nI 1)) (M2 := (am_set M 16 1 (M 16 1 + nI 1))) (s2 := (12, [.ref 0, .int (x), .null, .null], [], M)) rfl (s_refuse_1) ?_
  exact am_ends (-nI 1) _ rfl rfl rfl

set_option maxHeartbeats 4000000 in
theorem r_falls_0 {M : am_Mem} {a f hr hs lt : Nat} {k h : Nat → Nat} (hS : sp_M M a f hr hs lt k h) (hO : sp_ok a f hr lt k h) (oD : ∀ p q, p < 2 * a → q < 2 * a → h p = h q → p = q) {x : Int32} (hx : am_in x 12 = false) : am_go 145 (am_ent 145 [.ref 17, .int (x)] M) (am_is (-nI 1) (am_set M 18 1 (M 18 1 + nI 1))) := by
  obtain ⟨hF, hA, hHr, hHs, hLt, hK, hH⟩ := id hS
  obtain ⟨oA, oF, oHr, oLt, oK, oH⟩ := id hO
  refine am_goR 1 (s2 := (1, [.ref 17, .int (x), .null, .null, .null, .null], [.int (x)], M)) rfl ?_
  refine am_goX (v := am_b (am_in x 12)) (M2 := M) (s2 := (4, [.ref 17, .int (x), .null, .null, .null, .null], [], M)) rfl (t_isJoint) ?_
  refine am_bB1 (am_in x 12) (s1 := (11, [.ref 17, .int (x), .null, .null, .null, .null], [], M)) (s2 := (7, [.ref 17, .int (x), .null, .null, .null, .null], [], M)) rfl (fun c1 => absurd c1 (by simp [*])) (fun c1 => ?_)
  refine am_goR 7 (s2 := (32, [.ref 17, .int (x), .int ((-nI 1)), .null, .null, .null], [.int ((-nI 1)), .ref 17], M)) rfl ?_
  refine am_goX (v := (-nI 1)) (M2 := (am_set M 18 1 (M 18 1 + nI 1))) (s2 := (35, [.ref 17, .int (x), .int ((-nI 1)), .null, .null, .null], [], M)) rfl (t_no_1) ?_
  exact am_ends (-nI 1) _ rfl rfl rfl

set_option maxHeartbeats 4000000 in
theorem c_falls_1 {M : am_Mem} {a f hr hs lt : Nat} {k h : Nat → Nat} (hS : sp_S 1 M a f hr hs lt k h) (hO : sp_ok a f hr lt k h) {j : Nat} (hj : j < 12) (hf : f.testBit j = false) : am_go 72 (am_ent 72 [.ref 0, .int (nI j)] M) (am_is (-nI 3) (am_set M 16 3 (M 16 3 + nI 1))) := by
  obtain ⟨hF, hA, hHr, hHs, hLt, hK, hH⟩ := id hS
  obtain ⟨oA, oF, oHr, oLt, oK, oH⟩ := id hO
  refine am_goR 1 (s2 := (1, [.ref 0, .int (nI j), .null, .null], [.int (nI j)], M)) rfl ?_
  refine am_goX (v := nI 1) (M2 := M) (s2 := (4, [.ref 0, .int (nI j), .null, .null], [], M)) rfl (s_isJoint1 (j := j) (by omega)) ?_
  refine am_goR 4 (s2 := (18, [.ref 0, .int (nI j), .null, .null], [.int (nI j), .ref 1], M)) rfl ?_
  refine am_goX (v := am_b (f.testBit j)) (M2 := M) (s2 := (21, [.ref 0, .int (nI j), .null, .null], [], M)) rfl (s_isFixed_1 hS hO (j := j) (by omega)) ?_
  refine am_bB1 (f.testBit j) (s1 := (31, [.ref 0, .int (nI j), .null, .null], [], M)) (s2 := (24, [.ref 0, .int (nI j), .null, .null], [], M)) rfl (fun c1 => absurd c1 (by simp [*])) (fun c1 => ?_)
  refine am_goR 2 (s2 := (27, [.ref 0, .int (nI j), .null, .null], [.int ((-nI 3)), .ref 0], M)) rfl ?_
  refine am_goX (v := (-nI 3)) (M2 := (am_set M 16 3 (M 16 3 + nI 1))) (s2 := (30, [.ref 0, .int (nI j), .null, .null], [], M)) rfl (s_refuse_3) ?_
  exact am_ends (-nI 3) _ rfl rfl rfl

set_option maxHeartbeats 4000000 in
theorem r_falls_1 {M : am_Mem} {a f hr hs lt : Nat} {k h : Nat → Nat} (hS : sp_M M a f hr hs lt k h) (hO : sp_ok a f hr lt k h) (oD : ∀ p q, p < 2 * a → q < 2 * a → h p = h q → p = q) {j : Nat} (hj : j < 12) (hf : f.testBit j = false) : am_go 145 (am_ent 145 [.ref 17, .int (nI j)] M) (am_is (-nI 3) (am_set M 18 3 (M 18 3 + nI 1))) := by
  obtain ⟨hF, hA, hHr, hHs, hLt, hK, hH⟩ := id hS
  obtain ⟨oA, oF, oHr, oLt, oK, oH⟩ := id hO
  refine am_goR 1 (s2 := (1, [.ref 17, .int (nI j), .null, .null, .null, .null], [.int (nI j)], M)) rfl ?_
  refine am_goX (v := nI 1) (M2 := M) (s2 := (4, [.ref 17, .int (nI j), .null, .null, .null, .null], [], M)) rfl (t_isJoint1 (j := j) (by omega)) ?_
  refine am_goR 3 (s2 := (13, [.ref 17, .int (nI j), .null, .null, .null, .null], [.int (nI j), .ref 17], M)) rfl ?_
  refine am_goX (v := am_b (f.testBit j)) (M2 := M) (s2 := (16, [.ref 17, .int (nI j), .null, .null, .null, .null], [], M)) rfl (t_isFixed hS hO (j := j) (by omega)) ?_
  refine am_bB1 (f.testBit j) (s1 := (24, [.ref 17, .int (nI j), .null, .null, .null, .null], [], M)) (s2 := (19, [.ref 17, .int (nI j), .null, .null, .null, .null], [], M)) rfl (fun c1 => absurd c1 (by simp [*])) (fun c1 => ?_)
  refine am_goR 7 (s2 := (32, [.ref 17, .int (nI j), .int ((-nI 3)), .null, .null, .null], [.int ((-nI 3)), .ref 17], M)) rfl ?_
  refine am_goX (v := (-nI 3)) (M2 := (am_set M 18 3 (M 18 3 + nI 1))) (s2 := (35, [.ref 17, .int (nI j), .int ((-nI 3)), .null, .null, .null], [], M)) rfl (t_no_3) ?_
  exact am_ends (-nI 3) _ rfl rfl rfl

set_option maxHeartbeats 4000000 in
theorem c_falls_l {M : am_Mem} {a f hr hs lt : Nat} {k h : Nat → Nat} (hS : sp_S 1 M a f hr hs lt k h) (hO : sp_ok a f hr lt k h) {j L : Nat} (hL9 : L < 4096) : ∀ c : Nat, ∀ p : Nat, c + p = 12 → am_go 72 (47, [.ref 0, .int (nI j), .int (nI (sp_lp L p)), .int (nI p)], [], M) (am_is (nI (sp_lp L (sp_fP L c p))) M) := by
  obtain ⟨hF, hA, hHr, hHs, hLt, hK, hH⟩ := id hS
  obtain ⟨oA, oF, oHr, oLt, oK, oH⟩ := id hO
  intro c
  induction c using Nat.strongRecOn with
  | ind c ihs =>
    have ih : ∀ z, z < c → ∀ p : Nat, z + p = 12 → am_go 72 (47, [.ref 0, .int (nI j), .int (nI (sp_lp L p)), .int (nI p)], [], M) (am_is (nI (sp_lp L (sp_fP L z p))) M) := ihs
    intro p h1
    have hl9 := sp_lp_lt hL9 p
    have hm9 := sp_mk_lt p (by omega)
    refine am_goR 2 (s2 := (50, [.ref 0, .int (nI j), .int (nI (sp_lp L p)), .int (nI p)], [.int (nI 12), .int (nI p)], M)) rfl ?_
    refine am_bLE (12) (p) (s1 := (75, [.ref 0, .int (nI j), .int (nI (sp_lp L p)), .int (nI p)], [], M)) (s2 := (53, [.ref 0, .int (nI j), .int (nI (sp_lp L p)), .int (nI p)], [], M)) rfl (by omega) (by omega) (fun c1 => ?_) (fun c1 => ?_)
    · refine am_goR 1 (s2 := (76, [.ref 0, .int (nI j), .int (nI (sp_lp L p)), .int (nI p)], [.int (nI (sp_lp L p))], M)) rfl ?_
      have e0 : c = 0 := by omega
      subst e0
      exact am_ends _ _ rfl rfl rfl
    · refine am_goR 2 (s2 := (55, [.ref 0, .int (nI j), .int (nI (sp_lp L p)), .int (nI p)], [.int (nI p), .int (nI (sp_lp L p))], M)) rfl ?_
      refine am_goX (v := am_b ((sp_lp L p).testBit p)) (M2 := M) (s2 := (58, [.ref 0, .int (nI j), .int (nI (sp_lp L p)), .int (nI p)], [], M)) rfl (s_hasBit1 (x := (sp_lp L p)) (j := p) (by omega) (by omega)) ?_
      refine am_bB0 ((sp_lp L p).testBit p) (s1 := (75, [.ref 0, .int (nI j), .int (nI (sp_lp L p)), .int (nI p)], [], M)) (s2 := (61, [.ref 0, .int (nI j), .int (nI (sp_lp L p)), .int (nI p)], [], M)) rfl (fun c2 => ?_) (fun c2 => ?_)
      · refine am_goR 1 (s2 := (76, [.ref 0, .int (nI j), .int (nI (sp_lp L p)), .int (nI p)], [.int (nI (sp_lp L p))], M)) rfl ?_
        cases c with
        | zero => omega
        | succ c =>
          have hb9 : L.testBit p = false := by rw [← sp_lp_bit (L := L) p p (Nat.le_refl _) (by omega)]; assumption
          rw [sp_fP, if_neg (by rw [hb9]; decide)]
          exact am_ends _ _ rfl rfl rfl
      · refine am_goQ 10 (s1 := (47, [.ref 0, .int (nI j), .int ((nI (sp_lp L p) &&& ((nI 1 <<< (nI p &&& 31)) ^^^ (-nI 1)))), .int ((nI p + nI 1))], [], M)) (s2 := (47, [.ref 0, .int (nI j), .int (nI ((sp_lp L p) &&& ((2 ^ p) ^^^ 4294967295))), .int (nI (p + 1))], [], M)) rfl (by simp only [am_shl1 (j := p) (by omega), am_xm, am_and, nI_add]) ?_
        cases c with
        | zero => omega
        | succ c =>
          have hb9 : L.testBit p = true := by rw [← sp_lp_bit (L := L) p p (Nat.le_refl _) (by omega)]; assumption
          rw [sp_fP, if_pos hb9]
          exact ih c (by omega) (p + 1) (by omega)
set_option maxHeartbeats 4000000 in
theorem c_falls_v {M : am_Mem} {a f hr hs lt : Nat} {k h : Nat → Nat} (hS : sp_S 1 M a f hr hs lt k h) (hO : sp_ok a f hr lt k h) {j : Nat} (hj : j < 12) (hf : f.testBit j = true) : am_go 72 (am_ent 72 [.ref 0, .int (nI j)] M) (am_is (nI (sp_lp (f &&& (2 ^ j ^^^ 4294967295)) (sp_fP (f &&& (2 ^ j ^^^ 4294967295)) 12 0))) M) := by
  obtain ⟨hF, hA, hHr, hHs, hLt, hK, hH⟩ := id hS
  obtain ⟨oA, oF, oHr, oLt, oK, oH⟩ := id hO
  have hLf : (f &&& (2 ^ j ^^^ 4294967295)) < 4096 := Nat.lt_of_le_of_lt Nat.and_le_left oF
  refine am_goR 1 (s2 := (1, [.ref 0, .int (nI j), .null, .null], [.int (nI j)], M)) rfl ?_
  refine am_goX (v := nI 1) (M2 := M) (s2 := (4, [.ref 0, .int (nI j), .null, .null], [], M)) rfl (s_isJoint1 (j := j) (by omega)) ?_
  refine am_goR 4 (s2 := (18, [.ref 0, .int (nI j), .null, .null], [.int (nI j), .ref 1], M)) rfl ?_
  refine am_goX (v := am_b (f.testBit j)) (M2 := M) (s2 := (21, [.ref 0, .int (nI j), .null, .null], [], M)) rfl (s_isFixed_1 hS hO (j := j) (by omega)) ?_
  refine am_bB1 (f.testBit j) (s1 := (31, [.ref 0, .int (nI j), .null, .null], [], M)) (s2 := (24, [.ref 0, .int (nI j), .null, .null], [], M)) rfl (fun c1 => ?_) (fun c1 => absurd c1 (by simp [*]))
  refine am_goQ 12 (s1 := (47, [.ref 0, .int (nI j), .int (((M 1 0) &&& ((nI 1 <<< (nI j &&& 31)) ^^^ (-nI 1)))), .int (nI 0)], [], M)) (s2 := (47, [.ref 0, .int (nI j), .int (nI (f &&& ((2 ^ j) ^^^ 4294967295))), .int (nI 0)], [], M)) rfl (by simp only [hF, am_shl1 (j := j) (by omega), am_xm, am_and]) ?_
  exact c_falls_l hS hO hLf 12 0 (by omega)

set_option maxHeartbeats 4000000 in
theorem r_falls_l {M : am_Mem} {a f hr hs lt : Nat} {k h : Nat → Nat} (hS : sp_M M a f hr hs lt k h) (hO : sp_ok a f hr lt k h) (oD : ∀ p q, p < 2 * a → q < 2 * a → h p = h q → p = q) {j L : Nat} (hL9 : L < 4096) : ∀ c : Nat, ∀ p : Nat, c + p = 12 → am_go 145 (53, [.ref 17, .int (nI j), .int (nI 0), .int (nI L), .int (nI (sp_mk p)), .int (nI p)], [], M) (am_is (nI (sp_lp L (sp_fP L c p))) M) := by
  obtain ⟨hF, hA, hHr, hHs, hLt, hK, hH⟩ := id hS
  obtain ⟨oA, oF, oHr, oLt, oK, oH⟩ := id hO
  intro c
  induction c using Nat.strongRecOn with
  | ind c ihs =>
    have ih : ∀ z, z < c → ∀ p : Nat, z + p = 12 → am_go 145 (53, [.ref 17, .int (nI j), .int (nI 0), .int (nI L), .int (nI (sp_mk p)), .int (nI p)], [], M) (am_is (nI (sp_lp L (sp_fP L z p))) M) := ihs
    intro p h1
    have hl9 := sp_lp_lt hL9 p
    have hm9 := sp_mk_lt p (by omega)
    refine am_goR 2 (s2 := (57, [.ref 17, .int (nI j), .int (nI 0), .int (nI L), .int (nI (sp_mk p)), .int (nI p)], [.int (nI 12), .int (nI p)], M)) rfl ?_
    refine am_bLE (12) (p) (s1 := (85, [.ref 17, .int (nI j), .int (nI 0), .int (nI L), .int (nI (sp_mk p)), .int (nI p)], [], M)) (s2 := (60, [.ref 17, .int (nI j), .int (nI 0), .int (nI L), .int (nI (sp_mk p)), .int (nI p)], [], M)) rfl (by omega) (by omega) (fun c1 => ?_) (fun c1 => ?_)
    · refine am_goQ 5 (s1 := (91, [.ref 17, .int (nI j), .int (nI 0), .int (nI L), .int (nI (sp_mk p)), .int (nI p)], [.int ((nI L &&& (nI (sp_mk p) ^^^ (-nI 1))))], M)) (s2 := (91, [.ref 17, .int (nI j), .int (nI 0), .int (nI L), .int (nI (sp_mk p)), .int (nI p)], [.int (nI (L &&& ((sp_mk p) ^^^ 4294967295)))], M)) rfl (by simp only [am_xm, am_and]) ?_
      have e0 : c = 0 := by omega
      subst e0
      exact am_ends _ _ rfl (congrArg nI (sp_lp_mk hL9 p).symm) rfl
    · refine am_goQ 6 (s1 := (67, [.ref 17, .int (nI j), .int (nI 0), .int (nI L), .int (nI (sp_mk p)), .int (nI p)], [.int (nI 1), .int (((nI L >>> (nI p &&& 31)) &&& nI 1))], M)) (s2 := (67, [.ref 17, .int (nI j), .int (nI 0), .int (nI L), .int (nI (sp_mk p)), .int (nI p)], [.int (nI 1), .int (am_b (L.testBit p))], M)) rfl (by simp only [am_shr (x := L) (j := p) (by omega) (by omega), am_and, am_bit]) ?_
      refine am_bBN (L.testBit p) true (s1 := (85, [.ref 17, .int (nI j), .int (nI 0), .int (nI L), .int (nI (sp_mk p)), .int (nI p)], [], M)) (s2 := (70, [.ref 17, .int (nI j), .int (nI 0), .int (nI L), .int (nI (sp_mk p)), .int (nI p)], [], M)) rfl (fun c2 => ?_) (fun c2 => ?_)
      · refine am_goQ 5 (s1 := (91, [.ref 17, .int (nI j), .int (nI 0), .int (nI L), .int (nI (sp_mk p)), .int (nI p)], [.int ((nI L &&& (nI (sp_mk p) ^^^ (-nI 1))))], M)) (s2 := (91, [.ref 17, .int (nI j), .int (nI 0), .int (nI L), .int (nI (sp_mk p)), .int (nI p)], [.int (nI (L &&& ((sp_mk p) ^^^ 4294967295)))], M)) rfl (by simp only [am_xm, am_and]) ?_
        cases c with
        | zero => omega
        | succ c =>
          have hb9 : L.testBit p = false := by first | assumption | simp_all
          rw [sp_fP, if_neg (by rw [hb9]; decide)]
          exact am_ends _ _ rfl (congrArg nI (sp_lp_mk hL9 p).symm) rfl
      · refine am_goQ 8 (s1 := (53, [.ref 17, .int (nI j), .int (nI 0), .int (nI L), .int ((nI (sp_mk p) ||| (nI 1 <<< (nI p &&& 31)))), .int ((nI p + nI 1))], [], M)) (s2 := (53, [.ref 17, .int (nI j), .int (nI 0), .int (nI L), .int (nI ((sp_mk p) ||| (2 ^ p))), .int (nI (p + 1))], [], M)) rfl (by simp only [am_shl1 (j := p) (by omega), am_or, nI_add]) ?_
        cases c with
        | zero => omega
        | succ c =>
          have hb9 : L.testBit p = true := by first | assumption | simp_all
          rw [sp_fP, if_pos hb9]
          exact ih c (by omega) (p + 1) (by omega)
set_option maxHeartbeats 4000000 in
theorem r_falls_v {M : am_Mem} {a f hr hs lt : Nat} {k h : Nat → Nat} (hS : sp_M M a f hr hs lt k h) (hO : sp_ok a f hr lt k h) (oD : ∀ p q, p < 2 * a → q < 2 * a → h p = h q → p = q) {j : Nat} (hj : j < 12) (hf : f.testBit j = true) : am_go 145 (am_ent 145 [.ref 17, .int (nI j)] M) (am_is (nI (sp_lp (f &&& (2 ^ j ^^^ 4294967295)) (sp_fP (f &&& (2 ^ j ^^^ 4294967295)) 12 0))) M) := by
  obtain ⟨hF, hA, hHr, hHs, hLt, hK, hH⟩ := id hS
  obtain ⟨oA, oF, oHr, oLt, oK, oH⟩ := id hO
  have hLf : (f &&& (2 ^ j ^^^ 4294967295)) < 4096 := Nat.lt_of_le_of_lt Nat.and_le_left oF
  refine am_goR 1 (s2 := (1, [.ref 17, .int (nI j), .null, .null, .null, .null], [.int (nI j)], M)) rfl ?_
  refine am_goX (v := nI 1) (M2 := M) (s2 := (4, [.ref 17, .int (nI j), .null, .null, .null, .null], [], M)) rfl (t_isJoint1 (j := j) (by omega)) ?_
  refine am_goR 3 (s2 := (13, [.ref 17, .int (nI j), .null, .null, .null, .null], [.int (nI j), .ref 17], M)) rfl ?_
  refine am_goX (v := am_b (f.testBit j)) (M2 := M) (s2 := (16, [.ref 17, .int (nI j), .null, .null, .null, .null], [], M)) rfl (t_isFixed hS hO (j := j) (by omega)) ?_
  refine am_bB1 (f.testBit j) (s1 := (24, [.ref 17, .int (nI j), .null, .null, .null, .null], [], M)) (s2 := (19, [.ref 17, .int (nI j), .null, .null, .null, .null], [], M)) rfl (fun c1 => ?_) (fun c1 => absurd c1 (by simp [*]))
  refine am_goQ 17 (s1 := (53, [.ref 17, .int (nI j), .int (nI 0), .int (((M 17 4) &&& ((nI 1 <<< (nI j &&& 31)) ^^^ (-nI 1)))), .int (nI 0), .int (nI 0)], [], M)) (s2 := (53, [.ref 17, .int (nI j), .int (nI 0), .int (nI (f &&& ((2 ^ j) ^^^ 4294967295))), .int (nI 0), .int (nI 0)], [], M)) rfl (by simp only [hF, am_shl1 (j := j) (by omega), am_xm, am_and]) ?_
  exact r_falls_l hS hO oD hLf 12 0 (by omega)

theorem pp_falls {M : am_Mem} (hI : sp_Inv M) (x : Int32) : sp_PP 72 145 [.int x] M := by
  obtain ⟨⟨⟨a, f, hr, hs, lt, k, h⟩, t, w2, n, tx, rn, ro, rf⟩, hC, hR, hG⟩ := hI
  have hO := hG.1.1
  have oD := hG.1.2.2.1
  have oFx := hG.1.2.2.2
  have oA := hO.1
  have oHs := hG.1.2.1
  dsimp only at oD oFx oA oHs
  have hO : sp_ok a f hr lt k h := hO
  have hS1 : sp_S 1 M a f hr hs lt k h := hC.1
  have hM1 : ∀ N, sp_IR N ((a, f, hr, hs, lt, k, h), t, w2, n, tx, rn, ro, rf) → sp_M N a f hr hs lt k h := fun N hN => hN.1
  have hLc : M 13 1 = nI n := hC.2.2.2.1
  have hRc : M 0 7 = nI rn := hC.2.2.2.2.2.1
  have hLm : ∀ N, sp_IR N ((a, f, hr, hs, lt, k, h), t, w2, n, tx, rn, ro, rf) → N 17 12 = nI n := fun N hN => hN.2.2.2.1
  have hRm : ∀ N, sp_IR N ((a, f, hr, hs, lt, k, h), t, w2, n, tx, rn, ro, rf) → N 17 24 = nI rn := fun N hN => hN.2.2.2.2.2.1
  rcases am_in_cs x (n := 12) (by omega) with hx | ⟨j, hj, rfl⟩
  · exact sp_PPr 1 (by decide) hC hR hG (c_falls_0 hS1 hO hx) (fun N hN => r_falls_0 (hM1 N hN) hO oD hx)
  · cases hf : f.testBit j with
    | false => exact sp_PPr 3 (by decide) hC hR hG (c_falls_1 hS1 hO hj hf) (fun N hN => r_falls_1 (hM1 N hN) hO oD hj hf)
    | true => exact sp_PP0 hC hR hG (c_falls_v hS1 hO hj hf) (fun N hN => r_falls_v (hM1 N hN) hO oD hj hf)

