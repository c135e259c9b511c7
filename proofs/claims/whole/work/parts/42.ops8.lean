/-! calls: stood -/
theorem sp_dc_le {v h : Nat → Nat} : ∀ n, sp_dc v h n ≤ n := by
  intro n
  induction n with
  | zero => exact Nat.le_refl _
  | succ n ih => rw [sp_dc]; split <;> omega
theorem sp_os_T {a f d : Nat} {k h v : Nat → Nat} (hd : sp_dl v h (2 * a) = d) (h1 : sp_dc v h (2 * a) = 1) (h2 : sp_cn a f k h (d / 2) (d % 2) 9 (v d) = true) : sp_os a f k h v = nI (1000 * (d / 2) + 100 * (d % 2) + v d) := by
  subst hd
  unfold sp_os
  rw [if_pos ⟨h1, h2⟩]
theorem sp_os_F {a f : Nat} {k h v : Nat → Nat} (hn : ¬ (sp_dc v h (2 * a) = 1 ∧ sp_cn a f k h (sp_dl v h (2 * a) / 2) (sp_dl v h (2 * a) % 2) 9 (v (sp_dl v h (2 * a))) = true)) : sp_os a f k h v = -nI 9 := by
  unfold sp_os
  rw [if_neg hn]
theorem sp_dc_sw {v h g : Nat → Nat} : ∀ n, (∀ q, q < n → g q = v q) → sp_dc h g n = sp_dc v h n ∧ sp_dl h g n = sp_dl v h n := by
  intro n
  induction n with
  | zero => intro _; exact ⟨rfl, rfl⟩
  | succ n ih =>
    intro hg
    obtain ⟨i1, i2⟩ := ih (fun q hq => hg q (by omega))
    have e := hg n (by omega)
    by_cases z : v n = h n
    · rw [sp_dc_e z, sp_dl_e z, sp_dc_e (by rw [e, z]), sp_dl_e (by rw [e, z])]
      exact ⟨i1, i2⟩
    · have z2 : ¬ h n = g n := fun y => z (by rw [← e, ← y])
      rw [sp_dc_n z, sp_dl_n z, sp_dc_n z2, sp_dl_n z2, i1]
      exact ⟨rfl, rfl⟩

set_option maxHeartbeats 4000000 in
theorem t_canStepB {M : am_Mem} {a f hr hs lt : Nat} {k h : Nat → Nat} (hS : sp_M M a f hr hs lt k h) (hO : sp_ok a f hr lt k h) (oD : ∀ p q, p < 2 * a → q < 2 * a → h p = h q → p = q) {i : Nat} (hi : i < a) {b j : Nat} (hb : b < 2) (hj : 12 ≤ j) (hj2 : j < 4000) : am_go 116 (am_ent 116 [.ref 17, .int (nI i), .int (nI b), .int (nI j), .int ((-nI 9))] M) (am_is (am_b false) M) := by
  obtain ⟨hF, hA, hHr, hHs, hLt, hK, hH⟩ := id hS
  obtain ⟨oA, oF, oHr, oLt, oK, oH⟩ := id hO
  refine am_goR 1 (s2 := (1, [.ref 17, .int (nI i), .int (nI b), .int (nI j), .int ((-nI 9)), .null], [.int (nI j)], M)) rfl ?_
  refine am_goX (v := am_b (decide (j < 12))) (M2 := M) (s2 := (4, [.ref 17, .int (nI i), .int (nI b), .int (nI j), .int ((-nI 9)), .null], [], M)) rfl (t_isJointN (j := j) (by omega)) ?_
  refine am_bB0 (decide (j < 12)) (s1 := (15, [.ref 17, .int (nI i), .int (nI b), .int (nI j), .int ((-nI 9)), .null], [], M)) (s2 := (7, [.ref 17, .int (nI i), .int (nI b), .int (nI j), .int ((-nI 9)), .null], [], M)) rfl (fun c1 => ?_) (fun c1 => absurd c1 (by simp; omega))
  have c1d := of_decide_eq_false c1
  refine am_goR 3 (s2 := (19, [.ref 17, .int (nI i), .int (nI b), .int (nI j), .int ((-nI 9)), .int (nI 0)], [.int (nI j)], M)) rfl ?_
  refine am_goX (v := am_b (decide (j < 12))) (M2 := M) (s2 := (22, [.ref 17, .int (nI i), .int (nI b), .int (nI j), .int ((-nI 9)), .int (nI 0)], [], M)) rfl (t_isJointN (j := j) (by omega)) ?_
  refine am_bB0 (decide (j < 12)) (s1 := (61, [.ref 17, .int (nI i), .int (nI b), .int (nI j), .int ((-nI 9)), .int (nI 0)], [], M)) (s2 := (25, [.ref 17, .int (nI i), .int (nI b), .int (nI j), .int ((-nI 9)), .int (nI 0)], [], M)) rfl (fun c2 => ?_) (fun c2 => absurd c2 (by simp; omega))
  have c2d := of_decide_eq_false c2
  refine am_goR 1 (s2 := (62, [.ref 17, .int (nI i), .int (nI b), .int (nI j), .int ((-nI 9)), .int (nI 0)], [.int (nI 0)], M)) rfl ?_
  exact am_endz false _ rfl rfl rfl

theorem t_canStepX {M : am_Mem} {a f hr hs lt : Nat} {k h : Nat → Nat} (hS : sp_M M a f hr hs lt k h) (hO : sp_ok a f hr lt k h) (oD : ∀ p q, p < 2 * a → q < 2 * a → h p = h q → p = q) {i : Nat} (hi : i < a) {b j : Nat} (hb : b < 2) (hj : j < 4000) : am_go 116 (am_ent 116 [.ref 17, .int (nI i), .int (nI b), .int (nI j), .int (-nI 9)] M) (am_is (am_b (sp_cn a f k h i b 9 j)) M) := by
  by_cases h12 : j < 12
  · exact t_canStepn hS hO oD hi hb (by omega)
  · rw [sp_cn_big hO.2.1 (by omega)]
    exact t_canStepB hS hO oD hi hb (by omega) hj

set_option maxHeartbeats 4000000 in
theorem c_stood_0 {M : am_Mem} {a f hr hs lt : Nat} {k h : Nat → Nat} (hS : sp_S 1 M a f hr hs lt k h) (hO : sp_ok a f hr lt k h) {x : Int32} (hx : am_in x 2 = false) (h0 : ¬ x = 0) (h1 : ¬ x = nI 1) : am_go 74 (am_ent 74 [.ref 0, .int (x)] M) (am_is (-nI 2) (am_set M 16 2 (M 16 2 + nI 1))) := by
  obtain ⟨hF, hA, hHr, hHs, hLt, hK, hH⟩ := id hS
  obtain ⟨oA, oF, oHr, oLt, oK, oH⟩ := id hO
  refine am_goR 1 (s2 := (1, [.ref 0, .int (x), .null], [.int (x)], M)) rfl ?_
  refine am_bF (P := x = 0) (s1 := (16, [.ref 0, .int (x), .null], [], M)) (s2 := (4, [.ref 0, .int (x), .null], [], M)) rfl (h0) ?_
  refine am_goR 2 (s2 := (6, [.ref 0, .int (x), .null], [.int (nI 1), .int (x)], M)) rfl ?_
  refine am_bF (P := x = nI 1) (s1 := (16, [.ref 0, .int (x), .null], [], M)) (s2 := (9, [.ref 0, .int (x), .null], [], M)) rfl (h1) ?_
  refine am_goR 2 (s2 := (12, [.ref 0, .int (x), .null], [.int ((-nI 2)), .ref 0], M)) rfl ?_
  refine am_goX (v := (-nI 2)) (M2 := (am_set M 16 2 (M 16 2 + nI 1))) (s2 := (15, [.ref 0, .int (x), .null], [], M)) rfl (s_refuse_2) ?_
  exact am_ends (-nI 2) _ rfl rfl rfl

set_option maxHeartbeats 4000000 in
theorem r_stood_0 {M : am_Mem} {a f hr hs lt : Nat} {k h : Nat → Nat} (hS : sp_M M a f hr hs lt k h) (hO : sp_ok a f hr lt k h) (oD : ∀ p q, p < 2 * a → q < 2 * a → h p = h q → p = q) {x : Int32} (hx : am_in x 2 = false) (h0 : ¬ x = 0) (h1 : ¬ x = nI 1) : am_go 149 (am_ent 149 [.ref 17, .int (x)] M) (am_is (-nI 2) (am_set M 18 2 (M 18 2 + nI 1))) := by
  obtain ⟨hF, hA, hHr, hHs, hLt, hK, hH⟩ := id hS
  obtain ⟨oA, oF, oHr, oLt, oK, oH⟩ := id hO
  refine am_goR 3 (s2 := (3, [.ref 17, .int (x), .null], [.int (nI 1), .int (nI 0), .int (x)], M)) rfl ?_
  refine am_goX (v := am_b (am_in x 2)) (M2 := M) (s2 := (6, [.ref 17, .int (x), .null], [], M)) rfl (t_isInX (n := 1) (by decide)) ?_
  refine am_bB1 (am_in x 2) (s1 := (16, [.ref 17, .int (x), .null], [], M)) (s2 := (9, [.ref 17, .int (x), .null], [], M)) rfl (fun c1 => absurd c1 (by simp [*])) (fun c1 => ?_)
  refine am_goR 2 (s2 := (12, [.ref 17, .int (x), .null], [.int ((-nI 2)), .ref 17], M)) rfl ?_
  refine am_goX (v := (-nI 2)) (M2 := (am_set M 18 2 (M 18 2 + nI 1))) (s2 := (15, [.ref 17, .int (x), .null], [], M)) rfl (t_no_2) ?_
  exact am_ends (-nI 2) _ rfl rfl rfl

set_option maxHeartbeats 4000000 in
theorem c_stood_r0 {M : am_Mem} {a f hr hs lt : Nat} {k h : Nat → Nat} (hS : sp_S 1 M a f hr hs lt k h) (hO : sp_ok a f hr lt k h) {rn : Nat} (hRn : M 0 7 = nI rn) (hr9 : rn ≤ 16) (hrr : ¬ rn = 2 * a) : am_go 74 (am_ent 74 [.ref 0, .int (nI 0)] M) (am_is (-nI 3) (am_set M 16 3 (M 16 3 + nI 1))) := by
  obtain ⟨hF, hA, hHr, hHs, hLt, hK, hH⟩ := id hS
  obtain ⟨oA, oF, oHr, oLt, oK, oH⟩ := id hO
  refine am_goQ 9 (s1 := (29, [.ref 0, .int (nI 0), .null], [.int ((nI 2 * (M 1 1))), .int ((M 0 7))], M)) (s2 := (29, [.ref 0, .int (nI 0), .null], [.int (nI (2 * a)), .int (nI rn)], M)) rfl (by simp only [hA, pk_mul, hRn]) ?_
  refine am_bEQ (rn) ((2 * a)) (s1 := (39, [.ref 0, .int (nI 0), .null], [], M)) (s2 := (32, [.ref 0, .int (nI 0), .null], [], M)) rfl (by omega) (by omega) (fun c1 => absurd c1 (by omega)) (fun c1 => ?_)
  refine am_goR 2 (s2 := (35, [.ref 0, .int (nI 0), .null], [.int ((-nI 3)), .ref 0], M)) rfl ?_
  refine am_goX (v := (-nI 3)) (M2 := (am_set M 16 3 (M 16 3 + nI 1))) (s2 := (38, [.ref 0, .int (nI 0), .null], [], M)) rfl (s_refuse_3) ?_
  exact am_ends (-nI 3) _ rfl rfl rfl

set_option maxHeartbeats 4000000 in
theorem r_stood_r0 {M : am_Mem} {a f hr hs lt : Nat} {k h : Nat → Nat} (hS : sp_M M a f hr hs lt k h) (hO : sp_ok a f hr lt k h) (oD : ∀ p q, p < 2 * a → q < 2 * a → h p = h q → p = q) {rn : Nat} (hRn : M 17 24 = nI rn) (hr9 : rn ≤ 16) (hrr : ¬ rn = 2 * a) : am_go 149 (am_ent 149 [.ref 17, .int (nI 0)] M) (am_is (-nI 3) (am_set M 18 3 (M 18 3 + nI 1))) := by
  obtain ⟨hF, hA, hHr, hHs, hLt, hK, hH⟩ := id hS
  obtain ⟨oA, oF, oHr, oLt, oK, oH⟩ := id hO
  refine am_goR 3 (s2 := (3, [.ref 17, .int (nI 0), .null], [.int (nI 1), .int (nI 0), .int (nI 0)], M)) rfl ?_
  refine am_goX (v := nI 1) (M2 := M) (s2 := (6, [.ref 17, .int (nI 0), .null], [], M)) rfl (t_isIn1 (x := 0) (by omega)) ?_
  refine am_goQ 7 (s1 := (26, [.ref 17, .int (nI 0), .null], [.int ((nI 2 * (M 17 3))), .int ((M 17 24))], M)) (s2 := (26, [.ref 17, .int (nI 0), .null], [.int (nI (2 * a)), .int (nI rn)], M)) rfl (by simp only [hA, pk_mul, hRn]) ?_
  refine am_bEQ (rn) ((2 * a)) (s1 := (36, [.ref 17, .int (nI 0), .null], [], M)) (s2 := (29, [.ref 17, .int (nI 0), .null], [], M)) rfl (by omega) (by omega) (fun c1 => absurd c1 (by omega)) (fun c1 => ?_)
  refine am_goR 2 (s2 := (32, [.ref 17, .int (nI 0), .null], [.int ((-nI 3)), .ref 17], M)) rfl ?_
  refine am_goX (v := (-nI 3)) (M2 := (am_set M 18 3 (M 18 3 + nI 1))) (s2 := (35, [.ref 17, .int (nI 0), .null], [], M)) rfl (t_no_3) ?_
  exact am_ends (-nI 3) _ rfl rfl rfl

set_option maxHeartbeats 4000000 in
theorem c_stood_T0 {M : am_Mem} {a f hr hs lt : Nat} {k h : Nat → Nat} (hS : sp_S 1 M a f hr hs lt k h) (hO : sp_ok a f hr lt k h) {rn : Nat} {v : Nat → Nat} (hR : ∀ q, q < 8 → M 15 q = nI (v q)) (hv : ∀ q, v q < 4000) (hRn : M 0 7 = nI rn) (hrr : rn = 2 * a) {d : Nat} (hd : sp_dl v h (2 * a) = d) (hd2 : d < 2 * a) (h1 : sp_dc v h (2 * a) = 1) (h2 : sp_cn a f k h (d / 2) (d % 2) 9 (v d) = true) : am_go 74 (am_ent 74 [.ref 0, .int (nI 0)] M) (am_is (nI 1) M) := by
  obtain ⟨hF, hA, hHr, hHs, hLt, hK, hH⟩ := id hS
  obtain ⟨oA, oF, oHr, oLt, oK, oH⟩ := id hO
  have hvd := hv d
  refine am_goQ 9 (s1 := (29, [.ref 0, .int (nI 0), .null], [.int ((nI 2 * (M 1 1))), .int ((M 0 7))], M)) (s2 := (29, [.ref 0, .int (nI 0), .null], [.int (nI (2 * a)), .int (nI rn)], M)) rfl (by simp only [hA, pk_mul, hRn]) ?_
  refine am_bEQ (rn) ((2 * a)) (s1 := (39, [.ref 0, .int (nI 0), .null], [], M)) (s2 := (32, [.ref 0, .int (nI 0), .null], [], M)) rfl (by omega) (by omega) (fun c1 => ?_) (fun c1 => absurd c1 (by omega))
  refine am_goR 4 (s2 := (47, [.ref 0, .int (nI 0), .null], [.ref 15, .ref 1], M)) rfl ?_
  refine am_goX (v := nI (((1000 * (d / 2)) + (100 * (d % 2))) + (v d))) (M2 := M) (s2 := (50, [.ref 0, .int (nI 0), .null], [], M)) rfl ((by have z := s_onlyStepTo_1 hS hO hR hv; rw [sp_os_T hd h1 h2] at z; exact z)) ?_
  refine am_goR 6 (s2 := (61, [.ref 0, .int (nI 0), .int (nI (((1000 * (d / 2)) + (100 * (d % 2))) + (v d)))], [.int ((-nI 9)), .int (nI (((1000 * (d / 2)) + (100 * (d % 2))) + (v d)))], M)) rfl ?_
  refine am_bTn (s1 := (68, [.ref 0, .int (nI 0), .int (nI (((1000 * (d / 2)) + (100 * (d % 2))) + (v d)))], [], M)) (s2 := (64, [.ref 0, .int (nI 0), .int (nI (((1000 * (d / 2)) + (100 * (d % 2))) + (v d)))], [], M)) rfl (am_nm_ne (x := (((1000 * (d / 2)) + (100 * (d % 2))) + (v d))) (m := 9) (by omega) (by decide) (by decide)) ?_
  refine am_goR 1 (s2 := (69, [.ref 0, .int (nI 0), .int (nI (((1000 * (d / 2)) + (100 * (d % 2))) + (v d)))], [.int (nI 1)], M)) rfl ?_
  exact am_ends (nI 1) _ rfl (by rfl) (rfl)

set_option maxHeartbeats 4000000 in
theorem c_stood_F0 {M : am_Mem} {a f hr hs lt : Nat} {k h : Nat → Nat} (hS : sp_S 1 M a f hr hs lt k h) (hO : sp_ok a f hr lt k h) {rn : Nat} {v : Nat → Nat} (hR : ∀ q, q < 8 → M 15 q = nI (v q)) (hv : ∀ q, v q < 4000) (hRn : M 0 7 = nI rn) (hrr : rn = 2 * a) (hno : ¬ (sp_dc v h (2 * a) = 1 ∧ sp_cn a f k h (sp_dl v h (2 * a) / 2) (sp_dl v h (2 * a) % 2) 9 (v (sp_dl v h (2 * a))) = true)) : am_go 74 (am_ent 74 [.ref 0, .int (nI 0)] M) (am_is (nI 0) M) := by
  obtain ⟨hF, hA, hHr, hHs, hLt, hK, hH⟩ := id hS
  obtain ⟨oA, oF, oHr, oLt, oK, oH⟩ := id hO
  refine am_goQ 9 (s1 := (29, [.ref 0, .int (nI 0), .null], [.int ((nI 2 * (M 1 1))), .int ((M 0 7))], M)) (s2 := (29, [.ref 0, .int (nI 0), .null], [.int (nI (2 * a)), .int (nI rn)], M)) rfl (by simp only [hA, pk_mul, hRn]) ?_
  refine am_bEQ (rn) ((2 * a)) (s1 := (39, [.ref 0, .int (nI 0), .null], [], M)) (s2 := (32, [.ref 0, .int (nI 0), .null], [], M)) rfl (by omega) (by omega) (fun c1 => ?_) (fun c1 => absurd c1 (by omega))
  refine am_goR 4 (s2 := (47, [.ref 0, .int (nI 0), .null], [.ref 15, .ref 1], M)) rfl ?_
  refine am_goX (v := (-nI 9)) (M2 := M) (s2 := (50, [.ref 0, .int (nI 0), .null], [], M)) rfl ((by have z := s_onlyStepTo_1 hS hO hR hv; rw [sp_os_F hno] at z; exact z)) ?_
  refine am_goR 9 (s2 := (69, [.ref 0, .int (nI 0), .int ((-nI 9))], [.int (nI 0)], M)) rfl ?_
  exact am_ends (nI 0) _ rfl (by rfl) (rfl)

set_option maxHeartbeats 4000000 in
theorem r_stood_T0 {M : am_Mem} {a f hr hs lt : Nat} {k h : Nat → Nat} (hS : sp_M M a f hr hs lt k h) (hO : sp_ok a f hr lt k h) (oD : ∀ p q, p < 2 * a → q < 2 * a → h p = h q → p = q) {rn : Nat} {v : Nat → Nat} (hR : ∀ q, q < 8 → M 28 q = nI (v q)) (hv : ∀ q, v q < 4000) (hRn : M 17 24 = nI rn) (hrr : rn = 2 * a) {d : Nat} (hd : sp_dl v h (2 * a) = d) (hd2 : d < 2 * a) (h1 : sp_dc v h (2 * a) = 1) (h2 : sp_cn a f k h (d / 2) (d % 2) 9 (v d) = true) : am_go 149 (am_ent 149 [.ref 17, .int (nI 0)] M) (am_ri (fun x O => x = nI 1 ∧ ∀ a b, ¬ (a = 17 ∧ b = 25) → O a b = M a b)) := by
  obtain ⟨hF, hA, hHr, hHs, hLt, hK, hH⟩ := id hS
  obtain ⟨oA, oF, oHr, oLt, oK, oH⟩ := id hO
  have hvd := hv d
  refine am_goR 3 (s2 := (3, [.ref 17, .int (nI 0), .null], [.int (nI 1), .int (nI 0), .int (nI 0)], M)) rfl ?_
  refine am_goX (v := nI 1) (M2 := M) (s2 := (6, [.ref 17, .int (nI 0), .null], [], M)) rfl (t_isIn1 (x := 0) (by omega)) ?_
  refine am_goQ 7 (s1 := (26, [.ref 17, .int (nI 0), .null], [.int ((nI 2 * (M 17 3))), .int ((M 17 24))], M)) (s2 := (26, [.ref 17, .int (nI 0), .null], [.int (nI (2 * a)), .int (nI rn)], M)) rfl (by simp only [hA, pk_mul, hRn]) ?_
  refine am_bEQ (rn) ((2 * a)) (s1 := (36, [.ref 17, .int (nI 0), .null], [], M)) (s2 := (29, [.ref 17, .int (nI 0), .null], [], M)) rfl (by omega) (by omega) (fun c1 => ?_) (fun c1 => absurd c1 (by omega))
  refine am_goR 1 (s2 := (37, [.ref 17, .int (nI 0), .null], [.ref 17], M)) rfl ?_
  refine am_goC (s2 := (40, [.ref 17, .int (nI 0), .null], [], M)) rfl (t_unlike hS hO hR hv) (fun ux K hu => ?_)
  obtain ⟨u0, u1, u2⟩ := hu
  rw [h1] at u0
  subst u0
  have hS9 : sp_M K a f hr hs lt k h := ⟨(u1 _ _ (by omega)).trans hS.1, (u1 _ _ (by omega)).trans hS.2.1, (u1 _ _ (by omega)).trans hS.2.2.1, (u1 _ _ (by omega)).trans hS.2.2.2.1, (u1 _ _ (by omega)).trans hS.2.2.2.2.1, fun q hq => (u1 _ _ (by omega)).trans (hS.2.2.2.2.2.1 q hq), fun q hq => (u1 _ _ (by omega)).trans (hS.2.2.2.2.2.2 q hq)⟩
  have hR9 : ∀ q, q < 8 → K 28 q = nI (v q) := fun q hq => (u1 _ _ (by omega)).trans (hR q hq)
  have hU9 : K 17 25 = nI d := (u2 (by omega)).trans (by rw [hd])
  refine am_goQ 10 (s1 := (56, [.ref 17, .int (nI 0), .null], [.int (nI 2), .int ((K 17 25)), .int (((K 17 25) / nI 2)), .ref 17], K)) (s2 := (56, [.ref 17, .int (nI 0), .null], [.int (nI 2), .int (nI d), .int (nI (d / 2)), .ref 17], K)) rfl (by simp only [hU9, pk_div (a := d) (d := 2) (by omega) (by omega) (by omega)]) ?_
  refine am_goQ 5 (s1 := (65, [.ref 17, .int (nI 0), .null], [.int ((K 17 25)), .ref 28, .int ((nI d - nI d / nI 2 * nI 2)), .int (nI (d / 2)), .ref 17], K)) (s2 := (65, [.ref 17, .int (nI 0), .null], [.int (nI d), .ref 28, .int (nI (d % 2)), .int (nI (d / 2)), .ref 17], K)) rfl (by rw [pk_rem (a := d) (d := 2) (by omega) (by omega) (by omega)]; simp only [hU9]) ?_
  refine am_goL2 (pc := 66) (ls := [.ref 17, .int (nI 0), .null]) (r := [.int (nI (d % 2)), .int (nI (d / 2)), .ref 17]) (M := K) (a := 28) (n := 16) (d) (nI (v d)) rfl rfl (by omega) (by decide) (hR9 _ (by omega)) ?_
  refine am_goR 1 (s2 := (68, [.ref 17, .int (nI 0), .null], [.int ((-nI 9)), .int (nI (v d)), .int (nI (d % 2)), .int (nI (d / 2)), .ref 17], K)) rfl ?_
  refine am_goX (v := nI 1) (M2 := K) (s2 := (71, [.ref 17, .int (nI 0), .null], [], K)) rfl ((by have z := t_canStepX hS9 hO oD (i := (d / 2)) (by omega) (b := (d % 2)) (j := (v d)) (by omega) (by omega); rw [h2] at z; exact z)) ?_
  refine am_goR 10 (s2 := (133, [.ref 17, .int (nI 0), .int (nI 1)], [.int (nI 1)], K)) rfl ?_
  exact am_goE _ _ rfl ⟨_, rfl, rfl, u1⟩

set_option maxHeartbeats 4000000 in
theorem r_stood_G0 {M : am_Mem} {a f hr hs lt : Nat} {k h : Nat → Nat} (hS : sp_M M a f hr hs lt k h) (hO : sp_ok a f hr lt k h) (oD : ∀ p q, p < 2 * a → q < 2 * a → h p = h q → p = q) {rn : Nat} {v : Nat → Nat} (hR : ∀ q, q < 8 → M 28 q = nI (v q)) (hv : ∀ q, v q < 4000) (hRn : M 17 24 = nI rn) (hrr : rn = 2 * a) {d : Nat} (hd : sp_dl v h (2 * a) = d) (hd2 : d < 2 * a) (h1 : sp_dc v h (2 * a) = 1) (h2 : sp_cn a f k h (d / 2) (d % 2) 9 (v d) = false) : am_go 149 (am_ent 149 [.ref 17, .int (nI 0)] M) (am_ri (fun x O => x = nI 0 ∧ ∀ a b, ¬ (a = 17 ∧ b = 25) → O a b = M a b)) := by
  obtain ⟨hF, hA, hHr, hHs, hLt, hK, hH⟩ := id hS
  obtain ⟨oA, oF, oHr, oLt, oK, oH⟩ := id hO
  have hvd := hv d
  refine am_goR 3 (s2 := (3, [.ref 17, .int (nI 0), .null], [.int (nI 1), .int (nI 0), .int (nI 0)], M)) rfl ?_
  refine am_goX (v := nI 1) (M2 := M) (s2 := (6, [.ref 17, .int (nI 0), .null], [], M)) rfl (t_isIn1 (x := 0) (by omega)) ?_
  refine am_goQ 7 (s1 := (26, [.ref 17, .int (nI 0), .null], [.int ((nI 2 * (M 17 3))), .int ((M 17 24))], M)) (s2 := (26, [.ref 17, .int (nI 0), .null], [.int (nI (2 * a)), .int (nI rn)], M)) rfl (by simp only [hA, pk_mul, hRn]) ?_
  refine am_bEQ (rn) ((2 * a)) (s1 := (36, [.ref 17, .int (nI 0), .null], [], M)) (s2 := (29, [.ref 17, .int (nI 0), .null], [], M)) rfl (by omega) (by omega) (fun c1 => ?_) (fun c1 => absurd c1 (by omega))
  refine am_goR 1 (s2 := (37, [.ref 17, .int (nI 0), .null], [.ref 17], M)) rfl ?_
  refine am_goC (s2 := (40, [.ref 17, .int (nI 0), .null], [], M)) rfl (t_unlike hS hO hR hv) (fun ux K hu => ?_)
  obtain ⟨u0, u1, u2⟩ := hu
  rw [h1] at u0
  subst u0
  have hS9 : sp_M K a f hr hs lt k h := ⟨(u1 _ _ (by omega)).trans hS.1, (u1 _ _ (by omega)).trans hS.2.1, (u1 _ _ (by omega)).trans hS.2.2.1, (u1 _ _ (by omega)).trans hS.2.2.2.1, (u1 _ _ (by omega)).trans hS.2.2.2.2.1, fun q hq => (u1 _ _ (by omega)).trans (hS.2.2.2.2.2.1 q hq), fun q hq => (u1 _ _ (by omega)).trans (hS.2.2.2.2.2.2 q hq)⟩
  have hR9 : ∀ q, q < 8 → K 28 q = nI (v q) := fun q hq => (u1 _ _ (by omega)).trans (hR q hq)
  have hU9 : K 17 25 = nI d := (u2 (by omega)).trans (by rw [hd])
  refine am_goQ 10 (s1 := (56, [.ref 17, .int (nI 0), .null], [.int (nI 2), .int ((K 17 25)), .int (((K 17 25) / nI 2)), .ref 17], K)) (s2 := (56, [.ref 17, .int (nI 0), .null], [.int (nI 2), .int (nI d), .int (nI (d / 2)), .ref 17], K)) rfl (by simp only [hU9, pk_div (a := d) (d := 2) (by omega) (by omega) (by omega)]) ?_
  refine am_goQ 5 (s1 := (65, [.ref 17, .int (nI 0), .null], [.int ((K 17 25)), .ref 28, .int ((nI d - nI d / nI 2 * nI 2)), .int (nI (d / 2)), .ref 17], K)) (s2 := (65, [.ref 17, .int (nI 0), .null], [.int (nI d), .ref 28, .int (nI (d % 2)), .int (nI (d / 2)), .ref 17], K)) rfl (by rw [pk_rem (a := d) (d := 2) (by omega) (by omega) (by omega)]; simp only [hU9]) ?_
  refine am_goL2 (pc := 66) (ls := [.ref 17, .int (nI 0), .null]) (r := [.int (nI (d % 2)), .int (nI (d / 2)), .ref 17]) (M := K) (a := 28) (n := 16) (d) (nI (v d)) rfl rfl (by omega) (by decide) (hR9 _ (by omega)) ?_
  refine am_goR 1 (s2 := (68, [.ref 17, .int (nI 0), .null], [.int ((-nI 9)), .int (nI (v d)), .int (nI (d % 2)), .int (nI (d / 2)), .ref 17], K)) rfl ?_
  refine am_goX (v := nI 0) (M2 := K) (s2 := (71, [.ref 17, .int (nI 0), .null], [], K)) rfl ((by have z := t_canStepX hS9 hO oD (i := (d / 2)) (by omega) (b := (d % 2)) (j := (v d)) (by omega) (by omega); rw [h2] at z; exact z)) ?_
  refine am_goR 9 (s2 := (94, [.ref 17, .int (nI 0), .int (nI 0)], [.int (nI 0)], K)) rfl ?_
  exact am_goE _ _ rfl ⟨_, rfl, rfl, u1⟩

set_option maxHeartbeats 4000000 in
theorem r_stood_F0 {M : am_Mem} {a f hr hs lt : Nat} {k h : Nat → Nat} (hS : sp_M M a f hr hs lt k h) (hO : sp_ok a f hr lt k h) (oD : ∀ p q, p < 2 * a → q < 2 * a → h p = h q → p = q) {rn : Nat} {v : Nat → Nat} (hR : ∀ q, q < 8 → M 28 q = nI (v q)) (hv : ∀ q, v q < 4000) (hRn : M 17 24 = nI rn) (hrr : rn = 2 * a) (h1 : ¬ sp_dc v h (2 * a) = 1) : am_go 149 (am_ent 149 [.ref 17, .int (nI 0)] M) (am_ri (fun x O => x = nI 0 ∧ ∀ a b, ¬ (a = 17 ∧ b = 25) → O a b = M a b)) := by
  obtain ⟨hF, hA, hHr, hHs, hLt, hK, hH⟩ := id hS
  obtain ⟨oA, oF, oHr, oLt, oK, oH⟩ := id hO
  have hdc := sp_dc_le (v := v) (h := h) (2 * a)
  refine am_goR 3 (s2 := (3, [.ref 17, .int (nI 0), .null], [.int (nI 1), .int (nI 0), .int (nI 0)], M)) rfl ?_
  refine am_goX (v := nI 1) (M2 := M) (s2 := (6, [.ref 17, .int (nI 0), .null], [], M)) rfl (t_isIn1 (x := 0) (by omega)) ?_
  refine am_goQ 7 (s1 := (26, [.ref 17, .int (nI 0), .null], [.int ((nI 2 * (M 17 3))), .int ((M 17 24))], M)) (s2 := (26, [.ref 17, .int (nI 0), .null], [.int (nI (2 * a)), .int (nI rn)], M)) rfl (by simp only [hA, pk_mul, hRn]) ?_
  refine am_bEQ (rn) ((2 * a)) (s1 := (36, [.ref 17, .int (nI 0), .null], [], M)) (s2 := (29, [.ref 17, .int (nI 0), .null], [], M)) rfl (by omega) (by omega) (fun c1 => ?_) (fun c1 => absurd c1 (by omega))
  refine am_goR 1 (s2 := (37, [.ref 17, .int (nI 0), .null], [.ref 17], M)) rfl ?_
  refine am_goC (s2 := (40, [.ref 17, .int (nI 0), .null], [], M)) rfl (t_unlike hS hO hR hv) (fun ux K hu => ?_)
  obtain ⟨u0, u1, u2⟩ := hu
  subst u0
  have hS9 : sp_M K a f hr hs lt k h := ⟨(u1 _ _ (by omega)).trans hS.1, (u1 _ _ (by omega)).trans hS.2.1, (u1 _ _ (by omega)).trans hS.2.2.1, (u1 _ _ (by omega)).trans hS.2.2.2.1, (u1 _ _ (by omega)).trans hS.2.2.2.2.1, fun q hq => (u1 _ _ (by omega)).trans (hS.2.2.2.2.2.1 q hq), fun q hq => (u1 _ _ (by omega)).trans (hS.2.2.2.2.2.2 q hq)⟩
  have hR9 : ∀ q, q < 8 → K 28 q = nI (v q) := fun q hq => (u1 _ _ (by omega)).trans (hR q hq)
  refine am_goR 1 (s2 := (41, [.ref 17, .int (nI 0), .null], [.int (nI 1), .int (nI (sp_dc v h (2 * a)))], K)) rfl ?_
  refine am_bNE ((sp_dc v h (2 * a))) (1) (s1 := (78, [.ref 17, .int (nI 0), .null], [], K)) (s2 := (44, [.ref 17, .int (nI 0), .null], [], K)) rfl (by omega) (by omega) (fun c2 => ?_) (fun c2 => absurd c2 (by omega))
  refine am_goR 8 (s2 := (94, [.ref 17, .int (nI 0), .int (nI 0)], [.int (nI 0)], K)) rfl ?_
  exact am_goE _ _ rfl ⟨_, rfl, rfl, u1⟩

set_option maxHeartbeats 4000000 in
theorem c_stood_r1 {M : am_Mem} {a f hr hs lt : Nat} {k h : Nat → Nat} (hS : sp_S 1 M a f hr hs lt k h) (hO : sp_ok a f hr lt k h) {rn : Nat} (hRn : M 0 7 = nI rn) (hr9 : rn ≤ 16) (hrr : ¬ rn = 2 * a) : am_go 74 (am_ent 74 [.ref 0, .int (nI 1)] M) (am_is (-nI 3) (am_set M 16 3 (M 16 3 + nI 1))) := by
  obtain ⟨hF, hA, hHr, hHs, hLt, hK, hH⟩ := id hS
  obtain ⟨oA, oF, oHr, oLt, oK, oH⟩ := id hO
  refine am_goQ 12 (s1 := (29, [.ref 0, .int (nI 1), .null], [.int ((nI 2 * (M 1 1))), .int ((M 0 7))], M)) (s2 := (29, [.ref 0, .int (nI 1), .null], [.int (nI (2 * a)), .int (nI rn)], M)) rfl (by simp only [hA, pk_mul, hRn]) ?_
  refine am_bEQ (rn) ((2 * a)) (s1 := (39, [.ref 0, .int (nI 1), .null], [], M)) (s2 := (32, [.ref 0, .int (nI 1), .null], [], M)) rfl (by omega) (by omega) (fun c1 => absurd c1 (by omega)) (fun c1 => ?_)
  refine am_goR 2 (s2 := (35, [.ref 0, .int (nI 1), .null], [.int ((-nI 3)), .ref 0], M)) rfl ?_
  refine am_goX (v := (-nI 3)) (M2 := (am_set M 16 3 (M 16 3 + nI 1))) (s2 := (38, [.ref 0, .int (nI 1), .null], [], M)) rfl (s_refuse_3) ?_
  exact am_ends (-nI 3) _ rfl rfl rfl

set_option maxHeartbeats 4000000 in
theorem r_stood_r1 {M : am_Mem} {a f hr hs lt : Nat} {k h : Nat → Nat} (hS : sp_M M a f hr hs lt k h) (hO : sp_ok a f hr lt k h) (oD : ∀ p q, p < 2 * a → q < 2 * a → h p = h q → p = q) {rn : Nat} (hRn : M 17 24 = nI rn) (hr9 : rn ≤ 16) (hrr : ¬ rn = 2 * a) : am_go 149 (am_ent 149 [.ref 17, .int (nI 1)] M) (am_is (-nI 3) (am_set M 18 3 (M 18 3 + nI 1))) := by
  obtain ⟨hF, hA, hHr, hHs, hLt, hK, hH⟩ := id hS
  obtain ⟨oA, oF, oHr, oLt, oK, oH⟩ := id hO
  refine am_goR 3 (s2 := (3, [.ref 17, .int (nI 1), .null], [.int (nI 1), .int (nI 0), .int (nI 1)], M)) rfl ?_
  refine am_goX (v := nI 1) (M2 := M) (s2 := (6, [.ref 17, .int (nI 1), .null], [], M)) rfl (t_isIn1 (x := 1) (by omega)) ?_
  refine am_goQ 7 (s1 := (26, [.ref 17, .int (nI 1), .null], [.int ((nI 2 * (M 17 3))), .int ((M 17 24))], M)) (s2 := (26, [.ref 17, .int (nI 1), .null], [.int (nI (2 * a)), .int (nI rn)], M)) rfl (by simp only [hA, pk_mul, hRn]) ?_
  refine am_bEQ (rn) ((2 * a)) (s1 := (36, [.ref 17, .int (nI 1), .null], [], M)) (s2 := (29, [.ref 17, .int (nI 1), .null], [], M)) rfl (by omega) (by omega) (fun c1 => absurd c1 (by omega)) (fun c1 => ?_)
  refine am_goR 2 (s2 := (32, [.ref 17, .int (nI 1), .null], [.int ((-nI 3)), .ref 17], M)) rfl ?_
  refine am_goX (v := (-nI 3)) (M2 := (am_set M 18 3 (M 18 3 + nI 1))) (s2 := (35, [.ref 17, .int (nI 1), .null], [], M)) rfl (t_no_3) ?_
  exact am_ends (-nI 3) _ rfl rfl rfl

set_option maxHeartbeats 4000000 in
theorem c_stood_T1 {M : am_Mem} {a f hr hs lt : Nat} {k h : Nat → Nat} (hS : sp_S 1 M a f hr hs lt k h) (hO : sp_ok a f hr lt k h) {rn : Nat} {v : Nat → Nat} (hR : ∀ q, q < 8 → M 15 q = nI (v q)) (hv : ∀ q, v q < 4000) (hRn : M 0 7 = nI rn) (hrr : rn = 2 * a) {d : Nat} (hd : sp_dl v h (2 * a) = d) (hd2 : d < 2 * a) (h1 : sp_dc v h (2 * a) = 1) (h2 : sp_cn a f k h (d / 2) (d % 2) 9 (v d) = true) : am_go 74 (am_ent 74 [.ref 0, .int (nI 1)] M) (am_is (nI (((1000 * (d / 2)) + (100 * (d % 2))) + (v d))) M) := by
  obtain ⟨hF, hA, hHr, hHs, hLt, hK, hH⟩ := id hS
  obtain ⟨oA, oF, oHr, oLt, oK, oH⟩ := id hO
  have hvd := hv d
  refine am_goQ 12 (s1 := (29, [.ref 0, .int (nI 1), .null], [.int ((nI 2 * (M 1 1))), .int ((M 0 7))], M)) (s2 := (29, [.ref 0, .int (nI 1), .null], [.int (nI (2 * a)), .int (nI rn)], M)) rfl (by simp only [hA, pk_mul, hRn]) ?_
  refine am_bEQ (rn) ((2 * a)) (s1 := (39, [.ref 0, .int (nI 1), .null], [], M)) (s2 := (32, [.ref 0, .int (nI 1), .null], [], M)) rfl (by omega) (by omega) (fun c1 => ?_) (fun c1 => absurd c1 (by omega))
  refine am_goR 4 (s2 := (47, [.ref 0, .int (nI 1), .null], [.ref 15, .ref 1], M)) rfl ?_
  refine am_goX (v := nI (((1000 * (d / 2)) + (100 * (d % 2))) + (v d))) (M2 := M) (s2 := (50, [.ref 0, .int (nI 1), .null], [], M)) rfl ((by have z := s_onlyStepTo_1 hS hO hR hv; rw [sp_os_T hd h1 h2] at z; exact z)) ?_
  refine am_goR 5 (s2 := (57, [.ref 0, .int (nI 1), .int (nI (((1000 * (d / 2)) + (100 * (d % 2))) + (v d)))], [.int (nI (((1000 * (d / 2)) + (100 * (d % 2))) + (v d)))], M)) rfl ?_
  exact am_ends (nI (((1000 * (d / 2)) + (100 * (d % 2))) + (v d))) _ rfl (by rfl) (rfl)

set_option maxHeartbeats 4000000 in
theorem c_stood_F1 {M : am_Mem} {a f hr hs lt : Nat} {k h : Nat → Nat} (hS : sp_S 1 M a f hr hs lt k h) (hO : sp_ok a f hr lt k h) {rn : Nat} {v : Nat → Nat} (hR : ∀ q, q < 8 → M 15 q = nI (v q)) (hv : ∀ q, v q < 4000) (hRn : M 0 7 = nI rn) (hrr : rn = 2 * a) (hno : ¬ (sp_dc v h (2 * a) = 1 ∧ sp_cn a f k h (sp_dl v h (2 * a) / 2) (sp_dl v h (2 * a) % 2) 9 (v (sp_dl v h (2 * a))) = true)) : am_go 74 (am_ent 74 [.ref 0, .int (nI 1)] M) (am_is (-nI 9) M) := by
  obtain ⟨hF, hA, hHr, hHs, hLt, hK, hH⟩ := id hS
  obtain ⟨oA, oF, oHr, oLt, oK, oH⟩ := id hO
  refine am_goQ 12 (s1 := (29, [.ref 0, .int (nI 1), .null], [.int ((nI 2 * (M 1 1))), .int ((M 0 7))], M)) (s2 := (29, [.ref 0, .int (nI 1), .null], [.int (nI (2 * a)), .int (nI rn)], M)) rfl (by simp only [hA, pk_mul, hRn]) ?_
  refine am_bEQ (rn) ((2 * a)) (s1 := (39, [.ref 0, .int (nI 1), .null], [], M)) (s2 := (32, [.ref 0, .int (nI 1), .null], [], M)) rfl (by omega) (by omega) (fun c1 => ?_) (fun c1 => absurd c1 (by omega))
  refine am_goR 4 (s2 := (47, [.ref 0, .int (nI 1), .null], [.ref 15, .ref 1], M)) rfl ?_
  refine am_goX (v := (-nI 9)) (M2 := M) (s2 := (50, [.ref 0, .int (nI 1), .null], [], M)) rfl ((by have z := s_onlyStepTo_1 hS hO hR hv; rw [sp_os_F hno] at z; exact z)) ?_
  refine am_goR 5 (s2 := (57, [.ref 0, .int (nI 1), .int ((-nI 9))], [.int ((-nI 9))], M)) rfl ?_
  exact am_ends ((-nI 9)) _ rfl (by rfl) (rfl)

set_option maxHeartbeats 4000000 in
theorem r_stood_T1 {M : am_Mem} {a f hr hs lt : Nat} {k h : Nat → Nat} (hS : sp_M M a f hr hs lt k h) (hO : sp_ok a f hr lt k h) (oD : ∀ p q, p < 2 * a → q < 2 * a → h p = h q → p = q) {rn : Nat} {v : Nat → Nat} (hR : ∀ q, q < 8 → M 28 q = nI (v q)) (hv : ∀ q, v q < 4000) (hRn : M 17 24 = nI rn) (hrr : rn = 2 * a) {d : Nat} (hd : sp_dl v h (2 * a) = d) (hd2 : d < 2 * a) (h1 : sp_dc v h (2 * a) = 1) (h2 : sp_cn a f k h (d / 2) (d % 2) 9 (v d) = true) : am_go 149 (am_ent 149 [.ref 17, .int (nI 1)] M) (am_ri (fun x O => x = nI (((1000 * (d / 2)) + (100 * (d % 2))) + (v d)) ∧ ∀ a b, ¬ (a = 17 ∧ b = 25) → O a b = M a b)) := by
  obtain ⟨hF, hA, hHr, hHs, hLt, hK, hH⟩ := id hS
  obtain ⟨oA, oF, oHr, oLt, oK, oH⟩ := id hO
  have hvd := hv d
  refine am_goR 3 (s2 := (3, [.ref 17, .int (nI 1), .null], [.int (nI 1), .int (nI 0), .int (nI 1)], M)) rfl ?_
  refine am_goX (v := nI 1) (M2 := M) (s2 := (6, [.ref 17, .int (nI 1), .null], [], M)) rfl (t_isIn1 (x := 1) (by omega)) ?_
  refine am_goQ 7 (s1 := (26, [.ref 17, .int (nI 1), .null], [.int ((nI 2 * (M 17 3))), .int ((M 17 24))], M)) (s2 := (26, [.ref 17, .int (nI 1), .null], [.int (nI (2 * a)), .int (nI rn)], M)) rfl (by simp only [hA, pk_mul, hRn]) ?_
  refine am_bEQ (rn) ((2 * a)) (s1 := (36, [.ref 17, .int (nI 1), .null], [], M)) (s2 := (29, [.ref 17, .int (nI 1), .null], [], M)) rfl (by omega) (by omega) (fun c1 => ?_) (fun c1 => absurd c1 (by omega))
  refine am_goR 1 (s2 := (37, [.ref 17, .int (nI 1), .null], [.ref 17], M)) rfl ?_
  refine am_goC (s2 := (40, [.ref 17, .int (nI 1), .null], [], M)) rfl (t_unlike hS hO hR hv) (fun ux K hu => ?_)
  obtain ⟨u0, u1, u2⟩ := hu
  rw [h1] at u0
  subst u0
  have hS9 : sp_M K a f hr hs lt k h := ⟨(u1 _ _ (by omega)).trans hS.1, (u1 _ _ (by omega)).trans hS.2.1, (u1 _ _ (by omega)).trans hS.2.2.1, (u1 _ _ (by omega)).trans hS.2.2.2.1, (u1 _ _ (by omega)).trans hS.2.2.2.2.1, fun q hq => (u1 _ _ (by omega)).trans (hS.2.2.2.2.2.1 q hq), fun q hq => (u1 _ _ (by omega)).trans (hS.2.2.2.2.2.2 q hq)⟩
  have hR9 : ∀ q, q < 8 → K 28 q = nI (v q) := fun q hq => (u1 _ _ (by omega)).trans (hR q hq)
  have hU9 : K 17 25 = nI d := (u2 (by omega)).trans (by rw [hd])
  refine am_goQ 10 (s1 := (56, [.ref 17, .int (nI 1), .null], [.int (nI 2), .int ((K 17 25)), .int (((K 17 25) / nI 2)), .ref 17], K)) (s2 := (56, [.ref 17, .int (nI 1), .null], [.int (nI 2), .int (nI d), .int (nI (d / 2)), .ref 17], K)) rfl (by simp only [hU9, pk_div (a := d) (d := 2) (by omega) (by omega) (by omega)]) ?_
  refine am_goQ 5 (s1 := (65, [.ref 17, .int (nI 1), .null], [.int ((K 17 25)), .ref 28, .int ((nI d - nI d / nI 2 * nI 2)), .int (nI (d / 2)), .ref 17], K)) (s2 := (65, [.ref 17, .int (nI 1), .null], [.int (nI d), .ref 28, .int (nI (d % 2)), .int (nI (d / 2)), .ref 17], K)) rfl (by rw [pk_rem (a := d) (d := 2) (by omega) (by omega) (by omega)]; simp only [hU9]) ?_
  refine am_goL2 (pc := 66) (ls := [.ref 17, .int (nI 1), .null]) (r := [.int (nI (d % 2)), .int (nI (d / 2)), .ref 17]) (M := K) (a := 28) (n := 16) (d) (nI (v d)) rfl rfl (by omega) (by decide) (hR9 _ (by omega)) ?_
  refine am_goR 1 (s2 := (68, [.ref 17, .int (nI 1), .null], [.int ((-nI 9)), .int (nI (v d)), .int (nI (d % 2)), .int (nI (d / 2)), .ref 17], K)) rfl ?_
  refine am_goX (v := nI 1) (M2 := K) (s2 := (71, [.ref 17, .int (nI 1), .null], [], K)) rfl ((by have z := t_canStepX hS9 hO oD (i := (d / 2)) (by omega) (b := (d % 2)) (j := (v d)) (by omega) (by omega); rw [h2] at z; exact z)) ?_
  refine am_goQ 18 (s1 := (120, [.ref 17, .int (nI 1), .int (nI 1)], [.int (nI 2), .int ((K 17 25)), .int (nI 100), .int ((nI 1000 * ((K 17 25) / nI 2)))], K)) (s2 := (120, [.ref 17, .int (nI 1), .int (nI 1)], [.int (nI 2), .int (nI d), .int (nI 100), .int (nI (1000 * (d / 2)))], K)) rfl (by simp only [hU9, pk_div (a := d) (d := 2) (by omega) (by omega) (by omega), pk_mul]) ?_
  refine am_goQ 7 (s1 := (131, [.ref 17, .int (nI 1), .int (nI 1)], [.int ((K 17 25)), .ref 28, .int ((nI (1000 * (d / 2)) + (nI 100 * (nI d - nI d / nI 2 * nI 2))))], K)) (s2 := (131, [.ref 17, .int (nI 1), .int (nI 1)], [.int (nI d), .ref 28, .int (nI ((1000 * (d / 2)) + (100 * (d % 2))))], K)) rfl (by rw [pk_rem (a := d) (d := 2) (by omega) (by omega) (by omega)]; simp only [hU9, pk_mul, nI_add]) ?_
  refine am_goL2 (pc := 132) (ls := [.ref 17, .int (nI 1), .int (nI 1)]) (r := [.int (nI ((1000 * (d / 2)) + (100 * (d % 2))))]) (M := K) (a := 28) (n := 16) (d) (nI (v d)) rfl rfl (by omega) (by decide) (hR9 _ (by omega)) ?_
  refine am_goQ 1 (s1 := (133, [.ref 17, .int (nI 1), .int (nI 1)], [.int ((nI ((1000 * (d / 2)) + (100 * (d % 2))) + nI (v d)))], K)) (s2 := (133, [.ref 17, .int (nI 1), .int (nI 1)], [.int (nI (((1000 * (d / 2)) + (100 * (d % 2))) + (v d)))], K)) rfl (by simp only [nI_add]) ?_
  exact am_goE _ _ rfl ⟨_, rfl, rfl, u1⟩

set_option maxHeartbeats 4000000 in
theorem r_stood_G1 {M : am_Mem} {a f hr hs lt : Nat} {k h : Nat → Nat} (hS : sp_M M a f hr hs lt k h) (hO : sp_ok a f hr lt k h) (oD : ∀ p q, p < 2 * a → q < 2 * a → h p = h q → p = q) {rn : Nat} {v : Nat → Nat} (hR : ∀ q, q < 8 → M 28 q = nI (v q)) (hv : ∀ q, v q < 4000) (hRn : M 17 24 = nI rn) (hrr : rn = 2 * a) {d : Nat} (hd : sp_dl v h (2 * a) = d) (hd2 : d < 2 * a) (h1 : sp_dc v h (2 * a) = 1) (h2 : sp_cn a f k h (d / 2) (d % 2) 9 (v d) = false) : am_go 149 (am_ent 149 [.ref 17, .int (nI 1)] M) (am_ri (fun x O => x = -nI 9 ∧ ∀ a b, ¬ (a = 17 ∧ b = 25) → O a b = M a b)) := by
  obtain ⟨hF, hA, hHr, hHs, hLt, hK, hH⟩ := id hS
  obtain ⟨oA, oF, oHr, oLt, oK, oH⟩ := id hO
  have hvd := hv d
  refine am_goR 3 (s2 := (3, [.ref 17, .int (nI 1), .null], [.int (nI 1), .int (nI 0), .int (nI 1)], M)) rfl ?_
  refine am_goX (v := nI 1) (M2 := M) (s2 := (6, [.ref 17, .int (nI 1), .null], [], M)) rfl (t_isIn1 (x := 1) (by omega)) ?_
  refine am_goQ 7 (s1 := (26, [.ref 17, .int (nI 1), .null], [.int ((nI 2 * (M 17 3))), .int ((M 17 24))], M)) (s2 := (26, [.ref 17, .int (nI 1), .null], [.int (nI (2 * a)), .int (nI rn)], M)) rfl (by simp only [hA, pk_mul, hRn]) ?_
  refine am_bEQ (rn) ((2 * a)) (s1 := (36, [.ref 17, .int (nI 1), .null], [], M)) (s2 := (29, [.ref 17, .int (nI 1), .null], [], M)) rfl (by omega) (by omega) (fun c1 => ?_) (fun c1 => absurd c1 (by omega))
  refine am_goR 1 (s2 := (37, [.ref 17, .int (nI 1), .null], [.ref 17], M)) rfl ?_
  refine am_goC (s2 := (40, [.ref 17, .int (nI 1), .null], [], M)) rfl (t_unlike hS hO hR hv) (fun ux K hu => ?_)
  obtain ⟨u0, u1, u2⟩ := hu
  rw [h1] at u0
  subst u0
  have hS9 : sp_M K a f hr hs lt k h := ⟨(u1 _ _ (by omega)).trans hS.1, (u1 _ _ (by omega)).trans hS.2.1, (u1 _ _ (by omega)).trans hS.2.2.1, (u1 _ _ (by omega)).trans hS.2.2.2.1, (u1 _ _ (by omega)).trans hS.2.2.2.2.1, fun q hq => (u1 _ _ (by omega)).trans (hS.2.2.2.2.2.1 q hq), fun q hq => (u1 _ _ (by omega)).trans (hS.2.2.2.2.2.2 q hq)⟩
  have hR9 : ∀ q, q < 8 → K 28 q = nI (v q) := fun q hq => (u1 _ _ (by omega)).trans (hR q hq)
  have hU9 : K 17 25 = nI d := (u2 (by omega)).trans (by rw [hd])
  refine am_goQ 10 (s1 := (56, [.ref 17, .int (nI 1), .null], [.int (nI 2), .int ((K 17 25)), .int (((K 17 25) / nI 2)), .ref 17], K)) (s2 := (56, [.ref 17, .int (nI 1), .null], [.int (nI 2), .int (nI d), .int (nI (d / 2)), .ref 17], K)) rfl (by simp only [hU9, pk_div (a := d) (d := 2) (by omega) (by omega) (by omega)]) ?_
  refine am_goQ 5 (s1 := (65, [.ref 17, .int (nI 1), .null], [.int ((K 17 25)), .ref 28, .int ((nI d - nI d / nI 2 * nI 2)), .int (nI (d / 2)), .ref 17], K)) (s2 := (65, [.ref 17, .int (nI 1), .null], [.int (nI d), .ref 28, .int (nI (d % 2)), .int (nI (d / 2)), .ref 17], K)) rfl (by rw [pk_rem (a := d) (d := 2) (by omega) (by omega) (by omega)]; simp only [hU9]) ?_
  refine am_goL2 (pc := 66) (ls := [.ref 17, .int (nI 1), .null]) (r := [.int (nI (d % 2)), .int (nI (d / 2)), .ref 17]) (M := K) (a := 28) (n := 16) (d) (nI (v d)) rfl rfl (by omega) (by decide) (hR9 _ (by omega)) ?_
  refine am_goR 1 (s2 := (68, [.ref 17, .int (nI 1), .null], [.int ((-nI 9)), .int (nI (v d)), .int (nI (d % 2)), .int (nI (d / 2)), .ref 17], K)) rfl ?_
  refine am_goX (v := nI 0) (M2 := K) (s2 := (71, [.ref 17, .int (nI 1), .null], [], K)) rfl ((by have z := t_canStepX hS9 hO oD (i := (d / 2)) (by omega) (b := (d % 2)) (j := (v d)) (by omega) (by omega); rw [h2] at z; exact z)) ?_
  refine am_goR 8 (s2 := (94, [.ref 17, .int (nI 1), .int (nI 0)], [.int ((-nI 9))], K)) rfl ?_
  exact am_goE _ _ rfl ⟨_, rfl, rfl, u1⟩

set_option maxHeartbeats 4000000 in
theorem r_stood_F1 {M : am_Mem} {a f hr hs lt : Nat} {k h : Nat → Nat} (hS : sp_M M a f hr hs lt k h) (hO : sp_ok a f hr lt k h) (oD : ∀ p q, p < 2 * a → q < 2 * a → h p = h q → p = q) {rn : Nat} {v : Nat → Nat} (hR : ∀ q, q < 8 → M 28 q = nI (v q)) (hv : ∀ q, v q < 4000) (hRn : M 17 24 = nI rn) (hrr : rn = 2 * a) (h1 : ¬ sp_dc v h (2 * a) = 1) : am_go 149 (am_ent 149 [.ref 17, .int (nI 1)] M) (am_ri (fun x O => x = -nI 9 ∧ ∀ a b, ¬ (a = 17 ∧ b = 25) → O a b = M a b)) := by
  obtain ⟨hF, hA, hHr, hHs, hLt, hK, hH⟩ := id hS
  obtain ⟨oA, oF, oHr, oLt, oK, oH⟩ := id hO
  have hdc := sp_dc_le (v := v) (h := h) (2 * a)
  refine am_goR 3 (s2 := (3, [.ref 17, .int (nI 1), .null], [.int (nI 1), .int (nI 0), .int (nI 1)], M)) rfl ?_
  refine am_goX (v := nI 1) (M2 := M) (s2 := (6, [.ref 17, .int (nI 1), .null], [], M)) rfl (t_isIn1 (x := 1) (by omega)) ?_
  refine am_goQ 7 (s1 := (26, [.ref 17, .int (nI 1), .null], [.int ((nI 2 * (M 17 3))), .int ((M 17 24))], M)) (s2 := (26, [.ref 17, .int (nI 1), .null], [.int (nI (2 * a)), .int (nI rn)], M)) rfl (by simp only [hA, pk_mul, hRn]) ?_
  refine am_bEQ (rn) ((2 * a)) (s1 := (36, [.ref 17, .int (nI 1), .null], [], M)) (s2 := (29, [.ref 17, .int (nI 1), .null], [], M)) rfl (by omega) (by omega) (fun c1 => ?_) (fun c1 => absurd c1 (by omega))
  refine am_goR 1 (s2 := (37, [.ref 17, .int (nI 1), .null], [.ref 17], M)) rfl ?_
  refine am_goC (s2 := (40, [.ref 17, .int (nI 1), .null], [], M)) rfl (t_unlike hS hO hR hv) (fun ux K hu => ?_)
  obtain ⟨u0, u1, u2⟩ := hu
  subst u0
  have hS9 : sp_M K a f hr hs lt k h := ⟨(u1 _ _ (by omega)).trans hS.1, (u1 _ _ (by omega)).trans hS.2.1, (u1 _ _ (by omega)).trans hS.2.2.1, (u1 _ _ (by omega)).trans hS.2.2.2.1, (u1 _ _ (by omega)).trans hS.2.2.2.2.1, fun q hq => (u1 _ _ (by omega)).trans (hS.2.2.2.2.2.1 q hq), fun q hq => (u1 _ _ (by omega)).trans (hS.2.2.2.2.2.2 q hq)⟩
  have hR9 : ∀ q, q < 8 → K 28 q = nI (v q) := fun q hq => (u1 _ _ (by omega)).trans (hR q hq)
  refine am_goR 1 (s2 := (41, [.ref 17, .int (nI 1), .null], [.int (nI 1), .int (nI (sp_dc v h (2 * a)))], K)) rfl ?_
  refine am_bNE ((sp_dc v h (2 * a))) (1) (s1 := (78, [.ref 17, .int (nI 1), .null], [], K)) (s2 := (44, [.ref 17, .int (nI 1), .null], [], K)) rfl (by omega) (by omega) (fun c2 => ?_) (fun c2 => absurd c2 (by omega))
  refine am_goR 7 (s2 := (94, [.ref 17, .int (nI 1), .int (nI 0)], [.int ((-nI 9))], K)) rfl ?_
  exact am_goE _ _ rfl ⟨_, rfl, rfl, u1⟩

theorem sp_PPs {j1 j2 : Nat} {as : List Value} {M : am_Mem} {z : sp_Z} {v : Int32} (hC : sp_IC M z) (hR : sp_IR M z) (hG : sp_IG z) (h1 : am_go j1 (am_ent j1 (.ref 0 :: as) M) (am_ri (fun x O => x = v ∧ ∀ a b, ¬ (a = 4 ∨ a = 5 ∨ a = 6) → O a b = M a b))) (h2 : ∀ N, sp_IR N z → am_go j2 (am_ent j2 (.ref 17 :: as) N) (am_ri (fun x O => x = v ∧ sp_fH N O ∧ sp_IR O z))) : sp_PP j1 j2 as M := sp_comb hR (am_goW h1 (fun r N hN => by
  obtain ⟨x, rfl, rfl, hf⟩ := hN
  exact ⟨_, rfl, rfl, fun a b c => hf a b (by omega), hC.fr (fun a b c => hf a b (by unfold sp_sC at c; omega))⟩)) (fun N hN => h2 N hN) hG
theorem sp_rPs {j : Nat} {s : am_St} {N : am_Mem} {z : sp_Z} {v : Int32} (hN : sp_IR N z) (h : am_go j s (am_ri (fun x O => x = v ∧ ∀ a b, ¬ (a = 17 ∧ b = 25) → O a b = N a b))) : am_go j s (am_ri (fun x O => x = v ∧ sp_fH N O ∧ sp_IR O z)) := am_goW h (fun r O hO => by
  obtain ⟨x, rfl, rfl, hf⟩ := hO
  exact ⟨_, rfl, rfl, fun a b c => hf a b (by omega), hN.fr (fun a b c => hf a b (by unfold sp_sR at c; omega))⟩)
theorem sp_ris {j : Nat} {s : am_St} {M : am_Mem} {v : Int32} (h : am_go j s (am_is v M)) : am_go j s (am_ri (fun x O => x = v ∧ ∀ a b, ¬ (a = 4 ∨ a = 5 ∨ a = 6) → O a b = M a b)) := am_goW h (fun r O hO => by
  obtain ⟨x, rfl, rfl, rfl⟩ := hO
  exact ⟨_, rfl, rfl, fun _ _ _ => rfl⟩)

theorem pp_stood {M : am_Mem} (hI : sp_Inv M) (x : Int32) : sp_PP 74 149 [.int x] M := by
  obtain ⟨⟨⟨a, f, hr, hs, lt, k, h⟩, t, w2, n, tx, rn, ro, rf⟩, hC, hR, hG⟩ := hI
  have hO := hG.1.1
  have oD := hG.1.2.2.1
  have oFx := hG.1.2.2.2
  have oA := hO.1
  have oHs := hG.1.2.1
  dsimp only at oD oFx oA oHs
  have hO : sp_ok a f hr lt k h := hO
  have hS1 : sp_S 1 M a f hr hs lt k h := hC.1
  have hM1 : ∀ N, sp_IR N ((a, f, hr, hs, lt, k, h), t, w2, n, tx, rn, ro, rf) → sp_M N a f hr hs lt k h := fun N hN => hN.1
  have hLc : M 13 1 = nI n := hC.2.2.2.1
  have hRc : M 0 7 = nI rn := hC.2.2.2.2.2.1
  have hLm : ∀ N, sp_IR N ((a, f, hr, hs, lt, k, h), t, w2, n, tx, rn, ro, rf) → N 17 12 = nI n := fun N hN => hN.2.2.2.1
  have hRm : ∀ N, sp_IR N ((a, f, hr, hs, lt, k, h), t, w2, n, tx, rn, ro, rf) → N 17 24 = nI rn := fun N hN => hN.2.2.2.2.2.1
  have hro : ∀ q, ro q < 4000 := fun q => Nat.lt_trans (hG.2.2.2.2.2 q) (by decide)
  have hr16 : rn ≤ 16 := hG.2.2.2.2.1
  have hro15 : ∀ q, q < 8 → M 15 q = nI (ro q) := fun q hq => hC.2.2.2.2.2.2.1 q (by omega)
  have hro28 : ∀ N, sp_IR N ((a, f, hr, hs, lt, k, h), t, w2, n, tx, rn, ro, rf) → ∀ q, q < 8 → N 28 q = nI (ro q) := fun N hN q hq => hN.2.2.2.2.2.2.1 q (by omega)
  rcases am_in_cs x (n := 2) (by omega) with hx | ⟨i, hi, rfl⟩
  · have h0 : ¬ x = 0 := fun z => by subst z; revert hx; decide +kernel
    have h1 : ¬ x = nI 1 := fun z => by subst z; revert hx; decide +kernel
    exact sp_PPr 2 (by decide) hC hR hG (c_stood_0 hS1 hO hx h0 h1) (fun N hN => r_stood_0 (hM1 N hN) hO oD hx h0 h1)
  · by_cases hrr : rn = 2 * a
    · rcases (show i = 0 ∨ i = 1 by omega) with rfl | rfl
      · by_cases hc1 : sp_dc ro h (2 * a) = 1
        · have hdl := (sp_dl_lt (v := ro) (h := h) (2 * a) (by omega)).1
          cases hc2 : sp_cn a f k h (sp_dl ro h (2 * a) / 2) (sp_dl ro h (2 * a) % 2) 9 (ro (sp_dl ro h (2 * a))) with
          | true => exact sp_PPs hC hR hG (sp_ris (c_stood_T0 hS1 hO hro15 hro hRc hrr rfl hdl hc1 hc2)) (fun N hN => sp_rPs hN (r_stood_T0 (hM1 N hN) hO oD (hro28 N hN) hro (hRm N hN) hrr rfl hdl hc1 hc2))
          | false => exact sp_PPs hC hR hG (sp_ris (c_stood_F0 hS1 hO hro15 hro hRc hrr (fun z => by rw [hc2] at z; exact absurd z.2 (by decide)))) (fun N hN => sp_rPs hN (r_stood_G0 (hM1 N hN) hO oD (hro28 N hN) hro (hRm N hN) hrr rfl hdl hc1 hc2))
        · exact sp_PPs hC hR hG (sp_ris (c_stood_F0 hS1 hO hro15 hro hRc hrr (fun z => hc1 z.1))) (fun N hN => sp_rPs hN (r_stood_F0 (hM1 N hN) hO oD (hro28 N hN) hro (hRm N hN) hrr hc1))
  
      · by_cases hc1 : sp_dc ro h (2 * a) = 1
        · have hdl := (sp_dl_lt (v := ro) (h := h) (2 * a) (by omega)).1
          cases hc2 : sp_cn a f k h (sp_dl ro h (2 * a) / 2) (sp_dl ro h (2 * a) % 2) 9 (ro (sp_dl ro h (2 * a))) with
          | true => exact sp_PPs hC hR hG (sp_ris (c_stood_T1 hS1 hO hro15 hro hRc hrr rfl hdl hc1 hc2)) (fun N hN => sp_rPs hN (r_stood_T1 (hM1 N hN) hO oD (hro28 N hN) hro (hRm N hN) hrr rfl hdl hc1 hc2))
          | false => exact sp_PPs hC hR hG (sp_ris (c_stood_F1 hS1 hO hro15 hro hRc hrr (fun z => by rw [hc2] at z; exact absurd z.2 (by decide)))) (fun N hN => sp_rPs hN (r_stood_G1 (hM1 N hN) hO oD (hro28 N hN) hro (hRm N hN) hrr rfl hdl hc1 hc2))
        · exact sp_PPs hC hR hG (sp_ris (c_stood_F1 hS1 hO hro15 hro hRc hrr (fun z => hc1 z.1))) (fun N hN => sp_rPs hN (r_stood_F1 (hM1 N hN) hO oD (hro28 N hN) hro (hRm N hN) hrr hc1))
  
    · rcases (show i = 0 ∨ i = 1 by omega) with rfl | rfl
      · exact sp_PPr 3 (by decide) hC hR hG (c_stood_r0 hS1 hO hRc hr16 hrr) (fun N hN => r_stood_r0 (hM1 N hN) hO oD (hRm N hN) hr16 hrr)
      · exact sp_PPr 3 (by decide) hC hR hG (c_stood_r1 hS1 hO hRc hr16 hrr) (fun N hN => r_stood_r1 (hM1 N hN) hO oD (hRm N hN) hr16 hrr)

