/-! calls: back -/
set_option maxHeartbeats 4000000 in
theorem c_back_r {M : am_Mem} {a f hr hs lt : Nat} {k h : Nat → Nat} (hS : sp_S 1 M a f hr hs lt k h) (hO : sp_ok a f hr lt k h) {rn : Nat} (hRn : M 0 7 = nI rn) (hr9 : rn ≤ 16) (hrr : ¬ rn = 2 * a) : am_go 75 (am_ent 75 [.ref 0] M) (am_ri (fun x O => x = -nI 3 ∧ ∃ K : am_Mem, (∀ a b, ¬ (a = 4 ∨ a = 5 ∨ a = 6) → K a b = M a b) ∧ O = am_set K 16 3 (K 16 3 + nI 1))) := by
  obtain ⟨hF, hA, hHr, hHs, hLt, hK, hH⟩ := id hS
  obtain ⟨oA, oF, oHr, oLt, oK, oH⟩ := id hO
  refine am_goR 4 (s2 := (8, [.ref 0], [.ref 1, .ref 4], M)) rfl ?_
  refine am_goV (s2 := (11, [.ref 0], [], M)) rfl (s_become_4_1 hS) (fun K hk => ?_)
  obtain ⟨k1, k2⟩ := hk
  have kf : ∀ a b, ¬ (a = 4 ∨ a = 5 ∨ a = 6) → K a b = M a b := fun x y z => congrFun (k1 x (by omega) (by omega) (by omega)) y
  have hRn9 : K 0 7 = nI rn := (kf _ _ (by omega)).trans hRn
  have hA9 : K 1 1 = nI a := (kf _ _ (by omega)).trans hS.2.1
  refine am_goQ 7 (s1 := (24, [.ref 0], [.int ((nI 2 * (K 1 1))), .int ((K 0 7))], K)) (s2 := (24, [.ref 0], [.int (nI (2 * a)), .int (nI rn)], K)) rfl (by simp only [hA9, pk_mul, hRn9]) ?_
  refine am_bNE (rn) ((2 * a)) (s1 := (41, [.ref 0], [], K)) (s2 := (27, [.ref 0], [], K)) rfl (by omega) (by omega) (fun c1 => ?_) (fun c1 => absurd c1 (by omega))
  refine am_goR 2 (s2 := (44, [.ref 0], [.int ((-nI 3)), .ref 0], K)) rfl ?_
  refine am_goX (v := (-nI 3)) (M2 := (am_set K 16 3 (K 16 3 + nI 1))) (s2 := (47, [.ref 0], [], K)) rfl (s_refuse_3) ?_
  exact am_goE _ _ rfl ⟨_, rfl, rfl, K, kf, rfl⟩

set_option maxHeartbeats 4000000 in
theorem c_back_s {M : am_Mem} {a f hr hs lt : Nat} {k h : Nat → Nat} (hS : sp_S 1 M a f hr hs lt k h) (hO : sp_ok a f hr lt k h) {rn : Nat} {v : Nat → Nat} (hR : ∀ q, q < 8 → M 15 q = nI (v q)) (hv : ∀ q, v q < 4000) (hRn : M 0 7 = nI rn) (hrr : rn = 2 * a) (hcs : sp_cs a f k v = false) : am_go 75 (am_ent 75 [.ref 0] M) (am_ri (fun x O => x = -nI 3 ∧ ∃ K : am_Mem, (∀ a b, ¬ (a = 4 ∨ a = 5 ∨ a = 6) → K a b = M a b) ∧ O = am_set K 16 3 (K 16 3 + nI 1))) := by
  obtain ⟨hF, hA, hHr, hHs, hLt, hK, hH⟩ := id hS
  obtain ⟨oA, oF, oHr, oLt, oK, oH⟩ := id hO
  refine am_goR 4 (s2 := (8, [.ref 0], [.ref 1, .ref 4], M)) rfl ?_
  refine am_goV (s2 := (11, [.ref 0], [], M)) rfl (s_become_4_1 hS) (fun K hk => ?_)
  obtain ⟨k1, k2⟩ := hk
  have kf : ∀ a b, ¬ (a = 4 ∨ a = 5 ∨ a = 6) → K a b = M a b := fun x y z => congrFun (k1 x (by omega) (by omega) (by omega)) y
  have hRn9 : K 0 7 = nI rn := (kf _ _ (by omega)).trans hRn
  have hA9 : K 1 1 = nI a := (kf _ _ (by omega)).trans hS.2.1
  refine am_goQ 7 (s1 := (24, [.ref 0], [.int ((nI 2 * (K 1 1))), .int ((K 0 7))], K)) (s2 := (24, [.ref 0], [.int (nI (2 * a)), .int (nI rn)], K)) rfl (by simp only [hA9, pk_mul, hRn9]) ?_
  refine am_bNE (rn) ((2 * a)) (s1 := (41, [.ref 0], [], K)) (s2 := (27, [.ref 0], [], K)) rfl (by omega) (by omega) (fun c1 => absurd c1 (by omega)) (fun c1 => ?_)
  refine am_goR 4 (s2 := (35, [.ref 0], [.ref 15, .ref 4], K)) rfl ?_
  refine am_goC (s2 := (38, [.ref 0], [], K)) rfl (s_standAs k2 hO (fun q hq => (kf 15 q (by omega)).trans (hR q hq)) hv) (fun lx L hl => ?_)
  obtain ⟨l0, l1, l2⟩ := hl
  rw [hcs] at l0
  subst l0
  have lf : ∀ a b, ¬ (a = 4 ∨ a = 5 ∨ a = 6) → L a b = M a b := fun x y z => (l1 x y (by omega)).trans (kf x y z)
  refine am_goR 3 (s2 := (44, [.ref 0], [.int ((-nI 3)), .ref 0], L)) rfl ?_
  refine am_goX (v := (-nI 3)) (M2 := (am_set L 16 3 (L 16 3 + nI 1))) (s2 := (47, [.ref 0], [], L)) rfl (s_refuse_3) ?_
  exact am_goE _ _ rfl ⟨_, rfl, rfl, L, lf, rfl⟩

set_option maxHeartbeats 4000000 in
theorem c_back_T {M : am_Mem} {a f hr hs lt : Nat} {k h : Nat → Nat} (hS : sp_S 1 M a f hr hs lt k h) (hO : sp_ok a f hr lt k h) {rn : Nat} {v : Nat → Nat} (hR : ∀ q, q < 8 → M 15 q = nI (v q)) (hv : ∀ q, v q < 4000) (hRn : M 0 7 = nI rn) (hrr : rn = 2 * a) (hcs : sp_cs a f k v = true) {X : Nat} (hX : X < 100000) (hos : sp_os a f k (sp_pt v h (2 * a)) h = nI X) : am_go 75 (am_ent 75 [.ref 0] M) (am_ri (fun x O => x = nI 1 ∧ ∀ a b, ¬ (a = 4 ∨ a = 5 ∨ a = 6) → O a b = M a b)) := by
  obtain ⟨hF, hA, hHr, hHs, hLt, hK, hH⟩ := id hS
  obtain ⟨oA, oF, oHr, oLt, oK, oH⟩ := id hO
  refine am_goR 4 (s2 := (8, [.ref 0], [.ref 1, .ref 4], M)) rfl ?_
  refine am_goV (s2 := (11, [.ref 0], [], M)) rfl (s_become_4_1 hS) (fun K hk => ?_)
  obtain ⟨k1, k2⟩ := hk
  have kf : ∀ a b, ¬ (a = 4 ∨ a = 5 ∨ a = 6) → K a b = M a b := fun x y z => congrFun (k1 x (by omega) (by omega) (by omega)) y
  have hRn9 : K 0 7 = nI rn := (kf _ _ (by omega)).trans hRn
  have hA9 : K 1 1 = nI a := (kf _ _ (by omega)).trans hS.2.1
  refine am_goQ 7 (s1 := (24, [.ref 0], [.int ((nI 2 * (K 1 1))), .int ((K 0 7))], K)) (s2 := (24, [.ref 0], [.int (nI (2 * a)), .int (nI rn)], K)) rfl (by simp only [hA9, pk_mul, hRn9]) ?_
  refine am_bNE (rn) ((2 * a)) (s1 := (41, [.ref 0], [], K)) (s2 := (27, [.ref 0], [], K)) rfl (by omega) (by omega) (fun c1 => absurd c1 (by omega)) (fun c1 => ?_)
  refine am_goR 4 (s2 := (35, [.ref 0], [.ref 15, .ref 4], K)) rfl ?_
  refine am_goC (s2 := (38, [.ref 0], [], K)) rfl (s_standAs k2 hO (fun q hq => (kf 15 q (by omega)).trans (hR q hq)) hv) (fun lx L hl => ?_)
  obtain ⟨l0, l1, l2⟩ := hl
  rw [hcs] at l0
  subst l0
  have lf : ∀ a b, ¬ (a = 4 ∨ a = 5 ∨ a = 6) → L a b = M a b := fun x y z => (l1 x y (by omega)).trans (kf x y z)
  have sS9 := l2 hcs
  have sO9 := hO.pt (h := h) (sp_cs_iff.mp hcs).1
  have sR9 : ∀ q, q < 8 → L 3 q = nI (h q) := fun q hq => (lf 3 q (by omega)).trans (hS.2.2.2.2.2.2 q hq)
  have sV9 : ∀ q, h q < 4000 := fun q => Nat.lt_trans (hO.2.2.2.2.2 q) (by decide)
  refine am_goR 6 (s2 := (59, [.ref 0], [.ref 3, .ref 4], L)) rfl ?_
  refine am_goX (v := nI X) (M2 := L) (s2 := (62, [.ref 0], [], L)) rfl ((by have z := s_onlyStepTo_4 sS9 sO9 sR9 sV9; rw [hos] at z; exact z)) ?_
  refine am_goR 1 (s2 := (64, [.ref 0], [.int ((-nI 9)), .int (nI X)], L)) rfl ?_
  refine am_bTn (s1 := (71, [.ref 0], [], L)) (s2 := (67, [.ref 0], [], L)) rfl (am_nm_ne (x := X) (m := 9) (by omega) (by decide) (by decide)) ?_
  refine am_goR 1 (s2 := (72, [.ref 0], [.int (nI 1)], L)) rfl ?_
  exact am_goE _ _ rfl ⟨_, rfl, rfl, lf⟩

set_option maxHeartbeats 4000000 in
theorem c_back_F {M : am_Mem} {a f hr hs lt : Nat} {k h : Nat → Nat} (hS : sp_S 1 M a f hr hs lt k h) (hO : sp_ok a f hr lt k h) {rn : Nat} {v : Nat → Nat} (hR : ∀ q, q < 8 → M 15 q = nI (v q)) (hv : ∀ q, v q < 4000) (hRn : M 0 7 = nI rn) (hrr : rn = 2 * a) (hcs : sp_cs a f k v = true) (hos : sp_os a f k (sp_pt v h (2 * a)) h = -nI 9) : am_go 75 (am_ent 75 [.ref 0] M) (am_ri (fun x O => x = nI 0 ∧ ∀ a b, ¬ (a = 4 ∨ a = 5 ∨ a = 6) → O a b = M a b)) := by
  obtain ⟨hF, hA, hHr, hHs, hLt, hK, hH⟩ := id hS
  obtain ⟨oA, oF, oHr, oLt, oK, oH⟩ := id hO
  refine am_goR 4 (s2 := (8, [.ref 0], [.ref 1, .ref 4], M)) rfl ?_
  refine am_goV (s2 := (11, [.ref 0], [], M)) rfl (s_become_4_1 hS) (fun K hk => ?_)
  obtain ⟨k1, k2⟩ := hk
  have kf : ∀ a b, ¬ (a = 4 ∨ a = 5 ∨ a = 6) → K a b = M a b := fun x y z => congrFun (k1 x (by omega) (by omega) (by omega)) y
  have hRn9 : K 0 7 = nI rn := (kf _ _ (by omega)).trans hRn
  have hA9 : K 1 1 = nI a := (kf _ _ (by omega)).trans hS.2.1
  refine am_goQ 7 (s1 := (24, [.ref 0], [.int ((nI 2 * (K 1 1))), .int ((K 0 7))], K)) (s2 := (24, [.ref 0], [.int (nI (2 * a)), .int (nI rn)], K)) rfl (by simp only [hA9, pk_mul, hRn9]) ?_
  refine am_bNE (rn) ((2 * a)) (s1 := (41, [.ref 0], [], K)) (s2 := (27, [.ref 0], [], K)) rfl (by omega) (by omega) (fun c1 => absurd c1 (by omega)) (fun c1 => ?_)
  refine am_goR 4 (s2 := (35, [.ref 0], [.ref 15, .ref 4], K)) rfl ?_
  refine am_goC (s2 := (38, [.ref 0], [], K)) rfl (s_standAs k2 hO (fun q hq => (kf 15 q (by omega)).trans (hR q hq)) hv) (fun lx L hl => ?_)
  obtain ⟨l0, l1, l2⟩ := hl
  rw [hcs] at l0
  subst l0
  have lf : ∀ a b, ¬ (a = 4 ∨ a = 5 ∨ a = 6) → L a b = M a b := fun x y z => (l1 x y (by omega)).trans (kf x y z)
  have sS9 := l2 hcs
  have sO9 := hO.pt (h := h) (sp_cs_iff.mp hcs).1
  have sR9 : ∀ q, q < 8 → L 3 q = nI (h q) := fun q hq => (lf 3 q (by omega)).trans (hS.2.2.2.2.2.2 q hq)
  have sV9 : ∀ q, h q < 4000 := fun q => Nat.lt_trans (hO.2.2.2.2.2 q) (by decide)
  refine am_goR 6 (s2 := (59, [.ref 0], [.ref 3, .ref 4], L)) rfl ?_
  refine am_goX (v := (-nI 9)) (M2 := L) (s2 := (62, [.ref 0], [], L)) rfl ((by have z := s_onlyStepTo_4 sS9 sO9 sR9 sV9; rw [hos] at z; exact z)) ?_
  refine am_goR 4 (s2 := (72, [.ref 0], [.int (nI 0)], L)) rfl ?_
  exact am_goE _ _ rfl ⟨_, rfl, rfl, lf⟩

set_option maxHeartbeats 4000000 in
theorem r_back_r {M : am_Mem} {a f hr hs lt : Nat} {k h : Nat → Nat} (hS : sp_M M a f hr hs lt k h) (hO : sp_ok a f hr lt k h) (oD : ∀ p q, p < 2 * a → q < 2 * a → h p = h q → p = q) {rn : Nat} (hRn : M 17 24 = nI rn) (hr9 : rn ≤ 16) (hrr : ¬ rn = 2 * a) : am_go 151 (am_ent 151 [.ref 17] M) (am_is (-nI 3) (am_set M 18 3 (M 18 3 + nI 1))) := by
  obtain ⟨hF, hA, hHr, hHs, hLt, hK, hH⟩ := id hS
  obtain ⟨oA, oF, oHr, oLt, oK, oH⟩ := id hO
  refine am_goQ 6 (s1 := (10, [.ref 17, .null, .null, .null, .null], [.int ((nI 2 * (M 17 3))), .int ((M 17 24))], M)) (s2 := (10, [.ref 17, .null, .null, .null, .null], [.int (nI (2 * a)), .int (nI rn)], M)) rfl (by simp only [hA, pk_mul, hRn]) ?_
  refine am_bNE (rn) ((2 * a)) (s1 := (20, [.ref 17, .null, .null, .null, .null], [], M)) (s2 := (13, [.ref 17, .null, .null, .null, .null], [], M)) rfl (by omega) (by omega) (fun c1 => ?_) (fun c1 => absurd c1 (by omega))
  refine am_goR 2 (s2 := (23, [.ref 17, .null, .null, .null, .null], [.int ((-nI 3)), .ref 17], M)) rfl ?_
  refine am_goX (v := (-nI 3)) (M2 := (am_set M 18 3 (M 18 3 + nI 1))) (s2 := (26, [.ref 17, .null, .null, .null, .null], [], M)) rfl (t_no_3) ?_
  exact am_ends (-nI 3) _ rfl rfl rfl

set_option maxHeartbeats 4000000 in
theorem r_back_s {M : am_Mem} {a f hr hs lt : Nat} {k h : Nat → Nat} (hS : sp_M M a f hr hs lt k h) (hO : sp_ok a f hr lt k h) (oD : ∀ p q, p < 2 * a → q < 2 * a → h p = h q → p = q) {rn : Nat} {v : Nat → Nat} (hR : ∀ q, q < 8 → M 28 q = nI (v q)) (hv : ∀ q, v q < 4000) (hRn : M 17 24 = nI rn) (hrr : rn = 2 * a) (hcs : sp_cs a f k v = false) : am_go 151 (am_ent 151 [.ref 17] M) (am_is (-nI 3) (am_set M 18 3 (M 18 3 + nI 1))) := by
  obtain ⟨hF, hA, hHr, hHs, hLt, hK, hH⟩ := id hS
  obtain ⟨oA, oF, oHr, oLt, oK, oH⟩ := id hO
  refine am_goQ 6 (s1 := (10, [.ref 17, .null, .null, .null, .null], [.int ((nI 2 * (M 17 3))), .int ((M 17 24))], M)) (s2 := (10, [.ref 17, .null, .null, .null, .null], [.int (nI (2 * a)), .int (nI rn)], M)) rfl (by simp only [hA, pk_mul, hRn]) ?_
  refine am_bNE (rn) ((2 * a)) (s1 := (20, [.ref 17, .null, .null, .null, .null], [], M)) (s2 := (13, [.ref 17, .null, .null, .null, .null], [], M)) rfl (by omega) (by omega) (fun c1 => absurd c1 (by omega)) (fun c1 => ?_)
  refine am_goR 1 (s2 := (14, [.ref 17, .null, .null, .null, .null], [.ref 17], M)) rfl ?_
  refine am_goX (v := nI 0) (M2 := M) (s2 := (17, [.ref 17, .null, .null, .null, .null], [], M)) rfl ((by have z := t_couldStand hS hO hR hv; rw [hcs] at z; exact z)) ?_
  refine am_goR 3 (s2 := (23, [.ref 17, .null, .null, .null, .null], [.int ((-nI 3)), .ref 17], M)) rfl ?_
  refine am_goX (v := (-nI 3)) (M2 := (am_set M 18 3 (M 18 3 + nI 1))) (s2 := (26, [.ref 17, .null, .null, .null, .null], [], M)) rfl (t_no_3) ?_
  exact am_ends (-nI 3) _ rfl rfl rfl

set_option maxHeartbeats 4000000 in
theorem r_back_d {M : am_Mem} {a f hr hs lt : Nat} {k h : Nat → Nat} (hS : sp_M M a f hr hs lt k h) (hO : sp_ok a f hr lt k h) (oD : ∀ p q, p < 2 * a → q < 2 * a → h p = h q → p = q) {rn : Nat} {v : Nat → Nat} (hR : ∀ q, q < 8 → M 28 q = nI (v q)) (hv : ∀ q, v q < 4000) (hRn : M 17 24 = nI rn) (hrr : rn = 2 * a) (hcs : sp_cs a f k v = true) (h1 : ¬ sp_dc v h (2 * a) = 1) : am_go 151 (am_ent 151 [.ref 17] M) (am_ri (fun x O => x = nI 0 ∧ ∀ a b, ¬ (a = 17 ∧ b = 25) → O a b = M a b)) := by
  obtain ⟨hF, hA, hHr, hHs, hLt, hK, hH⟩ := id hS
  obtain ⟨oA, oF, oHr, oLt, oK, oH⟩ := id hO
  have hdc := sp_dc_le (v := v) (h := h) (2 * a)
  refine am_goQ 6 (s1 := (10, [.ref 17, .null, .null, .null, .null], [.int ((nI 2 * (M 17 3))), .int ((M 17 24))], M)) (s2 := (10, [.ref 17, .null, .null, .null, .null], [.int (nI (2 * a)), .int (nI rn)], M)) rfl (by simp only [hA, pk_mul, hRn]) ?_
  refine am_bNE (rn) ((2 * a)) (s1 := (20, [.ref 17, .null, .null, .null, .null], [], M)) (s2 := (13, [.ref 17, .null, .null, .null, .null], [], M)) rfl (by omega) (by omega) (fun c1 => absurd c1 (by omega)) (fun c1 => ?_)
  refine am_goR 1 (s2 := (14, [.ref 17, .null, .null, .null, .null], [.ref 17], M)) rfl ?_
  refine am_goX (v := nI 1) (M2 := M) (s2 := (17, [.ref 17, .null, .null, .null, .null], [], M)) rfl ((by have z := t_couldStand hS hO hR hv; rw [hcs] at z; exact z)) ?_
  refine am_goR 2 (s2 := (28, [.ref 17, .null, .null, .null, .null], [.ref 17], M)) rfl ?_
  refine am_goC (s2 := (31, [.ref 17, .null, .null, .null, .null], [], M)) rfl (t_unlike hS hO hR hv) (fun ux K hu => ?_)
  obtain ⟨u0, u1, u2⟩ := hu
  subst u0
  have hS9 : sp_M K a f hr hs lt k h := ⟨(u1 _ _ (by omega)).trans hS.1, (u1 _ _ (by omega)).trans hS.2.1, (u1 _ _ (by omega)).trans hS.2.2.1, (u1 _ _ (by omega)).trans hS.2.2.2.1, (u1 _ _ (by omega)).trans hS.2.2.2.2.1, fun q hq => (u1 _ _ (by omega)).trans (hS.2.2.2.2.2.1 q hq), fun q hq => (u1 _ _ (by omega)).trans (hS.2.2.2.2.2.2 q hq)⟩
  have hR9 : ∀ q, q < 8 → K 28 q = nI (v q) := fun q hq => (u1 _ _ (by omega)).trans (hR q hq)
  refine am_goR 1 (s2 := (32, [.ref 17, .null, .null, .null, .null], [.int (nI 1), .int (nI (sp_dc v h (2 * a)))], K)) rfl ?_
  refine am_bEQ ((sp_dc v h (2 * a))) (1) (s1 := (37, [.ref 17, .null, .null, .null, .null], [], K)) (s2 := (35, [.ref 17, .null, .null, .null, .null], [], K)) rfl (by omega) (by omega) (fun c2 => absurd c2 (by omega)) (fun c2 => ?_)
  refine am_goR 1 (s2 := (36, [.ref 17, .null, .null, .null, .null], [.int (nI 0)], K)) rfl ?_
  exact am_goE _ _ rfl ⟨_, rfl, rfl, u1⟩

set_option maxHeartbeats 4000000 in
theorem r_back_l1 {a : Nat} {h v : Nat → Nat} (oA : a ≤ 4) {d to : Nat} {w : Value} {Q : Option Value → am_Mem → Prop} : ∀ (m p : Nat) (N : am_Mem), m + p = 2 * a + 1 → p ≤ 2 * a → N 17 3 = nI a → (∀ q, q < 8 → N 20 q = nI (sp_pt v h p q)) → (∀ q, q < p → N 29 q = nI (h q)) → (∀ q, q < 8 → N 28 q = nI (v q)) →
    (∀ O : am_Mem, (∀ x y, ¬ x = 20 → ¬ x = 29 → O x y = N x y) → (∀ q, q < 8 → O 20 q = nI (sp_pt v h (2 * a) q)) → (∀ q, q < 2 * a → O 29 q = nI (h q)) → am_go 151 (91, [.ref 17, .int (nI d), .int (nI to), .int (nI (2 * a)), w], [], O) Q) →
    am_go 151 (51, [.ref 17, .int (nI d), .int (nI to), .int (nI p), w], [], N) Q := by
  intro m
  induction m with
  | zero => intro p N h1 h2; omega
  | succ m ih =>
    intro p N h1 h2 hA h20 h29 hR kk
    have h20p : p < 8 → N 20 p = nI (h p) := fun z => by rw [h20 p z]; unfold sp_pt; rw [if_neg (Nat.lt_irrefl p)]
    refine am_goQ 5 (s1 := (58, [.ref 17, .int (nI d), .int (nI to), .int (nI p), w], [.int ((nI 2 * (N 17 3))), .int (nI p)], N)) (s2 := (58, [.ref 17, .int (nI d), .int (nI to), .int (nI p), w], [.int (nI (2 * a)), .int (nI p)], N)) rfl (by simp only [hA, pk_mul]) ?_
    refine am_bLE ((2 * a)) (p) (s1 := (91, [.ref 17, .int (nI d), .int (nI to), .int (nI p), w], [], N)) (s2 := (61, [.ref 17, .int (nI d), .int (nI to), .int (nI p), w], [], N)) rfl (by omega) (by omega) (fun c1 => ?_) (fun c1 => ?_)
    · have ep : p = 2 * a := by omega
      rw [ep] at h20 h29
      rw [ep]
      exact kk N (fun _ _ _ _ => rfl) h20 h29
    · refine am_goR 6 (s2 := (71, [.ref 17, .int (nI d), .int (nI to), .int (nI p), w], [.int (nI p), .ref 20, .int (nI p), .ref 29], N)) rfl ?_
      refine am_goL2 (pc := 72) (ls := [.ref 17, .int (nI d), .int (nI to), .int (nI p), w]) (r := [.int (nI p), .ref 29]) (M := N) (a := 20) (n := 8) (p) (nI (h p)) rfl rfl (by omega) (by decide) (h20p (by omega)) ?_
      refine am_goS (pc := 73) (ls := [.ref 17, .int (nI d), .int (nI to), .int (nI p), w]) (r := []) (M := N) (a := 29) (n := 8) (v := nI (h p)) (p) rfl rfl (by omega) (by decide) ?_
      refine am_goR 6 (s2 := (83, [.ref 17, .int (nI d), .int (nI to), .int (nI p), w], [.int (nI p), .ref 28, .int (nI p), .ref 20], (am_set N 29 p (nI (h p))))) rfl ?_
      refine am_goL2 (pc := 84) (ls := [.ref 17, .int (nI d), .int (nI to), .int (nI p), w]) (r := [.int (nI p), .ref 20]) (M := (am_set N 29 p (nI (h p)))) (a := 28) (n := 16) (p) (nI (v p)) rfl rfl (by omega) (by decide) (hR _ (by omega)) ?_
      refine am_goS (pc := 85) (ls := [.ref 17, .int (nI d), .int (nI to), .int (nI p), w]) (r := []) (M := (am_set N 29 p (nI (h p)))) (a := 20) (n := 8) (v := nI (v p)) (p) rfl rfl (by omega) (by decide) ?_
      refine am_goQ 2 (s1 := (51, [.ref 17, .int (nI d), .int (nI to), .int ((nI p + nI 1)), w], [], (am_set (am_set N 29 p (nI (h p))) 20 p (nI (v p))))) (s2 := (51, [.ref 17, .int (nI d), .int (nI to), .int (nI (p + 1)), w], [], (am_set (am_set N 29 p (nI (h p))) 20 p (nI (v p))))) rfl (by simp only [nI_add]) ?_
      refine ih (p + 1) (am_set (am_set N 29 p (nI (h p))) 20 p (nI (v p))) (by omega) (by omega) hA (fun q hq => ?_) (fun q hq => ?_) (fun q hq => hR q hq) (fun O o1 o2 o3 => kk O (fun x y c1 c2 => ?_) o2 o3)
      · show (am_set (am_set N 29 p (nI (h p))) 20 p (nI (v p))) 20 q = nI (sp_pt v h (p + 1) q)
        unfold sp_pt
        by_cases e : q = p
        · subst e; rw [am_set_s, if_pos (by omega)]
        · rw [am_set_o (by omega), am_set_o (by omega), h20 q hq]
          unfold sp_pt
          by_cases e2 : q < p
          · rw [if_pos e2, if_pos (by omega)]
          · rw [if_neg e2, if_neg (by omega)]
      · show (am_set (am_set N 29 p (nI (h p))) 20 p (nI (v p))) 29 q = nI (h q)
        rw [am_set_o (by omega)]
        by_cases e : q = p
        · subst e; rw [am_set_s]
        · rw [am_set_o (by omega)]; exact h29 q (by omega)
      · rw [o1 x y c1 c2, am_set_o (by omega), am_set_o (by omega)]
set_option maxHeartbeats 4000000 in
theorem r_back_l2 {a : Nat} {h g : Nat → Nat} (oA : a ≤ 4) {d to is : Nat} {Q : Option Value → am_Mem → Prop} : ∀ (m p : Nat) (N : am_Mem), m + p = 2 * a + 1 → p ≤ 2 * a → N 17 3 = nI a → (∀ q, q < 8 → N 20 q = nI (sp_pt h g p q)) → (∀ q, q < 2 * a → N 29 q = nI (h q)) →
    (∀ O : am_Mem, (∀ x y, ¬ x = 20 → O x y = N x y) → (∀ q, q < 8 → O 20 q = nI (sp_pt h g (2 * a) q)) → am_go 151 (139, [.ref 17, .int (nI d), .int (nI to), .int (nI is), .int (nI (2 * a))], [], O) Q) →
    am_go 151 (108, [.ref 17, .int (nI d), .int (nI to), .int (nI is), .int (nI p)], [], N) Q := by
  intro m
  induction m with
  | zero => intro p N h1 h2; omega
  | succ m ih =>
    intro p N h1 h2 hA h20 h29 kk
    refine am_goQ 5 (s1 := (116, [.ref 17, .int (nI d), .int (nI to), .int (nI is), .int (nI p)], [.int ((nI 2 * (N 17 3))), .int (nI p)], N)) (s2 := (116, [.ref 17, .int (nI d), .int (nI to), .int (nI is), .int (nI p)], [.int (nI (2 * a)), .int (nI p)], N)) rfl (by simp only [hA, pk_mul]) ?_
    refine am_bLE ((2 * a)) (p) (s1 := (139, [.ref 17, .int (nI d), .int (nI to), .int (nI is), .int (nI p)], [], N)) (s2 := (119, [.ref 17, .int (nI d), .int (nI to), .int (nI is), .int (nI p)], [], N)) rfl (by omega) (by omega) (fun c1 => ?_) (fun c1 => ?_)
    · have ep : p = 2 * a := by omega
      rw [ep] at h20
      rw [ep]
      exact kk N (fun _ _ _ => rfl) h20
    · refine am_goR 6 (s2 := (131, [.ref 17, .int (nI d), .int (nI to), .int (nI is), .int (nI p)], [.int (nI p), .ref 29, .int (nI p), .ref 20], N)) rfl ?_
      refine am_goL2 (pc := 132) (ls := [.ref 17, .int (nI d), .int (nI to), .int (nI is), .int (nI p)]) (r := [.int (nI p), .ref 20]) (M := N) (a := 29) (n := 8) (p) (nI (h p)) rfl rfl (by omega) (by decide) (h29 _ (by omega)) ?_
      refine am_goS (pc := 133) (ls := [.ref 17, .int (nI d), .int (nI to), .int (nI is), .int (nI p)]) (r := []) (M := N) (a := 20) (n := 8) (v := nI (h p)) (p) rfl rfl (by omega) (by decide) ?_
      refine am_goQ 2 (s1 := (108, [.ref 17, .int (nI d), .int (nI to), .int (nI is), .int ((nI p + nI 1))], [], (am_set N 20 p (nI (h p))))) (s2 := (108, [.ref 17, .int (nI d), .int (nI to), .int (nI is), .int (nI (p + 1))], [], (am_set N 20 p (nI (h p))))) rfl (by simp only [nI_add]) ?_
      refine ih (p + 1) (am_set N 20 p (nI (h p))) (by omega) (by omega) hA (fun q hq => ?_) (fun q hq => h29 q hq) (fun O o1 o2 => kk O (fun x y c1 => ?_) o2)
      · show (am_set N 20 p (nI (h p))) 20 q = nI (sp_pt h g (p + 1) q)
        unfold sp_pt
        by_cases e : q = p
        · subst e; rw [am_set_s, if_pos (by omega)]
        · rw [am_set_o (by omega), h20 q hq]
          unfold sp_pt
          by_cases e2 : q < p
          · rw [if_pos e2, if_pos (by omega)]
          · rw [if_neg e2, if_neg (by omega)]
      · rw [o1 x y c1, am_set_o (by omega)]
set_option maxHeartbeats 4000000 in
theorem r_back_1 {M : am_Mem} {a f hr hs lt : Nat} {k h : Nat → Nat} (hS : sp_M M a f hr hs lt k h) (hO : sp_ok a f hr lt k h) (oD : ∀ p q, p < 2 * a → q < 2 * a → h p = h q → p = q) {rn : Nat} {v : Nat → Nat} (hR : ∀ q, q < 8 → M 28 q = nI (v q)) (hv : ∀ q, v q < 4000) (hRn : M 17 24 = nI rn) (hrr : rn = 2 * a) (hcs : sp_cs a f k v = true) {d : Nat} (hd : sp_dl v h (2 * a) = d) (hd2 : d < 2 * a) (h1 : sp_dc v h (2 * a) = 1) (h2 : sp_cn a f k (sp_pt v h (2 * a)) (d / 2) (d % 2) 9 (h d) = true) : am_go 151 (am_ent 151 [.ref 17] M) (am_ri (fun x O => x = nI 1 ∧ (∀ a b, ¬ a = 20 → ¬ a = 29 → ¬ (a = 17 ∧ b = 25) → O a b = M a b) ∧ ∀ q, q < 8 → O 20 q = nI (h q))) := by
  obtain ⟨hF, hA, hHr, hHs, hLt, hK, hH⟩ := id hS
  obtain ⟨oA, oF, oHr, oLt, oK, oH⟩ := id hO
  have hvd := hv d
  have ohd := oH d
  have hA1 := (sp_cs_iff.mp hcs).1
  have hO8 : sp_ok a f hr lt k (sp_pt v h (2 * a)) := hO.pt (h := h) hA1
  have oD8 : ∀ p q, p < 2 * a → q < 2 * a → sp_pt v h (2 * a) p = sp_pt v h (2 * a) q → p = q := fun p q hp hq e => by
    unfold sp_pt at e
    rw [if_pos hp, if_pos hq] at e
    rcases Nat.lt_trichotomy p q with z | z | z
    · exact absurd e ((hA1 q hq).2.2 p z)
    · exact z
    · exact absurd e.symm ((hA1 p hp).2.2 q z)
  refine am_goQ 6 (s1 := (10, [.ref 17, .null, .null, .null, .null], [.int ((nI 2 * (M 17 3))), .int ((M 17 24))], M)) (s2 := (10, [.ref 17, .null, .null, .null, .null], [.int (nI (2 * a)), .int (nI rn)], M)) rfl (by simp only [hA, pk_mul, hRn]) ?_
  refine am_bNE (rn) ((2 * a)) (s1 := (20, [.ref 17, .null, .null, .null, .null], [], M)) (s2 := (13, [.ref 17, .null, .null, .null, .null], [], M)) rfl (by omega) (by omega) (fun c1 => absurd c1 (by omega)) (fun c1 => ?_)
  refine am_goR 1 (s2 := (14, [.ref 17, .null, .null, .null, .null], [.ref 17], M)) rfl ?_
  refine am_goX (v := nI 1) (M2 := M) (s2 := (17, [.ref 17, .null, .null, .null, .null], [], M)) rfl ((by have z := t_couldStand hS hO hR hv; rw [hcs] at z; exact z)) ?_
  refine am_goR 2 (s2 := (28, [.ref 17, .null, .null, .null, .null], [.ref 17], M)) rfl ?_
  refine am_goC (s2 := (31, [.ref 17, .null, .null, .null, .null], [], M)) rfl (t_unlike hS hO hR hv) (fun ux K hu => ?_)
  obtain ⟨u0, u1, u2⟩ := hu
  rw [h1] at u0
  subst u0
  have hS9 : sp_M K a f hr hs lt k h := ⟨(u1 _ _ (by omega)).trans hS.1, (u1 _ _ (by omega)).trans hS.2.1, (u1 _ _ (by omega)).trans hS.2.2.1, (u1 _ _ (by omega)).trans hS.2.2.2.1, (u1 _ _ (by omega)).trans hS.2.2.2.2.1, fun q hq => (u1 _ _ (by omega)).trans (hS.2.2.2.2.2.1 q hq), fun q hq => (u1 _ _ (by omega)).trans (hS.2.2.2.2.2.2 q hq)⟩
  have hR9 : ∀ q, q < 8 → K 28 q = nI (v q) := fun q hq => (u1 _ _ (by omega)).trans (hR q hq)
  have hU9 : K 17 25 = nI d := (u2 (by omega)).trans (by rw [hd])
  refine am_goQ 8 (s1 := (47, [.ref 17, .int ((K 17 25)), .null, .null, .null], [.int ((K 17 25)), .ref 20], K)) (s2 := (47, [.ref 17, .int (nI d), .null, .null, .null], [.int (nI d), .ref 20], K)) rfl (by simp only [hU9]) ?_
  refine am_goL2 (pc := 48) (ls := [.ref 17, .int (nI d), .null, .null, .null]) (r := []) (M := K) (a := 20) (n := 8) (d) (nI (h d)) rfl rfl (by omega) (by decide) (hS9.2.2.2.2.2.2 _ (by omega)) ?_
  refine am_goR 3 (s2 := (51, [.ref 17, .int (nI d), .int (nI (h d)), .int (nI 0), .null], [], K)) rfl ?_
  refine r_back_l1 (h := h) (v := v) oA (2 * a + 1) 0 K (by omega) (by omega) hS9.2.1 (fun q hq => by rw [hS9.2.2.2.2.2.2 q hq]; unfold sp_pt; rw [if_neg (Nat.not_lt_zero q)]) (fun q hq => absurd hq (Nat.not_lt_zero q)) hR9 (fun O o1 o2 o3 => ?_)
  have hS8 : sp_M O a f hr hs lt k (sp_pt v h (2 * a)) := ⟨(o1 _ _ (by omega) (by omega)).trans hS9.1, (o1 _ _ (by omega) (by omega)).trans hS9.2.1, (o1 _ _ (by omega) (by omega)).trans hS9.2.2.1, (o1 _ _ (by omega) (by omega)).trans hS9.2.2.2.1, (o1 _ _ (by omega) (by omega)).trans hS9.2.2.2.2.1, fun q hq => (o1 _ _ (by omega) (by omega)).trans (hS9.2.2.2.2.2.1 q hq), o2⟩
  refine am_goQ 9 (s1 := (101, [.ref 17, .int (nI d), .int (nI (h d)), .int (nI (2 * a)), .null], [.int ((-nI 9)), .int (nI (h d)), .int ((nI d - nI d / nI 2 * nI 2)), .int ((nI d / nI 2)), .ref 17], O)) (s2 := (101, [.ref 17, .int (nI d), .int (nI (h d)), .int (nI (2 * a)), .null], [.int ((-nI 9)), .int (nI (h d)), .int (nI (d % 2)), .int (nI (d / 2)), .ref 17], O)) rfl (by rw [pk_rem (a := d) (d := 2) (by omega) (by omega) (by omega)]; simp only [pk_div (a := d) (d := 2) (by omega) (by omega) (by omega)]) ?_
  refine am_goX (v := nI 1) (M2 := O) (s2 := (104, [.ref 17, .int (nI d), .int (nI (h d)), .int (nI (2 * a)), .null], [], O)) rfl ((by have z := t_canStepX hS8 hO8 oD8 (i := (d / 2)) (by omega) (b := (d % 2)) (j := (h d)) (by omega) (by omega); rw [h2] at z; exact z)) ?_
  refine am_goR 3 (s2 := (108, [.ref 17, .int (nI d), .int (nI (h d)), .int (nI 1), .int (nI 0)], [], O)) rfl ?_
  refine r_back_l2 (h := h) (g := sp_pt v h (2 * a)) oA (is := 1) (2 * a + 1) 0 O (by omega) (by omega) hS8.2.1 (fun q hq => by rw [o2 q hq]; unfold sp_pt; rw [if_neg (Nat.not_lt_zero q)]) o3 (fun O2 z1 z2 => ?_)
  refine am_goR 4 (s2 := (148, [.ref 17, .int (nI d), .int (nI (h d)), .int (nI 1), .int (nI (2 * a))], [.int (nI 1)], O2)) rfl ?_
  exact am_goE _ _ rfl ⟨_, rfl, rfl, fun x y c1 c2 c3 => (z1 x y c1).trans ((o1 x y c1 c2).trans (u1 x y c3)), fun q hq => (z2 q hq).trans (by
    unfold sp_pt
    by_cases e : q < 2 * a
    · rw [if_pos e]
    · rw [if_neg e, if_neg e])⟩

set_option maxHeartbeats 4000000 in
theorem r_back_0 {M : am_Mem} {a f hr hs lt : Nat} {k h : Nat → Nat} (hS : sp_M M a f hr hs lt k h) (hO : sp_ok a f hr lt k h) (oD : ∀ p q, p < 2 * a → q < 2 * a → h p = h q → p = q) {rn : Nat} {v : Nat → Nat} (hR : ∀ q, q < 8 → M 28 q = nI (v q)) (hv : ∀ q, v q < 4000) (hRn : M 17 24 = nI rn) (hrr : rn = 2 * a) (hcs : sp_cs a f k v = true) {d : Nat} (hd : sp_dl v h (2 * a) = d) (hd2 : d < 2 * a) (h1 : sp_dc v h (2 * a) = 1) (h2 : sp_cn a f k (sp_pt v h (2 * a)) (d / 2) (d % 2) 9 (h d) = false) : am_go 151 (am_ent 151 [.ref 17] M) (am_ri (fun x O => x = nI 0 ∧ (∀ a b, ¬ a = 20 → ¬ a = 29 → ¬ (a = 17 ∧ b = 25) → O a b = M a b) ∧ ∀ q, q < 8 → O 20 q = nI (h q))) := by
  obtain ⟨hF, hA, hHr, hHs, hLt, hK, hH⟩ := id hS
  obtain ⟨oA, oF, oHr, oLt, oK, oH⟩ := id hO
  have hvd := hv d
  have ohd := oH d
  have hA1 := (sp_cs_iff.mp hcs).1
  have hO8 : sp_ok a f hr lt k (sp_pt v h (2 * a)) := hO.pt (h := h) hA1
  have oD8 : ∀ p q, p < 2 * a → q < 2 * a → sp_pt v h (2 * a) p = sp_pt v h (2 * a) q → p = q := fun p q hp hq e => by
    unfold sp_pt at e
    rw [if_pos hp, if_pos hq] at e
    rcases Nat.lt_trichotomy p q with z | z | z
    · exact absurd e ((hA1 q hq).2.2 p z)
    · exact z
    · exact absurd e.symm ((hA1 p hp).2.2 q z)
  refine am_goQ 6 (s1 := (10, [.ref 17, .null, .null, .null, .null], [.int ((nI 2 * (M 17 3))), .int ((M 17 24))], M)) (s2 := (10, [.ref 17, .null, .null, .null, .null], [.int (nI (2 * a)), .int (nI rn)], M)) rfl (by simp only [hA, pk_mul, hRn]) ?_
  refine am_bNE (rn) ((2 * a)) (s1 := (20, [.ref 17, .null, .null, .null, .null], [], M)) (s2 := (13, [.ref 17, .null, .null, .null, .null], [], M)) rfl (by omega) (by omega) (fun c1 => absurd c1 (by omega)) (fun c1 => ?_)
  refine am_goR 1 (s2 := (14, [.ref 17, .null, .null, .null, .null], [.ref 17], M)) rfl ?_
  refine am_goX (v := nI 1) (M2 := M) (s2 := (17, [.ref 17, .null, .null, .null, .null], [], M)) rfl ((by have z := t_couldStand hS hO hR hv; rw [hcs] at z; exact z)) ?_
  refine am_goR 2 (s2 := (28, [.ref 17, .null, .null, .null, .null], [.ref 17], M)) rfl ?_
  refine am_goC (s2 := (31, [.ref 17, .null, .null, .null, .null], [], M)) rfl (t_unlike hS hO hR hv) (fun ux K hu => ?_)
  obtain ⟨u0, u1, u2⟩ := hu
  rw [h1] at u0
  subst u0
  have hS9 : sp_M K a f hr hs lt k h := ⟨(u1 _ _ (by omega)).trans hS.1, (u1 _ _ (by omega)).trans hS.2.1, (u1 _ _ (by omega)).trans hS.2.2.1, (u1 _ _ (by omega)).trans hS.2.2.2.1, (u1 _ _ (by omega)).trans hS.2.2.2.2.1, fun q hq => (u1 _ _ (by omega)).trans (hS.2.2.2.2.2.1 q hq), fun q hq => (u1 _ _ (by omega)).trans (hS.2.2.2.2.2.2 q hq)⟩
  have hR9 : ∀ q, q < 8 → K 28 q = nI (v q) := fun q hq => (u1 _ _ (by omega)).trans (hR q hq)
  have hU9 : K 17 25 = nI d := (u2 (by omega)).trans (by rw [hd])
  refine am_goQ 8 (s1 := (47, [.ref 17, .int ((K 17 25)), .null, .null, .null], [.int ((K 17 25)), .ref 20], K)) (s2 := (47, [.ref 17, .int (nI d), .null, .null, .null], [.int (nI d), .ref 20], K)) rfl (by simp only [hU9]) ?_
  refine am_goL2 (pc := 48) (ls := [.ref 17, .int (nI d), .null, .null, .null]) (r := []) (M := K) (a := 20) (n := 8) (d) (nI (h d)) rfl rfl (by omega) (by decide) (hS9.2.2.2.2.2.2 _ (by omega)) ?_
  refine am_goR 3 (s2 := (51, [.ref 17, .int (nI d), .int (nI (h d)), .int (nI 0), .null], [], K)) rfl ?_
  refine r_back_l1 (h := h) (v := v) oA (2 * a + 1) 0 K (by omega) (by omega) hS9.2.1 (fun q hq => by rw [hS9.2.2.2.2.2.2 q hq]; unfold sp_pt; rw [if_neg (Nat.not_lt_zero q)]) (fun q hq => absurd hq (Nat.not_lt_zero q)) hR9 (fun O o1 o2 o3 => ?_)
  have hS8 : sp_M O a f hr hs lt k (sp_pt v h (2 * a)) := ⟨(o1 _ _ (by omega) (by omega)).trans hS9.1, (o1 _ _ (by omega) (by omega)).trans hS9.2.1, (o1 _ _ (by omega) (by omega)).trans hS9.2.2.1, (o1 _ _ (by omega) (by omega)).trans hS9.2.2.2.1, (o1 _ _ (by omega) (by omega)).trans hS9.2.2.2.2.1, fun q hq => (o1 _ _ (by omega) (by omega)).trans (hS9.2.2.2.2.2.1 q hq), o2⟩
  refine am_goQ 9 (s1 := (101, [.ref 17, .int (nI d), .int (nI (h d)), .int (nI (2 * a)), .null], [.int ((-nI 9)), .int (nI (h d)), .int ((nI d - nI d / nI 2 * nI 2)), .int ((nI d / nI 2)), .ref 17], O)) (s2 := (101, [.ref 17, .int (nI d), .int (nI (h d)), .int (nI (2 * a)), .null], [.int ((-nI 9)), .int (nI (h d)), .int (nI (d % 2)), .int (nI (d / 2)), .ref 17], O)) rfl (by rw [pk_rem (a := d) (d := 2) (by omega) (by omega) (by omega)]; simp only [pk_div (a := d) (d := 2) (by omega) (by omega) (by omega)]) ?_
  refine am_goX (v := nI 0) (M2 := O) (s2 := (104, [.ref 17, .int (nI d), .int (nI (h d)), .int (nI (2 * a)), .null], [], O)) rfl ((by have z := t_canStepX hS8 hO8 oD8 (i := (d / 2)) (by omega) (b := (d % 2)) (j := (h d)) (by omega) (by omega); rw [h2] at z; exact z)) ?_
  refine am_goR 3 (s2 := (108, [.ref 17, .int (nI d), .int (nI (h d)), .int (nI 0), .int (nI 0)], [], O)) rfl ?_
  refine r_back_l2 (h := h) (g := sp_pt v h (2 * a)) oA (is := 0) (2 * a + 1) 0 O (by omega) (by omega) hS8.2.1 (fun q hq => by rw [o2 q hq]; unfold sp_pt; rw [if_neg (Nat.not_lt_zero q)]) o3 (fun O2 z1 z2 => ?_)
  refine am_goR 3 (s2 := (148, [.ref 17, .int (nI d), .int (nI (h d)), .int (nI 0), .int (nI (2 * a))], [.int (nI 0)], O2)) rfl ?_
  exact am_goE _ _ rfl ⟨_, rfl, rfl, fun x y c1 c2 c3 => (z1 x y c1).trans ((o1 x y c1 c2).trans (u1 x y c3)), fun q hq => (z2 q hq).trans (by
    unfold sp_pt
    by_cases e : q < 2 * a
    · rw [if_pos e]
    · rw [if_neg e, if_neg e])⟩

theorem sp_cPq {j : Nat} {s : am_St} {M : am_Mem} {w : sp_W} {t : Bool} {w2 : sp_W} {n : Nat} {tx : Nat → Nat} {rn : Nat} {ro : Nat → Nat} {rf : Nat → Int32} (r : Nat) (hr : r < 7) (hC : sp_IC M (w, t, w2, n, tx, rn, ro, rf)) (h : am_go j s (am_ri (fun x O => x = -nI r ∧ ∃ K : am_Mem, (∀ a b, ¬ (a = 4 ∨ a = 5 ∨ a = 6) → K a b = M a b) ∧ O = am_set K 16 r (K 16 r + nI 1)))) : am_go j s (sp_cP M (-nI r) (w, t, w2, n, tx, rn, ro, sp_rf rf r)) := am_goW h (fun q N hN => by
  obtain ⟨x, rfl, rfl, K, hf, rfl⟩ := hN
  have hK : sp_IC K (w, t, w2, n, tx, rn, ro, rf) := hC.fr (fun a b c => hf a b (by unfold sp_sC at c; omega))
  have h2 := sp_cPr (j := 85) (s := am_ent 85 [.ref 0, .int (-nI 3)] K) r hr hK
  have ff : ∀ a b, ¬ a = 16 → am_set K 16 r (K 16 r + nI 1) a b = K a b := fun a b z => am_set_o (by omega)
  refine ⟨_, rfl, rfl, fun a b z => (ff a b (by omega)).trans (hf a b (by omega)), hK.1.fr (fun a b c => ff a b (by omega)), (ff _ _ (by omega)).trans hK.2.1, fun t => (hK.2.2.1 t).fr (fun a b c => ff a b (by omega)), (ff _ _ (by omega)).trans hK.2.2.2.1, fun q hq => (ff _ _ (by omega)).trans (hK.2.2.2.2.1 q hq), (ff _ _ (by omega)).trans hK.2.2.2.2.2.1, fun q hq => (ff _ _ (by omega)).trans (hK.2.2.2.2.2.2.1 q hq), fun q hq => ?_⟩
  have h7 := hK.2.2.2.2.2.2.2
  dsimp only at h7 ⊢
  unfold sp_rf
  by_cases e : q = r
  · subst e; rw [am_set_s, if_pos rfl, h7 q hq]
  · rw [am_set_o (by omega), if_neg e, h7 q hq])
theorem sp_rPb {j : Nat} {s : am_St} {N : am_Mem} {a f hr hs lt : Nat} {k h : Nat → Nat} {z : Bool × sp_W × Nat × (Nat → Nat) × Nat × (Nat → Nat) × (Nat → Int32)} {v : Int32} (hN : sp_IR N ((a, f, hr, hs, lt, k, h), z)) (hj : am_go j s (am_ri (fun x O => x = v ∧ (∀ a b, ¬ a = 20 → ¬ a = 29 → ¬ (a = 17 ∧ b = 25) → O a b = N a b) ∧ ∀ q, q < 8 → O 20 q = nI (h q)))) : am_go j s (am_ri (fun x O => x = v ∧ sp_fH N O ∧ sp_IR O ((a, f, hr, hs, lt, k, h), z))) := am_goW hj (fun r O hO => by
  obtain ⟨x, rfl, rfl, hf, h20⟩ := hO
  exact ⟨_, rfl, rfl, fun a b c => hf a b (by omega) (by omega) (by omega), hN.st ⟨(hf _ _ (by omega) (by omega) (by omega)).trans hN.1.1, (hf _ _ (by omega) (by omega) (by omega)).trans hN.1.2.1, (hf _ _ (by omega) (by omega) (by omega)).trans hN.1.2.2.1, (hf _ _ (by omega) (by omega) (by omega)).trans hN.1.2.2.2.1, (hf _ _ (by omega) (by omega) (by omega)).trans hN.1.2.2.2.2.1, fun q hq => (hf _ _ (by omega) (by omega) (by omega)).trans (hN.1.2.2.2.2.2.1 q hq), h20⟩ (fun a b c c1 c2 c3 => hf a b c2 (by unfold sp_sR at c; omega) (by unfold sp_sR at c; omega))⟩)
theorem pp_back {M : am_Mem} (hI : sp_Inv M) : sp_PP 75 151 [] M := by
  obtain ⟨⟨⟨a, f, hr, hs, lt, k, h⟩, t, w2, n, tx, rn, ro, rf⟩, hC, hR, hG⟩ := hI
  have hO := hG.1.1
  have oD := hG.1.2.2.1
  have oFx := hG.1.2.2.2
  have oA := hO.1
  have oHs := hG.1.2.1
  dsimp only at oD oFx oA oHs
  have hO : sp_ok a f hr lt k h := hO
  have hS1 : sp_S 1 M a f hr hs lt k h := hC.1
  have hM1 : ∀ N, sp_IR N ((a, f, hr, hs, lt, k, h), t, w2, n, tx, rn, ro, rf) → sp_M N a f hr hs lt k h := fun N hN => hN.1
  have hLc : M 13 1 = nI n := hC.2.2.2.1
  have hRc : M 0 7 = nI rn := hC.2.2.2.2.2.1
  have hLm : ∀ N, sp_IR N ((a, f, hr, hs, lt, k, h), t, w2, n, tx, rn, ro, rf) → N 17 12 = nI n := fun N hN => hN.2.2.2.1
  have hRm : ∀ N, sp_IR N ((a, f, hr, hs, lt, k, h), t, w2, n, tx, rn, ro, rf) → N 17 24 = nI rn := fun N hN => hN.2.2.2.2.2.1
  have hro : ∀ q, ro q < 4000 := fun q => Nat.lt_trans (hG.2.2.2.2.2 q) (by decide)
  have hr16 : rn ≤ 16 := hG.2.2.2.2.1
  have hro15 : ∀ q, q < 8 → M 15 q = nI (ro q) := fun q hq => hC.2.2.2.2.2.2.1 q (by omega)
  have hro28 : ∀ N, sp_IR N ((a, f, hr, hs, lt, k, h), t, w2, n, tx, rn, ro, rf) → ∀ q, q < 8 → N 28 q = nI (ro q) := fun N hN q hq => hN.2.2.2.2.2.2.1 q (by omega)
  have hGr : sp_IG ((a, f, hr, hs, lt, k, h), t, w2, n, tx, rn, ro, sp_rf rf 3) := hG
  by_cases hrr : rn = 2 * a
  · cases hcs : sp_cs a f k ro with
    | false => exact sp_comb (z2 := ((a, f, hr, hs, lt, k, h), t, w2, n, tx, rn, ro, sp_rf rf 3)) hR (sp_cPq 3 (by decide) hC (c_back_s hS1 hO hro15 hro hRc hrr hcs)) (fun N hN => sp_rPr 3 (by decide) hN (r_back_s (hM1 N hN) hO oD (hro28 N hN) hro (hRm N hN) hrr hcs)) hGr
    | true =>
      have hsw := sp_dc_sw (v := ro) (h := h) (g := sp_pt ro h (2 * a)) (2 * a) (fun q hq => by unfold sp_pt; rw [if_pos hq])
      by_cases hc1 : sp_dc ro h (2 * a) = 1
      · have hdl := (sp_dl_lt (v := ro) (h := h) (2 * a) (by omega)).1
        cases hc2 : sp_cn a f k (sp_pt ro h (2 * a)) (sp_dl ro h (2 * a) / 2) (sp_dl ro h (2 * a) % 2) 9 (h (sp_dl ro h (2 * a))) with
        | true =>
          have hos := sp_os_T (h := sp_pt ro h (2 * a)) (v := h) (d := sp_dl ro h (2 * a)) hsw.2 (hsw.1.trans hc1) hc2
          have hh := hO.2.2.2.2.2 (sp_dl ro h (2 * a))
          exact sp_PPs hC hR hG (c_back_T hS1 hO hro15 hro hRc hrr hcs (by omega) hos) (fun N hN => sp_rPb hN (r_back_1 (hM1 N hN) hO oD (hro28 N hN) hro (hRm N hN) hrr hcs rfl hdl hc1 hc2))
        | false =>
          have hos : sp_os a f k (sp_pt ro h (2 * a)) h = -nI 9 := sp_os_F (fun z => by
            have z2 := z.2
            rw [hsw.2, hc2] at z2
            cases z2)
          exact sp_PPs hC hR hG (c_back_F hS1 hO hro15 hro hRc hrr hcs hos) (fun N hN => sp_rPb hN (r_back_0 (hM1 N hN) hO oD (hro28 N hN) hro (hRm N hN) hrr hcs rfl hdl hc1 hc2))
      · have hos : sp_os a f k (sp_pt ro h (2 * a)) h = -nI 9 := sp_os_F (fun z => hc1 (hsw.1.symm.trans z.1))
        exact sp_PPs hC hR hG (c_back_F hS1 hO hro15 hro hRc hrr hcs hos) (fun N hN => sp_rPs hN (r_back_d (hM1 N hN) hO oD (hro28 N hN) hro (hRm N hN) hrr hcs hc1))
  · exact sp_comb (z2 := ((a, f, hr, hs, lt, k, h), t, w2, n, tx, rn, ro, sp_rf rf 3)) hR (sp_cPq 3 (by decide) hC (c_back_r hS1 hO hRc hr16 hrr)) (fun N hN => sp_rPr 3 (by decide) hN (r_back_r (hM1 N hN) hO oD (hRm N hN) hr16 hrr)) hGr

