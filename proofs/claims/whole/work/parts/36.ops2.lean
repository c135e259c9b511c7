/-! calls: handing, without, blocked, by -/
def sp_hd (h : Nat → Nat) (a aw j j2 : Nat) : Option Nat := if j = j2 then some 0 else sp_hn h a aw (sp_tk h a aw j2) a (sp_tk h a aw j) 1
theorem sp_hn_le {h : Nat → Nat} {a aw r : Nat} : ∀ (n g m x : Nat), sp_hn h a aw r n g m = some x → x ≤ m + n := by
  intro n
  induction n with
  | zero => intro g m x e; cases e
  | succ n ih =>
    intro g m x e
    rw [sp_hn] at e
    split at e
    · have := ih _ _ _ e; omega
    · cases e; omega
theorem sp_hd_le {h : Nat → Nat} {a aw j j2 x : Nat} (e : sp_hd h a aw j j2 = some x) : x ≤ 1 + a := by
  unfold sp_hd at e
  split at e
  · cases e; omega
  · exact sp_hn_le _ _ _ _ e

set_option maxHeartbeats 4000000 in
theorem c_handing_0 {M : am_Mem} {a f hr hs lt : Nat} {k h : Nat → Nat} (hS : sp_S 1 M a f hr hs lt k h) (hO : sp_ok a f hr lt k h) {x : Int32} (hx : am_in x 12 = false) {y : Int32} : am_go 70 (am_ent 70 [.ref 0, .int (x), .int (y)] M) (am_is (-nI 1) (am_set M 16 1 (M 16 1 + nI 1))) := by
  obtain ⟨hF, hA, hHr, hHs, hLt, hK, hH⟩ := id hS
  obtain ⟨oA, oF, oHr, oLt, oK, oH⟩ := id hO
  refine am_goR 1 (s2 := (1, [.ref 0, .int (x), .int (y)], [.int (x)], M)) rfl ?_
  refine am_goX (v := am_b (am_in x 12)) (M2 := M) (s2 := (4, [.ref 0, .int (x), .int (y)], [], M)) rfl (s_isJoint) ?_
  refine am_bB0 (am_in x 12) (s1 := (14, [.ref 0, .int (x), .int (y)], [], M)) (s2 := (7, [.ref 0, .int (x), .int (y)], [], M)) rfl (fun c1 => ?_) (fun c1 => absurd c1 (by simp [*]))
  refine am_goR 2 (s2 := (16, [.ref 0, .int (x), .int (y)], [.int ((-nI 1)), .ref 0], M)) rfl ?_
  refine am_goX (v := (-nI 1)) (M2 := (am_set M 16 1 (M 16 1 + nI 1))) (s2 := (19, [.ref 0, .int (x), .int (y)], [], M)) rfl (s_refuse_1) ?_
  exact am_ends (-nI 1) _ rfl rfl rfl

set_option maxHeartbeats 4000000 in
theorem r_handing_0 {M : am_Mem} {a f hr hs lt : Nat} {k h : Nat → Nat} (hS : sp_M M a f hr hs lt k h) (hO : sp_ok a f hr lt k h) (oD : ∀ p q, p < 2 * a → q < 2 * a → h p = h q → p = q) {x : Int32} (hx : am_in x 12 = false) {y : Int32} : am_go 143 (am_ent 143 [.ref 17, .int (x), .int (y)] M) (am_is (-nI 1) (am_set M 18 1 (M 18 1 + nI 1))) := by
  obtain ⟨hF, hA, hHr, hHs, hLt, hK, hH⟩ := id hS
  obtain ⟨oA, oF, oHr, oLt, oK, oH⟩ := id hO
  refine am_goR 1 (s2 := (1, [.ref 17, .int (x), .int (y)], [.int (x)], M)) rfl ?_
  refine am_goX (v := am_b (am_in x 12)) (M2 := M) (s2 := (4, [.ref 17, .int (x), .int (y)], [], M)) rfl (t_isJoint) ?_
  refine am_bB0 (am_in x 12) (s1 := (25, [.ref 17, .int (x), .int (y)], [], M)) (s2 := (7, [.ref 17, .int (x), .int (y)], [], M)) rfl (fun c1 => ?_) (fun c1 => absurd c1 (by simp [*]))
  refine am_goR 2 (s2 := (27, [.ref 17, .int (x), .int (y)], [.int ((-nI 1)), .ref 17], M)) rfl ?_
  refine am_goX (v := (-nI 1)) (M2 := (am_set M 18 1 (M 18 1 + nI 1))) (s2 := (30, [.ref 17, .int (x), .int (y)], [], M)) rfl (t_no_1) ?_
  exact am_ends (-nI 1) _ rfl rfl rfl

set_option maxHeartbeats 4000000 in
theorem c_handing_1 {M : am_Mem} {a f hr hs lt : Nat} {k h : Nat → Nat} (hS : sp_S 1 M a f hr hs lt k h) (hO : sp_ok a f hr lt k h) {j : Nat} (hj : j < 12) {y : Int32} (hx : am_in y 12 = false) : am_go 70 (am_ent 70 [.ref 0, .int (nI j), .int (y)] M) (am_is (-nI 1) (am_set M 16 1 (M 16 1 + nI 1))) := by
  obtain ⟨hF, hA, hHr, hHs, hLt, hK, hH⟩ := id hS
  obtain ⟨oA, oF, oHr, oLt, oK, oH⟩ := id hO
  refine am_goR 1 (s2 := (1, [.ref 0, .int (nI j), .int (y)], [.int (nI j)], M)) rfl ?_
  refine am_goX (v := nI 1) (M2 := M) (s2 := (4, [.ref 0, .int (nI j), .int (y)], [], M)) rfl (s_isJoint1 (j := j) (by omega)) ?_
  refine am_goR 2 (s2 := (8, [.ref 0, .int (nI j), .int (y)], [.int (y)], M)) rfl ?_
  refine am_goX (v := am_b (am_in y 12)) (M2 := M) (s2 := (11, [.ref 0, .int (nI j), .int (y)], [], M)) rfl (s_isJoint) ?_
  refine am_bB1 (am_in y 12) (s1 := (20, [.ref 0, .int (nI j), .int (y)], [], M)) (s2 := (14, [.ref 0, .int (nI j), .int (y)], [], M)) rfl (fun c1 => absurd c1 (by simp [*])) (fun c1 => ?_)
  refine am_goR 2 (s2 := (16, [.ref 0, .int (nI j), .int (y)], [.int ((-nI 1)), .ref 0], M)) rfl ?_
  refine am_goX (v := (-nI 1)) (M2 := (am_set M 16 1 (M 16 1 + nI 1))) (s2 := (19, [.ref 0, .int (nI j), .int (y)], [], M)) rfl (s_refuse_1) ?_
  exact am_ends (-nI 1) _ rfl rfl rfl

set_option maxHeartbeats 4000000 in
theorem r_handing_1 {M : am_Mem} {a f hr hs lt : Nat} {k h : Nat → Nat} (hS : sp_M M a f hr hs lt k h) (hO : sp_ok a f hr lt k h) (oD : ∀ p q, p < 2 * a → q < 2 * a → h p = h q → p = q) {j : Nat} (hj : j < 12) {y : Int32} (hx : am_in y 12 = false) : am_go 143 (am_ent 143 [.ref 17, .int (nI j), .int (y)] M) (am_is (-nI 1) (am_set M 18 1 (M 18 1 + nI 1))) := by
  obtain ⟨hF, hA, hHr, hHs, hLt, hK, hH⟩ := id hS
  obtain ⟨oA, oF, oHr, oLt, oK, oH⟩ := id hO
  refine am_goR 1 (s2 := (1, [.ref 17, .int (nI j), .int (y)], [.int (nI j)], M)) rfl ?_
  refine am_goX (v := nI 1) (M2 := M) (s2 := (4, [.ref 17, .int (nI j), .int (y)], [], M)) rfl (t_isJoint1 (j := j) (by omega)) ?_
  refine am_goR 2 (s2 := (8, [.ref 17, .int (nI j), .int (y)], [.int (y)], M)) rfl ?_
  refine am_goX (v := am_b (am_in y 12)) (M2 := M) (s2 := (11, [.ref 17, .int (nI j), .int (y)], [], M)) rfl (t_isJoint) ?_
  refine am_bB0 (am_in y 12) (s1 := (25, [.ref 17, .int (nI j), .int (y)], [], M)) (s2 := (14, [.ref 17, .int (nI j), .int (y)], [], M)) rfl (fun c1 => ?_) (fun c1 => absurd c1 (by simp [*]))
  refine am_goR 2 (s2 := (27, [.ref 17, .int (nI j), .int (y)], [.int ((-nI 1)), .ref 17], M)) rfl ?_
  refine am_goX (v := (-nI 1)) (M2 := (am_set M 18 1 (M 18 1 + nI 1))) (s2 := (30, [.ref 17, .int (nI j), .int (y)], [], M)) rfl (t_no_1) ?_
  exact am_ends (-nI 1) _ rfl rfl rfl

set_option maxHeartbeats 4000000 in
theorem c_handing_v {M : am_Mem} {a f hr hs lt : Nat} {k h : Nat → Nat} (hS : sp_S 1 M a f hr hs lt k h) (hO : sp_ok a f hr lt k h) {j : Nat} (hj : j < 12) {j2 : Nat} (hj2 : j2 < 12) : am_go 70 (am_ent 70 [.ref 0, .int (nI j), .int (nI j2)] M) (am_is (sp_oi (sp_hd h a 9 j j2)) M) := by
  obtain ⟨hF, hA, hHr, hHs, hLt, hK, hH⟩ := id hS
  obtain ⟨oA, oF, oHr, oLt, oK, oH⟩ := id hO
  refine am_goR 1 (s2 := (1, [.ref 0, .int (nI j), .int (nI j2)], [.int (nI j)], M)) rfl ?_
  refine am_goX (v := nI 1) (M2 := M) (s2 := (4, [.ref 0, .int (nI j), .int (nI j2)], [], M)) rfl (s_isJoint1 (j := j) (by omega)) ?_
  refine am_goR 2 (s2 := (8, [.ref 0, .int (nI j), .int (nI j2)], [.int (nI j2)], M)) rfl ?_
  refine am_goX (v := nI 1) (M2 := M) (s2 := (11, [.ref 0, .int (nI j), .int (nI j2)], [], M)) rfl (s_isJoint1 (j := j2) (by omega)) ?_
  refine am_goR 6 (s2 := (28, [.ref 0, .int (nI j), .int (nI j2)], [.int ((-nI 9)), .int (nI j2), .int (nI j), .ref 1], M)) rfl ?_
  refine am_goX (v := (sp_oi (sp_hd h a 9 j j2))) (M2 := M) (s2 := (31, [.ref 0, .int (nI j), .int (nI j2)], [], M)) rfl (s_fewestn hS hO hj hj2) ?_
  exact am_ends ((sp_oi (sp_hd h a 9 j j2))) _ rfl (by rfl) (rfl)

set_option maxHeartbeats 4000000 in
theorem r_handing_v {M : am_Mem} {a f hr hs lt : Nat} {k h : Nat → Nat} (hS : sp_M M a f hr hs lt k h) (hO : sp_ok a f hr lt k h) (oD : ∀ p q, p < 2 * a → q < 2 * a → h p = h q → p = q) {j : Nat} (hj : j < 12) {j2 : Nat} (hj2 : j2 < 12) : am_go 143 (am_ent 143 [.ref 17, .int (nI j), .int (nI j2)] M) (am_is (sp_oi (sp_hd h a 9 j j2)) M) := by
  obtain ⟨hF, hA, hHr, hHs, hLt, hK, hH⟩ := id hS
  obtain ⟨oA, oF, oHr, oLt, oK, oH⟩ := id hO
  refine am_goR 1 (s2 := (1, [.ref 17, .int (nI j), .int (nI j2)], [.int (nI j)], M)) rfl ?_
  refine am_goX (v := nI 1) (M2 := M) (s2 := (4, [.ref 17, .int (nI j), .int (nI j2)], [], M)) rfl (t_isJoint1 (j := j) (by omega)) ?_
  refine am_goR 2 (s2 := (8, [.ref 17, .int (nI j), .int (nI j2)], [.int (nI j2)], M)) rfl ?_
  refine am_goX (v := nI 1) (M2 := M) (s2 := (11, [.ref 17, .int (nI j), .int (nI j2)], [], M)) rfl (t_isJoint1 (j := j2) (by omega)) ?_
  refine am_goR 5 (s2 := (19, [.ref 17, .int (nI j), .int (nI j2)], [.int ((-nI 9)), .int (nI j2), .int (nI j), .ref 17], M)) rfl ?_
  refine am_goX (v := (sp_oi (sp_hd h a 9 j j2))) (M2 := M) (s2 := (22, [.ref 17, .int (nI j), .int (nI j2)], [], M)) rfl (t_handedn hS hO hj hj2) ?_
  refine am_goR 1 (s2 := (30, [.ref 17, .int (nI j), .int (nI j2)], [.int ((sp_oi (sp_hd h a 9 j j2)))], M)) rfl ?_
  exact am_ends ((sp_oi (sp_hd h a 9 j j2))) _ rfl (by rfl) (rfl)

theorem pp_handing {M : am_Mem} (hI : sp_Inv M) (x y : Int32) : sp_PP 70 143 [.int x, .int y] M := by
  obtain ⟨⟨⟨a, f, hr, hs, lt, k, h⟩, t, w2, n, tx, rn, ro, rf⟩, hC, hR, hG⟩ := hI
  have hO := hG.1.1
  have oD := hG.1.2.2.1
  have oFx := hG.1.2.2.2
  have oA := hO.1
  have oHs := hG.1.2.1
  dsimp only at oD oFx oA oHs
  have hO : sp_ok a f hr lt k h := hO
  rcases am_in_cs x (n := 12) (by omega) with hx | ⟨j, hj, rfl⟩
  · exact sp_PPr 1 (by decide) hC hR hG (c_handing_0 hC.1 hO hx) (fun N hN => r_handing_0 hN.1 hO oD hx)
  · rcases am_in_cs y (n := 12) (by omega) with hy | ⟨j2, hj2, rfl⟩
    · exact sp_PPr 1 (by decide) hC hR hG (c_handing_1 hC.1 hO hj hy) (fun N hN => r_handing_1 hN.1 hO oD hj hy)
    · exact sp_PP0 hC hR hG (c_handing_v hC.1 hO hj hj2) (fun N hN => r_handing_v hN.1 hO oD hj hj2)

set_option maxHeartbeats 4000000 in
theorem c_without_0 {M : am_Mem} {a f hr hs lt : Nat} {k h : Nat → Nat} (hS : sp_S 1 M a f hr hs lt k h) (hO : sp_ok a f hr lt k h) {x : Int32} (hx : am_in x 12 = false) {y z : Int32} : am_go 71 (am_ent 71 [.ref 0, .int (x), .int (y), .int (z)] M) (am_is (-nI 1) (am_set M 16 1 (M 16 1 + nI 1))) := by
  obtain ⟨hF, hA, hHr, hHs, hLt, hK, hH⟩ := id hS
  obtain ⟨oA, oF, oHr, oLt, oK, oH⟩ := id hO
  refine am_goR 1 (s2 := (1, [.ref 0, .int (x), .int (y), .int (z)], [.int (x)], M)) rfl ?_
  refine am_goX (v := am_b (am_in x 12)) (M2 := M) (s2 := (4, [.ref 0, .int (x), .int (y), .int (z)], [], M)) rfl (s_isJoint) ?_
  refine am_bB0 (am_in x 12) (s1 := (25, [.ref 0, .int (x), .int (y), .int (z)], [], M)) (s2 := (7, [.ref 0, .int (x), .int (y), .int (z)], [], M)) rfl (fun c1 => ?_) (fun c1 => absurd c1 (by simp [*]))
  refine am_goR 2 (s2 := (27, [.ref 0, .int (x), .int (y), .int (z)], [.int ((-nI 1)), .ref 0], M)) rfl ?_
  refine am_goX (v := (-nI 1)) (M2 := (am_set M 16 1 (M 16 1 + nI 1))) (s2 := (30, [.ref 0, .int (x), .int (y), .int (z)], [], M)) rfl (s_refuse_1) ?_
  exact am_ends (-nI 1) _ rfl rfl rfl

set_option maxHeartbeats 4000000 in
theorem r_without_0 {M : am_Mem} {a f hr hs lt : Nat} {k h : Nat → Nat} (hS : sp_M M a f hr hs lt k h) (hO : sp_ok a f hr lt k h) (oD : ∀ p q, p < 2 * a → q < 2 * a → h p = h q → p = q) {x : Int32} (hx : am_in x 12 = false) {y z : Int32} : am_go 144 (am_ent 144 [.ref 17, .int (x), .int (y), .int (z)] M) (am_is (-nI 1) (am_set M 18 1 (M 18 1 + nI 1))) := by
  obtain ⟨hF, hA, hHr, hHs, hLt, hK, hH⟩ := id hS
  obtain ⟨oA, oF, oHr, oLt, oK, oH⟩ := id hO
  refine am_goR 1 (s2 := (1, [.ref 17, .int (x), .int (y), .int (z)], [.int (x)], M)) rfl ?_
  refine am_goX (v := am_b (am_in x 12)) (M2 := M) (s2 := (4, [.ref 17, .int (x), .int (y), .int (z)], [], M)) rfl (t_isJoint) ?_
  refine am_bB0 (am_in x 12) (s1 := (22, [.ref 17, .int (x), .int (y), .int (z)], [], M)) (s2 := (7, [.ref 17, .int (x), .int (y), .int (z)], [], M)) rfl (fun c1 => ?_) (fun c1 => absurd c1 (by simp [*]))
  refine am_goR 2 (s2 := (24, [.ref 17, .int (x), .int (y), .int (z)], [.int ((-nI 1)), .ref 17], M)) rfl ?_
  refine am_goX (v := (-nI 1)) (M2 := (am_set M 18 1 (M 18 1 + nI 1))) (s2 := (27, [.ref 17, .int (x), .int (y), .int (z)], [], M)) rfl (t_no_1) ?_
  exact am_ends (-nI 1) _ rfl rfl rfl

set_option maxHeartbeats 4000000 in
theorem c_without_1 {M : am_Mem} {a f hr hs lt : Nat} {k h : Nat → Nat} (hS : sp_S 1 M a f hr hs lt k h) (hO : sp_ok a f hr lt k h) {j : Nat} (hj : j < 12) {y z : Int32} (hx : am_in y 12 = false) : am_go 71 (am_ent 71 [.ref 0, .int (nI j), .int (y), .int (z)] M) (am_is (-nI 1) (am_set M 16 1 (M 16 1 + nI 1))) := by
  obtain ⟨hF, hA, hHr, hHs, hLt, hK, hH⟩ := id hS
  obtain ⟨oA, oF, oHr, oLt, oK, oH⟩ := id hO
  refine am_goR 1 (s2 := (1, [.ref 0, .int (nI j), .int (y), .int (z)], [.int (nI j)], M)) rfl ?_
  refine am_goX (v := nI 1) (M2 := M) (s2 := (4, [.ref 0, .int (nI j), .int (y), .int (z)], [], M)) rfl (s_isJoint1 (j := j) (by omega)) ?_
  refine am_goR 2 (s2 := (8, [.ref 0, .int (nI j), .int (y), .int (z)], [.int (y)], M)) rfl ?_
  refine am_goX (v := am_b (am_in y 12)) (M2 := M) (s2 := (11, [.ref 0, .int (nI j), .int (y), .int (z)], [], M)) rfl (s_isJoint) ?_
  refine am_bB0 (am_in y 12) (s1 := (25, [.ref 0, .int (nI j), .int (y), .int (z)], [], M)) (s2 := (14, [.ref 0, .int (nI j), .int (y), .int (z)], [], M)) rfl (fun c1 => ?_) (fun c1 => absurd c1 (by simp [*]))
  refine am_goR 2 (s2 := (27, [.ref 0, .int (nI j), .int (y), .int (z)], [.int ((-nI 1)), .ref 0], M)) rfl ?_
  refine am_goX (v := (-nI 1)) (M2 := (am_set M 16 1 (M 16 1 + nI 1))) (s2 := (30, [.ref 0, .int (nI j), .int (y), .int (z)], [], M)) rfl (s_refuse_1) ?_
  exact am_ends (-nI 1) _ rfl rfl rfl

set_option maxHeartbeats 4000000 in
theorem r_without_1 {M : am_Mem} {a f hr hs lt : Nat} {k h : Nat → Nat} (hS : sp_M M a f hr hs lt k h) (hO : sp_ok a f hr lt k h) (oD : ∀ p q, p < 2 * a → q < 2 * a → h p = h q → p = q) {j : Nat} (hj : j < 12) {y z : Int32} (hx : am_in y 12 = false) : am_go 144 (am_ent 144 [.ref 17, .int (nI j), .int (y), .int (z)] M) (am_is (-nI 1) (am_set M 18 1 (M 18 1 + nI 1))) := by
  obtain ⟨hF, hA, hHr, hHs, hLt, hK, hH⟩ := id hS
  obtain ⟨oA, oF, oHr, oLt, oK, oH⟩ := id hO
  refine am_goR 1 (s2 := (1, [.ref 17, .int (nI j), .int (y), .int (z)], [.int (nI j)], M)) rfl ?_
  refine am_goX (v := nI 1) (M2 := M) (s2 := (4, [.ref 17, .int (nI j), .int (y), .int (z)], [], M)) rfl (t_isJoint1 (j := j) (by omega)) ?_
  refine am_goR 2 (s2 := (8, [.ref 17, .int (nI j), .int (y), .int (z)], [.int (y)], M)) rfl ?_
  refine am_goX (v := am_b (am_in y 12)) (M2 := M) (s2 := (11, [.ref 17, .int (nI j), .int (y), .int (z)], [], M)) rfl (t_isJoint) ?_
  refine am_bB0 (am_in y 12) (s1 := (22, [.ref 17, .int (nI j), .int (y), .int (z)], [], M)) (s2 := (14, [.ref 17, .int (nI j), .int (y), .int (z)], [], M)) rfl (fun c1 => ?_) (fun c1 => absurd c1 (by simp [*]))
  refine am_goR 2 (s2 := (24, [.ref 17, .int (nI j), .int (y), .int (z)], [.int ((-nI 1)), .ref 17], M)) rfl ?_
  refine am_goX (v := (-nI 1)) (M2 := (am_set M 18 1 (M 18 1 + nI 1))) (s2 := (27, [.ref 17, .int (nI j), .int (y), .int (z)], [], M)) rfl (t_no_1) ?_
  exact am_ends (-nI 1) _ rfl rfl rfl

set_option maxHeartbeats 4000000 in
theorem c_without_2 {M : am_Mem} {a f hr hs lt : Nat} {k h : Nat → Nat} (hS : sp_S 1 M a f hr hs lt k h) (hO : sp_ok a f hr lt k h) {j : Nat} (hj : j < 12) {j2 : Nat} (hj2 : j2 < 12) {z : Int32} (hx : am_in z a = false) : am_go 71 (am_ent 71 [.ref 0, .int (nI j), .int (nI j2), .int (z)] M) (am_is (-nI 1) (am_set M 16 1 (M 16 1 + nI 1))) := by
  obtain ⟨hF, hA, hHr, hHs, hLt, hK, hH⟩ := id hS
  obtain ⟨oA, oF, oHr, oLt, oK, oH⟩ := id hO
  refine am_goR 1 (s2 := (1, [.ref 0, .int (nI j), .int (nI j2), .int (z)], [.int (nI j)], M)) rfl ?_
  refine am_goX (v := nI 1) (M2 := M) (s2 := (4, [.ref 0, .int (nI j), .int (nI j2), .int (z)], [], M)) rfl (s_isJoint1 (j := j) (by omega)) ?_
  refine am_goR 2 (s2 := (8, [.ref 0, .int (nI j), .int (nI j2), .int (z)], [.int (nI j2)], M)) rfl ?_
  refine am_goX (v := nI 1) (M2 := M) (s2 := (11, [.ref 0, .int (nI j), .int (nI j2), .int (z)], [], M)) rfl (s_isJoint1 (j := j2) (by omega)) ?_
  refine am_goR 4 (s2 := (19, [.ref 0, .int (nI j), .int (nI j2), .int (z)], [.int (z), .ref 1], M)) rfl ?_
  refine am_goX (v := am_b (am_in z a)) (M2 := M) (s2 := (22, [.ref 0, .int (nI j), .int (nI j2), .int (z)], [], M)) rfl (s_hasArm_1 hS.2.1 hO.1) ?_
  refine am_bB1 (am_in z a) (s1 := (31, [.ref 0, .int (nI j), .int (nI j2), .int (z)], [], M)) (s2 := (25, [.ref 0, .int (nI j), .int (nI j2), .int (z)], [], M)) rfl (fun c1 => absurd c1 (by simp [*])) (fun c1 => ?_)
  refine am_goR 2 (s2 := (27, [.ref 0, .int (nI j), .int (nI j2), .int (z)], [.int ((-nI 1)), .ref 0], M)) rfl ?_
  refine am_goX (v := (-nI 1)) (M2 := (am_set M 16 1 (M 16 1 + nI 1))) (s2 := (30, [.ref 0, .int (nI j), .int (nI j2), .int (z)], [], M)) rfl (s_refuse_1) ?_
  exact am_ends (-nI 1) _ rfl rfl rfl

set_option maxHeartbeats 4000000 in
theorem r_without_2 {M : am_Mem} {a f hr hs lt : Nat} {k h : Nat → Nat} (hS : sp_M M a f hr hs lt k h) (hO : sp_ok a f hr lt k h) (oD : ∀ p q, p < 2 * a → q < 2 * a → h p = h q → p = q) {j : Nat} (hj : j < 12) {j2 : Nat} (hj2 : j2 < 12) {z : Int32} (hx : am_in z a = false) : am_go 144 (am_ent 144 [.ref 17, .int (nI j), .int (nI j2), .int (z)] M) (am_is (-nI 1) (am_set M 18 1 (M 18 1 + nI 1))) := by
  obtain ⟨hF, hA, hHr, hHs, hLt, hK, hH⟩ := id hS
  obtain ⟨oA, oF, oHr, oLt, oK, oH⟩ := id hO
  refine am_goR 1 (s2 := (1, [.ref 17, .int (nI j), .int (nI j2), .int (z)], [.int (nI j)], M)) rfl ?_
  refine am_goX (v := nI 1) (M2 := M) (s2 := (4, [.ref 17, .int (nI j), .int (nI j2), .int (z)], [], M)) rfl (t_isJoint1 (j := j) (by omega)) ?_
  refine am_goR 2 (s2 := (8, [.ref 17, .int (nI j), .int (nI j2), .int (z)], [.int (nI j2)], M)) rfl ?_
  refine am_goX (v := nI 1) (M2 := M) (s2 := (11, [.ref 17, .int (nI j), .int (nI j2), .int (z)], [], M)) rfl (t_isJoint1 (j := j2) (by omega)) ?_
  refine am_goR 3 (s2 := (16, [.ref 17, .int (nI j), .int (nI j2), .int (z)], [.int (z), .ref 17], M)) rfl ?_
  refine am_goX (v := am_b (am_in z a)) (M2 := M) (s2 := (19, [.ref 17, .int (nI j), .int (nI j2), .int (z)], [], M)) rfl (t_isArm hS.2.1 hO.1) ?_
  refine am_bB1 (am_in z a) (s1 := (28, [.ref 17, .int (nI j), .int (nI j2), .int (z)], [], M)) (s2 := (22, [.ref 17, .int (nI j), .int (nI j2), .int (z)], [], M)) rfl (fun c1 => absurd c1 (by simp [*])) (fun c1 => ?_)
  refine am_goR 2 (s2 := (24, [.ref 17, .int (nI j), .int (nI j2), .int (z)], [.int ((-nI 1)), .ref 17], M)) rfl ?_
  refine am_goX (v := (-nI 1)) (M2 := (am_set M 18 1 (M 18 1 + nI 1))) (s2 := (27, [.ref 17, .int (nI j), .int (nI j2), .int (z)], [], M)) rfl (t_no_1) ?_
  exact am_ends (-nI 1) _ rfl rfl rfl

set_option maxHeartbeats 4000000 in
theorem c_without_v {M : am_Mem} {a f hr hs lt : Nat} {k h : Nat → Nat} (hS : sp_S 1 M a f hr hs lt k h) (hO : sp_ok a f hr lt k h) {j : Nat} (hj : j < 12) {j2 : Nat} (hj2 : j2 < 12) {i : Nat} (hi : i < a) : am_go 71 (am_ent 71 [.ref 0, .int (nI j), .int (nI j2), .int (nI i)] M) (am_is (am_b (sp_hd h a i j j2).isSome) M) := by
  obtain ⟨hF, hA, hHr, hHs, hLt, hK, hH⟩ := id hS
  obtain ⟨oA, oF, oHr, oLt, oK, oH⟩ := id hO
  refine am_goR 1 (s2 := (1, [.ref 0, .int (nI j), .int (nI j2), .int (nI i)], [.int (nI j)], M)) rfl ?_
  refine am_goX (v := nI 1) (M2 := M) (s2 := (4, [.ref 0, .int (nI j), .int (nI j2), .int (nI i)], [], M)) rfl (s_isJoint1 (j := j) (by omega)) ?_
  refine am_goR 2 (s2 := (8, [.ref 0, .int (nI j), .int (nI j2), .int (nI i)], [.int (nI j2)], M)) rfl ?_
  refine am_goX (v := nI 1) (M2 := M) (s2 := (11, [.ref 0, .int (nI j), .int (nI j2), .int (nI i)], [], M)) rfl (s_isJoint1 (j := j2) (by omega)) ?_
  refine am_goR 4 (s2 := (19, [.ref 0, .int (nI j), .int (nI j2), .int (nI i)], [.int (nI i), .ref 1], M)) rfl ?_
  refine am_goX (v := nI 1) (M2 := M) (s2 := (22, [.ref 0, .int (nI j), .int (nI j2), .int (nI i)], [], M)) rfl (s_hasArm1_1 hS.2.1 hO.1 (i := i) (by omega)) ?_
  refine am_goR 6 (s2 := (38, [.ref 0, .int (nI j), .int (nI j2), .int (nI i)], [.int (nI i), .int (nI j2), .int (nI j), .ref 1], M)) rfl ?_
  rcases e9 : (sp_hd h a i j j2) with _ | m9
  · refine am_goX (v := (-nI 9)) (M2 := M) (s2 := (41, [.ref 0, .int (nI j), .int (nI j2), .int (nI i)], [], M)) rfl ((by have z := s_fewestw hS hO hj hj2 (w := i) (by omega); unfold sp_hd at e9; rw [e9] at z; exact z)) ?_
    refine am_goR 3 (s2 := (51, [.ref 0, .int (nI j), .int (nI j2), .int (nI i)], [.int (nI 0)], M)) rfl ?_
    exact am_ends (nI 0) _ rfl (by rfl) (rfl)
  · refine am_goX (v := nI m9) (M2 := M) (s2 := (41, [.ref 0, .int (nI j), .int (nI j2), .int (nI i)], [], M)) rfl ((by have z := s_fewestw hS hO hj hj2 (w := i) (by omega); unfold sp_hd at e9; rw [e9] at z; exact z)) ?_
    have h9 := sp_hd_le e9
    refine am_goR 1 (s2 := (43, [.ref 0, .int (nI j), .int (nI j2), .int (nI i)], [.int ((-nI 9)), .int (nI m9)], M)) rfl ?_
    refine am_bF (s1 := (50, [.ref 0, .int (nI j), .int (nI j2), .int (nI i)], [], M)) (s2 := (46, [.ref 0, .int (nI j), .int (nI j2), .int (nI i)], [], M)) rfl (am_nm_ne (x := m9) (m := 9) (by omega) (by decide) (by decide)) ?_
    refine am_goR 2 (s2 := (51, [.ref 0, .int (nI j), .int (nI j2), .int (nI i)], [.int (nI 1)], M)) rfl ?_
    exact am_ends (nI 1) _ rfl (by rfl) (rfl)

set_option maxHeartbeats 4000000 in
theorem r_without_v {M : am_Mem} {a f hr hs lt : Nat} {k h : Nat → Nat} (hS : sp_M M a f hr hs lt k h) (hO : sp_ok a f hr lt k h) (oD : ∀ p q, p < 2 * a → q < 2 * a → h p = h q → p = q) {j : Nat} (hj : j < 12) {j2 : Nat} (hj2 : j2 < 12) {i : Nat} (hi : i < a) : am_go 144 (am_ent 144 [.ref 17, .int (nI j), .int (nI j2), .int (nI i)] M) (am_is (am_b (sp_hd h a i j j2).isSome) M) := by
  obtain ⟨hF, hA, hHr, hHs, hLt, hK, hH⟩ := id hS
  obtain ⟨oA, oF, oHr, oLt, oK, oH⟩ := id hO
  refine am_goR 1 (s2 := (1, [.ref 17, .int (nI j), .int (nI j2), .int (nI i)], [.int (nI j)], M)) rfl ?_
  refine am_goX (v := nI 1) (M2 := M) (s2 := (4, [.ref 17, .int (nI j), .int (nI j2), .int (nI i)], [], M)) rfl (t_isJoint1 (j := j) (by omega)) ?_
  refine am_goR 2 (s2 := (8, [.ref 17, .int (nI j), .int (nI j2), .int (nI i)], [.int (nI j2)], M)) rfl ?_
  refine am_goX (v := nI 1) (M2 := M) (s2 := (11, [.ref 17, .int (nI j), .int (nI j2), .int (nI i)], [], M)) rfl (t_isJoint1 (j := j2) (by omega)) ?_
  refine am_goR 3 (s2 := (16, [.ref 17, .int (nI j), .int (nI j2), .int (nI i)], [.int (nI i), .ref 17], M)) rfl ?_
  refine am_goX (v := nI 1) (M2 := M) (s2 := (19, [.ref 17, .int (nI j), .int (nI j2), .int (nI i)], [], M)) rfl (t_isArm1 hS.2.1 hO.1 (i := i) (by omega)) ?_
  refine am_goR 5 (s2 := (32, [.ref 17, .int (nI j), .int (nI j2), .int (nI i)], [.int (nI i), .int (nI j2), .int (nI j), .ref 17], M)) rfl ?_
  rcases e9 : (sp_hd h a i j j2) with _ | m9
  · refine am_goX (v := (-nI 9)) (M2 := M) (s2 := (35, [.ref 17, .int (nI j), .int (nI j2), .int (nI i)], [], M)) rfl ((by have z := t_handedw hS hO hj hj2 (w := i) (by omega); unfold sp_hd at e9; rw [e9] at z; exact z)) ?_
    refine am_goR 2 (s2 := (43, [.ref 17, .int (nI j), .int (nI j2), .int (nI i)], [.int (nI 0)], M)) rfl ?_
    exact am_ends (nI 0) _ rfl (by rfl) (rfl)
  · refine am_goX (v := nI m9) (M2 := M) (s2 := (35, [.ref 17, .int (nI j), .int (nI j2), .int (nI i)], [], M)) rfl ((by have z := t_handedw hS hO hj hj2 (w := i) (by omega); unfold sp_hd at e9; rw [e9] at z; exact z)) ?_
    have h9 := sp_hd_le e9
    refine am_bLT (m9) (0) (s1 := (42, [.ref 17, .int (nI j), .int (nI j2), .int (nI i)], [], M)) (s2 := (38, [.ref 17, .int (nI j), .int (nI j2), .int (nI i)], [], M)) rfl (by omega) (by omega) (fun c1 => absurd c1 (by omega)) (fun c1 => ?_)
    refine am_goR 2 (s2 := (43, [.ref 17, .int (nI j), .int (nI j2), .int (nI i)], [.int (nI 1)], M)) rfl ?_
    exact am_ends (nI 1) _ rfl (by rfl) (rfl)

theorem pp_without {M : am_Mem} (hI : sp_Inv M) (x y z : Int32) : sp_PP 71 144 [.int x, .int y, .int z] M := by
  obtain ⟨⟨⟨a, f, hr, hs, lt, k, h⟩, t, w2, n, tx, rn, ro, rf⟩, hC, hR, hG⟩ := hI
  have hO := hG.1.1
  have oD := hG.1.2.2.1
  have oFx := hG.1.2.2.2
  have oA := hO.1
  have oHs := hG.1.2.1
  dsimp only at oD oFx oA oHs
  have hO : sp_ok a f hr lt k h := hO
  rcases am_in_cs x (n := 12) (by omega) with hx | ⟨j, hj, rfl⟩
  · exact sp_PPr 1 (by decide) hC hR hG (c_without_0 hC.1 hO hx) (fun N hN => r_without_0 hN.1 hO oD hx)
  · rcases am_in_cs y (n := 12) (by omega) with hy | ⟨j2, hj2, rfl⟩
    · exact sp_PPr 1 (by decide) hC hR hG (c_without_1 hC.1 hO hj hy) (fun N hN => r_without_1 hN.1 hO oD hj hy)
    · rcases am_in_cs z (n := a) (by omega) with hz | ⟨i, hi, rfl⟩
      · exact sp_PPr 1 (by decide) hC hR hG (c_without_2 hC.1 hO hj hj2 hz) (fun N hN => r_without_2 hN.1 hO oD hj hj2 hz)
      · exact sp_PP0 hC hR hG (c_without_v hC.1 hO hj hj2 hi) (fun N hN => r_without_v hN.1 hO oD hj hj2 hi)

set_option maxHeartbeats 4000000 in
theorem c_blocked_loop {M : am_Mem} {a f hr hs lt : Nat} {k h : Nat → Nat} (hS : sp_S 1 M a f hr hs lt k h) (hO : sp_ok a f hr lt k h) : ∀ n p : Nat, n + p = a + 1 → p ≤ a → am_go 64 (4, [.ref 0, .int (nI (sp_bs (fun q => sp_wk lt (k q) hr && !sp_st a f k h q 9) p)), .int (nI p)], [], M) (am_is (nI (sp_bs (fun q => sp_wk lt (k q) hr && !sp_st a f k h q 9) a)) M) := by
  obtain ⟨hF, hA, hHr, hHs, hLt, hK, hH⟩ := id hS
  obtain ⟨oA, oF, oHr, oLt, oK, oH⟩ := id hO
  have p16 : ∀ q, q ≤ 4 → sp_bs (fun q => sp_wk lt (k q) hr && !sp_st a f k h q 9) q < 16 := fun q hq => sp_bs4 hq
  intro n
  induction n with
  | zero => intro p  h1 h2; omega
  | succ n ih =>
    intro p  h1 h2
    refine am_goQ 4 (s1 := (12, [.ref 0, .int (nI (sp_bs (fun q => sp_wk lt (k q) hr && !sp_st a f k h q 9) p)), .int (nI p)], [.int ((M 1 1)), .int (nI p)], M)) (s2 := (12, [.ref 0, .int (nI (sp_bs (fun q => sp_wk lt (k q) hr && !sp_st a f k h q 9) p)), .int (nI p)], [.int (nI a), .int (nI p)], M)) rfl (by simp only [hA]) ?_
    refine am_bLE (a) (p) (s1 := (38, [.ref 0, .int (nI (sp_bs (fun q => sp_wk lt (k q) hr && !sp_st a f k h q 9) p)), .int (nI p)], [], M)) (s2 := (15, [.ref 0, .int (nI (sp_bs (fun q => sp_wk lt (k q) hr && !sp_st a f k h q 9) p)), .int (nI p)], [], M)) rfl (by omega) (by omega) (fun c1 => ?_) (fun c1 => ?_)
    · refine am_goR 1 (s2 := (39, [.ref 0, .int (nI (sp_bs (fun q => sp_wk lt (k q) hr && !sp_st a f k h q 9) p)), .int (nI p)], [.int (nI (sp_bs (fun q => sp_wk lt (k q) hr && !sp_st a f k h q 9) p))], M)) rfl ?_
      exact am_ends (nI (sp_bs (fun q => sp_wk lt (k q) hr && !sp_st a f k h q 9) p)) _ rfl (by rw [show p = a by omega]) (rfl)
    · refine am_goR 3 (s2 := (20, [.ref 0, .int (nI (sp_bs (fun q => sp_wk lt (k q) hr && !sp_st a f k h q 9) p)), .int (nI p)], [.int (nI p), .ref 1], M)) rfl ?_
      refine am_goX (v := am_b (sp_wk lt (k p) hr && !sp_st a f k h p 9)) (M2 := M) (s2 := (23, [.ref 0, .int (nI (sp_bs (fun q => sp_wk lt (k q) hr && !sp_st a f k h q 9) p)), .int (nI p)], [], M)) rfl (s_isBlocked_1 hS hO (i := p) (by omega)) ?_
      refine am_bB0 (sp_wk lt (k p) hr && !sp_st a f k h p 9) (s1 := (32, [.ref 0, .int (nI (sp_bs (fun q => sp_wk lt (k q) hr && !sp_st a f k h q 9) p)), .int (nI p)], [], M)) (s2 := (26, [.ref 0, .int (nI (sp_bs (fun q => sp_wk lt (k q) hr && !sp_st a f k h q 9) p)), .int (nI p)], [], M)) rfl (fun c2 => ?_) (fun c2 => ?_)
      · refine am_goQ 2 (s1 := (4, [.ref 0, .int (nI (sp_bs (fun q => sp_wk lt (k q) hr && !sp_st a f k h q 9) p)), .int ((nI p + nI 1))], [], M)) (s2 := (4, [.ref 0, .int (nI (sp_bs (fun q => sp_wk lt (k q) hr && !sp_st a f k h q 9) p)), .int (nI (p + 1))], [], M)) rfl (by simp only [nI_add]) ?_
        rw [show (sp_bs (fun q => sp_wk lt (k q) hr && !sp_st a f k h q 9) p) = sp_bs (fun q => sp_wk lt (k q) hr && !sp_st a f k h q 9) (p + 1) from sp_bsN (by simp [*]; try omega)]
        exact ih (p + 1) (by omega) (by omega)
      · refine am_goQ 8 (s1 := (4, [.ref 0, .int ((nI (sp_bs (fun q => sp_wk lt (k q) hr && !sp_st a f k h q 9) p) ||| (nI 1 <<< (nI p &&& 31)))), .int ((nI p + nI 1))], [], M)) (s2 := (4, [.ref 0, .int (nI ((sp_bs (fun q => sp_wk lt (k q) hr && !sp_st a f k h q 9) p) ||| (2 ^ p))), .int (nI (p + 1))], [], M)) rfl (by simp only [am_shl1 (j := p) (by omega), am_or, nI_add]) ?_
        rw [show ((sp_bs (fun q => sp_wk lt (k q) hr && !sp_st a f k h q 9) p) ||| (2 ^ p)) = sp_bs (fun q => sp_wk lt (k q) hr && !sp_st a f k h q 9) (p + 1) from sp_bsP (by simp [*]; try omega)]
        exact ih (p + 1) (by omega) (by omega)

set_option maxHeartbeats 4000000 in
theorem c_blocked_v {M : am_Mem} {a f hr hs lt : Nat} {k h : Nat → Nat} (hS : sp_S 1 M a f hr hs lt k h) (hO : sp_ok a f hr lt k h)  : am_go 64 (am_ent 64 [.ref 0] M) (am_is (nI (sp_bs (fun q => sp_wk lt (k q) hr && !sp_st a f k h q 9) a)) M) := by
  obtain ⟨hF, hA, hHr, hHs, hLt, hK, hH⟩ := id hS
  obtain ⟨oA, oF, oHr, oLt, oK, oH⟩ := id hO
  refine am_goR 4 (s2 := (4, [.ref 0, .int (nI 0), .int (nI 0)], [], M)) rfl ?_
  exact c_blocked_loop hS hO (a + 1) 0 (by omega) (by omega)

set_option maxHeartbeats 4000000 in
theorem r_blocked_loop {M : am_Mem} {a f hr hs lt : Nat} {k h : Nat → Nat} (hS : sp_M M a f hr hs lt k h) (hO : sp_ok a f hr lt k h) (oD : ∀ p q, p < 2 * a → q < 2 * a → h p = h q → p = q) : ∀ n p : Nat, n + p = a + 1 → p ≤ a → am_go 131 (4, [.ref 17, .int (nI (sp_bs (fun q => sp_wk lt (k q) hr && !sp_st a f k h q 9) p)), .int (nI p)], [], M) (am_is (nI (sp_bs (fun q => sp_wk lt (k q) hr && !sp_st a f k h q 9) a)) M) := by
  obtain ⟨hF, hA, hHr, hHs, hLt, hK, hH⟩ := id hS
  obtain ⟨oA, oF, oHr, oLt, oK, oH⟩ := id hO
  have p16 : ∀ q, q ≤ 4 → sp_bs (fun q => sp_wk lt (k q) hr && !sp_st a f k h q 9) q < 16 := fun q hq => sp_bs4 hq
  intro n
  induction n with
  | zero => intro p  h1 h2; omega
  | succ n ih =>
    intro p  h1 h2
    refine am_goQ 3 (s1 := (9, [.ref 17, .int (nI (sp_bs (fun q => sp_wk lt (k q) hr && !sp_st a f k h q 9) p)), .int (nI p)], [.int ((M 17 3)), .int (nI p)], M)) (s2 := (9, [.ref 17, .int (nI (sp_bs (fun q => sp_wk lt (k q) hr && !sp_st a f k h q 9) p)), .int (nI p)], [.int (nI a), .int (nI p)], M)) rfl (by simp only [hA]) ?_
    refine am_bLE (a) (p) (s1 := (36, [.ref 17, .int (nI (sp_bs (fun q => sp_wk lt (k q) hr && !sp_st a f k h q 9) p)), .int (nI p)], [], M)) (s2 := (12, [.ref 17, .int (nI (sp_bs (fun q => sp_wk lt (k q) hr && !sp_st a f k h q 9) p)), .int (nI p)], [], M)) rfl (by omega) (by omega) (fun c1 => ?_) (fun c1 => ?_)
    · refine am_goR 1 (s2 := (37, [.ref 17, .int (nI (sp_bs (fun q => sp_wk lt (k q) hr && !sp_st a f k h q 9) p)), .int (nI p)], [.int (nI (sp_bs (fun q => sp_wk lt (k q) hr && !sp_st a f k h q 9) p))], M)) rfl ?_
      exact am_ends (nI (sp_bs (fun q => sp_wk lt (k q) hr && !sp_st a f k h q 9) p)) _ rfl (by rw [show p = a by omega]) (rfl)
    · refine am_goR 3 (s2 := (15, [.ref 17, .int (nI (sp_bs (fun q => sp_wk lt (k q) hr && !sp_st a f k h q 9) p)), .int (nI p)], [.int (nI p), .ref 17, .int (nI (sp_bs (fun q => sp_wk lt (k q) hr && !sp_st a f k h q 9) p))], M)) rfl ?_
      refine am_goX (v := am_b (sp_wk lt (k p) hr && !sp_st a f k h p 9)) (M2 := M) (s2 := (18, [.ref 17, .int (nI (sp_bs (fun q => sp_wk lt (k q) hr && !sp_st a f k h q 9) p)), .int (nI p)], [.int (nI (sp_bs (fun q => sp_wk lt (k q) hr && !sp_st a f k h q 9) p))], M)) rfl (t_isBlocked hS hO oD (i := p) (by omega)) ?_
      refine am_bB0 (sp_wk lt (k p) hr && !sp_st a f k h p 9) (s1 := (27, [.ref 17, .int (nI (sp_bs (fun q => sp_wk lt (k q) hr && !sp_st a f k h q 9) p)), .int (nI p)], [.int (nI (sp_bs (fun q => sp_wk lt (k q) hr && !sp_st a f k h q 9) p))], M)) (s2 := (21, [.ref 17, .int (nI (sp_bs (fun q => sp_wk lt (k q) hr && !sp_st a f k h q 9) p)), .int (nI p)], [.int (nI (sp_bs (fun q => sp_wk lt (k q) hr && !sp_st a f k h q 9) p))], M)) rfl (fun c2 => ?_) (fun c2 => ?_)
      · refine am_goQ 5 (s1 := (4, [.ref 17, .int ((nI (sp_bs (fun q => sp_wk lt (k q) hr && !sp_st a f k h q 9) p) ||| nI 0)), .int ((nI p + nI 1))], [], M)) (s2 := (4, [.ref 17, .int (nI ((sp_bs (fun q => sp_wk lt (k q) hr && !sp_st a f k h q 9) p) ||| 0)), .int (nI (p + 1))], [], M)) rfl (by simp only [am_or, nI_add]) ?_
        rw [show ((sp_bs (fun q => sp_wk lt (k q) hr && !sp_st a f k h q 9) p) ||| 0) = sp_bs (fun q => sp_wk lt (k q) hr && !sp_st a f k h q 9) (p + 1) from (Nat.or_zero _).trans (sp_bsN (by simp [*]; try omega))]
        exact ih (p + 1) (by omega) (by omega)
      · refine am_goQ 8 (s1 := (4, [.ref 17, .int ((nI (sp_bs (fun q => sp_wk lt (k q) hr && !sp_st a f k h q 9) p) ||| (nI 1 <<< (nI p &&& 31)))), .int ((nI p + nI 1))], [], M)) (s2 := (4, [.ref 17, .int (nI ((sp_bs (fun q => sp_wk lt (k q) hr && !sp_st a f k h q 9) p) ||| (2 ^ p))), .int (nI (p + 1))], [], M)) rfl (by simp only [am_shl1 (j := p) (by omega), am_or, nI_add]) ?_
        rw [show ((sp_bs (fun q => sp_wk lt (k q) hr && !sp_st a f k h q 9) p) ||| (2 ^ p)) = sp_bs (fun q => sp_wk lt (k q) hr && !sp_st a f k h q 9) (p + 1) from sp_bsP (by simp [*]; try omega)]
        exact ih (p + 1) (by omega) (by omega)

set_option maxHeartbeats 4000000 in
theorem r_blocked_v {M : am_Mem} {a f hr hs lt : Nat} {k h : Nat → Nat} (hS : sp_M M a f hr hs lt k h) (hO : sp_ok a f hr lt k h) (oD : ∀ p q, p < 2 * a → q < 2 * a → h p = h q → p = q)  : am_go 131 (am_ent 131 [.ref 17] M) (am_is (nI (sp_bs (fun q => sp_wk lt (k q) hr && !sp_st a f k h q 9) a)) M) := by
  obtain ⟨hF, hA, hHr, hHs, hLt, hK, hH⟩ := id hS
  obtain ⟨oA, oF, oHr, oLt, oK, oH⟩ := id hO
  refine am_goR 4 (s2 := (4, [.ref 17, .int (nI 0), .int (nI 0)], [], M)) rfl ?_
  exact r_blocked_loop hS hO oD (a + 1) 0 (by omega) (by omega)

theorem pp_blocked {M : am_Mem} (hI : sp_Inv M) : sp_PP 64 131 [] M := by
  obtain ⟨⟨⟨a, f, hr, hs, lt, k, h⟩, t, w2, n, tx, rn, ro, rf⟩, hC, hR, hG⟩ := hI
  have hO := hG.1.1
  have oD := hG.1.2.2.1
  have oFx := hG.1.2.2.2
  have oA := hO.1
  have oHs := hG.1.2.1
  dsimp only at oD oFx oA oHs
  have hO : sp_ok a f hr lt k h := hO
  exact sp_PP0 hC hR hG (c_blocked_v hC.1 hO) (fun N hN => r_blocked_v hN.1 hO oD)

set_option maxHeartbeats 4000000 in
theorem c_by_0 {M : am_Mem} {a f hr hs lt : Nat} {k h : Nat → Nat} (hS : sp_S 1 M a f hr hs lt k h) (hO : sp_ok a f hr lt k h) {x : Int32} (hx : am_in x a = false) : am_go 65 (am_ent 65 [.ref 0, .int (x)] M) (am_is (-nI 1) (am_set M 16 1 (M 16 1 + nI 1))) := by
  obtain ⟨hF, hA, hHr, hHs, hLt, hK, hH⟩ := id hS
  obtain ⟨oA, oF, oHr, oLt, oK, oH⟩ := id hO
  refine am_goR 3 (s2 := (5, [.ref 0, .int (x)], [.int (x), .ref 1], M)) rfl ?_
  refine am_goX (v := am_b (am_in x a)) (M2 := M) (s2 := (8, [.ref 0, .int (x)], [], M)) rfl (s_hasArm_1 hS.2.1 hO.1) ?_
  refine am_bB1 (am_in x a) (s1 := (17, [.ref 0, .int (x)], [], M)) (s2 := (11, [.ref 0, .int (x)], [], M)) rfl (fun c1 => absurd c1 (by simp [*])) (fun c1 => ?_)
  refine am_goR 2 (s2 := (13, [.ref 0, .int (x)], [.int ((-nI 1)), .ref 0], M)) rfl ?_
  refine am_goX (v := (-nI 1)) (M2 := (am_set M 16 1 (M 16 1 + nI 1))) (s2 := (16, [.ref 0, .int (x)], [], M)) rfl (s_refuse_1) ?_
  exact am_ends (-nI 1) _ rfl rfl rfl

set_option maxHeartbeats 4000000 in
theorem r_by_0 {M : am_Mem} {a f hr hs lt : Nat} {k h : Nat → Nat} (hS : sp_M M a f hr hs lt k h) (hO : sp_ok a f hr lt k h) (oD : ∀ p q, p < 2 * a → q < 2 * a → h p = h q → p = q) {x : Int32} (hx : am_in x a = false) : am_go 132 (am_ent 132 [.ref 17, .int (x)] M) (am_is (-nI 1) (am_set M 18 1 (M 18 1 + nI 1))) := by
  obtain ⟨hF, hA, hHr, hHs, hLt, hK, hH⟩ := id hS
  obtain ⟨oA, oF, oHr, oLt, oK, oH⟩ := id hO
  refine am_goR 2 (s2 := (2, [.ref 17, .int (x)], [.int (x), .ref 17], M)) rfl ?_
  refine am_goX (v := am_b (am_in x a)) (M2 := M) (s2 := (5, [.ref 17, .int (x)], [], M)) rfl (t_isArm hS.2.1 hO.1) ?_
  refine am_bB1 (am_in x a) (s1 := (14, [.ref 17, .int (x)], [], M)) (s2 := (8, [.ref 17, .int (x)], [], M)) rfl (fun c1 => absurd c1 (by simp [*])) (fun c1 => ?_)
  refine am_goR 2 (s2 := (10, [.ref 17, .int (x)], [.int ((-nI 1)), .ref 17], M)) rfl ?_
  refine am_goX (v := (-nI 1)) (M2 := (am_set M 18 1 (M 18 1 + nI 1))) (s2 := (13, [.ref 17, .int (x)], [], M)) rfl (t_no_1) ?_
  exact am_ends (-nI 1) _ rfl rfl rfl

set_option maxHeartbeats 4000000 in
theorem c_by_1 {M : am_Mem} {a f hr hs lt : Nat} {k h : Nat → Nat} (hS : sp_S 1 M a f hr hs lt k h) (hO : sp_ok a f hr lt k h) {i : Nat} (hi : i < a) (hb : (sp_wk lt (k i) hr && !sp_st a f k h i 9) = false) : am_go 65 (am_ent 65 [.ref 0, .int (nI i)] M) (am_is (-nI 3) (am_set M 16 3 (M 16 3 + nI 1))) := by
  obtain ⟨hF, hA, hHr, hHs, hLt, hK, hH⟩ := id hS
  obtain ⟨oA, oF, oHr, oLt, oK, oH⟩ := id hO
  refine am_goR 3 (s2 := (5, [.ref 0, .int (nI i)], [.int (nI i), .ref 1], M)) rfl ?_
  refine am_goX (v := nI 1) (M2 := M) (s2 := (8, [.ref 0, .int (nI i)], [], M)) rfl (s_hasArm1_1 hS.2.1 hO.1 (i := i) (by omega)) ?_
  refine am_goR 4 (s2 := (22, [.ref 0, .int (nI i)], [.int (nI i), .ref 1], M)) rfl ?_
  refine am_goX (v := am_b (sp_wk lt (k i) hr && !sp_st a f k h i 9)) (M2 := M) (s2 := (25, [.ref 0, .int (nI i)], [], M)) rfl (s_isBlocked_1 hS hO (i := i) (by omega)) ?_
  refine am_bB1 (sp_wk lt (k i) hr && !sp_st a f k h i 9) (s1 := (35, [.ref 0, .int (nI i)], [], M)) (s2 := (28, [.ref 0, .int (nI i)], [], M)) rfl (fun c1 => absurd c1 (by simp [*])) (fun c1 => ?_)
  refine am_goR 2 (s2 := (31, [.ref 0, .int (nI i)], [.int ((-nI 3)), .ref 0], M)) rfl ?_
  refine am_goX (v := (-nI 3)) (M2 := (am_set M 16 3 (M 16 3 + nI 1))) (s2 := (34, [.ref 0, .int (nI i)], [], M)) rfl (s_refuse_3) ?_
  exact am_ends (-nI 3) _ rfl rfl rfl

set_option maxHeartbeats 4000000 in
theorem r_by_1 {M : am_Mem} {a f hr hs lt : Nat} {k h : Nat → Nat} (hS : sp_M M a f hr hs lt k h) (hO : sp_ok a f hr lt k h) (oD : ∀ p q, p < 2 * a → q < 2 * a → h p = h q → p = q) {i : Nat} (hi : i < a) (hb : (sp_wk lt (k i) hr && !sp_st a f k h i 9) = false) : am_go 132 (am_ent 132 [.ref 17, .int (nI i)] M) (am_is (-nI 3) (am_set M 18 3 (M 18 3 + nI 1))) := by
  obtain ⟨hF, hA, hHr, hHs, hLt, hK, hH⟩ := id hS
  obtain ⟨oA, oF, oHr, oLt, oK, oH⟩ := id hO
  refine am_goR 2 (s2 := (2, [.ref 17, .int (nI i)], [.int (nI i), .ref 17], M)) rfl ?_
  refine am_goX (v := nI 1) (M2 := M) (s2 := (5, [.ref 17, .int (nI i)], [], M)) rfl (t_isArm1 hS.2.1 hO.1 (i := i) (by omega)) ?_
  refine am_goR 3 (s2 := (16, [.ref 17, .int (nI i)], [.int (nI i), .ref 17], M)) rfl ?_
  refine am_goX (v := am_b (sp_wk lt (k i) hr && !sp_st a f k h i 9)) (M2 := M) (s2 := (19, [.ref 17, .int (nI i)], [], M)) rfl (t_isBlocked hS hO oD (i := i) (by omega)) ?_
  refine am_bB0 (sp_wk lt (k i) hr && !sp_st a f k h i 9) (s1 := (30, [.ref 17, .int (nI i)], [], M)) (s2 := (22, [.ref 17, .int (nI i)], [], M)) rfl (fun c1 => ?_) (fun c1 => absurd c1 (by simp [*]))
  refine am_goR 2 (s2 := (33, [.ref 17, .int (nI i)], [.int ((-nI 3)), .ref 17], M)) rfl ?_
  refine am_goX (v := (-nI 3)) (M2 := (am_set M 18 3 (M 18 3 + nI 1))) (s2 := (36, [.ref 17, .int (nI i)], [], M)) rfl (t_no_3) ?_
  exact am_ends (-nI 3) _ rfl rfl rfl

set_option maxHeartbeats 4000000 in
theorem c_by_v {M : am_Mem} {a f hr hs lt : Nat} {k h : Nat → Nat} (hS : sp_S 1 M a f hr hs lt k h) (hO : sp_ok a f hr lt k h) {i : Nat} (hi : i < a) (hb : (sp_wk lt (k i) hr && !sp_st a f k h i 9) = true) : am_go 65 (am_ent 65 [.ref 0, .int (nI i)] M) (am_is (nI (sp_bs (fun q => !decide (q = i) && sp_st a f k h i q) a)) M) := by
  obtain ⟨hF, hA, hHr, hHs, hLt, hK, hH⟩ := id hS
  obtain ⟨oA, oF, oHr, oLt, oK, oH⟩ := id hO
  refine am_goR 3 (s2 := (5, [.ref 0, .int (nI i)], [.int (nI i), .ref 1], M)) rfl ?_
  refine am_goX (v := nI 1) (M2 := M) (s2 := (8, [.ref 0, .int (nI i)], [], M)) rfl (s_hasArm1_1 hS.2.1 hO.1 (i := i) (by omega)) ?_
  refine am_goR 4 (s2 := (22, [.ref 0, .int (nI i)], [.int (nI i), .ref 1], M)) rfl ?_
  refine am_goX (v := am_b (sp_wk lt (k i) hr && !sp_st a f k h i 9)) (M2 := M) (s2 := (25, [.ref 0, .int (nI i)], [], M)) rfl (s_isBlocked_1 hS hO (i := i) (by omega)) ?_
  refine am_bB1 (sp_wk lt (k i) hr && !sp_st a f k h i 9) (s1 := (35, [.ref 0, .int (nI i)], [], M)) (s2 := (28, [.ref 0, .int (nI i)], [], M)) rfl (fun c1 => ?_) (fun c1 => absurd c1 (by simp [*]))
  refine am_goR 3 (s2 := (40, [.ref 0, .int (nI i)], [.int (nI i), .ref 1], M)) rfl ?_
  refine am_goX (v := nI (sp_bs (fun q => !decide (q = i) && sp_st a f k h i q) a)) (M2 := M) (s2 := (43, [.ref 0, .int (nI i)], [], M)) rfl (s_blockers_1 hS hO (i := i) (by omega)) ?_
  exact am_ends (nI (sp_bs (fun q => !decide (q = i) && sp_st a f k h i q) a)) _ rfl (by rfl) (rfl)

set_option maxHeartbeats 4000000 in
theorem r_by_v {M : am_Mem} {a f hr hs lt : Nat} {k h : Nat → Nat} (hS : sp_M M a f hr hs lt k h) (hO : sp_ok a f hr lt k h) (oD : ∀ p q, p < 2 * a → q < 2 * a → h p = h q → p = q) {i : Nat} (hi : i < a) (hb : (sp_wk lt (k i) hr && !sp_st a f k h i 9) = true) : am_go 132 (am_ent 132 [.ref 17, .int (nI i)] M) (am_is (nI (sp_bs (fun q => !decide (q = i) && sp_st a f k h i q) a)) M) := by
  obtain ⟨hF, hA, hHr, hHs, hLt, hK, hH⟩ := id hS
  obtain ⟨oA, oF, oHr, oLt, oK, oH⟩ := id hO
  refine am_goR 2 (s2 := (2, [.ref 17, .int (nI i)], [.int (nI i), .ref 17], M)) rfl ?_
  refine am_goX (v := nI 1) (M2 := M) (s2 := (5, [.ref 17, .int (nI i)], [], M)) rfl (t_isArm1 hS.2.1 hO.1 (i := i) (by omega)) ?_
  refine am_goR 3 (s2 := (16, [.ref 17, .int (nI i)], [.int (nI i), .ref 17], M)) rfl ?_
  refine am_goX (v := am_b (sp_wk lt (k i) hr && !sp_st a f k h i 9)) (M2 := M) (s2 := (19, [.ref 17, .int (nI i)], [], M)) rfl (t_isBlocked hS hO oD (i := i) (by omega)) ?_
  refine am_bB0 (sp_wk lt (k i) hr && !sp_st a f k h i 9) (s1 := (30, [.ref 17, .int (nI i)], [], M)) (s2 := (22, [.ref 17, .int (nI i)], [], M)) rfl (fun c1 => absurd c1 (by simp [*])) (fun c1 => ?_)
  refine am_goR 2 (s2 := (24, [.ref 17, .int (nI i)], [.int (nI i), .ref 17], M)) rfl ?_
  refine am_goX (v := nI (sp_bs (fun q => !decide (q = i) && sp_st a f k h i q) a)) (M2 := M) (s2 := (27, [.ref 17, .int (nI i)], [], M)) rfl (t_byBits hS hO oD (i := i) (by omega)) ?_
  have b16b2 := sp_bs4 (p := (fun q => !decide (q = i) && sp_st a f k h i q)) oA
  refine am_goR 1 (s2 := (36, [.ref 17, .int (nI i)], [.int (nI (sp_bs (fun q => !decide (q = i) && sp_st a f k h i q) a))], M)) rfl ?_
  exact am_ends (nI (sp_bs (fun q => !decide (q = i) && sp_st a f k h i q) a)) _ rfl (by rfl) (rfl)

theorem pp_by {M : am_Mem} (hI : sp_Inv M) (x : Int32) : sp_PP 65 132 [.int x] M := by
  obtain ⟨⟨⟨a, f, hr, hs, lt, k, h⟩, t, w2, n, tx, rn, ro, rf⟩, hC, hR, hG⟩ := hI
  have hO := hG.1.1
  have oD := hG.1.2.2.1
  have oFx := hG.1.2.2.2
  have oA := hO.1
  have oHs := hG.1.2.1
  dsimp only at oD oFx oA oHs
  have hO : sp_ok a f hr lt k h := hO
  rcases am_in_cs x (n := a) (by omega) with hx | ⟨i, hi, rfl⟩
  · exact sp_PPr 1 (by decide) hC hR hG (c_by_0 hC.1 hO hx) (fun N hN => r_by_0 hN.1 hO oD hx)
  · cases hb : (sp_wk lt (k i) hr && !sp_st a f k h i 9) with
    | false => exact sp_PPr 3 (by decide) hC hR hG (c_by_1 hC.1 hO hi hb) (fun N hN => r_by_1 hN.1 hO oD hi hb)
    | true => exact sp_PP0 hC hR hG (c_by_v hC.1 hO hi hb) (fun N hN => r_by_v hN.1 hO oD hi hb)

