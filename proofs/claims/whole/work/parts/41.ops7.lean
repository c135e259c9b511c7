/-! calls: last, way, come -/
theorem sp_combV {j1 j2 : Nat} {as : List Value} {M : am_Mem} {z : sp_Z} {V : Int32 → Prop} (hU : ∀ x y, V x → V y → x = y) (hC : sp_IC M z) (hR : sp_IR M z) (hG : sp_IG z) (hc : am_go j1 (am_ent j1 (.ref 0 :: as) M) (am_ri (fun x N => V x ∧ sp_fB 11 12 10 2 M N))) (hr : ∀ N, sp_IR N z → am_go j2 (am_ent j2 (.ref 17 :: as) N) (am_ri (fun x O => V x ∧ sp_fB 26 27 17 21 N O))) : sp_PP j1 j2 as M := by
  refine am_goW hc (fun r N hN => ?_)
  obtain ⟨x, rfl, hv, hL⟩ := hN
  have hR2 : sp_IR N z := hR.fr (fun a b c => by unfold sp_sR at c; exact hL a b (by omega) (by omega) (by omega))
  refine ⟨_, rfl, am_goW (hr N hR2) (fun r O hO => ?_)⟩
  obtain ⟨y, rfl, hw, hH⟩ := hO
  have hC2 : sp_IC N z := hC.fr (fun a b c => by unfold sp_sC at c; exact hL a b (by omega) (by omega) (by omega))
  exact ⟨_, rfl, hU _ _ hv hw, z, hC2.fr (fun a b c => by unfold sp_sC at c; exact hH a b (by omega) (by omega) (by omega)), hR2.fr (fun a b c => by unfold sp_sR at c; exact hH a b (by omega) (by omega) (by omega)), hG⟩
theorem sp_VU {E : Nat → Nat → Prop} {p0 : Nat} {g : (Nat → Option Nat) → Int32} (x y : Int32) (h1 : ∃ s, sp_DI E p0 s ∧ x = g s) (h2 : ∃ s, sp_DI E p0 s ∧ y = g s) : x = y := by
  obtain ⟨s, a1, rfl⟩ := h1
  obtain ⟨s2, b1, rfl⟩ := h2
  rw [a1.same b1]
/-- the least of some -/
theorem sp_le_n {x y : Option Nat} : sp_le x y = none ↔ x = none ∧ y = none := by
  cases x <;> cases y <;> simp [sp_le]
theorem sp_le_s {x y : Option Nat} {d : Nat} (h : sp_le x y = some d) : (x = some d ∨ y = some d) ∧ (∀ e, x = some e → d ≤ e) ∧ ∀ e, y = some e → d ≤ e := by
  cases x with
  | none => exact ⟨Or.inr h, fun e z => (by cases z), fun e z => by rw [show sp_le none y = y from rfl, z] at h; cases h; exact Nat.le_refl _⟩
  | some b =>
    cases y with
    | none => cases h; exact ⟨Or.inl rfl, fun e z => by cases z; exact Nat.le_refl _, fun e z => by cases z⟩
    | some c =>
      simp only [sp_le, Option.some.injEq] at h
      split at h
      · subst h; exact ⟨Or.inr rfl, fun e z => by cases z; omega, fun e z => by cases z; omega⟩
      · subst h; exact ⟨Or.inl rfl, fun e z => by cases z; omega, fun e z => by cases z; omega⟩
theorem sp_fw_n {s : Nat → Option Nat} {j : Nat} : ∀ n, sp_fw s j n = none ↔ ∀ p, p < n → s (12 * j + p) = none ∧ s (12 * p + j) = none := by
  intro n
  induction n with
  | zero => exact ⟨fun _ p hp => absurd hp (Nat.not_lt_zero p), fun _ => rfl⟩
  | succ n ih =>
    rw [sp_fw, sp_le_n, sp_le_n, ih]
    constructor
    · rintro ⟨⟨h1, h2⟩, h3⟩ p hp
      by_cases e : p = n
      · subst e; exact ⟨h2, h3⟩
      · exact h1 p (by omega)
    · intro h
      exact ⟨⟨fun p hp => h p (by omega), (h n (by omega)).1⟩, (h n (by omega)).2⟩
theorem sp_fw_s {s : Nat → Option Nat} {j d : Nat} : ∀ n, sp_fw s j n = some d → (∃ p, p < n ∧ (s (12 * j + p) = some d ∨ s (12 * p + j) = some d)) ∧ ∀ p, p < n → (∀ e, s (12 * j + p) = some e → d ≤ e) ∧ ∀ e, s (12 * p + j) = some e → d ≤ e := by
  intro n
  induction n generalizing d with
  | zero => intro h; cases h
  | succ n ih =>
    intro h
    rw [sp_fw] at h
    obtain ⟨a1, a2, a3⟩ := sp_le_s h
    -- the least of what is ahead
    have key : ∀ x, sp_le (sp_fw s j n) (s (12 * j + n)) = some x → (∃ p, p < n + 1 ∧ (s (12 * j + p) = some x ∨ s (12 * p + j) = some x)) ∧ (∀ p, p < n → (∀ e, s (12 * j + p) = some e → x ≤ e) ∧ ∀ e, s (12 * p + j) = some e → x ≤ e) ∧ ∀ e, s (12 * j + n) = some e → x ≤ e := by
      intro x hx
      obtain ⟨b1, b2, b3⟩ := sp_le_s hx
      refine ⟨?_, ?_, b3⟩
      · rcases b1 with b1 | b1
        · obtain ⟨⟨p, p1, p2⟩, -⟩ := ih b1
          exact ⟨p, by omega, p2⟩
        · exact ⟨n, by omega, Or.inl b1⟩
      · intro p hp
        cases hw : sp_fw s j n with
        | none =>
          have := (sp_fw_n n).mp hw p hp
          exact ⟨fun e z => by rw [this.1] at z; (cases z), fun e z => by rw [this.2] at z; cases z⟩
        | some y =>
          have h1 := (ih hw).2 p hp
          have h2 := b2 y hw
          exact ⟨fun e z => Nat.le_trans h2 (h1.1 e z), fun e z => Nat.le_trans h2 (h1.2 e z)⟩
    refine ⟨?_, fun p hp => ?_⟩
    · rcases a1 with a1 | a1
      · exact (key d a1).1
      · exact ⟨n, by omega, Or.inr a1⟩
    · cases hw : sp_le (sp_fw s j n) (s (12 * j + n)) with
      | none =>
        obtain ⟨c1, c2⟩ := sp_le_n.mp hw
        by_cases e : p = n
        · subst e; exact ⟨fun e z => by rw [c2] at z; (cases z), a3⟩
        · have := (sp_fw_n n).mp c1 p (by omega)
          exact ⟨fun e z => by rw [this.1] at z; (cases z), fun e z => by rw [this.2] at z; cases z⟩
      | some y =>
        have h1 := key y hw
        have h2 := a2 y hw
        by_cases e : p = n
        · subst e; exact ⟨fun e z => Nat.le_trans h2 (h1.2.2 e z), a3⟩
        · exact ⟨fun e z => Nat.le_trans h2 ((h1.2.1 p (by omega)).1 e z), fun e z => Nat.le_trans h2 ((h1.2.1 p (by omega)).2 e z)⟩
/-- the first of the queue that has a hand there is the least -/
theorem sp_fw_q {E : Nat → Nat → Prop} {p0 : Nat} {s : Nat → Option Nat} {u : Nat → Nat} {n j b : Nat} (hB : sp_BI E p0 s u n) (hj : j < 12) (hb : b < n) (hm : u b / 12 = j ∨ u b % 12 = j) (hf : ∀ c, c < b → ¬ (u c / 12 = j ∨ u c % 12 = j)) : sp_fw s j 12 = s (u b) := by
  obtain ⟨u1, d, u2, u3⟩ := hB.2.1 b hb
  cases hw : sp_fw s j 12 with
  | none =>
    have z := (sp_fw_n 12).mp hw
    rcases hm with hm | hm
    · have := (z (u b % 12) (by omega)).1
      rw [show 12 * j + u b % 12 = u b by omega] at this
      exact this.symm
    · have := (z (u b / 12) (by omega)).2
      rw [show 12 * (u b / 12) + j = u b by omega] at this
      exact this.symm
  | some e =>
    rw [u2]
    obtain ⟨⟨p, p1, p2⟩, q⟩ := sp_fw_s 12 hw
    have le1 : e ≤ d := by
      rcases hm with hm | hm
      · exact (q (u b % 12) (by omega)).1 d (by rw [show 12 * j + u b % 12 = u b by omega]; exact u2)
      · exact (q (u b / 12) (by omega)).2 d (by rw [show 12 * (u b / 12) + j = u b by omega]; exact u2)
    have le2 : d ≤ e := by
      have : ∃ x, x < 144 ∧ (x / 12 = j ∨ x % 12 = j) ∧ s x = some e := by
        rcases p2 with p2 | p2
        · exact ⟨12 * j + p, by omega, Or.inl (by omega), p2⟩
        · exact ⟨12 * p + j, by omega, Or.inr (by omega), p2⟩
      obtain ⟨x, x1, x2, x3⟩ := this
      obtain ⟨c, c1, c2⟩ := hB.2.2.1 x x1 e x3
      have hbc : b ≤ c := Nat.not_lt.mp (fun z => hf c z (by rw [c2]; exact x2))
      exact hB.2.2.2.1 b c d e hbc c1 u2 (by rw [c2]; exact x3)
    rw [show d = e by omega]
theorem sp_fw_e {E : Nat → Nat → Prop} {p0 : Nat} {s : Nat → Option Nat} {u : Nat → Nat} {n j : Nat} (hB : sp_BI E p0 s u n) (hj : j < 12) (hf : ∀ c, c < n → ¬ (u c / 12 = j ∨ u c % 12 = j)) : sp_fw s j 12 = none := by
  cases hw : sp_fw s j 12 with
  | none => rfl
  | some e =>
    obtain ⟨⟨p, p1, p2⟩, -⟩ := sp_fw_s 12 hw
    have : ∃ x, x < 144 ∧ (x / 12 = j ∨ x % 12 = j) ∧ s x = some e := by
      rcases p2 with p2 | p2
      · exact ⟨12 * j + p, by omega, Or.inl (by omega), p2⟩
      · exact ⟨12 * p + j, by omega, Or.inr (by omega), p2⟩
    obtain ⟨x, x1, x2, x3⟩ := this
    obtain ⟨c, c1, c2⟩ := hB.2.2.1 x x1 e x3
    exact absurd (by rw [c2]; exact x2) (hf c c1)

set_option maxHeartbeats 4000000 in
theorem c_last_0 {M : am_Mem} {a f hr hs lt : Nat} {k h : Nat → Nat} (hS : sp_S 1 M a f hr hs lt k h) (hO : sp_ok a f hr lt k h) {x : Int32} (hx : am_in x a = false) {y z : Int32} : am_go 69 (am_ent 69 [.ref 0, .int (x), .int (y), .int (z)] M) (am_is (-nI 1) (am_set M 16 1 (M 16 1 + nI 1))) := by
  obtain ⟨hF, hA, hHr, hHs, hLt, hK, hH⟩ := id hS
  obtain ⟨oA, oF, oHr, oLt, oK, oH⟩ := id hO
  refine am_goR 3 (s2 := (5, [.ref 0, .int (x), .int (y), .int (z)], [.int (x), .ref 1], M)) rfl ?_
  refine am_goX (v := am_b (am_in x a)) (M2 := M) (s2 := (8, [.ref 0, .int (x), .int (y), .int (z)], [], M)) rfl (s_hasArm_1 hS.2.1 hO.1) ?_
  refine am_bB0 (am_in x a) (s1 := (25, [.ref 0, .int (x), .int (y), .int (z)], [], M)) (s2 := (11, [.ref 0, .int (x), .int (y), .int (z)], [], M)) rfl (fun c1 => ?_) (fun c1 => absurd c1 (by simp [*]))
  refine am_goR 2 (s2 := (27, [.ref 0, .int (x), .int (y), .int (z)], [.int ((-nI 1)), .ref 0], M)) rfl ?_
  refine am_goX (v := (-nI 1)) (M2 := (am_set M 16 1 (M 16 1 + nI 1))) (s2 := (30, [.ref 0, .int (x), .int (y), .int (z)], [], M)) rfl (s_refuse_1) ?_
  exact am_ends (-nI 1) _ rfl rfl rfl

set_option maxHeartbeats 4000000 in
theorem r_last_0 {M : am_Mem} {a f hr hs lt : Nat} {k h : Nat → Nat} (hS : sp_M M a f hr hs lt k h) (hO : sp_ok a f hr lt k h) (oD : ∀ p q, p < 2 * a → q < 2 * a → h p = h q → p = q) {x : Int32} (hx : am_in x a = false) {y z : Int32} : am_go 139 (am_ent 139 [.ref 17, .int (x), .int (y), .int (z)] M) (am_is (-nI 1) (am_set M 18 1 (M 18 1 + nI 1))) := by
  obtain ⟨hF, hA, hHr, hHs, hLt, hK, hH⟩ := id hS
  obtain ⟨oA, oF, oHr, oLt, oK, oH⟩ := id hO
  refine am_goR 2 (s2 := (2, [.ref 17, .int (x), .int (y), .int (z)], [.int (x), .ref 17], M)) rfl ?_
  refine am_goX (v := am_b (am_in x a)) (M2 := M) (s2 := (5, [.ref 17, .int (x), .int (y), .int (z)], [], M)) rfl (t_isArm hS.2.1 hO.1) ?_
  refine am_bB0 (am_in x a) (s1 := (22, [.ref 17, .int (x), .int (y), .int (z)], [], M)) (s2 := (8, [.ref 17, .int (x), .int (y), .int (z)], [], M)) rfl (fun c1 => ?_) (fun c1 => absurd c1 (by simp [*]))
  refine am_goR 2 (s2 := (24, [.ref 17, .int (x), .int (y), .int (z)], [.int ((-nI 1)), .ref 17], M)) rfl ?_
  refine am_goX (v := (-nI 1)) (M2 := (am_set M 18 1 (M 18 1 + nI 1))) (s2 := (27, [.ref 17, .int (x), .int (y), .int (z)], [], M)) rfl (t_no_1) ?_
  exact am_ends (-nI 1) _ rfl rfl rfl

set_option maxHeartbeats 4000000 in
theorem c_last_1 {M : am_Mem} {a f hr hs lt : Nat} {k h : Nat → Nat} (hS : sp_S 1 M a f hr hs lt k h) (hO : sp_ok a f hr lt k h) {i : Nat} (hi : i < a) {y z : Int32} (hy : am_in y 12 = false) : am_go 69 (am_ent 69 [.ref 0, .int (nI i), .int (y), .int (z)] M) (am_is (-nI 1) (am_set M 16 1 (M 16 1 + nI 1))) := by
  obtain ⟨hF, hA, hHr, hHs, hLt, hK, hH⟩ := id hS
  obtain ⟨oA, oF, oHr, oLt, oK, oH⟩ := id hO
  refine am_goR 3 (s2 := (5, [.ref 0, .int (nI i), .int (y), .int (z)], [.int (nI i), .ref 1], M)) rfl ?_
  refine am_goX (v := nI 1) (M2 := M) (s2 := (8, [.ref 0, .int (nI i), .int (y), .int (z)], [], M)) rfl (s_hasArm1_1 hS.2.1 hO.1 (i := i) (by omega)) ?_
  refine am_goR 2 (s2 := (12, [.ref 0, .int (nI i), .int (y), .int (z)], [.int (y)], M)) rfl ?_
  refine am_goX (v := am_b (am_in y 12)) (M2 := M) (s2 := (15, [.ref 0, .int (nI i), .int (y), .int (z)], [], M)) rfl (s_isJoint) ?_
  refine am_bB0 (am_in y 12) (s1 := (25, [.ref 0, .int (nI i), .int (y), .int (z)], [], M)) (s2 := (18, [.ref 0, .int (nI i), .int (y), .int (z)], [], M)) rfl (fun c1 => ?_) (fun c1 => absurd c1 (by simp [*]))
  refine am_goR 2 (s2 := (27, [.ref 0, .int (nI i), .int (y), .int (z)], [.int ((-nI 1)), .ref 0], M)) rfl ?_
  refine am_goX (v := (-nI 1)) (M2 := (am_set M 16 1 (M 16 1 + nI 1))) (s2 := (30, [.ref 0, .int (nI i), .int (y), .int (z)], [], M)) rfl (s_refuse_1) ?_
  exact am_ends (-nI 1) _ rfl rfl rfl

set_option maxHeartbeats 4000000 in
theorem r_last_1 {M : am_Mem} {a f hr hs lt : Nat} {k h : Nat → Nat} (hS : sp_M M a f hr hs lt k h) (hO : sp_ok a f hr lt k h) (oD : ∀ p q, p < 2 * a → q < 2 * a → h p = h q → p = q) {i : Nat} (hi : i < a) {y z : Int32} (hy : am_in y 12 = false) : am_go 139 (am_ent 139 [.ref 17, .int (nI i), .int (y), .int (z)] M) (am_is (-nI 1) (am_set M 18 1 (M 18 1 + nI 1))) := by
  obtain ⟨hF, hA, hHr, hHs, hLt, hK, hH⟩ := id hS
  obtain ⟨oA, oF, oHr, oLt, oK, oH⟩ := id hO
  refine am_goR 2 (s2 := (2, [.ref 17, .int (nI i), .int (y), .int (z)], [.int (nI i), .ref 17], M)) rfl ?_
  refine am_goX (v := nI 1) (M2 := M) (s2 := (5, [.ref 17, .int (nI i), .int (y), .int (z)], [], M)) rfl (t_isArm1 hS.2.1 hO.1 (i := i) (by omega)) ?_
  refine am_goR 2 (s2 := (9, [.ref 17, .int (nI i), .int (y), .int (z)], [.int (y)], M)) rfl ?_
  refine am_goX (v := am_b (am_in y 12)) (M2 := M) (s2 := (12, [.ref 17, .int (nI i), .int (y), .int (z)], [], M)) rfl (t_isJoint) ?_
  refine am_bB0 (am_in y 12) (s1 := (22, [.ref 17, .int (nI i), .int (y), .int (z)], [], M)) (s2 := (15, [.ref 17, .int (nI i), .int (y), .int (z)], [], M)) rfl (fun c1 => ?_) (fun c1 => absurd c1 (by simp [*]))
  refine am_goR 2 (s2 := (24, [.ref 17, .int (nI i), .int (y), .int (z)], [.int ((-nI 1)), .ref 17], M)) rfl ?_
  refine am_goX (v := (-nI 1)) (M2 := (am_set M 18 1 (M 18 1 + nI 1))) (s2 := (27, [.ref 17, .int (nI i), .int (y), .int (z)], [], M)) rfl (t_no_1) ?_
  exact am_ends (-nI 1) _ rfl rfl rfl

set_option maxHeartbeats 4000000 in
theorem c_last_2 {M : am_Mem} {a f hr hs lt : Nat} {k h : Nat → Nat} (hS : sp_S 1 M a f hr hs lt k h) (hO : sp_ok a f hr lt k h) {i : Nat} (hi : i < a) {j : Nat} (hj : j < 12) {z : Int32} (hz : am_in z 12 = false) : am_go 69 (am_ent 69 [.ref 0, .int (nI i), .int (nI j), .int (z)] M) (am_is (-nI 1) (am_set M 16 1 (M 16 1 + nI 1))) := by
  obtain ⟨hF, hA, hHr, hHs, hLt, hK, hH⟩ := id hS
  obtain ⟨oA, oF, oHr, oLt, oK, oH⟩ := id hO
  refine am_goR 3 (s2 := (5, [.ref 0, .int (nI i), .int (nI j), .int (z)], [.int (nI i), .ref 1], M)) rfl ?_
  refine am_goX (v := nI 1) (M2 := M) (s2 := (8, [.ref 0, .int (nI i), .int (nI j), .int (z)], [], M)) rfl (s_hasArm1_1 hS.2.1 hO.1 (i := i) (by omega)) ?_
  refine am_goR 2 (s2 := (12, [.ref 0, .int (nI i), .int (nI j), .int (z)], [.int (nI j)], M)) rfl ?_
  refine am_goX (v := nI 1) (M2 := M) (s2 := (15, [.ref 0, .int (nI i), .int (nI j), .int (z)], [], M)) rfl (s_isJoint1 (j := j) (by omega)) ?_
  refine am_goR 2 (s2 := (19, [.ref 0, .int (nI i), .int (nI j), .int (z)], [.int (z)], M)) rfl ?_
  refine am_goX (v := am_b (am_in z 12)) (M2 := M) (s2 := (22, [.ref 0, .int (nI i), .int (nI j), .int (z)], [], M)) rfl (s_isJoint) ?_
  refine am_bB1 (am_in z 12) (s1 := (31, [.ref 0, .int (nI i), .int (nI j), .int (z)], [], M)) (s2 := (25, [.ref 0, .int (nI i), .int (nI j), .int (z)], [], M)) rfl (fun c1 => absurd c1 (by simp [*])) (fun c1 => ?_)
  refine am_goR 2 (s2 := (27, [.ref 0, .int (nI i), .int (nI j), .int (z)], [.int ((-nI 1)), .ref 0], M)) rfl ?_
  refine am_goX (v := (-nI 1)) (M2 := (am_set M 16 1 (M 16 1 + nI 1))) (s2 := (30, [.ref 0, .int (nI i), .int (nI j), .int (z)], [], M)) rfl (s_refuse_1) ?_
  exact am_ends (-nI 1) _ rfl rfl rfl

set_option maxHeartbeats 4000000 in
theorem r_last_2 {M : am_Mem} {a f hr hs lt : Nat} {k h : Nat → Nat} (hS : sp_M M a f hr hs lt k h) (hO : sp_ok a f hr lt k h) (oD : ∀ p q, p < 2 * a → q < 2 * a → h p = h q → p = q) {i : Nat} (hi : i < a) {j : Nat} (hj : j < 12) {z : Int32} (hz : am_in z 12 = false) : am_go 139 (am_ent 139 [.ref 17, .int (nI i), .int (nI j), .int (z)] M) (am_is (-nI 1) (am_set M 18 1 (M 18 1 + nI 1))) := by
  obtain ⟨hF, hA, hHr, hHs, hLt, hK, hH⟩ := id hS
  obtain ⟨oA, oF, oHr, oLt, oK, oH⟩ := id hO
  refine am_goR 2 (s2 := (2, [.ref 17, .int (nI i), .int (nI j), .int (z)], [.int (nI i), .ref 17], M)) rfl ?_
  refine am_goX (v := nI 1) (M2 := M) (s2 := (5, [.ref 17, .int (nI i), .int (nI j), .int (z)], [], M)) rfl (t_isArm1 hS.2.1 hO.1 (i := i) (by omega)) ?_
  refine am_goR 2 (s2 := (9, [.ref 17, .int (nI i), .int (nI j), .int (z)], [.int (nI j)], M)) rfl ?_
  refine am_goX (v := nI 1) (M2 := M) (s2 := (12, [.ref 17, .int (nI i), .int (nI j), .int (z)], [], M)) rfl (t_isJoint1 (j := j) (by omega)) ?_
  refine am_goR 2 (s2 := (16, [.ref 17, .int (nI i), .int (nI j), .int (z)], [.int (z)], M)) rfl ?_
  refine am_goX (v := am_b (am_in z 12)) (M2 := M) (s2 := (19, [.ref 17, .int (nI i), .int (nI j), .int (z)], [], M)) rfl (t_isJoint) ?_
  refine am_bB1 (am_in z 12) (s1 := (28, [.ref 17, .int (nI i), .int (nI j), .int (z)], [], M)) (s2 := (22, [.ref 17, .int (nI i), .int (nI j), .int (z)], [], M)) rfl (fun c1 => absurd c1 (by simp [*])) (fun c1 => ?_)
  refine am_goR 2 (s2 := (24, [.ref 17, .int (nI i), .int (nI j), .int (z)], [.int ((-nI 1)), .ref 17], M)) rfl ?_
  refine am_goX (v := (-nI 1)) (M2 := (am_set M 18 1 (M 18 1 + nI 1))) (s2 := (27, [.ref 17, .int (nI i), .int (nI j), .int (z)], [], M)) rfl (t_no_1) ?_
  exact am_ends (-nI 1) _ rfl rfl rfl

set_option maxHeartbeats 4000000 in
theorem c_last_v {M : am_Mem} {a f hr hs lt : Nat} {k h : Nat → Nat} (hS : sp_S 1 M a f hr hs lt k h) (hO : sp_ok a f hr lt k h) {i : Nat} (hi : i < a) {j : Nat} (hj : j < 12) {j2 : Nat} (hj2 : j2 < 12) : am_go 69 (am_ent 69 [.ref 0, .int (nI i), .int (nI j), .int (nI j2)] M) (am_ri (fun x N => (∃ s, sp_DI (sp_ed (sp_ft f h i a) (sp_rc (k i)) (decide (k i = 4))) (12 * h (2 * i) + h (2 * i + 1)) s ∧ x = sp_oi (s (12 * j + j2))) ∧ sp_fB 11 12 10 2 M N)) := by
  obtain ⟨hF, hA, hHr, hHs, hLt, hK, hH⟩ := id hS
  obtain ⟨oA, oF, oHr, oLt, oK, oH⟩ := id hO
  refine am_goR 3 (s2 := (5, [.ref 0, .int (nI i), .int (nI j), .int (nI j2)], [.int (nI i), .ref 1], M)) rfl ?_
  refine am_goX (v := nI 1) (M2 := M) (s2 := (8, [.ref 0, .int (nI i), .int (nI j), .int (nI j2)], [], M)) rfl (s_hasArm1_1 hS.2.1 hO.1 (i := i) (by omega)) ?_
  refine am_goR 2 (s2 := (12, [.ref 0, .int (nI i), .int (nI j), .int (nI j2)], [.int (nI j)], M)) rfl ?_
  refine am_goX (v := nI 1) (M2 := M) (s2 := (15, [.ref 0, .int (nI i), .int (nI j), .int (nI j2)], [], M)) rfl (s_isJoint1 (j := j) (by omega)) ?_
  refine am_goR 2 (s2 := (19, [.ref 0, .int (nI i), .int (nI j), .int (nI j2)], [.int (nI j2)], M)) rfl ?_
  refine am_goX (v := nI 1) (M2 := M) (s2 := (22, [.ref 0, .int (nI i), .int (nI j), .int (nI j2)], [], M)) rfl (s_isJoint1 (j := j2) (by omega)) ?_
  refine am_goR 6 (s2 := (40, [.ref 0, .int (nI i), .int (nI j), .int (nI j2)], [.int (nI i), .ref 1, .ref 10], M)) rfl ?_
  refine am_goV (s2 := (43, [.ref 0, .int (nI i), .int (nI j), .int (nI j2)], [], M)) rfl (s_walk hS hO hi) (fun K hK9 => ?_)
  obtain ⟨hF9, s, u, n, hR9, hB9, hD9⟩ := hK9
  have hsm : ∀ p e, s p = some e → e < 2147483648 := fun p e z => Nat.lt_trans (hB9.small z) (by decide)
  refine am_goR 4 (s2 := (49, [.ref 0, .int (nI i), .int (nI j), .int (nI j2)], [.int (nI j2), .int (nI j), .ref 10], K)) rfl ?_
  refine am_goX (v := (sp_oi (s (12 * j + j2)))) (M2 := K) (s2 := (52, [.ref 0, .int (nI i), .int (nI j), .int (nI j2)], [], K)) rfl (s_stepsTo hR9.1 (x := j) (y := j2) (by omega) (by omega)) ?_
  exact am_goE _ _ rfl ⟨_, rfl, ⟨s, hD9, rfl⟩, hF9⟩

set_option maxHeartbeats 4000000 in
theorem r_last_v {M : am_Mem} {a f hr hs lt : Nat} {k h : Nat → Nat} (hS : sp_M M a f hr hs lt k h) (hO : sp_ok a f hr lt k h) (oD : ∀ p q, p < 2 * a → q < 2 * a → h p = h q → p = q) {i : Nat} (hi : i < a) {j : Nat} (hj : j < 12) {j2 : Nat} (hj2 : j2 < 12) : am_go 139 (am_ent 139 [.ref 17, .int (nI i), .int (nI j), .int (nI j2)] M) (am_ri (fun x N => (∃ s, sp_DI (sp_ed (sp_ft f h i a) (sp_rc (k i)) (decide (k i = 4))) (12 * h (2 * i) + h (2 * i + 1)) s ∧ x = sp_oi (s (12 * j + j2))) ∧ sp_fB 26 27 17 21 M N)) := by
  obtain ⟨hF, hA, hHr, hHs, hLt, hK, hH⟩ := id hS
  obtain ⟨oA, oF, oHr, oLt, oK, oH⟩ := id hO
  refine am_goR 2 (s2 := (2, [.ref 17, .int (nI i), .int (nI j), .int (nI j2)], [.int (nI i), .ref 17], M)) rfl ?_
  refine am_goX (v := nI 1) (M2 := M) (s2 := (5, [.ref 17, .int (nI i), .int (nI j), .int (nI j2)], [], M)) rfl (t_isArm1 hS.2.1 hO.1 (i := i) (by omega)) ?_
  refine am_goR 2 (s2 := (9, [.ref 17, .int (nI i), .int (nI j), .int (nI j2)], [.int (nI j)], M)) rfl ?_
  refine am_goX (v := nI 1) (M2 := M) (s2 := (12, [.ref 17, .int (nI i), .int (nI j), .int (nI j2)], [], M)) rfl (t_isJoint1 (j := j) (by omega)) ?_
  refine am_goR 2 (s2 := (16, [.ref 17, .int (nI i), .int (nI j), .int (nI j2)], [.int (nI j2)], M)) rfl ?_
  refine am_goX (v := nI 1) (M2 := M) (s2 := (19, [.ref 17, .int (nI i), .int (nI j), .int (nI j2)], [], M)) rfl (t_isJoint1 (j := j2) (by omega)) ?_
  refine am_goR 3 (s2 := (30, [.ref 17, .int (nI i), .int (nI j), .int (nI j2)], [.int (nI i), .ref 17], M)) rfl ?_
  refine am_goV (s2 := (33, [.ref 17, .int (nI i), .int (nI j), .int (nI j2)], [], M)) rfl (t_ways hS hO oD hi) (fun K hK9 => ?_)
  obtain ⟨hF9, s, u, n, hR9, hB9, hD9⟩ := hK9
  have hn9 := hB9.le
  refine am_goQ 7 (s1 := (43, [.ref 17, .int (nI i), .int (nI j), .int (nI j2)], [.int (((nI 12 * nI j) + nI j2)), .ref 26], K)) (s2 := (43, [.ref 17, .int (nI i), .int (nI j), .int (nI j2)], [.int (nI ((12 * j) + j2)), .ref 26], K)) rfl (by simp only [pk_mul, nI_add]) ?_
  refine am_goL2 (pc := 44) (ls := [.ref 17, .int (nI i), .int (nI j), .int (nI j2)]) (r := []) (M := K) (a := 26) (n := 144) (((12 * j) + j2)) ((sp_oi (s ((12 * j) + j2)))) rfl rfl (by omega) (by decide) (hR9.1 _ (by omega)) ?_
  exact am_goE _ _ rfl ⟨_, rfl, ⟨s, hD9, rfl⟩, hF9⟩

theorem pp_last {M : am_Mem} (hI : sp_Inv M) (x y z : Int32) : sp_PP 69 139 [.int x, .int y, .int z] M := by
  obtain ⟨⟨⟨a, f, hr, hs, lt, k, h⟩, t, w2, n, tx, rn, ro, rf⟩, hC, hR, hG⟩ := hI
  have hO := hG.1.1
  have oD := hG.1.2.2.1
  have oFx := hG.1.2.2.2
  have oA := hO.1
  have oHs := hG.1.2.1
  dsimp only at oD oFx oA oHs
  have hO : sp_ok a f hr lt k h := hO
  have hS1 : sp_S 1 M a f hr hs lt k h := hC.1
  have hM1 : ∀ N, sp_IR N ((a, f, hr, hs, lt, k, h), t, w2, n, tx, rn, ro, rf) → sp_M N a f hr hs lt k h := fun N hN => hN.1
  have hLc : M 13 1 = nI n := hC.2.2.2.1
  have hRc : M 0 7 = nI rn := hC.2.2.2.2.2.1
  have hLm : ∀ N, sp_IR N ((a, f, hr, hs, lt, k, h), t, w2, n, tx, rn, ro, rf) → N 17 12 = nI n := fun N hN => hN.2.2.2.1
  have hRm : ∀ N, sp_IR N ((a, f, hr, hs, lt, k, h), t, w2, n, tx, rn, ro, rf) → N 17 24 = nI rn := fun N hN => hN.2.2.2.2.2.1
  rcases am_in_cs x (n := a) (by omega) with hx | ⟨i, hi, rfl⟩
  · exact sp_PPr 1 (by decide) hC hR hG (c_last_0 hS1 hO hx) (fun N hN => r_last_0 (hM1 N hN) hO oD hx)
  · rcases am_in_cs y (n := 12) (by omega) with hy | ⟨j, hj, rfl⟩
    · exact sp_PPr 1 (by decide) hC hR hG (c_last_1 hS1 hO hi hy) (fun N hN => r_last_1 (hM1 N hN) hO oD hi hy)
    · rcases am_in_cs z (n := 12) (by omega) with hz | ⟨j2, hj2, rfl⟩
      · exact sp_PPr 1 (by decide) hC hR hG (c_last_2 hS1 hO hi hj hz) (fun N hN => r_last_2 (hM1 N hN) hO oD hi hj hz)
      · exact sp_combV (sp_VU (g := fun s => sp_oi (s (12 * j + j2)))) hC hR hG (c_last_v hS1 hO hi hj hj2) (fun N hN => r_last_v (hM1 N hN) hO oD hi hj hj2)

set_option maxHeartbeats 4000000 in
theorem c_way_0 {M : am_Mem} {a f hr hs lt : Nat} {k h : Nat → Nat} (hS : sp_S 1 M a f hr hs lt k h) (hO : sp_ok a f hr lt k h) {x : Int32} (hx : am_in x a = false) {y : Int32} : am_go 67 (am_ent 67 [.ref 0, .int (x), .int (y)] M) (am_is (-nI 1) (am_set M 16 1 (M 16 1 + nI 1))) := by
  obtain ⟨hF, hA, hHr, hHs, hLt, hK, hH⟩ := id hS
  obtain ⟨oA, oF, oHr, oLt, oK, oH⟩ := id hO
  refine am_goR 3 (s2 := (5, [.ref 0, .int (x), .int (y)], [.int (x), .ref 1], M)) rfl ?_
  refine am_goX (v := am_b (am_in x a)) (M2 := M) (s2 := (8, [.ref 0, .int (x), .int (y)], [], M)) rfl (s_hasArm_1 hS.2.1 hO.1) ?_
  refine am_bB0 (am_in x a) (s1 := (18, [.ref 0, .int (x), .int (y)], [], M)) (s2 := (11, [.ref 0, .int (x), .int (y)], [], M)) rfl (fun c1 => ?_) (fun c1 => absurd c1 (by simp [*]))
  refine am_goR 2 (s2 := (20, [.ref 0, .int (x), .int (y)], [.int ((-nI 1)), .ref 0], M)) rfl ?_
  refine am_goX (v := (-nI 1)) (M2 := (am_set M 16 1 (M 16 1 + nI 1))) (s2 := (23, [.ref 0, .int (x), .int (y)], [], M)) rfl (s_refuse_1) ?_
  exact am_ends (-nI 1) _ rfl rfl rfl

set_option maxHeartbeats 4000000 in
theorem r_way_0 {M : am_Mem} {a f hr hs lt : Nat} {k h : Nat → Nat} (hS : sp_M M a f hr hs lt k h) (hO : sp_ok a f hr lt k h) (oD : ∀ p q, p < 2 * a → q < 2 * a → h p = h q → p = q) {x : Int32} (hx : am_in x a = false) {y : Int32} : am_go 137 (am_ent 137 [.ref 17, .int (x), .int (y)] M) (am_is (-nI 1) (am_set M 18 1 (M 18 1 + nI 1))) := by
  obtain ⟨hF, hA, hHr, hHs, hLt, hK, hH⟩ := id hS
  obtain ⟨oA, oF, oHr, oLt, oK, oH⟩ := id hO
  refine am_goR 2 (s2 := (2, [.ref 17, .int (x), .int (y), .null], [.int (x), .ref 17], M)) rfl ?_
  refine am_goX (v := am_b (am_in x a)) (M2 := M) (s2 := (5, [.ref 17, .int (x), .int (y), .null], [], M)) rfl (t_isArm hS.2.1 hO.1) ?_
  refine am_bB0 (am_in x a) (s1 := (15, [.ref 17, .int (x), .int (y), .null], [], M)) (s2 := (8, [.ref 17, .int (x), .int (y), .null], [], M)) rfl (fun c1 => ?_) (fun c1 => absurd c1 (by simp [*]))
  refine am_goR 2 (s2 := (17, [.ref 17, .int (x), .int (y), .null], [.int ((-nI 1)), .ref 17], M)) rfl ?_
  refine am_goX (v := (-nI 1)) (M2 := (am_set M 18 1 (M 18 1 + nI 1))) (s2 := (20, [.ref 17, .int (x), .int (y), .null], [], M)) rfl (t_no_1) ?_
  exact am_ends (-nI 1) _ rfl rfl rfl

set_option maxHeartbeats 4000000 in
theorem c_way_1 {M : am_Mem} {a f hr hs lt : Nat} {k h : Nat → Nat} (hS : sp_S 1 M a f hr hs lt k h) (hO : sp_ok a f hr lt k h) {i : Nat} (hi : i < a) {y : Int32} (hy : am_in y 12 = false) : am_go 67 (am_ent 67 [.ref 0, .int (nI i), .int (y)] M) (am_is (-nI 1) (am_set M 16 1 (M 16 1 + nI 1))) := by
  obtain ⟨hF, hA, hHr, hHs, hLt, hK, hH⟩ := id hS
  obtain ⟨oA, oF, oHr, oLt, oK, oH⟩ := id hO
  refine am_goR 3 (s2 := (5, [.ref 0, .int (nI i), .int (y)], [.int (nI i), .ref 1], M)) rfl ?_
  refine am_goX (v := nI 1) (M2 := M) (s2 := (8, [.ref 0, .int (nI i), .int (y)], [], M)) rfl (s_hasArm1_1 hS.2.1 hO.1 (i := i) (by omega)) ?_
  refine am_goR 2 (s2 := (12, [.ref 0, .int (nI i), .int (y)], [.int (y)], M)) rfl ?_
  refine am_goX (v := am_b (am_in y 12)) (M2 := M) (s2 := (15, [.ref 0, .int (nI i), .int (y)], [], M)) rfl (s_isJoint) ?_
  refine am_bB1 (am_in y 12) (s1 := (24, [.ref 0, .int (nI i), .int (y)], [], M)) (s2 := (18, [.ref 0, .int (nI i), .int (y)], [], M)) rfl (fun c1 => absurd c1 (by simp [*])) (fun c1 => ?_)
  refine am_goR 2 (s2 := (20, [.ref 0, .int (nI i), .int (y)], [.int ((-nI 1)), .ref 0], M)) rfl ?_
  refine am_goX (v := (-nI 1)) (M2 := (am_set M 16 1 (M 16 1 + nI 1))) (s2 := (23, [.ref 0, .int (nI i), .int (y)], [], M)) rfl (s_refuse_1) ?_
  exact am_ends (-nI 1) _ rfl rfl rfl

set_option maxHeartbeats 4000000 in
theorem r_way_1 {M : am_Mem} {a f hr hs lt : Nat} {k h : Nat → Nat} (hS : sp_M M a f hr hs lt k h) (hO : sp_ok a f hr lt k h) (oD : ∀ p q, p < 2 * a → q < 2 * a → h p = h q → p = q) {i : Nat} (hi : i < a) {y : Int32} (hy : am_in y 12 = false) : am_go 137 (am_ent 137 [.ref 17, .int (nI i), .int (y)] M) (am_is (-nI 1) (am_set M 18 1 (M 18 1 + nI 1))) := by
  obtain ⟨hF, hA, hHr, hHs, hLt, hK, hH⟩ := id hS
  obtain ⟨oA, oF, oHr, oLt, oK, oH⟩ := id hO
  refine am_goR 2 (s2 := (2, [.ref 17, .int (nI i), .int (y), .null], [.int (nI i), .ref 17], M)) rfl ?_
  refine am_goX (v := nI 1) (M2 := M) (s2 := (5, [.ref 17, .int (nI i), .int (y), .null], [], M)) rfl (t_isArm1 hS.2.1 hO.1 (i := i) (by omega)) ?_
  refine am_goR 2 (s2 := (9, [.ref 17, .int (nI i), .int (y), .null], [.int (y)], M)) rfl ?_
  refine am_goX (v := am_b (am_in y 12)) (M2 := M) (s2 := (12, [.ref 17, .int (nI i), .int (y), .null], [], M)) rfl (t_isJoint) ?_
  refine am_bB1 (am_in y 12) (s1 := (21, [.ref 17, .int (nI i), .int (y), .null], [], M)) (s2 := (15, [.ref 17, .int (nI i), .int (y), .null], [], M)) rfl (fun c1 => absurd c1 (by simp [*])) (fun c1 => ?_)
  refine am_goR 2 (s2 := (17, [.ref 17, .int (nI i), .int (y), .null], [.int ((-nI 1)), .ref 17], M)) rfl ?_
  refine am_goX (v := (-nI 1)) (M2 := (am_set M 18 1 (M 18 1 + nI 1))) (s2 := (20, [.ref 17, .int (nI i), .int (y), .null], [], M)) rfl (t_no_1) ?_
  exact am_ends (-nI 1) _ rfl rfl rfl

set_option maxHeartbeats 4000000 in
theorem c_way_v {M : am_Mem} {a f hr hs lt : Nat} {k h : Nat → Nat} (hS : sp_S 1 M a f hr hs lt k h) (hO : sp_ok a f hr lt k h) {i : Nat} (hi : i < a) {j : Nat} (hj : j < 12) : am_go 67 (am_ent 67 [.ref 0, .int (nI i), .int (nI j)] M) (am_ri (fun x N => (∃ s, sp_DI (sp_ed (sp_ft f h i a) (sp_rc (k i)) (decide (k i = 4))) (12 * h (2 * i) + h (2 * i + 1)) s ∧ x = sp_oi (sp_fw s j 12)) ∧ sp_fB 11 12 10 2 M N)) := by
  obtain ⟨hF, hA, hHr, hHs, hLt, hK, hH⟩ := id hS
  obtain ⟨oA, oF, oHr, oLt, oK, oH⟩ := id hO
  refine am_goR 3 (s2 := (5, [.ref 0, .int (nI i), .int (nI j)], [.int (nI i), .ref 1], M)) rfl ?_
  refine am_goX (v := nI 1) (M2 := M) (s2 := (8, [.ref 0, .int (nI i), .int (nI j)], [], M)) rfl (s_hasArm1_1 hS.2.1 hO.1 (i := i) (by omega)) ?_
  refine am_goR 2 (s2 := (12, [.ref 0, .int (nI i), .int (nI j)], [.int (nI j)], M)) rfl ?_
  refine am_goX (v := nI 1) (M2 := M) (s2 := (15, [.ref 0, .int (nI i), .int (nI j)], [], M)) rfl (s_isJoint1 (j := j) (by omega)) ?_
  refine am_goR 6 (s2 := (33, [.ref 0, .int (nI i), .int (nI j)], [.int (nI i), .ref 1, .ref 10], M)) rfl ?_
  refine am_goV (s2 := (36, [.ref 0, .int (nI i), .int (nI j)], [], M)) rfl (s_walk hS hO hi) (fun K hK9 => ?_)
  obtain ⟨hF9, s, u, n, hR9, hB9, hD9⟩ := hK9
  have hsm : ∀ p e, s p = some e → e < 2147483648 := fun p e z => Nat.lt_trans (hB9.small z) (by decide)
  refine am_goR 3 (s2 := (41, [.ref 0, .int (nI i), .int (nI j)], [.int (nI j), .ref 10], K)) rfl ?_
  refine am_goX (v := (sp_oi (sp_fw s j 12))) (M2 := K) (s2 := (44, [.ref 0, .int (nI i), .int (nI j)], [], K)) rfl (s_fewestTo hR9.1 hsm (j := j) (by omega)) ?_
  exact am_goE _ _ rfl ⟨_, rfl, ⟨s, hD9, rfl⟩, hF9⟩

set_option maxHeartbeats 4000000 in
theorem r_way_l {K : am_Mem} {E : Nat → Nat → Prop} {p0 i j : Nat} (hj : j < 12) {s : Nat → Option Nat} {u : Nat → Nat} {n : Nat} (hR9 : sp_R 26 27 17 21 K s u n) (hB9 : sp_BI E p0 s u n) : ∀ m p : Nat, m + p = n + 1 → p ≤ n → (∀ c, c < p → ¬ (u c / 12 = j ∨ u c % 12 = j)) → am_go 137 (28, [.ref 17, .int (nI i), .int (nI j), .int (nI p)], [], K) (am_is (sp_oi (sp_fw s j 12)) K) := by
  have hn9 := hB9.le
  intro m
  induction m with
  | zero => intro p h1 h2; omega
  | succ m ih =>
    intro p h1 h2 hq
    have hu9 := fun z : p < n => (hB9.2.1 p z).1
    refine am_goQ 3 (s1 := (33, [.ref 17, .int (nI i), .int (nI j), .int (nI p)], [.int ((K 17 21)), .int (nI p)], K)) (s2 := (33, [.ref 17, .int (nI i), .int (nI j), .int (nI p)], [.int (nI n), .int (nI p)], K)) rfl (by simp only [hR9.2.2]) ?_
    refine am_bLE (n) (p) (s1 := (80, [.ref 17, .int (nI i), .int (nI j), .int (nI p)], [], K)) (s2 := (36, [.ref 17, .int (nI i), .int (nI j), .int (nI p)], [], K)) rfl (by omega) (by omega) (fun c1 => ?_) (fun c1 => ?_)
    · refine am_goR 1 (s2 := (82, [.ref 17, .int (nI i), .int (nI j), .int (nI p)], [.int ((-nI 9))], K)) rfl ?_
      have ep : p = n := by omega
      subst ep
      exact am_ends _ _ rfl (by rw [sp_fw_e hB9 hj hq]; rfl) rfl
    · refine am_goR 3 (s2 := (41, [.ref 17, .int (nI i), .int (nI j), .int (nI p)], [.int (nI p), .ref 27], K)) rfl ?_
      refine am_goL2 (pc := 42) (ls := [.ref 17, .int (nI i), .int (nI j), .int (nI p)]) (r := []) (M := K) (a := 27) (n := 144) (p) (nI (u p)) rfl rfl (by omega) (by decide) (hR9.2.1 _ (by omega)) ?_
      refine am_goQ 3 (s1 := (46, [.ref 17, .int (nI i), .int (nI j), .int (nI p)], [.int (nI j), .int ((nI (u p) / nI 12))], K)) (s2 := (46, [.ref 17, .int (nI i), .int (nI j), .int (nI p)], [.int (nI j), .int (nI ((u p) / 12))], K)) rfl (by simp only [pk_div (a := (u p)) (d := 12) (by omega) (by omega) (by omega)]) ?_
      refine am_bEQ (((u p) / 12)) (j) (s1 := (62, [.ref 17, .int (nI i), .int (nI j), .int (nI p)], [], K)) (s2 := (49, [.ref 17, .int (nI i), .int (nI j), .int (nI p)], [], K)) rfl (by omega) (by omega) (fun c2 => ?_) (fun c2 => ?_)
      · refine am_goR 5 (s2 := (71, [.ref 17, .int (nI i), .int (nI j), .int (nI p)], [.int (nI p), .ref 27, .ref 26], K)) rfl ?_
        refine am_goL2 (pc := 72) (ls := [.ref 17, .int (nI i), .int (nI j), .int (nI p)]) (r := [.ref 26]) (M := K) (a := 27) (n := 144) (p) (nI (u p)) rfl rfl (by omega) (by decide) (hR9.2.1 _ (by omega)) ?_
        refine am_goL2 (pc := 73) (ls := [.ref 17, .int (nI i), .int (nI j), .int (nI p)]) (r := []) (M := K) (a := 26) (n := 144) ((u p)) ((sp_oi (s (u p)))) rfl rfl (by omega) (by decide) (hR9.1 _ (by omega)) ?_
        exact am_ends _ _ rfl (by rw [sp_fw_q hB9 hj (b := p) (by omega) (by omega) hq]) rfl
      · refine am_goR 3 (s2 := (54, [.ref 17, .int (nI i), .int (nI j), .int (nI p)], [.int (nI p), .ref 27], K)) rfl ?_
        refine am_goL2 (pc := 55) (ls := [.ref 17, .int (nI i), .int (nI j), .int (nI p)]) (r := []) (M := K) (a := 27) (n := 144) (p) (nI (u p)) rfl rfl (by omega) (by decide) (hR9.2.1 _ (by omega)) ?_
        refine am_goQ 3 (s1 := (59, [.ref 17, .int (nI i), .int (nI j), .int (nI p)], [.int (nI j), .int ((nI (u p) - nI (u p) / nI 12 * nI 12))], K)) (s2 := (59, [.ref 17, .int (nI i), .int (nI j), .int (nI p)], [.int (nI j), .int (nI ((u p) % 12))], K)) rfl (by rw [pk_rem (a := (u p)) (d := 12) (by omega) (by omega) (by omega)]) ?_
        refine am_bNE (((u p) % 12)) (j) (s1 := (74, [.ref 17, .int (nI i), .int (nI j), .int (nI p)], [], K)) (s2 := (62, [.ref 17, .int (nI i), .int (nI j), .int (nI p)], [], K)) rfl (by omega) (by omega) (fun c3 => ?_) (fun c3 => ?_)
        · refine am_goQ 2 (s1 := (28, [.ref 17, .int (nI i), .int (nI j), .int ((nI p + nI 1))], [], K)) (s2 := (28, [.ref 17, .int (nI i), .int (nI j), .int (nI (p + 1))], [], K)) rfl (by simp only [nI_add]) ?_
          exact ih (p + 1) (by omega) (by omega) (fun c hc => by
            by_cases e : c = p
            · subst e; omega
            · exact hq c (by omega))
        · refine am_goR 5 (s2 := (71, [.ref 17, .int (nI i), .int (nI j), .int (nI p)], [.int (nI p), .ref 27, .ref 26], K)) rfl ?_
          refine am_goL2 (pc := 72) (ls := [.ref 17, .int (nI i), .int (nI j), .int (nI p)]) (r := [.ref 26]) (M := K) (a := 27) (n := 144) (p) (nI (u p)) rfl rfl (by omega) (by decide) (hR9.2.1 _ (by omega)) ?_
          refine am_goL2 (pc := 73) (ls := [.ref 17, .int (nI i), .int (nI j), .int (nI p)]) (r := []) (M := K) (a := 26) (n := 144) ((u p)) ((sp_oi (s (u p)))) rfl rfl (by omega) (by decide) (hR9.1 _ (by omega)) ?_
          exact am_ends _ _ rfl (by rw [sp_fw_q hB9 hj (b := p) (by omega) (by omega) hq]) rfl
set_option maxHeartbeats 4000000 in
theorem r_way_v {M : am_Mem} {a f hr hs lt : Nat} {k h : Nat → Nat} (hS : sp_M M a f hr hs lt k h) (hO : sp_ok a f hr lt k h) (oD : ∀ p q, p < 2 * a → q < 2 * a → h p = h q → p = q) {i : Nat} (hi : i < a) {j : Nat} (hj : j < 12) : am_go 137 (am_ent 137 [.ref 17, .int (nI i), .int (nI j)] M) (am_ri (fun x N => (∃ s, sp_DI (sp_ed (sp_ft f h i a) (sp_rc (k i)) (decide (k i = 4))) (12 * h (2 * i) + h (2 * i + 1)) s ∧ x = sp_oi (sp_fw s j 12)) ∧ sp_fB 26 27 17 21 M N)) := by
  obtain ⟨hF, hA, hHr, hHs, hLt, hK, hH⟩ := id hS
  obtain ⟨oA, oF, oHr, oLt, oK, oH⟩ := id hO
  refine am_goR 2 (s2 := (2, [.ref 17, .int (nI i), .int (nI j), .null], [.int (nI i), .ref 17], M)) rfl ?_
  refine am_goX (v := nI 1) (M2 := M) (s2 := (5, [.ref 17, .int (nI i), .int (nI j), .null], [], M)) rfl (t_isArm1 hS.2.1 hO.1 (i := i) (by omega)) ?_
  refine am_goR 2 (s2 := (9, [.ref 17, .int (nI i), .int (nI j), .null], [.int (nI j)], M)) rfl ?_
  refine am_goX (v := nI 1) (M2 := M) (s2 := (12, [.ref 17, .int (nI i), .int (nI j), .null], [], M)) rfl (t_isJoint1 (j := j) (by omega)) ?_
  refine am_goR 3 (s2 := (23, [.ref 17, .int (nI i), .int (nI j), .null], [.int (nI i), .ref 17], M)) rfl ?_
  refine am_goV (s2 := (26, [.ref 17, .int (nI i), .int (nI j), .null], [], M)) rfl (t_ways hS hO oD hi) (fun K hK9 => ?_)
  obtain ⟨hF9, s, u, n, hR9, hB9, hD9⟩ := hK9
  have hn9 := hB9.le
  refine am_goR 2 (s2 := (28, [.ref 17, .int (nI i), .int (nI j), .int (nI 0)], [], K)) rfl ?_
  refine am_goW (r_way_l hj hR9 hB9 (n + 1) 0 (by omega) (by omega) (fun c hc => absurd hc (Nat.not_lt_zero c))) (fun r O hr9 => ?_)
  obtain ⟨x, rfl, rfl, rfl⟩ := hr9
  exact ⟨_, rfl, ⟨s, hD9, rfl⟩, hF9⟩

theorem pp_way {M : am_Mem} (hI : sp_Inv M) (x y : Int32) : sp_PP 67 137 [.int x, .int y] M := by
  obtain ⟨⟨⟨a, f, hr, hs, lt, k, h⟩, t, w2, n, tx, rn, ro, rf⟩, hC, hR, hG⟩ := hI
  have hO := hG.1.1
  have oD := hG.1.2.2.1
  have oFx := hG.1.2.2.2
  have oA := hO.1
  have oHs := hG.1.2.1
  dsimp only at oD oFx oA oHs
  have hO : sp_ok a f hr lt k h := hO
  have hS1 : sp_S 1 M a f hr hs lt k h := hC.1
  have hM1 : ∀ N, sp_IR N ((a, f, hr, hs, lt, k, h), t, w2, n, tx, rn, ro, rf) → sp_M N a f hr hs lt k h := fun N hN => hN.1
  have hLc : M 13 1 = nI n := hC.2.2.2.1
  have hRc : M 0 7 = nI rn := hC.2.2.2.2.2.1
  have hLm : ∀ N, sp_IR N ((a, f, hr, hs, lt, k, h), t, w2, n, tx, rn, ro, rf) → N 17 12 = nI n := fun N hN => hN.2.2.2.1
  have hRm : ∀ N, sp_IR N ((a, f, hr, hs, lt, k, h), t, w2, n, tx, rn, ro, rf) → N 17 24 = nI rn := fun N hN => hN.2.2.2.2.2.1
  rcases am_in_cs x (n := a) (by omega) with hx | ⟨i, hi, rfl⟩
  · exact sp_PPr 1 (by decide) hC hR hG (c_way_0 hS1 hO hx) (fun N hN => r_way_0 (hM1 N hN) hO oD hx)
  · rcases am_in_cs y (n := 12) (by omega) with hy | ⟨j, hj, rfl⟩
    · exact sp_PPr 1 (by decide) hC hR hG (c_way_1 hS1 hO hi hy) (fun N hN => r_way_1 (hM1 N hN) hO oD hi hy)
    · exact sp_combV (sp_VU (g := fun s => sp_oi (sp_fw s j 12))) hC hR hG (c_way_v hS1 hO hi hj) (fun N hN => r_way_v (hM1 N hN) hO oD hi hj)

set_option maxHeartbeats 4000000 in
theorem c_come_0 {M : am_Mem} {a f hr hs lt : Nat} {k h : Nat → Nat} (hS : sp_S 1 M a f hr hs lt k h) (hO : sp_ok a f hr lt k h) {x : Int32} (hx : am_in x a = false) : am_go 68 (am_ent 68 [.ref 0, .int (x)] M) (am_is (-nI 1) (am_set M 16 1 (M 16 1 + nI 1))) := by
  obtain ⟨hF, hA, hHr, hHs, hLt, hK, hH⟩ := id hS
  obtain ⟨oA, oF, oHr, oLt, oK, oH⟩ := id hO
  refine am_goR 3 (s2 := (5, [.ref 0, .int (x), .null, .null], [.int (x), .ref 1], M)) rfl ?_
  refine am_goX (v := am_b (am_in x a)) (M2 := M) (s2 := (8, [.ref 0, .int (x), .null, .null], [], M)) rfl (s_hasArm_1 hS.2.1 hO.1) ?_
  refine am_bB1 (am_in x a) (s1 := (17, [.ref 0, .int (x), .null, .null], [], M)) (s2 := (11, [.ref 0, .int (x), .null, .null], [], M)) rfl (fun c1 => absurd c1 (by simp [*])) (fun c1 => ?_)
  refine am_goR 2 (s2 := (13, [.ref 0, .int (x), .null, .null], [.int ((-nI 1)), .ref 0], M)) rfl ?_
  refine am_goX (v := (-nI 1)) (M2 := (am_set M 16 1 (M 16 1 + nI 1))) (s2 := (16, [.ref 0, .int (x), .null, .null], [], M)) rfl (s_refuse_1) ?_
  exact am_ends (-nI 1) _ rfl rfl rfl

set_option maxHeartbeats 4000000 in
theorem r_come_0 {M : am_Mem} {a f hr hs lt : Nat} {k h : Nat → Nat} (hS : sp_M M a f hr hs lt k h) (hO : sp_ok a f hr lt k h) (oD : ∀ p q, p < 2 * a → q < 2 * a → h p = h q → p = q) {x : Int32} (hx : am_in x a = false) : am_go 138 (am_ent 138 [.ref 17, .int (x)] M) (am_is (-nI 1) (am_set M 18 1 (M 18 1 + nI 1))) := by
  obtain ⟨hF, hA, hHr, hHs, hLt, hK, hH⟩ := id hS
  obtain ⟨oA, oF, oHr, oLt, oK, oH⟩ := id hO
  refine am_goR 2 (s2 := (2, [.ref 17, .int (x), .null, .null], [.int (x), .ref 17], M)) rfl ?_
  refine am_goX (v := am_b (am_in x a)) (M2 := M) (s2 := (5, [.ref 17, .int (x), .null, .null], [], M)) rfl (t_isArm hS.2.1 hO.1) ?_
  refine am_bB1 (am_in x a) (s1 := (14, [.ref 17, .int (x), .null, .null], [], M)) (s2 := (8, [.ref 17, .int (x), .null, .null], [], M)) rfl (fun c1 => absurd c1 (by simp [*])) (fun c1 => ?_)
  refine am_goR 2 (s2 := (10, [.ref 17, .int (x), .null, .null], [.int ((-nI 1)), .ref 17], M)) rfl ?_
  refine am_goX (v := (-nI 1)) (M2 := (am_set M 18 1 (M 18 1 + nI 1))) (s2 := (13, [.ref 17, .int (x), .null, .null], [], M)) rfl (t_no_1) ?_
  exact am_ends (-nI 1) _ rfl rfl rfl

set_option maxHeartbeats 4000000 in
theorem c_come_l {K : am_Mem} {i n : Nat} {s : Nat → Option Nat} {u : Nat → Nat} (hR9 : sp_R 11 12 10 2 K s u n) (hsm : ∀ p e, s p = some e → e < 2147483648) : ∀ m p : Nat, m + p = 13 → p ≤ 12 → am_go 68 (33, [.ref 0, .int (nI i), .int (nI (sp_bs (fun q => (sp_fw s q 12).isSome) p)), .int (nI p)], [], K) (am_is (nI (sp_bs (fun q => (sp_fw s q 12).isSome) 12)) K) := by
  intro m
  induction m with
  | zero => intro p h1 h2; omega
  | succ m ih =>
    intro p h1 h2
    refine am_goR 2 (s2 := (36, [.ref 0, .int (nI i), .int (nI (sp_bs (fun q => (sp_fw s q 12).isSome) p)), .int (nI p)], [.int (nI 12), .int (nI p)], K)) rfl ?_
    refine am_bLE (12) (p) (s1 := (64, [.ref 0, .int (nI i), .int (nI (sp_bs (fun q => (sp_fw s q 12).isSome) p)), .int (nI p)], [], K)) (s2 := (39, [.ref 0, .int (nI i), .int (nI (sp_bs (fun q => (sp_fw s q 12).isSome) p)), .int (nI p)], [], K)) rfl (by omega) (by omega) (fun c1 => ?_) (fun c1 => ?_)
    · refine am_goR 1 (s2 := (65, [.ref 0, .int (nI i), .int (nI (sp_bs (fun q => (sp_fw s q 12).isSome) p)), .int (nI p)], [.int (nI (sp_bs (fun q => (sp_fw s q 12).isSome) p))], K)) rfl ?_
      exact am_ends (nI (sp_bs (fun q => (sp_fw s q 12).isSome) p)) _ rfl (by rw [show p = 12 by omega]) (rfl)
    · refine am_goR 3 (s2 := (44, [.ref 0, .int (nI i), .int (nI (sp_bs (fun q => (sp_fw s q 12).isSome) p)), .int (nI p)], [.int (nI p), .ref 10], K)) rfl ?_
      rcases e9 : sp_fw s p 12 with _ | m9
      · refine am_goX (v := (-nI 9)) (M2 := K) (s2 := (47, [.ref 0, .int (nI i), .int (nI (sp_bs (fun q => (sp_fw s q 12).isSome) p)), .int (nI p)], [], K)) rfl ((by have z := s_fewestTo (M := K) hR9.1 hsm (j := p) (by omega); rw [e9] at z; exact z)) ?_
        refine am_goQ 4 (s1 := (33, [.ref 0, .int (nI i), .int (nI (sp_bs (fun q => (sp_fw s q 12).isSome) p)), .int ((nI p + nI 1))], [], K)) (s2 := (33, [.ref 0, .int (nI i), .int (nI (sp_bs (fun q => (sp_fw s q 12).isSome) p)), .int (nI (p + 1))], [], K)) rfl (by simp only [nI_add]) ?_
        rw [show (sp_bs (fun q => (sp_fw s q 12).isSome) p) = sp_bs (fun q => (sp_fw s q 12).isSome) (p + 1) from sp_bsN (by simp [*])]
        exact ih (p + 1) (by omega) (by omega)
      · refine am_goX (v := nI m9) (M2 := K) (s2 := (47, [.ref 0, .int (nI i), .int (nI (sp_bs (fun q => (sp_fw s q 12).isSome) p)), .int (nI p)], [], K)) rfl ((by have z := s_fewestTo (M := K) hR9.1 hsm (j := p) (by omega); rw [e9] at z; exact z)) ?_
        have h9 := sp_fw_lt hsm p 12 m9 e9
        refine am_goR 1 (s2 := (49, [.ref 0, .int (nI i), .int (nI (sp_bs (fun q => (sp_fw s q 12).isSome) p)), .int (nI p)], [.int ((-nI 9)), .int (nI m9)], K)) rfl ?_
        refine am_bF (s1 := (58, [.ref 0, .int (nI i), .int (nI (sp_bs (fun q => (sp_fw s q 12).isSome) p)), .int (nI p)], [], K)) (s2 := (52, [.ref 0, .int (nI i), .int (nI (sp_bs (fun q => (sp_fw s q 12).isSome) p)), .int (nI p)], [], K)) rfl (am_nm_ne (x := m9) (m := 9) (by omega) (by decide) (by decide)) ?_
        refine am_goQ 8 (s1 := (33, [.ref 0, .int (nI i), .int ((nI (sp_bs (fun q => (sp_fw s q 12).isSome) p) ||| (nI 1 <<< (nI p &&& 31)))), .int ((nI p + nI 1))], [], K)) (s2 := (33, [.ref 0, .int (nI i), .int (nI ((sp_bs (fun q => (sp_fw s q 12).isSome) p) ||| (2 ^ p))), .int (nI (p + 1))], [], K)) rfl (by simp only [am_shl1 (j := p) (by omega), am_or, nI_add]) ?_
        rw [show ((sp_bs (fun q => (sp_fw s q 12).isSome) p) ||| (2 ^ p)) = sp_bs (fun q => (sp_fw s q 12).isSome) (p + 1) from sp_bsP (by simp [*])]
        exact ih (p + 1) (by omega) (by omega)
set_option maxHeartbeats 4000000 in
theorem c_come_v {M : am_Mem} {a f hr hs lt : Nat} {k h : Nat → Nat} (hS : sp_S 1 M a f hr hs lt k h) (hO : sp_ok a f hr lt k h) {i : Nat} (hi : i < a) : am_go 68 (am_ent 68 [.ref 0, .int (nI i)] M) (am_ri (fun x N => (∃ s, sp_DI (sp_ed (sp_ft f h i a) (sp_rc (k i)) (decide (k i = 4))) (12 * h (2 * i) + h (2 * i + 1)) s ∧ x = nI (sp_bs (fun q => (sp_fw s q 12).isSome) 12)) ∧ sp_fB 11 12 10 2 M N)) := by
  obtain ⟨hF, hA, hHr, hHs, hLt, hK, hH⟩ := id hS
  obtain ⟨oA, oF, oHr, oLt, oK, oH⟩ := id hO
  refine am_goR 3 (s2 := (5, [.ref 0, .int (nI i), .null, .null], [.int (nI i), .ref 1], M)) rfl ?_
  refine am_goX (v := nI 1) (M2 := M) (s2 := (8, [.ref 0, .int (nI i), .null, .null], [], M)) rfl (s_hasArm1_1 hS.2.1 hO.1 (i := i) (by omega)) ?_
  refine am_goR 6 (s2 := (26, [.ref 0, .int (nI i), .null, .null], [.int (nI i), .ref 1, .ref 10], M)) rfl ?_
  refine am_goV (s2 := (29, [.ref 0, .int (nI i), .null, .null], [], M)) rfl (s_walk hS hO hi) (fun K hK9 => ?_)
  obtain ⟨hF9, s, u, n, hR9, hB9, hD9⟩ := hK9
  have hsm : ∀ p e, s p = some e → e < 2147483648 := fun p e z => Nat.lt_trans (hB9.small z) (by decide)
  refine am_goR 4 (s2 := (33, [.ref 0, .int (nI i), .int (nI 0), .int (nI 0)], [], K)) rfl ?_
  refine am_goW (c_come_l hR9 hsm 13 0 (by omega) (by omega)) (fun r O hr9 => ?_)
  obtain ⟨x, rfl, rfl, rfl⟩ := hr9
  exact ⟨_, rfl, ⟨s, hD9, rfl⟩, hF9⟩

theorem sp_come_e {E : Nat → Nat → Prop} {p0 : Nat} {s : Nat → Option Nat} {u : Nat → Nat} {n b : Nat} (hB9 : sp_BI E p0 s u n) (hb4 : b < 4096) (hq : ∀ q, b.testBit q = true ↔ ∃ c, c < n ∧ (u c / 12 = q ∨ u c % 12 = q)) : b = sp_bs (fun q => (sp_fw s q 12).isSome) 12 := by
  apply sp_eq_bit
  intro q
  rw [sp_bs_bit]
  by_cases h12 : q < 12
  · rw [decide_eq_true h12, Bool.true_and]
    cases hb : b.testBit q with
    | true =>
      obtain ⟨c, c1, c2⟩ := (hq q).mp hb
      obtain ⟨u1, d, u2, -⟩ := hB9.2.1 c c1
      cases hw : sp_fw s q 12 with
      | some e => rfl
      | none =>
        have z := (sp_fw_n 12).mp hw
        exfalso
        rcases c2 with c2 | c2
        · have := (z (u c % 12) (by omega)).1
          rw [show 12 * q + u c % 12 = u c by omega, u2] at this
          cases this
        · have := (z (u c / 12) (by omega)).2
          rw [show 12 * (u c / 12) + q = u c by omega, u2] at this
          cases this
    | false =>
      have hn : sp_fw s q 12 = none := sp_fw_e hB9 h12 (fun c hc z => by
        have := (hq q).mpr ⟨c, hc, z⟩
        rw [hb] at this
        cases this)
      rw [hn]; rfl
  · rw [decide_eq_false h12, Bool.false_and]
    cases hb : b.testBit q with
    | false => rfl
    | true => exact absurd (sp_f_bit hb4 hb) h12
set_option maxHeartbeats 4000000 in
theorem r_come_l {K : am_Mem} {E : Nat → Nat → Prop} {p0 i : Nat} {s : Nat → Option Nat} {u : Nat → Nat} {n : Nat} (hR9 : sp_R 26 27 17 21 K s u n) (hB9 : sp_BI E p0 s u n) : ∀ m p sb : Nat, m + p = n + 1 → p ≤ n → sb < 4096 → (∀ q, sb.testBit q = true ↔ ∃ c, c < p ∧ (u c / 12 = q ∨ u c % 12 = q)) → am_go 138 (23, [.ref 17, .int (nI i), .int (nI sb), .int (nI p)], [], K) (am_is (nI (sp_bs (fun q => (sp_fw s q 12).isSome) 12)) K) := by
  have hn9 := hB9.le
  intro m
  induction m with
  | zero => intro p sb h1 h2; omega
  | succ m ih =>
    intro p sb h1 h2 hb4 hq
    have hu9 := fun z : p < n => (hB9.2.1 p z).1
    refine am_goQ 3 (s1 := (28, [.ref 17, .int (nI i), .int (nI sb), .int (nI p)], [.int ((K 17 21)), .int (nI p)], K)) (s2 := (28, [.ref 17, .int (nI i), .int (nI sb), .int (nI p)], [.int (nI n), .int (nI p)], K)) rfl (by simp only [hR9.2.2]) ?_
    refine am_bLE (n) (p) (s1 := (63, [.ref 17, .int (nI i), .int (nI sb), .int (nI p)], [], K)) (s2 := (31, [.ref 17, .int (nI i), .int (nI sb), .int (nI p)], [], K)) rfl (by omega) (by omega) (fun c1 => ?_) (fun c1 => ?_)
    · refine am_goR 1 (s2 := (64, [.ref 17, .int (nI i), .int (nI sb), .int (nI p)], [.int (nI sb)], K)) rfl ?_
      have ep : p = n := by omega
      rw [ep] at hq
      exact am_ends _ _ rfl (by rw [sp_come_e hB9 hb4 hq]) rfl
    · refine am_goR 5 (s2 := (38, [.ref 17, .int (nI i), .int (nI sb), .int (nI p)], [.int (nI p), .ref 27, .int (nI 1), .int (nI sb)], K)) rfl ?_
      refine am_goL2 (pc := 39) (ls := [.ref 17, .int (nI i), .int (nI sb), .int (nI p)]) (r := [.int (nI 1), .int (nI sb)]) (M := K) (a := 27) (n := 144) (p) (nI (u p)) rfl rfl (by omega) (by decide) (hR9.2.1 _ (by omega)) ?_
      refine am_goQ 7 (s1 := (49, [.ref 17, .int (nI i), .int (nI sb), .int (nI p)], [.int (nI p), .ref 27, .int (nI 1), .int ((nI 1 <<< ((nI (u p) / nI 12) &&& 31))), .int (nI sb)], K)) (s2 := (49, [.ref 17, .int (nI i), .int (nI sb), .int (nI p)], [.int (nI p), .ref 27, .int (nI 1), .int (nI (2 ^ ((u p) / 12))), .int (nI sb)], K)) rfl (by simp only [pk_div (a := (u p)) (d := 12) (by omega) (by omega) (by omega), am_shl1 (j := ((u p) / 12)) (by omega)]) ?_
      refine am_goL2 (pc := 50) (ls := [.ref 17, .int (nI i), .int (nI sb), .int (nI p)]) (r := [.int (nI 1), .int (nI (2 ^ ((u p) / 12))), .int (nI sb)]) (M := K) (a := 27) (n := 144) (p) (nI (u p)) rfl rfl (by omega) (by decide) (hR9.2.1 _ (by omega)) ?_
      refine am_goQ 8 (s1 := (23, [.ref 17, .int (nI i), .int ((nI sb ||| (nI (2 ^ ((u p) / 12)) ||| (nI 1 <<< ((nI (u p) - nI (u p) / nI 12 * nI 12) &&& 31))))), .int ((nI p + nI 1))], [], K)) (s2 := (23, [.ref 17, .int (nI i), .int (nI (sb ||| ((2 ^ ((u p) / 12)) ||| (2 ^ ((u p) % 12))))), .int (nI (p + 1))], [], K)) rfl (by rw [pk_rem (a := (u p)) (d := 12) (by omega) (by omega) (by omega)]; simp only [am_shl1 (j := ((u p) % 12)) (by omega), am_or, nI_add]) ?_
      have h12 : (sb ||| ((2 ^ ((u p) / 12)) ||| (2 ^ ((u p) % 12)))) < 4096 := sp_or12 hb4 (sp_or12 (Nat.pow_lt_pow_right (n := 12) (by decide) (by omega)) (Nat.pow_lt_pow_right (n := 12) (by decide) (by omega)))
      refine ih (p + 1) _ (by omega) (by omega) h12 (fun q => ?_)
      rw [Nat.testBit_or, Nat.testBit_or, Nat.testBit_two_pow, Nat.testBit_two_pow]
      constructor
      · intro z
        rw [Bool.or_eq_true, Bool.or_eq_true, decide_eq_true_eq, decide_eq_true_eq] at z
        rcases z with z | z
        · obtain ⟨c, c1, c2⟩ := (hq q).mp z; exact ⟨c, by omega, c2⟩
        · exact ⟨p, by omega, z⟩
      · rintro ⟨c, c1, c2⟩
        rw [Bool.or_eq_true, Bool.or_eq_true, decide_eq_true_eq, decide_eq_true_eq]
        by_cases e : c = p
        · subst e; exact Or.inr c2
        · exact Or.inl ((hq q).mpr ⟨c, by omega, c2⟩)
set_option maxHeartbeats 4000000 in
theorem r_come_v {M : am_Mem} {a f hr hs lt : Nat} {k h : Nat → Nat} (hS : sp_M M a f hr hs lt k h) (hO : sp_ok a f hr lt k h) (oD : ∀ p q, p < 2 * a → q < 2 * a → h p = h q → p = q) {i : Nat} (hi : i < a) : am_go 138 (am_ent 138 [.ref 17, .int (nI i)] M) (am_ri (fun x N => (∃ s, sp_DI (sp_ed (sp_ft f h i a) (sp_rc (k i)) (decide (k i = 4))) (12 * h (2 * i) + h (2 * i + 1)) s ∧ x = nI (sp_bs (fun q => (sp_fw s q 12).isSome) 12)) ∧ sp_fB 26 27 17 21 M N)) := by
  obtain ⟨hF, hA, hHr, hHs, hLt, hK, hH⟩ := id hS
  obtain ⟨oA, oF, oHr, oLt, oK, oH⟩ := id hO
  refine am_goR 2 (s2 := (2, [.ref 17, .int (nI i), .null, .null], [.int (nI i), .ref 17], M)) rfl ?_
  refine am_goX (v := nI 1) (M2 := M) (s2 := (5, [.ref 17, .int (nI i), .null, .null], [], M)) rfl (t_isArm1 hS.2.1 hO.1 (i := i) (by omega)) ?_
  refine am_goR 3 (s2 := (16, [.ref 17, .int (nI i), .null, .null], [.int (nI i), .ref 17], M)) rfl ?_
  refine am_goV (s2 := (19, [.ref 17, .int (nI i), .null, .null], [], M)) rfl (t_ways hS hO oD hi) (fun K hK9 => ?_)
  obtain ⟨hF9, s, u, n, hR9, hB9, hD9⟩ := hK9
  have hn9 := hB9.le
  refine am_goR 4 (s2 := (23, [.ref 17, .int (nI i), .int (nI 0), .int (nI 0)], [], K)) rfl ?_
  refine am_goW (r_come_l hR9 hB9 (n + 1) 0 0 (by omega) (by omega) (by omega) (fun q => ⟨fun z => by rw [Nat.zero_testBit] at z; (cases z), fun ⟨c, c1, _⟩ => absurd c1 (Nat.not_lt_zero c)⟩)) (fun r O hr9 => ?_)
  obtain ⟨x, rfl, rfl, rfl⟩ := hr9
  exact ⟨_, rfl, ⟨s, hD9, rfl⟩, hF9⟩

theorem pp_come {M : am_Mem} (hI : sp_Inv M) (x : Int32) : sp_PP 68 138 [.int x] M := by
  obtain ⟨⟨⟨a, f, hr, hs, lt, k, h⟩, t, w2, n, tx, rn, ro, rf⟩, hC, hR, hG⟩ := hI
  have hO := hG.1.1
  have oD := hG.1.2.2.1
  have oFx := hG.1.2.2.2
  have oA := hO.1
  have oHs := hG.1.2.1
  dsimp only at oD oFx oA oHs
  have hO : sp_ok a f hr lt k h := hO
  have hS1 : sp_S 1 M a f hr hs lt k h := hC.1
  have hM1 : ∀ N, sp_IR N ((a, f, hr, hs, lt, k, h), t, w2, n, tx, rn, ro, rf) → sp_M N a f hr hs lt k h := fun N hN => hN.1
  have hLc : M 13 1 = nI n := hC.2.2.2.1
  have hRc : M 0 7 = nI rn := hC.2.2.2.2.2.1
  have hLm : ∀ N, sp_IR N ((a, f, hr, hs, lt, k, h), t, w2, n, tx, rn, ro, rf) → N 17 12 = nI n := fun N hN => hN.2.2.2.1
  have hRm : ∀ N, sp_IR N ((a, f, hr, hs, lt, k, h), t, w2, n, tx, rn, ro, rf) → N 17 24 = nI rn := fun N hN => hN.2.2.2.2.2.1
  rcases am_in_cs x (n := a) (by omega) with hx | ⟨i, hi, rfl⟩
  · exact sp_PPr 1 (by decide) hC hR hG (c_come_0 hS1 hO hx) (fun N hN => r_come_0 (hM1 N hN) hO oD hx)
  · exact sp_combV (sp_VU (g := fun s => nI (sp_bs (fun q => (sp_fw s q 12).isSome) 12))) hC hR hG (c_come_v hS1 hO hi) (fun N hN => r_come_v (hM1 N hN) hO oD hi)

