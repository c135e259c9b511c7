/-! a told statement: what it does -/
abbrev sp_W : Type := Nat × Nat × Nat × Nat × Nat × (Nat → Nat) × (Nat → Nat)
def sp_SW (c : Nat) (M : am_Mem) (w : sp_W) : Prop := sp_S c M w.1 w.2.1 w.2.2.1 w.2.2.2.1 w.2.2.2.2.1 w.2.2.2.2.2.1 w.2.2.2.2.2.2
def sp_MW (M : am_Mem) (w : sp_W) : Prop := sp_M M w.1 w.2.1 w.2.2.1 w.2.2.2.1 w.2.2.2.2.1 w.2.2.2.2.2.1 w.2.2.2.2.2.2
def sp_KW (M : am_Mem) (z : Nat) (w : sp_W) : Prop := sp_K M z w.1 w.2.1 w.2.2.1 w.2.2.2.1 w.2.2.2.2.1 w.2.2.2.2.2.1 w.2.2.2.2.2.2
def sp_oW (w : sp_W) : Prop := sp_ok w.1 w.2.1 w.2.2.1 w.2.2.2.2.1 w.2.2.2.2.2.1 w.2.2.2.2.2.2
/-- a good stand: within bounds, hands apart, on what is fixed -/
def sp_go (w : sp_W) : Prop := sp_oW w ∧ w.2.2.2.1 ≤ 9999 ∧ (∀ p q, p < 2 * w.1 → q < 2 * w.1 → w.2.2.2.2.2.2 p = w.2.2.2.2.2.2 q → p = q) ∧ ∀ q, q < 2 * w.1 → w.2.1.testBit (w.2.2.2.2.2.2 q) = true
def sp_k1 (k : Nat → Nat) (a kd : Nat) : Nat → Nat := fun q => if q = a then kd else k q
def sp_h1 (h : Nat → Nat) (a x y : Nat) : Nat → Nat := fun q => if q = 2 * a then x else if q = 2 * a + 1 then y else h q
def sp_tl (w : sp_W) (b kd x y : Nat) : Option sp_W := match w with
  | (a, f, hr, hs, lt, k, h) =>
    if b = 106 then (bif decide (x < 12) && (sp_wo h x (2 * a)).isNone then some (a, f ^^^ 2 ^ x, hr, hs, lt, k, h) else none)
    else if b = 97 then (bif sp_tk2 a f k h kd x y then some (a + 1, f, hr, hs, lt, sp_k1 k a kd, sp_h1 h a x y) else none)
    else if b = 104 then (bif decide (x < 24) then some (a, f, x, hs, lt, k, h) else none)
    else (bif decide (x < 24) then some (a, f, hr, hs, lt ^^^ 2 ^ x, k, h) else none)
theorem sp_fe_of {a f x : Nat} {h : Nat → Nat} (e : sp_fe a f h x = true) : x < 12 ∧ f.testBit x = true ∧ ∀ q, q < 2 * a → h q ≠ x := by
  unfold sp_fe at e
  simp only [Bool.and_eq_true, decide_eq_true_eq, Option.isNone_iff_eq_none] at e
  exact ⟨e.1.1, e.1.2, sp_wo_none.mp e.2⟩
theorem sp_tk2_of {a f kd x y : Nat} {k h : Nat → Nat} (e : sp_tk2 a f k h kd x y = true) : a < 4 ∧ sp_fe a f h x = true ∧ sp_fe a f h y = true ∧ ¬ x = y := by
  unfold sp_tk2 at e
  simp only [Bool.and_eq_true, decide_eq_true_eq, Bool.not_eq_true', decide_eq_false_iff_not] at e
  exact ⟨e.1.1.1.1, e.1.1.1.2, e.1.1.2, e.1.2⟩
theorem sp_bifS {α : Type} {c : Bool} {x y : α} (h : (bif c then some x else none) = some y) : c = true ∧ x = y := by
  cases c with
  | true => exact ⟨rfl, by cases h; rfl⟩
  | false => cases h
theorem sp_go.tl {w w2 : sp_W} {b kd x y : Nat} (hg : sp_go w) (hk : b = 97 → kd < 6) (e : sp_tl w b kd x y = some w2) : sp_go w2 := by
  obtain ⟨a, f, hr, hs, lt, k, h⟩ := w
  obtain ⟨⟨oA, oF, oHr, oLt, oK, oH⟩, g1, g2, g3⟩ := hg
  dsimp only at oA oF oHr oLt oK oH g1 g2 g3
  unfold sp_tl at e
  dsimp only at e
  split at e
  · obtain ⟨e1, rfl⟩ := sp_bifS e
    simp only [Bool.and_eq_true, decide_eq_true_eq, Option.isNone_iff_eq_none] at e1
    have e2 := sp_wo_none.mp e1.2
    refine ⟨⟨oA, Nat.xor_lt_two_pow (n := 12) oF (Nat.lt_of_lt_of_le (Nat.pow_lt_pow_right (by decide) e1.1) (Nat.le_refl _)), oHr, oLt, oK, oH⟩, g1, g2, fun q hq => ?_⟩
    dsimp only at hq ⊢
    rw [Nat.testBit_xor, g3 q hq, Nat.testBit_two_pow, decide_eq_false (fun z => e2 q hq z.symm)]
    rfl
  · next hj =>
    split at e
    · next hb =>
      obtain ⟨e1, rfl⟩ := sp_bifS e
      obtain ⟨t1, t2, t3, t4⟩ := sp_tk2_of e1
      obtain ⟨x1, x2, x3⟩ := sp_fe_of t2
      obtain ⟨y1, y2, y3⟩ := sp_fe_of t3
      refine ⟨⟨by show a + 1 ≤ 4; omega, oF, oHr, oLt, fun q => ?_, fun q => ?_⟩, g1, fun p q hp hq hpq => ?_, fun q hq => ?_⟩
      · show sp_k1 k a kd q < 6
        unfold sp_k1
        split
        · exact hk hb
        · exact oK q
      · show sp_h1 h a x y q < 12
        unfold sp_h1
        split
        · exact x1
        · split
          · exact y1
          · exact oH q
      · dsimp only at hp hq hpq
        unfold sp_h1 at hpq
        have hq0 := fun z : q < 2 * a => (⟨x3 q z, y3 q z⟩ : _ ∧ _)
        have hp0 := fun z : p < 2 * a => (⟨x3 p z, y3 p z⟩ : _ ∧ _)
        by_cases p1 : p = 2 * a
        · rw [if_pos p1] at hpq
          by_cases q1 : q = 2 * a
          · omega
          · rw [if_neg q1] at hpq
            by_cases q2 : q = 2 * a + 1
            · rw [if_pos q2] at hpq; exact absurd hpq t4
            · rw [if_neg q2] at hpq; exact absurd hpq.symm (hq0 (by omega)).1
        · rw [if_neg p1] at hpq
          by_cases p2 : p = 2 * a + 1
          · rw [if_pos p2] at hpq
            by_cases q1 : q = 2 * a
            · rw [if_pos q1] at hpq; exact absurd hpq.symm t4
            · rw [if_neg q1] at hpq
              by_cases q2 : q = 2 * a + 1
              · omega
              · rw [if_neg q2] at hpq; exact absurd hpq.symm (hq0 (by omega)).2
          · rw [if_neg p2] at hpq
            by_cases q1 : q = 2 * a
            · rw [if_pos q1] at hpq; exact absurd hpq (hp0 (by omega)).1
            · rw [if_neg q1] at hpq
              by_cases q2 : q = 2 * a + 1
              · rw [if_pos q2] at hpq; exact absurd hpq (hp0 (by omega)).2
              · rw [if_neg q2] at hpq; exact g2 p q (by omega) (by omega) hpq
      · dsimp only at hq ⊢
        unfold sp_h1
        split
        · exact x2
        · split
          · exact y2
          · exact g3 q (by omega)
    · split at e
      · obtain ⟨e1, rfl⟩ := sp_bifS e
        exact ⟨⟨oA, oF, of_decide_eq_true e1, oLt, oK, oH⟩, g1, g2, g3⟩
      · obtain ⟨e1, rfl⟩ := sp_bifS e
        have e2 := of_decide_eq_true e1
        exact ⟨⟨oA, oF, oHr, Nat.xor_lt_two_pow (n := 24) oLt (Nat.lt_of_lt_of_le (Nat.pow_lt_pow_right (by decide) e2) (Nat.le_refl _)), oK, oH⟩, g1, g2, g3⟩
/-! the class's tellings, as that -/
def sp_tp (M : am_Mem) (w : Option sp_W) : Int32 → am_Mem → Prop := fun v N => v = am_b w.isSome ∧ (∀ w2, w = some w2 → sp_SW 4 N w2) ∧ sp_fm 4 M N

theorem s_tl_j {M : am_Mem} {a f hr hs lt : Nat} {k h : Nat → Nat} (hS : sp_S 4 M a f hr hs lt k h) (hO : sp_ok a f hr lt k h) {kd x y : Nat} (hx : x < 100) : am_go 31 (am_ent 31 [.ref 4, .int (nI x)] M) (am_ri (sp_tp M (sp_tl (a, f, hr, hs, lt, k, h) 106 kd x y))) := by
  refine am_goW (s_tellJoint hS hO hx) (fun r N hr2 => ?_)
  obtain ⟨v, rfl, rfl, rfl⟩ := hr2
  refine ⟨_, rfl, ?_⟩
  cases e : (decide (x < 12) && (sp_wo h x (2 * a)).isNone) with
  | false =>
    have e1 : sp_tl (a, f, hr, hs, lt, k, h) 106 kd x y = none := by unfold sp_tl; simp [e]
    rw [e1]
    exact ⟨rfl, fun w2 z => (by cases z), fun _ _ _ _ => rfl⟩
  | true =>
    have e1 := (show sp_tl (a, f, hr, hs, lt, k, h) 106 kd x y = some (a, f ^^^ 2 ^ x, hr, hs, lt, k, h) by unfold sp_tl; simp [e])
    rw [e1]
    refine ⟨rfl, fun w2 z => ?_, fun c c1 c2 c3 => ?_⟩
    · cases z
      exact ⟨rfl, hS.2.1, hS.2.2.1, hS.2.2.2.1, hS.2.2.2.2.1, hS.2.2.2.2.2.1, hS.2.2.2.2.2.2⟩
    · funext q
      show (am_set M 4 0 (nI (f ^^^ 2 ^ x))) c q = M c q
      rw [am_set_o (fun z => c1 z.1)]
theorem s_tl_h {M : am_Mem} {a f hr hs lt : Nat} {k h : Nat → Nat} (hS : sp_S 4 M a f hr hs lt k h) (hO : sp_ok a f hr lt k h) {kd x y : Nat} (hx : x < 100) : am_go 32 (am_ent 32 [.ref 4, .int (nI x)] M) (am_ri (sp_tp M (sp_tl (a, f, hr, hs, lt, k, h) 104 kd x y))) := by
  refine am_goW (s_tellHour hS hO hx) (fun r N hr2 => ?_)
  obtain ⟨v, rfl, rfl, rfl⟩ := hr2
  refine ⟨_, rfl, ?_⟩
  cases e : (decide (x < 24)) with
  | false =>
    have e1 : sp_tl (a, f, hr, hs, lt, k, h) 104 kd x y = none := by unfold sp_tl; simp [e]
    rw [e1]
    exact ⟨rfl, fun w2 z => (by cases z), fun _ _ _ _ => rfl⟩
  | true =>
    have e1 := (show sp_tl (a, f, hr, hs, lt, k, h) 104 kd x y = some (a, f, x, hs, lt, k, h) by unfold sp_tl; simp [e])
    rw [e1]
    refine ⟨rfl, fun w2 z => ?_, fun c c1 c2 c3 => ?_⟩
    · cases z
      exact ⟨hS.1, hS.2.1, rfl, hS.2.2.2.1, hS.2.2.2.2.1, hS.2.2.2.2.2.1, hS.2.2.2.2.2.2⟩
    · funext q
      show (am_set M 4 2 (nI x)) c q = M c q
      rw [am_set_o (fun z => c1 z.1)]
theorem s_tl_d {M : am_Mem} {a f hr hs lt : Nat} {k h : Nat → Nat} (hS : sp_S 4 M a f hr hs lt k h) (hO : sp_ok a f hr lt k h) {kd x y : Nat} (hx : x < 100) : am_go 33 (am_ent 33 [.ref 4, .int (nI x)] M) (am_ri (sp_tp M (sp_tl (a, f, hr, hs, lt, k, h) 100 kd x y))) := by
  refine am_goW (s_tellDark hS hO hx) (fun r N hr2 => ?_)
  obtain ⟨v, rfl, rfl, rfl⟩ := hr2
  refine ⟨_, rfl, ?_⟩
  cases e : (decide (x < 24)) with
  | false =>
    have e1 : sp_tl (a, f, hr, hs, lt, k, h) 100 kd x y = none := by unfold sp_tl; simp [e]
    rw [e1]
    exact ⟨rfl, fun w2 z => (by cases z), fun _ _ _ _ => rfl⟩
  | true =>
    have e1 := (show sp_tl (a, f, hr, hs, lt, k, h) 100 kd x y = some (a, f, hr, hs, lt ^^^ 2 ^ x, k, h) by unfold sp_tl; simp [e])
    rw [e1]
    refine ⟨rfl, fun w2 z => ?_, fun c c1 c2 c3 => ?_⟩
    · cases z
      exact ⟨hS.1, hS.2.1, hS.2.2.1, hS.2.2.2.1, rfl, hS.2.2.2.2.2.1, hS.2.2.2.2.2.2⟩
    · funext q
      show (am_set M 4 4 (nI (lt ^^^ 2 ^ x))) c q = M c q
      rw [am_set_o (fun z => c1 z.1)]
theorem s_tl_a {M : am_Mem} {a f hr hs lt : Nat} {k h : Nat → Nat} (hS : sp_S 4 M a f hr hs lt k h) (hO : sp_ok a f hr lt k h) {kd x y : Nat} (hk : kd < 6) (hx : x < 100) (hy : y < 100) : am_go 34 (am_ent 34 [.ref 4, .int (nI kd), .int (nI x), .int (nI y)] M) (am_ri (sp_tp M (sp_tl (a, f, hr, hs, lt, k, h) 97 kd x y))) := by
  refine am_goW (s_tellArm hS hO hk hx hy) (fun r N hr2 => ?_)
  obtain ⟨v, rfl, rfl, rfl⟩ := hr2
  refine ⟨_, rfl, ?_⟩
  cases e : (sp_tk2 a f k h kd x y) with
  | false =>
    have e1 : sp_tl (a, f, hr, hs, lt, k, h) 97 kd x y = none := by unfold sp_tl; simp [e]
    rw [e1]
    exact ⟨rfl, fun w2 z => (by cases z), fun _ _ _ _ => rfl⟩
  | true =>
    have e1 := (show sp_tl (a, f, hr, hs, lt, k, h) 97 kd x y = some (a + 1, f, hr, hs, lt, sp_k1 k a kd, sp_h1 h a x y) by unfold sp_tl; simp [e])
    rw [e1]
    refine ⟨rfl, fun w2 z => ?_, fun c c1 c2 c3 => ?_⟩
    · cases z
      refine ⟨hS.1, rfl, hS.2.2.1, hS.2.2.2.1, hS.2.2.2.2.1, fun q hq => ?_, fun q hq => ?_⟩
      · show sp_ta M kd a x y 5 q = nI (sp_k1 k a kd q)
        unfold sp_ta sp_k1
        rw [am_set_o (by omega), am_set_o (by omega), am_set_o (by omega)]
        by_cases e2 : q = a
        · subst e2; rw [am_set_s, if_pos rfl]
        · rw [am_set_o (by omega), if_neg e2]; exact hS.2.2.2.2.2.1 q hq
      · show sp_ta M kd a x y 6 q = nI (sp_h1 h a x y q)
        unfold sp_ta sp_h1
        by_cases e2 : q = 2 * a
        · subst e2; rw [am_set_o (by omega), am_set_s, if_pos rfl]
        · rw [if_neg e2]
          by_cases e3 : q = 2 * a + 1
          · subst e3; rw [am_set_s, if_pos rfl]
          · rw [if_neg e3, am_set_o (by omega), am_set_o (by omega), am_set_o (by omega), am_set_o (by omega)]; exact hS.2.2.2.2.2.2 q hq
    · funext q
      show (sp_ta M kd a x y) c q = M c q
      unfold sp_ta
      rw [am_set_o (fun z => c3 z.1), am_set_o (fun z => c3 z.1), am_set_o (fun z => c1 z.1), am_set_o (fun z => c2 z.1)]
/-! tellOne -/
set_option maxHeartbeats 4000000 in
theorem s_one_j {M : am_Mem} {a f hr hs lt : Nat} {k h : Nat → Nat} (hS : sp_S 4 M a f hr hs lt k h) (hO : sp_ok a f hr lt k h) {kd x y : Nat} (hB : M 13 3 = nI 106) (hX : M 13 5 = nI x) (hx : x < 100) : am_go 40 (am_ent 40 [.ref 13, .ref 4] M) (am_ri (sp_tp M (sp_tl (a, f, hr, hs, lt, k, h) 106 kd x y))) := by
  refine am_goQ 2 (s1 := (4, [.ref 13, .ref 4], [.int ((M 13 3))], M)) (s2 := (4, [.ref 13, .ref 4], [.int (nI 106)], M)) rfl (by simp only [hB]) ?_
  refine am_goQ 4 (s1 := (65, [.ref 13, .ref 4], [.int ((M 13 5)), .ref 4], M)) (s2 := (65, [.ref 13, .ref 4], [.int (nI x), .ref 4], M)) rfl (by simp only [hX]) ?_
  refine am_goC (s2 := (68, [.ref 13, .ref 4], [], M)) rfl (s_tl_j hS hO (kd := kd) (y := y) hx) (fun v N hv => ?_)
  obtain ⟨rfl, v2, v3⟩ := hv
  exact am_goZ _ rfl ⟨_, rfl, rfl, v2, v3⟩

set_option maxHeartbeats 4000000 in
theorem s_one_a {M : am_Mem} {a f hr hs lt : Nat} {k h : Nat → Nat} (hS : sp_S 4 M a f hr hs lt k h) (hO : sp_ok a f hr lt k h) {kd x y : Nat} (hB : M 13 3 = nI 97) (hK4 : M 13 4 = nI kd) (hk : kd < 6) (hX : M 13 5 = nI x) (hx : x < 100) (hY : M 13 6 = nI y) (hy : y < 100) : am_go 40 (am_ent 40 [.ref 13, .ref 4] M) (am_ri (sp_tp M (sp_tl (a, f, hr, hs, lt, k, h) 97 kd x y))) := by
  refine am_goQ 2 (s1 := (4, [.ref 13, .ref 4], [.int ((M 13 3))], M)) (s2 := (4, [.ref 13, .ref 4], [.int (nI 97)], M)) rfl (by simp only [hB]) ?_
  refine am_goQ 8 (s1 := (82, [.ref 13, .ref 4], [.int ((M 13 6)), .int ((M 13 5)), .int ((M 13 4)), .ref 4], M)) (s2 := (82, [.ref 13, .ref 4], [.int (nI y), .int (nI x), .int (nI kd), .ref 4], M)) rfl (by simp only [hY, hX, hK4]) ?_
  refine am_goC (s2 := (85, [.ref 13, .ref 4], [], M)) rfl (s_tl_a hS hO hk hx hy) (fun v N hv => ?_)
  obtain ⟨rfl, v2, v3⟩ := hv
  exact am_goZ _ rfl ⟨_, rfl, rfl, v2, v3⟩

set_option maxHeartbeats 4000000 in
theorem s_one_h {M : am_Mem} {a f hr hs lt : Nat} {k h : Nat → Nat} (hS : sp_S 4 M a f hr hs lt k h) (hO : sp_ok a f hr lt k h) {kd x y : Nat} (hB : M 13 3 = nI 104) (hX : M 13 5 = nI x) (hx : x < 100) : am_go 40 (am_ent 40 [.ref 13, .ref 4] M) (am_ri (sp_tp M (sp_tl (a, f, hr, hs, lt, k, h) 104 kd x y))) := by
  refine am_goQ 2 (s1 := (4, [.ref 13, .ref 4], [.int ((M 13 3))], M)) (s2 := (4, [.ref 13, .ref 4], [.int (nI 104)], M)) rfl (by simp only [hB]) ?_
  refine am_goQ 4 (s1 := (91, [.ref 13, .ref 4], [.int ((M 13 5)), .ref 4], M)) (s2 := (91, [.ref 13, .ref 4], [.int (nI x), .ref 4], M)) rfl (by simp only [hX]) ?_
  refine am_goC (s2 := (94, [.ref 13, .ref 4], [], M)) rfl (s_tl_h hS hO (kd := kd) (y := y) hx) (fun v N hv => ?_)
  obtain ⟨rfl, v2, v3⟩ := hv
  exact am_goZ _ rfl ⟨_, rfl, rfl, v2, v3⟩

set_option maxHeartbeats 4000000 in
theorem s_one_d {M : am_Mem} {a f hr hs lt : Nat} {k h : Nat → Nat} (hS : sp_S 4 M a f hr hs lt k h) (hO : sp_ok a f hr lt k h) {kd x y : Nat} (hB : M 13 3 = nI 100) (hX : M 13 5 = nI x) (hx : x < 100) : am_go 40 (am_ent 40 [.ref 13, .ref 4] M) (am_ri (sp_tp M (sp_tl (a, f, hr, hs, lt, k, h) 100 kd x y))) := by
  refine am_goQ 2 (s1 := (4, [.ref 13, .ref 4], [.int ((M 13 3))], M)) (s2 := (4, [.ref 13, .ref 4], [.int (nI 100)], M)) rfl (by simp only [hB]) ?_
  refine am_goQ 4 (s1 := (100, [.ref 13, .ref 4], [.int ((M 13 5)), .ref 4], M)) (s2 := (100, [.ref 13, .ref 4], [.int (nI x), .ref 4], M)) rfl (by simp only [hX]) ?_
  refine am_goC (s2 := (103, [.ref 13, .ref 4], [], M)) rfl (s_tl_d hS hO (kd := kd) (y := y) hx) (fun v N hv => ?_)
  obtain ⟨rfl, v2, v3⟩ := hv
  exact am_goZ _ rfl ⟨_, rfl, rfl, v2, v3⟩

/-! the reference's comes -/
def sp_rp (M : am_Mem) (w : Option sp_W) : Int32 → am_Mem → Prop := fun v N => v = am_b w.isSome ∧ (∀ w2, w = some w2 → sp_MW N w2) ∧ (∀ x y, ¬ x = 19 → ¬ x = 20 → ¬ (x = 17 ∧ 3 ≤ y ∧ y ≤ 7) → N x y = M x y) ∧ ∃ z3 z4 z5 z6 z7 : Nat, N 17 3 = nI z3 ∧ N 17 4 = nI z4 ∧ N 17 5 = nI z5 ∧ N 17 6 = nI z6 ∧ N 17 7 = nI z7
def sp_tm (M : am_Mem) (kd a x y : Nat) : am_Mem := am_set (am_set (am_set (am_set M 19 a (nI kd)) 20 (2 * a) (nI x)) 20 (2 * a + 1) (nI y)) 17 3 (nI (a + 1))

set_option maxHeartbeats 4000000 in
theorem t_comesArm {M : am_Mem} {a f hr hs lt : Nat} {k h : Nat → Nat} (hS : sp_M M a f hr hs lt k h) (hO : sp_ok a f hr lt k h) {kd x y p : Nat} (h0 : M 24 p = nI kd) (h1 : M 24 (p + 1) = nI x) (h2 : M 24 (p + 2) = nI y) (hkd : kd < 6) (hx : x < 100) (hy : y < 100) (hp : p < 90) : am_go 108 (am_ent 108 [.ref 17, .int (nI p)] M) (am_is (am_b (sp_tk2 a f k h kd x y)) (bif sp_tk2 a f k h kd x y then sp_tm M kd a x y else M)) := by
  obtain ⟨hF, hA, hHr, hHs, hLt, hK, hH⟩ := id hS
  obtain ⟨oA, oF, oHr, oLt, oK, oH⟩ := id hO
  have hds : sp_ds x y < 1000 := by unfold sp_ds; omega
  have hrc := sp_rc_lt kd
  refine am_goQ 5 (s1 := (7, [.ref 17, .int (nI p), .null, .null], [.int ((nI p + nI 1)), .ref 24], M)) (s2 := (7, [.ref 17, .int (nI p), .null, .null], [.int (nI (p + 1)), .ref 24], M)) rfl (by simp only [nI_add]) ?_
  refine am_goL2 (pc := 8) (ls := [.ref 17, .int (nI p), .null, .null]) (r := []) (M := M) (a := 24) (n := 96) ((p + 1)) (nI x) rfl rfl (by omega) (by decide) (h1) ?_
  refine am_goQ 6 (s1 := (16, [.ref 17, .int (nI p), .int (nI x), .null], [.int ((nI p + nI 2)), .ref 24], M)) (s2 := (16, [.ref 17, .int (nI p), .int (nI x), .null], [.int (nI (p + 2)), .ref 24], M)) rfl (by simp only [nI_add]) ?_
  refine am_goL2 (pc := 17) (ls := [.ref 17, .int (nI p), .int (nI x), .null]) (r := []) (M := M) (a := 24) (n := 96) ((p + 2)) (nI y) rfl rfl (by omega) (by decide) (h2) ?_
  refine am_goQ 4 (s1 := (23, [.ref 17, .int (nI p), .int (nI x), .int (nI y)], [.int (nI 4), .int ((M 17 3))], M)) (s2 := (23, [.ref 17, .int (nI p), .int (nI x), .int (nI y)], [.int (nI 4), .int (nI a)], M)) rfl (by simp only [hA]) ?_
  refine am_bEQ (a) (4) (s1 := (64, [.ref 17, .int (nI p), .int (nI x), .int (nI y)], [], M)) (s2 := (26, [.ref 17, .int (nI p), .int (nI x), .int (nI y)], [], M)) rfl (by omega) (by omega) (fun c1 => ?_) (fun c1 => ?_)
  · refine am_goR 1 (s2 := (65, [.ref 17, .int (nI p), .int (nI x), .int (nI y)], [.int (nI 0)], M)) rfl ?_
    have eB : sp_tk2 a f k h kd x y = false := by unfold sp_tk2; first | (simp [*]; done) | (simp <;> omega) | (simp [*] <;> omega)
    rw [eB]
    exact am_endz false _ rfl rfl rfl
  · refine am_goR 2 (s2 := (28, [.ref 17, .int (nI p), .int (nI x), .int (nI y)], [.int (nI x), .ref 17], M)) rfl ?_
    refine am_goX (v := am_b (sp_fe a f h x)) (M2 := M) (s2 := (31, [.ref 17, .int (nI p), .int (nI x), .int (nI y)], [], M)) rfl (t_canStand hS hO (j := x) (by omega)) ?_
    refine am_bB0 (sp_fe a f h x) (s1 := (64, [.ref 17, .int (nI p), .int (nI x), .int (nI y)], [], M)) (s2 := (34, [.ref 17, .int (nI p), .int (nI x), .int (nI y)], [], M)) rfl (fun c2 => ?_) (fun c2 => ?_)
    · refine am_goR 1 (s2 := (65, [.ref 17, .int (nI p), .int (nI x), .int (nI y)], [.int (nI 0)], M)) rfl ?_
      have eB : sp_tk2 a f k h kd x y = false := by unfold sp_tk2; first | (simp [*]; done) | (simp <;> omega) | (simp [*] <;> omega)
      rw [eB]
      exact am_endz false _ rfl rfl rfl
    · refine am_goR 2 (s2 := (36, [.ref 17, .int (nI p), .int (nI x), .int (nI y)], [.int (nI y), .ref 17], M)) rfl ?_
      refine am_goX (v := am_b (sp_fe a f h y)) (M2 := M) (s2 := (39, [.ref 17, .int (nI p), .int (nI x), .int (nI y)], [], M)) rfl (t_canStand hS hO (j := y) (by omega)) ?_
      refine am_bB0 (sp_fe a f h y) (s1 := (64, [.ref 17, .int (nI p), .int (nI x), .int (nI y)], [], M)) (s2 := (42, [.ref 17, .int (nI p), .int (nI x), .int (nI y)], [], M)) rfl (fun c3 => ?_) (fun c3 => ?_)
      · refine am_goR 1 (s2 := (65, [.ref 17, .int (nI p), .int (nI x), .int (nI y)], [.int (nI 0)], M)) rfl ?_
        have eB : sp_tk2 a f k h kd x y = false := by unfold sp_tk2; first | (simp [*]; done) | (simp <;> omega) | (simp [*] <;> omega)
        rw [eB]
        exact am_endz false _ rfl rfl rfl
      · refine am_goR 2 (s2 := (44, [.ref 17, .int (nI p), .int (nI x), .int (nI y)], [.int (nI y), .int (nI x)], M)) rfl ?_
        refine am_bEQ (x) (y) (s1 := (64, [.ref 17, .int (nI p), .int (nI x), .int (nI y)], [], M)) (s2 := (47, [.ref 17, .int (nI p), .int (nI x), .int (nI y)], [], M)) rfl (by omega) (by omega) (fun c4 => ?_) (fun c4 => ?_)
        · refine am_goR 1 (s2 := (65, [.ref 17, .int (nI p), .int (nI x), .int (nI y)], [.int (nI 0)], M)) rfl ?_
          have eB : sp_tk2 a f k h kd x y = false := by unfold sp_tk2; first | (simp [*]; done) | (simp <;> omega) | (simp [*] <;> omega)
          rw [eB]
          exact am_endz false _ rfl rfl rfl
        · refine am_goR 2 (s2 := (49, [.ref 17, .int (nI p), .int (nI x), .int (nI y)], [.int (nI y), .int (nI x)], M)) rfl ?_
          refine am_goX (v := nI (sp_ds x y)) (M2 := M) (s2 := (52, [.ref 17, .int (nI p), .int (nI x), .int (nI y)], [], M)) rfl (t_apart (x := x) (y := y) (by omega) (by omega)) ?_
          refine am_goR 3 (s2 := (57, [.ref 17, .int (nI p), .int (nI x), .int (nI y)], [.int (nI p), .ref 24, .int (nI (sp_ds x y))], M)) rfl ?_
          refine am_goL2 (pc := 58) (ls := [.ref 17, .int (nI p), .int (nI x), .int (nI y)]) (r := [.int (nI (sp_ds x y))]) (M := M) (a := 24) (n := 96) (p) (nI kd) rfl rfl (by omega) (by decide) (h0) ?_
          refine am_goX (v := nI (sp_rc kd)) (M2 := M) (s2 := (61, [.ref 17, .int (nI p), .int (nI x), .int (nI y)], [.int (nI (sp_ds x y))], M)) rfl (t_reachOf (x := kd) (by omega)) ?_
          refine am_bLE ((sp_ds x y)) ((sp_rc kd)) (s1 := (66, [.ref 17, .int (nI p), .int (nI x), .int (nI y)], [], M)) (s2 := (64, [.ref 17, .int (nI p), .int (nI x), .int (nI y)], [], M)) rfl (by omega) (by omega) (fun c5 => ?_) (fun c5 => ?_)
          · refine am_goQ 7 (s1 := (79, [.ref 17, .int (nI p), .int (nI x), .int (nI y)], [.int (nI p), .ref 24, .int ((M 17 3)), .ref 19], M)) (s2 := (79, [.ref 17, .int (nI p), .int (nI x), .int (nI y)], [.int (nI p), .ref 24, .int (nI a), .ref 19], M)) rfl (by simp only [hA]) ?_
            refine am_goL2 (pc := 80) (ls := [.ref 17, .int (nI p), .int (nI x), .int (nI y)]) (r := [.int (nI a), .ref 19]) (M := M) (a := 24) (n := 96) (p) (nI kd) rfl rfl (by omega) (by decide) (h0) ?_
            refine am_goS (pc := 81) (ls := [.ref 17, .int (nI p), .int (nI x), .int (nI y)]) (r := []) (M := M) (a := 19) (n := 4) (v := nI kd) (a) rfl rfl (by omega) (by decide) ?_
            refine am_goQ 7 (s1 := (92, [.ref 17, .int (nI p), .int (nI x), .int (nI y)], [.int (nI x), .int ((nI 2 * (M 17 3))), .ref 20], (am_set M 19 a (nI kd)))) (s2 := (92, [.ref 17, .int (nI p), .int (nI x), .int (nI y)], [.int (nI x), .int (nI (2 * a)), .ref 20], (am_set M 19 a (nI kd)))) rfl (by simp only [hA, pk_mul]) ?_
            refine am_goS (pc := 93) (ls := [.ref 17, .int (nI p), .int (nI x), .int (nI y)]) (r := []) (M := (am_set M 19 a (nI kd))) (a := 20) (n := 8) (v := nI x) ((2 * a)) rfl rfl (by omega) (by decide) ?_
            refine am_goQ 9 (s1 := (106, [.ref 17, .int (nI p), .int (nI x), .int (nI y)], [.int (nI y), .int (((nI 2 * (M 17 3)) + nI 1)), .ref 20], (am_set (am_set M 19 a (nI kd)) 20 (2 * a) (nI x)))) (s2 := (106, [.ref 17, .int (nI p), .int (nI x), .int (nI y)], [.int (nI y), .int (nI ((2 * a) + 1)), .ref 20], (am_set (am_set M 19 a (nI kd)) 20 (2 * a) (nI x)))) rfl (by simp only [hA, pk_mul, nI_add]) ?_
            refine am_goS (pc := 107) (ls := [.ref 17, .int (nI p), .int (nI x), .int (nI y)]) (r := []) (M := (am_set (am_set M 19 a (nI kd)) 20 (2 * a) (nI x))) (a := 20) (n := 8) (v := nI y) (((2 * a) + 1)) rfl rfl (by omega) (by decide) ?_
            refine am_goQ 5 (s1 := (114, [.ref 17, .int (nI p), .int (nI x), .int (nI y)], [.int (((M 17 3) + nI 1)), .ref 17], (am_set (am_set (am_set M 19 a (nI kd)) 20 (2 * a) (nI x)) 20 ((2 * a) + 1) (nI y)))) (s2 := (114, [.ref 17, .int (nI p), .int (nI x), .int (nI y)], [.int (nI (a + 1)), .ref 17], (am_set (am_set (am_set M 19 a (nI kd)) 20 (2 * a) (nI x)) 20 ((2 * a) + 1) (nI y)))) rfl (by simp only [hA, nI_add]) ?_
            refine am_goR 2 (s2 := (118, [.ref 17, .int (nI p), .int (nI x), .int (nI y)], [.int (nI 1)], (am_set (am_set (am_set (am_set M 19 a (nI kd)) 20 (2 * a) (nI x)) 20 ((2 * a) + 1) (nI y)) 17 3 (nI (a + 1))))) rfl ?_
            have eB : sp_tk2 a f k h kd x y = true := by unfold sp_tk2; first | (simp [*]; done) | (simp <;> omega) | (simp [*] <;> omega)
            rw [eB]
            exact am_endz true _ rfl rfl rfl
          · refine am_goR 1 (s2 := (65, [.ref 17, .int (nI p), .int (nI x), .int (nI y)], [.int (nI 0)], M)) rfl ?_
            have eB : sp_tk2 a f k h kd x y = false := by unfold sp_tk2; first | (simp [*]; done) | (simp <;> omega) | (simp [*] <;> omega)
            rw [eB]
            exact am_endz false _ rfl rfl rfl

theorem t_cm_a {M : am_Mem} {a f hr hs lt : Nat} {k h : Nat → Nat} (hS : sp_M M a f hr hs lt k h) (hO : sp_ok a f hr lt k h) {kd x y p : Nat} (h0 : M 24 p = nI kd) (h1 : M 24 (p + 1) = nI x) (h2 : M 24 (p + 2) = nI y) (hkd : kd < 6) (hx : x < 100) (hy : y < 100) (hp : p < 90) : am_go 108 (am_ent 108 [.ref 17, .int (nI p)] M) (am_ri (sp_rp M (sp_tl (a, f, hr, hs, lt, k, h) 97 kd x y))) := by
  refine am_goW (t_comesArm hS hO h0 h1 h2 hkd hx hy hp) (fun r N hr2 => ?_)
  obtain ⟨v, rfl, rfl, rfl⟩ := hr2
  refine ⟨_, rfl, ?_⟩
  cases e : (sp_tk2 a f k h kd x y) with
  | false =>
    have e1 : sp_tl (a, f, hr, hs, lt, k, h) 97 kd x y = none := by unfold sp_tl; simp [e]
    rw [e1]
    exact ⟨rfl, fun w2 z => (by cases z), fun _ _ _ _ _ => rfl, _, _, _, _, _, hS.2.1, hS.1, hS.2.2.1, hS.2.2.2.1, hS.2.2.2.2.1⟩
  | true =>
    have e1 := (show sp_tl (a, f, hr, hs, lt, k, h) 97 kd x y = some (a + 1, f, hr, hs, lt, sp_k1 k a kd, sp_h1 h a x y) by unfold sp_tl; simp [e])
    rw [e1]
    refine ⟨rfl, fun w2 z => ?_, fun c q c1 c2 c3 => ?_, _, _, _, _, _, (show sp_tm M kd a x y 17 3 = nI (a + 1) from rfl), hS.1, hS.2.2.1, hS.2.2.2.1, hS.2.2.2.2.1⟩
    · cases z
      refine ⟨hS.1, rfl, hS.2.2.1, hS.2.2.2.1, hS.2.2.2.2.1, fun q hq => ?_, fun q hq => ?_⟩
      · show sp_tm M kd a x y 19 q = nI (sp_k1 k a kd q)
        unfold sp_tm sp_k1
        rw [am_set_o (by omega), am_set_o (by omega), am_set_o (by omega)]
        by_cases e2 : q = a
        · subst e2; rw [am_set_s, if_pos rfl]
        · rw [am_set_o (by omega), if_neg e2]; exact hS.2.2.2.2.2.1 q hq
      · show sp_tm M kd a x y 20 q = nI (sp_h1 h a x y q)
        unfold sp_tm sp_h1
        rw [am_set_o (by omega)]
        by_cases e2 : q = 2 * a
        · subst e2; rw [am_set_o (by omega), am_set_s, if_pos rfl]
        · rw [if_neg e2]
          by_cases e3 : q = 2 * a + 1
          · subst e3; rw [am_set_s, if_pos rfl]
          · rw [if_neg e3, am_set_o (by omega), am_set_o (by omega), am_set_o (by omega)]; exact hS.2.2.2.2.2.2 q hq
    · show sp_tm M kd a x y c q = M c q
      unfold sp_tm
      rw [am_set_o (by omega), am_set_o (by omega), am_set_o (by omega), am_set_o (by omega)]
set_option maxHeartbeats 4000000 in
theorem t_comes_j {M : am_Mem} {a f hr hs lt : Nat} {k h : Nat → Nat} (hS : sp_M M a f hr hs lt k h) (hO : sp_ok a f hr lt k h) {kd x y i : Nat} (hi : i < 30) (hB : M 22 i = nI 106) (h0 : M 24 (3 * i) = nI x) (hx : x < 100) : am_go 109 (am_ent 109 [.ref 17, .int (nI i)] M) (am_ri (sp_rp M (sp_tl (a, f, hr, hs, lt, k, h) 106 kd x y))) := by
  obtain ⟨hF, hA, hHr, hHs, hLt, hK, hH⟩ := id hS
  obtain ⟨oA, oF, oHr, oLt, oK, oH⟩ := id hO
  refine am_goQ 5 (s1 := (7, [.ref 17, .int (nI i), .null], [.int ((nI 3 * nI i)), .ref 24], M)) (s2 := (7, [.ref 17, .int (nI i), .null], [.int (nI (3 * i)), .ref 24], M)) rfl (by simp only [pk_mul]) ?_
  refine am_goL2 (pc := 8) (ls := [.ref 17, .int (nI i), .null]) (r := []) (M := M) (a := 24) (n := 96) ((3 * i)) (nI x) rfl rfl (by omega) (by decide) (h0) ?_
  refine am_goR 4 (s2 := (14, [.ref 17, .int (nI i), .int (nI x)], [.int (nI i), .ref 22], M)) rfl ?_
  refine am_goL2 (pc := 15) (ls := [.ref 17, .int (nI i), .int (nI x)]) (r := []) (M := M) (a := 22) (n := 32) (i) (nI 106) rfl rfl (by omega) (by decide) (hB) ?_
  refine am_goR 2 (s2 := (49, [.ref 17, .int (nI i), .int (nI x)], [.int (nI x)], M)) rfl ?_
  refine am_goX (v := am_b (decide (x < 12))) (M2 := M) (s2 := (52, [.ref 17, .int (nI i), .int (nI x)], [], M)) rfl (t_isJointN (j := x) (by omega)) ?_
  refine am_bB0 (decide (x < 12)) (s1 := (63, [.ref 17, .int (nI i), .int (nI x)], [], M)) (s2 := (55, [.ref 17, .int (nI i), .int (nI x)], [], M)) rfl (fun c1 => ?_) (fun c1 => ?_)
  · have c1d := of_decide_eq_false c1
    refine am_goR 1 (s2 := (64, [.ref 17, .int (nI i), .int (nI x)], [.int (nI 0)], M)) rfl ?_
    have ec : (decide (x < 12) && (sp_wo h x (2 * a)).isNone) = false := by first | (simp [*]; done) | (simp; omega) | (rw [decide_eq_true (by omega)]; rfl) | (rw [decide_eq_false (by omega)]; rfl)
    have e1 : sp_tl (a, f, hr, hs, lt, k, h) 106 kd x y = none := by unfold sp_tl; simp [ec]
    rw [e1]
    exact am_goZ false rfl ⟨_, rfl, rfl, fun w2 z => (by cases z), fun c q c1 c2 c3 => by show M c q = M c q; first | rfl | (rw [am_set_o (by omega)]), a, f, hr, hs, lt, by show M 17 3 = _; first | rfl | exact hS.2.1 | exact hS.1 | exact hS.2.2.1 | exact hS.2.2.2.1 | exact hS.2.2.2.2.1, by show M 17 4 = _; first | rfl | exact hS.2.1 | exact hS.1 | exact hS.2.2.1 | exact hS.2.2.2.1 | exact hS.2.2.2.2.1, by show M 17 5 = _; first | rfl | exact hS.2.1 | exact hS.1 | exact hS.2.2.1 | exact hS.2.2.2.1 | exact hS.2.2.2.2.1, by show M 17 6 = _; first | rfl | exact hS.2.1 | exact hS.1 | exact hS.2.2.1 | exact hS.2.2.2.1 | exact hS.2.2.2.2.1, by show M 17 7 = _; first | rfl | exact hS.2.1 | exact hS.1 | exact hS.2.2.1 | exact hS.2.2.2.1 | exact hS.2.2.2.2.1⟩
  · have c1d := of_decide_eq_true c1
    refine am_goR 2 (s2 := (57, [.ref 17, .int (nI i), .int (nI x)], [.int (nI x), .ref 17], M)) rfl ?_
    rcases hw3 : sp_wo h x (2 * a) with _ | q2
    · refine am_goX (v := (-nI 9)) (M2 := M) (s2 := (60, [.ref 17, .int (nI i), .int (nI x)], [], M)) rfl (t_whoOnN hS.2.1 hO.1 hS.2.2.2.2.2.2 (fun q => by have := hO.2.2.2.2.2 q; omega) (j := x) (by omega) hw3) ?_
      refine am_goQ 8 (s1 := (74, [.ref 17, .int (nI i), .int (nI x)], [.int (((M 17 4) ^^^ (nI 1 <<< (nI x &&& 31)))), .ref 17], M)) (s2 := (74, [.ref 17, .int (nI i), .int (nI x)], [.int (nI (f ^^^ (2 ^ x))), .ref 17], M)) rfl (by simp only [hF, am_shl1 (j := x) (by omega), am_xor]) ?_
      refine am_goR 2 (s2 := (78, [.ref 17, .int (nI i), .int (nI x)], [.int (nI 1)], (am_set M 17 4 (nI (f ^^^ (2 ^ x)))))) rfl ?_
      have ec : (decide (x < 12) && (sp_wo h x (2 * a)).isNone) = true := by first | (simp [*]; done) | (simp; omega) | (rw [decide_eq_true (by omega)]; rfl) | (rw [decide_eq_false (by omega)]; rfl)
      have e1 : sp_tl (a, f, hr, hs, lt, k, h) 106 kd x y = some (a, f ^^^ 2 ^ x, hr, hs, lt, k, h) := by unfold sp_tl; simp [ec]
      rw [e1]
      exact am_goZ true rfl ⟨_, rfl, rfl, fun w2 z => by cases z; exact ⟨by first | rfl | exact hS.1, hS.2.1, by first | rfl | exact hS.2.2.1, hS.2.2.2.1, by first | rfl | exact hS.2.2.2.2.1, hS.2.2.2.2.2.1, hS.2.2.2.2.2.2⟩, fun c q c1 c2 c3 => by show (am_set M 17 4 (nI (f ^^^ (2 ^ x)))) c q = M c q; first | rfl | (rw [am_set_o (by omega)]), a, f ^^^ 2 ^ x, hr, hs, lt, by show (am_set M 17 4 (nI (f ^^^ (2 ^ x)))) 17 3 = _; first | rfl | exact hS.2.1 | exact hS.1 | exact hS.2.2.1 | exact hS.2.2.2.1 | exact hS.2.2.2.2.1, by show (am_set M 17 4 (nI (f ^^^ (2 ^ x)))) 17 4 = _; first | rfl | exact hS.2.1 | exact hS.1 | exact hS.2.2.1 | exact hS.2.2.2.1 | exact hS.2.2.2.2.1, by show (am_set M 17 4 (nI (f ^^^ (2 ^ x)))) 17 5 = _; first | rfl | exact hS.2.1 | exact hS.1 | exact hS.2.2.1 | exact hS.2.2.2.1 | exact hS.2.2.2.2.1, by show (am_set M 17 4 (nI (f ^^^ (2 ^ x)))) 17 6 = _; first | rfl | exact hS.2.1 | exact hS.1 | exact hS.2.2.1 | exact hS.2.2.2.1 | exact hS.2.2.2.2.1, by show (am_set M 17 4 (nI (f ^^^ (2 ^ x)))) 17 7 = _; first | rfl | exact hS.2.1 | exact hS.1 | exact hS.2.2.1 | exact hS.2.2.2.1 | exact hS.2.2.2.2.1⟩
    · refine am_goX (v := nI q2) (M2 := M) (s2 := (60, [.ref 17, .int (nI i), .int (nI x)], [], M)) rfl (t_whoOnS hS.2.1 hO.1 hS.2.2.2.2.2.2 (fun q => by have := hO.2.2.2.2.2 q; omega) (j := x) (by omega) hw3) ?_
      have hq2 := (sp_wo_some.mp hw3).1
      refine am_bLT (q2) (0) (s1 := (65, [.ref 17, .int (nI i), .int (nI x)], [], M)) (s2 := (63, [.ref 17, .int (nI i), .int (nI x)], [], M)) rfl (by omega) (by omega) (fun c4 => absurd c4 (by omega)) (fun c4 => ?_)
      refine am_goR 1 (s2 := (64, [.ref 17, .int (nI i), .int (nI x)], [.int (nI 0)], M)) rfl ?_
      have ec : (decide (x < 12) && (sp_wo h x (2 * a)).isNone) = false := by first | (simp [*]; done) | (simp; omega) | (rw [decide_eq_true (by omega)]; rfl) | (rw [decide_eq_false (by omega)]; rfl)
      have e1 : sp_tl (a, f, hr, hs, lt, k, h) 106 kd x y = none := by unfold sp_tl; simp [ec]
      rw [e1]
      exact am_goZ false rfl ⟨_, rfl, rfl, fun w2 z => (by cases z), fun c q c1 c2 c3 => by show M c q = M c q; first | rfl | (rw [am_set_o (by omega)]), a, f, hr, hs, lt, by show M 17 3 = _; first | rfl | exact hS.2.1 | exact hS.1 | exact hS.2.2.1 | exact hS.2.2.2.1 | exact hS.2.2.2.2.1, by show M 17 4 = _; first | rfl | exact hS.2.1 | exact hS.1 | exact hS.2.2.1 | exact hS.2.2.2.1 | exact hS.2.2.2.2.1, by show M 17 5 = _; first | rfl | exact hS.2.1 | exact hS.1 | exact hS.2.2.1 | exact hS.2.2.2.1 | exact hS.2.2.2.2.1, by show M 17 6 = _; first | rfl | exact hS.2.1 | exact hS.1 | exact hS.2.2.1 | exact hS.2.2.2.1 | exact hS.2.2.2.2.1, by show M 17 7 = _; first | rfl | exact hS.2.1 | exact hS.1 | exact hS.2.2.1 | exact hS.2.2.2.1 | exact hS.2.2.2.2.1⟩

set_option maxHeartbeats 4000000 in
theorem t_comes_h {M : am_Mem} {a f hr hs lt : Nat} {k h : Nat → Nat} (hS : sp_M M a f hr hs lt k h) (hO : sp_ok a f hr lt k h) {kd x y i : Nat} (hi : i < 30) (hB : M 22 i = nI 104) (h0 : M 24 (3 * i) = nI x) (hx : x < 100) : am_go 109 (am_ent 109 [.ref 17, .int (nI i)] M) (am_ri (sp_rp M (sp_tl (a, f, hr, hs, lt, k, h) 104 kd x y))) := by
  obtain ⟨hF, hA, hHr, hHs, hLt, hK, hH⟩ := id hS
  obtain ⟨oA, oF, oHr, oLt, oK, oH⟩ := id hO
  refine am_goQ 5 (s1 := (7, [.ref 17, .int (nI i), .null], [.int ((nI 3 * nI i)), .ref 24], M)) (s2 := (7, [.ref 17, .int (nI i), .null], [.int (nI (3 * i)), .ref 24], M)) rfl (by simp only [pk_mul]) ?_
  refine am_goL2 (pc := 8) (ls := [.ref 17, .int (nI i), .null]) (r := []) (M := M) (a := 24) (n := 96) ((3 * i)) (nI x) rfl rfl (by omega) (by decide) (h0) ?_
  refine am_goR 4 (s2 := (14, [.ref 17, .int (nI i), .int (nI x)], [.int (nI i), .ref 22], M)) rfl ?_
  refine am_goL2 (pc := 15) (ls := [.ref 17, .int (nI i), .int (nI x)]) (r := []) (M := M) (a := 22) (n := 32) (i) (nI 104) rfl rfl (by omega) (by decide) (hB) ?_
  refine am_goR 6 (s2 := (87, [.ref 17, .int (nI i), .int (nI x)], [.int (nI 24), .int (nI x)], (am_set M 17 5 (nI x)))) rfl ?_
  refine am_bLE (24) (x) (s1 := (94, [.ref 17, .int (nI i), .int (nI x)], [], (am_set M 17 5 (nI x)))) (s2 := (90, [.ref 17, .int (nI i), .int (nI x)], [], (am_set M 17 5 (nI x)))) rfl (by omega) (by omega) (fun c1 => ?_) (fun c1 => ?_)
  · refine am_goR 1 (s2 := (95, [.ref 17, .int (nI i), .int (nI x)], [.int (nI 0)], (am_set M 17 5 (nI x)))) rfl ?_
    have ec : decide (x < 24) = false := by first | (simp [*]; done) | (simp; omega) | (rw [decide_eq_true (by omega)]; rfl) | (rw [decide_eq_false (by omega)]; rfl)
    have e1 : sp_tl (a, f, hr, hs, lt, k, h) 104 kd x y = none := by unfold sp_tl; simp [ec]
    rw [e1]
    exact am_goZ false rfl ⟨_, rfl, rfl, fun w2 z => (by cases z), fun c q c1 c2 c3 => by show (am_set M 17 5 (nI x)) c q = M c q; first | rfl | (rw [am_set_o (by omega)]), a, f, x, hs, lt, by show (am_set M 17 5 (nI x)) 17 3 = _; first | rfl | exact hS.2.1 | exact hS.1 | exact hS.2.2.1 | exact hS.2.2.2.1 | exact hS.2.2.2.2.1, by show (am_set M 17 5 (nI x)) 17 4 = _; first | rfl | exact hS.2.1 | exact hS.1 | exact hS.2.2.1 | exact hS.2.2.2.1 | exact hS.2.2.2.2.1, by show (am_set M 17 5 (nI x)) 17 5 = _; first | rfl | exact hS.2.1 | exact hS.1 | exact hS.2.2.1 | exact hS.2.2.2.1 | exact hS.2.2.2.2.1, by show (am_set M 17 5 (nI x)) 17 6 = _; first | rfl | exact hS.2.1 | exact hS.1 | exact hS.2.2.1 | exact hS.2.2.2.1 | exact hS.2.2.2.2.1, by show (am_set M 17 5 (nI x)) 17 7 = _; first | rfl | exact hS.2.1 | exact hS.1 | exact hS.2.2.1 | exact hS.2.2.2.1 | exact hS.2.2.2.2.1⟩
  · refine am_goR 2 (s2 := (95, [.ref 17, .int (nI i), .int (nI x)], [.int (nI 1)], (am_set M 17 5 (nI x)))) rfl ?_
    have ec : decide (x < 24) = true := by first | (simp [*]; done) | (simp; omega) | (rw [decide_eq_true (by omega)]; rfl) | (rw [decide_eq_false (by omega)]; rfl)
    have e1 : sp_tl (a, f, hr, hs, lt, k, h) 104 kd x y = some (a, f, x, hs, lt, k, h) := by unfold sp_tl; simp [ec]
    rw [e1]
    exact am_goZ true rfl ⟨_, rfl, rfl, fun w2 z => by cases z; exact ⟨by first | rfl | exact hS.1, hS.2.1, by first | rfl | exact hS.2.2.1, hS.2.2.2.1, by first | rfl | exact hS.2.2.2.2.1, hS.2.2.2.2.2.1, hS.2.2.2.2.2.2⟩, fun c q c1 c2 c3 => by show (am_set M 17 5 (nI x)) c q = M c q; first | rfl | (rw [am_set_o (by omega)]), a, f, x, hs, lt, by show (am_set M 17 5 (nI x)) 17 3 = _; first | rfl | exact hS.2.1 | exact hS.1 | exact hS.2.2.1 | exact hS.2.2.2.1 | exact hS.2.2.2.2.1, by show (am_set M 17 5 (nI x)) 17 4 = _; first | rfl | exact hS.2.1 | exact hS.1 | exact hS.2.2.1 | exact hS.2.2.2.1 | exact hS.2.2.2.2.1, by show (am_set M 17 5 (nI x)) 17 5 = _; first | rfl | exact hS.2.1 | exact hS.1 | exact hS.2.2.1 | exact hS.2.2.2.1 | exact hS.2.2.2.2.1, by show (am_set M 17 5 (nI x)) 17 6 = _; first | rfl | exact hS.2.1 | exact hS.1 | exact hS.2.2.1 | exact hS.2.2.2.1 | exact hS.2.2.2.2.1, by show (am_set M 17 5 (nI x)) 17 7 = _; first | rfl | exact hS.2.1 | exact hS.1 | exact hS.2.2.1 | exact hS.2.2.2.1 | exact hS.2.2.2.2.1⟩

set_option maxHeartbeats 4000000 in
theorem t_comes_d {M : am_Mem} {a f hr hs lt : Nat} {k h : Nat → Nat} (hS : sp_M M a f hr hs lt k h) (hO : sp_ok a f hr lt k h) {kd x y i : Nat} (hi : i < 30) (hB : M 22 i = nI 100) (h0 : M 24 (3 * i) = nI x) (hx : x < 100) : am_go 109 (am_ent 109 [.ref 17, .int (nI i)] M) (am_ri (sp_rp M (sp_tl (a, f, hr, hs, lt, k, h) 100 kd x y))) := by
  obtain ⟨hF, hA, hHr, hHs, hLt, hK, hH⟩ := id hS
  obtain ⟨oA, oF, oHr, oLt, oK, oH⟩ := id hO
  refine am_goQ 5 (s1 := (7, [.ref 17, .int (nI i), .null], [.int ((nI 3 * nI i)), .ref 24], M)) (s2 := (7, [.ref 17, .int (nI i), .null], [.int (nI (3 * i)), .ref 24], M)) rfl (by simp only [pk_mul]) ?_
  refine am_goL2 (pc := 8) (ls := [.ref 17, .int (nI i), .null]) (r := []) (M := M) (a := 24) (n := 96) ((3 * i)) (nI x) rfl rfl (by omega) (by decide) (h0) ?_
  refine am_goR 4 (s2 := (14, [.ref 17, .int (nI i), .int (nI x)], [.int (nI i), .ref 22], M)) rfl ?_
  refine am_goL2 (pc := 15) (ls := [.ref 17, .int (nI i), .int (nI x)]) (r := []) (M := M) (a := 22) (n := 32) (i) (nI 100) rfl rfl (by omega) (by decide) (hB) ?_
  refine am_goR 3 (s2 := (99, [.ref 17, .int (nI i), .int (nI x)], [.int (nI 24), .int (nI x)], M)) rfl ?_
  refine am_bLT (x) (24) (s1 := (104, [.ref 17, .int (nI i), .int (nI x)], [], M)) (s2 := (102, [.ref 17, .int (nI i), .int (nI x)], [], M)) rfl (by omega) (by omega) (fun c1 => ?_) (fun c1 => ?_)
  · refine am_goQ 7 (s1 := (113, [.ref 17, .int (nI i), .int (nI x)], [.int (((M 17 7) ^^^ (nI 1 <<< (nI x &&& 31)))), .ref 17], M)) (s2 := (113, [.ref 17, .int (nI i), .int (nI x)], [.int (nI (lt ^^^ (2 ^ x))), .ref 17], M)) rfl (by simp only [hLt, am_shl1 (j := x) (by omega), am_xor]) ?_
    refine am_goR 2 (s2 := (117, [.ref 17, .int (nI i), .int (nI x)], [.int (nI 1)], (am_set M 17 7 (nI (lt ^^^ (2 ^ x)))))) rfl ?_
    have ec : decide (x < 24) = true := by first | (simp [*]; done) | (simp; omega) | (rw [decide_eq_true (by omega)]; rfl) | (rw [decide_eq_false (by omega)]; rfl)
    have e1 : sp_tl (a, f, hr, hs, lt, k, h) 100 kd x y = some (a, f, hr, hs, lt ^^^ 2 ^ x, k, h) := by unfold sp_tl; simp [ec]
    rw [e1]
    exact am_goZ true rfl ⟨_, rfl, rfl, fun w2 z => by cases z; exact ⟨by first | rfl | exact hS.1, hS.2.1, by first | rfl | exact hS.2.2.1, hS.2.2.2.1, by first | rfl | exact hS.2.2.2.2.1, hS.2.2.2.2.2.1, hS.2.2.2.2.2.2⟩, fun c q c1 c2 c3 => by show (am_set M 17 7 (nI (lt ^^^ (2 ^ x)))) c q = M c q; first | rfl | (rw [am_set_o (by omega)]), a, f, hr, hs, lt ^^^ 2 ^ x, by show (am_set M 17 7 (nI (lt ^^^ (2 ^ x)))) 17 3 = _; first | rfl | exact hS.2.1 | exact hS.1 | exact hS.2.2.1 | exact hS.2.2.2.1 | exact hS.2.2.2.2.1, by show (am_set M 17 7 (nI (lt ^^^ (2 ^ x)))) 17 4 = _; first | rfl | exact hS.2.1 | exact hS.1 | exact hS.2.2.1 | exact hS.2.2.2.1 | exact hS.2.2.2.2.1, by show (am_set M 17 7 (nI (lt ^^^ (2 ^ x)))) 17 5 = _; first | rfl | exact hS.2.1 | exact hS.1 | exact hS.2.2.1 | exact hS.2.2.2.1 | exact hS.2.2.2.2.1, by show (am_set M 17 7 (nI (lt ^^^ (2 ^ x)))) 17 6 = _; first | rfl | exact hS.2.1 | exact hS.1 | exact hS.2.2.1 | exact hS.2.2.2.1 | exact hS.2.2.2.2.1, by show (am_set M 17 7 (nI (lt ^^^ (2 ^ x)))) 17 7 = _; first | rfl | exact hS.2.1 | exact hS.1 | exact hS.2.2.1 | exact hS.2.2.2.1 | exact hS.2.2.2.2.1⟩
  · refine am_goR 1 (s2 := (103, [.ref 17, .int (nI i), .int (nI x)], [.int (nI 0)], M)) rfl ?_
    have ec : decide (x < 24) = false := by first | (simp [*]; done) | (simp; omega) | (rw [decide_eq_true (by omega)]; rfl) | (rw [decide_eq_false (by omega)]; rfl)
    have e1 : sp_tl (a, f, hr, hs, lt, k, h) 100 kd x y = none := by unfold sp_tl; simp [ec]
    rw [e1]
    exact am_goZ false rfl ⟨_, rfl, rfl, fun w2 z => (by cases z), fun c q c1 c2 c3 => by show M c q = M c q; first | rfl | (rw [am_set_o (by omega)]), a, f, hr, hs, lt, by show M 17 3 = _; first | rfl | exact hS.2.1 | exact hS.1 | exact hS.2.2.1 | exact hS.2.2.2.1 | exact hS.2.2.2.2.1, by show M 17 4 = _; first | rfl | exact hS.2.1 | exact hS.1 | exact hS.2.2.1 | exact hS.2.2.2.1 | exact hS.2.2.2.2.1, by show M 17 5 = _; first | rfl | exact hS.2.1 | exact hS.1 | exact hS.2.2.1 | exact hS.2.2.2.1 | exact hS.2.2.2.2.1, by show M 17 6 = _; first | rfl | exact hS.2.1 | exact hS.1 | exact hS.2.2.1 | exact hS.2.2.2.1 | exact hS.2.2.2.2.1, by show M 17 7 = _; first | rfl | exact hS.2.1 | exact hS.1 | exact hS.2.2.1 | exact hS.2.2.2.1 | exact hS.2.2.2.2.1⟩

set_option maxHeartbeats 4000000 in
theorem t_comes_a {M : am_Mem} {a f hr hs lt : Nat} {k h : Nat → Nat} (hS : sp_M M a f hr hs lt k h) (hO : sp_ok a f hr lt k h) {kd x y i : Nat} (hi : i < 30) (hB : M 22 i = nI 97) (h0 : M 24 (3 * i) = nI kd) (h1 : M 24 (3 * i + 1) = nI x) (h2 : M 24 (3 * i + 2) = nI y) (hkd : kd < 6) (hx : x < 100) (hy : y < 100) : am_go 109 (am_ent 109 [.ref 17, .int (nI i)] M) (am_ri (sp_rp M (sp_tl (a, f, hr, hs, lt, k, h) 97 kd x y))) := by
  obtain ⟨hF, hA, hHr, hHs, hLt, hK, hH⟩ := id hS
  obtain ⟨oA, oF, oHr, oLt, oK, oH⟩ := id hO
  refine am_goQ 5 (s1 := (7, [.ref 17, .int (nI i), .null], [.int ((nI 3 * nI i)), .ref 24], M)) (s2 := (7, [.ref 17, .int (nI i), .null], [.int (nI (3 * i)), .ref 24], M)) rfl (by simp only [pk_mul]) ?_
  refine am_goL2 (pc := 8) (ls := [.ref 17, .int (nI i), .null]) (r := []) (M := M) (a := 24) (n := 96) ((3 * i)) (nI kd) rfl rfl (by omega) (by decide) (h0) ?_
  refine am_goR 4 (s2 := (14, [.ref 17, .int (nI i), .int (nI kd)], [.int (nI i), .ref 22], M)) rfl ?_
  refine am_goL2 (pc := 15) (ls := [.ref 17, .int (nI i), .int (nI kd)]) (r := []) (M := M) (a := 22) (n := 32) (i) (nI 97) rfl rfl (by omega) (by decide) (hB) ?_
  refine am_goQ 5 (s1 := (122, [.ref 17, .int (nI i), .int (nI kd)], [.int ((nI 3 * nI i)), .ref 17], M)) (s2 := (122, [.ref 17, .int (nI i), .int (nI kd)], [.int (nI (3 * i)), .ref 17], M)) rfl (by simp only [pk_mul]) ?_
  refine am_goC (s2 := (125, [.ref 17, .int (nI i), .int (nI kd)], [], M)) rfl (t_cm_a hS hO h0 h1 h2 hkd hx hy (by omega)) (fun v N hv => ?_)
  obtain ⟨rfl, v2, v3⟩ := hv
  exact am_goZ _ rfl ⟨_, rfl, rfl, v2, v3⟩

