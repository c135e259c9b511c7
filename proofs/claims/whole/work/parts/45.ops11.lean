/-! calls: judge -/
/-- an hour with a told step, done or not -/
abbrev sp_wg (w : sp_W) (z : Nat) : Bool := sp_gt w.1 w.2.1 w.2.2.1 w.2.2.2.2.1 w.2.2.2.2.2.1 w.2.2.2.2.2.2 z
def sp_ah (w : sp_W) (z : Nat) : Nat → Nat := fun q => if sp_wg w z = true ∧ q = 2 * (z / 1000) + z / 100 % 10 then z % 100 else w.2.2.2.2.2.2 q
def sp_nx (w : sp_W) (z : Nat) : sp_W := (w.1, w.2.1, (w.2.2.1 + 1) % 24, w.2.2.2.1 + 1, w.2.2.2.2.1, w.2.2.2.2.2.1, sp_ah w z)
def sp_g2 (w : sp_W) : Prop := sp_oW w ∧ ∀ p q, p < 2 * w.1 → q < 2 * w.1 → w.2.2.2.2.2.2 p = w.2.2.2.2.2.2 q → p = q
def sp_jd (v : Nat → Nat) : Nat → Nat → sp_W → Option Nat | 0, _, _ => none | m + 1, i, w => if sp_wg w (v i) = true then sp_jd v m (i + 1) (sp_nx w (v i)) else some i
theorem sp_gt_f {a f hr lt : Nat} {k h : Nat → Nat} {z : Nat} (oA : a ≤ 4) (oF : f < 4096) (e : sp_gt a f hr lt k h z = true) : z / 1000 < a ∧ z / 100 % 10 < 2 ∧ z % 100 < 12 ∧ ∀ q, q < 2 * a → ¬ h q = z % 100 := by
  unfold sp_gt at e
  rw [Bool.and_eq_true, Bool.and_eq_true, Bool.and_eq_true, decide_eq_true_eq, decide_eq_true_eq] at e
  obtain ⟨⟨e1, e2⟩, e3, e4⟩ := e
  have h12 : z % 100 < 12 := by
    by_cases c : z % 100 < 12
    · exact c
    · rw [sp_cn_big oF (by omega)] at e4; cases e4
  refine ⟨e1, e2, h12, fun q hq c => ?_⟩
  unfold sp_cn at e4
  rw [Bool.and_eq_true, Bool.and_eq_true, Bool.and_eq_true, decide_eq_true_eq] at e4
  have := e4.1.1.2 q hq c
  omega
theorem sp_g2.nx {w : sp_W} {z : Nat} (hg : sp_g2 w) : sp_g2 (sp_nx w z) := by
  obtain ⟨a, f, hr, hs, lt, k, h⟩ := w
  obtain ⟨⟨oA, oF, oHr, oLt, oK, oH⟩, oD⟩ := hg
  dsimp only at oA oF oHr oLt oK oH oD
  refine ⟨⟨oA, oF, Nat.mod_lt _ (by decide), oLt, oK, fun q => ?_⟩, fun p q hp hq e => ?_⟩
  · show (if sp_gt a f hr lt k h z = true ∧ q = 2 * (z / 1000) + z / 100 % 10 then z % 100 else h q) < 12
    by_cases c : sp_gt a f hr lt k h z = true ∧ q = 2 * (z / 1000) + z / 100 % 10
    · rw [if_pos c]; exact (sp_gt_f oA oF c.1).2.2.1
    · rw [if_neg c]; exact oH q
  · have e9 : (if sp_gt a f hr lt k h z = true ∧ p = 2 * (z / 1000) + z / 100 % 10 then z % 100 else h p) = (if sp_gt a f hr lt k h z = true ∧ q = 2 * (z / 1000) + z / 100 % 10 then z % 100 else h q) := e
    have hp9 : p < 2 * a := hp
    have hq9 : q < 2 * a := hq
    by_cases c : sp_gt a f hr lt k h z = true ∧ p = 2 * (z / 1000) + z / 100 % 10
    · by_cases c2 : sp_gt a f hr lt k h z = true ∧ q = 2 * (z / 1000) + z / 100 % 10
      · exact c.2.trans c2.2.symm
      · rw [if_pos c, if_neg c2] at e9
        exact absurd e9.symm ((sp_gt_f oA oF c.1).2.2.2 q hq9)
    · by_cases c2 : sp_gt a f hr lt k h z = true ∧ q = 2 * (z / 1000) + z / 100 % 10
      · rw [if_neg c, if_pos c2] at e9
        exact absurd e9 ((sp_gt_f oA oF c2.1).2.2.2 p hp9)
      · rw [if_neg c, if_neg c2] at e9
        exact oD p q hp9 hq9 e9
theorem sp_go.g2 {w : sp_W} (h : sp_go w) : sp_g2 w := ⟨h.1, h.2.2.1⟩
set_option maxHeartbeats 4000000 in
theorem s_try {M : am_Mem} {w : sp_W} (hS : sp_SW 4 M w) (hg : sp_g2 w) (hs9 : w.2.2.2.1 < 1000000) {i b j z : Nat} (hi : i = z / 1000) (hb : b = z / 100 % 10) (hj : j = z % 100) (hz : z < 8000) : am_go 16 (am_ent 16 [.ref 4, .int (nI i), .int (nI b), .int (nI j)] M) (am_ri (fun x O => x = am_b (sp_wg w z) ∧ sp_SW 4 O (sp_nx w z) ∧ ∀ a9 b9, ¬ a9 = 4 → ¬ a9 = 6 → O a9 b9 = M a9 b9)) := by
  obtain ⟨a, f, hr, hs, lt, k, h⟩ := w
  have hS1 : sp_S 4 M a f hr hs lt k h := hS
  have hO1 : sp_ok a f hr lt k h := hg.1
  have hs8 : hs < 1000000 := hs9
  refine am_goW (s_tryStep_4 hS1 hO1 hs8 (i := i) (b := b) (j := j) (by omega) (by omega) (by omega)) (fun r O hO => ?_)
  obtain ⟨x, rfl, rfl, hN⟩ := hO
  have eB : (decide (i < a) && decide (b < 2) && (sp_wk lt (k i) hr && sp_cn a f k h i b 9 j)) = sp_gt a f hr lt k h z := by rw [hi, hb, hj]; rfl
  rw [eB] at hN ⊢
  have hf := sp_gt_f (hr := hr) (lt := lt) (k := k) (h := h) (z := z) hO1.1 hO1.2.1
  refine ⟨_, rfl, rfl, ?_, ?_⟩
  · have h4 : ∀ b9, ¬ b9 = 2 → ¬ b9 = 3 → O 4 b9 = M 4 b9 := fun b9 c1 c2 => by
      rw [hN, am_set_o (by omega), am_set_o (by omega)]
      cases sp_gt a f hr lt k h z with
      | false => rfl
      | true => exact am_set_o (by omega)
    refine ⟨(h4 0 (by omega) (by omega)).trans hS1.1, (h4 1 (by omega) (by omega)).trans hS1.2.1, ?_, ?_, (h4 4 (by omega) (by omega)).trans hS1.2.2.2.2.1, fun q hq => ?_, fun q hq => ?_⟩
    · rw [hN, am_set_o (by omega), am_set_s]; rfl
    · rw [hN, am_set_s]; rfl
    · show O 5 q = nI (k q)
      rw [hN, am_set_o (by omega), am_set_o (by omega)]
      cases sp_gt a f hr lt k h z with
      | false => exact hS1.2.2.2.2.2.1 q hq
      | true => exact (am_set_o (by omega)).trans (hS1.2.2.2.2.2.1 q hq)
    · show O 6 q = nI (if sp_gt a f hr lt k h z = true ∧ q = 2 * (z / 1000) + z / 100 % 10 then z % 100 else h q)
      rw [hN, am_set_o (by omega), am_set_o (by omega)]
      cases e : sp_gt a f hr lt k h z with
      | false => rw [if_neg (fun c => by cases c.1)]; exact hS1.2.2.2.2.2.2 q hq
      | true =>
        show am_set M 6 (2 * i + b) (nI j) 6 q = _
        by_cases c : q = 2 * i + b
        · rw [c, am_set_s, if_pos ⟨rfl, by omega⟩, hj]
        · rw [am_set_o (by omega), if_neg (fun z9 => c (by omega))]; exact hS1.2.2.2.2.2.2 q hq
  · intro a9 b9 c1 c2
    rw [hN, am_set_o (by omega), am_set_o (by omega)]
    cases sp_gt a f hr lt k h z with
    | false => rfl
    | true => exact am_set_o (by omega)
def sp_hh (w : sp_W) (h9 : Nat → Nat) : sp_W := (w.1, w.2.1, w.2.2.1, w.2.2.2.1, w.2.2.2.2.1, w.2.2.2.2.2.1, h9)
set_option maxHeartbeats 4000000 in
theorem t_told1 {M : am_Mem} {w : sp_W} (hS : sp_MW M w) (hg : sp_g2 w) {z : Nat} (hz : z < 8000) : am_go 152 (am_ent 152 [.ref 17, .int (nI z)] M) (am_ri (fun x O => x = am_b (sp_wg w z) ∧ sp_MW O (sp_hh w (sp_ah w z)) ∧ ∀ a9 b9, ¬ a9 = 20 → O a9 b9 = M a9 b9)) := by
  obtain ⟨a, f, hr, hs, lt, k, h⟩ := w
  have hS1 : sp_M M a f hr hs lt k h := hS
  have hO1 : sp_ok a f hr lt k h := hg.1
  refine am_goW (t_goesTold hS1 hO1 hg.2 hz) (fun r O hO => ?_)
  obtain ⟨x, rfl, rfl, hN⟩ := hO
  have ff : ∀ a9 b9, ¬ a9 = 20 → O a9 b9 = M a9 b9 := fun a9 b9 c => by
    rw [hN]
    split
    · exact am_set_o (by omega)
    · rfl
  refine ⟨_, rfl, rfl, ⟨(ff _ _ (by omega)).trans hS1.1, (ff _ _ (by omega)).trans hS1.2.1, (ff _ _ (by omega)).trans hS1.2.2.1, (ff _ _ (by omega)).trans hS1.2.2.2.1, (ff _ _ (by omega)).trans hS1.2.2.2.2.1, fun q hq => (ff _ _ (by omega)).trans (hS1.2.2.2.2.2.1 q hq), fun q hq => ?_⟩, ff⟩
  show O 20 q = nI (if sp_gt a f hr lt k h z = true ∧ q = 2 * (z / 1000) + z / 100 % 10 then z % 100 else h q)
  rw [hN]
  by_cases e : sp_gt a f hr lt k h z = true
  · rw [if_pos e]
    by_cases c : q = 2 * (z / 1000) + z / 100 % 10
    · rw [if_pos ⟨e, c⟩, c, am_set_s]
    · rw [if_neg (fun z9 => c z9.2), am_set_o (by omega)]; exact hS1.2.2.2.2.2.2 q hq
  · rw [if_neg e, if_neg (fun z9 => e z9.1)]; exact hS1.2.2.2.2.2.2 q hq
theorem t_hour1 {M : am_Mem} {w : sp_W} {h9 : Nat → Nat} (hS : sp_MW M (sp_hh w h9)) (hg : sp_g2 w) (hs9 : w.2.2.2.1 < 1000000) : am_go 118 (am_ent 118 [.ref 17] M) (am_rv (fun O => sp_MW O (w.1, w.2.1, (w.2.2.1 + 1) % 24, w.2.2.2.1 + 1, w.2.2.2.2.1, w.2.2.2.2.2.1, h9) ∧ ∀ a9 b9, ¬ (a9 = 17 ∧ (b9 = 5 ∨ b9 = 6)) → O a9 b9 = M a9 b9)) := by
  refine am_goW (t_goesHour hS.2.2.1 hS.2.2.2.1 hg.1.2.2.1 hs9) (fun r O hO => ?_)
  obtain ⟨rfl, rfl⟩ := hO
  have ff : ∀ a9 b9, ¬ (a9 = 17 ∧ (b9 = 5 ∨ b9 = 6)) → am_set (am_set M 17 5 (nI ((w.2.2.1 + 1) % 24))) 17 6 (nI (w.2.2.2.1 + 1)) a9 b9 = M a9 b9 := fun a9 b9 c => by rw [am_set_o (by omega), am_set_o (by omega)]
  exact ⟨rfl, ⟨(ff _ _ (by omega)).trans hS.1, (ff _ _ (by omega)).trans hS.2.1, (am_set_o (by omega)).trans rfl, rfl, (ff _ _ (by omega)).trans hS.2.2.2.2.1, fun q hq => (ff _ _ (by omega)).trans (hS.2.2.2.2.2.1 q hq), fun q hq => (ff _ _ (by omega)).trans (hS.2.2.2.2.2.2 q hq)⟩, ff⟩

set_option maxHeartbeats 4000000 in
theorem c_judge_l {rn : Nat} {v : Nat → Nat} (hv : ∀ q, v q < 4000) : ∀ (m i : Nat) (N : am_Mem) (w : sp_W) (u : Value), m + i = rn → rn ≤ 16 → N 0 7 = nI rn → (∀ q, q < 16 → N 15 q = nI (v q)) → sp_SW 4 N w → sp_g2 w → w.2.2.2.1 + m < 1000000 → am_go 76 (16, [.ref 0, .int (-nI 9), .int (nI i), u], [], N) (am_ri (fun x O => x = sp_oi (sp_jd v m i w) ∧ O 0 7 = nI 0 ∧ ∀ a9 b9, ¬ a9 = 4 → ¬ a9 = 6 → ¬ (a9 = 0 ∧ b9 = 7) → O a9 b9 = N a9 b9)) := by
  intro m
  induction m with
  | zero =>
    intro i N w u hm hr h7 h15 hS hg hs9
    refine am_goQ 3 (s1 := (21, [.ref 0, .int ((-nI 9)), .int (nI i), u], [.int ((N 0 7)), .int (nI i)], N)) (s2 := (21, [.ref 0, .int ((-nI 9)), .int (nI i), u], [.int (nI rn), .int (nI i)], N)) rfl (by simp only [h7]) ?_
    refine am_bLE (rn) (i) (s1 := (81, [.ref 0, .int ((-nI 9)), .int (nI i), u], [], N)) (s2 := (24, [.ref 0, .int ((-nI 9)), .int (nI i), u], [], N)) rfl (by omega) (by omega) (fun c1 => ?_) (fun c1 => absurd c1 (by omega))
    refine am_goR 4 (s2 := (87, [.ref 0, .int ((-nI 9)), .int (nI i), u], [.int ((-nI 9))], (am_set N 0 7 (nI 0)))) rfl ?_
    exact am_goE _ _ rfl ⟨_, rfl, rfl, rfl, fun a9 b9 c1 c2 c3 => am_set_o c3⟩
  | succ m ih =>
    intro i N w u hm hr h7 h15 hS hg hs9
    have hvi := hv i
    cases hq : sp_wg w (v i) with
    | false =>
      refine am_goQ 3 (s1 := (21, [.ref 0, .int ((-nI 9)), .int (nI i), u], [.int ((N 0 7)), .int (nI i)], N)) (s2 := (21, [.ref 0, .int ((-nI 9)), .int (nI i), u], [.int (nI rn), .int (nI i)], N)) rfl (by simp only [h7]) ?_
      refine am_bLE (rn) (i) (s1 := (81, [.ref 0, .int ((-nI 9)), .int (nI i), u], [], N)) (s2 := (24, [.ref 0, .int ((-nI 9)), .int (nI i), u], [], N)) rfl (by omega) (by omega) (fun c1 => absurd c1 (by omega)) (fun c1 => ?_)
      refine am_goR 4 (s2 := (30, [.ref 0, .int ((-nI 9)), .int (nI i), u], [.int (nI 16), .int (nI i)], N)) rfl ?_
      refine am_bLE (16) (i) (s1 := (81, [.ref 0, .int ((-nI 9)), .int (nI i), u], [], N)) (s2 := (33, [.ref 0, .int ((-nI 9)), .int (nI i), u], [], N)) rfl (by omega) (by omega) (fun c2 => absurd c2 (by omega)) (fun c2 => ?_)
      refine am_goR 6 (s2 := (44, [.ref 0, .int ((-nI 9)), .int (nI i), u], [.int (nI i), .ref 15], N)) rfl ?_
      refine am_goL2 (pc := 45) (ls := [.ref 0, .int ((-nI 9)), .int (nI i), u]) (r := []) (M := N) (a := 15) (n := 16) (i) (nI (v i)) rfl rfl (by omega) (by decide) (h15 _ (by omega)) ?_
      refine am_goQ 14 (s1 := (67, [.ref 0, .int ((-nI 9)), .int (nI i), .int (nI (v i))], [.int ((nI (v i) - nI (v i) / nI 100 * nI 100)), .int (((nI (v i) - nI (v i) / nI 1000 * nI 1000) / nI 100)), .int ((nI (v i) / nI 1000)), .ref 4], N)) (s2 := (67, [.ref 0, .int ((-nI 9)), .int (nI i), .int (nI (v i))], [.int (nI ((v i) % 100)), .int (nI (((v i) % 1000) / 100)), .int (nI ((v i) / 1000)), .ref 4], N)) rfl (by rw [pk_rem (a := (v i)) (d := 100) (by omega) (by omega) (by omega), pk_rem (a := (v i)) (d := 1000) (by omega) (by omega) (by omega)]; simp only [pk_div (a := ((v i) % 1000)) (d := 100) (by omega) (by omega) (by omega), pk_div (a := (v i)) (d := 1000) (by omega) (by omega) (by omega)]) ?_
      refine am_goC (s2 := (70, [.ref 0, .int ((-nI 9)), .int (nI i), .int (nI (v i))], [], N)) rfl (s_try hS hg (by omega) (i := ((v i) / 1000)) (b := (((v i) % 1000) / 100)) (j := ((v i) % 100)) (z := v i) (by omega) (by omega) (by omega) (by omega)) (fun x O hx => ?_)
      obtain ⟨x0, x1, x2⟩ := hx
      rw [hq] at x0
      subst x0
      have h7O : O 0 7 = nI rn := (x2 _ _ (by omega) (by omega)).trans h7
      have h15O : ∀ q, q < 16 → O 15 q = nI (v q) := fun q hq => (x2 _ _ (by omega) (by omega)).trans (h15 q hq)
      refine am_goQ 5 (s1 := (16, [.ref 0, .int (nI i), .int ((nI i + nI 1)), .int (nI (v i))], [], O)) (s2 := (16, [.ref 0, .int (nI i), .int (nI (i + 1)), .int (nI (v i))], [], O)) rfl (by simp only [nI_add]) ?_
      refine am_goQ 3 (s1 := (21, [.ref 0, .int (nI i), .int (nI (i + 1)), .int (nI (v i))], [.int ((O 0 7)), .int (nI (i + 1))], O)) (s2 := (21, [.ref 0, .int (nI i), .int (nI (i + 1)), .int (nI (v i))], [.int (nI rn), .int (nI (i + 1))], O)) rfl (by simp only [h7O]) ?_
      refine am_bLE (rn) ((i + 1)) (s1 := (81, [.ref 0, .int (nI i), .int (nI (i + 1)), .int (nI (v i))], [], O)) (s2 := (24, [.ref 0, .int (nI i), .int (nI (i + 1)), .int (nI (v i))], [], O)) rfl (by omega) (by omega) (fun c3 => ?_) (fun c3 => ?_)
      · refine am_goR 4 (s2 := (87, [.ref 0, .int (nI i), .int (nI (i + 1)), .int (nI (v i))], [.int (nI i)], (am_set O 0 7 (nI 0)))) rfl ?_
        exact am_goE _ _ rfl ⟨_, rfl, by rw [sp_jd, if_neg (by rw [hq]; decide)]; rfl, rfl, fun a9 b9 c1 c2 c3 => (am_set_o c3).trans (x2 a9 b9 c1 c2)⟩
      · refine am_goR 4 (s2 := (30, [.ref 0, .int (nI i), .int (nI (i + 1)), .int (nI (v i))], [.int (nI 16), .int (nI (i + 1))], O)) rfl ?_
        refine am_bLE (16) ((i + 1)) (s1 := (81, [.ref 0, .int (nI i), .int (nI (i + 1)), .int (nI (v i))], [], O)) (s2 := (33, [.ref 0, .int (nI i), .int (nI (i + 1)), .int (nI (v i))], [], O)) rfl (by omega) (by omega) (fun c4 => absurd c4 (by omega)) (fun c4 => ?_)
        refine am_goR 2 (s2 := (36, [.ref 0, .int (nI i), .int (nI (i + 1)), .int (nI (v i))], [.int ((-nI 9)), .int (nI i)], O)) rfl ?_
        refine am_bTn (s1 := (81, [.ref 0, .int (nI i), .int (nI (i + 1)), .int (nI (v i))], [], O)) (s2 := (39, [.ref 0, .int (nI i), .int (nI (i + 1)), .int (nI (v i))], [], O)) rfl (am_nm_ne (x := i) (m := 9) (by omega) (by decide) (by decide)) ?_
        refine am_goR 4 (s2 := (87, [.ref 0, .int (nI i), .int (nI (i + 1)), .int (nI (v i))], [.int (nI i)], (am_set O 0 7 (nI 0)))) rfl ?_
        exact am_goE _ _ rfl ⟨_, rfl, by rw [sp_jd, if_neg (by rw [hq]; decide)]; rfl, rfl, fun a9 b9 c1 c2 c3 => (am_set_o c3).trans (x2 a9 b9 c1 c2)⟩
    | true =>
      refine am_goQ 3 (s1 := (21, [.ref 0, .int ((-nI 9)), .int (nI i), u], [.int ((N 0 7)), .int (nI i)], N)) (s2 := (21, [.ref 0, .int ((-nI 9)), .int (nI i), u], [.int (nI rn), .int (nI i)], N)) rfl (by simp only [h7]) ?_
      refine am_bLE (rn) (i) (s1 := (81, [.ref 0, .int ((-nI 9)), .int (nI i), u], [], N)) (s2 := (24, [.ref 0, .int ((-nI 9)), .int (nI i), u], [], N)) rfl (by omega) (by omega) (fun c1 => absurd c1 (by omega)) (fun c1 => ?_)
      refine am_goR 4 (s2 := (30, [.ref 0, .int ((-nI 9)), .int (nI i), u], [.int (nI 16), .int (nI i)], N)) rfl ?_
      refine am_bLE (16) (i) (s1 := (81, [.ref 0, .int ((-nI 9)), .int (nI i), u], [], N)) (s2 := (33, [.ref 0, .int ((-nI 9)), .int (nI i), u], [], N)) rfl (by omega) (by omega) (fun c2 => absurd c2 (by omega)) (fun c2 => ?_)
      refine am_goR 6 (s2 := (44, [.ref 0, .int ((-nI 9)), .int (nI i), u], [.int (nI i), .ref 15], N)) rfl ?_
      refine am_goL2 (pc := 45) (ls := [.ref 0, .int ((-nI 9)), .int (nI i), u]) (r := []) (M := N) (a := 15) (n := 16) (i) (nI (v i)) rfl rfl (by omega) (by decide) (h15 _ (by omega)) ?_
      refine am_goQ 14 (s1 := (67, [.ref 0, .int ((-nI 9)), .int (nI i), .int (nI (v i))], [.int ((nI (v i) - nI (v i) / nI 100 * nI 100)), .int (((nI (v i) - nI (v i) / nI 1000 * nI 1000) / nI 100)), .int ((nI (v i) / nI 1000)), .ref 4], N)) (s2 := (67, [.ref 0, .int ((-nI 9)), .int (nI i), .int (nI (v i))], [.int (nI ((v i) % 100)), .int (nI (((v i) % 1000) / 100)), .int (nI ((v i) / 1000)), .ref 4], N)) rfl (by rw [pk_rem (a := (v i)) (d := 100) (by omega) (by omega) (by omega), pk_rem (a := (v i)) (d := 1000) (by omega) (by omega) (by omega)]; simp only [pk_div (a := ((v i) % 1000)) (d := 100) (by omega) (by omega) (by omega), pk_div (a := (v i)) (d := 1000) (by omega) (by omega) (by omega)]) ?_
      refine am_goC (s2 := (70, [.ref 0, .int ((-nI 9)), .int (nI i), .int (nI (v i))], [], N)) rfl (s_try hS hg (by omega) (i := ((v i) / 1000)) (b := (((v i) % 1000) / 100)) (j := ((v i) % 100)) (z := v i) (by omega) (by omega) (by omega) (by omega)) (fun x O hx => ?_)
      obtain ⟨x0, x1, x2⟩ := hx
      rw [hq] at x0
      subst x0
      have h7O : O 0 7 = nI rn := (x2 _ _ (by omega) (by omega)).trans h7
      have h15O : ∀ q, q < 16 → O 15 q = nI (v q) := fun q hq => (x2 _ _ (by omega) (by omega)).trans (h15 q hq)
      refine am_goQ 3 (s1 := (16, [.ref 0, .int ((-nI 9)), .int ((nI i + nI 1)), .int (nI (v i))], [], O)) (s2 := (16, [.ref 0, .int ((-nI 9)), .int (nI (i + 1)), .int (nI (v i))], [], O)) rfl (by simp only [nI_add]) ?_
      refine am_goW (ih (i + 1) O (sp_nx w (v i)) _ (by omega) hr h7O h15O x1 hg.nx (by show w.2.2.2.1 + 1 + m < 1000000; omega)) (fun r P hP => ?_)
      obtain ⟨y, rfl, rfl, y1, y2⟩ := hP
      exact ⟨_, rfl, by rw [sp_jd, if_pos hq], y1, fun a9 b9 c1 c2 c3 => (y2 a9 b9 c1 c2 c3).trans (x2 a9 b9 c1 c2)⟩

set_option maxHeartbeats 4000000 in
theorem r_judge_l {rn : Nat} {v : Nat → Nat} (hv : ∀ q, v q < 4000) {Q : Option Value → am_Mem → Prop} : ∀ (m i : Nat) (N : am_Mem) (w : sp_W), m + i = rn → rn ≤ 16 → (∀ q, q < 16 → N 28 q = nI (v q)) → sp_MW N w → sp_g2 w → w.2.2.2.1 + m < 1000000 → (∀ (O : am_Mem) (u : Nat) (w9 : sp_W), sp_MW O w9 → (∀ a9 b9, ¬ a9 = 20 → ¬ (a9 = 17 ∧ (b9 = 5 ∨ b9 = 6)) → O a9 b9 = N a9 b9) → am_go 153 (55, [.ref 17, .int (nI rn), .int (sp_oi (sp_jd v m i w)), .int (nI u)], [], O) Q) → am_go 153 (21, [.ref 17, .int (nI rn), .int (-nI 9), .int (nI i)], [], N) Q := by
  intro m
  induction m with
  | zero =>
    intro i N w hm hr h28 hS hg hs9 kk
    refine am_goR 2 (s2 := (23, [.ref 17, .int (nI rn), .int ((-nI 9)), .int (nI i)], [.int (nI rn), .int (nI i)], N)) rfl ?_
    refine am_bLE (rn) (i) (s1 := (55, [.ref 17, .int (nI rn), .int ((-nI 9)), .int (nI i)], [], N)) (s2 := (26, [.ref 17, .int (nI rn), .int ((-nI 9)), .int (nI i)], [], N)) rfl (by omega) (by omega) (fun c1 => ?_) (fun c1 => absurd c1 (by omega))
    exact kk N _ w hS (fun _ _ _ _ => rfl)
  | succ m ih =>
    intro i N w hm hr h28 hS hg hs9 kk
    have hvi := hv i
    cases hq : sp_wg w (v i) with
    | false =>
      refine am_goR 2 (s2 := (23, [.ref 17, .int (nI rn), .int ((-nI 9)), .int (nI i)], [.int (nI rn), .int (nI i)], N)) rfl ?_
      refine am_bLE (rn) (i) (s1 := (55, [.ref 17, .int (nI rn), .int ((-nI 9)), .int (nI i)], [], N)) (s2 := (26, [.ref 17, .int (nI rn), .int ((-nI 9)), .int (nI i)], [], N)) rfl (by omega) (by omega) (fun c1 => absurd c1 (by omega)) (fun c1 => ?_)
      refine am_goR 6 (s2 := (36, [.ref 17, .int (nI rn), .int ((-nI 9)), .int (nI i)], [.int (nI i), .ref 28, .ref 17], N)) rfl ?_
      refine am_goL2 (pc := 37) (ls := [.ref 17, .int (nI rn), .int ((-nI 9)), .int (nI i)]) (r := [.ref 17]) (M := N) (a := 28) (n := 16) (i) (nI (v i)) rfl rfl (by omega) (by decide) (h28 _ (by omega)) ?_
      refine am_goC (s2 := (40, [.ref 17, .int (nI rn), .int ((-nI 9)), .int (nI i)], [], N)) rfl (t_told1 hS hg (z := v i) (by omega)) (fun x O hx => ?_)
      obtain ⟨x0, x1, x2⟩ := hx
      rw [hq] at x0
      subst x0
      refine am_goR 4 (s2 := (46, [.ref 17, .int (nI rn), .int (nI i), .int (nI i)], [.ref 17], O)) rfl ?_
      refine am_goV (s2 := (49, [.ref 17, .int (nI rn), .int (nI i), .int (nI i)], [], O)) rfl (t_hour1 x1 hg (by omega)) (fun U hy => ?_)
      obtain ⟨y1, y2⟩ := hy
      have ff : ∀ a9 b9, ¬ a9 = 20 → ¬ (a9 = 17 ∧ (b9 = 5 ∨ b9 = 6)) → U a9 b9 = N a9 b9 := fun a9 b9 c1 c2 => (y2 a9 b9 c2).trans (x2 a9 b9 c1)
      refine am_goQ 2 (s1 := (21, [.ref 17, .int (nI rn), .int (nI i), .int ((nI i + nI 1))], [], U)) (s2 := (21, [.ref 17, .int (nI rn), .int (nI i), .int (nI (i + 1))], [], U)) rfl (by simp only [nI_add]) ?_
      refine am_goR 2 (s2 := (23, [.ref 17, .int (nI rn), .int (nI i), .int (nI (i + 1))], [.int (nI rn), .int (nI (i + 1))], U)) rfl ?_
      refine am_bLE (rn) ((i + 1)) (s1 := (55, [.ref 17, .int (nI rn), .int (nI i), .int (nI (i + 1))], [], U)) (s2 := (26, [.ref 17, .int (nI rn), .int (nI i), .int (nI (i + 1))], [], U)) rfl (by omega) (by omega) (fun c2 => ?_) (fun c2 => ?_)
      · have ej : sp_jd v (m + 1) i w = some i := by rw [sp_jd, if_neg (by rw [hq]; decide)]
        rw [ej] at kk
        exact kk U _ (sp_nx w (v i)) y1 ff
      · refine am_goR 1 (s2 := (27, [.ref 17, .int (nI rn), .int (nI i), .int (nI (i + 1))], [.int (nI i)], U)) rfl ?_
        refine am_bLE (0) (i) (s1 := (55, [.ref 17, .int (nI rn), .int (nI i), .int (nI (i + 1))], [], U)) (s2 := (30, [.ref 17, .int (nI rn), .int (nI i), .int (nI (i + 1))], [], U)) rfl (by omega) (by omega) (fun c3 => ?_) (fun c3 => absurd c3 (by omega))
        have ej : sp_jd v (m + 1) i w = some i := by rw [sp_jd, if_neg (by rw [hq]; decide)]
        rw [ej] at kk
        exact kk U _ (sp_nx w (v i)) y1 ff
    | true =>
      refine am_goR 2 (s2 := (23, [.ref 17, .int (nI rn), .int ((-nI 9)), .int (nI i)], [.int (nI rn), .int (nI i)], N)) rfl ?_
      refine am_bLE (rn) (i) (s1 := (55, [.ref 17, .int (nI rn), .int ((-nI 9)), .int (nI i)], [], N)) (s2 := (26, [.ref 17, .int (nI rn), .int ((-nI 9)), .int (nI i)], [], N)) rfl (by omega) (by omega) (fun c1 => absurd c1 (by omega)) (fun c1 => ?_)
      refine am_goR 6 (s2 := (36, [.ref 17, .int (nI rn), .int ((-nI 9)), .int (nI i)], [.int (nI i), .ref 28, .ref 17], N)) rfl ?_
      refine am_goL2 (pc := 37) (ls := [.ref 17, .int (nI rn), .int ((-nI 9)), .int (nI i)]) (r := [.ref 17]) (M := N) (a := 28) (n := 16) (i) (nI (v i)) rfl rfl (by omega) (by decide) (h28 _ (by omega)) ?_
      refine am_goC (s2 := (40, [.ref 17, .int (nI rn), .int ((-nI 9)), .int (nI i)], [], N)) rfl (t_told1 hS hg (z := v i) (by omega)) (fun x O hx => ?_)
      obtain ⟨x0, x1, x2⟩ := hx
      rw [hq] at x0
      subst x0
      refine am_goR 2 (s2 := (46, [.ref 17, .int (nI rn), .int ((-nI 9)), .int (nI i)], [.ref 17], O)) rfl ?_
      refine am_goV (s2 := (49, [.ref 17, .int (nI rn), .int ((-nI 9)), .int (nI i)], [], O)) rfl (t_hour1 x1 hg (by omega)) (fun U hy => ?_)
      obtain ⟨y1, y2⟩ := hy
      have ff : ∀ a9 b9, ¬ a9 = 20 → ¬ (a9 = 17 ∧ (b9 = 5 ∨ b9 = 6)) → U a9 b9 = N a9 b9 := fun a9 b9 c1 c2 => (y2 a9 b9 c2).trans (x2 a9 b9 c1)
      refine am_goQ 2 (s1 := (21, [.ref 17, .int (nI rn), .int ((-nI 9)), .int ((nI i + nI 1))], [], U)) (s2 := (21, [.ref 17, .int (nI rn), .int ((-nI 9)), .int (nI (i + 1))], [], U)) rfl (by simp only [nI_add]) ?_
      have ej : sp_jd v (m + 1) i w = sp_jd v m (i + 1) (sp_nx w (v i)) := by rw [sp_jd, if_pos hq]
      rw [ej] at kk
      exact ih (i + 1) U (sp_nx w (v i)) (by omega) hr (fun q hq => (ff _ _ (by omega) (by omega)).trans (h28 q hq)) y1 hg.nx (by show w.2.2.2.1 + 1 + m < 1000000; omega) (fun P u w9 z1 z2 => kk P u w9 z1 (fun a9 b9 c1 c2 => (z2 a9 b9 c1 c2).trans (ff a9 b9 c1 c2)))

theorem c_judge {M : am_Mem} {w : sp_W} {t : Bool} {w2 : sp_W} {n : Nat} {tx : Nat → Nat} {rn : Nat} {ro : Nat → Nat} {rf : Nat → Int32} (hC : sp_IC M (w, t, w2, n, tx, rn, ro, rf)) (hr16 : rn ≤ 16) (hv : ∀ q, ro q < 4000) (hg : sp_go w) : am_go 76 (am_ent 76 [.ref 0] M) (sp_cP M (sp_oi (sp_jd ro rn 0 w)) (w, t, w2, n, tx, 0, ro, rf)) := by
  have hC1 : sp_S 1 M w.1 w.2.1 w.2.2.1 w.2.2.2.1 w.2.2.2.2.1 w.2.2.2.2.2.1 w.2.2.2.2.2.2 := hC.1
  refine am_goR 4 (s2 := (8, [.ref 0, .null, .null, .null], [.ref 1, .ref 4], M)) rfl ?_
  refine am_goV (s2 := (11, [.ref 0, .null, .null, .null], [], M)) rfl (s_become_4_1 hC1) (fun K hK => ?_)
  obtain ⟨k1, k2⟩ := hK
  have kf : ∀ a9 b9, ¬ a9 = 4 → ¬ a9 = 5 → ¬ a9 = 6 → K a9 b9 = M a9 b9 := fun a9 b9 c1 c2 c3 => congrFun (k1 a9 c1 c2 c3) b9
  refine am_goR 4 (s2 := (16, [.ref 0, .int (-nI 9), .int (nI 0), .null], [], K)) rfl ?_
  have hs9 : w.2.2.2.1 ≤ 9999 := hg.2.1
  refine am_goW (c_judge_l hv rn 0 K w .null rfl hr16 ((kf _ _ (by omega) (by omega) (by omega)).trans hC.2.2.2.2.2.1) (fun q hq => (kf _ _ (by omega) (by omega) (by omega)).trans (hC.2.2.2.2.2.2.1 q hq)) k2 hg.g2 (by omega)) (fun r O hO => ?_)
  obtain ⟨x, rfl, rfl, o1, o2⟩ := hO
  have of : ∀ a9 b9, ¬ a9 = 4 → ¬ a9 = 5 → ¬ a9 = 6 → ¬ (a9 = 0 ∧ b9 = 7) → O a9 b9 = M a9 b9 := fun a9 b9 c1 c2 c3 c4 => (o2 a9 b9 c1 c3 c4).trans (kf a9 b9 c1 c2 c3)
  exact ⟨_, rfl, rfl, fun a9 b9 c9 => of a9 b9 (by omega) (by omega) (by omega) (by omega), hC.1.fr (fun a9 b9 c9 => of a9 b9 (by omega) (by omega) (by omega) (by omega)), (of _ _ (by omega) (by omega) (by omega) (by omega)).trans hC.2.1, fun z => (hC.2.2.1 z).fr (fun a9 b9 c9 => of a9 b9 (by omega) (by omega) (by omega) (by omega)), (of _ _ (by omega) (by omega) (by omega) (by omega)).trans hC.2.2.2.1, fun q hq => (of _ _ (by omega) (by omega) (by omega) (by omega)).trans (hC.2.2.2.2.1 q hq), o1, fun q hq => (of _ _ (by omega) (by omega) (by omega) (by omega)).trans (hC.2.2.2.2.2.2.1 q hq), fun q hq => (of _ _ (by omega) (by omega) (by omega) (by omega)).trans (hC.2.2.2.2.2.2.2 q hq)⟩
theorem r_judge {M : am_Mem} {w : sp_W} {t : Bool} {w2 : sp_W} {n : Nat} {tx : Nat → Nat} {rn : Nat} {ro : Nat → Nat} {rf : Nat → Int32} (hR : sp_IR M (w, t, w2, n, tx, rn, ro, rf)) (hr16 : rn ≤ 16) (hv : ∀ q, ro q < 4000) (hg : sp_go w) : am_go 153 (am_ent 153 [.ref 17] M) (sp_rP M (sp_oi (sp_jd ro rn 0 w)) (w, t, w2, n, tx, 0, ro, rf)) := by
  have h24 : M 17 24 = nI rn := hR.2.2.2.2.2.1
  refine am_goQ 6 (s1 := (10, [.ref 17, .int (M 17 24), .null, .null], [], am_set M 17 24 (nI 0))) (s2 := (10, [.ref 17, .int (nI rn), .null, .null], [], am_set M 17 24 (nI 0))) rfl (by rw [h24]) ?_
  have mf : ∀ a9 b9, ¬ (a9 = 17 ∧ b9 = 24) → am_set M 17 24 (nI 0) a9 b9 = M a9 b9 := fun a9 b9 c => am_set_o c
  have hM2 : sp_MW (am_set M 17 24 (nI 0)) w := hR.1.fr (fun a9 b9 c => mf a9 b9 (by omega))
  refine am_goR 3 (s2 := (13, [.ref 17, .int (nI rn), .null, .null], [.int (nI 1), .int (nI 1), .ref 17], am_set M 17 24 (nI 0))) rfl ?_
  refine am_goV (s2 := (16, [.ref 17, .int (nI rn), .null, .null], [], am_set M 17 24 (nI 0))) rfl (t_keepAll1 hM2) (fun K hK => ?_)
  obtain ⟨k1, k2, k3, k4⟩ := hK
  have k4w : sp_KW K 1 w := k4
  refine am_goR 4 (s2 := (21, [.ref 17, .int (nI rn), .int (-nI 9), .int (nI 0)], [], K)) rfl ?_
  have hs9 : w.2.2.2.1 ≤ 9999 := hg.2.1
  refine r_judge_l hv rn 0 K w rfl hr16 (fun q hq => (k1 _ _ (by omega) (by omega)).trans ((mf _ _ (by omega)).trans (hR.2.2.2.2.2.2.1 q hq))) k3 hg.g2 (by omega) (fun O u w9 o1 o2 => ?_)
  refine am_goR 3 (s2 := (58, [.ref 17, .int (nI rn), .int (sp_oi (sp_jd ro rn 0 w)), .int (nI u)], [.int (nI 0), .int (nI 1), .ref 17], O)) rfl ?_
  have k4o : sp_KW O 1 w := k4w.fr (fun b9 => o2 25 b9 (by omega) (by omega))
  refine am_goV (s2 := (61, [.ref 17, .int (nI rn), .int (sp_oi (sp_jd ro rn 0 w)), .int (nI u)], [], O)) rfl (t_putAll1 k4o o1.2.1 o1.1 o1.2.2.1 o1.2.2.2.1 o1.2.2.2.2.1) (fun P hP => ?_)
  obtain ⟨p1, p2⟩ := hP
  dsimp only at p1
  have pf : ∀ a9 b9, ¬ (a9 = 19 ∨ a9 = 20 ∨ (a9 = 25 ∧ 20 ≤ b9) ∨ (a9 = 17 ∧ (b9 = 17 ∨ b9 = 18 ∨ b9 = 24 ∨ (3 ≤ b9 ∧ b9 ≤ 7)))) → P a9 b9 = M a9 b9 := fun a9 b9 c => by
    rw [p1 a9 b9 (by omega) (by omega) (by omega), o2 a9 b9 (by omega) (by omega)]
    by_cases e : a9 = 25
    · subst e; exact (k2 b9 (by omega)).trans (mf 25 b9 (by omega))
    · exact (k1 a9 b9 e (by omega)).trans (mf a9 b9 (by omega))
  have p24 : P 17 24 = nI 0 := (p1 _ _ (by omega) (by omega) (by omega)).trans ((o2 _ _ (by omega) (by omega)).trans ((k1 _ _ (by omega) (by omega)).trans rfl))
  refine am_goR 1 (s2 := (62, [.ref 17, .int (nI rn), .int (sp_oi (sp_jd ro rn 0 w)), .int (nI u)], [.int (sp_oi (sp_jd ro rn 0 w))], P)) rfl ?_
  exact am_goE _ _ rfl ⟨_, rfl, rfl, fun a9 b9 c9 => pf a9 b9 (by omega), p2, (pf _ _ (by omega)).trans hR.2.1, fun z => (hR.2.2.1 z).fr2 (fun b9 c9 => pf 25 b9 (by omega)), (pf _ _ (by omega)).trans hR.2.2.2.1, fun q hq => (pf _ _ (by omega)).trans (hR.2.2.2.2.1 q hq), p24, fun q hq => (pf _ _ (by omega)).trans (hR.2.2.2.2.2.2.1 q hq), fun q hq => (pf _ _ (by omega)).trans (hR.2.2.2.2.2.2.2 q hq)⟩
theorem pp_judge {M : am_Mem} (hI : sp_Inv M) : sp_PP 76 153 [] M := by
  obtain ⟨⟨w, t, w2, n, tx, rn, ro, rf⟩, hC, hR, hG⟩ := hI
  have hg : sp_go w := hG.1
  have hr16 : rn ≤ 16 := hG.2.2.2.2.1
  have hv : ∀ q, ro q < 4000 := fun q => Nat.lt_trans (hG.2.2.2.2.2 q) (by decide)
  exact sp_comb hR (c_judge hC hr16 hv hg) (fun N hN => r_judge hN hr16 hv hg) ⟨hg, hG.2.1, hG.2.2.1, hG.2.2.2.1, Nat.zero_le _, hG.2.2.2.2.2⟩

