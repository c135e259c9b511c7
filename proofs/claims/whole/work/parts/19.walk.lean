/-! walks: the search of the class, whole -/
set_option maxHeartbeats 4000000 in
theorem s_lesser_nn {M : am_Mem} {x y : Nat} (hx : x < 2147483648) (hy : y < 2147483648) : am_go 53 (am_ent 53 [.int ((-nI 9)), .int ((-nI 9))] M) (am_is (sp_oi (sp_le none none)) M) := by
  refine am_goR 8 (s2 := (23, [.int ((-nI 9)), .int ((-nI 9))], [.int ((-nI 9))], M)) rfl ?_
  exact am_ends ((-nI 9)) _ rfl rfl rfl

set_option maxHeartbeats 4000000 in
theorem s_lesser_ns {M : am_Mem} {x y : Nat} (hx : x < 2147483648) (hy : y < 2147483648) : am_go 53 (am_ent 53 [.int ((-nI 9)), .int (nI y)] M) (am_is (sp_oi (sp_le none (some y))) M) := by
  refine am_goR 8 (s2 := (23, [.int ((-nI 9)), .int (nI y)], [.int (nI y)], M)) rfl ?_
  exact am_ends (nI y) _ rfl rfl rfl

set_option maxHeartbeats 4000000 in
theorem s_lesser_sn {M : am_Mem} {x y : Nat} (hx : x < 2147483648) (hy : y < 2147483648) : am_go 53 (am_ent 53 [.int (nI x), .int ((-nI 9))] M) (am_is (sp_oi (sp_le (some x) none)) M) := by
  refine am_goR 2 (s2 := (3, [.int (nI x), .int ((-nI 9))], [.int ((-nI 9)), .int (nI x)], M)) rfl ?_
  refine am_bF (s1 := (12, [.int (nI x), .int ((-nI 9))], [], M)) (s2 := (6, [.int (nI x), .int ((-nI 9))], [], M)) rfl (am_nm_ne (x := x) (m := 9) (by omega) (by decide) (by decide)) ?_
  refine am_goR 5 (s2 := (15, [.int (nI x), .int ((-nI 9))], [.int ((-nI 9)), .int (nI x)], M)) rfl ?_
  refine am_bTn (s1 := (22, [.int (nI x), .int ((-nI 9))], [], M)) (s2 := (18, [.int (nI x), .int ((-nI 9))], [], M)) rfl (am_nm_ne (x := x) (m := 9) (by omega) (by decide) (by decide)) ?_
  refine am_goR 1 (s2 := (23, [.int (nI x), .int ((-nI 9))], [.int (nI x)], M)) rfl ?_
  exact am_ends (nI x) _ rfl rfl rfl

set_option maxHeartbeats 4000000 in
theorem s_lesser_ss {M : am_Mem} {x y : Nat} (hx : x < 2147483648) (hy : y < 2147483648) : am_go 53 (am_ent 53 [.int (nI x), .int (nI y)] M) (am_is (sp_oi (sp_le (some x) (some y))) M) := by
  refine am_goR 2 (s2 := (3, [.int (nI x), .int (nI y)], [.int ((-nI 9)), .int (nI x)], M)) rfl ?_
  refine am_bF (s1 := (12, [.int (nI x), .int (nI y)], [], M)) (s2 := (6, [.int (nI x), .int (nI y)], [], M)) rfl (am_nm_ne (x := x) (m := 9) (by omega) (by decide) (by decide)) ?_
  refine am_goR 2 (s2 := (9, [.int (nI x), .int (nI y)], [.int ((-nI 9)), .int (nI y)], M)) rfl ?_
  refine am_bTn (s1 := (24, [.int (nI x), .int (nI y)], [], M)) (s2 := (12, [.int (nI x), .int (nI y)], [], M)) rfl (am_nm_ne (x := y) (m := 9) (by omega) (by decide) (by decide)) ?_
  refine am_goQ 3 (s1 := (29, [.int (nI x), .int (nI y)], [.int ((am_min (nI x) (nI y)))], M)) (s2 := (29, [.int (nI x), .int (nI y)], [.int (nI (if y < x then y else x))], M)) rfl (by simp only [am_minN (x := x) (y := y) (by omega) (by omega)]) ?_
  exact am_ends (nI (if y < x then y else x)) _ rfl rfl rfl

theorem s_lesser {M : am_Mem} {x y : Option Nat} (hx : ∀ e, x = some e → e < 2147483648) (hy : ∀ e, y = some e → e < 2147483648) : am_go 53 (am_ent 53 [.int (sp_oi x), .int (sp_oi y)] M) (am_is (sp_oi (sp_le x y)) M) := by
  cases x with
  | none =>
    cases y with
    | none => exact s_lesser_nn (x := 0) (y := 0) (by decide) (by decide)
    | some y => exact s_lesser_ns (x := 0) (by decide) (hy y rfl)
  | some x =>
    cases y with
    | none => exact s_lesser_sn (y := 0) (hx x rfl) (by decide)
    | some y => exact s_lesser_ss (hx x rfl) (hy y rfl)
theorem sp_le_lt {x y : Option Nat} {b : Nat} (hx : ∀ e, x = some e → e < b) (hy : ∀ e, y = some e → e < b) : ∀ e, sp_le x y = some e → e < b := by
  intro e he
  cases x with
  | none => exact hy e he
  | some x =>
    cases y with
    | none => exact hx e he
    | some y =>
      have h1 := hx x rfl
      have h2 := hy y rfl
      unfold sp_le at he
      cases he
      split <;> omega
theorem sp_fw_lt {s : Nat → Option Nat} {b : Nat} (hs : ∀ p e, s p = some e → e < b) (j : Nat) : ∀ p e, sp_fw s j p = some e → e < b := by
  intro p
  induction p with
  | zero => intro e he; cases he
  | succ p ih => exact sp_le_lt (sp_le_lt ih (hs _)) (hs _)

set_option maxHeartbeats 4000000 in
theorem s_fewestTo_loop {M : am_Mem} {s : Nat → Option Nat} (hR : ∀ p, p < 144 → M 11 p = sp_oi (s p)) (hs : ∀ p e, s p = some e → e < 2147483648) {j : Nat} (hj : j < 12) : ∀ n p : Nat, n + p = 13 → p ≤ 12 → am_go 52 (5, [.ref 10, .int (nI j), .int (sp_oi (sp_fw s j p)), .int (nI p)], [], M) (am_is (sp_oi (sp_fw s j 12)) M) := by
  intro n
  induction n with
  | zero => intro p h1 h2; omega
  | succ n ih =>
    intro p h1 h2
    refine am_goR 2 (s2 := (8, [.ref 10, .int (nI j), .int ((sp_oi (sp_fw s j p))), .int (nI p)], [.int (nI 12), .int (nI p)], M)) rfl ?_
    refine am_bLE (12) (p) (s1 := (39, [.ref 10, .int (nI j), .int ((sp_oi (sp_fw s j p))), .int (nI p)], [], M)) (s2 := (11, [.ref 10, .int (nI j), .int ((sp_oi (sp_fw s j p))), .int (nI p)], [], M)) rfl (by omega) (by omega) (fun c1 => ?_) (fun c1 => ?_)
    · refine am_goR 1 (s2 := (40, [.ref 10, .int (nI j), .int ((sp_oi (sp_fw s j p))), .int (nI p)], [.int ((sp_oi (sp_fw s j p)))], M)) rfl ?_
      exact am_ends ((sp_oi (sp_fw s j p))) _ rfl (by rw [show p = 12 by omega]) rfl
    · refine am_goR 4 (s2 := (15, [.ref 10, .int (nI j), .int ((sp_oi (sp_fw s j p))), .int (nI p)], [.int (nI p), .int (nI j), .ref 10, .int ((sp_oi (sp_fw s j p)))], M)) rfl ?_
      refine am_goX (v := (sp_oi (s (12 * j + p)))) (M2 := M) (s2 := (18, [.ref 10, .int (nI j), .int ((sp_oi (sp_fw s j p))), .int (nI p)], [.int ((sp_oi (sp_fw s j p)))], M)) rfl (s_stepsTo hR (x := j) (y := p) (by omega) (by omega)) ?_
      refine am_goX (v := (sp_oi (sp_le (sp_fw s j p) (s (12 * j + p))))) (M2 := M) (s2 := (21, [.ref 10, .int (nI j), .int ((sp_oi (sp_fw s j p))), .int (nI p)], [], M)) rfl (s_lesser (x := (sp_fw s j p)) (y := (s (12 * j + p))) (sp_fw_lt hs j p) (hs _)) ?_
      refine am_goR 5 (s2 := (26, [.ref 10, .int (nI j), .int ((sp_oi (sp_le (sp_fw s j p) (s (12 * j + p))))), .int (nI p)], [.int (nI j), .int (nI p), .ref 10, .int ((sp_oi (sp_le (sp_fw s j p) (s (12 * j + p)))))], M)) rfl ?_
      refine am_goX (v := (sp_oi (s (12 * p + j)))) (M2 := M) (s2 := (29, [.ref 10, .int (nI j), .int ((sp_oi (sp_le (sp_fw s j p) (s (12 * j + p))))), .int (nI p)], [.int ((sp_oi (sp_le (sp_fw s j p) (s (12 * j + p)))))], M)) rfl (s_stepsTo hR (x := p) (y := j) (by omega) (by omega)) ?_
      refine am_goX (v := (sp_oi (sp_le (sp_le (sp_fw s j p) (s (12 * j + p))) (s (12 * p + j))))) (M2 := M) (s2 := (32, [.ref 10, .int (nI j), .int ((sp_oi (sp_le (sp_fw s j p) (s (12 * j + p))))), .int (nI p)], [], M)) rfl (s_lesser (x := (sp_le (sp_fw s j p) (s (12 * j + p)))) (y := (s (12 * p + j))) (sp_le_lt (sp_fw_lt hs j p) (hs _)) (hs _)) ?_
      refine am_goQ 3 (s1 := (5, [.ref 10, .int (nI j), .int ((sp_oi (sp_le (sp_le (sp_fw s j p) (s (12 * j + p))) (s (12 * p + j))))), .int ((nI p + nI 1))], [], M)) (s2 := (5, [.ref 10, .int (nI j), .int ((sp_oi (sp_le (sp_le (sp_fw s j p) (s (12 * j + p))) (s (12 * p + j))))), .int (nI (p + 1))], [], M)) rfl (by simp only [nI_add]) ?_
      exact ih (p + 1) (by omega) (by omega)
theorem s_fewestTo {M : am_Mem} {s : Nat → Option Nat} (hR : ∀ p, p < 144 → M 11 p = sp_oi (s p)) (hs : ∀ p e, s p = some e → e < 2147483648) {j : Nat} (hj : j < 12) : am_go 52 (am_ent 52 [.ref 10, .int (nI j)] M) (am_is (sp_oi (sp_fw s j 12)) M) := by
  refine am_goR 4 (s2 := (5, [.ref 10, .int (nI j), .int (-nI 9), .int (nI 0)], [], M)) rfl ?_
  exact s_fewestTo_loop hR hs hj 13 0 (by omega) (by omega)

set_option maxHeartbeats 4000000 in
theorem s_walk_clear {i : Nat} {v4 : Value} {Q : Option Value → am_Mem → Prop} : ∀ (c p : Nat) (M : am_Mem), c + p = 145 → p ≤ 144 → (∀ q, q < p → M 11 q = -nI 9) → (∀ N, sp_fB 11 12 10 2 M N → (∀ q, q < 144 → N 11 q = -nI 9) → am_go 48 (25, [.ref 10, .ref 1, .int (nI i), .int (nI 144), v4], [], N) Q) → am_go 48 (2, [.ref 10, .ref 1, .int (nI i), .int (nI p), v4], [], M) Q := by
  intro c
  induction c with
  | zero => intro p M h1 h2; omega
  | succ c ih =>
    intro p M h1 h2 hz kk
    refine am_goR 4 (s2 := (8, [.ref 10, .ref 1, .int (nI i), .int (nI p), v4], [.int (nI 144), .int (nI p)], M)) rfl ?_
    refine am_bLE (144) (p) (s1 := (25, [.ref 10, .ref 1, .int (nI i), .int (nI p), v4], [], M)) (s2 := (11, [.ref 10, .ref 1, .int (nI i), .int (nI p), v4], [], M)) rfl (by omega) (by omega) (fun c1 => ?_) (fun c1 => ?_)
    · have ep : p = 144 := by omega
      subst ep
      exact kk M sp_fB.rf hz
    · refine am_goR 4 (s2 := (18, [.ref 10, .ref 1, .int (nI i), .int (nI p), v4], [.int ((-nI 9)), .int (nI p), .ref 11], M)) rfl ?_
      refine am_goS (pc := 19) (ls := [.ref 10, .ref 1, .int (nI i), .int (nI p), v4]) (r := []) (M := M) (a := 11) (n := 144) (v := (-nI 9)) (p) rfl rfl (by omega) (by decide) ?_
      refine am_goQ 2 (s1 := (2, [.ref 10, .ref 1, .int (nI i), .int ((nI p + nI 1)), v4], [], (am_set M 11 p ((-nI 9))))) (s2 := (2, [.ref 10, .ref 1, .int (nI i), .int (nI (p + 1)), v4], [], (am_set M 11 p ((-nI 9))))) rfl (by simp only [nI_add]) ?_
      refine ih (p + 1) (am_set M 11 p ((-nI 9))) (by omega) (by omega) (fun q hq => ?_) (fun N hF h9 => kk N (sp_fB.tr (fun x y a b c => ?_) hF) h9)
      · simp only [am_set]
        by_cases e : q = p
        · rw [if_pos ⟨trivial, e⟩]
        · rw [if_neg (fun z => e z.2)]; exact hz q (by omega)
      · simp only [am_set, a, false_and, if_false]
set_option maxHeartbeats 4000000 in
theorem s_walk_loop {a f hr hs lt : Nat} {k h : Nat → Nat} (hO : sp_ok a f hr lt k h) {i ft p0 : Nat} (hi : i < a) (hft : ft < 4096) : ∀ (c t : Nat) (M : am_Mem) (s : Nat → Option Nat) (u : Nat → Nat) (n : Nat), c + t = 145 → t ≤ n → sp_S 1 M a f hr hs lt k h → sp_R 11 12 10 2 M s u n → sp_BI (sp_ed ft (sp_rc (k i)) (decide (k i = 4))) p0 s u n → sp_dn (sp_ed ft (sp_rc (k i)) (decide (k i = 4))) s u t → (t < n → ∀ d, s (u t) = some d → ∀ b e, b < n → s (u b) = some e → e ≤ d + 1) → am_go 48 (63, [.ref 10, .ref 1, .int (nI i), .int (nI ft), .int (nI t)], [], M) (am_rv (fun N => sp_fB 11 12 10 2 M N ∧ ∃ (s : Nat → Option Nat) (u : Nat → Nat) (n : Nat), sp_R 11 12 10 2 N s u n ∧ sp_BI (sp_ed ft (sp_rc (k i)) (decide (k i = 4))) p0 s u n ∧ sp_DI (sp_ed ft (sp_rc (k i)) (decide (k i = 4))) p0 s)) := by
  intro c
  induction c with
  | zero => intro t M s u n h1 h2 hS hR hB; have := hB.le; omega
  | succ c ih =>
    intro t M s u n h1 h2 hS hR hB hdn h3
    have hRn := hR.2.2
    have hn := hB.le
    obtain ⟨oA, oF, oHr, oLt, oK, oH⟩ := id hO
    refine am_goQ 3 (s1 := (69, [.ref 10, .ref 1, .int (nI i), .int (nI ft), .int (nI t)], [.int ((M 10 2)), .int (nI t)], M)) (s2 := (69, [.ref 10, .ref 1, .int (nI i), .int (nI ft), .int (nI t)], [.int (nI n), .int (nI t)], M)) rfl (by simp only [hRn]) ?_
    refine am_bLE (n) (t) (s1 := (102, [.ref 10, .ref 1, .int (nI i), .int (nI ft), .int (nI t)], [], M)) (s2 := (72, [.ref 10, .ref 1, .int (nI i), .int (nI ft), .int (nI t)], [], M)) rfl (by omega) (by omega) (fun c1 => ?_) (fun c1 => ?_)
    · have ep : t = n := by omega
      subst ep
      exact am_goE none _ rfl ⟨rfl, sp_fB.rf, s, u, t, hR, hB, sp_dn.end hB hdn⟩
    · refine am_goR 4 (s2 := (79, [.ref 10, .ref 1, .int (nI i), .int (nI ft), .int (nI t)], [.int (nI 144), .int (nI t)], M)) rfl ?_
      refine am_bLE (144) (t) (s1 := (102, [.ref 10, .ref 1, .int (nI i), .int (nI ft), .int (nI t)], [], M)) (s2 := (82, [.ref 10, .ref 1, .int (nI i), .int (nI ft), .int (nI t)], [], M)) rfl (by omega) (by omega) (fun c2 => absurd c2 (by omega)) (fun c2 => ?_)
      refine am_goR 7 (s2 := (92, [.ref 10, .ref 1, .int (nI i), .int (nI ft), .int (nI t)], [.int (nI t), .ref 12, .int (nI ft), .int (nI i), .ref 1, .ref 10], M)) rfl ?_
      refine am_goL2 (pc := 93) (ls := [.ref 10, .ref 1, .int (nI i), .int (nI ft), .int (nI t)]) (r := [.int (nI ft), .int (nI i), .ref 1, .ref 10]) (M := M) (a := 12) (n := 144) (t) (nI (u t)) rfl rfl (by omega) (by decide) (hR.2.1 _ (by omega)) ?_
      obtain ⟨-, d, hd, -⟩ := hB.2.1 t (by omega)
      refine am_goV (s2 := (96, [.ref 10, .ref 1, .int (nI i), .int (nI ft), .int (nI t)], [], M)) rfl (s_goOn (d := d) hO hi hft (hB.2.1 t (by omega)).1 (by have := hB.small hd; omega) hS hR (sp_GS.of hB hd (h3 (by omega) d hd)) (by omega) rfl hd) (fun N9 hC => ?_)
      obtain ⟨s9, u9, n9, q1, q2, q3, q4, q5⟩ := hC
      have hS9 := sp_S.fB hS q1
      have ht9 := q4.1
      refine am_goQ 2 (s1 := (63, [.ref 10, .ref 1, .int (nI i), .int (nI ft), .int ((nI t + nI 1))], [], N9)) (s2 := (63, [.ref 10, .ref 1, .int (nI i), .int (nI ft), .int (nI (t + 1))], [], N9)) rfl (by simp only [nI_add]) ?_
      refine am_goW (ih (t + 1) N9 s9 u9 n9 (by omega) (by omega) hS9 q2 q3.1 (sp_dn.next hdn hB (by omega) hd q4 q5) (fun h9 d2 hd2 => (sp_GS.next q3 h9 (by rw [q4.2.1 t (by omega)]; exact q4.2.2 _ _ hd) hd2).2)) (fun r N hr => ?_)
      obtain ⟨rfl, r1, r2⟩ := hr
      exact ⟨rfl, sp_fB.tr q1 r1, r2⟩
set_option maxHeartbeats 4000000 in
theorem s_walk {M : am_Mem} {a f hr hs lt : Nat} {k h : Nat → Nat} (hS : sp_S 1 M a f hr hs lt k h) (hO : sp_ok a f hr lt k h) {i : Nat} (hi : i < a) : am_go 48 (am_ent 48 [.ref 10, .ref 1, .int (nI i)] M) (am_rv (fun N => sp_fB 11 12 10 2 M N ∧ ∃ (s : Nat → Option Nat) (u : Nat → Nat) (n : Nat), sp_R 11 12 10 2 N s u n ∧ sp_BI (sp_ed (f &&& (sp_hb h i (2 * a) ^^^ 4294967295)) (sp_rc (k i)) (decide (k i = 4))) (12 * h (2 * i) + h (2 * i + 1)) s u n ∧ sp_DI (sp_ed (f &&& (sp_hb h i (2 * a) ^^^ 4294967295)) (sp_rc (k i)) (decide (k i = 4))) (12 * h (2 * i) + h (2 * i + 1)) s)) := by
  obtain ⟨oA, oF, oHr, oLt, oK, oH⟩ := id hO
  have oH0 := oH (2 * i)
  have oH1 := oH (2 * i + 1)
  have oKi := oK i
  refine am_goR 2 (s2 := (2, [.ref 10, .ref 1, .int (nI i), .int (nI 0), .null], [], M)) rfl ?_
  refine s_walk_clear 145 0 M (by omega) (by omega) (fun q hq => absurd hq (Nat.not_lt_zero q)) (fun N hF h9 => ?_)
  refine am_goR 7 (s2 := (34, [.ref 10, .ref 1, .int (nI i), .int (nI 144), .null], [.int (nI 0), .int (nI i), .ref 1, .ref 10], (am_set N 10 2 (nI 0)))) rfl ?_
  refine am_goX (v := nI (h (2 * i))) (M2 := (am_set N 10 2 (nI 0))) (s2 := (37, [.ref 10, .ref 1, .int (nI i), .int (nI 144), .null], [.ref 10], (am_set N 10 2 (nI 0)))) rfl (s_handOn_1 (sp_S.fB (sp_S.fB hS hF) (fun x y b1 b2 b3 => by simp only [am_set, b3, if_false])) hO (i := i) (b := 0) (by omega) (by omega)) ?_
  refine am_goR 3 (s2 := (40, [.ref 10, .ref 1, .int (nI i), .int (nI 144), .null], [.int (nI 1), .int (nI i), .ref 1, .int (nI (h (2 * i))), .ref 10], (am_set N 10 2 (nI 0)))) rfl ?_
  refine am_goX (v := nI (h ((2 * i) + 1))) (M2 := (am_set N 10 2 (nI 0))) (s2 := (43, [.ref 10, .ref 1, .int (nI i), .int (nI 144), .null], [.int (nI (h (2 * i))), .ref 10], (am_set N 10 2 (nI 0)))) rfl (s_handOn_1 (sp_S.fB (sp_S.fB hS hF) (fun x y b1 b2 b3 => by simp only [am_set, b3, if_false])) hO (i := i) (b := 1) (by omega) (by omega)) ?_
  refine am_goR 1 (s2 := (44, [.ref 10, .ref 1, .int (nI i), .int (nI 144), .null], [.int (nI 0), .int (nI (h ((2 * i) + 1))), .int (nI (h (2 * i))), .ref 10], (am_set N 10 2 (nI 0)))) rfl ?_
  refine am_goV (s2 := (47, [.ref 10, .ref 1, .int (nI i), .int (nI 144), .null], [], (am_set N 10 2 (nI 0)))) rfl (s_comeTo (M := (am_set N 10 2 (nI 0))) (s := fun _ => none) (u := fun _ => (12 * h (2 * i) + h (2 * i + 1))) (n := 0) ⟨fun p hp => h9 p hp, fun q hq => absurd hq (Nat.not_lt_zero q), rfl⟩ (by omega) (by omega) (fun _ => by decide) (fun e z => by cases z)) (fun N2 hC => ?_)
  obtain ⟨hR2, hF2⟩ := hC
  have hS2 := sp_S.fB (sp_S.fB hS hF) (sp_fB.tr (fun x y b1 b2 b3 => by simp only [am_set, b3, if_false]) hF2)
  refine am_goQ 4 (s1 := (53, [.ref 10, .ref 1, .int (nI i), .int (nI 144), .null], [.int (nI i), .ref 1, .int ((N2 1 0))], N2)) (s2 := (53, [.ref 10, .ref 1, .int (nI i), .int (nI 144), .null], [.int (nI i), .ref 1, .int (nI f)], N2)) rfl (by simp only [hS2.1]) ?_
  refine am_goX (v := nI (sp_hb h i (2 * a))) (M2 := N2) (s2 := (56, [.ref 10, .ref 1, .int (nI i), .int (nI 144), .null], [.int (nI f)], N2)) rfl (s_heldButw_1 hS2 hO (w := i) (by omega)) ?_
  refine am_goQ 6 (s1 := (63, [.ref 10, .ref 1, .int (nI i), .int ((nI f &&& (nI (sp_hb h i (2 * a)) ^^^ (-nI 1)))), .int (nI 0)], [], N2)) (s2 := (63, [.ref 10, .ref 1, .int (nI i), .int (nI (f &&& ((sp_hb h i (2 * a)) ^^^ 4294967295))), .int (nI 0)], [], N2)) rfl (by simp only [am_xm, am_and]) ?_
  rw [show sp_ps (fun _ => none) (12 * h (2 * i) + h (2 * i + 1)) 0 = sp_s0 (12 * h (2 * i) + h (2 * i + 1)) from by funext p; simp [sp_ps, sp_s0], show sp_pu (fun _ => none) (fun _ => (12 * h (2 * i) + h (2 * i + 1))) 0 (12 * h (2 * i) + h (2 * i + 1)) = fun _ => (12 * h (2 * i) + h (2 * i + 1)) from by funext q; simp [sp_pu], show sp_pn (fun _ => none) 0 (12 * h (2 * i) + h (2 * i + 1)) = 1 from by simp [sp_pn]] at hR2
  refine am_goW (s_walk_loop (p0 := (12 * h (2 * i) + h (2 * i + 1))) hO hi (sp_and12 oF) 145 0 N2 _ _ 1 (by omega) (by omega) hS2 hR2 (sp_BI0 _ (by omega)) (fun b hb => absurd hb (Nat.not_lt_zero b)) (fun _ d hd b e _ he => ?_)) (fun r O hr => ?_)
  · unfold sp_s0 at he
    split at he
    · cases he; exact Nat.zero_le _
    · cases he
  · obtain ⟨rfl, r1, r2⟩ := hr
    exact ⟨rfl, sp_fB.tr (sp_fB.tr hF (sp_fB.tr (fun x y b1 b2 b3 => by simp only [am_set, b3, if_false]) hF2)) r1, r2⟩

