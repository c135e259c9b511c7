/-! walks: the search of the class -/
set_option maxHeartbeats 4000000 in
theorem s_comeTo_none {M : am_Mem} {s : Nat → Option Nat} {u : Nat → Nat} {n x y : Nat} (hR : sp_R 11 12 10 2 M s u n) (hx : x < 12) (hy : y < 12) {v : Nat} (hn : n < 144) (hs : s (12 * x + y) = none) : am_go 50 (am_ent 50 [.ref 10, .int (nI x), .int (nI y), .int (nI v)] M) (am_rv (fun N => sp_R 11 12 10 2 N (sp_ps s (12 * x + y) v) (sp_pu s u n (12 * x + y)) (sp_pn s n (12 * x + y)) ∧ sp_fB 11 12 10 2 M N)) := by
  have hRn := hR.2.2
  refine am_goQ 7 (s1 := (10, [.ref 10, .int (nI x), .int (nI y), .int (nI v), .int (((nI 12 * nI x) + nI y))], [.int (((nI 12 * nI x) + nI y))], M)) (s2 := (10, [.ref 10, .int (nI x), .int (nI y), .int (nI v), .int (nI ((12 * x) + y))], [.int (nI ((12 * x) + y))], M)) rfl (by simp only [pk_mul, nI_add]) ?_
  refine am_bLT (((12 * x) + y)) (0) (s1 := (83, [.ref 10, .int (nI x), .int (nI y), .int (nI v), .int (nI ((12 * x) + y))], [], M)) (s2 := (13, [.ref 10, .int (nI x), .int (nI y), .int (nI v), .int (nI ((12 * x) + y))], [], M)) rfl (by omega) (by omega) (fun c1 => absurd c1 (by omega)) (fun c1 => ?_)
  refine am_goR 4 (s2 := (20, [.ref 10, .int (nI x), .int (nI y), .int (nI v), .int (nI ((12 * x) + y))], [.int (nI 144), .int (nI ((12 * x) + y))], M)) rfl ?_
  refine am_bLE (144) (((12 * x) + y)) (s1 := (83, [.ref 10, .int (nI x), .int (nI y), .int (nI v), .int (nI ((12 * x) + y))], [], M)) (s2 := (23, [.ref 10, .int (nI x), .int (nI y), .int (nI v), .int (nI ((12 * x) + y))], [], M)) rfl (by omega) (by omega) (fun c2 => absurd c2 (by omega)) (fun c2 => ?_)
  refine am_goR 3 (s2 := (29, [.ref 10, .int (nI x), .int (nI y), .int (nI v), .int (nI ((12 * x) + y))], [.int (nI ((12 * x) + y)), .ref 11], M)) rfl ?_
  refine am_goL2 (pc := 30) (ls := [.ref 10, .int (nI x), .int (nI y), .int (nI v), .int (nI ((12 * x) + y))]) (r := []) (M := M) (a := 11) (n := 144) (((12 * x) + y)) ((-nI 9)) rfl rfl (by omega) (by decide) ((hR.1 _ (by omega)).trans (by rw [hs]; rfl)) ?_
  refine am_goQ 4 (s1 := (39, [.ref 10, .int (nI x), .int (nI y), .int (nI v), .int (nI ((12 * x) + y))], [.int ((M 10 2))], M)) (s2 := (39, [.ref 10, .int (nI x), .int (nI y), .int (nI v), .int (nI ((12 * x) + y))], [.int (nI n)], M)) rfl (by simp only [hRn]) ?_
  refine am_bLT (n) (0) (s1 := (83, [.ref 10, .int (nI x), .int (nI y), .int (nI v), .int (nI ((12 * x) + y))], [], M)) (s2 := (42, [.ref 10, .int (nI x), .int (nI y), .int (nI v), .int (nI ((12 * x) + y))], [], M)) rfl (by omega) (by omega) (fun c3 => absurd c3 (by omega)) (fun c3 => ?_)
  refine am_goQ 5 (s1 := (51, [.ref 10, .int (nI x), .int (nI y), .int (nI v), .int (nI ((12 * x) + y))], [.int (nI 144), .int ((M 10 2))], M)) (s2 := (51, [.ref 10, .int (nI x), .int (nI y), .int (nI v), .int (nI ((12 * x) + y))], [.int (nI 144), .int (nI n)], M)) rfl (by simp only [hRn]) ?_
  refine am_bLE (144) (n) (s1 := (83, [.ref 10, .int (nI x), .int (nI y), .int (nI v), .int (nI ((12 * x) + y))], [], M)) (s2 := (54, [.ref 10, .int (nI x), .int (nI y), .int (nI v), .int (nI ((12 * x) + y))], [], M)) rfl (by omega) (by omega) (fun c4 => absurd c4 (by omega)) (fun c4 => ?_)
  refine am_goR 4 (s2 := (61, [.ref 10, .int (nI x), .int (nI y), .int (nI v), .int (nI ((12 * x) + y))], [.int (nI v), .int (nI ((12 * x) + y)), .ref 11], M)) rfl ?_
  refine am_goS (pc := 62) (ls := [.ref 10, .int (nI x), .int (nI y), .int (nI v), .int (nI ((12 * x) + y))]) (r := []) (M := M) (a := 11) (n := 144) (v := nI v) (((12 * x) + y)) rfl rfl (by omega) (by decide) ?_
  refine am_goQ 5 (s1 := (72, [.ref 10, .int (nI x), .int (nI y), .int (nI v), .int (nI ((12 * x) + y))], [.int (nI ((12 * x) + y)), .int ((M 10 2)), .ref 12], (am_set M 11 ((12 * x) + y) (nI v)))) (s2 := (72, [.ref 10, .int (nI x), .int (nI y), .int (nI v), .int (nI ((12 * x) + y))], [.int (nI ((12 * x) + y)), .int (nI n), .ref 12], (am_set M 11 ((12 * x) + y) (nI v)))) rfl (by simp only [hRn]) ?_
  refine am_goS (pc := 73) (ls := [.ref 10, .int (nI x), .int (nI y), .int (nI v), .int (nI ((12 * x) + y))]) (r := []) (M := (am_set M 11 ((12 * x) + y) (nI v))) (a := 12) (n := 144) (v := nI ((12 * x) + y)) (n) rfl rfl (by omega) (by decide) ?_
  refine am_goQ 5 (s1 := (80, [.ref 10, .int (nI x), .int (nI y), .int (nI v), .int (nI ((12 * x) + y))], [.int (((M 10 2) + nI 1)), .ref 10], (am_set (am_set M 11 ((12 * x) + y) (nI v)) 12 n (nI ((12 * x) + y))))) (s2 := (80, [.ref 10, .int (nI x), .int (nI y), .int (nI v), .int (nI ((12 * x) + y))], [.int (nI (n + 1)), .ref 10], (am_set (am_set M 11 ((12 * x) + y) (nI v)) 12 n (nI ((12 * x) + y))))) rfl (by simp only [hRn, nI_add]) ?_
  refine am_goR 1 (s2 := (83, [.ref 10, .int (nI x), .int (nI y), .int (nI v), .int (nI ((12 * x) + y))], [], (am_set (am_set (am_set M 11 ((12 * x) + y) (nI v)) 12 n (nI ((12 * x) + y))) 10 2 (nI (n + 1))))) rfl ?_
  exact am_goE none _ rfl ⟨rfl, hR.push (by decide) hs⟩

set_option maxHeartbeats 4000000 in
theorem s_comeTo_some {M : am_Mem} {s : Nat → Option Nat} {u : Nat → Nat} {n x y : Nat} (hR : sp_R 11 12 10 2 M s u n) (hx : x < 12) (hy : y < 12) {v : Nat} {w : Nat} (hw : w < 2147483648) (hs : s (12 * x + y) = some w) : am_go 50 (am_ent 50 [.ref 10, .int (nI x), .int (nI y), .int (nI v)] M) (am_rv (fun N => sp_R 11 12 10 2 N (sp_ps s (12 * x + y) v) (sp_pu s u n (12 * x + y)) (sp_pn s n (12 * x + y)) ∧ sp_fB 11 12 10 2 M N)) := by
  have hRn := hR.2.2
  refine am_goQ 7 (s1 := (10, [.ref 10, .int (nI x), .int (nI y), .int (nI v), .int (((nI 12 * nI x) + nI y))], [.int (((nI 12 * nI x) + nI y))], M)) (s2 := (10, [.ref 10, .int (nI x), .int (nI y), .int (nI v), .int (nI ((12 * x) + y))], [.int (nI ((12 * x) + y))], M)) rfl (by simp only [pk_mul, nI_add]) ?_
  refine am_bLT (((12 * x) + y)) (0) (s1 := (83, [.ref 10, .int (nI x), .int (nI y), .int (nI v), .int (nI ((12 * x) + y))], [], M)) (s2 := (13, [.ref 10, .int (nI x), .int (nI y), .int (nI v), .int (nI ((12 * x) + y))], [], M)) rfl (by omega) (by omega) (fun c1 => absurd c1 (by omega)) (fun c1 => ?_)
  refine am_goR 4 (s2 := (20, [.ref 10, .int (nI x), .int (nI y), .int (nI v), .int (nI ((12 * x) + y))], [.int (nI 144), .int (nI ((12 * x) + y))], M)) rfl ?_
  refine am_bLE (144) (((12 * x) + y)) (s1 := (83, [.ref 10, .int (nI x), .int (nI y), .int (nI v), .int (nI ((12 * x) + y))], [], M)) (s2 := (23, [.ref 10, .int (nI x), .int (nI y), .int (nI v), .int (nI ((12 * x) + y))], [], M)) rfl (by omega) (by omega) (fun c2 => absurd c2 (by omega)) (fun c2 => ?_)
  refine am_goR 3 (s2 := (29, [.ref 10, .int (nI x), .int (nI y), .int (nI v), .int (nI ((12 * x) + y))], [.int (nI ((12 * x) + y)), .ref 11], M)) rfl ?_
  refine am_goL2 (pc := 30) (ls := [.ref 10, .int (nI x), .int (nI y), .int (nI v), .int (nI ((12 * x) + y))]) (r := []) (M := M) (a := 11) (n := 144) (((12 * x) + y)) (nI w) rfl rfl (by omega) (by decide) ((hR.1 _ (by omega)).trans (by rw [hs]; rfl)) ?_
  refine am_goR 1 (s2 := (32, [.ref 10, .int (nI x), .int (nI y), .int (nI v), .int (nI ((12 * x) + y))], [.int ((-nI 9)), .int (nI w)], M)) rfl ?_
  refine am_bTn (s1 := (83, [.ref 10, .int (nI x), .int (nI y), .int (nI v), .int (nI ((12 * x) + y))], [], M)) (s2 := (35, [.ref 10, .int (nI x), .int (nI y), .int (nI v), .int (nI ((12 * x) + y))], [], M)) rfl (am_nm_ne (x := w) (m := 9) (by omega) (by decide) (by decide)) ?_
  exact am_goE none _ rfl ⟨rfl, hR.skip hs, sp_fB.rf⟩

theorem s_comeTo {M : am_Mem} {s : Nat → Option Nat} {u : Nat → Nat} {n x y : Nat} (hR : sp_R 11 12 10 2 M s u n) (hx : x < 12) (hy : y < 12) {v : Nat} (hn : s (12 * x + y) = none → n < 144) (hw : ∀ e, s (12 * x + y) = some e → e < 2147483648) : am_go 50 (am_ent 50 [.ref 10, .int (nI x), .int (nI y), .int (nI v)] M) (am_rv (fun N => sp_R 11 12 10 2 N (sp_ps s (12 * x + y) v) (sp_pu s u n (12 * x + y)) (sp_pn s n (12 * x + y)) ∧ sp_fB 11 12 10 2 M N)) := by
  cases hs : s (12 * x + y) with
  | none => exact s_comeTo_none hR hx hy (hn hs) hs
  | some w => exact s_comeTo_some hR hx hy (hw w hs) hs

set_option maxHeartbeats 4000000 in
theorem s_stepsTo {M : am_Mem} {s : Nat → Option Nat} {x y : Nat} (hR : ∀ p, p < 144 → M 11 p = sp_oi (s p)) (hx : x < 12) (hy : y < 12) : am_go 51 (am_ent 51 [.ref 10, .int (nI x), .int (nI y)] M) (am_is (sp_oi (s (12 * x + y))) M) := by
  refine am_goQ 7 (s1 := (8, [.ref 10, .int (nI x), .int (nI y), .int (((nI 12 * nI x) + nI y))], [.int (((nI 12 * nI x) + nI y))], M)) (s2 := (8, [.ref 10, .int (nI x), .int (nI y), .int (nI ((12 * x) + y))], [.int (nI ((12 * x) + y))], M)) rfl (by simp only [pk_mul, nI_add]) ?_
  refine am_bLT (((12 * x) + y)) (0) (s1 := (29, [.ref 10, .int (nI x), .int (nI y), .int (nI ((12 * x) + y))], [], M)) (s2 := (11, [.ref 10, .int (nI x), .int (nI y), .int (nI ((12 * x) + y))], [], M)) rfl (by omega) (by omega) (fun c1 => absurd c1 (by omega)) (fun c1 => ?_)
  refine am_goR 4 (s2 := (17, [.ref 10, .int (nI x), .int (nI y), .int (nI ((12 * x) + y))], [.int (nI 144), .int (nI ((12 * x) + y))], M)) rfl ?_
  refine am_bLE (144) (((12 * x) + y)) (s1 := (29, [.ref 10, .int (nI x), .int (nI y), .int (nI ((12 * x) + y))], [], M)) (s2 := (20, [.ref 10, .int (nI x), .int (nI y), .int (nI ((12 * x) + y))], [], M)) rfl (by omega) (by omega) (fun c2 => absurd c2 (by omega)) (fun c2 => ?_)
  refine am_goR 3 (s2 := (25, [.ref 10, .int (nI x), .int (nI y), .int (nI ((12 * x) + y))], [.int (nI ((12 * x) + y)), .ref 11], M)) rfl ?_
  refine am_goL2 (pc := 26) (ls := [.ref 10, .int (nI x), .int (nI y), .int (nI ((12 * x) + y))]) (r := []) (M := M) (a := 11) (n := 144) (((12 * x) + y)) ((sp_oi (s ((12 * x) + y)))) rfl rfl (by omega) (by decide) (hR _ (by omega)) ?_
  refine am_goR 1 (s2 := (31, [.ref 10, .int (nI x), .int (nI y), .int (nI ((12 * x) + y))], [.int ((sp_oi (s ((12 * x) + y))))], M)) rfl ?_
  exact am_ends ((sp_oi (s ((12 * x) + y)))) _ rfl rfl rfl

theorem s_staysPut0_1 {M : am_Mem} {a f hr hs lt : Nat} {k h : Nat → Nat} (hS : sp_S 1 M a f hr hs lt k h) (hO : sp_ok a f hr lt k h) {i : Nat} (hi : i < a) : am_go 9 (am_ent 9 [.ref 1, .int (nI i), .int (nI 0)] M) (am_is (am_b (decide (k i = 4))) M) := by
  have h := s_staysPut_1 hS hO hi (b := 0) (by decide)
  rw [show (decide (k i = 4) && decide (0 = 0)) = decide (k i = 4) by simp] at h
  exact h

theorem s_staysPut0_4 {M : am_Mem} {a f hr hs lt : Nat} {k h : Nat → Nat} (hS : sp_S 4 M a f hr hs lt k h) (hO : sp_ok a f hr lt k h) {i : Nat} (hi : i < a) : am_go 9 (am_ent 9 [.ref 4, .int (nI i), .int (nI 0)] M) (am_is (am_b (decide (k i = 4))) M) := by
  have h := s_staysPut_4 hS hO hi (b := 0) (by decide)
  rw [show (decide (k i = 4) && decide (0 = 0)) = decide (k i = 4) by simp] at h
  exact h

theorem am_goW {mi : Nat} {s : am_St} {Q Q2 : Option Value → am_Mem → Prop} (h : am_go mi s Q) (hq : ∀ r M, Q r M → Q2 r M) : am_go mi s Q2 := by
  obtain ⟨n, r, M, h1, h2⟩ := h
  exact ⟨n, r, M, h1, hq r M h2⟩
theorem sp_BI.small {E : Nat → Nat → Prop} {p0 n : Nat} {s : Nat → Option Nat} {u : Nat → Nat} (h : sp_BI E p0 s u n) {p e : Nat} (hp : s p = some e) : e < 144 := by
  obtain ⟨a, ha, rfl⟩ := h.2.2.1 p (h.2.2.2.2.1 p e hp).1 e hp
  obtain ⟨-, d, hd, hda⟩ := h.2.1 a ha
  rw [hp] at hd
  cases hd
  have := h.le
  omega

set_option maxHeartbeats 4000000 in
theorem s_goOn_loop {a f hr hs lt : Nat} {k h : Nat → Nat} (hO : sp_ok a f hr lt k h) {i ft P d t p0 : Nat} (hi : i < a) (hft : ft < 4096) (hP : P < 144) (hd200 : d < 200) {R : Nat} (hRR : R ≤ 4) : ∀ (c p : Nat) (M : am_Mem) (s : Nat → Option Nat) (u : Nat → Nat) (n : Nat), c + p = 13 → p ≤ 12 → sp_S 1 M a f hr hs lt k h → sp_R 11 12 10 2 M s u n → sp_GS (sp_ed ft R (decide (k i = 4))) p0 d s u n → t < n → u t = P → s P = some d → sp_pj ft R (decide (k i = 4)) P d s p → am_go 49 (36, [.ref 10, .ref 1, .int (nI i), .int (nI ft), .int (nI P), .int (nI (P / 12)), .int (nI (P % 12)), .int (nI (d + 1)), .int (nI R), .int (nI p)], [], M) (am_rv (fun N => ∃ (s9 : Nat → Option Nat) (u9 : Nat → Nat) (n9 : Nat), sp_fB 11 12 10 2 M N ∧ sp_R 11 12 10 2 N s9 u9 n9 ∧ sp_GS (sp_ed ft R (decide (k i = 4))) p0 d s9 u9 n9 ∧ sp_EX s u n s9 u9 n9 ∧ sp_pj ft R (decide (k i = 4)) P d s9 12)) := by
  intro c
  induction c with
  | zero => intro p M s u n h1 h2; omega
  | succ c ih =>
    intro p M s u n h1 h2 hS hR hG ht hu hd hJ
    obtain ⟨oA, oF, oHr, oLt, oK, oH⟩ := id hO
    have oKi := oK i
    have oR := sp_rc_lt (k i)
    have hds1 : sp_ds p (P % 12) < 1000 := by unfold sp_ds; omega
    have hds2 : sp_ds p (P / 12) < 1000 := by unfold sp_ds; omega
    refine am_goR 2 (s2 := (40, [.ref 10, .ref 1, .int (nI i), .int (nI ft), .int (nI P), .int (nI (P / 12)), .int (nI (P % 12)), .int (nI (d + 1)), .int (nI R), .int (nI p)], [.int (nI 12), .int (nI p)], M)) rfl ?_
    refine am_bLE (12) (p) (s1 := (136, [.ref 10, .ref 1, .int (nI i), .int (nI ft), .int (nI P), .int (nI (P / 12)), .int (nI (P % 12)), .int (nI (d + 1)), .int (nI R), .int (nI p)], [], M)) (s2 := (43, [.ref 10, .ref 1, .int (nI i), .int (nI ft), .int (nI P), .int (nI (P / 12)), .int (nI (P % 12)), .int (nI (d + 1)), .int (nI R), .int (nI p)], [], M)) rfl (by omega) (by omega) (fun c1 => ?_) (fun c1 => ?_)
    · have ep : p = 12 := by omega
      subst ep
      exact am_goE none _ rfl ⟨rfl, s, u, n, sp_fB.rf, hR, hG, sp_EX.rf, hJ⟩
    · refine am_goR 2 (s2 := (46, [.ref 10, .ref 1, .int (nI i), .int (nI ft), .int (nI P), .int (nI (P / 12)), .int (nI (P % 12)), .int (nI (d + 1)), .int (nI R), .int (nI p)], [.int (nI p), .int (nI ft)], M)) rfl ?_
      refine am_goX (v := am_b (ft.testBit p)) (M2 := M) (s2 := (49, [.ref 10, .ref 1, .int (nI i), .int (nI ft), .int (nI P), .int (nI (P / 12)), .int (nI (P % 12)), .int (nI (d + 1)), .int (nI R), .int (nI p)], [], M)) rfl (s_hasBit1 (x := ft) (j := p) (by omega) (by omega)) ?_
      refine am_bB0 (ft.testBit p) (s1 := (130, [.ref 10, .ref 1, .int (nI i), .int (nI ft), .int (nI P), .int (nI (P / 12)), .int (nI (P % 12)), .int (nI (d + 1)), .int (nI R), .int (nI p)], [], M)) (s2 := (52, [.ref 10, .ref 1, .int (nI i), .int (nI ft), .int (nI P), .int (nI (P / 12)), .int (nI (P % 12)), .int (nI (d + 1)), .int (nI R), .int (nI p)], [], M)) rfl (fun c2 => ?_) (fun c2 => ?_)
      · refine am_goQ 2 (s1 := (36, [.ref 10, .ref 1, .int (nI i), .int (nI ft), .int (nI P), .int (nI (P / 12)), .int (nI (P % 12)), .int (nI (d + 1)), .int (nI R), .int ((nI p + nI 1))], [], M)) (s2 := (36, [.ref 10, .ref 1, .int (nI i), .int (nI ft), .int (nI P), .int (nI (P / 12)), .int (nI (P % 12)), .int (nI (d + 1)), .int (nI R), .int (nI (p + 1))], [], M)) rfl (by simp only [nI_add]) ?_
        have hjn := sp_pj.succ hJ (fun z => absurd z (by simp [sp_e0, *])) (fun z => absurd z (by simp [sp_e1, *]))
        refine am_goW (ih (p + 1) M _ _ _ (by omega) (by omega) hS hR hG ht hu hd hjn) (fun r N hr => ?_)
        obtain ⟨rfl, s9, u9, n9, q1, q2, q3, q4, q5⟩ := hr
        exact ⟨rfl, s9, u9, n9, sp_fB.tr (sp_fB.rf (cS := 11) (cU := 12) (cn := 10) (kn := 2) (M := M)) q1, q2, q3, sp_EX.tr (sp_EX.rf (s := s) (u := u) (n := n)) q4, q5⟩
      · refine am_goR 2 (s2 := (56, [.ref 10, .ref 1, .int (nI i), .int (nI ft), .int (nI P), .int (nI (P / 12)), .int (nI (P % 12)), .int (nI (d + 1)), .int (nI R), .int (nI p)], [.int (nI (P / 12)), .int (nI p)], M)) rfl ?_
        refine am_bEQ (p) ((P / 12)) (s1 := (130, [.ref 10, .ref 1, .int (nI i), .int (nI ft), .int (nI P), .int (nI (P / 12)), .int (nI (P % 12)), .int (nI (d + 1)), .int (nI R), .int (nI p)], [], M)) (s2 := (59, [.ref 10, .ref 1, .int (nI i), .int (nI ft), .int (nI P), .int (nI (P / 12)), .int (nI (P % 12)), .int (nI (d + 1)), .int (nI R), .int (nI p)], [], M)) rfl (by omega) (by omega) (fun c3 => ?_) (fun c3 => ?_)
        · refine am_goQ 2 (s1 := (36, [.ref 10, .ref 1, .int (nI i), .int (nI ft), .int (nI P), .int (nI (P / 12)), .int (nI (P % 12)), .int (nI (d + 1)), .int (nI R), .int ((nI p + nI 1))], [], M)) (s2 := (36, [.ref 10, .ref 1, .int (nI i), .int (nI ft), .int (nI P), .int (nI (P / 12)), .int (nI (P % 12)), .int (nI (d + 1)), .int (nI R), .int (nI (p + 1))], [], M)) rfl (by simp only [nI_add]) ?_
          have hjn := sp_pj.succ hJ (fun z => absurd z (by simp [sp_e0, *])) (fun z => absurd z (by simp [sp_e1, *]))
          refine am_goW (ih (p + 1) M _ _ _ (by omega) (by omega) hS hR hG ht hu hd hjn) (fun r N hr => ?_)
          obtain ⟨rfl, s9, u9, n9, q1, q2, q3, q4, q5⟩ := hr
          exact ⟨rfl, s9, u9, n9, sp_fB.tr (sp_fB.rf (cS := 11) (cU := 12) (cn := 10) (kn := 2) (M := M)) q1, q2, q3, sp_EX.tr (sp_EX.rf (s := s) (u := u) (n := n)) q4, q5⟩
        · refine am_goR 2 (s2 := (63, [.ref 10, .ref 1, .int (nI i), .int (nI ft), .int (nI P), .int (nI (P / 12)), .int (nI (P % 12)), .int (nI (d + 1)), .int (nI R), .int (nI p)], [.int (nI (P % 12)), .int (nI p)], M)) rfl ?_
          refine am_bEQ (p) ((P % 12)) (s1 := (130, [.ref 10, .ref 1, .int (nI i), .int (nI ft), .int (nI P), .int (nI (P / 12)), .int (nI (P % 12)), .int (nI (d + 1)), .int (nI R), .int (nI p)], [], M)) (s2 := (66, [.ref 10, .ref 1, .int (nI i), .int (nI ft), .int (nI P), .int (nI (P / 12)), .int (nI (P % 12)), .int (nI (d + 1)), .int (nI R), .int (nI p)], [], M)) rfl (by omega) (by omega) (fun c4 => ?_) (fun c4 => ?_)
          · refine am_goQ 2 (s1 := (36, [.ref 10, .ref 1, .int (nI i), .int (nI ft), .int (nI P), .int (nI (P / 12)), .int (nI (P % 12)), .int (nI (d + 1)), .int (nI R), .int ((nI p + nI 1))], [], M)) (s2 := (36, [.ref 10, .ref 1, .int (nI i), .int (nI ft), .int (nI P), .int (nI (P / 12)), .int (nI (P % 12)), .int (nI (d + 1)), .int (nI R), .int (nI (p + 1))], [], M)) rfl (by simp only [nI_add]) ?_
            have hjn := sp_pj.succ hJ (fun z => absurd z (by simp [sp_e0, *])) (fun z => absurd z (by simp [sp_e1, *]))
            refine am_goW (ih (p + 1) M _ _ _ (by omega) (by omega) hS hR hG ht hu hd hjn) (fun r N hr => ?_)
            obtain ⟨rfl, s9, u9, n9, q1, q2, q3, q4, q5⟩ := hr
            exact ⟨rfl, s9, u9, n9, sp_fB.tr (sp_fB.rf (cS := 11) (cU := 12) (cn := 10) (kn := 2) (M := M)) q1, q2, q3, sp_EX.tr (sp_EX.rf (s := s) (u := u) (n := n)) q4, q5⟩
          · refine am_goR 3 (s2 := (69, [.ref 10, .ref 1, .int (nI i), .int (nI ft), .int (nI P), .int (nI (P / 12)), .int (nI (P % 12)), .int (nI (d + 1)), .int (nI R), .int (nI p)], [.int (nI 0), .int (nI i), .ref 1], M)) rfl ?_
            refine am_goX (v := am_b (decide (k i = 4))) (M2 := M) (s2 := (72, [.ref 10, .ref 1, .int (nI i), .int (nI ft), .int (nI P), .int (nI (P / 12)), .int (nI (P % 12)), .int (nI (d + 1)), .int (nI R), .int (nI p)], [], M)) rfl (s_staysPut0_1 hS hO (i := i) (by omega)) ?_
            refine am_bB1 (decide (k i = 4)) (s1 := (98, [.ref 10, .ref 1, .int (nI i), .int (nI ft), .int (nI P), .int (nI (P / 12)), .int (nI (P % 12)), .int (nI (d + 1)), .int (nI R), .int (nI p)], [], M)) (s2 := (75, [.ref 10, .ref 1, .int (nI i), .int (nI ft), .int (nI P), .int (nI (P / 12)), .int (nI (P % 12)), .int (nI (d + 1)), .int (nI R), .int (nI p)], [], M)) rfl (fun c5 => ?_) (fun c5 => ?_)
            · have c5d := of_decide_eq_true c5
              refine am_goR 3 (s2 := (101, [.ref 10, .ref 1, .int (nI i), .int (nI ft), .int (nI P), .int (nI (P / 12)), .int (nI (P % 12)), .int (nI (d + 1)), .int (nI R), .int (nI p)], [.int (nI 1), .int (nI i), .ref 1], M)) rfl ?_
              refine am_goX (v := nI 0) (M2 := M) (s2 := (104, [.ref 10, .ref 1, .int (nI i), .int (nI ft), .int (nI P), .int (nI (P / 12)), .int (nI (P % 12)), .int (nI (d + 1)), .int (nI R), .int (nI p)], [], M)) rfl (s_staysPut1_1 hS hO (i := i) (by omega)) ?_
              refine am_goQ 6 (s1 := (117, [.ref 10, .ref 1, .int (nI i), .int (nI ft), .int (nI P), .int (nI (P / 12)), .int (nI (P % 12)), .int (nI (d + 1)), .int (nI R), .int (nI p)], [.int (nI R), .int ((am_abs ((nI p - nI (P / 12)))))], M)) (s2 := (117, [.ref 10, .ref 1, .int (nI i), .int (nI ft), .int (nI P), .int (nI (P / 12)), .int (nI (P % 12)), .int (nI (d + 1)), .int (nI R), .int (nI p)], [.int (nI R), .int (nI (sp_ds p (P / 12)))], M)) rfl (by simp only [am_absd (x := p) (y := (P / 12)) (by omega) (by omega)]) ?_
              refine am_bLT (R) ((sp_ds p (P / 12))) (s1 := (130, [.ref 10, .ref 1, .int (nI i), .int (nI ft), .int (nI P), .int (nI (P / 12)), .int (nI (P % 12)), .int (nI (d + 1)), .int (nI R), .int (nI p)], [], M)) (s2 := (120, [.ref 10, .ref 1, .int (nI i), .int (nI ft), .int (nI P), .int (nI (P / 12)), .int (nI (P % 12)), .int (nI (d + 1)), .int (nI R), .int (nI p)], [], M)) rfl (by omega) (by omega) (fun c6 => ?_) (fun c6 => ?_)
              · refine am_goQ 2 (s1 := (36, [.ref 10, .ref 1, .int (nI i), .int (nI ft), .int (nI P), .int (nI (P / 12)), .int (nI (P % 12)), .int (nI (d + 1)), .int (nI R), .int ((nI p + nI 1))], [], M)) (s2 := (36, [.ref 10, .ref 1, .int (nI i), .int (nI ft), .int (nI P), .int (nI (P / 12)), .int (nI (P % 12)), .int (nI (d + 1)), .int (nI R), .int (nI (p + 1))], [], M)) rfl (by simp only [nI_add]) ?_
                have hjn := sp_pj.succ hJ (fun z => absurd z (by simp [sp_e0, *])) (fun z => absurd z (by simp [sp_e1, *]))
                refine am_goW (ih (p + 1) M _ _ _ (by omega) (by omega) hS hR hG ht hu hd hjn) (fun r N hr => ?_)
                obtain ⟨rfl, s9, u9, n9, q1, q2, q3, q4, q5⟩ := hr
                exact ⟨rfl, s9, u9, n9, sp_fB.tr (sp_fB.rf (cS := 11) (cU := 12) (cn := 10) (kn := 2) (M := M)) q1, q2, q3, sp_EX.tr (sp_EX.rf (s := s) (u := u) (n := n)) q4, q5⟩
              · refine am_goR 4 (s2 := (127, [.ref 10, .ref 1, .int (nI i), .int (nI ft), .int (nI P), .int (nI (P / 12)), .int (nI (P % 12)), .int (nI (d + 1)), .int (nI R), .int (nI p)], [.int (nI (d + 1)), .int (nI p), .int (nI (P / 12)), .ref 10], M)) rfl ?_
                refine am_goV (s2 := (130, [.ref 10, .ref 1, .int (nI i), .int (nI ft), .int (nI P), .int (nI (P / 12)), .int (nI (P % 12)), .int (nI (d + 1)), .int (nI R), .int (nI p)], [], M)) rfl (s_comeTo hR (x := (P / 12)) (y := p) (v := (d + 1)) (by omega) (by omega) (fun z => hG.1.room (by omega) z) (fun e z => by have := hG.1.small z; omega)) (fun N7 hC7 => ?_)
                obtain ⟨hRN7, hFN7⟩ := hC7
                obtain ⟨s7, u7, n7, hR7, hG7, hX7, hq7⟩ := sp_push_ex hRN7 hG ht hu hd (show sp_ed ft R (decide (k i = 4)) P _ from ⟨p, by omega, Or.inr ⟨by simp [sp_e1, *], rfl⟩⟩) (by omega)
                have hS7 := sp_S.fB hS hFN7
                have hX7T := sp_EX.tr (sp_EX.rf (s := s) (u := u) (n := n)) hX7
                have hF7T := sp_fB.tr (sp_fB.rf (cS := 11) (cU := 12) (cn := 10) (kn := 2) (M := M)) hFN7
                have ht7 := Nat.lt_of_lt_of_le ht hX7.1
                have hu7 := (hX7.2.1 _ ht).trans hu
                have hd7 := hX7.2.2 _ _ hd
                have hj7 := sp_pj.ext hJ hX7
                refine am_goQ 2 (s1 := (36, [.ref 10, .ref 1, .int (nI i), .int (nI ft), .int (nI P), .int (nI (P / 12)), .int (nI (P % 12)), .int (nI (d + 1)), .int (nI R), .int ((nI p + nI 1))], [], N7)) (s2 := (36, [.ref 10, .ref 1, .int (nI i), .int (nI ft), .int (nI P), .int (nI (P / 12)), .int (nI (P % 12)), .int (nI (d + 1)), .int (nI R), .int (nI (p + 1))], [], N7)) rfl (by simp only [nI_add]) ?_
                have hjn := sp_pj.succ hj7 (fun z => absurd z (by simp [sp_e0, *])) (fun _ => hq7)
                refine am_goW (ih (p + 1) N7 _ _ _ (by omega) (by omega) hS7 hR7 hG7 ht7 hu7 hd7 hjn) (fun r N hr => ?_)
                obtain ⟨rfl, s9, u9, n9, q1, q2, q3, q4, q5⟩ := hr
                exact ⟨rfl, s9, u9, n9, sp_fB.tr hF7T q1, q2, q3, sp_EX.tr hX7T q4, q5⟩
            · have c5d := of_decide_eq_false c5
              refine am_goQ 5 (s1 := (85, [.ref 10, .ref 1, .int (nI i), .int (nI ft), .int (nI P), .int (nI (P / 12)), .int (nI (P % 12)), .int (nI (d + 1)), .int (nI R), .int (nI p)], [.int (nI R), .int ((am_abs ((nI p - nI (P % 12)))))], M)) (s2 := (85, [.ref 10, .ref 1, .int (nI i), .int (nI ft), .int (nI P), .int (nI (P / 12)), .int (nI (P % 12)), .int (nI (d + 1)), .int (nI R), .int (nI p)], [.int (nI R), .int (nI (sp_ds p (P % 12)))], M)) rfl (by simp only [am_absd (x := p) (y := (P % 12)) (by omega) (by omega)]) ?_
              refine am_bLT (R) ((sp_ds p (P % 12))) (s1 := (98, [.ref 10, .ref 1, .int (nI i), .int (nI ft), .int (nI P), .int (nI (P / 12)), .int (nI (P % 12)), .int (nI (d + 1)), .int (nI R), .int (nI p)], [], M)) (s2 := (88, [.ref 10, .ref 1, .int (nI i), .int (nI ft), .int (nI P), .int (nI (P / 12)), .int (nI (P % 12)), .int (nI (d + 1)), .int (nI R), .int (nI p)], [], M)) rfl (by omega) (by omega) (fun c8 => ?_) (fun c8 => ?_)
              · refine am_goR 3 (s2 := (101, [.ref 10, .ref 1, .int (nI i), .int (nI ft), .int (nI P), .int (nI (P / 12)), .int (nI (P % 12)), .int (nI (d + 1)), .int (nI R), .int (nI p)], [.int (nI 1), .int (nI i), .ref 1], M)) rfl ?_
                refine am_goX (v := nI 0) (M2 := M) (s2 := (104, [.ref 10, .ref 1, .int (nI i), .int (nI ft), .int (nI P), .int (nI (P / 12)), .int (nI (P % 12)), .int (nI (d + 1)), .int (nI R), .int (nI p)], [], M)) rfl (s_staysPut1_1 hS hO (i := i) (by omega)) ?_
                refine am_goQ 6 (s1 := (117, [.ref 10, .ref 1, .int (nI i), .int (nI ft), .int (nI P), .int (nI (P / 12)), .int (nI (P % 12)), .int (nI (d + 1)), .int (nI R), .int (nI p)], [.int (nI R), .int ((am_abs ((nI p - nI (P / 12)))))], M)) (s2 := (117, [.ref 10, .ref 1, .int (nI i), .int (nI ft), .int (nI P), .int (nI (P / 12)), .int (nI (P % 12)), .int (nI (d + 1)), .int (nI R), .int (nI p)], [.int (nI R), .int (nI (sp_ds p (P / 12)))], M)) rfl (by simp only [am_absd (x := p) (y := (P / 12)) (by omega) (by omega)]) ?_
                refine am_bLT (R) ((sp_ds p (P / 12))) (s1 := (130, [.ref 10, .ref 1, .int (nI i), .int (nI ft), .int (nI P), .int (nI (P / 12)), .int (nI (P % 12)), .int (nI (d + 1)), .int (nI R), .int (nI p)], [], M)) (s2 := (120, [.ref 10, .ref 1, .int (nI i), .int (nI ft), .int (nI P), .int (nI (P / 12)), .int (nI (P % 12)), .int (nI (d + 1)), .int (nI R), .int (nI p)], [], M)) rfl (by omega) (by omega) (fun c9 => ?_) (fun c9 => ?_)
                · refine am_goQ 2 (s1 := (36, [.ref 10, .ref 1, .int (nI i), .int (nI ft), .int (nI P), .int (nI (P / 12)), .int (nI (P % 12)), .int (nI (d + 1)), .int (nI R), .int ((nI p + nI 1))], [], M)) (s2 := (36, [.ref 10, .ref 1, .int (nI i), .int (nI ft), .int (nI P), .int (nI (P / 12)), .int (nI (P % 12)), .int (nI (d + 1)), .int (nI R), .int (nI (p + 1))], [], M)) rfl (by simp only [nI_add]) ?_
                  have hjn := sp_pj.succ hJ (fun z => absurd z (by simp [sp_e0, *])) (fun z => absurd z (by simp [sp_e1, *]))
                  refine am_goW (ih (p + 1) M _ _ _ (by omega) (by omega) hS hR hG ht hu hd hjn) (fun r N hr => ?_)
                  obtain ⟨rfl, s9, u9, n9, q1, q2, q3, q4, q5⟩ := hr
                  exact ⟨rfl, s9, u9, n9, sp_fB.tr (sp_fB.rf (cS := 11) (cU := 12) (cn := 10) (kn := 2) (M := M)) q1, q2, q3, sp_EX.tr (sp_EX.rf (s := s) (u := u) (n := n)) q4, q5⟩
                · refine am_goR 4 (s2 := (127, [.ref 10, .ref 1, .int (nI i), .int (nI ft), .int (nI P), .int (nI (P / 12)), .int (nI (P % 12)), .int (nI (d + 1)), .int (nI R), .int (nI p)], [.int (nI (d + 1)), .int (nI p), .int (nI (P / 12)), .ref 10], M)) rfl ?_
                  refine am_goV (s2 := (130, [.ref 10, .ref 1, .int (nI i), .int (nI ft), .int (nI P), .int (nI (P / 12)), .int (nI (P % 12)), .int (nI (d + 1)), .int (nI R), .int (nI p)], [], M)) rfl (s_comeTo hR (x := (P / 12)) (y := p) (v := (d + 1)) (by omega) (by omega) (fun z => hG.1.room (by omega) z) (fun e z => by have := hG.1.small z; omega)) (fun N10 hC10 => ?_)
                  obtain ⟨hRN10, hFN10⟩ := hC10
                  obtain ⟨s10, u10, n10, hR10, hG10, hX10, hq10⟩ := sp_push_ex hRN10 hG ht hu hd (show sp_ed ft R (decide (k i = 4)) P _ from ⟨p, by omega, Or.inr ⟨by simp [sp_e1, *], rfl⟩⟩) (by omega)
                  have hS10 := sp_S.fB hS hFN10
                  have hX10T := sp_EX.tr (sp_EX.rf (s := s) (u := u) (n := n)) hX10
                  have hF10T := sp_fB.tr (sp_fB.rf (cS := 11) (cU := 12) (cn := 10) (kn := 2) (M := M)) hFN10
                  have ht10 := Nat.lt_of_lt_of_le ht hX10.1
                  have hu10 := (hX10.2.1 _ ht).trans hu
                  have hd10 := hX10.2.2 _ _ hd
                  have hj10 := sp_pj.ext hJ hX10
                  refine am_goQ 2 (s1 := (36, [.ref 10, .ref 1, .int (nI i), .int (nI ft), .int (nI P), .int (nI (P / 12)), .int (nI (P % 12)), .int (nI (d + 1)), .int (nI R), .int ((nI p + nI 1))], [], N10)) (s2 := (36, [.ref 10, .ref 1, .int (nI i), .int (nI ft), .int (nI P), .int (nI (P / 12)), .int (nI (P % 12)), .int (nI (d + 1)), .int (nI R), .int (nI (p + 1))], [], N10)) rfl (by simp only [nI_add]) ?_
                  have hjn := sp_pj.succ hj10 (fun z => absurd z (by simp [sp_e0, *])) (fun _ => hq10)
                  refine am_goW (ih (p + 1) N10 _ _ _ (by omega) (by omega) hS10 hR10 hG10 ht10 hu10 hd10 hjn) (fun r N hr => ?_)
                  obtain ⟨rfl, s9, u9, n9, q1, q2, q3, q4, q5⟩ := hr
                  exact ⟨rfl, s9, u9, n9, sp_fB.tr hF10T q1, q2, q3, sp_EX.tr hX10T q4, q5⟩
              · refine am_goR 4 (s2 := (95, [.ref 10, .ref 1, .int (nI i), .int (nI ft), .int (nI P), .int (nI (P / 12)), .int (nI (P % 12)), .int (nI (d + 1)), .int (nI R), .int (nI p)], [.int (nI (d + 1)), .int (nI (P % 12)), .int (nI p), .ref 10], M)) rfl ?_
                refine am_goV (s2 := (98, [.ref 10, .ref 1, .int (nI i), .int (nI ft), .int (nI P), .int (nI (P / 12)), .int (nI (P % 12)), .int (nI (d + 1)), .int (nI R), .int (nI p)], [], M)) rfl (s_comeTo hR (x := p) (y := (P % 12)) (v := (d + 1)) (by omega) (by omega) (fun z => hG.1.room (by omega) z) (fun e z => by have := hG.1.small z; omega)) (fun N11 hC11 => ?_)
                obtain ⟨hRN11, hFN11⟩ := hC11
                obtain ⟨s11, u11, n11, hR11, hG11, hX11, hq11⟩ := sp_push_ex hRN11 hG ht hu hd (show sp_ed ft R (decide (k i = 4)) P _ from ⟨p, by omega, Or.inl ⟨by simp [sp_e0, *], rfl⟩⟩) (by omega)
                have hS11 := sp_S.fB hS hFN11
                have hX11T := sp_EX.tr (sp_EX.rf (s := s) (u := u) (n := n)) hX11
                have hF11T := sp_fB.tr (sp_fB.rf (cS := 11) (cU := 12) (cn := 10) (kn := 2) (M := M)) hFN11
                have ht11 := Nat.lt_of_lt_of_le ht hX11.1
                have hu11 := (hX11.2.1 _ ht).trans hu
                have hd11 := hX11.2.2 _ _ hd
                have hj11 := sp_pj.ext hJ hX11
                refine am_goR 3 (s2 := (101, [.ref 10, .ref 1, .int (nI i), .int (nI ft), .int (nI P), .int (nI (P / 12)), .int (nI (P % 12)), .int (nI (d + 1)), .int (nI R), .int (nI p)], [.int (nI 1), .int (nI i), .ref 1], N11)) rfl ?_
                refine am_goX (v := nI 0) (M2 := N11) (s2 := (104, [.ref 10, .ref 1, .int (nI i), .int (nI ft), .int (nI P), .int (nI (P / 12)), .int (nI (P % 12)), .int (nI (d + 1)), .int (nI R), .int (nI p)], [], N11)) rfl (s_staysPut1_1 hS11 hO (i := i) (by omega)) ?_
                refine am_goQ 6 (s1 := (117, [.ref 10, .ref 1, .int (nI i), .int (nI ft), .int (nI P), .int (nI (P / 12)), .int (nI (P % 12)), .int (nI (d + 1)), .int (nI R), .int (nI p)], [.int (nI R), .int ((am_abs ((nI p - nI (P / 12)))))], N11)) (s2 := (117, [.ref 10, .ref 1, .int (nI i), .int (nI ft), .int (nI P), .int (nI (P / 12)), .int (nI (P % 12)), .int (nI (d + 1)), .int (nI R), .int (nI p)], [.int (nI R), .int (nI (sp_ds p (P / 12)))], N11)) rfl (by simp only [am_absd (x := p) (y := (P / 12)) (by omega) (by omega)]) ?_
                refine am_bLT (R) ((sp_ds p (P / 12))) (s1 := (130, [.ref 10, .ref 1, .int (nI i), .int (nI ft), .int (nI P), .int (nI (P / 12)), .int (nI (P % 12)), .int (nI (d + 1)), .int (nI R), .int (nI p)], [], N11)) (s2 := (120, [.ref 10, .ref 1, .int (nI i), .int (nI ft), .int (nI P), .int (nI (P / 12)), .int (nI (P % 12)), .int (nI (d + 1)), .int (nI R), .int (nI p)], [], N11)) rfl (by omega) (by omega) (fun c12 => ?_) (fun c12 => ?_)
                · refine am_goQ 2 (s1 := (36, [.ref 10, .ref 1, .int (nI i), .int (nI ft), .int (nI P), .int (nI (P / 12)), .int (nI (P % 12)), .int (nI (d + 1)), .int (nI R), .int ((nI p + nI 1))], [], N11)) (s2 := (36, [.ref 10, .ref 1, .int (nI i), .int (nI ft), .int (nI P), .int (nI (P / 12)), .int (nI (P % 12)), .int (nI (d + 1)), .int (nI R), .int (nI (p + 1))], [], N11)) rfl (by simp only [nI_add]) ?_
                  have hjn := sp_pj.succ hj11 (fun _ => hq11) (fun z => absurd z (by simp [sp_e1, *]))
                  refine am_goW (ih (p + 1) N11 _ _ _ (by omega) (by omega) hS11 hR11 hG11 ht11 hu11 hd11 hjn) (fun r N hr => ?_)
                  obtain ⟨rfl, s9, u9, n9, q1, q2, q3, q4, q5⟩ := hr
                  exact ⟨rfl, s9, u9, n9, sp_fB.tr hF11T q1, q2, q3, sp_EX.tr hX11T q4, q5⟩
                · refine am_goR 4 (s2 := (127, [.ref 10, .ref 1, .int (nI i), .int (nI ft), .int (nI P), .int (nI (P / 12)), .int (nI (P % 12)), .int (nI (d + 1)), .int (nI R), .int (nI p)], [.int (nI (d + 1)), .int (nI p), .int (nI (P / 12)), .ref 10], N11)) rfl ?_
                  refine am_goV (s2 := (130, [.ref 10, .ref 1, .int (nI i), .int (nI ft), .int (nI P), .int (nI (P / 12)), .int (nI (P % 12)), .int (nI (d + 1)), .int (nI R), .int (nI p)], [], N11)) rfl (s_comeTo hR11 (x := (P / 12)) (y := p) (v := (d + 1)) (by omega) (by omega) (fun z => hG11.1.room (by omega) z) (fun e z => by have := hG11.1.small z; omega)) (fun N13 hC13 => ?_)
                  obtain ⟨hRN13, hFN13⟩ := hC13
                  obtain ⟨s13, u13, n13, hR13, hG13, hX13, hq13⟩ := sp_push_ex hRN13 hG11 ht11 hu11 hd11 (show sp_ed ft R (decide (k i = 4)) P _ from ⟨p, by omega, Or.inr ⟨by simp [sp_e1, *], rfl⟩⟩) (by omega)
                  have hS13 := sp_S.fB hS11 hFN13
                  have hX13T := sp_EX.tr hX11T hX13
                  have hF13T := sp_fB.tr hF11T hFN13
                  have ht13 := Nat.lt_of_lt_of_le ht11 hX13.1
                  have hu13 := (hX13.2.1 _ ht11).trans hu11
                  have hd13 := hX13.2.2 _ _ hd11
                  have hj13 := sp_pj.ext hj11 hX13
                  refine am_goQ 2 (s1 := (36, [.ref 10, .ref 1, .int (nI i), .int (nI ft), .int (nI P), .int (nI (P / 12)), .int (nI (P % 12)), .int (nI (d + 1)), .int (nI R), .int ((nI p + nI 1))], [], N13)) (s2 := (36, [.ref 10, .ref 1, .int (nI i), .int (nI ft), .int (nI P), .int (nI (P / 12)), .int (nI (P % 12)), .int (nI (d + 1)), .int (nI R), .int (nI (p + 1))], [], N13)) rfl (by simp only [nI_add]) ?_
                  have hjn := sp_pj.succ hj13 (fun _ => (by obtain ⟨e, e1, e2⟩ := hq11; exact ⟨e, e1, hX13.2.2 _ _ e2⟩)) (fun _ => hq13)
                  refine am_goW (ih (p + 1) N13 _ _ _ (by omega) (by omega) hS13 hR13 hG13 ht13 hu13 hd13 hjn) (fun r N hr => ?_)
                  obtain ⟨rfl, s9, u9, n9, q1, q2, q3, q4, q5⟩ := hr
                  exact ⟨rfl, s9, u9, n9, sp_fB.tr hF13T q1, q2, q3, sp_EX.tr hX13T q4, q5⟩
set_option maxHeartbeats 4000000 in
theorem s_goOn {M : am_Mem} {s : Nat → Option Nat} {u : Nat → Nat} {n : Nat} {a f hr hs lt : Nat} {k h : Nat → Nat} (hO : sp_ok a f hr lt k h) {i ft P d t p0 : Nat} (hi : i < a) (hft : ft < 4096) (hP : P < 144) (hd200 : d < 200) (hS : sp_S 1 M a f hr hs lt k h) (hR : sp_R 11 12 10 2 M s u n) (hG : sp_GS (sp_ed ft (sp_rc (k i)) (decide (k i = 4))) p0 d s u n) (ht : t < n) (hu : u t = P) (hd : s P = some d) : am_go 49 (am_ent 49 [.ref 10, .ref 1, .int (nI i), .int (nI ft), .int (nI P)] M) (am_rv (fun N => ∃ (s9 : Nat → Option Nat) (u9 : Nat → Nat) (n9 : Nat), sp_fB 11 12 10 2 M N ∧ sp_R 11 12 10 2 N s9 u9 n9 ∧ sp_GS (sp_ed ft (sp_rc (k i)) (decide (k i = 4))) p0 d s9 u9 n9 ∧ sp_EX s u n s9 u9 n9 ∧ sp_pj ft (sp_rc (k i)) (decide (k i = 4)) P d s9 12)) := by
  obtain ⟨oA, oF, oHr, oLt, oK, oH⟩ := id hO
  have oKi := oK i
  refine am_goQ 11 (s1 := (19, [.ref 10, .ref 1, .int (nI i), .int (nI ft), .int (nI P), .int ((nI P / nI 12)), .int ((nI P - nI P / nI 12 * nI 12)), .null, .null, .null], [.int ((nI P - nI P / nI 12 * nI 12)), .int ((nI P / nI 12)), .ref 10], M)) (s2 := (19, [.ref 10, .ref 1, .int (nI i), .int (nI ft), .int (nI P), .int (nI (P / 12)), .int (nI (P % 12)), .null, .null, .null], [.int (nI (P % 12)), .int (nI (P / 12)), .ref 10], M)) rfl (by rw [pk_rem (a := P) (d := 12) (by omega) (by omega) (by omega)]; simp only [pk_div (a := P) (d := 12) (by omega) (by omega) (by omega)]) ?_
  refine am_goX (v := nI d) (M2 := M) (s2 := (22, [.ref 10, .ref 1, .int (nI i), .int (nI ft), .int (nI P), .int (nI (P / 12)), .int (nI (P % 12)), .null, .null, .null], [], M)) rfl (by have hq := s_stepsTo hR.1 (x := P / 12) (y := P % 12) (by omega) (by omega); rw [show 12 * (P / 12) + P % 12 = P by omega, hd] at hq; exact hq) ?_
  refine am_goQ 5 (s1 := (28, [.ref 10, .ref 1, .int (nI i), .int (nI ft), .int (nI P), .int (nI (P / 12)), .int (nI (P % 12)), .int ((nI d + nI 1)), .null, .null], [.int (nI i), .ref 1], M)) (s2 := (28, [.ref 10, .ref 1, .int (nI i), .int (nI ft), .int (nI P), .int (nI (P / 12)), .int (nI (P % 12)), .int (nI (d + 1)), .null, .null], [.int (nI i), .ref 1], M)) rfl (by simp only [nI_add]) ?_
  refine am_goX (v := nI (sp_rc (k i))) (M2 := M) (s2 := (31, [.ref 10, .ref 1, .int (nI i), .int (nI ft), .int (nI P), .int (nI (P / 12)), .int (nI (P % 12)), .int (nI (d + 1)), .null, .null], [], M)) rfl (s_reachOf_1 hS hO (i := i) (by omega)) ?_
  refine am_goR 3 (s2 := (36, [.ref 10, .ref 1, .int (nI i), .int (nI ft), .int (nI P), .int (nI (P / 12)), .int (nI (P % 12)), .int (nI (d + 1)), .int (nI (sp_rc (k i))), .int (nI 0)], [], M)) rfl ?_
  exact s_goOn_loop hO hi hft hP hd200 (sp_rc_lt (k i)) 13 0 M s u n (by omega) (by omega) hS hR hG ht hu hd (fun j hj => absurd hj (Nat.not_lt_zero j))

