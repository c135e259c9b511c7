/-! walks: the reference: the search -/
def sp_f2 (ft R j o : Nat) : Bool := ft.testBit j && !decide (j = o) && decide (sp_ds j o ≤ R)
theorem sp_f2_ne {ft R j o : Nat} (h : sp_f2 ft R j o = true) : ¬ j = o := by
  unfold sp_f2 at h
  simp only [Bool.and_eq_true, Bool.not_eq_true', decide_eq_false_iff_not] at h
  exact h.1.2
theorem sp_e1_T {ft R P j : Nat} (h : sp_f2 ft R j (P / 12) = true) (h2 : ¬ j = P % 12) : sp_e1 ft R P j = true := by
  unfold sp_f2 at h
  unfold sp_e1
  simp only [Bool.and_eq_true, Bool.not_eq_true', decide_eq_false_iff_not, decide_eq_true_eq] at h ⊢
  exact ⟨⟨⟨h.1.1, h.1.2⟩, h2⟩, h.2⟩
theorem sp_e1_F1 {ft R P j : Nat} (h : sp_f2 ft R j (P / 12) = false) : ¬ sp_e1 ft R P j = true := by
  intro z
  have : sp_f2 ft R j (P / 12) = true := by
    unfold sp_e1 at z
    unfold sp_f2
    simp only [Bool.and_eq_true, Bool.not_eq_true', decide_eq_false_iff_not, decide_eq_true_eq] at z ⊢
    exact ⟨⟨z.1.1.1, z.1.1.2⟩, z.2⟩
  rw [h] at this
  cases this
theorem sp_e1_F2 {ft R P j : Nat} (h : j = P % 12) : ¬ sp_e1 ft R P j = true := by
  intro z
  unfold sp_e1 at z
  simp only [Bool.and_eq_true, Bool.not_eq_true', decide_eq_false_iff_not, decide_eq_true_eq] at z
  exact z.1.2 h
theorem sp_e0_T {ft R P j x : Nat} (hk : ¬ x = 4) (h : sp_f2 ft R j (P % 12) = true) (h2 : ¬ j = P / 12) : sp_e0 ft R (decide (x = 4)) P j = true := by
  unfold sp_f2 at h
  unfold sp_e0
  simp only [Bool.and_eq_true, Bool.not_eq_true', decide_eq_false_iff_not, decide_eq_true_eq] at h ⊢
  exact ⟨⟨⟨⟨h.1.1, h2⟩, h.1.2⟩, hk⟩, h.2⟩
theorem sp_e0_F1 {ft R P j x : Nat} (h : sp_f2 ft R j (P % 12) = false) : ¬ sp_e0 ft R (decide (x = 4)) P j = true := by
  intro z
  have : sp_f2 ft R j (P % 12) = true := by
    unfold sp_e0 at z
    unfold sp_f2
    simp only [Bool.and_eq_true, Bool.not_eq_true', decide_eq_false_iff_not, decide_eq_true_eq] at z ⊢
    exact ⟨⟨z.1.1.1.1, z.1.1.2⟩, z.2⟩
  rw [h] at this
  cases this
theorem sp_e0_F2 {ft R P j x : Nat} (h : j = P / 12) : ¬ sp_e0 ft R (decide (x = 4)) P j = true := by
  intro z
  unfold sp_e0 at z
  simp only [Bool.and_eq_true, Bool.not_eq_true', decide_eq_false_iff_not, decide_eq_true_eq] at z
  exact z.1.1.1.2 h
theorem sp_e0_F3 {ft R P j x : Nat} (h : x = 4) : ¬ sp_e0 ft R (decide (x = 4)) P j = true := by
  intro z
  unfold sp_e0 at z
  simp only [Bool.and_eq_true, Bool.not_eq_true', decide_eq_false_iff_not, decide_eq_true_eq] at z
  exact z.1.2 h
/-- the joints on which an arm can set a hand, as bits -/
def sp_ft (f : Nat) (h : Nat → Nat) (i a : Nat) : Nat := f &&& (sp_hb h i (2 * a) ^^^ 4294967295)
theorem sp_ft_N {f i a j : Nat} {h : Nat → Nat} (hj : j < 32) (hw : sp_wo h j (2 * a) = none) : (sp_ft f h i a).testBit j = f.testBit j := by
  unfold sp_ft
  rw [Nat.testBit_and, sp_m1_bit _ _ hj, sp_hb_dec, decide_eq_true (fun q hq he => absurd he (sp_wo_none.mp hw q hq))]
  simp
theorem sp_ft_S {f i a j q : Nat} {h : Nat → Nat} (oD : ∀ p q, p < 2 * a → q < 2 * a → h p = h q → p = q) (hj : j < 32) (hw : sp_wo h j (2 * a) = some q) : (sp_ft f h i a).testBit j = (f.testBit j && decide (q / 2 = i)) := by
  obtain ⟨h1, h2, -⟩ := sp_wo_some.mp hw
  unfold sp_ft
  rw [Nat.testBit_and, sp_m1_bit _ _ hj, sp_hb_dec, show decide (∀ q, q < 2 * a → h q = j → q / 2 = i) = decide (q / 2 = i) from decide_eq_decide.mpr ⟨fun z => z q h1 h2, fun z p hp he => by rw [oD p q hp h1 (he.trans h2.symm)]; exact z⟩]
  simp
theorem sp_M.fB {M N : am_Mem} {a f hr hs lt : Nat} {k h : Nat → Nat} (hS : sp_M M a f hr hs lt k h) (hF : sp_fB 26 27 17 21 M N) : sp_M N a f hr hs lt k h := by
  obtain ⟨h1, h2, h3, h4, h5, h6, h7⟩ := hS
  exact ⟨(hF _ _ (by decide) (by decide) (fun z => by cases z.2)).trans h1, (hF _ _ (by decide) (by decide) (fun z => by cases z.2)).trans h2, (hF _ _ (by decide) (by decide) (fun z => by cases z.2)).trans h3, (hF _ _ (by decide) (by decide) (fun z => by cases z.2)).trans h4, (hF _ _ (by decide) (by decide) (fun z => by cases z.2)).trans h5, fun q hq => (hF _ _ (by decide) (by decide) (fun z => by cases z.1)).trans (h6 q hq), fun q hq => (hF _ _ (by decide) (by decide) (fun z => by cases z.1)).trans (h7 q hq)⟩

set_option maxHeartbeats 4000000 in
theorem t_lines_none {M : am_Mem} {s : Nat → Option Nat} {u : Nat → Nat} {n x : Nat} (hR : sp_R 26 27 17 21 M s u n) (hx : x < 144) {v : Nat} (hn : n < 144) (hs : s x = none) : am_go 134 (am_ent 134 [.ref 17, .int (nI x), .int (nI v)] M) (am_rv (fun N => sp_R 26 27 17 21 N (sp_ps s x v) (sp_pu s u n x) (sp_pn s n x) ∧ sp_fB 26 27 17 21 M N)) := by
  have hRn := hR.2.2
  refine am_goR 3 (s2 := (5, [.ref 17, .int (nI x), .int (nI v)], [.int (nI x), .ref 26], M)) rfl ?_
  refine am_goL2 (pc := 6) (ls := [.ref 17, .int (nI x), .int (nI v)]) (r := []) (M := M) (a := 26) (n := 144) (x) ((-nI 9)) rfl rfl (by omega) (by decide) ((hR.1 _ (by omega)).trans (by rw [hs]; rfl)) ?_
  refine am_goR 5 (s2 := (16, [.ref 17, .int (nI x), .int (nI v)], [.int (nI v), .int (nI x), .ref 26], M)) rfl ?_
  refine am_goS (pc := 17) (ls := [.ref 17, .int (nI x), .int (nI v)]) (r := []) (M := M) (a := 26) (n := 144) (v := nI v) (x) rfl rfl (by omega) (by decide) ?_
  refine am_goQ 5 (s1 := (26, [.ref 17, .int (nI x), .int (nI v)], [.int (nI x), .int ((M 17 21)), .ref 27], (am_set M 26 x (nI v)))) (s2 := (26, [.ref 17, .int (nI x), .int (nI v)], [.int (nI x), .int (nI n), .ref 27], (am_set M 26 x (nI v)))) rfl (by simp only [hRn]) ?_
  refine am_goS (pc := 27) (ls := [.ref 17, .int (nI x), .int (nI v)]) (r := []) (M := (am_set M 26 x (nI v))) (a := 27) (n := 144) (v := nI x) (n) rfl rfl (by omega) (by decide) ?_
  refine am_goQ 5 (s1 := (34, [.ref 17, .int (nI x), .int (nI v)], [.int (((M 17 21) + nI 1)), .ref 17], (am_set (am_set M 26 x (nI v)) 27 n (nI x)))) (s2 := (34, [.ref 17, .int (nI x), .int (nI v)], [.int (nI (n + 1)), .ref 17], (am_set (am_set M 26 x (nI v)) 27 n (nI x)))) rfl (by simp only [hRn, nI_add]) ?_
  refine am_goR 1 (s2 := (37, [.ref 17, .int (nI x), .int (nI v)], [], (am_set (am_set (am_set M 26 x (nI v)) 27 n (nI x)) 17 21 (nI (n + 1))))) rfl ?_
  exact am_goE none _ rfl ⟨rfl, hR.push (by decide) hs⟩

set_option maxHeartbeats 4000000 in
theorem t_lines_some {M : am_Mem} {s : Nat → Option Nat} {u : Nat → Nat} {n x : Nat} (hR : sp_R 26 27 17 21 M s u n) (hx : x < 144) {v : Nat} {w : Nat} (hw : w < 2147483648) (hs : s x = some w) : am_go 134 (am_ent 134 [.ref 17, .int (nI x), .int (nI v)] M) (am_rv (fun N => sp_R 26 27 17 21 N (sp_ps s x v) (sp_pu s u n x) (sp_pn s n x) ∧ sp_fB 26 27 17 21 M N)) := by
  have hRn := hR.2.2
  refine am_goR 3 (s2 := (5, [.ref 17, .int (nI x), .int (nI v)], [.int (nI x), .ref 26], M)) rfl ?_
  refine am_goL2 (pc := 6) (ls := [.ref 17, .int (nI x), .int (nI v)]) (r := []) (M := M) (a := 26) (n := 144) (x) (nI w) rfl rfl (by omega) (by decide) ((hR.1 _ (by omega)).trans (by rw [hs]; rfl)) ?_
  refine am_bLT (w) (0) (s1 := (10, [.ref 17, .int (nI x), .int (nI v)], [], M)) (s2 := (9, [.ref 17, .int (nI x), .int (nI v)], [], M)) rfl (by omega) (by omega) (fun c1 => absurd c1 (by omega)) (fun c1 => ?_)
  exact am_goE none _ rfl ⟨rfl, hR.skip hs, sp_fB.rf⟩

theorem t_lines {M : am_Mem} {s : Nat → Option Nat} {u : Nat → Nat} {n x : Nat} (hR : sp_R 26 27 17 21 M s u n) (hx : x < 144) {v : Nat} (hn : s x = none → n < 144) (hw : ∀ e, s x = some e → e < 2147483648) : am_go 134 (am_ent 134 [.ref 17, .int (nI x), .int (nI v)] M) (am_rv (fun N => sp_R 26 27 17 21 N (sp_ps s x v) (sp_pu s u n x) (sp_pn s n x) ∧ sp_fB 26 27 17 21 M N)) := by
  cases hs : s x with
  | none => exact t_lines_none hR hx (hn hs) hs
  | some w => exact t_lines_some hR hx (hw w hs) hs

set_option maxHeartbeats 4000000 in
theorem t_isFree {M : am_Mem} {a f hr hs lt : Nat} {k h : Nat → Nat} (hS : sp_M M a f hr hs lt k h) (hO : sp_ok a f hr lt k h) (oD : ∀ p q, p < 2 * a → q < 2 * a → h p = h q → p = q) {i : Nat} (hi : i < a) {j o : Nat} (hj : j < 12) (ho : o < 12) : am_go 135 (am_ent 135 [.ref 17, .int (nI i), .int (nI j), .int (nI o)] M) (am_is (am_b (sp_f2 (sp_ft f h i a) (sp_rc (k i)) j o)) M) := by
  obtain ⟨hF, hA, hHr, hHs, hLt, hK, hH⟩ := id hS
  obtain ⟨oA, oF, oHr, oLt, oK, oH⟩ := id hO
  have oKi := oK i
  have oR := sp_rc_lt (k i)
  have hds : sp_ds j o < 2000 := by unfold sp_ds; omega
  refine am_goR 2 (s2 := (2, [.ref 17, .int (nI i), .int (nI j), .int (nI o), .null], [.int (nI j), .ref 17], M)) rfl ?_
  rcases hw2 : sp_wo h j (2 * a) with _ | q1
  · refine am_goX (v := (-nI 9)) (M2 := M) (s2 := (5, [.ref 17, .int (nI i), .int (nI j), .int (nI o), .null], [], M)) rfl (t_whoOnN hS.2.1 hO.1 hS.2.2.2.2.2.2 (fun q => by have := hO.2.2.2.2.2 q; omega) (j := j) (by omega) hw2) ?_
    refine am_goR 3 (s2 := (9, [.ref 17, .int (nI i), .int (nI j), .int (nI o), .int ((-nI 9))], [.int (nI j), .ref 17], M)) rfl ?_
    refine am_goX (v := am_b (f.testBit j)) (M2 := M) (s2 := (12, [.ref 17, .int (nI i), .int (nI j), .int (nI o), .int ((-nI 9))], [], M)) rfl (t_isFixed hS hO (j := j) (by omega)) ?_
    refine am_bB0 (f.testBit j) (s1 := (54, [.ref 17, .int (nI i), .int (nI j), .int (nI o), .int ((-nI 9))], [], M)) (s2 := (15, [.ref 17, .int (nI i), .int (nI j), .int (nI o), .int ((-nI 9))], [], M)) rfl (fun c3 => ?_) (fun c3 => ?_)
    · refine am_goR 1 (s2 := (55, [.ref 17, .int (nI i), .int (nI j), .int (nI o), .int ((-nI 9))], [.int (nI 0)], M)) rfl ?_
      exact am_endz false _ rfl (by unfold sp_f2; first | (rw [sp_ft_N (by omega) (by assumption)]; generalize sp_rc (k i) = R at *; simp [*]; done) | (rw [sp_ft_S oD (by omega) (by assumption)]; generalize sp_rc (k i) = R at *; simp [*]; done) | (rw [sp_ft_N (by omega) (by assumption)]; generalize sp_rc (k i) = R at *; simp [*] <;> omega) | (rw [sp_ft_S oD (by omega) (by assumption)]; generalize sp_rc (k i) = R at *; simp [*] <;> omega)) (rfl)
    · refine am_goR 2 (s2 := (17, [.ref 17, .int (nI i), .int (nI j), .int (nI o), .int ((-nI 9))], [.int (nI o), .int (nI j)], M)) rfl ?_
      refine am_bEQ (j) (o) (s1 := (54, [.ref 17, .int (nI i), .int (nI j), .int (nI o), .int ((-nI 9))], [], M)) (s2 := (20, [.ref 17, .int (nI i), .int (nI j), .int (nI o), .int ((-nI 9))], [], M)) rfl (by omega) (by omega) (fun c4 => ?_) (fun c4 => ?_)
      · refine am_goR 1 (s2 := (55, [.ref 17, .int (nI i), .int (nI j), .int (nI o), .int ((-nI 9))], [.int (nI 0)], M)) rfl ?_
        exact am_endz false _ rfl (by unfold sp_f2; first | (rw [sp_ft_N (by omega) (by assumption)]; generalize sp_rc (k i) = R at *; simp [*]; done) | (rw [sp_ft_S oD (by omega) (by assumption)]; generalize sp_rc (k i) = R at *; simp [*]; done) | (rw [sp_ft_N (by omega) (by assumption)]; generalize sp_rc (k i) = R at *; simp [*] <;> omega) | (rw [sp_ft_S oD (by omega) (by assumption)]; generalize sp_rc (k i) = R at *; simp [*] <;> omega)) (rfl)
      · refine am_goR 4 (s2 := (35, [.ref 17, .int (nI i), .int (nI j), .int (nI o), .int ((-nI 9))], [.int (nI o), .int (nI j)], M)) rfl ?_
        refine am_goX (v := nI (sp_ds j o)) (M2 := M) (s2 := (38, [.ref 17, .int (nI i), .int (nI j), .int (nI o), .int ((-nI 9))], [], M)) rfl (t_apart (x := j) (y := o) (by omega) (by omega)) ?_
        refine am_goR 3 (s2 := (43, [.ref 17, .int (nI i), .int (nI j), .int (nI o), .int ((-nI 9))], [.int (nI i), .ref 19, .int (nI (sp_ds j o))], M)) rfl ?_
        refine am_goL2 (pc := 44) (ls := [.ref 17, .int (nI i), .int (nI j), .int (nI o), .int ((-nI 9))]) (r := [.int (nI (sp_ds j o))]) (M := M) (a := 19) (n := 4) (i) (nI (k i)) rfl rfl (by omega) (by decide) (hK _ (by omega)) ?_
        refine am_goX (v := nI (sp_rc (k i))) (M2 := M) (s2 := (47, [.ref 17, .int (nI i), .int (nI j), .int (nI o), .int ((-nI 9))], [.int (nI (sp_ds j o))], M)) rfl (t_reachOf (x := (k i)) (by omega)) ?_
        refine am_bLT ((sp_rc (k i))) ((sp_ds j o)) (s1 := (54, [.ref 17, .int (nI i), .int (nI j), .int (nI o), .int ((-nI 9))], [], M)) (s2 := (50, [.ref 17, .int (nI i), .int (nI j), .int (nI o), .int ((-nI 9))], [], M)) rfl (by omega) (by omega) (fun c5 => ?_) (fun c5 => ?_)
        · refine am_goR 1 (s2 := (55, [.ref 17, .int (nI i), .int (nI j), .int (nI o), .int ((-nI 9))], [.int (nI 0)], M)) rfl ?_
          exact am_endz false _ rfl (by unfold sp_f2; first | (rw [sp_ft_N (by omega) (by assumption)]; generalize sp_rc (k i) = R at *; simp [*]; done) | (rw [sp_ft_S oD (by omega) (by assumption)]; generalize sp_rc (k i) = R at *; simp [*]; done) | (rw [sp_ft_N (by omega) (by assumption)]; generalize sp_rc (k i) = R at *; simp [*] <;> omega) | (rw [sp_ft_S oD (by omega) (by assumption)]; generalize sp_rc (k i) = R at *; simp [*] <;> omega)) (rfl)
        · refine am_goR 2 (s2 := (55, [.ref 17, .int (nI i), .int (nI j), .int (nI o), .int ((-nI 9))], [.int (nI 1)], M)) rfl ?_
          exact am_endz true _ rfl (by unfold sp_f2; first | (rw [sp_ft_N (by omega) (by assumption)]; generalize sp_rc (k i) = R at *; simp [*]; done) | (rw [sp_ft_S oD (by omega) (by assumption)]; generalize sp_rc (k i) = R at *; simp [*]; done) | (rw [sp_ft_N (by omega) (by assumption)]; generalize sp_rc (k i) = R at *; simp [*] <;> omega) | (rw [sp_ft_S oD (by omega) (by assumption)]; generalize sp_rc (k i) = R at *; simp [*] <;> omega)) (rfl)
  · refine am_goX (v := nI q1) (M2 := M) (s2 := (5, [.ref 17, .int (nI i), .int (nI j), .int (nI o), .null], [], M)) rfl (t_whoOnS hS.2.1 hO.1 hS.2.2.2.2.2.2 (fun q => by have := hO.2.2.2.2.2 q; omega) (j := j) (by omega) hw2) ?_
    have hq1 := (sp_wo_some.mp hw2).1
    refine am_goR 3 (s2 := (9, [.ref 17, .int (nI i), .int (nI j), .int (nI o), .int (nI q1)], [.int (nI j), .ref 17], M)) rfl ?_
    refine am_goX (v := am_b (f.testBit j)) (M2 := M) (s2 := (12, [.ref 17, .int (nI i), .int (nI j), .int (nI o), .int (nI q1)], [], M)) rfl (t_isFixed hS hO (j := j) (by omega)) ?_
    refine am_bB0 (f.testBit j) (s1 := (54, [.ref 17, .int (nI i), .int (nI j), .int (nI o), .int (nI q1)], [], M)) (s2 := (15, [.ref 17, .int (nI i), .int (nI j), .int (nI o), .int (nI q1)], [], M)) rfl (fun c6 => ?_) (fun c6 => ?_)
    · refine am_goR 1 (s2 := (55, [.ref 17, .int (nI i), .int (nI j), .int (nI o), .int (nI q1)], [.int (nI 0)], M)) rfl ?_
      exact am_endz false _ rfl (by unfold sp_f2; first | (rw [sp_ft_N (by omega) (by assumption)]; generalize sp_rc (k i) = R at *; simp [*]; done) | (rw [sp_ft_S oD (by omega) (by assumption)]; generalize sp_rc (k i) = R at *; simp [*]; done) | (rw [sp_ft_N (by omega) (by assumption)]; generalize sp_rc (k i) = R at *; simp [*] <;> omega) | (rw [sp_ft_S oD (by omega) (by assumption)]; generalize sp_rc (k i) = R at *; simp [*] <;> omega)) (rfl)
    · refine am_goR 2 (s2 := (17, [.ref 17, .int (nI i), .int (nI j), .int (nI o), .int (nI q1)], [.int (nI o), .int (nI j)], M)) rfl ?_
      refine am_bEQ (j) (o) (s1 := (54, [.ref 17, .int (nI i), .int (nI j), .int (nI o), .int (nI q1)], [], M)) (s2 := (20, [.ref 17, .int (nI i), .int (nI j), .int (nI o), .int (nI q1)], [], M)) rfl (by omega) (by omega) (fun c7 => ?_) (fun c7 => ?_)
      · refine am_goR 1 (s2 := (55, [.ref 17, .int (nI i), .int (nI j), .int (nI o), .int (nI q1)], [.int (nI 0)], M)) rfl ?_
        exact am_endz false _ rfl (by unfold sp_f2; first | (rw [sp_ft_N (by omega) (by assumption)]; generalize sp_rc (k i) = R at *; simp [*]; done) | (rw [sp_ft_S oD (by omega) (by assumption)]; generalize sp_rc (k i) = R at *; simp [*]; done) | (rw [sp_ft_N (by omega) (by assumption)]; generalize sp_rc (k i) = R at *; simp [*] <;> omega) | (rw [sp_ft_S oD (by omega) (by assumption)]; generalize sp_rc (k i) = R at *; simp [*] <;> omega)) (rfl)
      · refine am_goR 1 (s2 := (22, [.ref 17, .int (nI i), .int (nI j), .int (nI o), .int (nI q1)], [.int (nI q1)], M)) rfl ?_
        refine am_bLT (q1) (0) (s1 := (33, [.ref 17, .int (nI i), .int (nI j), .int (nI o), .int (nI q1)], [], M)) (s2 := (25, [.ref 17, .int (nI i), .int (nI j), .int (nI o), .int (nI q1)], [], M)) rfl (by omega) (by omega) (fun c8 => absurd c8 (by omega)) (fun c8 => ?_)
        refine am_goQ 4 (s1 := (30, [.ref 17, .int (nI i), .int (nI j), .int (nI o), .int (nI q1)], [.int (nI i), .int ((nI q1 / nI 2))], M)) (s2 := (30, [.ref 17, .int (nI i), .int (nI j), .int (nI o), .int (nI q1)], [.int (nI i), .int (nI (q1 / 2))], M)) rfl (by simp only [pk_div (a := q1) (d := 2) (by omega) (by omega) (by omega)]) ?_
        refine am_bNE ((q1 / 2)) (i) (s1 := (54, [.ref 17, .int (nI i), .int (nI j), .int (nI o), .int (nI q1)], [], M)) (s2 := (33, [.ref 17, .int (nI i), .int (nI j), .int (nI o), .int (nI q1)], [], M)) rfl (by omega) (by omega) (fun c9 => ?_) (fun c9 => ?_)
        · refine am_goR 1 (s2 := (55, [.ref 17, .int (nI i), .int (nI j), .int (nI o), .int (nI q1)], [.int (nI 0)], M)) rfl ?_
          exact am_endz false _ rfl (by unfold sp_f2; first | (rw [sp_ft_N (by omega) (by assumption)]; generalize sp_rc (k i) = R at *; simp [*]; done) | (rw [sp_ft_S oD (by omega) (by assumption)]; generalize sp_rc (k i) = R at *; simp [*]; done) | (rw [sp_ft_N (by omega) (by assumption)]; generalize sp_rc (k i) = R at *; simp [*] <;> omega) | (rw [sp_ft_S oD (by omega) (by assumption)]; generalize sp_rc (k i) = R at *; simp [*] <;> omega)) (rfl)
        · refine am_goR 2 (s2 := (35, [.ref 17, .int (nI i), .int (nI j), .int (nI o), .int (nI q1)], [.int (nI o), .int (nI j)], M)) rfl ?_
          refine am_goX (v := nI (sp_ds j o)) (M2 := M) (s2 := (38, [.ref 17, .int (nI i), .int (nI j), .int (nI o), .int (nI q1)], [], M)) rfl (t_apart (x := j) (y := o) (by omega) (by omega)) ?_
          refine am_goR 3 (s2 := (43, [.ref 17, .int (nI i), .int (nI j), .int (nI o), .int (nI q1)], [.int (nI i), .ref 19, .int (nI (sp_ds j o))], M)) rfl ?_
          refine am_goL2 (pc := 44) (ls := [.ref 17, .int (nI i), .int (nI j), .int (nI o), .int (nI q1)]) (r := [.int (nI (sp_ds j o))]) (M := M) (a := 19) (n := 4) (i) (nI (k i)) rfl rfl (by omega) (by decide) (hK _ (by omega)) ?_
          refine am_goX (v := nI (sp_rc (k i))) (M2 := M) (s2 := (47, [.ref 17, .int (nI i), .int (nI j), .int (nI o), .int (nI q1)], [.int (nI (sp_ds j o))], M)) rfl (t_reachOf (x := (k i)) (by omega)) ?_
          refine am_bLT ((sp_rc (k i))) ((sp_ds j o)) (s1 := (54, [.ref 17, .int (nI i), .int (nI j), .int (nI o), .int (nI q1)], [], M)) (s2 := (50, [.ref 17, .int (nI i), .int (nI j), .int (nI o), .int (nI q1)], [], M)) rfl (by omega) (by omega) (fun c10 => ?_) (fun c10 => ?_)
          · refine am_goR 1 (s2 := (55, [.ref 17, .int (nI i), .int (nI j), .int (nI o), .int (nI q1)], [.int (nI 0)], M)) rfl ?_
            exact am_endz false _ rfl (by unfold sp_f2; first | (rw [sp_ft_N (by omega) (by assumption)]; generalize sp_rc (k i) = R at *; simp [*]; done) | (rw [sp_ft_S oD (by omega) (by assumption)]; generalize sp_rc (k i) = R at *; simp [*]; done) | (rw [sp_ft_N (by omega) (by assumption)]; generalize sp_rc (k i) = R at *; simp [*] <;> omega) | (rw [sp_ft_S oD (by omega) (by assumption)]; generalize sp_rc (k i) = R at *; simp [*] <;> omega)) (rfl)
          · refine am_goR 2 (s2 := (55, [.ref 17, .int (nI i), .int (nI j), .int (nI o), .int (nI q1)], [.int (nI 1)], M)) rfl ?_
            exact am_endz true _ rfl (by unfold sp_f2; first | (rw [sp_ft_N (by omega) (by assumption)]; generalize sp_rc (k i) = R at *; simp [*]; done) | (rw [sp_ft_S oD (by omega) (by assumption)]; generalize sp_rc (k i) = R at *; simp [*]; done) | (rw [sp_ft_N (by omega) (by assumption)]; generalize sp_rc (k i) = R at *; simp [*] <;> omega) | (rw [sp_ft_S oD (by omega) (by assumption)]; generalize sp_rc (k i) = R at *; simp [*] <;> omega)) (rfl)

set_option maxHeartbeats 4000000 in
theorem t_ways_in {a f hr hs lt : Nat} {k h : Nat → Nat} (hO : sp_ok a f hr lt k h) (oD : ∀ p q, p < 2 * a → q < 2 * a → h p = h q → p = q) {i P d t p0 : Nat} (hi : i < a) (hP : P < 144) (hd200 : d < 200) (ht144 : t < 144) {Q : Option Value → am_Mem → Prop} : ∀ (c p : Nat) (M : am_Mem) (s : Nat → Option Nat) (u : Nat → Nat) (n : Nat), c + p = 13 → p ≤ 12 → sp_M M a f hr hs lt k h → sp_R 26 27 17 21 M s u n → sp_GS (sp_ed (sp_ft f h i a) (sp_rc (k i)) (decide (k i = 4))) p0 d s u n → t < n → u t = P → s P = some d → sp_pj (sp_ft f h i a) (sp_rc (k i)) (decide (k i = 4)) P d s p → (∀ (N : am_Mem) (s9 : Nat → Option Nat) (u9 : Nat → Nat) (n9 : Nat), sp_fB 26 27 17 21 M N → sp_R 26 27 17 21 N s9 u9 n9 → sp_GS (sp_ed (sp_ft f h i a) (sp_rc (k i)) (decide (k i = 4))) p0 d s9 u9 n9 → sp_EX s u n s9 u9 n9 → sp_pj (sp_ft f h i a) (sp_rc (k i)) (decide (k i = 4)) P d s9 12 → am_go 136 (197, [.ref 17, .int (nI i), .int (nI t), .int (nI (P / 12)), .int (nI (P % 12)), .int (nI 12)], [], N) Q) → am_go 136 (89, [.ref 17, .int (nI i), .int (nI t), .int (nI (P / 12)), .int (nI (P % 12)), .int (nI p)], [], M) Q := by
  intro c
  induction c with
  | zero => intro p M s u n h1 h2; omega
  | succ c ih =>
    intro p M s u n h1 h2 hS hR hG ht hu hd hJ kk
    obtain ⟨oA, oF, oHr, oLt, oK, oH⟩ := id hO
    have oKi := oK i
    refine am_goR 2 (s2 := (93, [.ref 17, .int (nI i), .int (nI t), .int (nI (P / 12)), .int (nI (P % 12)), .int (nI p)], [.int (nI 12), .int (nI p)], M)) rfl ?_
    refine am_bLE (12) (p) (s1 := (197, [.ref 17, .int (nI i), .int (nI t), .int (nI (P / 12)), .int (nI (P % 12)), .int (nI p)], [], M)) (s2 := (96, [.ref 17, .int (nI i), .int (nI t), .int (nI (P / 12)), .int (nI (P % 12)), .int (nI p)], [], M)) rfl (by omega) (by omega) (fun c1 => ?_) (fun c1 => ?_)
    · have ep : p = 12 := by omega
      subst ep
      exact kk M s u n sp_fB.rf hR hG sp_EX.rf hJ
    · refine am_goR 4 (s2 := (101, [.ref 17, .int (nI i), .int (nI t), .int (nI (P / 12)), .int (nI (P % 12)), .int (nI p)], [.int (nI (P / 12)), .int (nI p), .int (nI i), .ref 17], M)) rfl ?_
      refine am_goX (v := am_b (sp_f2 (sp_ft f h i a) (sp_rc (k i)) p (P / 12))) (M2 := M) (s2 := (104, [.ref 17, .int (nI i), .int (nI t), .int (nI (P / 12)), .int (nI (P % 12)), .int (nI p)], [], M)) rfl (t_isFree hS hO oD (i := i) (j := p) (o := (P / 12)) hi (by omega) (by omega)) ?_
      refine am_bB0 (sp_f2 (sp_ft f h i a) (sp_rc (k i)) p (P / 12)) (s1 := (138, [.ref 17, .int (nI i), .int (nI t), .int (nI (P / 12)), .int (nI (P % 12)), .int (nI p)], [], M)) (s2 := (107, [.ref 17, .int (nI i), .int (nI t), .int (nI (P / 12)), .int (nI (P % 12)), .int (nI p)], [], M)) rfl (fun c2 => ?_) (fun c2 => ?_)
      · refine am_goR 3 (s2 := (143, [.ref 17, .int (nI i), .int (nI t), .int (nI (P / 12)), .int (nI (P % 12)), .int (nI p)], [.int (nI i), .ref 19], M)) rfl ?_
        refine am_goL2 (pc := 144) (ls := [.ref 17, .int (nI i), .int (nI t), .int (nI (P / 12)), .int (nI (P % 12)), .int (nI p)]) (r := []) (M := M) (a := 19) (n := 4) (i) (nI (k i)) rfl rfl (by omega) (by decide) (hS.2.2.2.2.2.1 _ (by omega)) ?_
        refine am_goR 1 (s2 := (145, [.ref 17, .int (nI i), .int (nI t), .int (nI (P / 12)), .int (nI (P % 12)), .int (nI p)], [.int (nI 4), .int (nI (k i))], M)) rfl ?_
        refine am_bEQ ((k i)) (4) (s1 := (191, [.ref 17, .int (nI i), .int (nI t), .int (nI (P / 12)), .int (nI (P % 12)), .int (nI p)], [], M)) (s2 := (148, [.ref 17, .int (nI i), .int (nI t), .int (nI (P / 12)), .int (nI (P % 12)), .int (nI p)], [], M)) rfl (by omega) (by omega) (fun c3 => ?_) (fun c3 => ?_)
        · refine am_goQ 2 (s1 := (89, [.ref 17, .int (nI i), .int (nI t), .int (nI (P / 12)), .int (nI (P % 12)), .int ((nI p + nI 1))], [], M)) (s2 := (89, [.ref 17, .int (nI i), .int (nI t), .int (nI (P / 12)), .int (nI (P % 12)), .int (nI (p + 1))], [], M)) rfl (by simp only [nI_add]) ?_
          have hjn := sp_pj.succ hJ (fun z => absurd z (by first | exact sp_e0_F3 (by assumption) | exact sp_e0_F1 (by assumption) | exact sp_e0_F2 (by assumption))) (fun z => absurd z (by first | exact sp_e1_F1 (by assumption) | exact sp_e1_F2 (by assumption)))
          exact ih (p + 1) M _ _ _ (by omega) (by omega) hS hR hG ht hu hd hjn (fun N s9 u9 n9 q1 q2 q3 q4 q5 => kk N s9 u9 n9 (sp_fB.tr (sp_fB.rf (cS := 26) (cU := 27) (cn := 17) (kn := 21) (M := M)) q1) q2 q3 (sp_EX.tr (sp_EX.rf (s := s) (u := u) (n := n)) q4) q5)
        · refine am_goR 4 (s2 := (154, [.ref 17, .int (nI i), .int (nI t), .int (nI (P / 12)), .int (nI (P % 12)), .int (nI p)], [.int (nI (P % 12)), .int (nI p), .int (nI i), .ref 17], M)) rfl ?_
          refine am_goX (v := am_b (sp_f2 (sp_ft f h i a) (sp_rc (k i)) p (P % 12))) (M2 := M) (s2 := (157, [.ref 17, .int (nI i), .int (nI t), .int (nI (P / 12)), .int (nI (P % 12)), .int (nI p)], [], M)) rfl (t_isFree hS hO oD (i := i) (j := p) (o := (P % 12)) hi (by omega) (by omega)) ?_
          refine am_bB0 (sp_f2 (sp_ft f h i a) (sp_rc (k i)) p (P % 12)) (s1 := (191, [.ref 17, .int (nI i), .int (nI t), .int (nI (P / 12)), .int (nI (P % 12)), .int (nI p)], [], M)) (s2 := (160, [.ref 17, .int (nI i), .int (nI t), .int (nI (P / 12)), .int (nI (P % 12)), .int (nI p)], [], M)) rfl (fun c4 => ?_) (fun c4 => ?_)
          · refine am_goQ 2 (s1 := (89, [.ref 17, .int (nI i), .int (nI t), .int (nI (P / 12)), .int (nI (P % 12)), .int ((nI p + nI 1))], [], M)) (s2 := (89, [.ref 17, .int (nI i), .int (nI t), .int (nI (P / 12)), .int (nI (P % 12)), .int (nI (p + 1))], [], M)) rfl (by simp only [nI_add]) ?_
            have hjn := sp_pj.succ hJ (fun z => absurd z (by first | exact sp_e0_F3 (by assumption) | exact sp_e0_F1 (by assumption) | exact sp_e0_F2 (by assumption))) (fun z => absurd z (by first | exact sp_e1_F1 (by assumption) | exact sp_e1_F2 (by assumption)))
            exact ih (p + 1) M _ _ _ (by omega) (by omega) hS hR hG ht hu hd hjn (fun N s9 u9 n9 q1 q2 q3 q4 q5 => kk N s9 u9 n9 (sp_fB.tr (sp_fB.rf (cS := 26) (cU := 27) (cn := 17) (kn := 21) (M := M)) q1) q2 q3 (sp_EX.tr (sp_EX.rf (s := s) (u := u) (n := n)) q4) q5)
          · have c4d := sp_f2_ne c4
            refine am_goR 2 (s2 := (163, [.ref 17, .int (nI i), .int (nI t), .int (nI (P / 12)), .int (nI (P % 12)), .int (nI p)], [.int (nI (P / 12)), .int (nI p)], M)) rfl ?_
            refine am_bEQ (p) ((P / 12)) (s1 := (191, [.ref 17, .int (nI i), .int (nI t), .int (nI (P / 12)), .int (nI (P % 12)), .int (nI p)], [], M)) (s2 := (166, [.ref 17, .int (nI i), .int (nI t), .int (nI (P / 12)), .int (nI (P % 12)), .int (nI p)], [], M)) rfl (by omega) (by omega) (fun c5 => ?_) (fun c5 => ?_)
            · refine am_goQ 2 (s1 := (89, [.ref 17, .int (nI i), .int (nI t), .int (nI (P / 12)), .int (nI (P % 12)), .int ((nI p + nI 1))], [], M)) (s2 := (89, [.ref 17, .int (nI i), .int (nI t), .int (nI (P / 12)), .int (nI (P % 12)), .int (nI (p + 1))], [], M)) rfl (by simp only [nI_add]) ?_
              have hjn := sp_pj.succ hJ (fun z => absurd z (by first | exact sp_e0_F3 (by assumption) | exact sp_e0_F1 (by assumption) | exact sp_e0_F2 (by assumption))) (fun z => absurd z (by first | exact sp_e1_F1 (by assumption) | exact sp_e1_F2 (by assumption)))
              exact ih (p + 1) M _ _ _ (by omega) (by omega) hS hR hG ht hu hd hjn (fun N s9 u9 n9 q1 q2 q3 q4 q5 => kk N s9 u9 n9 (sp_fB.tr (sp_fB.rf (cS := 26) (cU := 27) (cn := 17) (kn := 21) (M := M)) q1) q2 q3 (sp_EX.tr (sp_EX.rf (s := s) (u := u) (n := n)) q4) q5)
            · refine am_goQ 11 (s1 := (184, [.ref 17, .int (nI i), .int (nI t), .int (nI (P / 12)), .int (nI (P % 12)), .int (nI p)], [.int (nI t), .ref 27, .ref 26, .int (((nI 12 * nI p) + nI (P % 12))), .ref 17], M)) (s2 := (184, [.ref 17, .int (nI i), .int (nI t), .int (nI (P / 12)), .int (nI (P % 12)), .int (nI p)], [.int (nI t), .ref 27, .ref 26, .int (nI ((12 * p) + (P % 12))), .ref 17], M)) rfl (by simp only [pk_mul, nI_add]) ?_
              refine am_goL2 (pc := 185) (ls := [.ref 17, .int (nI i), .int (nI t), .int (nI (P / 12)), .int (nI (P % 12)), .int (nI p)]) (r := [.ref 26, .int (nI ((12 * p) + (P % 12))), .ref 17]) (M := M) (a := 27) (n := 144) (t) (nI P) rfl rfl (by omega) (by decide) ((hR.2.1 _ ht).trans (by rw [hu])) ?_
              refine am_goL2 (pc := 186) (ls := [.ref 17, .int (nI i), .int (nI t), .int (nI (P / 12)), .int (nI (P % 12)), .int (nI p)]) (r := [.int (nI ((12 * p) + (P % 12))), .ref 17]) (M := M) (a := 26) (n := 144) (P) (nI d) rfl rfl (by omega) (by decide) ((hR.1 _ hP).trans (by rw [hd]; rfl)) ?_
              refine am_goQ 2 (s1 := (188, [.ref 17, .int (nI i), .int (nI t), .int (nI (P / 12)), .int (nI (P % 12)), .int (nI p)], [.int ((nI d + nI 1)), .int (nI ((12 * p) + (P % 12))), .ref 17], M)) (s2 := (188, [.ref 17, .int (nI i), .int (nI t), .int (nI (P / 12)), .int (nI (P % 12)), .int (nI p)], [.int (nI (d + 1)), .int (nI ((12 * p) + (P % 12))), .ref 17], M)) rfl (by simp only [nI_add]) ?_
              refine am_goV (s2 := (191, [.ref 17, .int (nI i), .int (nI t), .int (nI (P / 12)), .int (nI (P % 12)), .int (nI p)], [], M)) rfl (t_lines hR (x := ((12 * p) + (P % 12))) (v := (d + 1)) (by omega) (fun z => hG.1.room (by omega) z) (fun e z => by have := hG.1.small z; omega)) (fun N6 hC6 => ?_)
              obtain ⟨hRN6, hFN6⟩ := hC6
              obtain ⟨s6, u6, n6, hR6, hG6, hX6, hq6⟩ := sp_push_ex hRN6 hG ht hu hd (show sp_ed (sp_ft f h i a) (sp_rc (k i)) (decide (k i = 4)) P _ from ⟨p, by omega, Or.inl ⟨sp_e0_T (by assumption) (by assumption) (by assumption), rfl⟩⟩) (by omega)
              have hS6 := sp_M.fB hS hFN6
              have hX6T := sp_EX.tr (sp_EX.rf (s := s) (u := u) (n := n)) hX6
              have hF6T := sp_fB.tr (sp_fB.rf (cS := 26) (cU := 27) (cn := 17) (kn := 21) (M := M)) hFN6
              have ht6 := Nat.lt_of_lt_of_le ht hX6.1
              have hu6 := (hX6.2.1 _ ht).trans hu
              have hd6 := hX6.2.2 _ _ hd
              have hj6 := sp_pj.ext hJ hX6
              refine am_goQ 2 (s1 := (89, [.ref 17, .int (nI i), .int (nI t), .int (nI (P / 12)), .int (nI (P % 12)), .int ((nI p + nI 1))], [], N6)) (s2 := (89, [.ref 17, .int (nI i), .int (nI t), .int (nI (P / 12)), .int (nI (P % 12)), .int (nI (p + 1))], [], N6)) rfl (by simp only [nI_add]) ?_
              have hjn := sp_pj.succ hj6 (fun _ => hq6) (fun z => absurd z (by first | exact sp_e1_F1 (by assumption) | exact sp_e1_F2 (by assumption)))
              exact ih (p + 1) N6 _ _ _ (by omega) (by omega) hS6 hR6 hG6 ht6 hu6 hd6 hjn (fun N s9 u9 n9 q1 q2 q3 q4 q5 => kk N s9 u9 n9 (sp_fB.tr hF6T q1) q2 q3 (sp_EX.tr hX6T q4) q5)
      · have c2d := sp_f2_ne c2
        refine am_goR 2 (s2 := (111, [.ref 17, .int (nI i), .int (nI t), .int (nI (P / 12)), .int (nI (P % 12)), .int (nI p)], [.int (nI (P % 12)), .int (nI p)], M)) rfl ?_
        refine am_bEQ (p) ((P % 12)) (s1 := (138, [.ref 17, .int (nI i), .int (nI t), .int (nI (P / 12)), .int (nI (P % 12)), .int (nI p)], [], M)) (s2 := (114, [.ref 17, .int (nI i), .int (nI t), .int (nI (P / 12)), .int (nI (P % 12)), .int (nI p)], [], M)) rfl (by omega) (by omega) (fun c7 => ?_) (fun c7 => ?_)
        · refine am_goR 3 (s2 := (143, [.ref 17, .int (nI i), .int (nI t), .int (nI (P / 12)), .int (nI (P % 12)), .int (nI p)], [.int (nI i), .ref 19], M)) rfl ?_
          refine am_goL2 (pc := 144) (ls := [.ref 17, .int (nI i), .int (nI t), .int (nI (P / 12)), .int (nI (P % 12)), .int (nI p)]) (r := []) (M := M) (a := 19) (n := 4) (i) (nI (k i)) rfl rfl (by omega) (by decide) (hS.2.2.2.2.2.1 _ (by omega)) ?_
          refine am_goR 1 (s2 := (145, [.ref 17, .int (nI i), .int (nI t), .int (nI (P / 12)), .int (nI (P % 12)), .int (nI p)], [.int (nI 4), .int (nI (k i))], M)) rfl ?_
          refine am_bEQ ((k i)) (4) (s1 := (191, [.ref 17, .int (nI i), .int (nI t), .int (nI (P / 12)), .int (nI (P % 12)), .int (nI p)], [], M)) (s2 := (148, [.ref 17, .int (nI i), .int (nI t), .int (nI (P / 12)), .int (nI (P % 12)), .int (nI p)], [], M)) rfl (by omega) (by omega) (fun c8 => ?_) (fun c8 => ?_)
          · refine am_goQ 2 (s1 := (89, [.ref 17, .int (nI i), .int (nI t), .int (nI (P / 12)), .int (nI (P % 12)), .int ((nI p + nI 1))], [], M)) (s2 := (89, [.ref 17, .int (nI i), .int (nI t), .int (nI (P / 12)), .int (nI (P % 12)), .int (nI (p + 1))], [], M)) rfl (by simp only [nI_add]) ?_
            have hjn := sp_pj.succ hJ (fun z => absurd z (by first | exact sp_e0_F3 (by assumption) | exact sp_e0_F1 (by assumption) | exact sp_e0_F2 (by assumption))) (fun z => absurd z (by first | exact sp_e1_F1 (by assumption) | exact sp_e1_F2 (by assumption)))
            exact ih (p + 1) M _ _ _ (by omega) (by omega) hS hR hG ht hu hd hjn (fun N s9 u9 n9 q1 q2 q3 q4 q5 => kk N s9 u9 n9 (sp_fB.tr (sp_fB.rf (cS := 26) (cU := 27) (cn := 17) (kn := 21) (M := M)) q1) q2 q3 (sp_EX.tr (sp_EX.rf (s := s) (u := u) (n := n)) q4) q5)
          · refine am_goR 4 (s2 := (154, [.ref 17, .int (nI i), .int (nI t), .int (nI (P / 12)), .int (nI (P % 12)), .int (nI p)], [.int (nI (P % 12)), .int (nI p), .int (nI i), .ref 17], M)) rfl ?_
            refine am_goX (v := am_b (sp_f2 (sp_ft f h i a) (sp_rc (k i)) p (P % 12))) (M2 := M) (s2 := (157, [.ref 17, .int (nI i), .int (nI t), .int (nI (P / 12)), .int (nI (P % 12)), .int (nI p)], [], M)) rfl (t_isFree hS hO oD (i := i) (j := p) (o := (P % 12)) hi (by omega) (by omega)) ?_
            refine am_bB0 (sp_f2 (sp_ft f h i a) (sp_rc (k i)) p (P % 12)) (s1 := (191, [.ref 17, .int (nI i), .int (nI t), .int (nI (P / 12)), .int (nI (P % 12)), .int (nI p)], [], M)) (s2 := (160, [.ref 17, .int (nI i), .int (nI t), .int (nI (P / 12)), .int (nI (P % 12)), .int (nI p)], [], M)) rfl (fun c9 => ?_) (fun c9 => absurd c9 (by first | (simp [*]; done) | (intro z; exact sp_f2_ne z (by assumption))))
            refine am_goQ 2 (s1 := (89, [.ref 17, .int (nI i), .int (nI t), .int (nI (P / 12)), .int (nI (P % 12)), .int ((nI p + nI 1))], [], M)) (s2 := (89, [.ref 17, .int (nI i), .int (nI t), .int (nI (P / 12)), .int (nI (P % 12)), .int (nI (p + 1))], [], M)) rfl (by simp only [nI_add]) ?_
            have hjn := sp_pj.succ hJ (fun z => absurd z (by first | exact sp_e0_F3 (by assumption) | exact sp_e0_F1 (by assumption) | exact sp_e0_F2 (by assumption))) (fun z => absurd z (by first | exact sp_e1_F1 (by assumption) | exact sp_e1_F2 (by assumption)))
            exact ih (p + 1) M _ _ _ (by omega) (by omega) hS hR hG ht hu hd hjn (fun N s9 u9 n9 q1 q2 q3 q4 q5 => kk N s9 u9 n9 (sp_fB.tr (sp_fB.rf (cS := 26) (cU := 27) (cn := 17) (kn := 21) (M := M)) q1) q2 q3 (sp_EX.tr (sp_EX.rf (s := s) (u := u) (n := n)) q4) q5)
        · refine am_goQ 11 (s1 := (131, [.ref 17, .int (nI i), .int (nI t), .int (nI (P / 12)), .int (nI (P % 12)), .int (nI p)], [.int (nI t), .ref 27, .ref 26, .int (((nI 12 * nI (P / 12)) + nI p)), .ref 17], M)) (s2 := (131, [.ref 17, .int (nI i), .int (nI t), .int (nI (P / 12)), .int (nI (P % 12)), .int (nI p)], [.int (nI t), .ref 27, .ref 26, .int (nI ((12 * (P / 12)) + p)), .ref 17], M)) rfl (by simp only [pk_mul, nI_add]) ?_
          refine am_goL2 (pc := 132) (ls := [.ref 17, .int (nI i), .int (nI t), .int (nI (P / 12)), .int (nI (P % 12)), .int (nI p)]) (r := [.ref 26, .int (nI ((12 * (P / 12)) + p)), .ref 17]) (M := M) (a := 27) (n := 144) (t) (nI P) rfl rfl (by omega) (by decide) ((hR.2.1 _ ht).trans (by rw [hu])) ?_
          refine am_goL2 (pc := 133) (ls := [.ref 17, .int (nI i), .int (nI t), .int (nI (P / 12)), .int (nI (P % 12)), .int (nI p)]) (r := [.int (nI ((12 * (P / 12)) + p)), .ref 17]) (M := M) (a := 26) (n := 144) (P) (nI d) rfl rfl (by omega) (by decide) ((hR.1 _ hP).trans (by rw [hd]; rfl)) ?_
          refine am_goQ 2 (s1 := (135, [.ref 17, .int (nI i), .int (nI t), .int (nI (P / 12)), .int (nI (P % 12)), .int (nI p)], [.int ((nI d + nI 1)), .int (nI ((12 * (P / 12)) + p)), .ref 17], M)) (s2 := (135, [.ref 17, .int (nI i), .int (nI t), .int (nI (P / 12)), .int (nI (P % 12)), .int (nI p)], [.int (nI (d + 1)), .int (nI ((12 * (P / 12)) + p)), .ref 17], M)) rfl (by simp only [nI_add]) ?_
          refine am_goV (s2 := (138, [.ref 17, .int (nI i), .int (nI t), .int (nI (P / 12)), .int (nI (P % 12)), .int (nI p)], [], M)) rfl (t_lines hR (x := ((12 * (P / 12)) + p)) (v := (d + 1)) (by omega) (fun z => hG.1.room (by omega) z) (fun e z => by have := hG.1.small z; omega)) (fun N10 hC10 => ?_)
          obtain ⟨hRN10, hFN10⟩ := hC10
          obtain ⟨s10, u10, n10, hR10, hG10, hX10, hq10⟩ := sp_push_ex hRN10 hG ht hu hd (show sp_ed (sp_ft f h i a) (sp_rc (k i)) (decide (k i = 4)) P _ from ⟨p, by omega, Or.inr ⟨sp_e1_T (by assumption) (by assumption), rfl⟩⟩) (by omega)
          have hS10 := sp_M.fB hS hFN10
          have hX10T := sp_EX.tr (sp_EX.rf (s := s) (u := u) (n := n)) hX10
          have hF10T := sp_fB.tr (sp_fB.rf (cS := 26) (cU := 27) (cn := 17) (kn := 21) (M := M)) hFN10
          have ht10 := Nat.lt_of_lt_of_le ht hX10.1
          have hu10 := (hX10.2.1 _ ht).trans hu
          have hd10 := hX10.2.2 _ _ hd
          have hj10 := sp_pj.ext hJ hX10
          refine am_goR 3 (s2 := (143, [.ref 17, .int (nI i), .int (nI t), .int (nI (P / 12)), .int (nI (P % 12)), .int (nI p)], [.int (nI i), .ref 19], N10)) rfl ?_
          refine am_goL2 (pc := 144) (ls := [.ref 17, .int (nI i), .int (nI t), .int (nI (P / 12)), .int (nI (P % 12)), .int (nI p)]) (r := []) (M := N10) (a := 19) (n := 4) (i) (nI (k i)) rfl rfl (by omega) (by decide) (hS10.2.2.2.2.2.1 _ (by omega)) ?_
          refine am_goR 1 (s2 := (145, [.ref 17, .int (nI i), .int (nI t), .int (nI (P / 12)), .int (nI (P % 12)), .int (nI p)], [.int (nI 4), .int (nI (k i))], N10)) rfl ?_
          refine am_bEQ ((k i)) (4) (s1 := (191, [.ref 17, .int (nI i), .int (nI t), .int (nI (P / 12)), .int (nI (P % 12)), .int (nI p)], [], N10)) (s2 := (148, [.ref 17, .int (nI i), .int (nI t), .int (nI (P / 12)), .int (nI (P % 12)), .int (nI p)], [], N10)) rfl (by omega) (by omega) (fun c11 => ?_) (fun c11 => ?_)
          · refine am_goQ 2 (s1 := (89, [.ref 17, .int (nI i), .int (nI t), .int (nI (P / 12)), .int (nI (P % 12)), .int ((nI p + nI 1))], [], N10)) (s2 := (89, [.ref 17, .int (nI i), .int (nI t), .int (nI (P / 12)), .int (nI (P % 12)), .int (nI (p + 1))], [], N10)) rfl (by simp only [nI_add]) ?_
            have hjn := sp_pj.succ hj10 (fun z => absurd z (by first | exact sp_e0_F3 (by assumption) | exact sp_e0_F1 (by assumption) | exact sp_e0_F2 (by assumption))) (fun _ => hq10)
            exact ih (p + 1) N10 _ _ _ (by omega) (by omega) hS10 hR10 hG10 ht10 hu10 hd10 hjn (fun N s9 u9 n9 q1 q2 q3 q4 q5 => kk N s9 u9 n9 (sp_fB.tr hF10T q1) q2 q3 (sp_EX.tr hX10T q4) q5)
          · refine am_goR 4 (s2 := (154, [.ref 17, .int (nI i), .int (nI t), .int (nI (P / 12)), .int (nI (P % 12)), .int (nI p)], [.int (nI (P % 12)), .int (nI p), .int (nI i), .ref 17], N10)) rfl ?_
            refine am_goX (v := am_b (sp_f2 (sp_ft f h i a) (sp_rc (k i)) p (P % 12))) (M2 := N10) (s2 := (157, [.ref 17, .int (nI i), .int (nI t), .int (nI (P / 12)), .int (nI (P % 12)), .int (nI p)], [], N10)) rfl (t_isFree hS10 hO oD (i := i) (j := p) (o := (P % 12)) hi (by omega) (by omega)) ?_
            refine am_bB0 (sp_f2 (sp_ft f h i a) (sp_rc (k i)) p (P % 12)) (s1 := (191, [.ref 17, .int (nI i), .int (nI t), .int (nI (P / 12)), .int (nI (P % 12)), .int (nI p)], [], N10)) (s2 := (160, [.ref 17, .int (nI i), .int (nI t), .int (nI (P / 12)), .int (nI (P % 12)), .int (nI p)], [], N10)) rfl (fun c12 => ?_) (fun c12 => ?_)
            · refine am_goQ 2 (s1 := (89, [.ref 17, .int (nI i), .int (nI t), .int (nI (P / 12)), .int (nI (P % 12)), .int ((nI p + nI 1))], [], N10)) (s2 := (89, [.ref 17, .int (nI i), .int (nI t), .int (nI (P / 12)), .int (nI (P % 12)), .int (nI (p + 1))], [], N10)) rfl (by simp only [nI_add]) ?_
              have hjn := sp_pj.succ hj10 (fun z => absurd z (by first | exact sp_e0_F3 (by assumption) | exact sp_e0_F1 (by assumption) | exact sp_e0_F2 (by assumption))) (fun _ => hq10)
              exact ih (p + 1) N10 _ _ _ (by omega) (by omega) hS10 hR10 hG10 ht10 hu10 hd10 hjn (fun N s9 u9 n9 q1 q2 q3 q4 q5 => kk N s9 u9 n9 (sp_fB.tr hF10T q1) q2 q3 (sp_EX.tr hX10T q4) q5)
            · have c12d := sp_f2_ne c12
              refine am_goR 2 (s2 := (163, [.ref 17, .int (nI i), .int (nI t), .int (nI (P / 12)), .int (nI (P % 12)), .int (nI p)], [.int (nI (P / 12)), .int (nI p)], N10)) rfl ?_
              refine am_bEQ (p) ((P / 12)) (s1 := (191, [.ref 17, .int (nI i), .int (nI t), .int (nI (P / 12)), .int (nI (P % 12)), .int (nI p)], [], N10)) (s2 := (166, [.ref 17, .int (nI i), .int (nI t), .int (nI (P / 12)), .int (nI (P % 12)), .int (nI p)], [], N10)) rfl (by omega) (by omega) (fun c13 => absurd c13 (by omega)) (fun c13 => ?_)
              refine am_goQ 11 (s1 := (184, [.ref 17, .int (nI i), .int (nI t), .int (nI (P / 12)), .int (nI (P % 12)), .int (nI p)], [.int (nI t), .ref 27, .ref 26, .int (((nI 12 * nI p) + nI (P % 12))), .ref 17], N10)) (s2 := (184, [.ref 17, .int (nI i), .int (nI t), .int (nI (P / 12)), .int (nI (P % 12)), .int (nI p)], [.int (nI t), .ref 27, .ref 26, .int (nI ((12 * p) + (P % 12))), .ref 17], N10)) rfl (by simp only [pk_mul, nI_add]) ?_
              refine am_goL2 (pc := 185) (ls := [.ref 17, .int (nI i), .int (nI t), .int (nI (P / 12)), .int (nI (P % 12)), .int (nI p)]) (r := [.ref 26, .int (nI ((12 * p) + (P % 12))), .ref 17]) (M := N10) (a := 27) (n := 144) (t) (nI P) rfl rfl (by omega) (by decide) ((hR10.2.1 _ ht10).trans (by rw [hu10])) ?_
              refine am_goL2 (pc := 186) (ls := [.ref 17, .int (nI i), .int (nI t), .int (nI (P / 12)), .int (nI (P % 12)), .int (nI p)]) (r := [.int (nI ((12 * p) + (P % 12))), .ref 17]) (M := N10) (a := 26) (n := 144) (P) (nI d) rfl rfl (by omega) (by decide) ((hR10.1 _ hP).trans (by rw [hd10]; rfl)) ?_
              refine am_goQ 2 (s1 := (188, [.ref 17, .int (nI i), .int (nI t), .int (nI (P / 12)), .int (nI (P % 12)), .int (nI p)], [.int ((nI d + nI 1)), .int (nI ((12 * p) + (P % 12))), .ref 17], N10)) (s2 := (188, [.ref 17, .int (nI i), .int (nI t), .int (nI (P / 12)), .int (nI (P % 12)), .int (nI p)], [.int (nI (d + 1)), .int (nI ((12 * p) + (P % 12))), .ref 17], N10)) rfl (by simp only [nI_add]) ?_
              refine am_goV (s2 := (191, [.ref 17, .int (nI i), .int (nI t), .int (nI (P / 12)), .int (nI (P % 12)), .int (nI p)], [], N10)) rfl (t_lines hR10 (x := ((12 * p) + (P % 12))) (v := (d + 1)) (by omega) (fun z => hG10.1.room (by omega) z) (fun e z => by have := hG10.1.small z; omega)) (fun N14 hC14 => ?_)
              obtain ⟨hRN14, hFN14⟩ := hC14
              obtain ⟨s14, u14, n14, hR14, hG14, hX14, hq14⟩ := sp_push_ex hRN14 hG10 ht10 hu10 hd10 (show sp_ed (sp_ft f h i a) (sp_rc (k i)) (decide (k i = 4)) P _ from ⟨p, by omega, Or.inl ⟨sp_e0_T (by assumption) (by assumption) (by assumption), rfl⟩⟩) (by omega)
              have hS14 := sp_M.fB hS10 hFN14
              have hX14T := sp_EX.tr hX10T hX14
              have hF14T := sp_fB.tr hF10T hFN14
              have ht14 := Nat.lt_of_lt_of_le ht10 hX14.1
              have hu14 := (hX14.2.1 _ ht10).trans hu10
              have hd14 := hX14.2.2 _ _ hd10
              have hj14 := sp_pj.ext hj10 hX14
              refine am_goQ 2 (s1 := (89, [.ref 17, .int (nI i), .int (nI t), .int (nI (P / 12)), .int (nI (P % 12)), .int ((nI p + nI 1))], [], N14)) (s2 := (89, [.ref 17, .int (nI i), .int (nI t), .int (nI (P / 12)), .int (nI (P % 12)), .int (nI (p + 1))], [], N14)) rfl (by simp only [nI_add]) ?_
              have hjn := sp_pj.succ hj14 (fun _ => hq14) (fun _ => (by obtain ⟨e, e1, e2⟩ := hq10; exact ⟨e, e1, hX14.2.2 _ _ e2⟩))
              exact ih (p + 1) N14 _ _ _ (by omega) (by omega) hS14 hR14 hG14 ht14 hu14 hd14 hjn (fun N s9 u9 n9 q1 q2 q3 q4 q5 => kk N s9 u9 n9 (sp_fB.tr hF14T q1) q2 q3 (sp_EX.tr hX14T q4) q5)
set_option maxHeartbeats 4000000 in
theorem t_ways_clear {i : Nat} {Q : Option Value → am_Mem → Prop} : ∀ (c p : Nat) (M : am_Mem), c + p = 145 → p ≤ 144 → (∀ q, q < p → M 26 q = -nI 9) → (∀ N, sp_fB 26 27 17 21 M N → (∀ q, q < 144 → N 26 q = -nI 9) → am_go 136 (23, [.ref 17, .int (nI i), .int (nI 144), .null, .null, .null], [], N) Q) → am_go 136 (2, [.ref 17, .int (nI i), .int (nI p), .null, .null, .null], [], M) Q := by
  intro c
  induction c with
  | zero => intro p M h1 h2; omega
  | succ c ih =>
    intro p M h1 h2 hz kk
    refine am_goR 2 (s2 := (6, [.ref 17, .int (nI i), .int (nI p), .null, .null, .null], [.int (nI 144), .int (nI p)], M)) rfl ?_
    refine am_bLE (144) (p) (s1 := (23, [.ref 17, .int (nI i), .int (nI p), .null, .null, .null], [], M)) (s2 := (9, [.ref 17, .int (nI i), .int (nI p), .null, .null, .null], [], M)) rfl (by omega) (by omega) (fun c1 => ?_) (fun c1 => ?_)
    · have ep : p = 144 := by omega
      subst ep
      exact kk M sp_fB.rf hz
    · refine am_goR 4 (s2 := (16, [.ref 17, .int (nI i), .int (nI p), .null, .null, .null], [.int ((-nI 9)), .int (nI p), .ref 26], M)) rfl ?_
      refine am_goS (pc := 17) (ls := [.ref 17, .int (nI i), .int (nI p), .null, .null, .null]) (r := []) (M := M) (a := 26) (n := 144) (v := (-nI 9)) (p) rfl rfl (by omega) (by decide) ?_
      refine am_goQ 2 (s1 := (2, [.ref 17, .int (nI i), .int ((nI p + nI 1)), .null, .null, .null], [], (am_set M 26 p ((-nI 9))))) (s2 := (2, [.ref 17, .int (nI i), .int (nI (p + 1)), .null, .null, .null], [], (am_set M 26 p ((-nI 9))))) rfl (by simp only [nI_add]) ?_
      refine ih (p + 1) (am_set M 26 p ((-nI 9))) (by omega) (by omega) (fun q hq => ?_) (fun N hF h9 => kk N (sp_fB.tr (fun x y a b c => ?_) hF) h9)
      · simp only [am_set]
        by_cases e : q = p
        · rw [if_pos ⟨trivial, e⟩]
        · rw [if_neg (fun z => e z.2)]; exact hz q (by omega)
      · simp only [am_set, a, false_and, if_false]
set_option maxRecDepth 100000 in
set_option maxHeartbeats 4000000 in
theorem t_ways_loop {a f hr hs lt : Nat} {k h : Nat → Nat} (hO : sp_ok a f hr lt k h) (oD : ∀ p q, p < 2 * a → q < 2 * a → h p = h q → p = q) {i p0 : Nat} (hi : i < a) : ∀ (c t : Nat) (M : am_Mem) (s : Nat → Option Nat) (u : Nat → Nat) (n : Nat) (v3 v4 v5 : Value), c + t = 145 → t ≤ n → sp_M M a f hr hs lt k h → sp_R 26 27 17 21 M s u n → sp_BI (sp_ed (sp_ft f h i a) (sp_rc (k i)) (decide (k i = 4))) p0 s u n → sp_dn (sp_ed (sp_ft f h i a) (sp_rc (k i)) (decide (k i = 4))) s u t → (t < n → ∀ d, s (u t) = some d → ∀ b e, b < n → s (u b) = some e → e ≤ d + 1) → am_go 136 (57, [.ref 17, .int (nI i), .int (nI t), v3, v4, v5], [], M) (am_rv (fun N => sp_fB 26 27 17 21 M N ∧ ∃ (s : Nat → Option Nat) (u : Nat → Nat) (n : Nat), sp_R 26 27 17 21 N s u n ∧ sp_BI (sp_ed (sp_ft f h i a) (sp_rc (k i)) (decide (k i = 4))) p0 s u n ∧ sp_DI (sp_ed (sp_ft f h i a) (sp_rc (k i)) (decide (k i = 4))) p0 s)) := by
  intro c
  induction c with
  | zero => intro t M s u n v3 v4 v5 h1 h2 hS hR hB; have := hB.le; omega
  | succ c ih =>
    intro t M s u n v3 v4 v5 h1 h2 hS hR hB hdn h3
    have hRn := hR.2.2
    have hn := hB.le
    obtain ⟨oA, oF, oHr, oLt, oK, oH⟩ := id hO
    refine am_goQ 3 (s1 := (62, [.ref 17, .int (nI i), .int (nI t), v3, v4, v5], [.int ((M 17 21)), .int (nI t)], M)) (s2 := (62, [.ref 17, .int (nI i), .int (nI t), v3, v4, v5], [.int (nI n), .int (nI t)], M)) rfl (by simp only [hRn]) ?_
    refine am_bLE (n) (t) (s1 := (203, [.ref 17, .int (nI i), .int (nI t), v3, v4, v5], [], M)) (s2 := (65, [.ref 17, .int (nI i), .int (nI t), v3, v4, v5], [], M)) rfl (by omega) (by omega) (fun c1 => ?_) (fun c1 => ?_)
    · have ep : t = n := by omega
      subst ep
      exact am_goE none _ rfl ⟨rfl, sp_fB.rf, s, u, t, hR, hB, sp_dn.end hB hdn⟩
    · refine am_goR 3 (s2 := (70, [.ref 17, .int (nI i), .int (nI t), v3, v4, v5], [.int (nI t), .ref 27], M)) rfl ?_
      obtain ⟨hP0, d, hd0, -⟩ := hB.2.1 t (by omega)
      obtain ⟨P, hu⟩ : ∃ P, u t = P := ⟨_, rfl⟩
      have hP : P < 144 := by rw [← hu]; exact hP0
      have hd : s P = some d := by rw [← hu]; exact hd0
      refine am_goL2 (pc := 71) (ls := [.ref 17, .int (nI i), .int (nI t), v3, v4, v5]) (r := []) (M := M) (a := 27) (n := 144) (t) (nI P) rfl rfl (by omega) (by decide) ((hR.2.1 _ (by omega)).trans (by rw [hu])) ?_
      refine am_goQ 6 (s1 := (80, [.ref 17, .int (nI i), .int (nI t), .int ((nI P / nI 12)), v4, v5], [.int (nI t), .ref 27], M)) (s2 := (80, [.ref 17, .int (nI i), .int (nI t), .int (nI (P / 12)), v4, v5], [.int (nI t), .ref 27], M)) rfl (by simp only [pk_div (a := P) (d := 12) (by omega) (by omega) (by omega)]) ?_
      refine am_goL2 (pc := 81) (ls := [.ref 17, .int (nI i), .int (nI t), .int (nI (P / 12)), v4, v5]) (r := []) (M := M) (a := 27) (n := 144) (t) (nI P) rfl rfl (by omega) (by decide) ((hR.2.1 _ (by omega)).trans (by rw [hu])) ?_
      refine am_goQ 5 (s1 := (89, [.ref 17, .int (nI i), .int (nI t), .int (nI (P / 12)), .int ((nI P - nI P / nI 12 * nI 12)), .int (nI 0)], [], M)) (s2 := (89, [.ref 17, .int (nI i), .int (nI t), .int (nI (P / 12)), .int (nI (P % 12)), .int (nI 0)], [], M)) rfl (by rw [pk_rem (a := P) (d := 12) (by omega) (by omega) (by omega)]) ?_
      refine t_ways_in (d := d) (p0 := p0) hO oD hi hP (by have := hB.small hd; omega) (by omega) 13 0 M s u n (by omega) (by omega) hS hR (sp_GS.of hB (t := t) (by rw [hu]; exact hd) (h3 (by omega) d (by rw [hu]; exact hd))) (by omega) hu hd (fun j hj => absurd hj (Nat.not_lt_zero j)) (fun N s9 u9 n9 q1 q2 q3 q4 q5 => ?_)
      refine am_goQ 2 (s1 := (57, [.ref 17, .int (nI i), .int (nI t + nI 1), .int (nI (P / 12)), .int (nI (P % 12)), .int (nI 12)], [], N)) (s2 := (57, [.ref 17, .int (nI i), .int (nI (t + 1)), .int (nI (P / 12)), .int (nI (P % 12)), .int (nI 12)], [], N)) rfl (by simp only [nI_add]) ?_
      have hut : u t = P := hu
      subst hut
      have hle := q4.1
      refine am_goW (ih (t + 1) N s9 u9 n9 _ _ _ (by omega) (by omega) (sp_M.fB hS q1) q2 q3.1 (sp_dn.next hdn hB (by omega) hd q4 q5) (fun h9 d2 hd2 => (sp_GS.next q3 h9 (by rw [q4.2.1 t (by omega)]; exact q4.2.2 _ _ hd) hd2).2)) (fun r O hr => ?_)
      obtain ⟨rfl, r1, r2⟩ := hr
      exact ⟨rfl, sp_fB.tr q1 r1, r2⟩
set_option maxHeartbeats 4000000 in
theorem t_ways {M : am_Mem} {a f hr hs lt : Nat} {k h : Nat → Nat} (hS : sp_M M a f hr hs lt k h) (hO : sp_ok a f hr lt k h) (oD : ∀ p q, p < 2 * a → q < 2 * a → h p = h q → p = q) {i : Nat} (hi : i < a) : am_go 136 (am_ent 136 [.ref 17, .int (nI i)] M) (am_rv (fun N => sp_fB 26 27 17 21 M N ∧ ∃ (s : Nat → Option Nat) (u : Nat → Nat) (n : Nat), sp_R 26 27 17 21 N s u n ∧ sp_BI (sp_ed (sp_ft f h i a) (sp_rc (k i)) (decide (k i = 4))) (12 * h (2 * i) + h (2 * i + 1)) s u n ∧ sp_DI (sp_ed (sp_ft f h i a) (sp_rc (k i)) (decide (k i = 4))) (12 * h (2 * i) + h (2 * i + 1)) s)) := by
  obtain ⟨oA, oF, oHr, oLt, oK, oH⟩ := id hO
  have oH0 := oH (2 * i)
  have oH1 := oH (2 * i + 1)
  refine am_goR 2 (s2 := (2, [.ref 17, .int (nI i), .int (nI 0), .null, .null, .null], [], M)) rfl ?_
  refine t_ways_clear 145 0 M (by omega) (by omega) (fun q hq => absurd hq (Nat.not_lt_zero q)) (fun N hF h9 => ?_)
  have hSN := sp_M.fB hS hF
  refine am_goQ 10 (s1 := (38, [.ref 17, .int (nI i), .int (nI 144), .null, .null, .null], [.int ((nI 2 * nI i)), .ref 20, .int (nI 12), .ref 17], (am_set N 17 21 (nI 0)))) (s2 := (38, [.ref 17, .int (nI i), .int (nI 144), .null, .null, .null], [.int (nI (2 * i)), .ref 20, .int (nI 12), .ref 17], (am_set N 17 21 (nI 0)))) rfl (by simp only [pk_mul]) ?_
  refine am_goL2 (pc := 39) (ls := [.ref 17, .int (nI i), .int (nI 144), .null, .null, .null]) (r := [.int (nI 12), .ref 17]) (M := (am_set N 17 21 (nI 0))) (a := 20) (n := 8) ((2 * i)) (nI (h (2 * i))) rfl rfl (by omega) (by decide) (hSN.2.2.2.2.2.2 _ (by omega)) ?_
  refine am_goQ 8 (s1 := (49, [.ref 17, .int (nI i), .int (nI 144), .null, .null, .null], [.int (((nI 2 * nI i) + nI 1)), .ref 20, .int ((nI 12 * nI (h (2 * i)))), .ref 17], (am_set N 17 21 (nI 0)))) (s2 := (49, [.ref 17, .int (nI i), .int (nI 144), .null, .null, .null], [.int (nI ((2 * i) + 1)), .ref 20, .int (nI (12 * (h (2 * i)))), .ref 17], (am_set N 17 21 (nI 0)))) rfl (by simp only [pk_mul, nI_add]) ?_
  refine am_goL2 (pc := 50) (ls := [.ref 17, .int (nI i), .int (nI 144), .null, .null, .null]) (r := [.int (nI (12 * (h (2 * i)))), .ref 17]) (M := (am_set N 17 21 (nI 0))) (a := 20) (n := 8) (((2 * i) + 1)) (nI (h ((2 * i) + 1))) rfl rfl (by omega) (by decide) (hSN.2.2.2.2.2.2 _ (by omega)) ?_
  refine am_goQ 2 (s1 := (52, [.ref 17, .int (nI i), .int (nI 144), .null, .null, .null], [.int (nI 0), .int ((nI (12 * (h (2 * i))) + nI (h ((2 * i) + 1)))), .ref 17], (am_set N 17 21 (nI 0)))) (s2 := (52, [.ref 17, .int (nI i), .int (nI 144), .null, .null, .null], [.int (nI 0), .int (nI ((12 * (h (2 * i))) + (h ((2 * i) + 1)))), .ref 17], (am_set N 17 21 (nI 0)))) rfl (by simp only [nI_add]) ?_
  refine am_goV (s2 := (55, [.ref 17, .int (nI i), .int (nI 144), .null, .null, .null], [], (am_set N 17 21 (nI 0)))) rfl (t_lines (M := (am_set N 17 21 (nI 0))) (x := (12 * h (2 * i) + h (2 * i + 1))) (s := fun _ => none) (u := fun _ => (12 * h (2 * i) + h (2 * i + 1))) (n := 0) ⟨fun p hp => h9 p hp, fun q hq => absurd hq (Nat.not_lt_zero q), rfl⟩ (by omega) (fun _ => by decide) (fun e z => by cases z)) (fun N2 hC => ?_)
  obtain ⟨hR2, hF2⟩ := hC
  have hS2 := sp_M.fB (sp_M.fB hS hF) (sp_fB.tr (fun x y b1 b2 b3 => by simp only [am_set, b3, if_false]) hF2)
  refine am_goR 2 (s2 := (57, [.ref 17, .int (nI i), .int (nI 0), .null, .null, .null], [], N2)) rfl ?_
  rw [show sp_ps (fun _ => none) (12 * h (2 * i) + h (2 * i + 1)) 0 = sp_s0 (12 * h (2 * i) + h (2 * i + 1)) from by funext p; simp [sp_ps, sp_s0], show sp_pu (fun _ => none) (fun _ => (12 * h (2 * i) + h (2 * i + 1))) 0 (12 * h (2 * i) + h (2 * i + 1)) = fun _ => (12 * h (2 * i) + h (2 * i + 1)) from by funext q; simp [sp_pu], show sp_pn (fun _ => none) 0 (12 * h (2 * i) + h (2 * i + 1)) = 1 from by simp [sp_pn]] at hR2
  refine am_goW (t_ways_loop (p0 := (12 * h (2 * i) + h (2 * i + 1))) hO oD hi 145 0 N2 _ _ 1 _ _ _ (by omega) (by omega) hS2 hR2 (sp_BI0 _ (by omega)) (fun b hb => absurd hb (Nat.not_lt_zero b)) (fun _ d hd b e _ he => ?_)) (fun r O hr => ?_)
  · unfold sp_s0 at he
    split at he
    · cases he; exact Nat.zero_le _
    · cases he
  · obtain ⟨rfl, r1, r2⟩ := hr
    exact ⟨rfl, sp_fB.tr (sp_fB.tr hF (sp_fB.tr (fun x y b1 b2 b3 => by simp only [am_set, b3, if_false]) hF2)) r1, r2⟩

