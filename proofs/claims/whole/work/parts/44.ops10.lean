/-! calls: beam -/
theorem s_forget {M : am_Mem} : am_go 38 (am_ent 38 [.ref 13] M) (am_rv (fun N => N = am_set M 13 1 (nI 0))) := by
  refine am_goR 3 (s2 := (5, [.ref 13], [], am_set M 13 1 (nI 0))) rfl ?_
  exact am_endv rfl rfl
theorem sp_cy_t {tx : Nat → Nat} {n j : Nat} {b : Bool} : ∀ c i, (∀ q, q < i → sp_pk tx n (sp_pz tx n q) = true) → sp_cy tx n c i = (b, j) → (∀ q, q < j → sp_pk tx n (sp_pz tx n q) = true) ∧ i ≤ j ∧ (b = true → ¬ c = 0 → 1 ≤ j) := by
  intro c
  induction c with
  | zero => intro i h e; cases e; exact ⟨h, Nat.le_refl _, fun _ z => absurd rfl z⟩
  | succ c ih =>
    intro i h e
    by_cases h1 : sp_pz tx n i < n ∨ i = 0
    · cases h2 : sp_pk tx n (sp_pz tx n i) with
      | true =>
        rw [sp_cy_1 h1 h2] at e
        have z := ih (i + 1) (fun q hq => by
          by_cases e2 : q = i
          · rw [e2]; exact h2
          · exact h q (by omega)) e
        exact ⟨z.1, by omega, fun _ _ => by omega⟩
      | false =>
        rw [sp_cy_2 h1 h2] at e
        cases e
        exact ⟨h, Nat.le_refl _, fun z => by cases z⟩
    · rw [sp_cy_3 h1] at e
      cases e
      exact ⟨h, Nat.le_refl _, fun _ _ => by omega⟩
theorem sp_ru_l {tx : Nat → Nat} {n q : Nat} : ∀ (m i : Nat) (w : sp_W), sp_ru tx n m i w = .inl q → q < i + m := by
  intro m
  induction m with
  | zero => intro i w e; cases e
  | succ m ih =>
    intro i w e
    rw [sp_ru] at e
    cases e1 : sp_t3 tx n (sp_pz tx n i) w with
    | none => rw [e1] at e; cases e; omega
    | some w3 => rw [e1] at e; have := ih (i + 1) w3 e; omega
theorem sp_neg1 : ∀ z : Nat, z < 65 → (-nI 1000 - nI z ≤ 0) := by decide +kernel
theorem sp_neg2 : ∀ z : Nat, z < 65 → (-nI 2000 - nI z ≤ 0) := by decide +kernel
theorem sp_pos1 : ∀ z : Nat, z < 65 → 1 ≤ z → ¬ (nI z ≤ 0) := by decide +kernel
theorem sp_bm_c {tx : Nat → Nat} {n : Nat} {w : sp_W} (hn : n ≤ 64) (hg : sp_go w) : (∃ v, sp_bm tx n w = (v, none) ∧ v ≤ 0) ∨ ∃ v w2, sp_bm tx n w = (v, some w2) ∧ ¬ v ≤ 0 ∧ sp_go w2 := by
  unfold sp_bm
  cases e : sp_cy tx n 30 0 with
  | mk b j =>
    obtain ⟨q1, q2, q3⟩ := sp_cy_t 30 0 (fun q hq => absurd hq (Nat.not_lt_zero q)) e
    have hj := sp_pz_3 j q1
    cases b with
    | false => exact Or.inl ⟨_, rfl, sp_neg1 _ (by have z := (sp_pe_le (tx := tx) hj.2).2; omega)⟩
    | true =>
      dsimp only
      cases e5 : sp_ru tx n j 0 w with
      | inl q =>
        have hq := sp_ru_l j 0 w e5
        exact Or.inl ⟨_, rfl, sp_neg2 _ (by have z := (sp_pz_3 q (fun z hz => q1 z (by omega))).2; omega)⟩
      | inr w2 => exact Or.inr ⟨_, w2, rfl, sp_pos1 _ (by omega) (q3 rfl (by decide)), hg.ru j 0 w w2 (fun q hq => q1 q (by omega)) e5⟩

set_option maxHeartbeats 4000000 in
theorem c_beam {M : am_Mem} {w : sp_W} {t : Bool} {w2 : sp_W} {n : Nat} {tx : Nat → Nat} {rn : Nat} {ro : Nat → Nat} {rf : Nat → Int32} (hC : sp_IC M (w, t, w2, n, tx, rn, ro, rf)) (hn : n ≤ 64) (hx : ∀ q, tx q < 256) (hg : sp_go w) : am_go 55 (am_ent 55 [.ref 0] M) (sp_cP M (sp_bm tx n w).1 ((sp_bm tx n w).2.getD w, t, w2, 0, tx, rn, ro, rf)) := by
  obtain ⟨a, f, hr, hs, lt, k, h⟩ := w
  have hC1 : sp_S 1 M a f hr hs lt k h := hC.1
  refine am_goR 4 (s2 := (8, [.ref 0, .null], [.ref 1, .ref 4], M)) rfl ?_
  refine am_goV (s2 := (11, [.ref 0, .null], [], M)) rfl (s_become_4_1 hC1) (fun K hK => ?_)
  obtain ⟨k1, k2⟩ := hK
  have kf : ∀ a9 b9, ¬ a9 = 4 → ¬ a9 = 5 → ¬ a9 = 6 → K a9 b9 = M a9 b9 := fun a9 b9 c1 c2 c3 => congrFun (k1 a9 c1 c2 c3) b9
  refine am_goR 4 (s2 := (19, [.ref 0, .null], [.ref 4, .ref 13], K)) rfl ?_
  refine am_goC (s2 := (22, [.ref 0, .null], [], K)) rfl (s_tellAll (w := (a, f, hr, hs, lt, k, h)) hn hx ((kf _ _ (by omega) (by omega) (by omega)).trans hC.2.2.2.1) (fun q hq => (kf _ _ (by omega) (by omega) (by omega)).trans (hC.2.2.2.2.1 q hq)) k2 hg) (fun x L hL => ?_)
  obtain ⟨l0, l1, l2⟩ := hL
  dsimp only at l1
  have lf : ∀ a9 b9, ¬ a9 = 4 → ¬ a9 = 5 → ¬ a9 = 6 → ¬ (a9 = 13 ∧ 1 ≤ b9) → am_set L 13 1 (nI 0) a9 b9 = M a9 b9 := fun a9 b9 c1 c2 c3 c4 => by rw [am_set_o (by omega), l1 a9 b9 c1 c2 c3 (by omega), kf a9 b9 c1 c2 c3]
  refine am_goR 3 (s2 := (27, [.ref 0, .int x], [.ref 13], L)) rfl ?_
  refine am_goY (M2 := am_set L 13 1 (nI 0)) (s2 := (30, [.ref 0, .int x], [], L)) rfl s_forget ?_
  refine am_goR 1 (s2 := (31, [.ref 0, .int x], [.int x], am_set L 13 1 (nI 0))) rfl ?_
  rcases sp_bm_c (tx := tx) hn hg with ⟨v, e, hv⟩ | ⟨v, w3, e, hv, hg3⟩
  · rw [e] at l0 l2 ⊢
    subst l0
    refine am_bT (P := x ≤ 0) (s1 := (45, [.ref 0, .int x], [], am_set L 13 1 (nI 0))) (s2 := (34, [.ref 0, .int x], [], am_set L 13 1 (nI 0))) rfl hv ?_
    refine am_goR 1 (s2 := (46, [.ref 0, .int x], [.int x], am_set L 13 1 (nI 0))) rfl ?_
    exact am_goE _ _ rfl ⟨_, rfl, rfl, fun a9 b9 c9 => lf a9 b9 (by omega) (by omega) (by omega) (by omega), hC.1.fr (fun a9 b9 c9 => lf a9 b9 (by omega) (by omega) (by omega) (by omega)), (lf _ _ (by omega) (by omega) (by omega) (by omega)).trans hC.2.1, fun z => (hC.2.2.1 z).fr (fun a9 b9 c9 => lf a9 b9 (by omega) (by omega) (by omega) (by omega)), rfl, fun q hq => (lf _ _ (by omega) (by omega) (by omega) (by omega)).trans (hC.2.2.2.2.1 q hq), (lf _ _ (by omega) (by omega) (by omega) (by omega)).trans hC.2.2.2.2.2.1, fun q hq => (lf _ _ (by omega) (by omega) (by omega) (by omega)).trans (hC.2.2.2.2.2.2.1 q hq), fun q hq => (lf _ _ (by omega) (by omega) (by omega) (by omega)).trans (hC.2.2.2.2.2.2.2 q hq)⟩
  · rw [e] at l0 l2 ⊢
    subst l0
    refine am_bF (P := x ≤ 0) (s1 := (45, [.ref 0, .int x], [], am_set L 13 1 (nI 0))) (s2 := (34, [.ref 0, .int x], [], am_set L 13 1 (nI 0))) rfl hv ?_
    obtain ⟨a3, f3, hr3, hs3, lt3, k3, h3⟩ := w3
    have hS4 : sp_SW 4 (am_set L 13 1 (nI 0)) (a3, f3, hr3, hs3, lt3, k3, h3) := (l2 _ rfl).fr (fun a9 b9 c9 => am_set_o (by omega))
    refine am_goR 4 (s2 := (42, [.ref 0, .int x], [.ref 4, .ref 1], am_set L 13 1 (nI 0))) rfl ?_
    refine am_goV (s2 := (45, [.ref 0, .int x], [], am_set L 13 1 (nI 0))) rfl (s_become_1_4 hS4) (fun O hO => ?_)
    obtain ⟨o1, o2⟩ := hO
    have of : ∀ a9 b9, ¬ a9 = 1 → ¬ a9 = 2 → ¬ a9 = 3 → ¬ a9 = 4 → ¬ a9 = 5 → ¬ a9 = 6 → ¬ (a9 = 13 ∧ 1 ≤ b9) → O a9 b9 = M a9 b9 := fun a9 b9 c1 c2 c3 c4 c5 c6 c7 => (congrFun (o1 a9 c1 c2 c3) b9).trans (lf a9 b9 c4 c5 c6 c7)
    have o13 : O 13 1 = nI 0 := (congrFun (o1 13 (by omega) (by omega) (by omega)) 1).trans rfl
    refine am_goR 1 (s2 := (46, [.ref 0, .int x], [.int x], O)) rfl ?_
    exact am_goE _ _ rfl ⟨_, rfl, rfl, fun a9 b9 c9 => of a9 b9 (by omega) (by omega) (by omega) (by omega) (by omega) (by omega) (by omega), o2, (of _ _ (by omega) (by omega) (by omega) (by omega) (by omega) (by omega) (by omega)).trans hC.2.1, fun z => (hC.2.2.1 z).fr (fun a9 b9 c9 => of a9 b9 (by omega) (by omega) (by omega) (by omega) (by omega) (by omega) (by omega)), o13, fun q hq => (of _ _ (by omega) (by omega) (by omega) (by omega) (by omega) (by omega) (by omega)).trans (hC.2.2.2.2.1 q hq), (of _ _ (by omega) (by omega) (by omega) (by omega) (by omega) (by omega) (by omega)).trans hC.2.2.2.2.2.1, fun q hq => (of _ _ (by omega) (by omega) (by omega) (by omega) (by omega) (by omega) (by omega)).trans (hC.2.2.2.2.2.2.1 q hq), fun q hq => (of _ _ (by omega) (by omega) (by omega) (by omega) (by omega) (by omega) (by omega)).trans (hC.2.2.2.2.2.2.2 q hq)⟩
theorem r_beam {M : am_Mem} {w : sp_W} {t : Bool} {w2 : sp_W} {n : Nat} {tx : Nat → Nat} {rn : Nat} {ro : Nat → Nat} {rf : Nat → Int32} (hR : sp_IR M (w, t, w2, n, tx, rn, ro, rf)) (hn : n ≤ 64) (hx : ∀ q, tx q < 256) (hg : sp_go w) : am_go 110 (am_ent 110 [.ref 17] M) (sp_rP M (sp_bm tx n w).1 ((sp_bm tx n w).2.getD w, t, w2, 0, tx, rn, ro, rf)) := by
  refine am_goW (t_beam hn hx hR.2.2.2.1 hR.2.2.2.2.1 hR.1 hg) (fun r O hO => ?_)
  obtain ⟨x, rfl, rfl, o2, o3, o4⟩ := hO
  have of : ∀ a9 b9, ¬ (a9 = 19 ∨ a9 = 20 ∨ a9 = 22 ∨ a9 = 23 ∨ a9 = 24 ∨ (a9 = 25 ∧ 20 ≤ b9) ∨ (a9 = 17 ∧ (b9 = 12 ∨ b9 = 13 ∨ b9 = 14 ∨ b9 = 17 ∨ b9 = 18 ∨ (3 ≤ b9 ∧ b9 ≤ 7)))) → O a9 b9 = M a9 b9 := fun a9 b9 c => o4 a9 b9 (by omega) (by omega) (by omega) (by omega) (by omega) (by omega) (by omega)
  exact ⟨_, rfl, rfl, fun a9 b9 c9 => of a9 b9 (by omega), o2, (of _ _ (by omega)).trans hR.2.1, fun z => (hR.2.2.1 z).fr2 (fun b9 c9 => of 25 b9 (by omega)), o3, fun q hq => (of _ _ (by omega)).trans (hR.2.2.2.2.1 q hq), (of _ _ (by omega)).trans hR.2.2.2.2.2.1, fun q hq => (of _ _ (by omega)).trans (hR.2.2.2.2.2.2.1 q hq), fun q hq => (of _ _ (by omega)).trans (hR.2.2.2.2.2.2.2 q hq)⟩
theorem pp_beam {M : am_Mem} (hI : sp_Inv M) : sp_PP 55 110 [] M := by
  obtain ⟨⟨w, t, w2, n, tx, rn, ro, rf⟩, hC, hR, hG⟩ := hI
  have hn : n ≤ 64 := hG.2.2.1
  have hx : ∀ q, tx q < 256 := hG.2.2.2.1
  have hg : sp_go w := hG.1
  have hg2 : sp_go ((sp_bm tx n w).2.getD w) := by
    rcases sp_bm_c (tx := tx) hn hg with ⟨v, e, hv⟩ | ⟨v, w3, e, hv, hg3⟩
    · rw [e]; exact hg
    · rw [e]; exact hg3
  exact sp_comb hR (c_beam hC hn hx hg) (fun N hN => r_beam hN hn hx hg) ⟨hg2, hG.2.1, Nat.zero_le _, hG.2.2.2.1, hG.2.2.2.2.1, hG.2.2.2.2.2⟩

