/-! a told beam, whole: the class's tellAll, the reference's beam -/
theorem s_tellAll {tx : Nat → Nat} {n : Nat} (hn : n ≤ 64) (hx : ∀ q, tx q < 256) {M : am_Mem} {w : sp_W} (hL : M 13 1 = nI n) (hT : ∀ q, q < 64 → M 14 q = nI (tx q)) (hSW : sp_SW 4 M w) (hg : sp_go w) : am_go 39 (am_ent 39 [.ref 13, .ref 4] M) (am_ri (fun x N => x = (sp_bm tx n w).1 ∧ sp_fU M N ∧ ∀ w2, (sp_bm tx n w).2 = some w2 → sp_SW 4 N w2)) := by
  refine am_goR 7 (s2 := (9, [.ref 13, .ref 4, .int (nI 0), .int (nI 0), .null], [], am_set M 13 2 (nI 0))) rfl ?_
  refine s_tell1 hn hx 30 0 _ rfl (fun q hq => absurd hq (Nat.not_lt_zero q)) hL hT rfl (fun N m0 e1 e2 e3 => ?_) (fun N m0 e1 e3 => ?_)
  · refine am_goR 5 (s2 := (65, [.ref 13, .ref 4, .int (nI m0), .int (nI 0), .null], [], am_set N 13 2 (nI 0))) rfl ?_
    have fr : ∀ a b, ¬ (a = 13 ∧ 2 ≤ b) → am_set N 13 2 (nI 0) a b = M a b := fun a b z => by rw [am_set_o (by omega), e3 a b z, am_set_o (by omega)]
    refine am_goW (s_tell2 hn hx e2 m0 (Nat.le_refl _) 0 _ w _ (by omega) ((fr 13 1 (by omega)).trans hL) (fun q hq => (fr 14 q (by omega)).trans (hT q hq)) rfl (hSW.fT fr) hg) (fun r9 O hr => ?_)
    obtain ⟨x, rfl, q1, q2⟩ := hr
    refine ⟨x, rfl, ?_, fun a b c1 c2 c3 c4 => (q1 a b c1 c2 c3 c4).trans (fr a b c4), ?_⟩
    · unfold sp_bm
      rw [e1]
      dsimp only
      cases e5 : sp_ru tx n m0 0 w with
      | inl j => rw [e5] at q2; exact q2
      | inr w2 => rw [e5] at q2; exact q2.1
    · intro w2 z
      unfold sp_bm at z
      rw [e1] at z
      dsimp only at z
      cases e5 : sp_ru tx n m0 0 w with
      | inl j => rw [e5] at z; cases z
      | inr w3 => rw [e5] at z q2; cases z; exact q2.2
  · refine ⟨_, rfl, ?_, fun a b c1 c2 c3 c4 => (e3 a b c4).trans (am_set_o (by omega)), fun w2 z => ?_⟩
    · unfold sp_bm; rw [e1]
    · unfold sp_bm at z; rw [e1] at z; cases z
/-- what is kept of a statement read -/
def sp_ar (tx : Nat → Nat) (n : Nat) (M : am_Mem) (q : Nat) : Prop := M 22 q = nI (tx (sp_pz tx n q)) ∧ M 23 q = nI (sp_pz tx n q) ∧ (tx (sp_pz tx n q) = 97 → M 24 (3 * q) = nI (sp_kd tx n (sp_pz tx n q + 1)) ∧ M 24 (3 * q + 1) = nI (sp_sx tx n (sp_pz tx n q)) ∧ M 24 (3 * q + 2) = nI (sp_sy tx n (sp_pz tx n q))) ∧ (¬ tx (sp_pz tx n q) = 97 → M 24 (3 * q) = nI (sp_sx tx n (sp_pz tx n q)))
theorem sp_ar.fr {tx : Nat → Nat} {n : Nat} {M N : am_Mem} {q : Nat} (h : sp_ar tx n M q) (h2 : N 22 q = M 22 q) (h3 : N 23 q = M 23 q) (h4 : ∀ b, 3 * q ≤ b → b < 3 * q + 3 → N 24 b = M 24 b) : sp_ar tx n N q := ⟨h2.trans h.1, h3.trans h.2.1, fun z => ⟨(h4 _ (by omega) (by omega)).trans (h.2.2.1 z).1, (h4 _ (by omega) (by omega)).trans (h.2.2.1 z).2.1, (h4 _ (by omega) (by omega)).trans (h.2.2.1 z).2.2⟩, fun z => (h4 _ (by omega) (by omega)).trans (h.2.2.2 z)⟩
def sp_fV (M N : am_Mem) : Prop := ∀ a b, ¬ a = 22 → ¬ a = 23 → ¬ a = 24 → ¬ (a = 17 ∧ (b = 13 ∨ b = 14)) → N a b = M a b
def sp_fX (M N : am_Mem) : Prop := ∀ a b, ¬ a = 19 → ¬ a = 20 → ¬ (a = 17 ∧ (b = 17 ∨ b = 18 ∨ (3 ≤ b ∧ b ≤ 7))) → N a b = M a b

set_option maxHeartbeats 4000000 in
theorem t_beam1 {tx : Nat → Nat} {n : Nat} (hn : n ≤ 64) (hx : ∀ q, tx q < 256) {v2 : Value} {Q : Option Value → am_Mem → Prop} : ∀ (c i : Nat) (M : am_Mem), c + i = 30 → (∀ q, q < i → sp_pk tx n (sp_pz tx n q) = true) → M 17 12 = nI n → (∀ q, q < 64 → M 21 q = nI (tx q)) → M 17 13 = nI (sp_pz tx n i) → M 17 14 = nI i → (∀ q, q < i → sp_ar tx n M q) →
    (∀ (N : am_Mem) (m0 : Nat), sp_cy tx n c i = (true, m0) → (∀ q, q < m0 → sp_pk tx n (sp_pz tx n q) = true) → (∀ q, q < m0 → sp_ar tx n N q) → N 17 14 = nI m0 → sp_fV M N → am_go 110 (60, [.ref 17, .int (nI 1), v2], [], N) Q) →
    (∀ (N : am_Mem) (m0 : Nat), sp_cy tx n c i = (false, m0) → N 17 13 = nI (sp_pe tx n (sp_pz tx n m0)) → sp_fV M N → am_go 110 (60, [.ref 17, .int (nI 0), v2], [], N) Q) →
    am_go 110 (12, [.ref 17, .int (nI 1), v2], [], M) Q := by
  intro c
  induction c with
  | zero =>
    intro i M h1 hk
    have := sp_pz_3 i hk
    omega
  | succ c ih =>
    intro i M h1 hk hL hT hP hI hAr kT kF
    have hb := sp_pz_3 i hk
    have hpe := sp_pe_le (tx := tx) (n := n) (p := sp_pz tx n i) hb.2
    refine am_goQ 6 (s1 := (24, [.ref 17, .int (nI 1), v2], [.int ((M 17 12)), .int ((M 17 13))], M)) (s2 := (24, [.ref 17, .int (nI 1), v2], [.int (nI n), .int (nI (sp_pz tx n i))], M)) rfl (by simp only [hL, hP]) ?_
    refine am_bLT ((sp_pz tx n i)) (n) (s1 := (34, [.ref 17, .int (nI 1), v2], [], M)) (s2 := (27, [.ref 17, .int (nI 1), v2], [], M)) rfl (by omega) (by omega) (fun c1 => ?_) (fun c1 => ?_)
    · refine am_goR 1 (s2 := (35, [.ref 17, .int (nI 1), v2], [.ref 17], M)) rfl ?_
      rcases Bool.eq_false_or_eq_true (sp_pk tx n (sp_pz tx n i)) with hpk | hpk
      · refine am_goC (s2 := (38, [.ref 17, .int (nI 1), v2], [], M)) rfl (t_statement hL hT hn hx (p := (sp_pz tx n i)) hP (by omega) (i := i) (by omega) hI) (fun wx M1 wh => ?_)
        obtain ⟨w0, w1, w2, w3⟩ := wh
        rw [hpk] at w0
        subst w0
        have hI1 : M1 17 14 = nI i := (w1 17 14 (by omega) (by omega) (by omega) (by omega)).trans hI
        refine am_goQ 9 (s1 := (54, [.ref 17, .int (nI 1), v2], [.int (((M1 17 14) + nI 1)), .ref 17], M1)) (s2 := (54, [.ref 17, .int (nI 1), v2], [.int (nI (i + 1)), .ref 17], M1)) rfl (by simp only [hI1, nI_add]) ?_
        refine am_goR 2 (s2 := (12, [.ref 17, .int (nI 1), v2], [], (am_set M1 17 14 (nI (i + 1))))) rfl ?_
        have hor : sp_pz tx n i < n ∨ i = 0 := by omega
        have hkk : ∀ q, q < i + 1 → sp_pk tx n (sp_pz tx n q) = true := fun q hq => by
          by_cases e : q = i
          · subst e; exact hpk
          · exact hk q (by omega)
        have hpf := sp_pk_f hpk
        have w4 := w3 hpk
        have haa : ∀ q, q < i + 1 → sp_ar tx n (am_set M1 17 14 (nI (i + 1))) q := fun q hq => by
          by_cases e : q = i
          · subst e; exact w4
          · exact (hAr q (by omega)).fr ((am_set_o (by omega)).trans (w1 22 q (by omega) (by omega) (by omega) (by omega))) ((am_set_o (by omega)).trans (w1 23 q (by omega) (by omega) (by omega) (by omega))) (fun b b1 b2 => (am_set_o (by omega)).trans (w1 24 b (by omega) (by omega) (by omega) (by omega)))
        refine ih (i + 1) (am_set M1 17 14 (nI (i + 1))) (by omega) hkk ((w1 17 12 (by omega) (by omega) (by omega) (by omega)).trans hL) (fun q hq => (w1 21 q (by omega) (by omega) (by omega) (by omega)).trans (hT q hq)) w2 rfl haa (fun N m0 e1 e2 e3 e4 e5 => kT N m0 ((sp_cy_1 hor hpk).trans e1) e2 e3 e4 (fun a b a1 a2 a3 a4 => ?_)) (fun N m0 e1 e2 e3 => kF N m0 ((sp_cy_1 hor hpk).trans e1) e2 (fun a b a1 a2 a3 a4 => ?_))
        · rw [e5 a b a1 a2 a3 a4, am_set_o (by omega), w1 a b (by omega) (by omega) (by omega) (by omega)]
        · rw [e3 a b a1 a2 a3 a4, am_set_o (by omega), w1 a b (by omega) (by omega) (by omega) (by omega)]
      · refine am_goC (s2 := (38, [.ref 17, .int (nI 1), v2], [], M)) rfl (t_statement hL hT hn hx (p := (sp_pz tx n i)) hP (by omega) (i := i) (by omega) hI) (fun wx M1 wh => ?_)
        obtain ⟨w0, w1, w2, w3⟩ := wh
        rw [hpk] at w0
        subst w0
        have hI1 : M1 17 14 = nI i := (w1 17 14 (by omega) (by omega) (by omega) (by omega)).trans hI
        refine am_goQ 8 (s1 := (54, [.ref 17, .int (nI 0), v2], [.int (((M1 17 14) + nI 0)), .ref 17], M1)) (s2 := (54, [.ref 17, .int (nI 0), v2], [.int (nI (i + 0)), .ref 17], M1)) rfl (by simp only [hI1, nI_add]) ?_
        refine am_goR 2 (s2 := (12, [.ref 17, .int (nI 0), v2], [], (am_set M1 17 14 (nI (i + 0))))) rfl ?_
        have ei : i + 0 = i := rfl
        refine am_goR 2 (s2 := (60, [.ref 17, .int (nI 0), v2], [], (am_set M1 17 14 (nI (i + 0))))) rfl ?_
        exact kF (am_set M1 17 14 (nI (i + 0))) i (sp_cy_2 (by omega) hpk) w2 (fun a b a1 a2 a3 a4 => by rw [am_set_o (by omega), w1 a b (by omega) (by omega) (by omega) (by omega)])
    · refine am_goQ 2 (s1 := (31, [.ref 17, .int (nI 1), v2], [.int ((M 17 14))], M)) (s2 := (31, [.ref 17, .int (nI 1), v2], [.int (nI i)], M)) rfl (by simp only [hI]) ?_
      refine am_bNE (i) (0) (s1 := (60, [.ref 17, .int (nI 1), v2], [], M)) (s2 := (34, [.ref 17, .int (nI 1), v2], [], M)) rfl (by omega) (by omega) (fun c2 => ?_) (fun c2 => ?_)
      · exact kT M i (sp_cy_3 (by omega)) hk hAr hI (fun a b a1 a2 a3 a4 => rfl)
      · refine am_goR 1 (s2 := (35, [.ref 17, .int (nI 1), v2], [.ref 17], M)) rfl ?_
        rcases Bool.eq_false_or_eq_true (sp_pk tx n (sp_pz tx n i)) with hpk | hpk
        · refine am_goC (s2 := (38, [.ref 17, .int (nI 1), v2], [], M)) rfl (t_statement hL hT hn hx (p := (sp_pz tx n i)) hP (by omega) (i := i) (by omega) hI) (fun wx M1 wh => ?_)
          obtain ⟨w0, w1, w2, w3⟩ := wh
          rw [hpk] at w0
          subst w0
          have hI1 : M1 17 14 = nI i := (w1 17 14 (by omega) (by omega) (by omega) (by omega)).trans hI
          refine am_goQ 9 (s1 := (54, [.ref 17, .int (nI 1), v2], [.int (((M1 17 14) + nI 1)), .ref 17], M1)) (s2 := (54, [.ref 17, .int (nI 1), v2], [.int (nI (i + 1)), .ref 17], M1)) rfl (by simp only [hI1, nI_add]) ?_
          refine am_goR 2 (s2 := (12, [.ref 17, .int (nI 1), v2], [], (am_set M1 17 14 (nI (i + 1))))) rfl ?_
          have hor : sp_pz tx n i < n ∨ i = 0 := by omega
          have hkk : ∀ q, q < i + 1 → sp_pk tx n (sp_pz tx n q) = true := fun q hq => by
            by_cases e : q = i
            · subst e; exact hpk
            · exact hk q (by omega)
          have hpf := sp_pk_f hpk
          have w4 := w3 hpk
          have haa : ∀ q, q < i + 1 → sp_ar tx n (am_set M1 17 14 (nI (i + 1))) q := fun q hq => by
            by_cases e : q = i
            · subst e; exact w4
            · exact (hAr q (by omega)).fr ((am_set_o (by omega)).trans (w1 22 q (by omega) (by omega) (by omega) (by omega))) ((am_set_o (by omega)).trans (w1 23 q (by omega) (by omega) (by omega) (by omega))) (fun b b1 b2 => (am_set_o (by omega)).trans (w1 24 b (by omega) (by omega) (by omega) (by omega)))
          refine ih (i + 1) (am_set M1 17 14 (nI (i + 1))) (by omega) hkk ((w1 17 12 (by omega) (by omega) (by omega) (by omega)).trans hL) (fun q hq => (w1 21 q (by omega) (by omega) (by omega) (by omega)).trans (hT q hq)) w2 rfl haa (fun N m0 e1 e2 e3 e4 e5 => kT N m0 ((sp_cy_1 hor hpk).trans e1) e2 e3 e4 (fun a b a1 a2 a3 a4 => ?_)) (fun N m0 e1 e2 e3 => kF N m0 ((sp_cy_1 hor hpk).trans e1) e2 (fun a b a1 a2 a3 a4 => ?_))
          · rw [e5 a b a1 a2 a3 a4, am_set_o (by omega), w1 a b (by omega) (by omega) (by omega) (by omega)]
          · rw [e3 a b a1 a2 a3 a4, am_set_o (by omega), w1 a b (by omega) (by omega) (by omega) (by omega)]
        · refine am_goC (s2 := (38, [.ref 17, .int (nI 1), v2], [], M)) rfl (t_statement hL hT hn hx (p := (sp_pz tx n i)) hP (by omega) (i := i) (by omega) hI) (fun wx M1 wh => ?_)
          obtain ⟨w0, w1, w2, w3⟩ := wh
          rw [hpk] at w0
          subst w0
          have hI1 : M1 17 14 = nI i := (w1 17 14 (by omega) (by omega) (by omega) (by omega)).trans hI
          refine am_goQ 8 (s1 := (54, [.ref 17, .int (nI 0), v2], [.int (((M1 17 14) + nI 0)), .ref 17], M1)) (s2 := (54, [.ref 17, .int (nI 0), v2], [.int (nI (i + 0)), .ref 17], M1)) rfl (by simp only [hI1, nI_add]) ?_
          refine am_goR 2 (s2 := (12, [.ref 17, .int (nI 0), v2], [], (am_set M1 17 14 (nI (i + 0))))) rfl ?_
          have ei : i + 0 = i := rfl
          refine am_goR 2 (s2 := (60, [.ref 17, .int (nI 0), v2], [], (am_set M1 17 14 (nI (i + 0))))) rfl ?_
          exact kF (am_set M1 17 14 (nI (i + 0))) i (sp_cy_2 (by omega) hpk) w2 (fun a b a1 a2 a3 a4 => by rw [am_set_o (by omega), w1 a b (by omega) (by omega) (by omega) (by omega)])
theorem sp_KW.fr {M N : am_Mem} {z : Nat} {w : sp_W} (h : sp_KW M z w) (hf : ∀ b, N 25 b = M 25 b) : sp_KW N z w := ⟨fun q hq => (hf _).trans (h.1 q hq), fun q hq => (hf _).trans (h.2.1 q hq), (hf _).trans h.2.2.1, (hf _).trans h.2.2.2.1, (hf _).trans h.2.2.2.2.1, (hf _).trans h.2.2.2.2.2.1, (hf _).trans h.2.2.2.2.2.2⟩
set_option maxHeartbeats 4000000 in
theorem t_beam2 {tx : Nat → Nat} {n : Nat} (hn : n ≤ 64) (hx : ∀ q, tx q < 256) {m0 : Nat} {w0 : sp_W} (hk : ∀ q, q < m0 → sp_pk tx n (sp_pz tx n q) = true) : ∀ (m : Nat), m ≤ m0 → ∀ (i : Nat) (M : am_Mem) (w : sp_W), i + m = m0 → (∀ q, q < m0 → sp_ar tx n M q) → M 17 14 = nI m0 → sp_MW M w → sp_go w → sp_KW M 1 w0 → am_go 110 (86, [.ref 17, .int (nI 1), .int (nI i)], [], M) (am_ri (fun x N => sp_fX M N ∧ match sp_ru tx n m i w with | .inl j => x = -nI 2000 - nI (sp_pz tx n j) ∧ sp_MW N w0 | .inr w2 => x = nI m0 ∧ sp_MW N w2)) := by
  have hbb := sp_pz_3 m0 hk
  intro m
  induction m using Nat.strongRecOn with
  | ind m ihs =>
    intro hm i M w him hAr hI hMW hg hKW
    have ih : ∀ z, z < m → ∀ (i : Nat) (M : am_Mem) (w : sp_W), i + z = m0 → (∀ q, q < m0 → sp_ar tx n M q) → M 17 14 = nI m0 → sp_MW M w → sp_go w → sp_KW M 1 w0 → am_go 110 (86, [.ref 17, .int (nI 1), .int (nI i)], [], M) (am_ri (fun x N => sp_fX M N ∧ match sp_ru tx n z i w with | .inl j => x = -nI 2000 - nI (sp_pz tx n j) ∧ sp_MW N w0 | .inr w2 => x = nI m0 ∧ sp_MW N w2)) := fun z hz => ihs z hz (by omega)
    have hb := sp_pz_3 i (fun q hq => hk q (by omega))
    refine am_goQ 3 (s1 := (91, [.ref 17, .int (nI 1), .int (nI i)], [.int ((M 17 14)), .int (nI i)], M)) (s2 := (91, [.ref 17, .int (nI 1), .int (nI i)], [.int (nI m0), .int (nI i)], M)) rfl (by simp only [hI]) ?_
    refine am_bLE (m0) (i) (s1 := (128, [.ref 17, .int (nI 1), .int (nI i)], [], M)) (s2 := (94, [.ref 17, .int (nI 1), .int (nI i)], [], M)) rfl (by omega) (by omega) (fun c1 => ?_) (fun c1 => ?_)
    · refine am_goQ 2 (s1 := (132, [.ref 17, .int (nI 1), .int (nI i)], [.int ((M 17 14))], M)) (s2 := (132, [.ref 17, .int (nI 1), .int (nI i)], [.int (nI m0)], M)) rfl (by simp only [hI]) ?_
      have em : m = 0 := by omega
      subst em
      exact am_goE _ _ rfl ⟨_, rfl, fun a b _ _ _ => rfl, rfl, hMW⟩
    · refine am_goR 2 (s2 := (96, [.ref 17, .int (nI 1), .int (nI i)], [.int (nI i), .ref 17], M)) rfl ?_
      have hki := hk i (by omega)
      have hpf := sp_pk_f hki
      obtain ⟨a1, a2, a3, a4⟩ := hAr i (by omega)
      rcases e9 : (sp_t3 tx n (sp_pz tx n i) w) with _ | wz
      · refine am_goC (s2 := (99, [.ref 17, .int (nI 1), .int (nI i)], [], M)) rfl (t_comes (M := M) hMW hg.1 (i := i) (by omega) hpf.2.2.1 a1 hpf.2.2.2.2 (fun z => ⟨(a3 z).1, (a3 z).2.1, (a3 z).2.2, (hpf.2.2.2.1 z).1, (hpf.2.2.2.1 z).2⟩) a4) (fun vx M1 vh => ?_)
        obtain ⟨v0, v1, v2, z3, z4, z5, z6, z7, y3, y4, y5, y6, y7⟩ := vh
        rw [show sp_tl w (tx (sp_pz tx n i)) (sp_kd tx n (sp_pz tx n i + 1)) (sp_sx tx n (sp_pz tx n i)) (sp_sy tx n (sp_pz tx n i)) = none from e9] at v0 v1
        subst v0
        refine am_goR 4 (s2 := (108, [.ref 17, .int (nI 1), .int (nI i)], [.int (nI 0), .int (nI 1), .ref 17], M1)) rfl ?_
        refine am_goV (s2 := (111, [.ref 17, .int (nI 1), .int (nI i)], [], M1)) rfl (t_putAll1 (M := M1) (a := w0.1) (f := w0.2.1) (hr := w0.2.2.1) (hs := w0.2.2.2.1) (lt := w0.2.2.2.2.1) (k := w0.2.2.2.2.2.1) (h := w0.2.2.2.2.2.2) (hKW.fr (fun b => v2 25 b (by omega) (by omega) (by omega))) y3 y4 y5 y6 y7) (fun M2 ph => ?_)
        obtain ⟨p1, p2⟩ := ph
        have h23 : M2 23 i = nI (sp_pz tx n i) := (p1 23 i (by omega) (by omega) (by omega)).trans ((v2 23 i (by omega) (by omega) (by omega)).trans a2)
        refine am_goR 4 (s2 := (119, [.ref 17, .int (nI 1), .int (nI i)], [.int (nI i), .ref 23, .int ((-nI 2000))], M2)) rfl ?_
        refine am_goL2 (pc := 120) (ls := [.ref 17, .int (nI 1), .int (nI i)]) (r := [.int ((-nI 2000))]) (M := M2) (a := 23) (n := 32) (i) (nI (sp_pz tx n i)) rfl rfl (by omega) (by decide) (h23) ?_
        refine am_goR 1 (s2 := (121, [.ref 17, .int (nI 1), .int (nI i)], [.int (((-nI 2000) - nI (sp_pz tx n i)))], M2)) rfl ?_
        cases m with
        | zero => omega
        | succ m =>
          refine am_goE _ _ rfl ⟨_, rfl, fun a b c1 c2 c3 => (p1 a b c1 c2 c3).trans (v2 a b c1 c2 (by omega)), ?_⟩
          rw [sp_ru, e9]
          exact ⟨rfl, p2⟩
      · refine am_goC (s2 := (99, [.ref 17, .int (nI 1), .int (nI i)], [], M)) rfl (t_comes (M := M) hMW hg.1 (i := i) (by omega) hpf.2.2.1 a1 hpf.2.2.2.2 (fun z => ⟨(a3 z).1, (a3 z).2.1, (a3 z).2.2, (hpf.2.2.2.1 z).1, (hpf.2.2.2.1 z).2⟩) a4) (fun vx M1 vh => ?_)
        obtain ⟨v0, v1, v2, z3, z4, z5, z6, z7, y3, y4, y5, y6, y7⟩ := vh
        rw [show sp_tl w (tx (sp_pz tx n i)) (sp_kd tx n (sp_pz tx n i + 1)) (sp_sx tx n (sp_pz tx n i)) (sp_sy tx n (sp_pz tx n i)) = some wz from e9] at v0 v1
        subst v0
        refine am_goQ 4 (s1 := (86, [.ref 17, .int (nI 1), .int ((nI i + nI 1))], [], M1)) (s2 := (86, [.ref 17, .int (nI 1), .int (nI (i + 1))], [], M1)) rfl (by simp only [nI_add]) ?_
        cases m with
        | zero => omega
        | succ m =>
          have i1 := ih m (by omega) (i + 1) M1 wz (by omega) (fun q hq => (hAr q hq).fr (v2 22 q (by omega) (by omega) (by omega)) (v2 23 q (by omega) (by omega) (by omega)) (fun b b1 b2 => v2 24 b (by omega) (by omega) (by omega))) ((v2 17 14 (by omega) (by omega) (by omega)).trans hI) (v1 wz rfl) (hg.tl (fun z => (hpf.2.2.2.1 z).1) e9) (hKW.fr (fun b => v2 25 b (by omega) (by omega) (by omega)))
          refine am_goW i1 (fun r9 O hr => ?_)
          obtain ⟨x, rfl, q1, q2⟩ := hr
          refine ⟨x, rfl, fun a b c1 c2 c3 => (q1 a b c1 c2 c3).trans (v2 a b c1 c2 (by omega)), ?_⟩
          rw [sp_ru, e9]
          exact q2
set_option maxHeartbeats 4000000 in
theorem t_beam {tx : Nat → Nat} {n : Nat} (hn : n ≤ 64) (hx : ∀ q, tx q < 256) {M : am_Mem} {w : sp_W} (hL : M 17 12 = nI n) (hT : ∀ q, q < 64 → M 21 q = nI (tx q)) (hMW : sp_MW M w) (hg : sp_go w) : am_go 110 (am_ent 110 [.ref 17] M) (am_ri (fun x N => x = (sp_bm tx n w).1 ∧ sp_MW N ((sp_bm tx n w).2.getD w) ∧ N 17 12 = nI 0 ∧ ∀ a b, ¬ a = 19 → ¬ a = 20 → ¬ a = 22 → ¬ a = 23 → ¬ a = 24 → ¬ (a = 25 ∧ 20 ≤ b ∧ b < 37) → ¬ (a = 17 ∧ (b = 12 ∨ b = 13 ∨ b = 14 ∨ b = 17 ∨ b = 18 ∨ (3 ≤ b ∧ b ≤ 7))) → N a b = M a b)) := by
  refine am_goR 8 (s2 := (12, [.ref 17, .int (nI 1), .null], [], am_set (am_set M 17 13 (nI 0)) 17 14 (nI 0))) rfl ?_
  refine t_beam1 hn hx 30 0 _ rfl (fun q hq => absurd hq (Nat.not_lt_zero q)) hL hT rfl rfl (fun q hq => absurd hq (Nat.not_lt_zero q)) (fun N m0 e1 e2 e3 e4 e5 => ?_) (fun N m0 e1 e2 e3 => ?_)
  · refine am_goR 5 (s2 := (78, [.ref 17, .int (nI 1), .null], [], am_set N 17 12 (nI 0))) rfl ?_
    have fr : ∀ a b, ¬ a = 22 → ¬ a = 23 → ¬ a = 24 → ¬ (a = 17 ∧ (b = 12 ∨ b = 13 ∨ b = 14)) → am_set N 17 12 (nI 0) a b = M a b := fun a b a1 a2 a3 a4 => by rw [am_set_o (by omega), e5 a b a1 a2 a3 (by omega), am_set_o (by omega), am_set_o (by omega)]
    have hM2 : sp_MW (am_set N 17 12 (nI 0)) w := ⟨(fr _ _ (by omega) (by omega) (by omega) (by omega)).trans hMW.1, (fr _ _ (by omega) (by omega) (by omega) (by omega)).trans hMW.2.1, (fr _ _ (by omega) (by omega) (by omega) (by omega)).trans hMW.2.2.1, (fr _ _ (by omega) (by omega) (by omega) (by omega)).trans hMW.2.2.2.1, (fr _ _ (by omega) (by omega) (by omega) (by omega)).trans hMW.2.2.2.2.1, fun q hq => (fr _ _ (by omega) (by omega) (by omega) (by omega)).trans (hMW.2.2.2.2.2.1 q hq), fun q hq => (fr _ _ (by omega) (by omega) (by omega) (by omega)).trans (hMW.2.2.2.2.2.2 q hq)⟩
    refine am_goR 3 (s2 := (81, [.ref 17, .int (nI 1), .null], [.int (nI 1), .int (nI 1), .ref 17], am_set N 17 12 (nI 0))) rfl ?_
    refine am_goV (s2 := (84, [.ref 17, .int (nI 1), .null], [], am_set N 17 12 (nI 0))) rfl (t_keepAll1 hM2) (fun K hK => ?_)
    obtain ⟨k1, k2, k3, k4⟩ := hK
    refine am_goR 2 (s2 := (86, [.ref 17, .int (nI 1), .int (nI 0)], [], K)) rfl ?_
    have hb0 := sp_pz_3 m0 e2
    have hs0 : ∀ a b, ¬ a = 17 → am_set N 17 12 (nI 0) a b = N a b := fun a b z => am_set_o (by omega)
    refine am_goW (t_beam2 hn hx (w0 := w) e2 m0 (Nat.le_refl _) 0 K w (by omega) (fun q hq => (e3 q hq).fr ((k1 22 q (by omega) (by omega)).trans (hs0 22 q (by omega))) ((k1 23 q (by omega) (by omega)).trans (hs0 23 q (by omega))) (fun b b1 b2 => (k1 24 b (by omega) (by omega)).trans (hs0 24 b (by omega)))) ((k1 17 14 (by omega) (by omega)).trans e4) k3 hg k4) (fun r9 O hr => ?_)
    obtain ⟨x, rfl, q1, q2⟩ := hr
    have h12 : O 17 12 = nI 0 := (q1 17 12 (by omega) (by omega) (by omega)).trans (k1 17 12 (by omega) (by omega))
    have hfr : ∀ a b, ¬ a = 19 → ¬ a = 20 → ¬ a = 22 → ¬ a = 23 → ¬ a = 24 → ¬ (a = 25 ∧ 20 ≤ b ∧ b < 37) → ¬ (a = 17 ∧ (b = 12 ∨ b = 13 ∨ b = 14 ∨ b = 17 ∨ b = 18 ∨ (3 ≤ b ∧ b ≤ 7))) → O a b = M a b := fun a b a1 a2 a3 a4 a5 a6 a7 => by
      rw [q1 a b a1 a2 (by omega)]
      by_cases e : a = 25
      · subst e; exact (k2 b (by omega)).trans (fr 25 b (by omega) (by omega) (by omega) (by omega))
      · exact (k1 a b e (by omega)).trans (fr a b a3 a4 a5 (by omega))
    unfold sp_bm
    rw [e1]
    dsimp only
    cases e5 : sp_ru tx n m0 0 w with
    | inl j => rw [e5] at q2; exact ⟨x, rfl, q2.1, q2.2, h12, hfr⟩
    | inr w2 => rw [e5] at q2; exact ⟨x, rfl, q2.1, q2.2, h12, hfr⟩
  · refine am_goR 5 (s2 := (69, [.ref 17, .int (nI 0), .null], [], am_set N 17 12 (nI 0))) rfl ?_
    have fr : ∀ a b, ¬ a = 22 → ¬ a = 23 → ¬ a = 24 → ¬ (a = 17 ∧ (b = 12 ∨ b = 13 ∨ b = 14)) → am_set N 17 12 (nI 0) a b = M a b := fun a b a1 a2 a3 a4 => by rw [am_set_o (by omega), e3 a b a1 a2 a3 (by omega), am_set_o (by omega), am_set_o (by omega)]
    have hM2 : sp_MW (am_set N 17 12 (nI 0)) w := ⟨(fr _ _ (by omega) (by omega) (by omega) (by omega)).trans hMW.1, (fr _ _ (by omega) (by omega) (by omega) (by omega)).trans hMW.2.1, (fr _ _ (by omega) (by omega) (by omega) (by omega)).trans hMW.2.2.1, (fr _ _ (by omega) (by omega) (by omega) (by omega)).trans hMW.2.2.2.1, (fr _ _ (by omega) (by omega) (by omega) (by omega)).trans hMW.2.2.2.2.1, fun q hq => (fr _ _ (by omega) (by omega) (by omega) (by omega)).trans (hMW.2.2.2.2.2.1 q hq), fun q hq => (fr _ _ (by omega) (by omega) (by omega) (by omega)).trans (hMW.2.2.2.2.2.2 q hq)⟩
    refine am_goQ 4 (s1 := (77, [.ref 17, .int (nI 0), .null], [.int (-nI 1000 - N 17 13)], am_set N 17 12 (nI 0))) (s2 := (77, [.ref 17, .int (nI 0), .null], [.int (-nI 1000 - nI (sp_pe tx n (sp_pz tx n m0)))], am_set N 17 12 (nI 0))) rfl (by rw [e2]) ?_
    refine am_goE _ _ rfl ⟨_, rfl, ?_, ?_, rfl, fun a b a1 a2 a3 a4 a5 a6 a7 => fr a b a3 a4 a5 (by omega)⟩
    · unfold sp_bm; rw [e1]
    · unfold sp_bm; rw [e1]; exact hM2

