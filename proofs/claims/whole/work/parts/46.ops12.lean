/-! calls: seeds -/
/-- draws: three a step -/
def sp_s3 (s : Int32) : Int32 := sp_lc (sp_lc (sp_lc s))
def sp_sz (a : Nat) (s : Int32) : Nat := 1000 * sp_dr (sp_lc s) a + 100 * sp_dr (sp_lc (sp_lc s)) 2 + sp_dr (sp_s3 s) 12
def sp_sg (F : Int32 → Int32) (Z : Nat → Int32 → Nat) : Nat → Int32 → sp_W → Nat → Nat | 0, _, _, c => c | m + 1, s, w, c => sp_sg F Z m (F s) (sp_nx w (Z w.1 s)) (if sp_wg w (Z w.1 s) = true then c + 1 else c)
theorem sp_sg_t {F : Int32 → Int32} {Z : Nat → Int32 → Nat} {m c : Nat} {s : Int32} {w : sp_W} (h : sp_wg w (Z w.1 s) = true) : sp_sg F Z (m + 1) s w c = sp_sg F Z m (F s) (sp_nx w (Z w.1 s)) (c + 1) := by rw [sp_sg, if_pos h]
theorem sp_sg_f {F : Int32 → Int32} {Z : Nat → Int32 → Nat} {m c : Nat} {s : Int32} {w : sp_W} (h : sp_wg w (Z w.1 s) = false) : sp_sg F Z (m + 1) s w c = sp_sg F Z m (F s) (sp_nx w (Z w.1 s)) c := by rw [sp_sg, if_neg (by rw [h]; decide)]
abbrev sp_sd : Nat → Int32 → sp_W → Nat → Nat := sp_sg sp_s3 sp_sz
theorem sp_sz_f {a : Nat} {s : Int32} (h0 : 0 < a) (h4 : a ≤ 4) : sp_dr (sp_lc s) a < a ∧ sp_dr (sp_lc (sp_lc s)) 2 < 2 ∧ sp_dr (sp_s3 s) 12 < 12 ∧ sp_dr (sp_lc s) a = sp_sz a s / 1000 ∧ sp_dr (sp_lc (sp_lc s)) 2 = sp_sz a s / 100 % 10 ∧ sp_dr (sp_s3 s) 12 = sp_sz a s % 100 ∧ sp_sz a s < 4000 := by
  have h1 : sp_dr (sp_lc s) a < a := Nat.mod_lt _ h0
  have h2 : sp_dr (sp_lc (sp_lc s)) 2 < 2 := Nat.mod_lt _ (by decide)
  have h3 : sp_dr (sp_s3 s) 12 < 12 := Nat.mod_lt _ (by decide)
  refine ⟨h1, h2, h3, ?_, ?_, ?_, ?_⟩ <;> unfold sp_sz <;> omega

set_option maxHeartbeats 4000000 in
theorem s_draw0 {M : am_Mem} {m : Nat} (h0 : 0 < m) (hm : m < 2147483648) : am_go 80 (am_ent 80 [.ref 0, .int (nI m)] M) (am_is (nI (sp_dr (sp_lc (M 0 9)) m)) (am_set M 0 9 (sp_lc (M 0 9)))) := by
  refine am_goR 10 (s2 := (16, [.ref 0, .int (nI m)], [.int (nI 1), .int (nI m)], (am_set M 0 9 ((((M 0 9) * nI 1664525) + nI 1013904223))))) rfl ?_
  refine am_bLE (1) (m) (s1 := (23, [.ref 0, .int (nI m)], [], (am_set M 0 9 ((((M 0 9) * nI 1664525) + nI 1013904223))))) (s2 := (19, [.ref 0, .int (nI m)], [], (am_set M 0 9 ((((M 0 9) * nI 1664525) + nI 1013904223))))) rfl (by omega) (by omega) (fun c1 => ?_) (fun c1 => absurd c1 (by omega))
  refine am_goQ 7 (s1 := (35, [.ref 0, .int (nI m)], [.int (nI m), .int ((((((M 0 9) * nI 1664525) + nI 1013904223) &&& nI 2147483647) / nI 256))], (am_set M 0 9 ((((M 0 9) * nI 1664525) + nI 1013904223))))) (s2 := (35, [.ref 0, .int (nI m)], [.int (nI m), .int (nI (((((M 0 9) * nI 1664525) + nI 1013904223).toBitVec.toNat % 2147483648) / 256))], (am_set M 0 9 ((((M 0 9) * nI 1664525) + nI 1013904223))))) rfl (by simp only [am_and31, pk_div (a := ((((M 0 9) * nI 1664525) + nI 1013904223).toBitVec.toNat % 2147483648)) (d := 256) (by omega) (by omega) (by omega)]) ?_
  refine am_goD (s2 := (36, [.ref 0, .int (nI m)], [.int ((nI (((((M 0 9) * nI 1664525) + nI 1013904223).toBitVec.toNat % 2147483648) / 256) - nI (((((M 0 9) * nI 1664525) + nI 1013904223).toBitVec.toNat % 2147483648) / 256) / nI m * nI m))], (am_set M 0 9 ((((M 0 9) * nI 1664525) + nI 1013904223))))) rfl (nI_ne0 (by omega) (by omega)) ?_
  refine am_goQ 0 (s1 := (36, [.ref 0, .int (nI m)], [.int ((nI (((((M 0 9) * nI 1664525) + nI 1013904223).toBitVec.toNat % 2147483648) / 256) - nI (((((M 0 9) * nI 1664525) + nI 1013904223).toBitVec.toNat % 2147483648) / 256) / nI m * nI m))], (am_set M 0 9 ((((M 0 9) * nI 1664525) + nI 1013904223))))) (s2 := (36, [.ref 0, .int (nI m)], [.int (nI ((((((M 0 9) * nI 1664525) + nI 1013904223).toBitVec.toNat % 2147483648) / 256) % m))], (am_set M 0 9 ((((M 0 9) * nI 1664525) + nI 1013904223))))) rfl (by simp only [pk_rem (a := (((((M 0 9) * nI 1664525) + nI 1013904223).toBitVec.toNat % 2147483648) / 256)) (d := m) (by omega) (by omega) (by omega)]) ?_
  exact am_ends (nI ((((((M 0 9) * nI 1664525) + nI 1013904223).toBitVec.toNat % 2147483648) / 256) % m)) _ rfl rfl rfl

theorem s_draw {M : am_Mem} {m : Nat} {s : Int32} (h9 : M 0 9 = s) (h0 : 0 < m) (hm : m < 2147483648) : am_go 80 (am_ent 80 [.ref 0, .int (nI m)] M) (am_is (nI (sp_dr (sp_lc s) m)) (am_set M 0 9 (sp_lc s))) := by
  subst h9
  exact s_draw0 h0 hm
theorem t_draw2 {M : am_Mem} {m : Nat} {s : Int32} (h9 : M 17 26 = s) (h0 : 0 < m) (hm : m < 2147483648) : am_go 155 (am_ent 155 [.ref 17, .int (nI m)] M) (am_is (nI (sp_dr (sp_lc s) m)) (am_set M 17 26 (sp_lc s))) := by
  subst h9
  exact t_draw h0 hm

set_option maxHeartbeats 4000000 in
theorem c_seeds_l {g : Nat} {y : Int32} : ∀ (m i c : Nat) (N : am_Mem) (w : sp_W) (s : Int32) (u5 u6 u7 : Value), m + i = g → g ≤ 60 → N 0 9 = s → N 1 1 = nI w.1 → sp_SW 4 N w → sp_g2 w → 0 < w.1 → w.2.2.2.1 + m < 1000000 → am_go 79 (64, [.ref 0, .int (nI g), .int y, .int (nI c), .int (nI i), u5, u6, u7], [], N) (am_ri (fun x O => x = nI (sp_sd m s w c) ∧ ∀ a9 b9, ¬ a9 = 4 → ¬ a9 = 6 → ¬ (a9 = 0 ∧ b9 = 9) → O a9 b9 = N a9 b9)) := by
  intro m
  induction m with
  | zero =>
    intro i c N w s u5 u6 u7 hm hn h9 hA hS hg h0 hs9
    refine am_goR 2 (s2 := (67, [.ref 0, .int (nI g), .int (y), .int (nI c), .int (nI i), u5, u6, u7], [.int (nI g), .int (nI i)], N)) rfl ?_
    refine am_bLE (g) (i) (s1 := (123, [.ref 0, .int (nI g), .int (y), .int (nI c), .int (nI i), u5, u6, u7], [], N)) (s2 := (70, [.ref 0, .int (nI g), .int (y), .int (nI c), .int (nI i), u5, u6, u7], [], N)) rfl (by omega) (by omega) (fun c1 => ?_) (fun c1 => absurd c1 (by omega))
    refine am_goR 1 (s2 := (124, [.ref 0, .int (nI g), .int (y), .int (nI c), .int (nI i), u5, u6, u7], [.int (nI c)], N)) rfl ?_
    exact am_goE _ _ rfl ⟨_, rfl, rfl, fun _ _ _ _ _ => rfl⟩
  | succ m ih =>
    intro i c N w s u5 u6 u7 hm hn h9 hA hS hg h0 hs9
    have h4 : w.1 ≤ 4 := hg.1.1
    obtain ⟨z1, z2, z3, z4, z5, z6, z7⟩ := sp_sz_f (s := s) h0 h4
    cases hq : sp_wg w (sp_sz w.1 s) with
    | false =>
      refine am_goR 2 (s2 := (67, [.ref 0, .int (nI g), .int (y), .int (nI c), .int (nI i), u5, u6, u7], [.int (nI g), .int (nI i)], N)) rfl ?_
      refine am_bLE (g) (i) (s1 := (123, [.ref 0, .int (nI g), .int (y), .int (nI c), .int (nI i), u5, u6, u7], [], N)) (s2 := (70, [.ref 0, .int (nI g), .int (y), .int (nI c), .int (nI i), u5, u6, u7], [], N)) rfl (by omega) (by omega) (fun c1 => absurd c1 (by omega)) (fun c1 => ?_)
      refine am_goQ 4 (s1 := (78, [.ref 0, .int (nI g), .int (y), .int (nI c), .int (nI i), u5, u6, u7], [.int ((N 1 1)), .ref 0], N)) (s2 := (78, [.ref 0, .int (nI g), .int (y), .int (nI c), .int (nI i), u5, u6, u7], [.int (nI w.1), .ref 0], N)) rfl (by simp only [hA]) ?_
      refine am_goX (v := nI (sp_dr (sp_lc s) w.1)) (M2 := (am_set N 0 9 (sp_lc s))) (s2 := (81, [.ref 0, .int (nI g), .int (y), .int (nI c), .int (nI i), u5, u6, u7], [], N)) rfl (s_draw (s := s) h9 (by omega) (by omega)) ?_
      refine am_goR 3 (s2 := (85, [.ref 0, .int (nI g), .int (y), .int (nI c), .int (nI i), .int (nI (sp_dr (sp_lc s) w.1)), u6, u7], [.int (nI 2), .ref 0], (am_set N 0 9 (sp_lc s)))) rfl ?_
      refine am_goX (v := nI (sp_dr (sp_lc (sp_lc s)) 2)) (M2 := (am_set (am_set N 0 9 (sp_lc s)) 0 9 (sp_lc (sp_lc s)))) (s2 := (88, [.ref 0, .int (nI g), .int (y), .int (nI c), .int (nI i), .int (nI (sp_dr (sp_lc s) w.1)), u6, u7], [], (am_set N 0 9 (sp_lc s)))) rfl (s_draw (s := (sp_lc s)) rfl (by omega) (by omega)) ?_
      refine am_goR 3 (s2 := (93, [.ref 0, .int (nI g), .int (y), .int (nI c), .int (nI i), .int (nI (sp_dr (sp_lc s) w.1)), .int (nI (sp_dr (sp_lc (sp_lc s)) 2)), u7], [.int (nI 12), .ref 0], (am_set (am_set N 0 9 (sp_lc s)) 0 9 (sp_lc (sp_lc s))))) rfl ?_
      refine am_goX (v := nI (sp_dr (sp_lc (sp_lc (sp_lc s))) 12)) (M2 := (am_set (am_set (am_set N 0 9 (sp_lc s)) 0 9 (sp_lc (sp_lc s))) 0 9 (sp_lc (sp_lc (sp_lc s))))) (s2 := (96, [.ref 0, .int (nI g), .int (y), .int (nI c), .int (nI i), .int (nI (sp_dr (sp_lc s) w.1)), .int (nI (sp_dr (sp_lc (sp_lc s)) 2)), u7], [], (am_set (am_set N 0 9 (sp_lc s)) 0 9 (sp_lc (sp_lc s))))) rfl (s_draw (s := (sp_lc (sp_lc s))) rfl (by omega) (by omega)) ?_
      refine am_goR 6 (s2 := (108, [.ref 0, .int (nI g), .int (y), .int (nI c), .int (nI i), .int (nI (sp_dr (sp_lc s) w.1)), .int (nI (sp_dr (sp_lc (sp_lc s)) 2)), .int (nI (sp_dr (sp_lc (sp_lc (sp_lc s))) 12))], [.int (nI (sp_dr (sp_lc (sp_lc (sp_lc s))) 12)), .int (nI (sp_dr (sp_lc (sp_lc s)) 2)), .int (nI (sp_dr (sp_lc s) w.1)), .ref 4], (am_set (am_set (am_set N 0 9 (sp_lc s)) 0 9 (sp_lc (sp_lc s))) 0 9 (sp_lc (sp_lc (sp_lc s)))))) rfl ?_
      have hB : ∀ a9 b9, ¬ (a9 = 0 ∧ b9 = 9) → (am_set (am_set (am_set N 0 9 (sp_lc s)) 0 9 (sp_lc (sp_lc s))) 0 9 (sp_lc (sp_lc (sp_lc s)))) a9 b9 = N a9 b9 := fun a9 b9 c9 => by rw [am_set_o (by omega), am_set_o (by omega), am_set_o (by omega)]
      refine am_goC (s2 := (111, [.ref 0, .int (nI g), .int (y), .int (nI c), .int (nI i), .int (nI (sp_dr (sp_lc s) w.1)), .int (nI (sp_dr (sp_lc (sp_lc s)) 2)), .int (nI (sp_dr (sp_lc (sp_lc (sp_lc s))) 12))], [], (am_set (am_set (am_set N 0 9 (sp_lc s)) 0 9 (sp_lc (sp_lc s))) 0 9 (sp_lc (sp_lc (sp_lc s)))))) rfl (s_try (hS.fr (fun a9 b9 c9 => hB a9 b9 (by omega))) hg (by omega) (i := (sp_dr (sp_lc s) w.1)) (b := (sp_dr (sp_lc (sp_lc s)) 2)) (j := (sp_dr (sp_lc (sp_lc (sp_lc s))) 12)) (z := sp_sz w.1 s) z4 z5 z6 (by omega)) (fun x O hx => ?_)
      obtain ⟨x0, x1, x2⟩ := hx
      rw [hq] at x0
      subst x0
      have x3 : ∀ a9 b9, ¬ a9 = 4 → ¬ a9 = 6 → ¬ (a9 = 0 ∧ b9 = 9) → O a9 b9 = N a9 b9 := fun a9 b9 c1 c2 c3 => (x2 a9 b9 c1 c2).trans (hB a9 b9 c3)
      have h9O : O 0 9 = sp_s3 s := (x2 _ _ (by omega) (by omega)).trans rfl
      have hAO : O 1 1 = nI w.1 := (x3 _ _ (by omega) (by omega) (by omega)).trans hA
      refine am_goQ 3 (s1 := (64, [.ref 0, .int (nI g), .int (y), .int (nI c), .int ((nI i + nI 1)), .int (nI (sp_dr (sp_lc s) w.1)), .int (nI (sp_dr (sp_lc (sp_lc s)) 2)), .int (nI (sp_dr (sp_lc (sp_lc (sp_lc s))) 12))], [], O)) (s2 := (64, [.ref 0, .int (nI g), .int (y), .int (nI c), .int (nI (i + 1)), .int (nI (sp_dr (sp_lc s) w.1)), .int (nI (sp_dr (sp_lc (sp_lc s)) 2)), .int (nI (sp_dr (sp_lc (sp_lc (sp_lc s))) 12))], [], O)) rfl (by simp only [nI_add]) ?_
      refine am_goW (ih (i + 1) _ O (sp_nx w (sp_sz w.1 s)) (sp_s3 s) _ _ _ (by omega) hn h9O hAO x1 hg.nx h0 (by show w.2.2.2.1 + 1 + m < 1000000; omega)) (fun r P hP => ?_)
      obtain ⟨x9, rfl, rfl, y2⟩ := hP
      exact ⟨_, rfl, congrArg nI (sp_sg_f hq).symm, fun a9 b9 c1 c2 c3 => (y2 a9 b9 c1 c2 c3).trans (x3 a9 b9 c1 c2 c3)⟩
    | true =>
      refine am_goR 2 (s2 := (67, [.ref 0, .int (nI g), .int (y), .int (nI c), .int (nI i), u5, u6, u7], [.int (nI g), .int (nI i)], N)) rfl ?_
      refine am_bLE (g) (i) (s1 := (123, [.ref 0, .int (nI g), .int (y), .int (nI c), .int (nI i), u5, u6, u7], [], N)) (s2 := (70, [.ref 0, .int (nI g), .int (y), .int (nI c), .int (nI i), u5, u6, u7], [], N)) rfl (by omega) (by omega) (fun c1 => absurd c1 (by omega)) (fun c1 => ?_)
      refine am_goQ 4 (s1 := (78, [.ref 0, .int (nI g), .int (y), .int (nI c), .int (nI i), u5, u6, u7], [.int ((N 1 1)), .ref 0], N)) (s2 := (78, [.ref 0, .int (nI g), .int (y), .int (nI c), .int (nI i), u5, u6, u7], [.int (nI w.1), .ref 0], N)) rfl (by simp only [hA]) ?_
      refine am_goX (v := nI (sp_dr (sp_lc s) w.1)) (M2 := (am_set N 0 9 (sp_lc s))) (s2 := (81, [.ref 0, .int (nI g), .int (y), .int (nI c), .int (nI i), u5, u6, u7], [], N)) rfl (s_draw (s := s) h9 (by omega) (by omega)) ?_
      refine am_goR 3 (s2 := (85, [.ref 0, .int (nI g), .int (y), .int (nI c), .int (nI i), .int (nI (sp_dr (sp_lc s) w.1)), u6, u7], [.int (nI 2), .ref 0], (am_set N 0 9 (sp_lc s)))) rfl ?_
      refine am_goX (v := nI (sp_dr (sp_lc (sp_lc s)) 2)) (M2 := (am_set (am_set N 0 9 (sp_lc s)) 0 9 (sp_lc (sp_lc s)))) (s2 := (88, [.ref 0, .int (nI g), .int (y), .int (nI c), .int (nI i), .int (nI (sp_dr (sp_lc s) w.1)), u6, u7], [], (am_set N 0 9 (sp_lc s)))) rfl (s_draw (s := (sp_lc s)) rfl (by omega) (by omega)) ?_
      refine am_goR 3 (s2 := (93, [.ref 0, .int (nI g), .int (y), .int (nI c), .int (nI i), .int (nI (sp_dr (sp_lc s) w.1)), .int (nI (sp_dr (sp_lc (sp_lc s)) 2)), u7], [.int (nI 12), .ref 0], (am_set (am_set N 0 9 (sp_lc s)) 0 9 (sp_lc (sp_lc s))))) rfl ?_
      refine am_goX (v := nI (sp_dr (sp_lc (sp_lc (sp_lc s))) 12)) (M2 := (am_set (am_set (am_set N 0 9 (sp_lc s)) 0 9 (sp_lc (sp_lc s))) 0 9 (sp_lc (sp_lc (sp_lc s))))) (s2 := (96, [.ref 0, .int (nI g), .int (y), .int (nI c), .int (nI i), .int (nI (sp_dr (sp_lc s) w.1)), .int (nI (sp_dr (sp_lc (sp_lc s)) 2)), u7], [], (am_set (am_set N 0 9 (sp_lc s)) 0 9 (sp_lc (sp_lc s))))) rfl (s_draw (s := (sp_lc (sp_lc s))) rfl (by omega) (by omega)) ?_
      refine am_goR 6 (s2 := (108, [.ref 0, .int (nI g), .int (y), .int (nI c), .int (nI i), .int (nI (sp_dr (sp_lc s) w.1)), .int (nI (sp_dr (sp_lc (sp_lc s)) 2)), .int (nI (sp_dr (sp_lc (sp_lc (sp_lc s))) 12))], [.int (nI (sp_dr (sp_lc (sp_lc (sp_lc s))) 12)), .int (nI (sp_dr (sp_lc (sp_lc s)) 2)), .int (nI (sp_dr (sp_lc s) w.1)), .ref 4], (am_set (am_set (am_set N 0 9 (sp_lc s)) 0 9 (sp_lc (sp_lc s))) 0 9 (sp_lc (sp_lc (sp_lc s)))))) rfl ?_
      have hB : ∀ a9 b9, ¬ (a9 = 0 ∧ b9 = 9) → (am_set (am_set (am_set N 0 9 (sp_lc s)) 0 9 (sp_lc (sp_lc s))) 0 9 (sp_lc (sp_lc (sp_lc s)))) a9 b9 = N a9 b9 := fun a9 b9 c9 => by rw [am_set_o (by omega), am_set_o (by omega), am_set_o (by omega)]
      refine am_goC (s2 := (111, [.ref 0, .int (nI g), .int (y), .int (nI c), .int (nI i), .int (nI (sp_dr (sp_lc s) w.1)), .int (nI (sp_dr (sp_lc (sp_lc s)) 2)), .int (nI (sp_dr (sp_lc (sp_lc (sp_lc s))) 12))], [], (am_set (am_set (am_set N 0 9 (sp_lc s)) 0 9 (sp_lc (sp_lc s))) 0 9 (sp_lc (sp_lc (sp_lc s)))))) rfl (s_try (hS.fr (fun a9 b9 c9 => hB a9 b9 (by omega))) hg (by omega) (i := (sp_dr (sp_lc s) w.1)) (b := (sp_dr (sp_lc (sp_lc s)) 2)) (j := (sp_dr (sp_lc (sp_lc (sp_lc s))) 12)) (z := sp_sz w.1 s) z4 z5 z6 (by omega)) (fun x O hx => ?_)
      obtain ⟨x0, x1, x2⟩ := hx
      rw [hq] at x0
      subst x0
      have x3 : ∀ a9 b9, ¬ a9 = 4 → ¬ a9 = 6 → ¬ (a9 = 0 ∧ b9 = 9) → O a9 b9 = N a9 b9 := fun a9 b9 c1 c2 c3 => (x2 a9 b9 c1 c2).trans (hB a9 b9 c3)
      have h9O : O 0 9 = sp_s3 s := (x2 _ _ (by omega) (by omega)).trans rfl
      have hAO : O 1 1 = nI w.1 := (x3 _ _ (by omega) (by omega) (by omega)).trans hA
      refine am_goQ 4 (s1 := (64, [.ref 0, .int (nI g), .int (y), .int ((nI c + nI 1)), .int ((nI i + nI 1)), .int (nI (sp_dr (sp_lc s) w.1)), .int (nI (sp_dr (sp_lc (sp_lc s)) 2)), .int (nI (sp_dr (sp_lc (sp_lc (sp_lc s))) 12))], [], O)) (s2 := (64, [.ref 0, .int (nI g), .int (y), .int (nI (c + 1)), .int (nI (i + 1)), .int (nI (sp_dr (sp_lc s) w.1)), .int (nI (sp_dr (sp_lc (sp_lc s)) 2)), .int (nI (sp_dr (sp_lc (sp_lc (sp_lc s))) 12))], [], O)) rfl (by simp only [nI_add]) ?_
      refine am_goW (ih (i + 1) _ O (sp_nx w (sp_sz w.1 s)) (sp_s3 s) _ _ _ (by omega) hn h9O hAO x1 hg.nx h0 (by show w.2.2.2.1 + 1 + m < 1000000; omega)) (fun r P hP => ?_)
      obtain ⟨x9, rfl, rfl, y2⟩ := hP
      exact ⟨_, rfl, congrArg nI (sp_sg_t hq).symm, fun a9 b9 c1 c2 c3 => (y2 a9 b9 c1 c2 c3).trans (x3 a9 b9 c1 c2 c3)⟩

set_option maxHeartbeats 4000000 in
theorem r_seeds_l {g : Nat} {y : Int32} {Q : Option Value → am_Mem → Prop} : ∀ (m i c : Nat) (N : am_Mem) (w : sp_W) (s : Int32) (u6 u7 : Value), m + i = g → g ≤ 60 → N 17 26 = s → sp_MW N w → sp_g2 w → 0 < w.1 → w.2.2.2.1 + m < 1000000 → (∀ (O : am_Mem) (u8 u9 : Value) (w9 : sp_W), sp_MW O w9 → (∀ a9 b9, ¬ a9 = 20 → ¬ (a9 = 17 ∧ (b9 = 5 ∨ b9 = 6 ∨ b9 = 26)) → O a9 b9 = N a9 b9) → am_go 156 (118, [.ref 17, .int (nI g), .int y, .int (nI 0), .int (nI (sp_sd m s w c)), .int (nI g), u8, u9], [], O) Q) → am_go 156 (49, [.ref 17, .int (nI g), .int y, .int (nI 0), .int (nI c), .int (nI i), u6, u7], [], N) Q := by
  intro m
  induction m with
  | zero =>
    intro i c N w s u6 u7 hm hn h9 hS hg h0 hs9 kk
    refine am_goR 2 (s2 := (52, [.ref 17, .int (nI g), .int (y), .int (nI 0), .int (nI c), .int (nI i), u6, u7], [.int (nI g), .int (nI i)], N)) rfl ?_
    refine am_bLE (g) (i) (s1 := (118, [.ref 17, .int (nI g), .int (y), .int (nI 0), .int (nI c), .int (nI i), u6, u7], [], N)) (s2 := (55, [.ref 17, .int (nI g), .int (y), .int (nI 0), .int (nI c), .int (nI i), u6, u7], [], N)) rfl (by omega) (by omega) (fun c1 => ?_) (fun c1 => absurd c1 (by omega))
    have ei : i = g := by omega
    rw [ei]
    exact kk N u6 u7 w hS (fun _ _ _ _ => rfl)
  | succ m ih =>
    intro i c N w s u6 u7 hm hn h9 hS hg h0 hs9 kk
    have h4 : w.1 ≤ 4 := hg.1.1
    obtain ⟨z1, z2, z3, z4, z5, z6, z7⟩ := sp_sz_f (s := s) h0 h4
    cases hq : sp_wg w (sp_sz w.1 s) with
    | false =>
      refine am_goR 2 (s2 := (52, [.ref 17, .int (nI g), .int (y), .int (nI 0), .int (nI c), .int (nI i), u6, u7], [.int (nI g), .int (nI i)], N)) rfl ?_
      refine am_bLE (g) (i) (s1 := (118, [.ref 17, .int (nI g), .int (y), .int (nI 0), .int (nI c), .int (nI i), u6, u7], [], N)) (s2 := (55, [.ref 17, .int (nI g), .int (y), .int (nI 0), .int (nI c), .int (nI i), u6, u7], [], N)) rfl (by omega) (by omega) (fun c1 => absurd c1 (by omega)) (fun c1 => ?_)
      refine am_goQ 3 (s1 := (60, [.ref 17, .int (nI g), .int (y), .int (nI 0), .int (nI c), .int (nI i), u6, u7], [.int ((N 17 3)), .ref 17], N)) (s2 := (60, [.ref 17, .int (nI g), .int (y), .int (nI 0), .int (nI c), .int (nI i), u6, u7], [.int (nI w.1), .ref 17], N)) rfl (by simp only [hS.2.1]) ?_
      refine am_goX (v := nI (sp_dr (sp_lc s) w.1)) (M2 := (am_set N 17 26 (sp_lc s))) (s2 := (63, [.ref 17, .int (nI g), .int (y), .int (nI 0), .int (nI c), .int (nI i), u6, u7], [], N)) rfl (t_draw2 (s := s) h9 (by omega) (by omega)) ?_
      refine am_goR 3 (s2 := (67, [.ref 17, .int (nI g), .int (y), .int (nI 0), .int (nI c), .int (nI i), .int (nI (sp_dr (sp_lc s) w.1)), u7], [.int (nI 2), .ref 17], (am_set N 17 26 (sp_lc s)))) rfl ?_
      refine am_goX (v := nI (sp_dr (sp_lc (sp_lc s)) 2)) (M2 := (am_set (am_set N 17 26 (sp_lc s)) 17 26 (sp_lc (sp_lc s)))) (s2 := (70, [.ref 17, .int (nI g), .int (y), .int (nI 0), .int (nI c), .int (nI i), .int (nI (sp_dr (sp_lc s) w.1)), u7], [], (am_set N 17 26 (sp_lc s)))) rfl (t_draw2 (s := (sp_lc s)) rfl (by omega) (by omega)) ?_
      refine am_goQ 12 (s1 := (90, [.ref 17, .int (nI g), .int (y), .int (nI 0), .int (nI c), .int (nI i), .int (nI (sp_dr (sp_lc s) w.1)), .int (nI (sp_dr (sp_lc (sp_lc s)) 2))], [.int (nI 12), .ref 17, .int (((nI 1000 * nI (sp_dr (sp_lc s) w.1)) + (nI 100 * nI (sp_dr (sp_lc (sp_lc s)) 2)))), .ref 17, .int (nI c)], (am_set (am_set N 17 26 (sp_lc s)) 17 26 (sp_lc (sp_lc s))))) (s2 := (90, [.ref 17, .int (nI g), .int (y), .int (nI 0), .int (nI c), .int (nI i), .int (nI (sp_dr (sp_lc s) w.1)), .int (nI (sp_dr (sp_lc (sp_lc s)) 2))], [.int (nI 12), .ref 17, .int (nI ((1000 * (sp_dr (sp_lc s) w.1)) + (100 * (sp_dr (sp_lc (sp_lc s)) 2)))), .ref 17, .int (nI c)], (am_set (am_set N 17 26 (sp_lc s)) 17 26 (sp_lc (sp_lc s))))) rfl (by simp only [pk_mul, nI_add]) ?_
      refine am_goX (v := nI (sp_dr (sp_lc (sp_lc (sp_lc s))) 12)) (M2 := (am_set (am_set (am_set N 17 26 (sp_lc s)) 17 26 (sp_lc (sp_lc s))) 17 26 (sp_lc (sp_lc (sp_lc s))))) (s2 := (93, [.ref 17, .int (nI g), .int (y), .int (nI 0), .int (nI c), .int (nI i), .int (nI (sp_dr (sp_lc s) w.1)), .int (nI (sp_dr (sp_lc (sp_lc s)) 2))], [.int (nI ((1000 * (sp_dr (sp_lc s) w.1)) + (100 * (sp_dr (sp_lc (sp_lc s)) 2)))), .ref 17, .int (nI c)], (am_set (am_set N 17 26 (sp_lc s)) 17 26 (sp_lc (sp_lc s))))) rfl (t_draw2 (s := (sp_lc (sp_lc s))) rfl (by omega) (by omega)) ?_
      refine am_goQ 1 (s1 := (94, [.ref 17, .int (nI g), .int (y), .int (nI 0), .int (nI c), .int (nI i), .int (nI (sp_dr (sp_lc s) w.1)), .int (nI (sp_dr (sp_lc (sp_lc s)) 2))], [.int ((nI ((1000 * (sp_dr (sp_lc s) w.1)) + (100 * (sp_dr (sp_lc (sp_lc s)) 2))) + nI (sp_dr (sp_lc (sp_lc (sp_lc s))) 12))), .ref 17, .int (nI c)], (am_set (am_set (am_set N 17 26 (sp_lc s)) 17 26 (sp_lc (sp_lc s))) 17 26 (sp_lc (sp_lc (sp_lc s)))))) (s2 := (94, [.ref 17, .int (nI g), .int (y), .int (nI 0), .int (nI c), .int (nI i), .int (nI (sp_dr (sp_lc s) w.1)), .int (nI (sp_dr (sp_lc (sp_lc s)) 2))], [.int (nI (((1000 * (sp_dr (sp_lc s) w.1)) + (100 * (sp_dr (sp_lc (sp_lc s)) 2))) + (sp_dr (sp_lc (sp_lc (sp_lc s))) 12))), .ref 17, .int (nI c)], (am_set (am_set (am_set N 17 26 (sp_lc s)) 17 26 (sp_lc (sp_lc s))) 17 26 (sp_lc (sp_lc (sp_lc s)))))) rfl (by simp only [nI_add]) ?_
      have hB : ∀ a9 b9, ¬ (a9 = 17 ∧ b9 = 26) → (am_set (am_set (am_set N 17 26 (sp_lc s)) 17 26 (sp_lc (sp_lc s))) 17 26 (sp_lc (sp_lc (sp_lc s)))) a9 b9 = N a9 b9 := fun a9 b9 c9 => by rw [am_set_o (by omega), am_set_o (by omega), am_set_o (by omega)]
      refine am_goC (s2 := (97, [.ref 17, .int (nI g), .int (y), .int (nI 0), .int (nI c), .int (nI i), .int (nI (sp_dr (sp_lc s) w.1)), .int (nI (sp_dr (sp_lc (sp_lc s)) 2))], [.int (nI c)], (am_set (am_set (am_set N 17 26 (sp_lc s)) 17 26 (sp_lc (sp_lc s))) 17 26 (sp_lc (sp_lc (sp_lc s)))))) rfl (t_told1 (hS.fr (fun a9 b9 c9 => hB a9 b9 (by omega))) hg (z := sp_sz w.1 s) (by omega)) (fun x O hx => ?_)
      obtain ⟨x0, x1, x2⟩ := hx
      rw [hq] at x0
      subst x0
      refine am_goQ 5 (s1 := (109, [.ref 17, .int (nI g), .int (y), .int (nI 0), .int ((nI c + nI 0)), .int (nI i), .int (nI (sp_dr (sp_lc s) w.1)), .int (nI (sp_dr (sp_lc (sp_lc s)) 2))], [.ref 17], O)) (s2 := (109, [.ref 17, .int (nI g), .int (y), .int (nI 0), .int (nI (c + 0)), .int (nI i), .int (nI (sp_dr (sp_lc s) w.1)), .int (nI (sp_dr (sp_lc (sp_lc s)) 2))], [.ref 17], O)) rfl (by simp only [nI_add]) ?_
      refine am_goV (s2 := (112, [.ref 17, .int (nI g), .int (y), .int (nI 0), .int (nI (c + 0)), .int (nI i), .int (nI (sp_dr (sp_lc s) w.1)), .int (nI (sp_dr (sp_lc (sp_lc s)) 2))], [], O)) rfl (t_hour1 x1 hg (by omega)) (fun U hy => ?_)
      obtain ⟨y1, y2⟩ := hy
      have ff : ∀ a9 b9, ¬ a9 = 20 → ¬ (a9 = 17 ∧ (b9 = 5 ∨ b9 = 6 ∨ b9 = 26)) → U a9 b9 = N a9 b9 := fun a9 b9 c1 c2 => (y2 a9 b9 (by omega)).trans ((x2 a9 b9 c1).trans (hB a9 b9 (by omega)))
      have h9U : U 17 26 = sp_s3 s := (y2 _ _ (by omega)).trans ((x2 _ _ (by omega)).trans rfl)
      refine am_goQ 2 (s1 := (49, [.ref 17, .int (nI g), .int (y), .int (nI 0), .int (nI (c + 0)), .int ((nI i + nI 1)), .int (nI (sp_dr (sp_lc s) w.1)), .int (nI (sp_dr (sp_lc (sp_lc s)) 2))], [], U)) (s2 := (49, [.ref 17, .int (nI g), .int (y), .int (nI 0), .int (nI (c + 0)), .int (nI (i + 1)), .int (nI (sp_dr (sp_lc s) w.1)), .int (nI (sp_dr (sp_lc (sp_lc s)) 2))], [], U)) rfl (by simp only [nI_add]) ?_
      exact ih (i + 1) _ U (sp_nx w (sp_sz w.1 s)) (sp_s3 s) _ _ (by omega) hn h9U y1 hg.nx h0 (by show w.2.2.2.1 + 1 + m < 1000000; omega) (fun P u8 u9 w9 q1 q2 => by
        have q3 := kk P u8 u9 w9 q1 (fun a9 b9 c1 c2 => (q2 a9 b9 c1 c2).trans (ff a9 b9 c1 c2))
        rw [show sp_sd (m + 1) s w c = sp_sd m (sp_s3 s) (sp_nx w (sp_sz w.1 s)) (c + 0) from sp_sg_f hq] at q3
        exact q3)
    | true =>
      refine am_goR 2 (s2 := (52, [.ref 17, .int (nI g), .int (y), .int (nI 0), .int (nI c), .int (nI i), u6, u7], [.int (nI g), .int (nI i)], N)) rfl ?_
      refine am_bLE (g) (i) (s1 := (118, [.ref 17, .int (nI g), .int (y), .int (nI 0), .int (nI c), .int (nI i), u6, u7], [], N)) (s2 := (55, [.ref 17, .int (nI g), .int (y), .int (nI 0), .int (nI c), .int (nI i), u6, u7], [], N)) rfl (by omega) (by omega) (fun c1 => absurd c1 (by omega)) (fun c1 => ?_)
      refine am_goQ 3 (s1 := (60, [.ref 17, .int (nI g), .int (y), .int (nI 0), .int (nI c), .int (nI i), u6, u7], [.int ((N 17 3)), .ref 17], N)) (s2 := (60, [.ref 17, .int (nI g), .int (y), .int (nI 0), .int (nI c), .int (nI i), u6, u7], [.int (nI w.1), .ref 17], N)) rfl (by simp only [hS.2.1]) ?_
      refine am_goX (v := nI (sp_dr (sp_lc s) w.1)) (M2 := (am_set N 17 26 (sp_lc s))) (s2 := (63, [.ref 17, .int (nI g), .int (y), .int (nI 0), .int (nI c), .int (nI i), u6, u7], [], N)) rfl (t_draw2 (s := s) h9 (by omega) (by omega)) ?_
      refine am_goR 3 (s2 := (67, [.ref 17, .int (nI g), .int (y), .int (nI 0), .int (nI c), .int (nI i), .int (nI (sp_dr (sp_lc s) w.1)), u7], [.int (nI 2), .ref 17], (am_set N 17 26 (sp_lc s)))) rfl ?_
      refine am_goX (v := nI (sp_dr (sp_lc (sp_lc s)) 2)) (M2 := (am_set (am_set N 17 26 (sp_lc s)) 17 26 (sp_lc (sp_lc s)))) (s2 := (70, [.ref 17, .int (nI g), .int (y), .int (nI 0), .int (nI c), .int (nI i), .int (nI (sp_dr (sp_lc s) w.1)), u7], [], (am_set N 17 26 (sp_lc s)))) rfl (t_draw2 (s := (sp_lc s)) rfl (by omega) (by omega)) ?_
      refine am_goQ 12 (s1 := (90, [.ref 17, .int (nI g), .int (y), .int (nI 0), .int (nI c), .int (nI i), .int (nI (sp_dr (sp_lc s) w.1)), .int (nI (sp_dr (sp_lc (sp_lc s)) 2))], [.int (nI 12), .ref 17, .int (((nI 1000 * nI (sp_dr (sp_lc s) w.1)) + (nI 100 * nI (sp_dr (sp_lc (sp_lc s)) 2)))), .ref 17, .int (nI c)], (am_set (am_set N 17 26 (sp_lc s)) 17 26 (sp_lc (sp_lc s))))) (s2 := (90, [.ref 17, .int (nI g), .int (y), .int (nI 0), .int (nI c), .int (nI i), .int (nI (sp_dr (sp_lc s) w.1)), .int (nI (sp_dr (sp_lc (sp_lc s)) 2))], [.int (nI 12), .ref 17, .int (nI ((1000 * (sp_dr (sp_lc s) w.1)) + (100 * (sp_dr (sp_lc (sp_lc s)) 2)))), .ref 17, .int (nI c)], (am_set (am_set N 17 26 (sp_lc s)) 17 26 (sp_lc (sp_lc s))))) rfl (by simp only [pk_mul, nI_add]) ?_
      refine am_goX (v := nI (sp_dr (sp_lc (sp_lc (sp_lc s))) 12)) (M2 := (am_set (am_set (am_set N 17 26 (sp_lc s)) 17 26 (sp_lc (sp_lc s))) 17 26 (sp_lc (sp_lc (sp_lc s))))) (s2 := (93, [.ref 17, .int (nI g), .int (y), .int (nI 0), .int (nI c), .int (nI i), .int (nI (sp_dr (sp_lc s) w.1)), .int (nI (sp_dr (sp_lc (sp_lc s)) 2))], [.int (nI ((1000 * (sp_dr (sp_lc s) w.1)) + (100 * (sp_dr (sp_lc (sp_lc s)) 2)))), .ref 17, .int (nI c)], (am_set (am_set N 17 26 (sp_lc s)) 17 26 (sp_lc (sp_lc s))))) rfl (t_draw2 (s := (sp_lc (sp_lc s))) rfl (by omega) (by omega)) ?_
      refine am_goQ 1 (s1 := (94, [.ref 17, .int (nI g), .int (y), .int (nI 0), .int (nI c), .int (nI i), .int (nI (sp_dr (sp_lc s) w.1)), .int (nI (sp_dr (sp_lc (sp_lc s)) 2))], [.int ((nI ((1000 * (sp_dr (sp_lc s) w.1)) + (100 * (sp_dr (sp_lc (sp_lc s)) 2))) + nI (sp_dr (sp_lc (sp_lc (sp_lc s))) 12))), .ref 17, .int (nI c)], (am_set (am_set (am_set N 17 26 (sp_lc s)) 17 26 (sp_lc (sp_lc s))) 17 26 (sp_lc (sp_lc (sp_lc s)))))) (s2 := (94, [.ref 17, .int (nI g), .int (y), .int (nI 0), .int (nI c), .int (nI i), .int (nI (sp_dr (sp_lc s) w.1)), .int (nI (sp_dr (sp_lc (sp_lc s)) 2))], [.int (nI (((1000 * (sp_dr (sp_lc s) w.1)) + (100 * (sp_dr (sp_lc (sp_lc s)) 2))) + (sp_dr (sp_lc (sp_lc (sp_lc s))) 12))), .ref 17, .int (nI c)], (am_set (am_set (am_set N 17 26 (sp_lc s)) 17 26 (sp_lc (sp_lc s))) 17 26 (sp_lc (sp_lc (sp_lc s)))))) rfl (by simp only [nI_add]) ?_
      have hB : ∀ a9 b9, ¬ (a9 = 17 ∧ b9 = 26) → (am_set (am_set (am_set N 17 26 (sp_lc s)) 17 26 (sp_lc (sp_lc s))) 17 26 (sp_lc (sp_lc (sp_lc s)))) a9 b9 = N a9 b9 := fun a9 b9 c9 => by rw [am_set_o (by omega), am_set_o (by omega), am_set_o (by omega)]
      refine am_goC (s2 := (97, [.ref 17, .int (nI g), .int (y), .int (nI 0), .int (nI c), .int (nI i), .int (nI (sp_dr (sp_lc s) w.1)), .int (nI (sp_dr (sp_lc (sp_lc s)) 2))], [.int (nI c)], (am_set (am_set (am_set N 17 26 (sp_lc s)) 17 26 (sp_lc (sp_lc s))) 17 26 (sp_lc (sp_lc (sp_lc s)))))) rfl (t_told1 (hS.fr (fun a9 b9 c9 => hB a9 b9 (by omega))) hg (z := sp_sz w.1 s) (by omega)) (fun x O hx => ?_)
      obtain ⟨x0, x1, x2⟩ := hx
      rw [hq] at x0
      subst x0
      refine am_goQ 6 (s1 := (109, [.ref 17, .int (nI g), .int (y), .int (nI 0), .int ((nI c + nI 1)), .int (nI i), .int (nI (sp_dr (sp_lc s) w.1)), .int (nI (sp_dr (sp_lc (sp_lc s)) 2))], [.ref 17], O)) (s2 := (109, [.ref 17, .int (nI g), .int (y), .int (nI 0), .int (nI (c + 1)), .int (nI i), .int (nI (sp_dr (sp_lc s) w.1)), .int (nI (sp_dr (sp_lc (sp_lc s)) 2))], [.ref 17], O)) rfl (by simp only [nI_add]) ?_
      refine am_goV (s2 := (112, [.ref 17, .int (nI g), .int (y), .int (nI 0), .int (nI (c + 1)), .int (nI i), .int (nI (sp_dr (sp_lc s) w.1)), .int (nI (sp_dr (sp_lc (sp_lc s)) 2))], [], O)) rfl (t_hour1 x1 hg (by omega)) (fun U hy => ?_)
      obtain ⟨y1, y2⟩ := hy
      have ff : ∀ a9 b9, ¬ a9 = 20 → ¬ (a9 = 17 ∧ (b9 = 5 ∨ b9 = 6 ∨ b9 = 26)) → U a9 b9 = N a9 b9 := fun a9 b9 c1 c2 => (y2 a9 b9 (by omega)).trans ((x2 a9 b9 c1).trans (hB a9 b9 (by omega)))
      have h9U : U 17 26 = sp_s3 s := (y2 _ _ (by omega)).trans ((x2 _ _ (by omega)).trans rfl)
      refine am_goQ 2 (s1 := (49, [.ref 17, .int (nI g), .int (y), .int (nI 0), .int (nI (c + 1)), .int ((nI i + nI 1)), .int (nI (sp_dr (sp_lc s) w.1)), .int (nI (sp_dr (sp_lc (sp_lc s)) 2))], [], U)) (s2 := (49, [.ref 17, .int (nI g), .int (y), .int (nI 0), .int (nI (c + 1)), .int (nI (i + 1)), .int (nI (sp_dr (sp_lc s) w.1)), .int (nI (sp_dr (sp_lc (sp_lc s)) 2))], [], U)) rfl (by simp only [nI_add]) ?_
      exact ih (i + 1) _ U (sp_nx w (sp_sz w.1 s)) (sp_s3 s) _ _ (by omega) hn h9U y1 hg.nx h0 (by show w.2.2.2.1 + 1 + m < 1000000; omega) (fun P u8 u9 w9 q1 q2 => by
        have q3 := kk P u8 u9 w9 q1 (fun a9 b9 c1 c2 => (q2 a9 b9 c1 c2).trans (ff a9 b9 c1 c2))
        rw [show sp_sd (m + 1) s w c = sp_sd m (sp_s3 s) (sp_nx w (sp_sz w.1 s)) (c + 1) from sp_sg_t hq] at q3
        exact q3)

set_option maxHeartbeats 4000000 in
theorem c_seeds_lo {M : am_Mem} {a f hr hs lt : Nat} {k h : Nat → Nat} (hS : sp_S 1 M a f hr hs lt k h) (hO : sp_ok a f hr lt k h) {x y : Int32} (hx : x < nI 1) : am_go 79 (am_ent 79 [.ref 0, .int (x), .int (y)] M) (am_is (-nI 4) (am_set M 16 4 (M 16 4 + nI 1))) := by
  obtain ⟨hF, hA, hHr, hHs, hLt, hK, hH⟩ := id hS
  obtain ⟨oA, oF, oHr, oLt, oK, oH⟩ := id hO
  refine am_goR 2 (s2 := (2, [.ref 0, .int (x), .int (y), .null, .null, .null, .null, .null], [.int (nI 1), .int (x)], M)) rfl ?_
  refine am_bF (P := nI 1 ≤ x) (s1 := (12, [.ref 0, .int (x), .int (y), .null, .null, .null, .null, .null], [], M)) (s2 := (5, [.ref 0, .int (x), .int (y), .null, .null, .null, .null, .null], [], M)) rfl (k2_nle hx) ?_
  refine am_goR 2 (s2 := (8, [.ref 0, .int (x), .int (y), .null, .null, .null, .null, .null], [.int ((-nI 4)), .ref 0], M)) rfl ?_
  refine am_goX (v := (-nI 4)) (M2 := (am_set M 16 4 (M 16 4 + nI 1))) (s2 := (11, [.ref 0, .int (x), .int (y), .null, .null, .null, .null, .null], [], M)) rfl (s_refuse_4) ?_
  exact am_ends (-nI 4) _ rfl rfl rfl

set_option maxHeartbeats 4000000 in
theorem r_seeds_lo {M : am_Mem} {a f hr hs lt : Nat} {k h : Nat → Nat} (hS : sp_M M a f hr hs lt k h) (hO : sp_ok a f hr lt k h) (oD : ∀ p q, p < 2 * a → q < 2 * a → h p = h q → p = q) {x y : Int32} (hx : x < nI 1) : am_go 156 (am_ent 156 [.ref 17, .int (x), .int (y)] M) (am_is (-nI 4) (am_set M 18 4 (M 18 4 + nI 1))) := by
  obtain ⟨hF, hA, hHr, hHs, hLt, hK, hH⟩ := id hS
  obtain ⟨oA, oF, oHr, oLt, oK, oH⟩ := id hO
  refine am_goR 3 (s2 := (4, [.ref 17, .int (x), .int (y), .null, .null, .null, .null, .null], [.int (nI 60), .int (nI 1), .int (x)], M)) rfl ?_
  refine am_goX (v := (-nI 4)) (M2 := M) (s2 := (7, [.ref 17, .int (x), .int (y), .null, .null, .null, .null, .null], [], M)) rfl (t_bound_lo hx) ?_
  refine am_goR 7 (s2 := (28, [.ref 17, .int (x), .int (y), .int ((-nI 4)), .null, .null, .null, .null], [.int ((-nI 4)), .ref 17], M)) rfl ?_
  refine am_goX (v := (-nI 4)) (M2 := (am_set M 18 4 (M 18 4 + nI 1))) (s2 := (31, [.ref 17, .int (x), .int (y), .int ((-nI 4)), .null, .null, .null, .null], [], M)) rfl (t_no_4) ?_
  exact am_ends (-nI 4) _ rfl rfl rfl

set_option maxHeartbeats 4000000 in
theorem c_seeds_hi {M : am_Mem} {a f hr hs lt : Nat} {k h : Nat → Nat} (hS : sp_S 1 M a f hr hs lt k h) (hO : sp_ok a f hr lt k h) {x y : Int32} (hx : ¬ x < nI 1) (hx2 : nI 60 < x) : am_go 79 (am_ent 79 [.ref 0, .int (x), .int (y)] M) (am_is (-nI 6) (am_set M 16 6 (M 16 6 + nI 1))) := by
  obtain ⟨hF, hA, hHr, hHs, hLt, hK, hH⟩ := id hS
  obtain ⟨oA, oF, oHr, oLt, oK, oH⟩ := id hO
  refine am_goR 2 (s2 := (2, [.ref 0, .int (x), .int (y), .null, .null, .null, .null, .null], [.int (nI 1), .int (x)], M)) rfl ?_
  refine am_bT (P := nI 1 ≤ x) (s1 := (12, [.ref 0, .int (x), .int (y), .null, .null, .null, .null, .null], [], M)) (s2 := (5, [.ref 0, .int (x), .int (y), .null, .null, .null, .null, .null], [], M)) rfl (k2_le hx) ?_
  refine am_goR 2 (s2 := (15, [.ref 0, .int (x), .int (y), .null, .null, .null, .null, .null], [.int (nI 60), .int (x)], M)) rfl ?_
  refine am_bF (P := x ≤ nI 60) (s1 := (25, [.ref 0, .int (x), .int (y), .null, .null, .null, .null, .null], [], M)) (s2 := (18, [.ref 0, .int (x), .int (y), .null, .null, .null, .null, .null], [], M)) rfl (k2_nle hx2) ?_
  refine am_goR 2 (s2 := (21, [.ref 0, .int (x), .int (y), .null, .null, .null, .null, .null], [.int ((-nI 6)), .ref 0], M)) rfl ?_
  refine am_goX (v := (-nI 6)) (M2 := (am_set M 16 6 (M 16 6 + nI 1))) (s2 := (24, [.ref 0, .int (x), .int (y), .null, .null, .null, .null, .null], [], M)) rfl (s_refuse_6) ?_
  exact am_ends (-nI 6) _ rfl rfl rfl

set_option maxHeartbeats 4000000 in
theorem r_seeds_hi {M : am_Mem} {a f hr hs lt : Nat} {k h : Nat → Nat} (hS : sp_M M a f hr hs lt k h) (hO : sp_ok a f hr lt k h) (oD : ∀ p q, p < 2 * a → q < 2 * a → h p = h q → p = q) {x y : Int32} (hx : ¬ x < nI 1) (hx2 : nI 60 < x) : am_go 156 (am_ent 156 [.ref 17, .int (x), .int (y)] M) (am_is (-nI 6) (am_set M 18 6 (M 18 6 + nI 1))) := by
  obtain ⟨hF, hA, hHr, hHs, hLt, hK, hH⟩ := id hS
  obtain ⟨oA, oF, oHr, oLt, oK, oH⟩ := id hO
  refine am_goR 3 (s2 := (4, [.ref 17, .int (x), .int (y), .null, .null, .null, .null, .null], [.int (nI 60), .int (nI 1), .int (x)], M)) rfl ?_
  refine am_goX (v := (-nI 6)) (M2 := M) (s2 := (7, [.ref 17, .int (x), .int (y), .null, .null, .null, .null, .null], [], M)) rfl (t_bound_hi hx hx2) ?_
  refine am_goR 7 (s2 := (28, [.ref 17, .int (x), .int (y), .int ((-nI 6)), .null, .null, .null, .null], [.int ((-nI 6)), .ref 17], M)) rfl ?_
  refine am_goX (v := (-nI 6)) (M2 := (am_set M 18 6 (M 18 6 + nI 1))) (s2 := (31, [.ref 17, .int (x), .int (y), .int ((-nI 6)), .null, .null, .null, .null], [], M)) rfl (t_no_6) ?_
  exact am_ends (-nI 6) _ rfl rfl rfl

set_option maxHeartbeats 4000000 in
theorem c_seeds_0 {M : am_Mem} {a f hr hs lt : Nat} {k h : Nat → Nat} (hS : sp_S 1 M a f hr hs lt k h) (hO : sp_ok a f hr lt k h) {g : Nat} (hg1 : 1 ≤ g) (hg2 : g ≤ 60) {y : Int32} (ha : a = 0) : am_go 79 (am_ent 79 [.ref 0, .int (nI g), .int (y)] M) (am_is (-nI 3) (am_set M 16 3 (M 16 3 + nI 1))) := by
  obtain ⟨hF, hA, hHr, hHs, hLt, hK, hH⟩ := id hS
  obtain ⟨oA, oF, oHr, oLt, oK, oH⟩ := id hO
  refine am_goR 2 (s2 := (2, [.ref 0, .int (nI g), .int (y), .null, .null, .null, .null, .null], [.int (nI 1), .int (nI g)], M)) rfl ?_
  refine am_bLE (1) (g) (s1 := (12, [.ref 0, .int (nI g), .int (y), .null, .null, .null, .null, .null], [], M)) (s2 := (5, [.ref 0, .int (nI g), .int (y), .null, .null, .null, .null, .null], [], M)) rfl (by omega) (by omega) (fun c1 => ?_) (fun c1 => absurd c1 (by omega))
  refine am_goR 2 (s2 := (15, [.ref 0, .int (nI g), .int (y), .null, .null, .null, .null, .null], [.int (nI 60), .int (nI g)], M)) rfl ?_
  refine am_bLE (g) (60) (s1 := (25, [.ref 0, .int (nI g), .int (y), .null, .null, .null, .null, .null], [], M)) (s2 := (18, [.ref 0, .int (nI g), .int (y), .null, .null, .null, .null, .null], [], M)) rfl (by omega) (by omega) (fun c2 => ?_) (fun c2 => absurd c2 (by omega))
  refine am_goQ 4 (s1 := (33, [.ref 0, .int (nI g), .int (y), .null, .null, .null, .null, .null], [.int (nI 1), .int ((M 1 1))], M)) (s2 := (33, [.ref 0, .int (nI g), .int (y), .null, .null, .null, .null, .null], [.int (nI 1), .int (nI a)], M)) rfl (by simp only [hA]) ?_
  refine am_bLE (1) (a) (s1 := (43, [.ref 0, .int (nI g), .int (y), .null, .null, .null, .null, .null], [], M)) (s2 := (36, [.ref 0, .int (nI g), .int (y), .null, .null, .null, .null, .null], [], M)) rfl (by omega) (by omega) (fun c3 => absurd c3 (by omega)) (fun c3 => ?_)
  refine am_goR 2 (s2 := (39, [.ref 0, .int (nI g), .int (y), .null, .null, .null, .null, .null], [.int ((-nI 3)), .ref 0], M)) rfl ?_
  refine am_goX (v := (-nI 3)) (M2 := (am_set M 16 3 (M 16 3 + nI 1))) (s2 := (42, [.ref 0, .int (nI g), .int (y), .null, .null, .null, .null, .null], [], M)) rfl (s_refuse_3) ?_
  exact am_ends (-nI 3) _ rfl rfl rfl

set_option maxHeartbeats 4000000 in
theorem r_seeds_0 {M : am_Mem} {a f hr hs lt : Nat} {k h : Nat → Nat} (hS : sp_M M a f hr hs lt k h) (hO : sp_ok a f hr lt k h) (oD : ∀ p q, p < 2 * a → q < 2 * a → h p = h q → p = q) {g : Nat} (hg1 : 1 ≤ g) (hg2 : g ≤ 60) {y : Int32} (ha : a = 0) : am_go 156 (am_ent 156 [.ref 17, .int (nI g), .int (y)] M) (am_is (-nI 3) (am_set M 18 3 (M 18 3 + nI 1))) := by
  obtain ⟨hF, hA, hHr, hHs, hLt, hK, hH⟩ := id hS
  obtain ⟨oA, oF, oHr, oLt, oK, oH⟩ := id hO
  refine am_goR 3 (s2 := (4, [.ref 17, .int (nI g), .int (y), .null, .null, .null, .null, .null], [.int (nI 60), .int (nI 1), .int (nI g)], M)) rfl ?_
  refine am_goX (v := nI 0) (M2 := M) (s2 := (7, [.ref 17, .int (nI g), .int (y), .null, .null, .null, .null, .null], [], M)) rfl (t_bound_ok (fun z => by have := (nI_ltI (by omega) (by omega)).mp z; omega) (fun z => by have := (nI_ltI (by omega) (by omega)).mp z; omega)) ?_
  refine am_goQ 5 (s1 := (16, [.ref 17, .int (nI g), .int (y), .int (nI 0), .null, .null, .null, .null], [.int ((M 17 3))], M)) (s2 := (16, [.ref 17, .int (nI g), .int (y), .int (nI 0), .null, .null, .null, .null], [.int (nI a)], M)) rfl (by simp only [hA]) ?_
  refine am_bNE (a) (0) (s1 := (22, [.ref 17, .int (nI g), .int (y), .int (nI 0), .null, .null, .null, .null], [], M)) (s2 := (19, [.ref 17, .int (nI g), .int (y), .int (nI 0), .null, .null, .null, .null], [], M)) rfl (by omega) (by omega) (fun c1 => absurd c1 (by omega)) (fun c1 => ?_)
  refine am_goR 6 (s2 := (28, [.ref 17, .int (nI g), .int (y), .int ((-nI 3)), .null, .null, .null, .null], [.int ((-nI 3)), .ref 17], M)) rfl ?_
  refine am_goX (v := (-nI 3)) (M2 := (am_set M 18 3 (M 18 3 + nI 1))) (s2 := (31, [.ref 17, .int (nI g), .int (y), .int ((-nI 3)), .null, .null, .null, .null], [], M)) rfl (t_no_3) ?_
  exact am_ends (-nI 3) _ rfl rfl rfl

set_option maxHeartbeats 4000000 in
theorem c_seeds_h {M : am_Mem} {a f hr hs lt : Nat} {k h : Nat → Nat} (hS : sp_S 1 M a f hr hs lt k h) (hO : sp_ok a f hr lt k h) {g : Nat} (hg1 : 1 ≤ g) (hg2 : g ≤ 60) {y : Int32} (ha : 0 < a) {Q : Option Value → am_Mem → Prop} (kk : am_go 79 (43, [.ref 0, .int (nI g), .int y, .null, .null, .null, .null, .null], [], M) Q) : am_go 79 (am_ent 79 [.ref 0, .int (nI g), .int (y)] M) Q := by
  obtain ⟨hF, hA, hHr, hHs, hLt, hK, hH⟩ := id hS
  obtain ⟨oA, oF, oHr, oLt, oK, oH⟩ := id hO
  refine am_goR 2 (s2 := (2, [.ref 0, .int (nI g), .int (y), .null, .null, .null, .null, .null], [.int (nI 1), .int (nI g)], M)) rfl ?_
  refine am_bLE (1) (g) (s1 := (12, [.ref 0, .int (nI g), .int (y), .null, .null, .null, .null, .null], [], M)) (s2 := (5, [.ref 0, .int (nI g), .int (y), .null, .null, .null, .null, .null], [], M)) rfl (by omega) (by omega) (fun c1 => ?_) (fun c1 => absurd c1 (by omega))
  refine am_goR 2 (s2 := (15, [.ref 0, .int (nI g), .int (y), .null, .null, .null, .null, .null], [.int (nI 60), .int (nI g)], M)) rfl ?_
  refine am_bLE (g) (60) (s1 := (25, [.ref 0, .int (nI g), .int (y), .null, .null, .null, .null, .null], [], M)) (s2 := (18, [.ref 0, .int (nI g), .int (y), .null, .null, .null, .null, .null], [], M)) rfl (by omega) (by omega) (fun c2 => ?_) (fun c2 => absurd c2 (by omega))
  refine am_goQ 4 (s1 := (33, [.ref 0, .int (nI g), .int (y), .null, .null, .null, .null, .null], [.int (nI 1), .int ((M 1 1))], M)) (s2 := (33, [.ref 0, .int (nI g), .int (y), .null, .null, .null, .null, .null], [.int (nI 1), .int (nI a)], M)) rfl (by simp only [hA]) ?_
  refine am_bLE (1) (a) (s1 := (43, [.ref 0, .int (nI g), .int (y), .null, .null, .null, .null, .null], [], M)) (s2 := (36, [.ref 0, .int (nI g), .int (y), .null, .null, .null, .null, .null], [], M)) rfl (by omega) (by omega) (fun c3 => ?_) (fun c3 => absurd c3 (by omega))
  exact kk

set_option maxHeartbeats 4000000 in
theorem r_seeds_h {M : am_Mem} {a f hr hs lt : Nat} {k h : Nat → Nat} (hS : sp_M M a f hr hs lt k h) (hO : sp_ok a f hr lt k h) (oD : ∀ p q, p < 2 * a → q < 2 * a → h p = h q → p = q) {g : Nat} (hg1 : 1 ≤ g) (hg2 : g ≤ 60) {y : Int32} (ha : 0 < a) {Q : Option Value → am_Mem → Prop} (kk : am_go 156 (32, [.ref 17, .int (nI g), .int y, .int (nI 0), .null, .null, .null, .null], [], M) Q) : am_go 156 (am_ent 156 [.ref 17, .int (nI g), .int (y)] M) Q := by
  obtain ⟨hF, hA, hHr, hHs, hLt, hK, hH⟩ := id hS
  obtain ⟨oA, oF, oHr, oLt, oK, oH⟩ := id hO
  refine am_goR 3 (s2 := (4, [.ref 17, .int (nI g), .int (y), .null, .null, .null, .null, .null], [.int (nI 60), .int (nI 1), .int (nI g)], M)) rfl ?_
  refine am_goX (v := nI 0) (M2 := M) (s2 := (7, [.ref 17, .int (nI g), .int (y), .null, .null, .null, .null, .null], [], M)) rfl (t_bound_ok (fun z => by have := (nI_ltI (by omega) (by omega)).mp z; omega) (fun z => by have := (nI_ltI (by omega) (by omega)).mp z; omega)) ?_
  refine am_goQ 5 (s1 := (16, [.ref 17, .int (nI g), .int (y), .int (nI 0), .null, .null, .null, .null], [.int ((M 17 3))], M)) (s2 := (16, [.ref 17, .int (nI g), .int (y), .int (nI 0), .null, .null, .null, .null], [.int (nI a)], M)) rfl (by simp only [hA]) ?_
  refine am_bNE (a) (0) (s1 := (22, [.ref 17, .int (nI g), .int (y), .int (nI 0), .null, .null, .null, .null], [], M)) (s2 := (19, [.ref 17, .int (nI g), .int (y), .int (nI 0), .null, .null, .null, .null], [], M)) rfl (by omega) (by omega) (fun c1 => ?_) (fun c1 => absurd c1 (by omega))
  refine am_goR 2 (s2 := (32, [.ref 17, .int (nI g), .int (y), .int (nI 0), .null, .null, .null, .null], [], M)) rfl ?_
  exact kk

theorem c_seeds {M : am_Mem} {a f hr hs lt : Nat} {k h : Nat → Nat} {t : Bool} {w2 : sp_W} {n : Nat} {tx : Nat → Nat} {rn : Nat} {ro : Nat → Nat} {rf : Nat → Int32} (hC : sp_IC M ((a, f, hr, hs, lt, k, h), t, w2, n, tx, rn, ro, rf)) (hg : sp_go (a, f, hr, hs, lt, k, h)) {g : Nat} (hg1 : 1 ≤ g) (hg2 : g ≤ 60) {y : Int32} (ha : 0 < a) : am_go 79 (am_ent 79 [.ref 0, .int (nI g), .int y] M) (sp_cP M (nI (sp_sd g y (a, f, hr, hs, lt, k, h) 0)) ((a, f, hr, hs, lt, k, h), t, w2, n, tx, rn, ro, rf)) := by
  have hC1 : sp_S 1 M a f hr hs lt k h := hC.1
  have hO1 : sp_ok a f hr lt k h := hg.1
  refine c_seeds_h hC1 hO1 hg1 hg2 ha ?_
  refine am_goR 4 (s2 := (51, [.ref 0, .int (nI g), .int y, .null, .null, .null, .null, .null], [.ref 1, .ref 4], M)) rfl ?_
  refine am_goV (s2 := (54, [.ref 0, .int (nI g), .int y, .null, .null, .null, .null, .null], [], M)) rfl (s_become_4_1 hC1) (fun K hK => ?_)
  obtain ⟨k1, k2⟩ := hK
  have kf : ∀ a9 b9, ¬ a9 = 4 → ¬ a9 = 5 → ¬ a9 = 6 → K a9 b9 = M a9 b9 := fun a9 b9 c1 c2 c3 => congrFun (k1 a9 c1 c2 c3) b9
  refine am_goR 7 (s2 := (64, [.ref 0, .int (nI g), .int y, .int (nI 0), .int (nI 0), .null, .null, .null], [], am_set K 0 9 y)) rfl ?_
  have hs9 : hs ≤ 9999 := hg.2.1
  have hs8 : hs + g < 1000000 := by omega
  have k3 : sp_SW 4 K (a, f, hr, hs, lt, k, h) := k2
  refine am_goW (c_seeds_l g 0 0 (am_set K 0 9 y) (a, f, hr, hs, lt, k, h) y .null .null .null rfl hg2 rfl ((am_set_o (by omega)).trans ((kf _ _ (by omega) (by omega) (by omega)).trans hC1.2.1)) (k3.fr (fun a9 b9 c9 => am_set_o (by omega))) hg.g2 ha hs8) (fun r O hO => ?_)
  obtain ⟨x, rfl, rfl, o2⟩ := hO
  have of : ∀ a9 b9, ¬ a9 = 4 → ¬ a9 = 5 → ¬ a9 = 6 → ¬ (a9 = 0 ∧ b9 = 9) → O a9 b9 = M a9 b9 := fun a9 b9 c1 c2 c3 c4 => (o2 a9 b9 c1 c3 c4).trans ((am_set_o (by omega)).trans (kf a9 b9 c1 c2 c3))
  exact ⟨_, rfl, rfl, fun a9 b9 c9 => of a9 b9 (by omega) (by omega) (by omega) (by omega), hC.fr (fun a9 b9 c9 => by unfold sp_sC at c9; exact of a9 b9 (by omega) (by omega) (by omega) (by omega))⟩
theorem r_seeds {M : am_Mem} {a f hr hs lt : Nat} {k h : Nat → Nat} {t : Bool} {w2 : sp_W} {n : Nat} {tx : Nat → Nat} {rn : Nat} {ro : Nat → Nat} {rf : Nat → Int32} (hR : sp_IR M ((a, f, hr, hs, lt, k, h), t, w2, n, tx, rn, ro, rf)) (hg : sp_go (a, f, hr, hs, lt, k, h)) {g : Nat} (hg1 : 1 ≤ g) (hg2 : g ≤ 60) {y : Int32} (ha : 0 < a) : am_go 156 (am_ent 156 [.ref 17, .int (nI g), .int y] M) (sp_rP M (nI (sp_sd g y (a, f, hr, hs, lt, k, h) 0)) ((a, f, hr, hs, lt, k, h), t, w2, n, tx, rn, ro, rf)) := by
  have hR1 : sp_M M a f hr hs lt k h := hR.1
  have hO1 : sp_ok a f hr lt k h := hg.1
  refine r_seeds_h hR1 hO1 hg.2.2.1 hg1 hg2 ha ?_
  refine am_goR 3 (s2 := (35, [.ref 17, .int (nI g), .int y, .int (nI 0), .null, .null, .null, .null], [.int (nI 1), .int (nI 1), .ref 17], M)) rfl ?_
  refine am_goV (s2 := (38, [.ref 17, .int (nI g), .int y, .int (nI 0), .null, .null, .null, .null], [], M)) rfl (t_keepAll1 hR1) (fun K hK => ?_)
  obtain ⟨k1, k2, k3, k4⟩ := hK
  have k4w : sp_KW K 1 (a, f, hr, hs, lt, k, h) := k4
  have k3w : sp_MW K (a, f, hr, hs, lt, k, h) := k3
  refine am_goR 7 (s2 := (49, [.ref 17, .int (nI g), .int y, .int (nI 0), .int (nI 0), .int (nI 0), .null, .null], [], am_set K 17 26 y)) rfl ?_
  have hs9 : hs ≤ 9999 := hg.2.1
  have hs8 : hs + g < 1000000 := by omega
  refine r_seeds_l g 0 0 (am_set K 17 26 y) (a, f, hr, hs, lt, k, h) y .null .null rfl hg2 rfl (k3w.fr (fun a9 b9 c9 => am_set_o (by omega))) hg.g2 ha hs8 (fun O u8 u9 w9 o1 o2 => ?_)
  refine am_goR 3 (s2 := (121, [.ref 17, .int (nI g), .int y, .int (nI 0), .int (nI (sp_sd g y (a, f, hr, hs, lt, k, h) 0)), .int (nI g), u8, u9], [.int (nI 0), .int (nI 1), .ref 17], O)) rfl ?_
  have k4o : sp_KW O 1 (a, f, hr, hs, lt, k, h) := k4w.fr (fun b9 => (o2 25 b9 (by omega) (by omega)).trans (am_set_o (by omega)))
  refine am_goV (s2 := (124, [.ref 17, .int (nI g), .int y, .int (nI 0), .int (nI (sp_sd g y (a, f, hr, hs, lt, k, h) 0)), .int (nI g), u8, u9], [], O)) rfl (t_putAll1 k4o o1.2.1 o1.1 o1.2.2.1 o1.2.2.2.1 o1.2.2.2.2.1) (fun P hP => ?_)
  obtain ⟨p1, p2⟩ := hP
  dsimp only at p1
  have pf : ∀ a9 b9, ¬ (a9 = 19 ∨ a9 = 20 ∨ (a9 = 25 ∧ 20 ≤ b9) ∨ (a9 = 17 ∧ (b9 = 17 ∨ b9 = 18 ∨ b9 = 26 ∨ (3 ≤ b9 ∧ b9 ≤ 7)))) → P a9 b9 = M a9 b9 := fun a9 b9 c => by
    rw [p1 a9 b9 (by omega) (by omega) (by omega), o2 a9 b9 (by omega) (by omega), am_set_o (by omega)]
    by_cases e : a9 = 25
    · subst e; exact k2 b9 (by omega)
    · exact k1 a9 b9 e (by omega)
  refine am_goR 1 (s2 := (126, [.ref 17, .int (nI g), .int y, .int (nI 0), .int (nI (sp_sd g y (a, f, hr, hs, lt, k, h) 0)), .int (nI g), u8, u9], [.int (nI (sp_sd g y (a, f, hr, hs, lt, k, h) 0))], P)) rfl ?_
  exact am_goE _ _ rfl ⟨_, rfl, rfl, fun a9 b9 c9 => pf a9 b9 (by omega), p2, (pf _ _ (by omega)).trans hR.2.1, fun z => (hR.2.2.1 z).fr2 (fun b9 c9 => pf 25 b9 (by omega)), (pf _ _ (by omega)).trans hR.2.2.2.1, fun q hq => (pf _ _ (by omega)).trans (hR.2.2.2.2.1 q hq), (pf _ _ (by omega)).trans hR.2.2.2.2.2.1, fun q hq => (pf _ _ (by omega)).trans (hR.2.2.2.2.2.2.1 q hq), fun q hq => (pf _ _ (by omega)).trans (hR.2.2.2.2.2.2.2 q hq)⟩
theorem pp_seeds {M : am_Mem} (hI : sp_Inv M) (x y : Int32) : sp_PP 79 156 [.int x, .int y] M := by
  obtain ⟨⟨⟨a, f, hr, hs, lt, k, h⟩, t, w2, n, tx, rn, ro, rf⟩, hC, hR, hG⟩ := hI
  have hO := hG.1.1
  have oD := hG.1.2.2.1
  have oFx := hG.1.2.2.2
  have oA := hO.1
  have oHs := hG.1.2.1
  dsimp only at oD oFx oA oHs
  have hO : sp_ok a f hr lt k h := hO
  have hS1 : sp_S 1 M a f hr hs lt k h := hC.1
  have hM1 : ∀ N, sp_IR N ((a, f, hr, hs, lt, k, h), t, w2, n, tx, rn, ro, rf) → sp_M N a f hr hs lt k h := fun N hN => hN.1
  have hLc : M 13 1 = nI n := hC.2.2.2.1
  have hRc : M 0 7 = nI rn := hC.2.2.2.2.2.1
  have hLm : ∀ N, sp_IR N ((a, f, hr, hs, lt, k, h), t, w2, n, tx, rn, ro, rf) → N 17 12 = nI n := fun N hN => hN.2.2.2.1
  have hRm : ∀ N, sp_IR N ((a, f, hr, hs, lt, k, h), t, w2, n, tx, rn, ro, rf) → N 17 24 = nI rn := fun N hN => hN.2.2.2.2.2.1
  by_cases hx : x < nI 1
  · exact sp_PPr 4 (by decide) hC hR hG (c_seeds_lo hS1 hO hx) (fun N hN => r_seeds_lo (hM1 N hN) hO oD hx)
  · by_cases hx2 : nI 60 < x
    · exact sp_PPr 6 (by decide) hC hR hG (c_seeds_hi hS1 hO hx hx2) (fun N hN => r_seeds_hi (hM1 N hN) hO oD hx hx2)
    · obtain ⟨g, hg, rfl⟩ := am_rg (n := 60) (by decide) (fun z => hx (am_lt_tr z (by decide))) hx2
      have hg1 : 1 ≤ g := Nat.not_lt.mp (fun z => hx ((nI_ltI (by omega) (by omega)).mpr z))
      by_cases ha : a = 0
      · exact sp_PPr 3 (by decide) hC hR hG (c_seeds_0 hS1 hO hg1 hg ha) (fun N hN => r_seeds_0 (hM1 N hN) hO oD hg1 hg ha)
      · exact sp_comb hR (c_seeds hC hG.1 hg1 hg (by omega)) (fun N hN => r_seeds hN hG.1 hg1 hg (by omega)) hG

