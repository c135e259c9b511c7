/-! walks: the reference: keeping and putting back, draws, rows -/
theorem am_and31 (x : Int32) : x &&& nI 2147483647 = nI (x.toBitVec.toNat % 2147483648) := pk_and x 31 (by decide)
/-- a draw -/
def sp_lc (z : Int32) : Int32 := z * nI 1664525 + nI 1013904223
def sp_dr (z : Int32) (m : Nat) : Nat := z.toBitVec.toNat % 2147483648 / 256 % m
/-- what is kept, at the place w -/
def sp_K (M : am_Mem) (w a f hr hs lt : Nat) (k h : Nat → Nat) : Prop := (∀ q, q < 4 → M 25 (20 * w + q) = nI (k q)) ∧ (∀ q, q < 8 → M 25 (20 * w + 4 + q) = nI (h q)) ∧ M 25 (20 * w + 12) = nI a ∧ M 25 (20 * w + 13) = nI f ∧ M 25 (20 * w + 14) = nI hr ∧ M 25 (20 * w + 15) = nI hs ∧ M 25 (20 * w + 16) = nI lt

set_option maxHeartbeats 4000000 in
theorem t_keep19_loop {v : Nat → Nat} {c : Nat} (hc : c < 29) : ∀ (n p : Nat) (M : am_Mem), n + p = 5 → p ≤ 4 → M 17 18 = nI (c + p) → M 17 17 = nI 1 → (∀ q, q < 4 → M 19 q = nI (v q)) → am_go 111 (2, [.ref 17, .ref 19, .int (nI p)], [], M) (am_rv (fun N => (∀ x y, ¬ (x = 25 ∧ c + p ≤ y ∧ y < c + 4) → ¬ (x = 17 ∧ y = 18) → N x y = M x y) ∧ (∀ q, p ≤ q → q < 4 → N 25 (c + q) = nI (v q)) ∧ N 17 18 = nI (c + 4))) := by
  intro n
  induction n with
  | zero => intro p M h1 h2; omega
  | succ n ih =>
    intro p M h1 h2 hcur hk hv
    refine am_goR 3 (s2 := (5, [.ref 17, .ref 19, .int (nI p)], [.int (nI 4), .int (nI p)], M)) rfl ?_
    refine am_bLE (4) (p) (s1 := (58, [.ref 17, .ref 19, .int (nI p)], [], M)) (s2 := (8, [.ref 17, .ref 19, .int (nI p)], [], M)) rfl (by omega) (by omega) (fun c1 => ?_) (fun c1 => ?_)
    · have ep : p = 4 := by omega
      subst ep
      exact am_goE none _ rfl ⟨rfl, fun x y _ _ => rfl, fun q h1 h2 => by omega, hcur⟩
    · refine am_goQ 2 (s1 := (12, [.ref 17, .ref 19, .int (nI p)], [.int ((M 17 17))], M)) (s2 := (12, [.ref 17, .ref 19, .int (nI p)], [.int (nI 1)], M)) rfl (by simp only [hk]) ?_
      refine am_goQ 7 (s1 := (25, [.ref 17, .ref 19, .int (nI p)], [.int (nI p), .ref 19, .int ((M 17 18)), .ref 25], M)) (s2 := (25, [.ref 17, .ref 19, .int (nI p)], [.int (nI p), .ref 19, .int (nI (c + p)), .ref 25], M)) rfl (by simp only [hcur]) ?_
      refine am_goL2 (pc := 26) (ls := [.ref 17, .ref 19, .int (nI p)]) (r := [.int (nI (c + p)), .ref 25]) (M := M) (a := 19) (n := 4) (p) (nI (v p)) rfl rfl (by omega) (by decide) (hv _ (by omega)) ?_
      refine am_goS (pc := 27) (ls := [.ref 17, .ref 19, .int (nI p)]) (r := []) (M := M) (a := 25) (n := 40) (v := nI (v p)) ((c + p)) rfl rfl (by omega) (by decide) ?_
      refine am_goQ 6 (s1 := (49, [.ref 17, .ref 19, .int (nI p)], [.int (((M 17 18) + nI 1)), .ref 17], (am_set M 25 (c + p) (nI (v p))))) (s2 := (49, [.ref 17, .ref 19, .int (nI p)], [.int (nI ((c + p) + 1)), .ref 17], (am_set M 25 (c + p) (nI (v p))))) rfl (by simp only [hcur, nI_add]) ?_
      refine am_goQ 3 (s1 := (2, [.ref 17, .ref 19, .int ((nI p + nI 1))], [], (am_set (am_set M 25 (c + p) (nI (v p))) 17 18 (nI ((c + p) + 1))))) (s2 := (2, [.ref 17, .ref 19, .int (nI (p + 1))], [], (am_set (am_set M 25 (c + p) (nI (v p))) 17 18 (nI ((c + p) + 1))))) rfl (by simp only [nI_add]) ?_
      refine am_goW (ih (p + 1) (am_set (am_set M 25 (c + p) (nI (v p))) 17 18 (nI ((c + p) + 1))) (by omega) (by omega) rfl hk (fun q hq => ?_)) (fun r N hr => ?_)
      · simp only [am_set, show ¬ 19 = 17 by decide, show ¬ 19 = 25 by decide, false_and, if_false]; exact hv q hq
      · obtain ⟨rfl, r1, r2, r3⟩ := hr
        refine ⟨rfl, fun x y hx hy => ?_, fun q hq hq2 => ?_, r3⟩
        · rw [r1 x y (fun z => hx ⟨z.1, by omega, z.2.2⟩) hy]
          simp only [am_set, hy, if_false]
          rw [if_neg (fun z => hx ⟨z.1, by omega, by omega⟩)]
        · by_cases e : q = p
          · subst e
            rw [r1 25 (c + q) (fun z => by omega) (fun z => by cases z.1)]
            simp [am_set]
          · exact r2 q (by omega) hq2
theorem t_keep19 {M : am_Mem} {v : Nat → Nat} {c : Nat} (hc : c < 29) (hcur : M 17 18 = nI c) (hk : M 17 17 = nI 1) (hv : ∀ q, q < 4 → M 19 q = nI (v q)) : am_go 111 (am_ent 111 [.ref 17, .ref 19] M) (am_rv (fun N => (∀ x y, ¬ (x = 25 ∧ c + 0 ≤ y ∧ y < c + 4) → ¬ (x = 17 ∧ y = 18) → N x y = M x y) ∧ (∀ q, 0 ≤ q → q < 4 → N 25 (c + q) = nI (v q)) ∧ N 17 18 = nI (c + 4))) := by
  refine am_goR 2 (s2 := (2, [.ref 17, .ref 19, .int (nI 0)], [], M)) rfl ?_
  exact t_keep19_loop hc 5 0 M (by omega) (by omega) hcur hk hv

set_option maxHeartbeats 4000000 in
theorem t_put19_loop {v : Nat → Nat} {c : Nat} (hc : c < 29) : ∀ (n p : Nat) (M : am_Mem), n + p = 5 → p ≤ 4 → M 17 18 = nI (c + p) → M 17 17 = nI 0 → (∀ q, p ≤ q → q < 4 → M 25 (c + q) = nI (v q)) → am_go 111 (2, [.ref 17, .ref 19, .int (nI p)], [], M) (am_rv (fun N => (∀ x y, ¬ (x = 19 ∧ p ≤ y ∧ y < 4) → ¬ (x = 17 ∧ y = 18) → N x y = M x y) ∧ (∀ q, p ≤ q → q < 4 → N 19 q = nI (v q)) ∧ N 17 18 = nI (c + 4))) := by
  intro n
  induction n with
  | zero => intro p M h1 h2; omega
  | succ n ih =>
    intro p M h1 h2 hcur hk hv
    refine am_goR 3 (s2 := (5, [.ref 17, .ref 19, .int (nI p)], [.int (nI 4), .int (nI p)], M)) rfl ?_
    refine am_bLE (4) (p) (s1 := (58, [.ref 17, .ref 19, .int (nI p)], [], M)) (s2 := (8, [.ref 17, .ref 19, .int (nI p)], [], M)) rfl (by omega) (by omega) (fun c1 => ?_) (fun c1 => ?_)
    · have ep : p = 4 := by omega
      subst ep
      exact am_goE none _ rfl ⟨rfl, fun x y _ _ => rfl, fun q h1 h2 => by omega, hcur⟩
    · refine am_goQ 2 (s1 := (12, [.ref 17, .ref 19, .int (nI p)], [.int ((M 17 17))], M)) (s2 := (12, [.ref 17, .ref 19, .int (nI p)], [.int (nI 0)], M)) rfl (by simp only [hk]) ?_
      refine am_goQ 7 (s1 := (40, [.ref 17, .ref 19, .int (nI p)], [.int ((M 17 18)), .ref 25, .int (nI p), .ref 19], M)) (s2 := (40, [.ref 17, .ref 19, .int (nI p)], [.int (nI (c + p)), .ref 25, .int (nI p), .ref 19], M)) rfl (by simp only [hcur]) ?_
      refine am_goL2 (pc := 41) (ls := [.ref 17, .ref 19, .int (nI p)]) (r := [.int (nI p), .ref 19]) (M := M) (a := 25) (n := 40) ((c + p)) (nI (v p)) rfl rfl (by omega) (by decide) (hv _ (by omega) (by omega)) ?_
      refine am_goS (pc := 42) (ls := [.ref 17, .ref 19, .int (nI p)]) (r := []) (M := M) (a := 19) (n := 4) (v := nI (v p)) (p) rfl rfl (by omega) (by decide) ?_
      refine am_goQ 5 (s1 := (49, [.ref 17, .ref 19, .int (nI p)], [.int (((M 17 18) + nI 1)), .ref 17], (am_set M 19 p (nI (v p))))) (s2 := (49, [.ref 17, .ref 19, .int (nI p)], [.int (nI ((c + p) + 1)), .ref 17], (am_set M 19 p (nI (v p))))) rfl (by simp only [hcur, nI_add]) ?_
      refine am_goQ 3 (s1 := (2, [.ref 17, .ref 19, .int ((nI p + nI 1))], [], (am_set (am_set M 19 p (nI (v p))) 17 18 (nI ((c + p) + 1))))) (s2 := (2, [.ref 17, .ref 19, .int (nI (p + 1))], [], (am_set (am_set M 19 p (nI (v p))) 17 18 (nI ((c + p) + 1))))) rfl (by simp only [nI_add]) ?_
      refine am_goW (ih (p + 1) (am_set (am_set M 19 p (nI (v p))) 17 18 (nI ((c + p) + 1))) (by omega) (by omega) rfl hk (fun q hq hq2 => ?_)) (fun r N hr => ?_)
      · simp only [am_set, show ¬ 25 = 17 by decide, show ¬ 25 = 19 by decide, false_and, if_false]; exact hv q (by omega) hq2
      · obtain ⟨rfl, r1, r2, r3⟩ := hr
        refine ⟨rfl, fun x y hx hy => ?_, fun q hq hq2 => ?_, r3⟩
        · rw [r1 x y (fun z => hx ⟨z.1, by omega, z.2.2⟩) hy]
          simp only [am_set, hy, if_false]
          rw [if_neg (fun z => hx ⟨z.1, by omega, by omega⟩)]
        · by_cases e : q = p
          · subst e
            rw [r1 19 q (fun z => by omega) (fun z => by cases z.1)]
            simp [am_set]
          · exact r2 q (by omega) hq2
theorem t_put19 {M : am_Mem} {v : Nat → Nat} {c : Nat} (hc : c < 29) (hcur : M 17 18 = nI c) (hk : M 17 17 = nI 0) (hv : ∀ q, q < 4 → M 25 (c + q) = nI (v q)) : am_go 111 (am_ent 111 [.ref 17, .ref 19] M) (am_rv (fun N => (∀ x y, ¬ (x = 19 ∧ 0 ≤ y ∧ y < 4) → ¬ (x = 17 ∧ y = 18) → N x y = M x y) ∧ (∀ q, 0 ≤ q → q < 4 → N 19 q = nI (v q)) ∧ N 17 18 = nI (c + 4))) := by
  refine am_goR 2 (s2 := (2, [.ref 17, .ref 19, .int (nI 0)], [], M)) rfl ?_
  exact t_put19_loop hc 5 0 M (by omega) (by omega) hcur hk (fun q _ hq => hv q hq)

set_option maxHeartbeats 4000000 in
theorem t_keep20_loop {v : Nat → Nat} {c : Nat} (hc : c < 29) : ∀ (n p : Nat) (M : am_Mem), n + p = 9 → p ≤ 8 → M 17 18 = nI (c + p) → M 17 17 = nI 1 → (∀ q, q < 8 → M 20 q = nI (v q)) → am_go 111 (2, [.ref 17, .ref 20, .int (nI p)], [], M) (am_rv (fun N => (∀ x y, ¬ (x = 25 ∧ c + p ≤ y ∧ y < c + 8) → ¬ (x = 17 ∧ y = 18) → N x y = M x y) ∧ (∀ q, p ≤ q → q < 8 → N 25 (c + q) = nI (v q)) ∧ N 17 18 = nI (c + 8))) := by
  intro n
  induction n with
  | zero => intro p M h1 h2; omega
  | succ n ih =>
    intro p M h1 h2 hcur hk hv
    refine am_goR 3 (s2 := (5, [.ref 17, .ref 20, .int (nI p)], [.int (nI 8), .int (nI p)], M)) rfl ?_
    refine am_bLE (8) (p) (s1 := (58, [.ref 17, .ref 20, .int (nI p)], [], M)) (s2 := (8, [.ref 17, .ref 20, .int (nI p)], [], M)) rfl (by omega) (by omega) (fun c1 => ?_) (fun c1 => ?_)
    · have ep : p = 8 := by omega
      subst ep
      exact am_goE none _ rfl ⟨rfl, fun x y _ _ => rfl, fun q h1 h2 => by omega, hcur⟩
    · refine am_goQ 2 (s1 := (12, [.ref 17, .ref 20, .int (nI p)], [.int ((M 17 17))], M)) (s2 := (12, [.ref 17, .ref 20, .int (nI p)], [.int (nI 1)], M)) rfl (by simp only [hk]) ?_
      refine am_goQ 7 (s1 := (25, [.ref 17, .ref 20, .int (nI p)], [.int (nI p), .ref 20, .int ((M 17 18)), .ref 25], M)) (s2 := (25, [.ref 17, .ref 20, .int (nI p)], [.int (nI p), .ref 20, .int (nI (c + p)), .ref 25], M)) rfl (by simp only [hcur]) ?_
      refine am_goL2 (pc := 26) (ls := [.ref 17, .ref 20, .int (nI p)]) (r := [.int (nI (c + p)), .ref 25]) (M := M) (a := 20) (n := 8) (p) (nI (v p)) rfl rfl (by omega) (by decide) (hv _ (by omega)) ?_
      refine am_goS (pc := 27) (ls := [.ref 17, .ref 20, .int (nI p)]) (r := []) (M := M) (a := 25) (n := 40) (v := nI (v p)) ((c + p)) rfl rfl (by omega) (by decide) ?_
      refine am_goQ 6 (s1 := (49, [.ref 17, .ref 20, .int (nI p)], [.int (((M 17 18) + nI 1)), .ref 17], (am_set M 25 (c + p) (nI (v p))))) (s2 := (49, [.ref 17, .ref 20, .int (nI p)], [.int (nI ((c + p) + 1)), .ref 17], (am_set M 25 (c + p) (nI (v p))))) rfl (by simp only [hcur, nI_add]) ?_
      refine am_goQ 3 (s1 := (2, [.ref 17, .ref 20, .int ((nI p + nI 1))], [], (am_set (am_set M 25 (c + p) (nI (v p))) 17 18 (nI ((c + p) + 1))))) (s2 := (2, [.ref 17, .ref 20, .int (nI (p + 1))], [], (am_set (am_set M 25 (c + p) (nI (v p))) 17 18 (nI ((c + p) + 1))))) rfl (by simp only [nI_add]) ?_
      refine am_goW (ih (p + 1) (am_set (am_set M 25 (c + p) (nI (v p))) 17 18 (nI ((c + p) + 1))) (by omega) (by omega) rfl hk (fun q hq => ?_)) (fun r N hr => ?_)
      · simp only [am_set, show ¬ 20 = 17 by decide, show ¬ 20 = 25 by decide, false_and, if_false]; exact hv q hq
      · obtain ⟨rfl, r1, r2, r3⟩ := hr
        refine ⟨rfl, fun x y hx hy => ?_, fun q hq hq2 => ?_, r3⟩
        · rw [r1 x y (fun z => hx ⟨z.1, by omega, z.2.2⟩) hy]
          simp only [am_set, hy, if_false]
          rw [if_neg (fun z => hx ⟨z.1, by omega, by omega⟩)]
        · by_cases e : q = p
          · subst e
            rw [r1 25 (c + q) (fun z => by omega) (fun z => by cases z.1)]
            simp [am_set]
          · exact r2 q (by omega) hq2
theorem t_keep20 {M : am_Mem} {v : Nat → Nat} {c : Nat} (hc : c < 29) (hcur : M 17 18 = nI c) (hk : M 17 17 = nI 1) (hv : ∀ q, q < 8 → M 20 q = nI (v q)) : am_go 111 (am_ent 111 [.ref 17, .ref 20] M) (am_rv (fun N => (∀ x y, ¬ (x = 25 ∧ c + 0 ≤ y ∧ y < c + 8) → ¬ (x = 17 ∧ y = 18) → N x y = M x y) ∧ (∀ q, 0 ≤ q → q < 8 → N 25 (c + q) = nI (v q)) ∧ N 17 18 = nI (c + 8))) := by
  refine am_goR 2 (s2 := (2, [.ref 17, .ref 20, .int (nI 0)], [], M)) rfl ?_
  exact t_keep20_loop hc 9 0 M (by omega) (by omega) hcur hk hv

set_option maxHeartbeats 4000000 in
theorem t_put20_loop {v : Nat → Nat} {c : Nat} (hc : c < 29) : ∀ (n p : Nat) (M : am_Mem), n + p = 9 → p ≤ 8 → M 17 18 = nI (c + p) → M 17 17 = nI 0 → (∀ q, p ≤ q → q < 8 → M 25 (c + q) = nI (v q)) → am_go 111 (2, [.ref 17, .ref 20, .int (nI p)], [], M) (am_rv (fun N => (∀ x y, ¬ (x = 20 ∧ p ≤ y ∧ y < 8) → ¬ (x = 17 ∧ y = 18) → N x y = M x y) ∧ (∀ q, p ≤ q → q < 8 → N 20 q = nI (v q)) ∧ N 17 18 = nI (c + 8))) := by
  intro n
  induction n with
  | zero => intro p M h1 h2; omega
  | succ n ih =>
    intro p M h1 h2 hcur hk hv
    refine am_goR 3 (s2 := (5, [.ref 17, .ref 20, .int (nI p)], [.int (nI 8), .int (nI p)], M)) rfl ?_
    refine am_bLE (8) (p) (s1 := (58, [.ref 17, .ref 20, .int (nI p)], [], M)) (s2 := (8, [.ref 17, .ref 20, .int (nI p)], [], M)) rfl (by omega) (by omega) (fun c1 => ?_) (fun c1 => ?_)
    · have ep : p = 8 := by omega
      subst ep
      exact am_goE none _ rfl ⟨rfl, fun x y _ _ => rfl, fun q h1 h2 => by omega, hcur⟩
    · refine am_goQ 2 (s1 := (12, [.ref 17, .ref 20, .int (nI p)], [.int ((M 17 17))], M)) (s2 := (12, [.ref 17, .ref 20, .int (nI p)], [.int (nI 0)], M)) rfl (by simp only [hk]) ?_
      refine am_goQ 7 (s1 := (40, [.ref 17, .ref 20, .int (nI p)], [.int ((M 17 18)), .ref 25, .int (nI p), .ref 20], M)) (s2 := (40, [.ref 17, .ref 20, .int (nI p)], [.int (nI (c + p)), .ref 25, .int (nI p), .ref 20], M)) rfl (by simp only [hcur]) ?_
      refine am_goL2 (pc := 41) (ls := [.ref 17, .ref 20, .int (nI p)]) (r := [.int (nI p), .ref 20]) (M := M) (a := 25) (n := 40) ((c + p)) (nI (v p)) rfl rfl (by omega) (by decide) (hv _ (by omega) (by omega)) ?_
      refine am_goS (pc := 42) (ls := [.ref 17, .ref 20, .int (nI p)]) (r := []) (M := M) (a := 20) (n := 8) (v := nI (v p)) (p) rfl rfl (by omega) (by decide) ?_
      refine am_goQ 5 (s1 := (49, [.ref 17, .ref 20, .int (nI p)], [.int (((M 17 18) + nI 1)), .ref 17], (am_set M 20 p (nI (v p))))) (s2 := (49, [.ref 17, .ref 20, .int (nI p)], [.int (nI ((c + p) + 1)), .ref 17], (am_set M 20 p (nI (v p))))) rfl (by simp only [hcur, nI_add]) ?_
      refine am_goQ 3 (s1 := (2, [.ref 17, .ref 20, .int ((nI p + nI 1))], [], (am_set (am_set M 20 p (nI (v p))) 17 18 (nI ((c + p) + 1))))) (s2 := (2, [.ref 17, .ref 20, .int (nI (p + 1))], [], (am_set (am_set M 20 p (nI (v p))) 17 18 (nI ((c + p) + 1))))) rfl (by simp only [nI_add]) ?_
      refine am_goW (ih (p + 1) (am_set (am_set M 20 p (nI (v p))) 17 18 (nI ((c + p) + 1))) (by omega) (by omega) rfl hk (fun q hq hq2 => ?_)) (fun r N hr => ?_)
      · simp only [am_set, show ¬ 25 = 17 by decide, show ¬ 25 = 20 by decide, false_and, if_false]; exact hv q (by omega) hq2
      · obtain ⟨rfl, r1, r2, r3⟩ := hr
        refine ⟨rfl, fun x y hx hy => ?_, fun q hq hq2 => ?_, r3⟩
        · rw [r1 x y (fun z => hx ⟨z.1, by omega, z.2.2⟩) hy]
          simp only [am_set, hy, if_false]
          rw [if_neg (fun z => hx ⟨z.1, by omega, by omega⟩)]
        · by_cases e : q = p
          · subst e
            rw [r1 20 q (fun z => by omega) (fun z => by cases z.1)]
            simp [am_set]
          · exact r2 q (by omega) hq2
theorem t_put20 {M : am_Mem} {v : Nat → Nat} {c : Nat} (hc : c < 29) (hcur : M 17 18 = nI c) (hk : M 17 17 = nI 0) (hv : ∀ q, q < 8 → M 25 (c + q) = nI (v q)) : am_go 111 (am_ent 111 [.ref 17, .ref 20] M) (am_rv (fun N => (∀ x y, ¬ (x = 20 ∧ 0 ≤ y ∧ y < 8) → ¬ (x = 17 ∧ y = 18) → N x y = M x y) ∧ (∀ q, 0 ≤ q → q < 8 → N 20 q = nI (v q)) ∧ N 17 18 = nI (c + 8))) := by
  refine am_goR 2 (s2 := (2, [.ref 17, .ref 20, .int (nI 0)], [], M)) rfl ?_
  exact t_put20_loop hc 9 0 M (by omega) (by omega) hcur hk (fun q _ hq => hv q hq)

set_option maxHeartbeats 4000000 in
theorem t_keepOne {M : am_Mem} {x c : Nat} (hc : c < 40) (hcur : M 17 18 = nI c) (hk : M 17 17 = nI 1) : am_go 112 (am_ent 112 [.ref 17, .int (nI x)] M) (am_is (nI x) (am_set (am_set M 25 c (nI x)) 17 18 (nI (c + 1)))) := by
  refine am_goQ 2 (s1 := (4, [.ref 17, .int (nI x), .null], [.int ((M 17 17))], M)) (s2 := (4, [.ref 17, .int (nI x), .null], [.int (nI 1)], M)) rfl (by simp only [hk]) ?_
  refine am_goQ 6 (s1 := (25, [.ref 17, .int (nI x), .int (nI x)], [.int ((M 17 17))], M)) (s2 := (25, [.ref 17, .int (nI x), .int (nI x)], [.int (nI 1)], M)) rfl (by simp only [hk]) ?_
  refine am_goQ 6 (s1 := (37, [.ref 17, .int (nI x), .int (nI x)], [.int (nI x), .int ((M 17 18)), .ref 25], M)) (s2 := (37, [.ref 17, .int (nI x), .int (nI x)], [.int (nI x), .int (nI c), .ref 25], M)) rfl (by simp only [hcur]) ?_
  refine am_goS (pc := 38) (ls := [.ref 17, .int (nI x), .int (nI x)]) (r := []) (M := M) (a := 25) (n := 40) (v := nI x) (c) rfl rfl (by omega) (by decide) ?_
  refine am_goQ 5 (s1 := (45, [.ref 17, .int (nI x), .int (nI x)], [.int (((M 17 18) + nI 1)), .ref 17], (am_set M 25 c (nI x)))) (s2 := (45, [.ref 17, .int (nI x), .int (nI x)], [.int (nI (c + 1)), .ref 17], (am_set M 25 c (nI x)))) rfl (by simp only [hcur, nI_add]) ?_
  refine am_goR 2 (s2 := (49, [.ref 17, .int (nI x), .int (nI x)], [.int (nI x)], (am_set (am_set M 25 c (nI x)) 17 18 (nI (c + 1))))) rfl ?_
  exact am_ends (nI x) _ rfl rfl rfl

set_option maxHeartbeats 4000000 in
theorem t_putOne {M : am_Mem} {x y c : Nat} (hc : c < 40) (hcur : M 17 18 = nI c) (hk : M 17 17 = nI 0) (hv : M 25 c = nI y) : am_go 112 (am_ent 112 [.ref 17, .int (nI x)] M) (am_is (nI y) (am_set M 17 18 (nI (c + 1)))) := by
  refine am_goQ 2 (s1 := (4, [.ref 17, .int (nI x), .null], [.int ((M 17 17))], M)) (s2 := (4, [.ref 17, .int (nI x), .null], [.int (nI 0)], M)) rfl (by simp only [hk]) ?_
  refine am_goQ 5 (s1 := (19, [.ref 17, .int (nI x), .null], [.int ((M 17 18)), .ref 25], M)) (s2 := (19, [.ref 17, .int (nI x), .null], [.int (nI c), .ref 25], M)) rfl (by simp only [hcur]) ?_
  refine am_goL2 (pc := 20) (ls := [.ref 17, .int (nI x), .null]) (r := []) (M := M) (a := 25) (n := 40) (c) (nI y) rfl rfl (by omega) (by decide) (hv) ?_
  refine am_goQ 3 (s1 := (25, [.ref 17, .int (nI x), .int (nI y)], [.int ((M 17 17))], M)) (s2 := (25, [.ref 17, .int (nI x), .int (nI y)], [.int (nI 0)], M)) rfl (by simp only [hk]) ?_
  refine am_goQ 6 (s1 := (45, [.ref 17, .int (nI x), .int (nI y)], [.int (((M 17 18) + nI 1)), .ref 17], M)) (s2 := (45, [.ref 17, .int (nI x), .int (nI y)], [.int (nI (c + 1)), .ref 17], M)) rfl (by simp only [hcur, nI_add]) ?_
  refine am_goR 2 (s2 := (49, [.ref 17, .int (nI x), .int (nI y)], [.int (nI y)], (am_set M 17 18 (nI (c + 1))))) rfl ?_
  exact am_ends (nI y) _ rfl rfl rfl

set_option maxHeartbeats 4000000 in
theorem t_keepAll0 {M : am_Mem} {a f hr hs lt : Nat} {k h : Nat → Nat} (hS : sp_M M a f hr hs lt k h) : am_go 113 (am_ent 113 [.ref 17, .int (nI 0), .int (nI 1)] M) (am_rv (fun N => (∀ x y, ¬ x = 25 → ¬ (x = 17 ∧ (y = 17 ∨ y = 18 ∨ (3 ≤ y ∧ y ≤ 7))) → N x y = M x y) ∧ (∀ y, ¬ (0 ≤ y ∧ y < 17) → N 25 y = M 25 y) ∧ sp_M N a f hr hs lt k h ∧ sp_K N 0 a f hr hs lt k h)) := by
  obtain ⟨hF, hA, hHr, hHs, hLt, hK, hH⟩ := id hS
  refine am_goR 11 (s2 := (18, [.ref 17, .int (nI 0), .int (nI 1)], [.ref 19, .ref 17], (am_set (am_set M 17 18 (nI 0)) 17 17 (nI 1)))) rfl ?_
  refine am_goV (s2 := (21, [.ref 17, .int (nI 0), .int (nI 1)], [], (am_set (am_set M 17 18 (nI 0)) 17 17 (nI 1)))) rfl (t_keep19 (v := k) (c := 0) (by decide) rfl rfl (fun q hq => hK q hq)) (fun N1 hCp => ?_)
  obtain ⟨p1, p2, p3⟩ := hCp
  dsimp only at p1
  refine am_goR 3 (s2 := (26, [.ref 17, .int (nI 0), .int (nI 1)], [.ref 20, .ref 17], N1)) rfl ?_
  refine am_goV (s2 := (29, [.ref 17, .int (nI 0), .int (nI 1)], [], N1)) rfl (t_keep20 (v := h) (c := 4) (by decide) p3 ((p1 17 17 (fun z => by cases z.1) (fun z => by cases z.2)).trans rfl) (fun q hq => (p1 20 q (fun z => by cases z.1) (fun z => by cases z.1)).trans (hH q hq))) (fun N2 hCq => ?_)
  obtain ⟨q1, q2, q3⟩ := hCq
  dsimp only at q1
  have e3 : N2 17 3 = nI a := (q1 17 3 (fun z => by cases z.1) (fun z => by cases z.2)).trans ((p1 17 3 (fun z => by cases z.1) (fun z => by cases z.2)).trans hA)
  have e4 : N2 17 4 = nI f := (q1 17 4 (fun z => by cases z.1) (fun z => by cases z.2)).trans ((p1 17 4 (fun z => by cases z.1) (fun z => by cases z.2)).trans hF)
  have e5 : N2 17 5 = nI hr := (q1 17 5 (fun z => by cases z.1) (fun z => by cases z.2)).trans ((p1 17 5 (fun z => by cases z.1) (fun z => by cases z.2)).trans hHr)
  have e6 : N2 17 6 = nI hs := (q1 17 6 (fun z => by cases z.1) (fun z => by cases z.2)).trans ((p1 17 6 (fun z => by cases z.1) (fun z => by cases z.2)).trans hHs)
  have e7 : N2 17 7 = nI lt := (q1 17 7 (fun z => by cases z.1) (fun z => by cases z.2)).trans ((p1 17 7 (fun z => by cases z.1) (fun z => by cases z.2)).trans hLt)
  have ek : N2 17 17 = nI 1 := (q1 17 17 (fun z => by cases z.1) (fun z => by cases z.2)).trans ((p1 17 17 (fun z => by cases z.1) (fun z => by cases z.2)).trans rfl)
  refine am_goQ 4 (s1 := (35, [.ref 17, .int (nI 0), .int (nI 1)], [.int ((N2 17 3)), .ref 17, .ref 17], N2)) (s2 := (35, [.ref 17, .int (nI 0), .int (nI 1)], [.int (nI a), .ref 17, .ref 17], N2)) rfl (by simp only [e3]) ?_
  refine am_goX (v := nI a) (M2 := (am_set (am_set N2 25 12 (nI a)) 17 18 (nI 13))) (s2 := (38, [.ref 17, .int (nI 0), .int (nI 1)], [.ref 17], N2)) rfl (t_keepOne (c := 12) (by decide) q3 ek) ?_
  refine am_goQ 5 (s1 := (47, [.ref 17, .int (nI 0), .int (nI 1)], [.int ((N2 17 4)), .ref 17, .ref 17], (am_set (am_set (am_set N2 25 12 (nI a)) 17 18 (nI 13)) 17 3 (nI a)))) (s2 := (47, [.ref 17, .int (nI 0), .int (nI 1)], [.int (nI f), .ref 17, .ref 17], (am_set (am_set (am_set N2 25 12 (nI a)) 17 18 (nI 13)) 17 3 (nI a)))) rfl (by simp only [e4]) ?_
  refine am_goX (v := nI f) (M2 := (am_set (am_set (am_set (am_set (am_set N2 25 12 (nI a)) 17 18 (nI 13)) 17 3 (nI a)) 25 13 (nI f)) 17 18 (nI 14))) (s2 := (50, [.ref 17, .int (nI 0), .int (nI 1)], [.ref 17], (am_set (am_set (am_set N2 25 12 (nI a)) 17 18 (nI 13)) 17 3 (nI a)))) rfl (t_keepOne (c := 13) (by decide) rfl ek) ?_
  refine am_goQ 5 (s1 := (59, [.ref 17, .int (nI 0), .int (nI 1)], [.int ((N2 17 5)), .ref 17, .ref 17], (am_set (am_set (am_set (am_set (am_set (am_set N2 25 12 (nI a)) 17 18 (nI 13)) 17 3 (nI a)) 25 13 (nI f)) 17 18 (nI 14)) 17 4 (nI f)))) (s2 := (59, [.ref 17, .int (nI 0), .int (nI 1)], [.int (nI hr), .ref 17, .ref 17], (am_set (am_set (am_set (am_set (am_set (am_set N2 25 12 (nI a)) 17 18 (nI 13)) 17 3 (nI a)) 25 13 (nI f)) 17 18 (nI 14)) 17 4 (nI f)))) rfl (by simp only [e5]) ?_
  refine am_goX (v := nI hr) (M2 := (am_set (am_set (am_set (am_set (am_set (am_set (am_set (am_set N2 25 12 (nI a)) 17 18 (nI 13)) 17 3 (nI a)) 25 13 (nI f)) 17 18 (nI 14)) 17 4 (nI f)) 25 14 (nI hr)) 17 18 (nI 15))) (s2 := (62, [.ref 17, .int (nI 0), .int (nI 1)], [.ref 17], (am_set (am_set (am_set (am_set (am_set (am_set N2 25 12 (nI a)) 17 18 (nI 13)) 17 3 (nI a)) 25 13 (nI f)) 17 18 (nI 14)) 17 4 (nI f)))) rfl (t_keepOne (c := 14) (by decide) rfl ek) ?_
  refine am_goQ 5 (s1 := (71, [.ref 17, .int (nI 0), .int (nI 1)], [.int ((N2 17 6)), .ref 17, .ref 17], (am_set (am_set (am_set (am_set (am_set (am_set (am_set (am_set (am_set N2 25 12 (nI a)) 17 18 (nI 13)) 17 3 (nI a)) 25 13 (nI f)) 17 18 (nI 14)) 17 4 (nI f)) 25 14 (nI hr)) 17 18 (nI 15)) 17 5 (nI hr)))) (s2 := (71, [.ref 17, .int (nI 0), .int (nI 1)], [.int (nI hs), .ref 17, .ref 17], (am_set (am_set (am_set (am_set (am_set (am_set (am_set (am_set (am_set N2 25 12 (nI a)) 17 18 (nI 13)) 17 3 (nI a)) 25 13 (nI f)) 17 18 (nI 14)) 17 4 (nI f)) 25 14 (nI hr)) 17 18 (nI 15)) 17 5 (nI hr)))) rfl (by simp only [e6]) ?_
  refine am_goX (v := nI hs) (M2 := (am_set (am_set (am_set (am_set (am_set (am_set (am_set (am_set (am_set (am_set (am_set N2 25 12 (nI a)) 17 18 (nI 13)) 17 3 (nI a)) 25 13 (nI f)) 17 18 (nI 14)) 17 4 (nI f)) 25 14 (nI hr)) 17 18 (nI 15)) 17 5 (nI hr)) 25 15 (nI hs)) 17 18 (nI 16))) (s2 := (74, [.ref 17, .int (nI 0), .int (nI 1)], [.ref 17], (am_set (am_set (am_set (am_set (am_set (am_set (am_set (am_set (am_set N2 25 12 (nI a)) 17 18 (nI 13)) 17 3 (nI a)) 25 13 (nI f)) 17 18 (nI 14)) 17 4 (nI f)) 25 14 (nI hr)) 17 18 (nI 15)) 17 5 (nI hr)))) rfl (t_keepOne (c := 15) (by decide) rfl ek) ?_
  refine am_goQ 5 (s1 := (83, [.ref 17, .int (nI 0), .int (nI 1)], [.int ((N2 17 7)), .ref 17, .ref 17], (am_set (am_set (am_set (am_set (am_set (am_set (am_set (am_set (am_set (am_set (am_set (am_set N2 25 12 (nI a)) 17 18 (nI 13)) 17 3 (nI a)) 25 13 (nI f)) 17 18 (nI 14)) 17 4 (nI f)) 25 14 (nI hr)) 17 18 (nI 15)) 17 5 (nI hr)) 25 15 (nI hs)) 17 18 (nI 16)) 17 6 (nI hs)))) (s2 := (83, [.ref 17, .int (nI 0), .int (nI 1)], [.int (nI lt), .ref 17, .ref 17], (am_set (am_set (am_set (am_set (am_set (am_set (am_set (am_set (am_set (am_set (am_set (am_set N2 25 12 (nI a)) 17 18 (nI 13)) 17 3 (nI a)) 25 13 (nI f)) 17 18 (nI 14)) 17 4 (nI f)) 25 14 (nI hr)) 17 18 (nI 15)) 17 5 (nI hr)) 25 15 (nI hs)) 17 18 (nI 16)) 17 6 (nI hs)))) rfl (by simp only [e7]) ?_
  refine am_goX (v := nI lt) (M2 := (am_set (am_set (am_set (am_set (am_set (am_set (am_set (am_set (am_set (am_set (am_set (am_set (am_set (am_set N2 25 12 (nI a)) 17 18 (nI 13)) 17 3 (nI a)) 25 13 (nI f)) 17 18 (nI 14)) 17 4 (nI f)) 25 14 (nI hr)) 17 18 (nI 15)) 17 5 (nI hr)) 25 15 (nI hs)) 17 18 (nI 16)) 17 6 (nI hs)) 25 16 (nI lt)) 17 18 (nI 17))) (s2 := (86, [.ref 17, .int (nI 0), .int (nI 1)], [.ref 17], (am_set (am_set (am_set (am_set (am_set (am_set (am_set (am_set (am_set (am_set (am_set (am_set N2 25 12 (nI a)) 17 18 (nI 13)) 17 3 (nI a)) 25 13 (nI f)) 17 18 (nI 14)) 17 4 (nI f)) 25 14 (nI hr)) 17 18 (nI 15)) 17 5 (nI hr)) 25 15 (nI hs)) 17 18 (nI 16)) 17 6 (nI hs)))) rfl (t_keepOne (c := 16) (by decide) rfl ek) ?_
  refine am_goR 1 (s2 := (89, [.ref 17, .int (nI 0), .int (nI 1)], [], (am_set (am_set (am_set (am_set (am_set (am_set (am_set (am_set (am_set (am_set (am_set (am_set (am_set (am_set (am_set N2 25 12 (nI a)) 17 18 (nI 13)) 17 3 (nI a)) 25 13 (nI f)) 17 18 (nI 14)) 17 4 (nI f)) 25 14 (nI hr)) 17 18 (nI 15)) 17 5 (nI hr)) 25 15 (nI hs)) 17 18 (nI 16)) 17 6 (nI hs)) 25 16 (nI lt)) 17 18 (nI 17)) 17 7 (nI lt)))) rfl ?_
  refine am_goE none ((am_set (am_set (am_set (am_set (am_set (am_set (am_set (am_set (am_set (am_set (am_set (am_set (am_set (am_set (am_set N2 25 12 (nI a)) 17 18 (nI 13)) 17 3 (nI a)) 25 13 (nI f)) 17 18 (nI 14)) 17 4 (nI f)) 25 14 (nI hr)) 17 18 (nI 15)) 17 5 (nI hr)) 25 15 (nI hs)) 17 18 (nI 16)) 17 6 (nI hs)) 25 16 (nI lt)) 17 18 (nI 17)) 17 7 (nI lt))) rfl ⟨rfl, fun x y hx hy => ?_, fun y hy => ?_, ⟨rfl, rfl, rfl, rfl, rfl, fun q hq => ?_, fun q hq => ?_⟩, ⟨fun q hq => ?_, fun q hq => ?_, rfl, rfl, rfl, rfl, rfl⟩⟩
  · rw [show (am_set (am_set (am_set (am_set (am_set (am_set (am_set (am_set (am_set (am_set (am_set (am_set (am_set (am_set (am_set N2 25 12 (nI a)) 17 18 (nI 13)) 17 3 (nI a)) 25 13 (nI f)) 17 18 (nI 14)) 17 4 (nI f)) 25 14 (nI hr)) 17 18 (nI 15)) 17 5 (nI hr)) 25 15 (nI hs)) 17 18 (nI 16)) 17 6 (nI hs)) 25 16 (nI lt)) 17 18 (nI 17)) 17 7 (nI lt)) x y = N2 x y from by simp only [am_set, hx, false_and, if_false]; (repeat (rw [if_neg (fun z => hy ⟨z.1, by omega⟩)]))]
    rw [q1 x y (fun z => hx z.1) (fun z => hy ⟨z.1, by omega⟩), p1 x y (fun z => hx z.1) (fun z => hy ⟨z.1, by omega⟩)]
    simp only [am_set]
    rw [if_neg (fun z => hy ⟨z.1, by omega⟩), if_neg (fun z => hy ⟨z.1, by omega⟩)]
  · rw [show (am_set (am_set (am_set (am_set (am_set (am_set (am_set (am_set (am_set (am_set (am_set (am_set (am_set (am_set (am_set N2 25 12 (nI a)) 17 18 (nI 13)) 17 3 (nI a)) 25 13 (nI f)) 17 18 (nI 14)) 17 4 (nI f)) 25 14 (nI hr)) 17 18 (nI 15)) 17 5 (nI hr)) 25 15 (nI hs)) 17 18 (nI 16)) 17 6 (nI hs)) 25 16 (nI lt)) 17 18 (nI 17)) 17 7 (nI lt)) 25 y = N2 25 y from by simp only [am_set, show ¬ 25 = 17 by decide, false_and, if_false]; (repeat (rw [if_neg (fun z => by omega)]))]
    rw [q1 25 y (fun z => by omega) (fun z => by cases z.1), p1 25 y (fun z => by omega) (fun z => by cases z.1)]
    rfl
  · exact (q1 19 q (fun z => by cases z.1) (fun z => by cases z.1)).trans ((p1 19 q (fun z => by cases z.1) (fun z => by cases z.1)).trans (hK q hq))
  · exact (q1 20 q (fun z => by cases z.1) (fun z => by cases z.1)).trans ((p1 20 q (fun z => by cases z.1) (fun z => by cases z.1)).trans (hH q hq))
  · rw [show (am_set (am_set (am_set (am_set (am_set (am_set (am_set (am_set (am_set (am_set (am_set (am_set (am_set (am_set (am_set N2 25 12 (nI a)) 17 18 (nI 13)) 17 3 (nI a)) 25 13 (nI f)) 17 18 (nI 14)) 17 4 (nI f)) 25 14 (nI hr)) 17 18 (nI 15)) 17 5 (nI hr)) 25 15 (nI hs)) 17 18 (nI 16)) 17 6 (nI hs)) 25 16 (nI lt)) 17 18 (nI 17)) 17 7 (nI lt)) 25 (20 * 0 + q) = N2 25 (0 + q) from by simp only [am_set, show ¬ 25 = 17 by decide, false_and, if_false]; (repeat (rw [if_neg (fun z => by omega)]))]
    rw [q1 25 (0 + q) (fun z => by omega) (fun z => by cases z.1)]
    exact p2 q (Nat.zero_le q) hq
  · rw [show (am_set (am_set (am_set (am_set (am_set (am_set (am_set (am_set (am_set (am_set (am_set (am_set (am_set (am_set (am_set N2 25 12 (nI a)) 17 18 (nI 13)) 17 3 (nI a)) 25 13 (nI f)) 17 18 (nI 14)) 17 4 (nI f)) 25 14 (nI hr)) 17 18 (nI 15)) 17 5 (nI hr)) 25 15 (nI hs)) 17 18 (nI 16)) 17 6 (nI hs)) 25 16 (nI lt)) 17 18 (nI 17)) 17 7 (nI lt)) 25 (20 * 0 + 4 + q) = N2 25 (4 + q) from by simp only [am_set, show ¬ 25 = 17 by decide, false_and, if_false]; (repeat (rw [if_neg (fun z => by omega)]))]
    exact q2 q (Nat.zero_le q) hq

set_option maxHeartbeats 4000000 in
theorem t_putAll0 {M : am_Mem} {a f hr hs lt : Nat} {k h : Nat → Nat} (hS : sp_K M 0 a f hr hs lt k h) {x3 x4 x5 x6 x7 : Nat} (h3 : M 17 3 = nI x3) (h4 : M 17 4 = nI x4) (h5 : M 17 5 = nI x5) (h6 : M 17 6 = nI x6) (h7 : M 17 7 = nI x7) : am_go 113 (am_ent 113 [.ref 17, .int (nI 0), .int (nI 0)] M) (am_rv (fun N => (∀ x y, ¬ x = 19 → ¬ x = 20 → ¬ (x = 17 ∧ (y = 17 ∨ y = 18 ∨ (3 ≤ y ∧ y ≤ 7))) → N x y = M x y) ∧ sp_M N a f hr hs lt k h)) := by
  obtain ⟨hKk, hKh, hKa, hKf, hKhr, hKhs, hKlt⟩ := id hS
  refine am_goR 11 (s2 := (18, [.ref 17, .int (nI 0), .int (nI 0)], [.ref 19, .ref 17], (am_set (am_set M 17 18 (nI 0)) 17 17 (nI 0)))) rfl ?_
  refine am_goV (s2 := (21, [.ref 17, .int (nI 0), .int (nI 0)], [], (am_set (am_set M 17 18 (nI 0)) 17 17 (nI 0)))) rfl (t_put19 (v := k) (c := 0) (by decide) rfl rfl (fun q hq => by have e := hKk q hq; simpa [am_set] using e)) (fun N1 hCp => ?_)
  obtain ⟨p1, p2, p3⟩ := hCp
  dsimp only at p1
  refine am_goR 3 (s2 := (26, [.ref 17, .int (nI 0), .int (nI 0)], [.ref 20, .ref 17], N1)) rfl ?_
  refine am_goV (s2 := (29, [.ref 17, .int (nI 0), .int (nI 0)], [], N1)) rfl (t_put20 (v := h) (c := 4) (by decide) p3 ((p1 17 17 (fun z => by cases z.1) (fun z => by cases z.2)).trans rfl) (fun q hq => (p1 25 _ (fun z => by cases z.1) (fun z => by cases z.1)).trans (by have e := hKh q hq; simpa [am_set] using e))) (fun N2 hCq => ?_)
  obtain ⟨q1, q2, q3⟩ := hCq
  dsimp only at q1
  have e3 : N2 17 3 = nI x3 := (q1 17 3 (fun z => by cases z.1) (fun z => by cases z.2)).trans ((p1 17 3 (fun z => by cases z.1) (fun z => by cases z.2)).trans h3)
  have e4 : N2 17 4 = nI x4 := (q1 17 4 (fun z => by cases z.1) (fun z => by cases z.2)).trans ((p1 17 4 (fun z => by cases z.1) (fun z => by cases z.2)).trans h4)
  have e5 : N2 17 5 = nI x5 := (q1 17 5 (fun z => by cases z.1) (fun z => by cases z.2)).trans ((p1 17 5 (fun z => by cases z.1) (fun z => by cases z.2)).trans h5)
  have e6 : N2 17 6 = nI x6 := (q1 17 6 (fun z => by cases z.1) (fun z => by cases z.2)).trans ((p1 17 6 (fun z => by cases z.1) (fun z => by cases z.2)).trans h6)
  have e7 : N2 17 7 = nI x7 := (q1 17 7 (fun z => by cases z.1) (fun z => by cases z.2)).trans ((p1 17 7 (fun z => by cases z.1) (fun z => by cases z.2)).trans h7)
  have ek : N2 17 17 = nI 0 := (q1 17 17 (fun z => by cases z.1) (fun z => by cases z.2)).trans ((p1 17 17 (fun z => by cases z.1) (fun z => by cases z.2)).trans rfl)
  have g12 : N2 25 12 = nI a := (q1 25 12 (fun z => by cases z.1) (fun z => by cases z.1)).trans ((p1 25 12 (fun z => by cases z.1) (fun z => by cases z.1)).trans hKa)
  have g13 : N2 25 13 = nI f := (q1 25 13 (fun z => by cases z.1) (fun z => by cases z.1)).trans ((p1 25 13 (fun z => by cases z.1) (fun z => by cases z.1)).trans hKf)
  have g14 : N2 25 14 = nI hr := (q1 25 14 (fun z => by cases z.1) (fun z => by cases z.1)).trans ((p1 25 14 (fun z => by cases z.1) (fun z => by cases z.1)).trans hKhr)
  have g15 : N2 25 15 = nI hs := (q1 25 15 (fun z => by cases z.1) (fun z => by cases z.1)).trans ((p1 25 15 (fun z => by cases z.1) (fun z => by cases z.1)).trans hKhs)
  have g16 : N2 25 16 = nI lt := (q1 25 16 (fun z => by cases z.1) (fun z => by cases z.1)).trans ((p1 25 16 (fun z => by cases z.1) (fun z => by cases z.1)).trans hKlt)
  refine am_goQ 4 (s1 := (35, [.ref 17, .int (nI 0), .int (nI 0)], [.int ((N2 17 3)), .ref 17, .ref 17], N2)) (s2 := (35, [.ref 17, .int (nI 0), .int (nI 0)], [.int (nI x3), .ref 17, .ref 17], N2)) rfl (by simp only [e3]) ?_
  refine am_goX (v := nI a) (M2 := (am_set N2 17 18 (nI 13))) (s2 := (38, [.ref 17, .int (nI 0), .int (nI 0)], [.ref 17], N2)) rfl (t_putOne (y := a) (c := 12) (by decide) q3 ek g12) ?_
  refine am_goQ 5 (s1 := (47, [.ref 17, .int (nI 0), .int (nI 0)], [.int ((N2 17 4)), .ref 17, .ref 17], (am_set (am_set N2 17 18 (nI 13)) 17 3 (nI a)))) (s2 := (47, [.ref 17, .int (nI 0), .int (nI 0)], [.int (nI x4), .ref 17, .ref 17], (am_set (am_set N2 17 18 (nI 13)) 17 3 (nI a)))) rfl (by simp only [e4]) ?_
  refine am_goX (v := nI f) (M2 := (am_set (am_set (am_set N2 17 18 (nI 13)) 17 3 (nI a)) 17 18 (nI 14))) (s2 := (50, [.ref 17, .int (nI 0), .int (nI 0)], [.ref 17], (am_set (am_set N2 17 18 (nI 13)) 17 3 (nI a)))) rfl (t_putOne (y := f) (c := 13) (by decide) rfl ek g13) ?_
  refine am_goQ 5 (s1 := (59, [.ref 17, .int (nI 0), .int (nI 0)], [.int ((N2 17 5)), .ref 17, .ref 17], (am_set (am_set (am_set (am_set N2 17 18 (nI 13)) 17 3 (nI a)) 17 18 (nI 14)) 17 4 (nI f)))) (s2 := (59, [.ref 17, .int (nI 0), .int (nI 0)], [.int (nI x5), .ref 17, .ref 17], (am_set (am_set (am_set (am_set N2 17 18 (nI 13)) 17 3 (nI a)) 17 18 (nI 14)) 17 4 (nI f)))) rfl (by simp only [e5]) ?_
  refine am_goX (v := nI hr) (M2 := (am_set (am_set (am_set (am_set (am_set N2 17 18 (nI 13)) 17 3 (nI a)) 17 18 (nI 14)) 17 4 (nI f)) 17 18 (nI 15))) (s2 := (62, [.ref 17, .int (nI 0), .int (nI 0)], [.ref 17], (am_set (am_set (am_set (am_set N2 17 18 (nI 13)) 17 3 (nI a)) 17 18 (nI 14)) 17 4 (nI f)))) rfl (t_putOne (y := hr) (c := 14) (by decide) rfl ek g14) ?_
  refine am_goQ 5 (s1 := (71, [.ref 17, .int (nI 0), .int (nI 0)], [.int ((N2 17 6)), .ref 17, .ref 17], (am_set (am_set (am_set (am_set (am_set (am_set N2 17 18 (nI 13)) 17 3 (nI a)) 17 18 (nI 14)) 17 4 (nI f)) 17 18 (nI 15)) 17 5 (nI hr)))) (s2 := (71, [.ref 17, .int (nI 0), .int (nI 0)], [.int (nI x6), .ref 17, .ref 17], (am_set (am_set (am_set (am_set (am_set (am_set N2 17 18 (nI 13)) 17 3 (nI a)) 17 18 (nI 14)) 17 4 (nI f)) 17 18 (nI 15)) 17 5 (nI hr)))) rfl (by simp only [e6]) ?_
  refine am_goX (v := nI hs) (M2 := (am_set (am_set (am_set (am_set (am_set (am_set (am_set N2 17 18 (nI 13)) 17 3 (nI a)) 17 18 (nI 14)) 17 4 (nI f)) 17 18 (nI 15)) 17 5 (nI hr)) 17 18 (nI 16))) (s2 := (74, [.ref 17, .int (nI 0), .int (nI 0)], [.ref 17], (am_set (am_set (am_set (am_set (am_set (am_set N2 17 18 (nI 13)) 17 3 (nI a)) 17 18 (nI 14)) 17 4 (nI f)) 17 18 (nI 15)) 17 5 (nI hr)))) rfl (t_putOne (y := hs) (c := 15) (by decide) rfl ek g15) ?_
  refine am_goQ 5 (s1 := (83, [.ref 17, .int (nI 0), .int (nI 0)], [.int ((N2 17 7)), .ref 17, .ref 17], (am_set (am_set (am_set (am_set (am_set (am_set (am_set (am_set N2 17 18 (nI 13)) 17 3 (nI a)) 17 18 (nI 14)) 17 4 (nI f)) 17 18 (nI 15)) 17 5 (nI hr)) 17 18 (nI 16)) 17 6 (nI hs)))) (s2 := (83, [.ref 17, .int (nI 0), .int (nI 0)], [.int (nI x7), .ref 17, .ref 17], (am_set (am_set (am_set (am_set (am_set (am_set (am_set (am_set N2 17 18 (nI 13)) 17 3 (nI a)) 17 18 (nI 14)) 17 4 (nI f)) 17 18 (nI 15)) 17 5 (nI hr)) 17 18 (nI 16)) 17 6 (nI hs)))) rfl (by simp only [e7]) ?_
  refine am_goX (v := nI lt) (M2 := (am_set (am_set (am_set (am_set (am_set (am_set (am_set (am_set (am_set N2 17 18 (nI 13)) 17 3 (nI a)) 17 18 (nI 14)) 17 4 (nI f)) 17 18 (nI 15)) 17 5 (nI hr)) 17 18 (nI 16)) 17 6 (nI hs)) 17 18 (nI 17))) (s2 := (86, [.ref 17, .int (nI 0), .int (nI 0)], [.ref 17], (am_set (am_set (am_set (am_set (am_set (am_set (am_set (am_set N2 17 18 (nI 13)) 17 3 (nI a)) 17 18 (nI 14)) 17 4 (nI f)) 17 18 (nI 15)) 17 5 (nI hr)) 17 18 (nI 16)) 17 6 (nI hs)))) rfl (t_putOne (y := lt) (c := 16) (by decide) rfl ek g16) ?_
  refine am_goR 1 (s2 := (89, [.ref 17, .int (nI 0), .int (nI 0)], [], (am_set (am_set (am_set (am_set (am_set (am_set (am_set (am_set (am_set (am_set N2 17 18 (nI 13)) 17 3 (nI a)) 17 18 (nI 14)) 17 4 (nI f)) 17 18 (nI 15)) 17 5 (nI hr)) 17 18 (nI 16)) 17 6 (nI hs)) 17 18 (nI 17)) 17 7 (nI lt)))) rfl ?_
  refine am_goE none ((am_set (am_set (am_set (am_set (am_set (am_set (am_set (am_set (am_set (am_set N2 17 18 (nI 13)) 17 3 (nI a)) 17 18 (nI 14)) 17 4 (nI f)) 17 18 (nI 15)) 17 5 (nI hr)) 17 18 (nI 16)) 17 6 (nI hs)) 17 18 (nI 17)) 17 7 (nI lt))) rfl ⟨rfl, fun x y hx hx2 hy => ?_, ⟨rfl, rfl, rfl, rfl, rfl, fun q hq => ?_, fun q hq => ?_⟩⟩
  · rw [show (am_set (am_set (am_set (am_set (am_set (am_set (am_set (am_set (am_set (am_set N2 17 18 (nI 13)) 17 3 (nI a)) 17 18 (nI 14)) 17 4 (nI f)) 17 18 (nI 15)) 17 5 (nI hr)) 17 18 (nI 16)) 17 6 (nI hs)) 17 18 (nI 17)) 17 7 (nI lt)) x y = N2 x y from by simp only [am_set]; (repeat (rw [if_neg (fun z => hy ⟨z.1, by omega⟩)]))]
    rw [q1 x y (fun z => hx2 z.1) (fun z => hy ⟨z.1, by omega⟩), p1 x y (fun z => hx z.1) (fun z => hy ⟨z.1, by omega⟩)]
    simp only [am_set]
    rw [if_neg (fun z => hy ⟨z.1, by omega⟩), if_neg (fun z => hy ⟨z.1, by omega⟩)]
  · exact (q1 19 q (fun z => by cases z.1) (fun z => by cases z.1)).trans (p2 q (Nat.zero_le q) hq)
  · exact q2 q (Nat.zero_le q) hq

set_option maxHeartbeats 4000000 in
theorem t_keepAll1 {M : am_Mem} {a f hr hs lt : Nat} {k h : Nat → Nat} (hS : sp_M M a f hr hs lt k h) : am_go 113 (am_ent 113 [.ref 17, .int (nI 1), .int (nI 1)] M) (am_rv (fun N => (∀ x y, ¬ x = 25 → ¬ (x = 17 ∧ (y = 17 ∨ y = 18 ∨ (3 ≤ y ∧ y ≤ 7))) → N x y = M x y) ∧ (∀ y, ¬ (20 ≤ y ∧ y < 37) → N 25 y = M 25 y) ∧ sp_M N a f hr hs lt k h ∧ sp_K N 1 a f hr hs lt k h)) := by
  obtain ⟨hF, hA, hHr, hHs, hLt, hK, hH⟩ := id hS
  refine am_goR 11 (s2 := (18, [.ref 17, .int (nI 1), .int (nI 1)], [.ref 19, .ref 17], (am_set (am_set M 17 18 (nI 20)) 17 17 (nI 1)))) rfl ?_
  refine am_goV (s2 := (21, [.ref 17, .int (nI 1), .int (nI 1)], [], (am_set (am_set M 17 18 (nI 20)) 17 17 (nI 1)))) rfl (t_keep19 (v := k) (c := 20) (by decide) rfl rfl (fun q hq => hK q hq)) (fun N1 hCp => ?_)
  obtain ⟨p1, p2, p3⟩ := hCp
  dsimp only at p1
  refine am_goR 3 (s2 := (26, [.ref 17, .int (nI 1), .int (nI 1)], [.ref 20, .ref 17], N1)) rfl ?_
  refine am_goV (s2 := (29, [.ref 17, .int (nI 1), .int (nI 1)], [], N1)) rfl (t_keep20 (v := h) (c := 24) (by decide) p3 ((p1 17 17 (fun z => by cases z.1) (fun z => by cases z.2)).trans rfl) (fun q hq => (p1 20 q (fun z => by cases z.1) (fun z => by cases z.1)).trans (hH q hq))) (fun N2 hCq => ?_)
  obtain ⟨q1, q2, q3⟩ := hCq
  dsimp only at q1
  have e3 : N2 17 3 = nI a := (q1 17 3 (fun z => by cases z.1) (fun z => by cases z.2)).trans ((p1 17 3 (fun z => by cases z.1) (fun z => by cases z.2)).trans hA)
  have e4 : N2 17 4 = nI f := (q1 17 4 (fun z => by cases z.1) (fun z => by cases z.2)).trans ((p1 17 4 (fun z => by cases z.1) (fun z => by cases z.2)).trans hF)
  have e5 : N2 17 5 = nI hr := (q1 17 5 (fun z => by cases z.1) (fun z => by cases z.2)).trans ((p1 17 5 (fun z => by cases z.1) (fun z => by cases z.2)).trans hHr)
  have e6 : N2 17 6 = nI hs := (q1 17 6 (fun z => by cases z.1) (fun z => by cases z.2)).trans ((p1 17 6 (fun z => by cases z.1) (fun z => by cases z.2)).trans hHs)
  have e7 : N2 17 7 = nI lt := (q1 17 7 (fun z => by cases z.1) (fun z => by cases z.2)).trans ((p1 17 7 (fun z => by cases z.1) (fun z => by cases z.2)).trans hLt)
  have ek : N2 17 17 = nI 1 := (q1 17 17 (fun z => by cases z.1) (fun z => by cases z.2)).trans ((p1 17 17 (fun z => by cases z.1) (fun z => by cases z.2)).trans rfl)
  refine am_goQ 4 (s1 := (35, [.ref 17, .int (nI 1), .int (nI 1)], [.int ((N2 17 3)), .ref 17, .ref 17], N2)) (s2 := (35, [.ref 17, .int (nI 1), .int (nI 1)], [.int (nI a), .ref 17, .ref 17], N2)) rfl (by simp only [e3]) ?_
  refine am_goX (v := nI a) (M2 := (am_set (am_set N2 25 32 (nI a)) 17 18 (nI 33))) (s2 := (38, [.ref 17, .int (nI 1), .int (nI 1)], [.ref 17], N2)) rfl (t_keepOne (c := 32) (by decide) q3 ek) ?_
  refine am_goQ 5 (s1 := (47, [.ref 17, .int (nI 1), .int (nI 1)], [.int ((N2 17 4)), .ref 17, .ref 17], (am_set (am_set (am_set N2 25 32 (nI a)) 17 18 (nI 33)) 17 3 (nI a)))) (s2 := (47, [.ref 17, .int (nI 1), .int (nI 1)], [.int (nI f), .ref 17, .ref 17], (am_set (am_set (am_set N2 25 32 (nI a)) 17 18 (nI 33)) 17 3 (nI a)))) rfl (by simp only [e4]) ?_
  refine am_goX (v := nI f) (M2 := (am_set (am_set (am_set (am_set (am_set N2 25 32 (nI a)) 17 18 (nI 33)) 17 3 (nI a)) 25 33 (nI f)) 17 18 (nI 34))) (s2 := (50, [.ref 17, .int (nI 1), .int (nI 1)], [.ref 17], (am_set (am_set (am_set N2 25 32 (nI a)) 17 18 (nI 33)) 17 3 (nI a)))) rfl (t_keepOne (c := 33) (by decide) rfl ek) ?_
  refine am_goQ 5 (s1 := (59, [.ref 17, .int (nI 1), .int (nI 1)], [.int ((N2 17 5)), .ref 17, .ref 17], (am_set (am_set (am_set (am_set (am_set (am_set N2 25 32 (nI a)) 17 18 (nI 33)) 17 3 (nI a)) 25 33 (nI f)) 17 18 (nI 34)) 17 4 (nI f)))) (s2 := (59, [.ref 17, .int (nI 1), .int (nI 1)], [.int (nI hr), .ref 17, .ref 17], (am_set (am_set (am_set (am_set (am_set (am_set N2 25 32 (nI a)) 17 18 (nI 33)) 17 3 (nI a)) 25 33 (nI f)) 17 18 (nI 34)) 17 4 (nI f)))) rfl (by simp only [e5]) ?_
  refine am_goX (v := nI hr) (M2 := (am_set (am_set (am_set (am_set (am_set (am_set (am_set (am_set N2 25 32 (nI a)) 17 18 (nI 33)) 17 3 (nI a)) 25 33 (nI f)) 17 18 (nI 34)) 17 4 (nI f)) 25 34 (nI hr)) 17 18 (nI 35))) (s2 := (62, [.ref 17, .int (nI 1), .int (nI 1)], [.ref 17], (am_set (am_set (am_set (am_set (am_set (am_set N2 25 32 (nI a)) 17 18 (nI 33)) 17 3 (nI a)) 25 33 (nI f)) 17 18 (nI 34)) 17 4 (nI f)))) rfl (t_keepOne (c := 34) (by decide) rfl ek) ?_
  refine am_goQ 5 (s1 := (71, [.ref 17, .int (nI 1), .int (nI 1)], [.int ((N2 17 6)), .ref 17, .ref 17], (am_set (am_set (am_set (am_set (am_set (am_set (am_set (am_set (am_set N2 25 32 (nI a)) 17 18 (nI 33)) 17 3 (nI a)) 25 33 (nI f)) 17 18 (nI 34)) 17 4 (nI f)) 25 34 (nI hr)) 17 18 (nI 35)) 17 5 (nI hr)))) (s2 := (71, [.ref 17, .int (nI 1), .int (nI 1)], [.int (nI hs), .ref 17, .ref 17], (am_set (am_set (am_set (am_set (am_set (am_set (am_set (am_set (am_set N2 25 32 (nI a)) 17 18 (nI 33)) 17 3 (nI a)) 25 33 (nI f)) 17 18 (nI 34)) 17 4 (nI f)) 25 34 (nI hr)) 17 18 (nI 35)) 17 5 (nI hr)))) rfl (by simp only [e6]) ?_
  refine am_goX (v := nI hs) (M2 := (am_set (am_set (am_set (am_set (am_set (am_set (am_set (am_set (am_set (am_set (am_set N2 25 32 (nI a)) 17 18 (nI 33)) 17 3 (nI a)) 25 33 (nI f)) 17 18 (nI 34)) 17 4 (nI f)) 25 34 (nI hr)) 17 18 (nI 35)) 17 5 (nI hr)) 25 35 (nI hs)) 17 18 (nI 36))) (s2 := (74, [.ref 17, .int (nI 1), .int (nI 1)], [.ref 17], (am_set (am_set (am_set (am_set (am_set (am_set (am_set (am_set (am_set N2 25 32 (nI a)) 17 18 (nI 33)) 17 3 (nI a)) 25 33 (nI f)) 17 18 (nI 34)) 17 4 (nI f)) 25 34 (nI hr)) 17 18 (nI 35)) 17 5 (nI hr)))) rfl (t_keepOne (c := 35) (by decide) rfl ek) ?_
  refine am_goQ 5 (s1 := (83, [.ref 17, .int (nI 1), .int (nI 1)], [.int ((N2 17 7)), .ref 17, .ref 17], (am_set (am_set (am_set (am_set (am_set (am_set (am_set (am_set (am_set (am_set (am_set (am_set N2 25 32 (nI a)) 17 18 (nI 33)) 17 3 (nI a)) 25 33 (nI f)) 17 18 (nI 34)) 17 4 (nI f)) 25 34 (nI hr)) 17 18 (nI 35)) 17 5 (nI hr)) 25 35 (nI hs)) 17 18 (nI 36)) 17 6 (nI hs)))) (s2 := (83, [.ref 17, .int (nI 1), .int (nI 1)], [.int (nI lt), .ref 17, .ref 17], (am_set (am_set (am_set (am_set (am_set (am_set (am_set (am_set (am_set (am_set (am_set (am_set N2 25 32 (nI a)) 17 18 (nI 33)) 17 3 (nI a)) 25 33 (nI f)) 17 18 (nI 34)) 17 4 (nI f)) 25 34 (nI hr)) 17 18 (nI 35)) 17 5 (nI hr)) 25 35 (nI hs)) 17 18 (nI 36)) 17 6 (nI hs)))) rfl (by simp only [e7]) ?_
  refine am_goX (v := nI lt) (M2 := (am_set (am_set (am_set (am_set (am_set (am_set (am_set (am_set (am_set (am_set (am_set (am_set (am_set (am_set N2 25 32 (nI a)) 17 18 (nI 33)) 17 3 (nI a)) 25 33 (nI f)) 17 18 (nI 34)) 17 4 (nI f)) 25 34 (nI hr)) 17 18 (nI 35)) 17 5 (nI hr)) 25 35 (nI hs)) 17 18 (nI 36)) 17 6 (nI hs)) 25 36 (nI lt)) 17 18 (nI 37))) (s2 := (86, [.ref 17, .int (nI 1), .int (nI 1)], [.ref 17], (am_set (am_set (am_set (am_set (am_set (am_set (am_set (am_set (am_set (am_set (am_set (am_set N2 25 32 (nI a)) 17 18 (nI 33)) 17 3 (nI a)) 25 33 (nI f)) 17 18 (nI 34)) 17 4 (nI f)) 25 34 (nI hr)) 17 18 (nI 35)) 17 5 (nI hr)) 25 35 (nI hs)) 17 18 (nI 36)) 17 6 (nI hs)))) rfl (t_keepOne (c := 36) (by decide) rfl ek) ?_
  refine am_goR 1 (s2 := (89, [.ref 17, .int (nI 1), .int (nI 1)], [], (am_set (am_set (am_set (am_set (am_set (am_set (am_set (am_set (am_set (am_set (am_set (am_set (am_set (am_set (am_set N2 25 32 (nI a)) 17 18 (nI 33)) 17 3 (nI a)) 25 33 (nI f)) 17 18 (nI 34)) 17 4 (nI f)) 25 34 (nI hr)) 17 18 (nI 35)) 17 5 (nI hr)) 25 35 (nI hs)) 17 18 (nI 36)) 17 6 (nI hs)) 25 36 (nI lt)) 17 18 (nI 37)) 17 7 (nI lt)))) rfl ?_
  refine am_goE none ((am_set (am_set (am_set (am_set (am_set (am_set (am_set (am_set (am_set (am_set (am_set (am_set (am_set (am_set (am_set N2 25 32 (nI a)) 17 18 (nI 33)) 17 3 (nI a)) 25 33 (nI f)) 17 18 (nI 34)) 17 4 (nI f)) 25 34 (nI hr)) 17 18 (nI 35)) 17 5 (nI hr)) 25 35 (nI hs)) 17 18 (nI 36)) 17 6 (nI hs)) 25 36 (nI lt)) 17 18 (nI 37)) 17 7 (nI lt))) rfl ⟨rfl, fun x y hx hy => ?_, fun y hy => ?_, ⟨rfl, rfl, rfl, rfl, rfl, fun q hq => ?_, fun q hq => ?_⟩, ⟨fun q hq => ?_, fun q hq => ?_, rfl, rfl, rfl, rfl, rfl⟩⟩
  · rw [show (am_set (am_set (am_set (am_set (am_set (am_set (am_set (am_set (am_set (am_set (am_set (am_set (am_set (am_set (am_set N2 25 32 (nI a)) 17 18 (nI 33)) 17 3 (nI a)) 25 33 (nI f)) 17 18 (nI 34)) 17 4 (nI f)) 25 34 (nI hr)) 17 18 (nI 35)) 17 5 (nI hr)) 25 35 (nI hs)) 17 18 (nI 36)) 17 6 (nI hs)) 25 36 (nI lt)) 17 18 (nI 37)) 17 7 (nI lt)) x y = N2 x y from by simp only [am_set, hx, false_and, if_false]; (repeat (rw [if_neg (fun z => hy ⟨z.1, by omega⟩)]))]
    rw [q1 x y (fun z => hx z.1) (fun z => hy ⟨z.1, by omega⟩), p1 x y (fun z => hx z.1) (fun z => hy ⟨z.1, by omega⟩)]
    simp only [am_set]
    rw [if_neg (fun z => hy ⟨z.1, by omega⟩), if_neg (fun z => hy ⟨z.1, by omega⟩)]
  · rw [show (am_set (am_set (am_set (am_set (am_set (am_set (am_set (am_set (am_set (am_set (am_set (am_set (am_set (am_set (am_set N2 25 32 (nI a)) 17 18 (nI 33)) 17 3 (nI a)) 25 33 (nI f)) 17 18 (nI 34)) 17 4 (nI f)) 25 34 (nI hr)) 17 18 (nI 35)) 17 5 (nI hr)) 25 35 (nI hs)) 17 18 (nI 36)) 17 6 (nI hs)) 25 36 (nI lt)) 17 18 (nI 37)) 17 7 (nI lt)) 25 y = N2 25 y from by simp only [am_set, show ¬ 25 = 17 by decide, false_and, if_false]; (repeat (rw [if_neg (fun z => by omega)]))]
    rw [q1 25 y (fun z => by omega) (fun z => by cases z.1), p1 25 y (fun z => by omega) (fun z => by cases z.1)]
    rfl
  · exact (q1 19 q (fun z => by cases z.1) (fun z => by cases z.1)).trans ((p1 19 q (fun z => by cases z.1) (fun z => by cases z.1)).trans (hK q hq))
  · exact (q1 20 q (fun z => by cases z.1) (fun z => by cases z.1)).trans ((p1 20 q (fun z => by cases z.1) (fun z => by cases z.1)).trans (hH q hq))
  · rw [show (am_set (am_set (am_set (am_set (am_set (am_set (am_set (am_set (am_set (am_set (am_set (am_set (am_set (am_set (am_set N2 25 32 (nI a)) 17 18 (nI 33)) 17 3 (nI a)) 25 33 (nI f)) 17 18 (nI 34)) 17 4 (nI f)) 25 34 (nI hr)) 17 18 (nI 35)) 17 5 (nI hr)) 25 35 (nI hs)) 17 18 (nI 36)) 17 6 (nI hs)) 25 36 (nI lt)) 17 18 (nI 37)) 17 7 (nI lt)) 25 (20 * 1 + q) = N2 25 (20 + q) from by simp only [am_set, show ¬ 25 = 17 by decide, false_and, if_false]; (repeat (rw [if_neg (fun z => by omega)]))]
    rw [q1 25 (20 + q) (fun z => by omega) (fun z => by cases z.1)]
    exact p2 q (Nat.zero_le q) hq
  · rw [show (am_set (am_set (am_set (am_set (am_set (am_set (am_set (am_set (am_set (am_set (am_set (am_set (am_set (am_set (am_set N2 25 32 (nI a)) 17 18 (nI 33)) 17 3 (nI a)) 25 33 (nI f)) 17 18 (nI 34)) 17 4 (nI f)) 25 34 (nI hr)) 17 18 (nI 35)) 17 5 (nI hr)) 25 35 (nI hs)) 17 18 (nI 36)) 17 6 (nI hs)) 25 36 (nI lt)) 17 18 (nI 37)) 17 7 (nI lt)) 25 (20 * 1 + 4 + q) = N2 25 (24 + q) from by simp only [am_set, show ¬ 25 = 17 by decide, false_and, if_false]; (repeat (rw [if_neg (fun z => by omega)]))]
    exact q2 q (Nat.zero_le q) hq

set_option maxHeartbeats 4000000 in
theorem t_putAll1 {M : am_Mem} {a f hr hs lt : Nat} {k h : Nat → Nat} (hS : sp_K M 1 a f hr hs lt k h) {x3 x4 x5 x6 x7 : Nat} (h3 : M 17 3 = nI x3) (h4 : M 17 4 = nI x4) (h5 : M 17 5 = nI x5) (h6 : M 17 6 = nI x6) (h7 : M 17 7 = nI x7) : am_go 113 (am_ent 113 [.ref 17, .int (nI 1), .int (nI 0)] M) (am_rv (fun N => (∀ x y, ¬ x = 19 → ¬ x = 20 → ¬ (x = 17 ∧ (y = 17 ∨ y = 18 ∨ (3 ≤ y ∧ y ≤ 7))) → N x y = M x y) ∧ sp_M N a f hr hs lt k h)) := by
  obtain ⟨hKk, hKh, hKa, hKf, hKhr, hKhs, hKlt⟩ := id hS
  refine am_goR 11 (s2 := (18, [.ref 17, .int (nI 1), .int (nI 0)], [.ref 19, .ref 17], (am_set (am_set M 17 18 (nI 20)) 17 17 (nI 0)))) rfl ?_
  refine am_goV (s2 := (21, [.ref 17, .int (nI 1), .int (nI 0)], [], (am_set (am_set M 17 18 (nI 20)) 17 17 (nI 0)))) rfl (t_put19 (v := k) (c := 20) (by decide) rfl rfl (fun q hq => by have e := hKk q hq; simpa [am_set] using e)) (fun N1 hCp => ?_)
  obtain ⟨p1, p2, p3⟩ := hCp
  dsimp only at p1
  refine am_goR 3 (s2 := (26, [.ref 17, .int (nI 1), .int (nI 0)], [.ref 20, .ref 17], N1)) rfl ?_
  refine am_goV (s2 := (29, [.ref 17, .int (nI 1), .int (nI 0)], [], N1)) rfl (t_put20 (v := h) (c := 24) (by decide) p3 ((p1 17 17 (fun z => by cases z.1) (fun z => by cases z.2)).trans rfl) (fun q hq => (p1 25 _ (fun z => by cases z.1) (fun z => by cases z.1)).trans (by have e := hKh q hq; simpa [am_set] using e))) (fun N2 hCq => ?_)
  obtain ⟨q1, q2, q3⟩ := hCq
  dsimp only at q1
  have e3 : N2 17 3 = nI x3 := (q1 17 3 (fun z => by cases z.1) (fun z => by cases z.2)).trans ((p1 17 3 (fun z => by cases z.1) (fun z => by cases z.2)).trans h3)
  have e4 : N2 17 4 = nI x4 := (q1 17 4 (fun z => by cases z.1) (fun z => by cases z.2)).trans ((p1 17 4 (fun z => by cases z.1) (fun z => by cases z.2)).trans h4)
  have e5 : N2 17 5 = nI x5 := (q1 17 5 (fun z => by cases z.1) (fun z => by cases z.2)).trans ((p1 17 5 (fun z => by cases z.1) (fun z => by cases z.2)).trans h5)
  have e6 : N2 17 6 = nI x6 := (q1 17 6 (fun z => by cases z.1) (fun z => by cases z.2)).trans ((p1 17 6 (fun z => by cases z.1) (fun z => by cases z.2)).trans h6)
  have e7 : N2 17 7 = nI x7 := (q1 17 7 (fun z => by cases z.1) (fun z => by cases z.2)).trans ((p1 17 7 (fun z => by cases z.1) (fun z => by cases z.2)).trans h7)
  have ek : N2 17 17 = nI 0 := (q1 17 17 (fun z => by cases z.1) (fun z => by cases z.2)).trans ((p1 17 17 (fun z => by cases z.1) (fun z => by cases z.2)).trans rfl)
  have g12 : N2 25 32 = nI a := (q1 25 32 (fun z => by cases z.1) (fun z => by cases z.1)).trans ((p1 25 32 (fun z => by cases z.1) (fun z => by cases z.1)).trans hKa)
  have g13 : N2 25 33 = nI f := (q1 25 33 (fun z => by cases z.1) (fun z => by cases z.1)).trans ((p1 25 33 (fun z => by cases z.1) (fun z => by cases z.1)).trans hKf)
  have g14 : N2 25 34 = nI hr := (q1 25 34 (fun z => by cases z.1) (fun z => by cases z.1)).trans ((p1 25 34 (fun z => by cases z.1) (fun z => by cases z.1)).trans hKhr)
  have g15 : N2 25 35 = nI hs := (q1 25 35 (fun z => by cases z.1) (fun z => by cases z.1)).trans ((p1 25 35 (fun z => by cases z.1) (fun z => by cases z.1)).trans hKhs)
  have g16 : N2 25 36 = nI lt := (q1 25 36 (fun z => by cases z.1) (fun z => by cases z.1)).trans ((p1 25 36 (fun z => by cases z.1) (fun z => by cases z.1)).trans hKlt)
  refine am_goQ 4 (s1 := (35, [.ref 17, .int (nI 1), .int (nI 0)], [.int ((N2 17 3)), .ref 17, .ref 17], N2)) (s2 := (35, [.ref 17, .int (nI 1), .int (nI 0)], [.int (nI x3), .ref 17, .ref 17], N2)) rfl (by simp only [e3]) ?_
  refine am_goX (v := nI a) (M2 := (am_set N2 17 18 (nI 33))) (s2 := (38, [.ref 17, .int (nI 1), .int (nI 0)], [.ref 17], N2)) rfl (t_putOne (y := a) (c := 32) (by decide) q3 ek g12) ?_
  refine am_goQ 5 (s1 := (47, [.ref 17, .int (nI 1), .int (nI 0)], [.int ((N2 17 4)), .ref 17, .ref 17], (am_set (am_set N2 17 18 (nI 33)) 17 3 (nI a)))) (s2 := (47, [.ref 17, .int (nI 1), .int (nI 0)], [.int (nI x4), .ref 17, .ref 17], (am_set (am_set N2 17 18 (nI 33)) 17 3 (nI a)))) rfl (by simp only [e4]) ?_
  refine am_goX (v := nI f) (M2 := (am_set (am_set (am_set N2 17 18 (nI 33)) 17 3 (nI a)) 17 18 (nI 34))) (s2 := (50, [.ref 17, .int (nI 1), .int (nI 0)], [.ref 17], (am_set (am_set N2 17 18 (nI 33)) 17 3 (nI a)))) rfl (t_putOne (y := f) (c := 33) (by decide) rfl ek g13) ?_
  refine am_goQ 5 (s1 := (59, [.ref 17, .int (nI 1), .int (nI 0)], [.int ((N2 17 5)), .ref 17, .ref 17], (am_set (am_set (am_set (am_set N2 17 18 (nI 33)) 17 3 (nI a)) 17 18 (nI 34)) 17 4 (nI f)))) (s2 := (59, [.ref 17, .int (nI 1), .int (nI 0)], [.int (nI x5), .ref 17, .ref 17], (am_set (am_set (am_set (am_set N2 17 18 (nI 33)) 17 3 (nI a)) 17 18 (nI 34)) 17 4 (nI f)))) rfl (by simp only [e5]) ?_
  refine am_goX (v := nI hr) (M2 := (am_set (am_set (am_set (am_set (am_set N2 17 18 (nI 33)) 17 3 (nI a)) 17 18 (nI 34)) 17 4 (nI f)) 17 18 (nI 35))) (s2 := (62, [.ref 17, .int (nI 1), .int (nI 0)], [.ref 17], (am_set (am_set (am_set (am_set N2 17 18 (nI 33)) 17 3 (nI a)) 17 18 (nI 34)) 17 4 (nI f)))) rfl (t_putOne (y := hr) (c := 34) (by decide) rfl ek g14) ?_
  refine am_goQ 5 (s1 := (71, [.ref 17, .int (nI 1), .int (nI 0)], [.int ((N2 17 6)), .ref 17, .ref 17], (am_set (am_set (am_set (am_set (am_set (am_set N2 17 18 (nI 33)) 17 3 (nI a)) 17 18 (nI 34)) 17 4 (nI f)) 17 18 (nI 35)) 17 5 (nI hr)))) (s2 := (71, [.ref 17, .int (nI 1), .int (nI 0)], [.int (nI x6), .ref 17, .ref 17], (am_set (am_set (am_set (am_set (am_set (am_set N2 17 18 (nI 33)) 17 3 (nI a)) 17 18 (nI 34)) 17 4 (nI f)) 17 18 (nI 35)) 17 5 (nI hr)))) rfl (by simp only [e6]) ?_
  refine am_goX (v := nI hs) (M2 := (am_set (am_set (am_set (am_set (am_set (am_set (am_set N2 17 18 (nI 33)) 17 3 (nI a)) 17 18 (nI 34)) 17 4 (nI f)) 17 18 (nI 35)) 17 5 (nI hr)) 17 18 (nI 36))) (s2 := (74, [.ref 17, .int (nI 1), .int (nI 0)], [.ref 17], (am_set (am_set (am_set (am_set (am_set (am_set N2 17 18 (nI 33)) 17 3 (nI a)) 17 18 (nI 34)) 17 4 (nI f)) 17 18 (nI 35)) 17 5 (nI hr)))) rfl (t_putOne (y := hs) (c := 35) (by decide) rfl ek g15) ?_
  refine am_goQ 5 (s1 := (83, [.ref 17, .int (nI 1), .int (nI 0)], [.int ((N2 17 7)), .ref 17, .ref 17], (am_set (am_set (am_set (am_set (am_set (am_set (am_set (am_set N2 17 18 (nI 33)) 17 3 (nI a)) 17 18 (nI 34)) 17 4 (nI f)) 17 18 (nI 35)) 17 5 (nI hr)) 17 18 (nI 36)) 17 6 (nI hs)))) (s2 := (83, [.ref 17, .int (nI 1), .int (nI 0)], [.int (nI x7), .ref 17, .ref 17], (am_set (am_set (am_set (am_set (am_set (am_set (am_set (am_set N2 17 18 (nI 33)) 17 3 (nI a)) 17 18 (nI 34)) 17 4 (nI f)) 17 18 (nI 35)) 17 5 (nI hr)) 17 18 (nI 36)) 17 6 (nI hs)))) rfl (by simp only [e7]) ?_
  refine am_goX (v := nI lt) (M2 := (am_set (am_set (am_set (am_set (am_set (am_set (am_set (am_set (am_set N2 17 18 (nI 33)) 17 3 (nI a)) 17 18 (nI 34)) 17 4 (nI f)) 17 18 (nI 35)) 17 5 (nI hr)) 17 18 (nI 36)) 17 6 (nI hs)) 17 18 (nI 37))) (s2 := (86, [.ref 17, .int (nI 1), .int (nI 0)], [.ref 17], (am_set (am_set (am_set (am_set (am_set (am_set (am_set (am_set N2 17 18 (nI 33)) 17 3 (nI a)) 17 18 (nI 34)) 17 4 (nI f)) 17 18 (nI 35)) 17 5 (nI hr)) 17 18 (nI 36)) 17 6 (nI hs)))) rfl (t_putOne (y := lt) (c := 36) (by decide) rfl ek g16) ?_
  refine am_goR 1 (s2 := (89, [.ref 17, .int (nI 1), .int (nI 0)], [], (am_set (am_set (am_set (am_set (am_set (am_set (am_set (am_set (am_set (am_set N2 17 18 (nI 33)) 17 3 (nI a)) 17 18 (nI 34)) 17 4 (nI f)) 17 18 (nI 35)) 17 5 (nI hr)) 17 18 (nI 36)) 17 6 (nI hs)) 17 18 (nI 37)) 17 7 (nI lt)))) rfl ?_
  refine am_goE none ((am_set (am_set (am_set (am_set (am_set (am_set (am_set (am_set (am_set (am_set N2 17 18 (nI 33)) 17 3 (nI a)) 17 18 (nI 34)) 17 4 (nI f)) 17 18 (nI 35)) 17 5 (nI hr)) 17 18 (nI 36)) 17 6 (nI hs)) 17 18 (nI 37)) 17 7 (nI lt))) rfl ⟨rfl, fun x y hx hx2 hy => ?_, ⟨rfl, rfl, rfl, rfl, rfl, fun q hq => ?_, fun q hq => ?_⟩⟩
  · rw [show (am_set (am_set (am_set (am_set (am_set (am_set (am_set (am_set (am_set (am_set N2 17 18 (nI 33)) 17 3 (nI a)) 17 18 (nI 34)) 17 4 (nI f)) 17 18 (nI 35)) 17 5 (nI hr)) 17 18 (nI 36)) 17 6 (nI hs)) 17 18 (nI 37)) 17 7 (nI lt)) x y = N2 x y from by simp only [am_set]; (repeat (rw [if_neg (fun z => hy ⟨z.1, by omega⟩)]))]
    rw [q1 x y (fun z => hx2 z.1) (fun z => hy ⟨z.1, by omega⟩), p1 x y (fun z => hx z.1) (fun z => hy ⟨z.1, by omega⟩)]
    simp only [am_set]
    rw [if_neg (fun z => hy ⟨z.1, by omega⟩), if_neg (fun z => hy ⟨z.1, by omega⟩)]
  · exact (q1 19 q (fun z => by cases z.1) (fun z => by cases z.1)).trans (p2 q (Nat.zero_le q) hq)
  · exact q2 q (Nat.zero_le q) hq

set_option maxHeartbeats 4000000 in
theorem t_draw {M : am_Mem} {m : Nat} (h0 : 0 < m) (hm : m < 2147483648) : am_go 155 (am_ent 155 [.ref 17, .int (nI m)] M) (am_is (nI (sp_dr (sp_lc (M 17 26)) m)) (am_set M 17 26 (sp_lc (M 17 26)))) := by
  refine am_goQ 15 (s1 := (26, [.ref 17, .int (nI m)], [.int (nI m), .int ((((((M 17 26) * nI 1664525) + nI 1013904223) &&& nI 2147483647) / nI 256))], (am_set M 17 26 ((((M 17 26) * nI 1664525) + nI 1013904223))))) (s2 := (26, [.ref 17, .int (nI m)], [.int (nI m), .int (nI (((((M 17 26) * nI 1664525) + nI 1013904223).toBitVec.toNat % 2147483648) / 256))], (am_set M 17 26 ((((M 17 26) * nI 1664525) + nI 1013904223))))) rfl (by simp only [am_and31, pk_div (a := ((((M 17 26) * nI 1664525) + nI 1013904223).toBitVec.toNat % 2147483648)) (d := 256) (by omega) (by omega) (by omega)]) ?_
  refine am_goD (s2 := (27, [.ref 17, .int (nI m)], [.int ((nI (((((M 17 26) * nI 1664525) + nI 1013904223).toBitVec.toNat % 2147483648) / 256) - nI (((((M 17 26) * nI 1664525) + nI 1013904223).toBitVec.toNat % 2147483648) / 256) / nI m * nI m))], (am_set M 17 26 ((((M 17 26) * nI 1664525) + nI 1013904223))))) rfl (nI_ne0 (by omega) (by omega)) ?_
  refine am_goQ 0 (s1 := (27, [.ref 17, .int (nI m)], [.int ((nI (((((M 17 26) * nI 1664525) + nI 1013904223).toBitVec.toNat % 2147483648) / 256) - nI (((((M 17 26) * nI 1664525) + nI 1013904223).toBitVec.toNat % 2147483648) / 256) / nI m * nI m))], (am_set M 17 26 ((((M 17 26) * nI 1664525) + nI 1013904223))))) (s2 := (27, [.ref 17, .int (nI m)], [.int (nI ((((((M 17 26) * nI 1664525) + nI 1013904223).toBitVec.toNat % 2147483648) / 256) % m))], (am_set M 17 26 ((((M 17 26) * nI 1664525) + nI 1013904223))))) rfl (by simp only [pk_rem (a := (((((M 17 26) * nI 1664525) + nI 1013904223).toBitVec.toNat % 2147483648) / 256)) (d := m) (by omega) (by omega) (by omega)]) ?_
  exact am_ends (nI ((((((M 17 26) * nI 1664525) + nI 1013904223).toBitVec.toNat % 2147483648) / 256) % m)) _ rfl rfl rfl

