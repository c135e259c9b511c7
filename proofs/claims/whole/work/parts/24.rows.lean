/-! walks: rows of places: what differs, the only step to them -/
/-- how many of the first n differ, and the last such -/
def sp_dc (v h : Nat → Nat) : Nat → Nat | 0 => 0 | n + 1 => if v n = h n then sp_dc v h n else sp_dc v h n + 1
def sp_dl (v h : Nat → Nat) : Nat → Nat | 0 => 0 | n + 1 => if v n = h n then sp_dl v h n else n
theorem sp_dc_e {v h : Nat → Nat} {n : Nat} (e : v n = h n) : sp_dc v h (n + 1) = sp_dc v h n := by rw [sp_dc, if_pos e]
theorem sp_dc_n {v h : Nat → Nat} {n : Nat} (e : ¬ v n = h n) : sp_dc v h (n + 1) = sp_dc v h n + 1 := by rw [sp_dc, if_neg e]
theorem sp_dl_e {v h : Nat → Nat} {n : Nat} (e : v n = h n) : sp_dl v h (n + 1) = sp_dl v h n := by rw [sp_dl, if_pos e]
theorem sp_dl_n {v h : Nat → Nat} {n : Nat} (e : ¬ v n = h n) : sp_dl v h (n + 1) = n := by rw [sp_dl, if_neg e]
theorem sp_dc_mono {v h : Nat → Nat} {n : Nat} : ∀ m : Nat, n ≤ m → sp_dc v h n ≤ sp_dc v h m := by
  intro m
  induction m with
  | zero => intro z; rw [show n = 0 by omega]; exact Nat.le_refl _
  | succ m ih =>
    intro z
    by_cases e : n = m + 1
    · rw [e]; exact Nat.le_refl _
    · have h1 := ih (by omega)
      rw [sp_dc]
      split <;> omega
theorem sp_dl_lt {v h : Nat → Nat} : ∀ n : Nat, ¬ sp_dc v h n = 0 → sp_dl v h n < n ∧ ¬ v (sp_dl v h n) = h (sp_dl v h n) := by
  intro n
  induction n with
  | zero => intro z; exact absurd rfl z
  | succ n ih =>
    intro z
    by_cases e : v n = h n
    · rw [sp_dc_e e] at z
      rw [sp_dl_e e]
      have := ih z
      exact ⟨by omega, this.2⟩
    · rw [sp_dl_n e]
      exact ⟨by omega, e⟩
/-- the only step from h to v -/
def sp_os (a f : Nat) (k h v : Nat → Nat) : Int32 := if sp_dc v h (2 * a) = 1 ∧ sp_cn a f k h (sp_dl v h (2 * a) / 2) (sp_dl v h (2 * a) % 2) 9 (v (sp_dl v h (2 * a))) = true then nI (1000 * (sp_dl v h (2 * a) / 2) + 100 * (sp_dl v h (2 * a) % 2) + v (sp_dl v h (2 * a))) else -nI 9
theorem sp_os_n {a f : Nat} {k h v : Nat → Nat} (z : ¬ sp_dc v h (2 * a) = 1) : sp_os a f k h v = -nI 9 := by unfold sp_os; rw [if_neg (fun q => z q.1)]
theorem sp_os_1 {a f : Nat} {k h v : Nat → Nat} (oF : f < 4096) (z : sp_dc v h (2 * a) = 1) {d : Nat} (hd : sp_dl v h (2 * a) = d) : sp_os a f k h v = if (sp_bs (fun q => sp_cn a f k h (d / 2) (d % 2) 9 q) 12).testBit (v d) = true then nI (1000 * (d / 2) + 100 * (d % 2) + v d) else -nI 9 := by
  subst hd
  unfold sp_os
  rw [sp_bs_cn oF]
  by_cases e : sp_cn a f k h (sp_dl v h (2 * a) / 2) (sp_dl v h (2 * a) % 2) 9 (v (sp_dl v h (2 * a))) = true
  · rw [if_pos ⟨z, e⟩, if_pos e]
  · rw [if_neg (fun q => e q.2), if_neg e]

set_option maxHeartbeats 4000000 in
theorem t_unlike_loop {a f hr hs lt : Nat} {k h v : Nat → Nat} (hO : sp_ok a f hr lt k h) (hv : ∀ q, v q < 4000) : ∀ (n p : Nat) (N : am_Mem), n + p = 2 * a + 1 → p ≤ 2 * a → sp_M N a f hr hs lt k h → (∀ q, q < 8 → N 28 q = nI (v q)) → (¬ sp_dc v h p = 0 → N 17 25 = nI (sp_dl v h p)) → am_go 148 (4, [.ref 17, .int (nI (sp_dc v h p)), .int (nI p)], [], N) (am_ri (fun x O => x = nI (sp_dc v h (2 * a)) ∧ (∀ x y, ¬ (x = 17 ∧ y = 25) → O x y = N x y) ∧ (¬ sp_dc v h (2 * a) = 0 → O 17 25 = nI (sp_dl v h (2 * a))))) := by
  intro n
  induction n with
  | zero => intro p N h1 h2; omega
  | succ n ih =>
    intro p N h1 h2 hS hR hU
    obtain ⟨hF, hA, hHr, hHs, hLt, hK, hH⟩ := id hS
    obtain ⟨oA, oF, oHr, oLt, oK, oH⟩ := id hO
    have hvp := hv p
    have ohp := oH p
    refine am_goQ 5 (s1 := (11, [.ref 17, .int (nI (sp_dc v h p)), .int (nI p)], [.int ((nI 2 * (N 17 3))), .int (nI p)], N)) (s2 := (11, [.ref 17, .int (nI (sp_dc v h p)), .int (nI p)], [.int (nI (2 * a)), .int (nI p)], N)) rfl (by simp only [hA, pk_mul]) ?_
    refine am_bLE ((2 * a)) (p) (s1 := (46, [.ref 17, .int (nI (sp_dc v h p)), .int (nI p)], [], N)) (s2 := (14, [.ref 17, .int (nI (sp_dc v h p)), .int (nI p)], [], N)) rfl (by omega) (by omega) (fun c1 => ?_) (fun c1 => ?_)
    · refine am_goR 1 (s2 := (47, [.ref 17, .int (nI (sp_dc v h p)), .int (nI p)], [.int (nI (sp_dc v h p))], N)) rfl ?_
      have ep : p = 2 * a := by omega
      subst ep
      exact am_goE _ N rfl ⟨_, rfl, rfl, fun _ _ _ => rfl, hU⟩
    · refine am_goR 3 (s2 := (19, [.ref 17, .int (nI (sp_dc v h p)), .int (nI p)], [.int (nI p), .ref 28], N)) rfl ?_
      refine am_goL2 (pc := 20) (ls := [.ref 17, .int (nI (sp_dc v h p)), .int (nI p)]) (r := []) (M := N) (a := 28) (n := 16) (p) (nI (v p)) rfl rfl (by omega) (by decide) (hR _ (by omega)) ?_
      refine am_goR 3 (s2 := (25, [.ref 17, .int (nI (sp_dc v h p)), .int (nI p)], [.int (nI p), .ref 20, .int (nI (v p))], N)) rfl ?_
      refine am_goL2 (pc := 26) (ls := [.ref 17, .int (nI (sp_dc v h p)), .int (nI p)]) (r := [.int (nI (v p))]) (M := N) (a := 20) (n := 8) (p) (nI (h p)) rfl rfl (by omega) (by decide) (hH _ (by omega)) ?_
      refine am_bNE ((v p)) ((h p)) (s1 := (32, [.ref 17, .int (nI (sp_dc v h p)), .int (nI p)], [], N)) (s2 := (29, [.ref 17, .int (nI (sp_dc v h p)), .int (nI p)], [], N)) rfl (by omega) (by omega) (fun c2 => ?_) (fun c2 => ?_)
      · refine am_goQ 6 (s1 := (4, [.ref 17, .int ((nI (sp_dc v h p) + nI 1)), .int ((nI p + nI 1))], [], (am_set N 17 25 (nI p)))) (s2 := (4, [.ref 17, .int (nI ((sp_dc v h p) + 1)), .int (nI (p + 1))], [], (am_set N 17 25 (nI p)))) rfl (by simp only [nI_add]) ?_
        have e0 : ¬ v p = h p := by assumption
        have i1 := ih (p + 1) (am_set N 17 25 (nI p)) (by omega) (by omega) ⟨hS.1, hS.2.1, hS.2.2.1, hS.2.2.2.1, hS.2.2.2.2.1, fun q hq => hS.2.2.2.2.2.1 q hq, fun q hq => hS.2.2.2.2.2.2 q hq⟩ hR (fun _ => by rw [sp_dl_n e0]; rfl)
        rw [sp_dc_n e0] at i1
        refine am_goW i1 (fun r9 O hr => ?_)
        obtain ⟨x, rfl, q1, q2, q3⟩ := hr
        exact ⟨x, rfl, q1, fun x y z => (q2 x y z).trans (by simp only [am_set, if_neg z]), q3⟩
      · refine am_goQ 3 (s1 := (4, [.ref 17, .int (nI (sp_dc v h p)), .int ((nI p + nI 1))], [], N)) (s2 := (4, [.ref 17, .int (nI (sp_dc v h p)), .int (nI (p + 1))], [], N)) rfl (by simp only [nI_add]) ?_
        have e0 : v p = h p := by assumption
        have i1 := ih (p + 1) N (by omega) (by omega) hS hR (by rw [sp_dc_e e0, sp_dl_e e0]; exact hU)
        rw [sp_dc_e e0] at i1
        exact i1
theorem t_unlike {M : am_Mem} {a f hr hs lt : Nat} {k h v : Nat → Nat} (hS : sp_M M a f hr hs lt k h) (hO : sp_ok a f hr lt k h) (hR : ∀ q, q < 8 → M 28 q = nI (v q)) (hv : ∀ q, v q < 4000) : am_go 148 (am_ent 148 [.ref 17] M) (am_ri (fun x O => x = nI (sp_dc v h (2 * a)) ∧ (∀ x y, ¬ (x = 17 ∧ y = 25) → O x y = M x y) ∧ (¬ sp_dc v h (2 * a) = 0 → O 17 25 = nI (sp_dl v h (2 * a))))) := by
  refine am_goR 4 (s2 := (4, [.ref 17, .int (nI 0), .int (nI 0)], [], M)) rfl ?_
  exact t_unlike_loop hO hv (2 * a + 1) 0 M (by omega) (by omega) hS hR (fun z => absurd rfl z)

set_option maxHeartbeats 4000000 in
theorem s_onlyEnd_1 {M : am_Mem} {a f hr hs lt : Nat} {k h v : Nat → Nat} (hS : sp_S 1 M a f hr hs lt k h) (hO : sp_ok a f hr lt k h) (hR : ∀ q, q < 8 → M 15 q = nI (v q)) (hv : ∀ q, v q < 4000) {d : Nat} (hd : d < 2 * a) {w : Value} : am_go 29 (59, [.ref 1, .ref 15, .int (nI d), w], [], M) (am_is (if (sp_bs (fun q => sp_cn a f k h (d / 2) (d % 2) 9 q) 12).testBit (v d) = true then nI (1000 * (d / 2) + 100 * (d % 2) + v d) else -nI 9) M) := by
  obtain ⟨hF, hA, hHr, hHs, hLt, hK, hH⟩ := id hS
  obtain ⟨oA, oF, oHr, oLt, oK, oH⟩ := id hO
  have hb12 := sp_bs_lt (fun q => sp_cn a f k h (d / 2) (d % 2) 9 q) 12
  have hvd := hv d
  refine am_goR 1 (s2 := (60, [.ref 1, .ref 15, .int (nI d), w], [.int (nI d)], M)) rfl ?_
  refine am_bLT (d) (0) (s1 := (69, [.ref 1, .ref 15, .int (nI d), w], [], M)) (s2 := (63, [.ref 1, .ref 15, .int (nI d), w], [], M)) rfl (by omega) (by omega) (fun c1 => absurd c1 (by omega)) (fun c1 => ?_)
  refine am_goR 3 (s2 := (66, [.ref 1, .ref 15, .int (nI d), w], [.int (nI 16), .int (nI d)], M)) rfl ?_
  refine am_bLT (d) (16) (s1 := (72, [.ref 1, .ref 15, .int (nI d), w], [], M)) (s2 := (69, [.ref 1, .ref 15, .int (nI d), w], [], M)) rfl (by omega) (by omega) (fun c2 => ?_) (fun c2 => absurd c2 (by omega))
  refine am_goR 2 (s2 := (74, [.ref 1, .ref 15, .int (nI d), w], [.int (nI d), .ref 15], M)) rfl ?_
  refine am_goL2 (pc := 75) (ls := [.ref 1, .ref 15, .int (nI d), w]) (r := []) (M := M) (a := 15) (n := 16) (d) (nI (v d)) rfl rfl (by omega) (by decide) (hR _ (by omega)) ?_
  refine am_goQ 9 (s1 := (85, [.ref 1, .ref 15, .int (nI d), .int (nI (v d))], [.int ((-nI 9)), .int ((nI d - nI d / nI 2 * nI 2)), .int ((nI d / nI 2)), .ref 1], M)) (s2 := (85, [.ref 1, .ref 15, .int (nI d), .int (nI (v d))], [.int ((-nI 9)), .int (nI (d % 2)), .int (nI (d / 2)), .ref 1], M)) rfl (by rw [pk_rem (a := d) (d := 2) (by omega) (by omega) (by omega)]; simp only [pk_div (a := d) (d := 2) (by omega) (by omega) (by omega)]) ?_
  refine am_goX (v := nI (sp_bs (fun q => sp_cn a f k h (d / 2) (d % 2) 9 q) 12)) (M2 := M) (s2 := (88, [.ref 1, .ref 15, .int (nI d), .int (nI (v d))], [], M)) rfl (s_openTon_1 hS hO (i := (d / 2)) (b := (d % 2)) (by omega) (by omega)) ?_
  refine am_goR 1 (s2 := (89, [.ref 1, .ref 15, .int (nI d), .int (nI (v d))], [.int (nI (v d)), .int (nI (sp_bs (fun q => sp_cn a f k h (d / 2) (d % 2) 9 q) 12))], M)) rfl ?_
  refine am_goX (v := am_b ((sp_bs (fun q => sp_cn a f k h (d / 2) (d % 2) 9 q) 12).testBit (v d))) (M2 := M) (s2 := (92, [.ref 1, .ref 15, .int (nI d), .int (nI (v d))], [], M)) rfl (s_hasBitS (x := (sp_bs (fun q => sp_cn a f k h (d / 2) (d % 2) 9 q) 12)) (j := (v d)) (by omega) (by omega)) ?_
  refine am_bB0 ((sp_bs (fun q => sp_cn a f k h (d / 2) (d % 2) 9 q) 12).testBit (v d)) (s1 := (114, [.ref 1, .ref 15, .int (nI d), .int (nI (v d))], [], M)) (s2 := (95, [.ref 1, .ref 15, .int (nI d), .int (nI (v d))], [], M)) rfl (fun c3 => ?_) (fun c3 => ?_)
  · refine am_goR 1 (s2 := (116, [.ref 1, .ref 15, .int (nI d), .int (nI (v d))], [.int ((-nI 9))], M)) rfl ?_
    exact am_ends ((-nI 9)) _ rfl (by simp [*]) rfl
  · refine am_goQ 14 (s1 := (116, [.ref 1, .ref 15, .int (nI d), .int (nI (v d))], [.int ((((nI 1000 * (nI d / nI 2)) + (nI 100 * (nI d - nI d / nI 2 * nI 2))) + nI (v d)))], M)) (s2 := (116, [.ref 1, .ref 15, .int (nI d), .int (nI (v d))], [.int (nI (((1000 * (d / 2)) + (100 * (d % 2))) + (v d)))], M)) rfl (by rw [pk_rem (a := d) (d := 2) (by omega) (by omega) (by omega)]; simp only [pk_div (a := d) (d := 2) (by omega) (by omega) (by omega), pk_mul, nI_add]) ?_
    exact am_ends (nI (((1000 * (d / 2)) + (100 * (d % 2))) + (v d))) _ rfl (by simp [*]) rfl

set_option maxHeartbeats 4000000 in
theorem s_onlyStepTo_loop_1 {M : am_Mem} {a f hr hs lt : Nat} {k h v : Nat → Nat} (hS : sp_S 1 M a f hr hs lt k h) (hO : sp_ok a f hr lt k h) (hR : ∀ q, q < 8 → M 15 q = nI (v q)) (hv : ∀ q, v q < 4000) : ∀ (n p : Nat) (m : Int32), n + p = 2 * a + 1 → p ≤ 2 * a → ((sp_dc v h p = 0 ∧ m = -nI 9) ∨ (sp_dc v h p = 1 ∧ m = nI (sp_dl v h p))) → am_go 29 (5, [.ref 1, .ref 15, .int m, .int (nI p)], [], M) (am_is (sp_os a f k h v) M) := by
  obtain ⟨hF, hA, hHr, hHs, hLt, hK, hH⟩ := id hS
  obtain ⟨oA, oF, oHr, oLt, oK, oH⟩ := id hO
  intro n
  induction n with
  | zero => intro p m h1 h2; omega
  | succ n ih =>
    intro p m h1 h2 hm
    have hvp := hv p
    have ohp := oH p
    rcases hm with ⟨hc, rfl⟩ | ⟨hc, rfl⟩
    · refine am_goQ 5 (s1 := (12, [.ref 1, .ref 15, .int ((-nI 9)), .int (nI p)], [.int ((nI 2 * (M 1 1))), .int (nI p)], M)) (s2 := (12, [.ref 1, .ref 15, .int ((-nI 9)), .int (nI p)], [.int (nI (2 * a)), .int (nI p)], M)) rfl (by simp only [hA, pk_mul]) ?_
      refine am_bLE ((2 * a)) (p) (s1 := (59, [.ref 1, .ref 15, .int ((-nI 9)), .int (nI p)], [], M)) (s2 := (15, [.ref 1, .ref 15, .int ((-nI 9)), .int (nI p)], [], M)) rfl (by omega) (by omega) (fun c1 => ?_) (fun c1 => ?_)
      · refine am_goR 3 (s2 := (71, [.ref 1, .ref 15, .int ((-nI 9)), .int (nI p)], [.int ((-nI 9))], M)) rfl ?_
        have ep : p = 2 * a := by omega
        subst ep
        exact am_ends (-nI 9) _ rfl (sp_os_n (by omega)).symm rfl
      · refine am_goR 4 (s2 := (21, [.ref 1, .ref 15, .int ((-nI 9)), .int (nI p)], [.int (nI 8), .int (nI p)], M)) rfl ?_
        refine am_bLE (8) (p) (s1 := (59, [.ref 1, .ref 15, .int ((-nI 9)), .int (nI p)], [], M)) (s2 := (24, [.ref 1, .ref 15, .int ((-nI 9)), .int (nI p)], [], M)) rfl (by omega) (by omega) (fun c2 => absurd c2 (by omega)) (fun c2 => ?_)
        refine am_goR 3 (s2 := (27, [.ref 1, .ref 15, .int ((-nI 9)), .int (nI p)], [.int (nI 16), .int (nI p)], M)) rfl ?_
        refine am_bLE (16) (p) (s1 := (59, [.ref 1, .ref 15, .int ((-nI 9)), .int (nI p)], [], M)) (s2 := (30, [.ref 1, .ref 15, .int ((-nI 9)), .int (nI p)], [], M)) rfl (by omega) (by omega) (fun c3 => absurd c3 (by omega)) (fun c3 => ?_)
        refine am_goR 3 (s2 := (35, [.ref 1, .ref 15, .int ((-nI 9)), .int (nI p)], [.int (nI p), .ref 3], M)) rfl ?_
        refine am_goL2 (pc := 36) (ls := [.ref 1, .ref 15, .int ((-nI 9)), .int (nI p)]) (r := []) (M := M) (a := 3) (n := 8) (p) (nI (h p)) rfl rfl (by omega) (by decide) (hH _ (by omega)) ?_
        refine am_goR 2 (s2 := (38, [.ref 1, .ref 15, .int ((-nI 9)), .int (nI p)], [.int (nI p), .ref 15, .int (nI (h p))], M)) rfl ?_
        refine am_goL2 (pc := 39) (ls := [.ref 1, .ref 15, .int ((-nI 9)), .int (nI p)]) (r := [.int (nI (h p))]) (M := M) (a := 15) (n := 16) (p) (nI (v p)) rfl rfl (by omega) (by decide) (hR _ (by omega)) ?_
        refine am_bEQ ((h p)) ((v p)) (s1 := (53, [.ref 1, .ref 15, .int ((-nI 9)), .int (nI p)], [], M)) (s2 := (42, [.ref 1, .ref 15, .int ((-nI 9)), .int (nI p)], [], M)) rfl (by omega) (by omega) (fun c4 => ?_) (fun c4 => ?_)
        · refine am_goQ 2 (s1 := (5, [.ref 1, .ref 15, .int ((-nI 9)), .int ((nI p + nI 1))], [], M)) (s2 := (5, [.ref 1, .ref 15, .int ((-nI 9)), .int (nI (p + 1))], [], M)) rfl (by simp only [nI_add]) ?_
          have e0 : v p = h p := by have := hv p; omega
          exact ih (p + 1) _ (by omega) (by omega) (Or.inl ⟨by rw [sp_dc_e e0]; exact hc, rfl⟩)
        · refine am_goQ 7 (s1 := (5, [.ref 1, .ref 15, .int (nI p), .int ((nI p + nI 1))], [], M)) (s2 := (5, [.ref 1, .ref 15, .int (nI p), .int (nI (p + 1))], [], M)) rfl (by simp only [nI_add]) ?_
          have e0 : ¬ v p = h p := by omega
          exact ih (p + 1) _ (by omega) (by omega) (Or.inr ⟨by rw [sp_dc_n e0, hc], by rw [sp_dl_n e0]⟩)
    · have hdl := (sp_dl_lt p (by omega : ¬ sp_dc v h p = 0)).1
      refine am_goQ 5 (s1 := (12, [.ref 1, .ref 15, .int (nI (sp_dl v h p)), .int (nI p)], [.int ((nI 2 * (M 1 1))), .int (nI p)], M)) (s2 := (12, [.ref 1, .ref 15, .int (nI (sp_dl v h p)), .int (nI p)], [.int (nI (2 * a)), .int (nI p)], M)) rfl (by simp only [hA, pk_mul]) ?_
      refine am_bLE ((2 * a)) (p) (s1 := (59, [.ref 1, .ref 15, .int (nI (sp_dl v h p)), .int (nI p)], [], M)) (s2 := (15, [.ref 1, .ref 15, .int (nI (sp_dl v h p)), .int (nI p)], [], M)) rfl (by omega) (by omega) (fun c1 => ?_) (fun c1 => ?_)
      · have ep : p = 2 * a := by omega
        subst ep
        rw [sp_os_1 oF hc rfl]
        exact s_onlyEnd_1 hS hO hR hv (sp_dl_lt (2 * a) (by omega)).1
      · refine am_goR 4 (s2 := (21, [.ref 1, .ref 15, .int (nI (sp_dl v h p)), .int (nI p)], [.int (nI 8), .int (nI p)], M)) rfl ?_
        refine am_bLE (8) (p) (s1 := (59, [.ref 1, .ref 15, .int (nI (sp_dl v h p)), .int (nI p)], [], M)) (s2 := (24, [.ref 1, .ref 15, .int (nI (sp_dl v h p)), .int (nI p)], [], M)) rfl (by omega) (by omega) (fun c2 => absurd c2 (by omega)) (fun c2 => ?_)
        refine am_goR 3 (s2 := (27, [.ref 1, .ref 15, .int (nI (sp_dl v h p)), .int (nI p)], [.int (nI 16), .int (nI p)], M)) rfl ?_
        refine am_bLE (16) (p) (s1 := (59, [.ref 1, .ref 15, .int (nI (sp_dl v h p)), .int (nI p)], [], M)) (s2 := (30, [.ref 1, .ref 15, .int (nI (sp_dl v h p)), .int (nI p)], [], M)) rfl (by omega) (by omega) (fun c3 => absurd c3 (by omega)) (fun c3 => ?_)
        refine am_goR 3 (s2 := (35, [.ref 1, .ref 15, .int (nI (sp_dl v h p)), .int (nI p)], [.int (nI p), .ref 3], M)) rfl ?_
        refine am_goL2 (pc := 36) (ls := [.ref 1, .ref 15, .int (nI (sp_dl v h p)), .int (nI p)]) (r := []) (M := M) (a := 3) (n := 8) (p) (nI (h p)) rfl rfl (by omega) (by decide) (hH _ (by omega)) ?_
        refine am_goR 2 (s2 := (38, [.ref 1, .ref 15, .int (nI (sp_dl v h p)), .int (nI p)], [.int (nI p), .ref 15, .int (nI (h p))], M)) rfl ?_
        refine am_goL2 (pc := 39) (ls := [.ref 1, .ref 15, .int (nI (sp_dl v h p)), .int (nI p)]) (r := [.int (nI (h p))]) (M := M) (a := 15) (n := 16) (p) (nI (v p)) rfl rfl (by omega) (by decide) (hR _ (by omega)) ?_
        refine am_bEQ ((h p)) ((v p)) (s1 := (53, [.ref 1, .ref 15, .int (nI (sp_dl v h p)), .int (nI p)], [], M)) (s2 := (42, [.ref 1, .ref 15, .int (nI (sp_dl v h p)), .int (nI p)], [], M)) rfl (by omega) (by omega) (fun c4 => ?_) (fun c4 => ?_)
        · refine am_goQ 2 (s1 := (5, [.ref 1, .ref 15, .int (nI (sp_dl v h p)), .int ((nI p + nI 1))], [], M)) (s2 := (5, [.ref 1, .ref 15, .int (nI (sp_dl v h p)), .int (nI (p + 1))], [], M)) rfl (by simp only [nI_add]) ?_
          have e0 : v p = h p := by omega
          exact ih (p + 1) _ (by omega) (by omega) (Or.inr ⟨by rw [sp_dc_e e0]; exact hc, by rw [sp_dl_e e0]⟩)
        · refine am_goR 2 (s2 := (45, [.ref 1, .ref 15, .int (nI (sp_dl v h p)), .int (nI p)], [.int ((-nI 9)), .int (nI (sp_dl v h p))], M)) rfl ?_
          refine am_bF (s1 := (51, [.ref 1, .ref 15, .int (nI (sp_dl v h p)), .int (nI p)], [], M)) (s2 := (48, [.ref 1, .ref 15, .int (nI (sp_dl v h p)), .int (nI p)], [], M)) rfl (am_nm_ne (x := (sp_dl v h p)) (m := 9) (by omega) (by decide) (by decide)) ?_
          refine am_goR 1 (s2 := (50, [.ref 1, .ref 15, .int (nI (sp_dl v h p)), .int (nI p)], [.int ((-nI 9))], M)) rfl ?_
          have e0 : ¬ v p = h p := by omega
          have e1 := sp_dc_n e0
          have e2 := sp_dc_mono (v := v) (h := h) (n := p + 1) (2 * a) (by omega)
          exact am_ends (-nI 9) _ rfl (sp_os_n (by omega)).symm rfl
theorem s_onlyStepTo_1 {M : am_Mem} {a f hr hs lt : Nat} {k h v : Nat → Nat} (hS : sp_S 1 M a f hr hs lt k h) (hO : sp_ok a f hr lt k h) (hR : ∀ q, q < 8 → M 15 q = nI (v q)) (hv : ∀ q, v q < 4000) : am_go 29 (am_ent 29 [.ref 1, .ref 15] M) (am_is (sp_os a f k h v) M) := by
  refine am_goR 4 (s2 := (5, [.ref 1, .ref 15, .int (-nI 9), .int (nI 0)], [], M)) rfl ?_
  exact s_onlyStepTo_loop_1 hS hO hR hv (2 * a + 1) 0 _ (by omega) (by omega) (Or.inl ⟨rfl, rfl⟩)

set_option maxHeartbeats 4000000 in
theorem s_onlyEnd_4 {M : am_Mem} {a f hr hs lt : Nat} {k h v : Nat → Nat} (hS : sp_S 4 M a f hr hs lt k h) (hO : sp_ok a f hr lt k h) (hR : ∀ q, q < 8 → M 3 q = nI (v q)) (hv : ∀ q, v q < 4000) {d : Nat} (hd : d < 2 * a) {w : Value} : am_go 29 (59, [.ref 4, .ref 3, .int (nI d), w], [], M) (am_is (if (sp_bs (fun q => sp_cn a f k h (d / 2) (d % 2) 9 q) 12).testBit (v d) = true then nI (1000 * (d / 2) + 100 * (d % 2) + v d) else -nI 9) M) := by
  obtain ⟨hF, hA, hHr, hHs, hLt, hK, hH⟩ := id hS
  obtain ⟨oA, oF, oHr, oLt, oK, oH⟩ := id hO
  have hb12 := sp_bs_lt (fun q => sp_cn a f k h (d / 2) (d % 2) 9 q) 12
  have hvd := hv d
  refine am_goR 1 (s2 := (60, [.ref 4, .ref 3, .int (nI d), w], [.int (nI d)], M)) rfl ?_
  refine am_bLT (d) (0) (s1 := (69, [.ref 4, .ref 3, .int (nI d), w], [], M)) (s2 := (63, [.ref 4, .ref 3, .int (nI d), w], [], M)) rfl (by omega) (by omega) (fun c1 => absurd c1 (by omega)) (fun c1 => ?_)
  refine am_goR 3 (s2 := (66, [.ref 4, .ref 3, .int (nI d), w], [.int (nI 8), .int (nI d)], M)) rfl ?_
  refine am_bLT (d) (8) (s1 := (72, [.ref 4, .ref 3, .int (nI d), w], [], M)) (s2 := (69, [.ref 4, .ref 3, .int (nI d), w], [], M)) rfl (by omega) (by omega) (fun c2 => ?_) (fun c2 => absurd c2 (by omega))
  refine am_goR 2 (s2 := (74, [.ref 4, .ref 3, .int (nI d), w], [.int (nI d), .ref 3], M)) rfl ?_
  refine am_goL2 (pc := 75) (ls := [.ref 4, .ref 3, .int (nI d), w]) (r := []) (M := M) (a := 3) (n := 8) (d) (nI (v d)) rfl rfl (by omega) (by decide) (hR _ (by omega)) ?_
  refine am_goQ 9 (s1 := (85, [.ref 4, .ref 3, .int (nI d), .int (nI (v d))], [.int ((-nI 9)), .int ((nI d - nI d / nI 2 * nI 2)), .int ((nI d / nI 2)), .ref 4], M)) (s2 := (85, [.ref 4, .ref 3, .int (nI d), .int (nI (v d))], [.int ((-nI 9)), .int (nI (d % 2)), .int (nI (d / 2)), .ref 4], M)) rfl (by rw [pk_rem (a := d) (d := 2) (by omega) (by omega) (by omega)]; simp only [pk_div (a := d) (d := 2) (by omega) (by omega) (by omega)]) ?_
  refine am_goX (v := nI (sp_bs (fun q => sp_cn a f k h (d / 2) (d % 2) 9 q) 12)) (M2 := M) (s2 := (88, [.ref 4, .ref 3, .int (nI d), .int (nI (v d))], [], M)) rfl (s_openTon_4 hS hO (i := (d / 2)) (b := (d % 2)) (by omega) (by omega)) ?_
  refine am_goR 1 (s2 := (89, [.ref 4, .ref 3, .int (nI d), .int (nI (v d))], [.int (nI (v d)), .int (nI (sp_bs (fun q => sp_cn a f k h (d / 2) (d % 2) 9 q) 12))], M)) rfl ?_
  refine am_goX (v := am_b ((sp_bs (fun q => sp_cn a f k h (d / 2) (d % 2) 9 q) 12).testBit (v d))) (M2 := M) (s2 := (92, [.ref 4, .ref 3, .int (nI d), .int (nI (v d))], [], M)) rfl (s_hasBitS (x := (sp_bs (fun q => sp_cn a f k h (d / 2) (d % 2) 9 q) 12)) (j := (v d)) (by omega) (by omega)) ?_
  refine am_bB0 ((sp_bs (fun q => sp_cn a f k h (d / 2) (d % 2) 9 q) 12).testBit (v d)) (s1 := (114, [.ref 4, .ref 3, .int (nI d), .int (nI (v d))], [], M)) (s2 := (95, [.ref 4, .ref 3, .int (nI d), .int (nI (v d))], [], M)) rfl (fun c3 => ?_) (fun c3 => ?_)
  · refine am_goR 1 (s2 := (116, [.ref 4, .ref 3, .int (nI d), .int (nI (v d))], [.int ((-nI 9))], M)) rfl ?_
    exact am_ends ((-nI 9)) _ rfl (by simp [*]) rfl
  · refine am_goQ 14 (s1 := (116, [.ref 4, .ref 3, .int (nI d), .int (nI (v d))], [.int ((((nI 1000 * (nI d / nI 2)) + (nI 100 * (nI d - nI d / nI 2 * nI 2))) + nI (v d)))], M)) (s2 := (116, [.ref 4, .ref 3, .int (nI d), .int (nI (v d))], [.int (nI (((1000 * (d / 2)) + (100 * (d % 2))) + (v d)))], M)) rfl (by rw [pk_rem (a := d) (d := 2) (by omega) (by omega) (by omega)]; simp only [pk_div (a := d) (d := 2) (by omega) (by omega) (by omega), pk_mul, nI_add]) ?_
    exact am_ends (nI (((1000 * (d / 2)) + (100 * (d % 2))) + (v d))) _ rfl (by simp [*]) rfl

set_option maxHeartbeats 4000000 in
theorem s_onlyStepTo_loop_4 {M : am_Mem} {a f hr hs lt : Nat} {k h v : Nat → Nat} (hS : sp_S 4 M a f hr hs lt k h) (hO : sp_ok a f hr lt k h) (hR : ∀ q, q < 8 → M 3 q = nI (v q)) (hv : ∀ q, v q < 4000) : ∀ (n p : Nat) (m : Int32), n + p = 2 * a + 1 → p ≤ 2 * a → ((sp_dc v h p = 0 ∧ m = -nI 9) ∨ (sp_dc v h p = 1 ∧ m = nI (sp_dl v h p))) → am_go 29 (5, [.ref 4, .ref 3, .int m, .int (nI p)], [], M) (am_is (sp_os a f k h v) M) := by
  obtain ⟨hF, hA, hHr, hHs, hLt, hK, hH⟩ := id hS
  obtain ⟨oA, oF, oHr, oLt, oK, oH⟩ := id hO
  intro n
  induction n with
  | zero => intro p m h1 h2; omega
  | succ n ih =>
    intro p m h1 h2 hm
    have hvp := hv p
    have ohp := oH p
    rcases hm with ⟨hc, rfl⟩ | ⟨hc, rfl⟩
    · refine am_goQ 5 (s1 := (12, [.ref 4, .ref 3, .int ((-nI 9)), .int (nI p)], [.int ((nI 2 * (M 4 1))), .int (nI p)], M)) (s2 := (12, [.ref 4, .ref 3, .int ((-nI 9)), .int (nI p)], [.int (nI (2 * a)), .int (nI p)], M)) rfl (by simp only [hA, pk_mul]) ?_
      refine am_bLE ((2 * a)) (p) (s1 := (59, [.ref 4, .ref 3, .int ((-nI 9)), .int (nI p)], [], M)) (s2 := (15, [.ref 4, .ref 3, .int ((-nI 9)), .int (nI p)], [], M)) rfl (by omega) (by omega) (fun c1 => ?_) (fun c1 => ?_)
      · refine am_goR 3 (s2 := (71, [.ref 4, .ref 3, .int ((-nI 9)), .int (nI p)], [.int ((-nI 9))], M)) rfl ?_
        have ep : p = 2 * a := by omega
        subst ep
        exact am_ends (-nI 9) _ rfl (sp_os_n (by omega)).symm rfl
      · refine am_goR 4 (s2 := (21, [.ref 4, .ref 3, .int ((-nI 9)), .int (nI p)], [.int (nI 8), .int (nI p)], M)) rfl ?_
        refine am_bLE (8) (p) (s1 := (59, [.ref 4, .ref 3, .int ((-nI 9)), .int (nI p)], [], M)) (s2 := (24, [.ref 4, .ref 3, .int ((-nI 9)), .int (nI p)], [], M)) rfl (by omega) (by omega) (fun c2 => absurd c2 (by omega)) (fun c2 => ?_)
        refine am_goR 3 (s2 := (27, [.ref 4, .ref 3, .int ((-nI 9)), .int (nI p)], [.int (nI 8), .int (nI p)], M)) rfl ?_
        refine am_bLE (8) (p) (s1 := (59, [.ref 4, .ref 3, .int ((-nI 9)), .int (nI p)], [], M)) (s2 := (30, [.ref 4, .ref 3, .int ((-nI 9)), .int (nI p)], [], M)) rfl (by omega) (by omega) (fun c3 => absurd c3 (by omega)) (fun c3 => ?_)
        refine am_goR 3 (s2 := (35, [.ref 4, .ref 3, .int ((-nI 9)), .int (nI p)], [.int (nI p), .ref 6], M)) rfl ?_
        refine am_goL2 (pc := 36) (ls := [.ref 4, .ref 3, .int ((-nI 9)), .int (nI p)]) (r := []) (M := M) (a := 6) (n := 8) (p) (nI (h p)) rfl rfl (by omega) (by decide) (hH _ (by omega)) ?_
        refine am_goR 2 (s2 := (38, [.ref 4, .ref 3, .int ((-nI 9)), .int (nI p)], [.int (nI p), .ref 3, .int (nI (h p))], M)) rfl ?_
        refine am_goL2 (pc := 39) (ls := [.ref 4, .ref 3, .int ((-nI 9)), .int (nI p)]) (r := [.int (nI (h p))]) (M := M) (a := 3) (n := 8) (p) (nI (v p)) rfl rfl (by omega) (by decide) (hR _ (by omega)) ?_
        refine am_bEQ ((h p)) ((v p)) (s1 := (53, [.ref 4, .ref 3, .int ((-nI 9)), .int (nI p)], [], M)) (s2 := (42, [.ref 4, .ref 3, .int ((-nI 9)), .int (nI p)], [], M)) rfl (by omega) (by omega) (fun c4 => ?_) (fun c4 => ?_)
        · refine am_goQ 2 (s1 := (5, [.ref 4, .ref 3, .int ((-nI 9)), .int ((nI p + nI 1))], [], M)) (s2 := (5, [.ref 4, .ref 3, .int ((-nI 9)), .int (nI (p + 1))], [], M)) rfl (by simp only [nI_add]) ?_
          have e0 : v p = h p := by have := hv p; omega
          exact ih (p + 1) _ (by omega) (by omega) (Or.inl ⟨by rw [sp_dc_e e0]; exact hc, rfl⟩)
        · refine am_goQ 7 (s1 := (5, [.ref 4, .ref 3, .int (nI p), .int ((nI p + nI 1))], [], M)) (s2 := (5, [.ref 4, .ref 3, .int (nI p), .int (nI (p + 1))], [], M)) rfl (by simp only [nI_add]) ?_
          have e0 : ¬ v p = h p := by omega
          exact ih (p + 1) _ (by omega) (by omega) (Or.inr ⟨by rw [sp_dc_n e0, hc], by rw [sp_dl_n e0]⟩)
    · have hdl := (sp_dl_lt p (by omega : ¬ sp_dc v h p = 0)).1
      refine am_goQ 5 (s1 := (12, [.ref 4, .ref 3, .int (nI (sp_dl v h p)), .int (nI p)], [.int ((nI 2 * (M 4 1))), .int (nI p)], M)) (s2 := (12, [.ref 4, .ref 3, .int (nI (sp_dl v h p)), .int (nI p)], [.int (nI (2 * a)), .int (nI p)], M)) rfl (by simp only [hA, pk_mul]) ?_
      refine am_bLE ((2 * a)) (p) (s1 := (59, [.ref 4, .ref 3, .int (nI (sp_dl v h p)), .int (nI p)], [], M)) (s2 := (15, [.ref 4, .ref 3, .int (nI (sp_dl v h p)), .int (nI p)], [], M)) rfl (by omega) (by omega) (fun c1 => ?_) (fun c1 => ?_)
      · have ep : p = 2 * a := by omega
        subst ep
        rw [sp_os_1 oF hc rfl]
        exact s_onlyEnd_4 hS hO hR hv (sp_dl_lt (2 * a) (by omega)).1
      · refine am_goR 4 (s2 := (21, [.ref 4, .ref 3, .int (nI (sp_dl v h p)), .int (nI p)], [.int (nI 8), .int (nI p)], M)) rfl ?_
        refine am_bLE (8) (p) (s1 := (59, [.ref 4, .ref 3, .int (nI (sp_dl v h p)), .int (nI p)], [], M)) (s2 := (24, [.ref 4, .ref 3, .int (nI (sp_dl v h p)), .int (nI p)], [], M)) rfl (by omega) (by omega) (fun c2 => absurd c2 (by omega)) (fun c2 => ?_)
        refine am_goR 3 (s2 := (27, [.ref 4, .ref 3, .int (nI (sp_dl v h p)), .int (nI p)], [.int (nI 8), .int (nI p)], M)) rfl ?_
        refine am_bLE (8) (p) (s1 := (59, [.ref 4, .ref 3, .int (nI (sp_dl v h p)), .int (nI p)], [], M)) (s2 := (30, [.ref 4, .ref 3, .int (nI (sp_dl v h p)), .int (nI p)], [], M)) rfl (by omega) (by omega) (fun c3 => absurd c3 (by omega)) (fun c3 => ?_)
        refine am_goR 3 (s2 := (35, [.ref 4, .ref 3, .int (nI (sp_dl v h p)), .int (nI p)], [.int (nI p), .ref 6], M)) rfl ?_
        refine am_goL2 (pc := 36) (ls := [.ref 4, .ref 3, .int (nI (sp_dl v h p)), .int (nI p)]) (r := []) (M := M) (a := 6) (n := 8) (p) (nI (h p)) rfl rfl (by omega) (by decide) (hH _ (by omega)) ?_
        refine am_goR 2 (s2 := (38, [.ref 4, .ref 3, .int (nI (sp_dl v h p)), .int (nI p)], [.int (nI p), .ref 3, .int (nI (h p))], M)) rfl ?_
        refine am_goL2 (pc := 39) (ls := [.ref 4, .ref 3, .int (nI (sp_dl v h p)), .int (nI p)]) (r := [.int (nI (h p))]) (M := M) (a := 3) (n := 8) (p) (nI (v p)) rfl rfl (by omega) (by decide) (hR _ (by omega)) ?_
        refine am_bEQ ((h p)) ((v p)) (s1 := (53, [.ref 4, .ref 3, .int (nI (sp_dl v h p)), .int (nI p)], [], M)) (s2 := (42, [.ref 4, .ref 3, .int (nI (sp_dl v h p)), .int (nI p)], [], M)) rfl (by omega) (by omega) (fun c4 => ?_) (fun c4 => ?_)
        · refine am_goQ 2 (s1 := (5, [.ref 4, .ref 3, .int (nI (sp_dl v h p)), .int ((nI p + nI 1))], [], M)) (s2 := (5, [.ref 4, .ref 3, .int (nI (sp_dl v h p)), .int (nI (p + 1))], [], M)) rfl (by simp only [nI_add]) ?_
          have e0 : v p = h p := by omega
          exact ih (p + 1) _ (by omega) (by omega) (Or.inr ⟨by rw [sp_dc_e e0]; exact hc, by rw [sp_dl_e e0]⟩)
        · refine am_goR 2 (s2 := (45, [.ref 4, .ref 3, .int (nI (sp_dl v h p)), .int (nI p)], [.int ((-nI 9)), .int (nI (sp_dl v h p))], M)) rfl ?_
          refine am_bF (s1 := (51, [.ref 4, .ref 3, .int (nI (sp_dl v h p)), .int (nI p)], [], M)) (s2 := (48, [.ref 4, .ref 3, .int (nI (sp_dl v h p)), .int (nI p)], [], M)) rfl (am_nm_ne (x := (sp_dl v h p)) (m := 9) (by omega) (by decide) (by decide)) ?_
          refine am_goR 1 (s2 := (50, [.ref 4, .ref 3, .int (nI (sp_dl v h p)), .int (nI p)], [.int ((-nI 9))], M)) rfl ?_
          have e0 : ¬ v p = h p := by omega
          have e1 := sp_dc_n e0
          have e2 := sp_dc_mono (v := v) (h := h) (n := p + 1) (2 * a) (by omega)
          exact am_ends (-nI 9) _ rfl (sp_os_n (by omega)).symm rfl
theorem s_onlyStepTo_4 {M : am_Mem} {a f hr hs lt : Nat} {k h v : Nat → Nat} (hS : sp_S 4 M a f hr hs lt k h) (hO : sp_ok a f hr lt k h) (hR : ∀ q, q < 8 → M 3 q = nI (v q)) (hv : ∀ q, v q < 4000) : am_go 29 (am_ent 29 [.ref 4, .ref 3] M) (am_is (sp_os a f k h v) M) := by
  refine am_goR 4 (s2 := (5, [.ref 4, .ref 3, .int (-nI 9), .int (nI 0)], [], M)) rfl ?_
  exact s_onlyStepTo_loop_4 hS hO hR hv (2 * a + 1) 0 _ (by omega) (by omega) (Or.inl ⟨rfl, rfl⟩)

