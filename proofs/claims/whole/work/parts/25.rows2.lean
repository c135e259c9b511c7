/-! walks: rows of places: whether all could stand so -/
def sp_sA (f : Nat) (v : Nat → Nat) (n : Nat) : Prop := ∀ q, q < n → v q < 12 ∧ f.testBit (v q) = true ∧ ∀ i, i < q → ¬ v i = v q
def sp_sB (k v : Nat → Nat) (n : Nat) : Prop := ∀ i, i < n → sp_ds (v (2 * i + 1)) (v (2 * i)) ≤ sp_rc (k i)
def sp_cs (a f : Nat) (k v : Nat → Nat) : Bool := decide (∀ q, q < 2 * a → (v q < 12 ∧ f.testBit (v q) = true ∧ ∀ i, i < q → ¬ v i = v q)) && decide (∀ i, i < a → sp_ds (v (2 * i + 1)) (v (2 * i)) ≤ sp_rc (k i))
theorem sp_cs_iff {a f : Nat} {k v : Nat → Nat} : sp_cs a f k v = true ↔ sp_sA f v (2 * a) ∧ sp_sB k v a := by
  unfold sp_cs sp_sA sp_sB
  rw [Bool.and_eq_true, decide_eq_true_eq, decide_eq_true_eq]
theorem sp_cs_F {a f : Nat} {k v : Nat → Nat} (z : ¬ (sp_sA f v (2 * a) ∧ sp_sB k v a)) : sp_cs a f k v = false := by
  cases h : sp_cs a f k v
  · rfl
  · exact absurd (sp_cs_iff.mp h) z
/-- the first n put as told -/
def sp_pt (v h : Nat → Nat) (n q : Nat) : Nat := if q < n then v q else h q
theorem sp_ok.pt {a f hr lt : Nat} {k h v : Nat → Nat} {n : Nat} (hO : sp_ok a f hr lt k h) (hA : sp_sA f v n) : sp_ok a f hr lt k (sp_pt v h n) := ⟨hO.1, hO.2.1, hO.2.2.1, hO.2.2.2.1, hO.2.2.2.2.1, fun q => by
  unfold sp_pt
  split
  · next e => exact (hA q e).1
  · exact hO.2.2.2.2.2 q⟩
theorem sp_hb_lt2 {h : Nat → Nat} (aw n : Nat) (hh : ∀ q, q < n → h q < 12) : sp_hb h aw n < 4096 := by
  apply Nat.lt_pow_two_of_testBit (n := 12)
  intro i hi
  cases hb : (sp_hb h aw n).testBit i with
  | false => rfl
  | true =>
    obtain ⟨q, h1, -, h3⟩ := (sp_hb_bit h aw n i).mp hb
    have := hh q h1
    omega
theorem sp_sA.s {f : Nat} {v : Nat → Nat} {n : Nat} (hA : sp_sA f v n) (h1 : v n < 12) (h2 : f.testBit (v n) = true) (h3 : ∀ i, i < n → ¬ v i = v n) : sp_sA f v (n + 1) := by
  intro q hq
  by_cases e : q = n
  · subst e; exact ⟨h1, h2, h3⟩
  · exact hA q (by omega)

set_option maxHeartbeats 4000000 in
theorem t_cs_in {M : am_Mem} {v : Nat → Nat} {Q : Option Value → am_Mem → Prop} (hR : ∀ q, q < 8 → M 28 q = nI (v q)) (hv : ∀ q, v q < 4000) {p : Nat} (hp : p < 8) : ∀ (n j : Nat), n + j = p + 1 → j ≤ p → (∀ i, i < j → ¬ v i = v p) → ((∀ i, i < p → ¬ v i = v p) → am_go 150 (69, [.ref 17, .int (nI p), .int (nI p)], [], M) Q) → (∀ i, i < p → v i = v p → Q (some (.int (am_b false))) M) → am_go 150 (41, [.ref 17, .int (nI p), .int (nI j)], [], M) Q := by
  intro n
  induction n with
  | zero => intro j h1 h2; omega
  | succ n ih =>
    intro j h1 h2 hn k1 k2
    have hvp := hv p
    have hvj := hv j
    refine am_goR 2 (s2 := (43, [.ref 17, .int (nI p), .int (nI j)], [.int (nI p), .int (nI j)], M)) rfl ?_
    refine am_bLE (p) (j) (s1 := (69, [.ref 17, .int (nI p), .int (nI j)], [], M)) (s2 := (46, [.ref 17, .int (nI p), .int (nI j)], [], M)) rfl (by omega) (by omega) (fun c1 => ?_) (fun c1 => ?_)
    · have ep : j = p := by omega
      subst ep
      exact k1 hn
    · refine am_goR 3 (s2 := (51, [.ref 17, .int (nI p), .int (nI j)], [.int (nI j), .ref 28], M)) rfl ?_
      refine am_goL2 (pc := 52) (ls := [.ref 17, .int (nI p), .int (nI j)]) (r := []) (M := M) (a := 28) (n := 16) (j) (nI (v j)) rfl rfl (by omega) (by decide) (hR _ (by omega)) ?_
      refine am_goR 3 (s2 := (57, [.ref 17, .int (nI p), .int (nI j)], [.int (nI p), .ref 28, .int (nI (v j))], M)) rfl ?_
      refine am_goL2 (pc := 58) (ls := [.ref 17, .int (nI p), .int (nI j)]) (r := [.int (nI (v j))]) (M := M) (a := 28) (n := 16) (p) (nI (v p)) rfl rfl (by omega) (by decide) (hR _ (by omega)) ?_
      refine am_bNE ((v j)) ((v p)) (s1 := (63, [.ref 17, .int (nI p), .int (nI j)], [], M)) (s2 := (61, [.ref 17, .int (nI p), .int (nI j)], [], M)) rfl (by omega) (by omega) (fun c2 => ?_) (fun c2 => ?_)
      · refine am_goQ 2 (s1 := (41, [.ref 17, .int (nI p), .int ((nI j + nI 1))], [], M)) (s2 := (41, [.ref 17, .int (nI p), .int (nI (j + 1))], [], M)) rfl (by simp only [nI_add]) ?_
        exact ih (j + 1) (by omega) (by omega) (fun i hi => by
        by_cases e : i = j
        · subst e; assumption
        · exact hn i (by omega)) k1 k2
      · refine am_goR 1 (s2 := (62, [.ref 17, .int (nI p), .int (nI j)], [.int (nI 0)], M)) rfl ?_
        exact am_goZ false rfl (k2 j (by omega) (by assumption))
set_option maxHeartbeats 4000000 in
theorem t_couldStand_loop {M : am_Mem} {a f hr hs lt : Nat} {k h v : Nat → Nat} (hS : sp_M M a f hr hs lt k h) (hO : sp_ok a f hr lt k h) (hR : ∀ q, q < 8 → M 28 q = nI (v q)) (hv : ∀ q, v q < 4000) : ∀ (n p : Nat) {w : Value}, n + p = 2 * a + 1 → p ≤ 2 * a → sp_sA f v p → sp_sB k v (p / 2) → am_go 150 (2, [.ref 17, .int (nI p), w], [], M) (am_is (am_b (sp_cs a f k v)) M) := by
  intro n
  induction n with
  | zero => intro p w h1 h2; omega
  | succ n ih =>
    intro p w h1 h2 hA2 hB2
    obtain ⟨hF, hA, hHr, hHs, hLt, hK, hH⟩ := id hS
    obtain ⟨oA, oF, oHr, oLt, oK, oH⟩ := id hO
    have hvp := hv p
    have hvp1 := hv (p - 1)
    have okp := oK (p / 2)
    have rcp := sp_rc_lt (k (p / 2))
    have dsp : sp_ds (v p) (v (p - 1)) < 8000 := by unfold sp_ds; omega
    refine am_goQ 5 (s1 := (9, [.ref 17, .int (nI p), w], [.int ((nI 2 * (M 17 3))), .int (nI p)], M)) (s2 := (9, [.ref 17, .int (nI p), w], [.int (nI (2 * a)), .int (nI p)], M)) rfl (by simp only [hA, pk_mul]) ?_
    refine am_bLE ((2 * a)) (p) (s1 := (115, [.ref 17, .int (nI p), w], [], M)) (s2 := (12, [.ref 17, .int (nI p), w], [], M)) rfl (by omega) (by omega) (fun c1 => ?_) (fun c1 => ?_)
    · refine am_goR 1 (s2 := (116, [.ref 17, .int (nI p), w], [.int (nI 1)], M)) rfl ?_
      have ep : p = 2 * a := by omega
      subst ep
      exact am_endz true _ rfl (sp_cs_iff.mpr ⟨hA2, by rw [show 2 * a / 2 = a by omega] at hB2; exact hB2⟩).symm rfl
    · refine am_goR 3 (s2 := (17, [.ref 17, .int (nI p), w], [.int (nI p), .ref 28], M)) rfl ?_
      refine am_goL2 (pc := 18) (ls := [.ref 17, .int (nI p), w]) (r := []) (M := M) (a := 28) (n := 16) (p) (nI (v p)) rfl rfl (by omega) (by decide) (hR _ (by omega)) ?_
      refine am_goX (v := am_b (decide ((v p) < 12))) (M2 := M) (s2 := (21, [.ref 17, .int (nI p), w], [], M)) rfl (t_isJointN (j := (v p)) (by omega)) ?_
      refine am_bB0 (decide ((v p) < 12)) (s1 := (37, [.ref 17, .int (nI p), w], [], M)) (s2 := (24, [.ref 17, .int (nI p), w], [], M)) rfl (fun c2 => ?_) (fun c2 => ?_)
      · have c2d := of_decide_eq_false c2
        refine am_goR 1 (s2 := (38, [.ref 17, .int (nI p), w], [.int (nI 0)], M)) rfl ?_
        exact am_endz false _ rfl (sp_cs_F (fun z => by
              have z1 := z.1 p (by omega)
              first
                | exact absurd z1.1 (by omega)
                | (have z3 := z1.2.1
                   rw [show f.testBit (v p) = false by assumption] at z3
                   cases z3)
                | (have z2 := z.2 (p / 2) (by omega)
                   rw [show 2 * (p / 2) + 1 = p by omega, show 2 * (p / 2) = p - 1 by omega] at z2
                   omega))).symm rfl
      · have c2d := of_decide_eq_true c2
        refine am_goR 4 (s2 := (30, [.ref 17, .int (nI p), w], [.int (nI p), .ref 28, .ref 17], M)) rfl ?_
        refine am_goL2 (pc := 31) (ls := [.ref 17, .int (nI p), w]) (r := [.ref 17]) (M := M) (a := 28) (n := 16) (p) (nI (v p)) rfl rfl (by omega) (by decide) (hR _ (by omega)) ?_
        refine am_goX (v := am_b (f.testBit (v p))) (M2 := M) (s2 := (34, [.ref 17, .int (nI p), w], [], M)) rfl (t_isFixed hS hO (j := (v p)) (by omega)) ?_
        refine am_bB1 (f.testBit (v p)) (s1 := (39, [.ref 17, .int (nI p), w], [], M)) (s2 := (37, [.ref 17, .int (nI p), w], [], M)) rfl (fun c3 => ?_) (fun c3 => ?_)
        · refine am_goR 2 (s2 := (41, [.ref 17, .int (nI p), .int (nI 0)], [], M)) rfl ?_
          refine t_cs_in hR hv (by omega) (p + 1) 0 (by omega) (by omega) (fun i hi => absurd hi (Nat.not_lt_zero i)) (fun hne => ?_) (fun i hi e => ?_)
          · refine am_goQ 4 (s1 := (73, [.ref 17, .int (nI p), .int (nI p)], [.int (nI 1), .int ((nI p - nI p / nI 2 * nI 2))], M)) (s2 := (73, [.ref 17, .int (nI p), .int (nI p)], [.int (nI 1), .int (nI (p % 2))], M)) rfl (by rw [pk_rem (a := p) (d := 2) (by omega) (by omega) (by omega)]) ?_
            refine am_bNE ((p % 2)) (1) (s1 := (109, [.ref 17, .int (nI p), .int (nI p)], [], M)) (s2 := (76, [.ref 17, .int (nI p), .int (nI p)], [], M)) rfl (by omega) (by omega) (fun c4 => ?_) (fun c4 => ?_)
            · refine am_goQ 2 (s1 := (2, [.ref 17, .int ((nI p + nI 1)), .int (nI p)], [], M)) (s2 := (2, [.ref 17, .int (nI (p + 1)), .int (nI p)], [], M)) rfl (by simp only [nI_add]) ?_
              refine ih (p + 1) (by omega) (by omega) (sp_sA.s hA2 (by omega) (by assumption) hne) (fun i hi => ?_)
              by_cases e : i < p / 2
              · exact hB2 i e
              · first
                  | omega
                  | (have e2 : i = p / 2 := by omega
                     subst e2
                     rw [show 2 * (p / 2) + 1 = p by omega, show 2 * (p / 2) = p - 1 by omega]
                     assumption)
            · refine am_goR 3 (s2 := (81, [.ref 17, .int (nI p), .int (nI p)], [.int (nI p), .ref 28], M)) rfl ?_
              refine am_goL2 (pc := 82) (ls := [.ref 17, .int (nI p), .int (nI p)]) (r := []) (M := M) (a := 28) (n := 16) (p) (nI (v p)) rfl rfl (by omega) (by decide) (hR _ (by omega)) ?_
              refine am_goQ 5 (s1 := (89, [.ref 17, .int (nI p), .int (nI p)], [.int ((nI p - nI 1)), .ref 28, .int (nI (v p))], M)) (s2 := (89, [.ref 17, .int (nI p), .int (nI p)], [.int (nI (p - 1)), .ref 28, .int (nI (v p))], M)) rfl (by simp only [pk_sub (a := p) (b := 1) (by omega)]) ?_
              refine am_goL2 (pc := 90) (ls := [.ref 17, .int (nI p), .int (nI p)]) (r := [.int (nI (v p))]) (M := M) (a := 28) (n := 16) ((p - 1)) (nI (v (p - 1))) rfl rfl (by omega) (by decide) (hR _ (by omega)) ?_
              refine am_goX (v := nI (sp_ds (v p) (v (p - 1)))) (M2 := M) (s2 := (93, [.ref 17, .int (nI p), .int (nI p)], [], M)) rfl (t_apart (x := (v p)) (y := (v (p - 1))) (by omega) (by omega)) ?_
              refine am_goQ 5 (s1 := (100, [.ref 17, .int (nI p), .int (nI p)], [.int ((nI p / nI 2)), .ref 19, .int (nI (sp_ds (v p) (v (p - 1))))], M)) (s2 := (100, [.ref 17, .int (nI p), .int (nI p)], [.int (nI (p / 2)), .ref 19, .int (nI (sp_ds (v p) (v (p - 1))))], M)) rfl (by simp only [pk_div (a := p) (d := 2) (by omega) (by omega) (by omega)]) ?_
              refine am_goL2 (pc := 101) (ls := [.ref 17, .int (nI p), .int (nI p)]) (r := [.int (nI (sp_ds (v p) (v (p - 1))))]) (M := M) (a := 19) (n := 4) ((p / 2)) (nI (k (p / 2))) rfl rfl (by omega) (by decide) (hK _ (by omega)) ?_
              refine am_goX (v := nI (sp_rc (k (p / 2)))) (M2 := M) (s2 := (104, [.ref 17, .int (nI p), .int (nI p)], [.int (nI (sp_ds (v p) (v (p - 1))))], M)) rfl (t_reachOf (x := (k (p / 2))) (by omega)) ?_
              refine am_bLE ((sp_ds (v p) (v (p - 1)))) ((sp_rc (k (p / 2)))) (s1 := (109, [.ref 17, .int (nI p), .int (nI p)], [], M)) (s2 := (107, [.ref 17, .int (nI p), .int (nI p)], [], M)) rfl (by omega) (by omega) (fun c5 => ?_) (fun c5 => ?_)
              · refine am_goQ 2 (s1 := (2, [.ref 17, .int ((nI p + nI 1)), .int (nI p)], [], M)) (s2 := (2, [.ref 17, .int (nI (p + 1)), .int (nI p)], [], M)) rfl (by simp only [nI_add]) ?_
                refine ih (p + 1) (by omega) (by omega) (sp_sA.s hA2 (by omega) (by assumption) hne) (fun i hi => ?_)
                by_cases e : i < p / 2
                · exact hB2 i e
                · first
                    | omega
                    | (have e2 : i = p / 2 := by omega
                       subst e2
                       rw [show 2 * (p / 2) + 1 = p by omega, show 2 * (p / 2) = p - 1 by omega]
                       assumption)
              · refine am_goR 1 (s2 := (108, [.ref 17, .int (nI p), .int (nI p)], [.int (nI 0)], M)) rfl ?_
                exact am_endz false _ rfl (sp_cs_F (fun z => by
                      have z1 := z.1 p (by omega)
                      first
                        | exact absurd z1.1 (by omega)
                        | (have z3 := z1.2.1
                           rw [show f.testBit (v p) = false by assumption] at z3
                           cases z3)
                        | (have z2 := z.2 (p / 2) (by omega)
                           rw [show 2 * (p / 2) + 1 = p by omega, show 2 * (p / 2) = p - 1 by omega] at z2
                           omega))).symm rfl
          · exact ⟨_, rfl, by rw [sp_cs_F (fun z => (z.1 p (by omega)).2.2 i hi e)], rfl⟩
        · refine am_goR 1 (s2 := (38, [.ref 17, .int (nI p), w], [.int (nI 0)], M)) rfl ?_
          exact am_endz false _ rfl (sp_cs_F (fun z => by
                have z1 := z.1 p (by omega)
                first
                  | exact absurd z1.1 (by omega)
                  | (have z3 := z1.2.1
                     rw [show f.testBit (v p) = false by assumption] at z3
                     cases z3)
                  | (have z2 := z.2 (p / 2) (by omega)
                     rw [show 2 * (p / 2) + 1 = p by omega, show 2 * (p / 2) = p - 1 by omega] at z2
                     omega))).symm rfl
theorem t_couldStand {M : am_Mem} {a f hr hs lt : Nat} {k h v : Nat → Nat} (hS : sp_M M a f hr hs lt k h) (hO : sp_ok a f hr lt k h) (hR : ∀ q, q < 8 → M 28 q = nI (v q)) (hv : ∀ q, v q < 4000) : am_go 150 (am_ent 150 [.ref 17] M) (am_is (am_b (sp_cs a f k v)) M) := by
  refine am_goR 2 (s2 := (2, [.ref 17, .int (nI 0), .null], [], M)) rfl ?_
  exact t_couldStand_loop hS hO hR hv (2 * a + 1) 0 (by omega) (by omega) (fun q hq => absurd hq (Nat.not_lt_zero q)) (fun q hq => absurd hq (Nat.not_lt_zero q))

