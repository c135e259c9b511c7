/-! walks: the class puts its stand as told -/

set_option maxHeartbeats 4000000 in
theorem s_stB {M : am_Mem} {a f hr hs lt : Nat} {k h : Nat → Nat} (hS : sp_S 4 M a f hr hs lt k h) (hO : sp_ok a f hr lt k h) {x2 x4 : Value} : ∀ n p : Nat, n + p = a + 1 → p ≤ a → (∀ i, i < p → sp_ds (h (2 * i)) (h (2 * i + 1)) ≤ sp_rc (k i)) → am_go 30 (85, [.ref 4, .ref 15, x2, .int (nI p), x4], [], M) (am_is (am_b (decide (∀ i, i < a → sp_ds (h (2 * i)) (h (2 * i + 1)) ≤ sp_rc (k i)))) M) := by
  obtain ⟨hF, hA, hHr, hHs, hLt, hK, hH⟩ := id hS
  obtain ⟨oA, oF, oHr, oLt, oK, oH⟩ := id hO
  intro n
  induction n with
  | zero => intro p h1 h2; omega
  | succ n ih =>
    intro p h1 h2 hq
    have oh0 := oH (2 * p)
    have oh1 := oH (2 * p + 1)
    have orc := sp_rc_lt (k p)
    have hds : sp_ds (h (2 * p)) (h (2 * p + 1)) < 2000 := by unfold sp_ds; omega
    refine am_goQ 3 (s1 := (90, [.ref 4, .ref 15, x2, .int (nI p), x4], [.int ((M 4 1)), .int (nI p)], M)) (s2 := (90, [.ref 4, .ref 15, x2, .int (nI p), x4], [.int (nI a), .int (nI p)], M)) rfl (by simp only [hA]) ?_
    refine am_bLE (a) (p) (s1 := (125, [.ref 4, .ref 15, x2, .int (nI p), x4], [], M)) (s2 := (93, [.ref 4, .ref 15, x2, .int (nI p), x4], [], M)) rfl (by omega) (by omega) (fun c1 => ?_) (fun c1 => ?_)
    · refine am_goR 1 (s2 := (126, [.ref 4, .ref 15, x2, .int (nI p), x4], [.int (nI 1)], M)) rfl ?_
      have ep : p = a := by omega
      subst ep
      exact am_endz true _ rfl (decide_eq_true hq).symm rfl
    · refine am_goR 3 (s2 := (96, [.ref 4, .ref 15, x2, .int (nI p), x4], [.int (nI 0), .int (nI p), .ref 4], M)) rfl ?_
      refine am_goX (v := nI (h (2 * p))) (M2 := M) (s2 := (99, [.ref 4, .ref 15, x2, .int (nI p), x4], [], M)) rfl (s_handOn_4 hS hO (i := p) (b := 0) (by omega) (by omega)) ?_
      refine am_goR 3 (s2 := (102, [.ref 4, .ref 15, x2, .int (nI p), x4], [.int (nI 1), .int (nI p), .ref 4, .int (nI (h (2 * p)))], M)) rfl ?_
      refine am_goX (v := nI (h ((2 * p) + 1))) (M2 := M) (s2 := (105, [.ref 4, .ref 15, x2, .int (nI p), x4], [.int (nI (h (2 * p)))], M)) rfl (s_handOn_4 hS hO (i := p) (b := 1) (by omega) (by omega)) ?_
      refine am_goQ 4 (s1 := (111, [.ref 4, .ref 15, x2, .int (nI p), x4], [.int (nI p), .ref 4, .int ((am_abs ((nI (h (2 * p)) - nI (h ((2 * p) + 1))))))], M)) (s2 := (111, [.ref 4, .ref 15, x2, .int (nI p), x4], [.int (nI p), .ref 4, .int (nI (sp_ds (h (2 * p)) (h ((2 * p) + 1))))], M)) rfl (by simp only [am_absd (x := (h (2 * p))) (y := (h ((2 * p) + 1))) (by omega) (by omega)]) ?_
      refine am_goX (v := nI (sp_rc (k p))) (M2 := M) (s2 := (114, [.ref 4, .ref 15, x2, .int (nI p), x4], [.int (nI (sp_ds (h (2 * p)) (h ((2 * p) + 1))))], M)) rfl (s_reachOf_4 hS hO (i := p) (by omega)) ?_
      refine am_bLE ((sp_ds (h (2 * p)) (h ((2 * p) + 1)))) ((sp_rc (k p))) (s1 := (119, [.ref 4, .ref 15, x2, .int (nI p), x4], [], M)) (s2 := (117, [.ref 4, .ref 15, x2, .int (nI p), x4], [], M)) rfl (by omega) (by omega) (fun c2 => ?_) (fun c2 => ?_)
      · refine am_goQ 2 (s1 := (85, [.ref 4, .ref 15, x2, .int ((nI p + nI 1)), x4], [], M)) (s2 := (85, [.ref 4, .ref 15, x2, .int (nI (p + 1)), x4], [], M)) rfl (by simp only [nI_add]) ?_
        exact ih (p + 1) (by omega) (by omega) (fun i hi => by
          by_cases e : i = p
          · subst e; omega
          · exact hq i (by omega))
      · refine am_goR 1 (s2 := (118, [.ref 4, .ref 15, x2, .int (nI p), x4], [.int (nI 0)], M)) rfl ?_
        exact am_endz false _ rfl (decide_eq_false (fun z => by have := z p (by omega); omega)).symm rfl
set_option maxHeartbeats 4000000 in
theorem s_standAs_loop {a f hr hs lt : Nat} {k h v : Nat → Nat} (hO0 : sp_ok a f hr lt k h) (hv : ∀ q, v q < 4000) : ∀ (n p : Nat) (N : am_Mem) {w : Value}, n + p = 2 * a + 1 → p ≤ 2 * a → sp_sA f v p → sp_S 4 N a f hr hs lt k (sp_pt v h p) → (∀ q, q < 8 → N 15 q = nI (v q)) → am_go 30 (4, [.ref 4, .ref 15, .int (nI (sp_hb v 9 p)), .int (nI p), w], [], N) (am_ri (fun x O => x = am_b (sp_cs a f k v) ∧ (∀ c q, ¬ c = 6 → O c q = N c q) ∧ (sp_cs a f k v = true → sp_S 4 O a f hr hs lt k (sp_pt v h (2 * a))))) := by
  intro n
  induction n with
  | zero => intro p N w h1 h2; omega
  | succ n ih =>
    intro p N w h1 h2 hA2 hS hR
    have hO := hO0.pt (h := h) hA2
    obtain ⟨hF, hA, hHr, hHs, hLt, hK, hH⟩ := id hS
    obtain ⟨oA, oF, oHr, oLt, oK, oH⟩ := id hO
    have hvp := hv p
    have hb12 := sp_hb_lt2 (h := v) 9 p (fun q hq => (hA2 q hq).1)
    refine am_goQ 5 (s1 := (11, [.ref 4, .ref 15, .int (nI (sp_hb v 9 p)), .int (nI p), w], [.int ((nI 2 * (N 4 1))), .int (nI p)], N)) (s2 := (11, [.ref 4, .ref 15, .int (nI (sp_hb v 9 p)), .int (nI p), w], [.int (nI (2 * a)), .int (nI p)], N)) rfl (by simp only [hA, pk_mul]) ?_
    refine am_bLE ((2 * a)) (p) (s1 := (83, [.ref 4, .ref 15, .int (nI (sp_hb v 9 p)), .int (nI p), w], [], N)) (s2 := (14, [.ref 4, .ref 15, .int (nI (sp_hb v 9 p)), .int (nI p), w], [], N)) rfl (by omega) (by omega) (fun c1 => ?_) (fun c1 => ?_)
    · have ep : p = 2 * a := by omega
      subst ep
      refine am_goR 2 (s2 := (85, [.ref 4, .ref 15, .int (nI (sp_hb v 9 (2 * a))), .int (nI 0), w], [], N)) rfl ?_
      refine am_goW (s_stB hS hO (a + 1) 0 (by omega) (by omega) (fun i hi => absurd hi (Nat.not_lt_zero i))) (fun r9 O hr => ?_)
      obtain ⟨x, rfl, rfl, rfl⟩ := hr
      have eD : decide (∀ i, i < a → sp_ds (sp_pt v h (2 * a) (2 * i)) (sp_pt v h (2 * a) (2 * i + 1)) ≤ sp_rc (k i)) = sp_cs a f k v := by
        have e3 : (∀ i, i < a → sp_ds (sp_pt v h (2 * a) (2 * i)) (sp_pt v h (2 * a) (2 * i + 1)) ≤ sp_rc (k i)) ↔ sp_sB k v a := by
          unfold sp_sB
          refine forall_congr' (fun i => forall_congr' (fun hi => ?_))
          unfold sp_pt
          rw [if_pos (by omega), if_pos (by omega), sp_ds_comm]
        cases e : sp_cs a f k v with
        | true => exact decide_eq_true (e3.mpr (sp_cs_iff.mp e).2)
        | false => exact decide_eq_false (fun z => by rw [sp_cs_iff.mpr ⟨hA2, e3.mp z⟩] at e; cases e)
      exact ⟨_, rfl, by rw [eD], fun _ _ _ => rfl, fun _ => hS⟩
    · refine am_goR 4 (s2 := (20, [.ref 4, .ref 15, .int (nI (sp_hb v 9 p)), .int (nI p), w], [.int (nI 8), .int (nI p)], N)) rfl ?_
      refine am_bLE (8) (p) (s1 := (83, [.ref 4, .ref 15, .int (nI (sp_hb v 9 p)), .int (nI p), w], [], N)) (s2 := (23, [.ref 4, .ref 15, .int (nI (sp_hb v 9 p)), .int (nI p), w], [], N)) rfl (by omega) (by omega) (fun c2 => absurd c2 (by omega)) (fun c2 => ?_)
      refine am_goR 3 (s2 := (26, [.ref 4, .ref 15, .int (nI (sp_hb v 9 p)), .int (nI p), w], [.int (nI 16), .int (nI p)], N)) rfl ?_
      refine am_bLE (16) (p) (s1 := (83, [.ref 4, .ref 15, .int (nI (sp_hb v 9 p)), .int (nI p), w], [], N)) (s2 := (29, [.ref 4, .ref 15, .int (nI (sp_hb v 9 p)), .int (nI p), w], [], N)) rfl (by omega) (by omega) (fun c3 => absurd c3 (by omega)) (fun c3 => ?_)
      refine am_goR 2 (s2 := (31, [.ref 4, .ref 15, .int (nI (sp_hb v 9 p)), .int (nI p), w], [.int (nI p), .ref 15], N)) rfl ?_
      refine am_goL2 (pc := 32) (ls := [.ref 4, .ref 15, .int (nI (sp_hb v 9 p)), .int (nI p), w]) (r := []) (M := N) (a := 15) (n := 16) (p) (nI (v p)) rfl rfl (by omega) (by decide) (hR _ (by omega)) ?_
      refine am_goR 2 (s2 := (36, [.ref 4, .ref 15, .int (nI (sp_hb v 9 p)), .int (nI p), .int (nI (v p))], [.int (nI (v p))], N)) rfl ?_
      refine am_goX (v := am_b (decide ((v p) < 12))) (M2 := N) (s2 := (39, [.ref 4, .ref 15, .int (nI (sp_hb v 9 p)), .int (nI p), .int (nI (v p))], [], N)) rfl (s_isJointN (j := (v p)) (by omega)) ?_
      refine am_bB0 (decide ((v p) < 12)) (s1 := (60, [.ref 4, .ref 15, .int (nI (sp_hb v 9 p)), .int (nI p), .int (nI (v p))], [], N)) (s2 := (42, [.ref 4, .ref 15, .int (nI (sp_hb v 9 p)), .int (nI p), .int (nI (v p))], [], N)) rfl (fun c4 => ?_) (fun c4 => ?_)
      · have c4d := of_decide_eq_false c4
        refine am_goR 1 (s2 := (61, [.ref 4, .ref 15, .int (nI (sp_hb v 9 p)), .int (nI p), .int (nI (v p))], [.int (nI 0)], N)) rfl ?_
        have eF : sp_cs a f k v = false := sp_cs_F (fun z => by
          have z1 := z.1 p (by omega)
          first
            | exact absurd z1.1 (by omega)
            | (have z3 := z1.2.1
               rw [show f.testBit (v p) = false by assumption] at z3
               cases z3)
            | (obtain ⟨q, q1, q2, q3⟩ := (sp_hb_bit v 9 p (v p)).mp (by assumption)
               exact z1.2.2 q q1 q3))
        exact am_goZ false rfl ⟨_, rfl, by rw [eF], fun c q _ => rfl, fun z => by rw [eF] at z; cases z⟩
      · have c4d := of_decide_eq_true c4
        refine am_goR 2 (s2 := (45, [.ref 4, .ref 15, .int (nI (sp_hb v 9 p)), .int (nI p), .int (nI (v p))], [.int (nI (v p)), .ref 4], N)) rfl ?_
        refine am_goX (v := am_b (f.testBit (v p))) (M2 := N) (s2 := (48, [.ref 4, .ref 15, .int (nI (sp_hb v 9 p)), .int (nI p), .int (nI (v p))], [], N)) rfl (s_isFixed_4 hS hO (j := (v p)) (by omega)) ?_
        refine am_bB0 (f.testBit (v p)) (s1 := (60, [.ref 4, .ref 15, .int (nI (sp_hb v 9 p)), .int (nI p), .int (nI (v p))], [], N)) (s2 := (51, [.ref 4, .ref 15, .int (nI (sp_hb v 9 p)), .int (nI p), .int (nI (v p))], [], N)) rfl (fun c5 => ?_) (fun c5 => ?_)
        · refine am_goR 1 (s2 := (61, [.ref 4, .ref 15, .int (nI (sp_hb v 9 p)), .int (nI p), .int (nI (v p))], [.int (nI 0)], N)) rfl ?_
          have eF : sp_cs a f k v = false := sp_cs_F (fun z => by
            have z1 := z.1 p (by omega)
            first
              | exact absurd z1.1 (by omega)
              | (have z3 := z1.2.1
                 rw [show f.testBit (v p) = false by assumption] at z3
                 cases z3)
              | (obtain ⟨q, q1, q2, q3⟩ := (sp_hb_bit v 9 p (v p)).mp (by assumption)
                 exact z1.2.2 q q1 q3))
          exact am_goZ false rfl ⟨_, rfl, by rw [eF], fun c q _ => rfl, fun z => by rw [eF] at z; cases z⟩
        · refine am_goR 2 (s2 := (54, [.ref 4, .ref 15, .int (nI (sp_hb v 9 p)), .int (nI p), .int (nI (v p))], [.int (nI (v p)), .int (nI (sp_hb v 9 p))], N)) rfl ?_
          refine am_goX (v := am_b ((sp_hb v 9 p).testBit (v p))) (M2 := N) (s2 := (57, [.ref 4, .ref 15, .int (nI (sp_hb v 9 p)), .int (nI p), .int (nI (v p))], [], N)) rfl (s_hasBit1 (x := (sp_hb v 9 p)) (j := (v p)) (by omega) (by omega)) ?_
          refine am_bB0 ((sp_hb v 9 p).testBit (v p)) (s1 := (62, [.ref 4, .ref 15, .int (nI (sp_hb v 9 p)), .int (nI p), .int (nI (v p))], [], N)) (s2 := (60, [.ref 4, .ref 15, .int (nI (sp_hb v 9 p)), .int (nI p), .int (nI (v p))], [], N)) rfl (fun c6 => ?_) (fun c6 => ?_)
          · refine am_goQ 10 (s1 := (76, [.ref 4, .ref 15, .int ((nI (sp_hb v 9 p) ||| (nI 1 <<< (nI (v p) &&& 31)))), .int (nI p), .int (nI (v p))], [.int (nI (v p)), .int (nI p), .ref 6], N)) (s2 := (76, [.ref 4, .ref 15, .int (nI ((sp_hb v 9 p) ||| (2 ^ (v p)))), .int (nI p), .int (nI (v p))], [.int (nI (v p)), .int (nI p), .ref 6], N)) rfl (by simp only [am_shl1 (j := (v p)) (by omega), am_or]) ?_
            refine am_goS (pc := 77) (ls := [.ref 4, .ref 15, .int (nI ((sp_hb v 9 p) ||| (2 ^ (v p)))), .int (nI p), .int (nI (v p))]) (r := []) (M := N) (a := 6) (n := 8) (v := nI (v p)) (p) rfl rfl (by omega) (by decide) ?_
            refine am_goQ 2 (s1 := (4, [.ref 4, .ref 15, .int (nI ((sp_hb v 9 p) ||| (2 ^ (v p)))), .int ((nI p + nI 1)), .int (nI (v p))], [], (am_set N 6 p (nI (v p))))) (s2 := (4, [.ref 4, .ref 15, .int (nI ((sp_hb v 9 p) ||| (2 ^ (v p)))), .int (nI (p + 1)), .int (nI (v p))], [], (am_set N 6 p (nI (v p))))) rfl (by simp only [nI_add]) ?_
            have hb9 : sp_hb v 9 (p + 1) = sp_hb v 9 p ||| 2 ^ (v p) := by rw [sp_hb, if_neg (by omega)]
            have hnb : ∀ i, i < p → ¬ v i = v p := fun i hi z => by
              have := (sp_hb_bit v 9 p (v p)).mpr ⟨i, hi, by omega, z⟩
              simp [*] at this
            have i1 := ih (p + 1) (am_set N 6 p (nI (v p))) (w := .int (nI (v p))) (by omega) (by omega) (sp_sA.s hA2 (by omega) (by assumption) hnb) ⟨hS.1, hS.2.1, hS.2.2.1, hS.2.2.2.1, hS.2.2.2.2.1, fun q hq => hS.2.2.2.2.2.1 q hq, fun q hq => ?_⟩ (fun q hq => hR q hq)
            · rw [hb9] at i1
              refine am_goW i1 (fun r9 O hr => ?_)
              obtain ⟨x, rfl, q1, q2, q3⟩ := hr
              exact ⟨x, rfl, q1, fun c q z => (q2 c q z).trans (am_set_o (by omega)), q3⟩
            · show (am_set N 6 p (nI (v p))) 6 q = nI (sp_pt v h (p + 1) q)
              unfold sp_pt
              by_cases e : q = p
              · subst e; rw [am_set_s, if_pos (by omega)]
              · rw [am_set_o (by omega), hS.2.2.2.2.2.2 q hq]
                unfold sp_pt
                by_cases e2 : q < p
                · rw [if_pos e2, if_pos (by omega)]
                · rw [if_neg e2, if_neg (by omega)]
          · refine am_goR 1 (s2 := (61, [.ref 4, .ref 15, .int (nI (sp_hb v 9 p)), .int (nI p), .int (nI (v p))], [.int (nI 0)], N)) rfl ?_
            have eF : sp_cs a f k v = false := sp_cs_F (fun z => by
              have z1 := z.1 p (by omega)
              first
                | exact absurd z1.1 (by omega)
                | (have z3 := z1.2.1
                   rw [show f.testBit (v p) = false by assumption] at z3
                   cases z3)
                | (obtain ⟨q, q1, q2, q3⟩ := (sp_hb_bit v 9 p (v p)).mp (by assumption)
                   exact z1.2.2 q q1 q3))
            exact am_goZ false rfl ⟨_, rfl, by rw [eF], fun c q _ => rfl, fun z => by rw [eF] at z; cases z⟩
theorem s_standAs {M : am_Mem} {a f hr hs lt : Nat} {k h v : Nat → Nat} (hS : sp_S 4 M a f hr hs lt k h) (hO : sp_ok a f hr lt k h) (hR : ∀ q, q < 8 → M 15 q = nI (v q)) (hv : ∀ q, v q < 4000) : am_go 30 (am_ent 30 [.ref 4, .ref 15] M) (am_ri (fun x O => x = am_b (sp_cs a f k v) ∧ (∀ c q, ¬ c = 6 → O c q = M c q) ∧ (sp_cs a f k v = true → sp_S 4 O a f hr hs lt k (sp_pt v h (2 * a))))) := by
  refine am_goR 4 (s2 := (4, [.ref 4, .ref 15, .int (nI 0), .int (nI 0), .null], [], M)) rfl ?_
  exact s_standAs_loop hO hv (2 * a + 1) 0 M (by omega) (by omega) (fun q hq => absurd hq (Nat.not_lt_zero q)) ⟨hS.1, hS.2.1, hS.2.2.1, hS.2.2.2.1, hS.2.2.2.2.1, hS.2.2.2.2.2.1, fun q hq => hS.2.2.2.2.2.2 q hq⟩ hR

