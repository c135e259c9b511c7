/-! walks: the reference: a told step, bits -/
/-- whether a told step may be done -/
def sp_gt (a f hr lt : Nat) (k h : Nat → Nat) (z : Nat) : Bool := (decide (z / 1000 < a) && decide (z / 100 % 10 < 2)) && (sp_wk lt (k (z / 1000)) hr && sp_cn a f k h (z / 1000) (z / 100 % 10) 9 (z % 100))
def sp_pc2 (n : Nat) : Nat → Nat | 0 => 0 | c + 1 => sp_pc2 n c + (if n.testBit c then 1 else 0)

set_option maxHeartbeats 4000000 in
theorem t_goesTold {M : am_Mem} {a f hr hs lt : Nat} {k h : Nat → Nat} (hS : sp_M M a f hr hs lt k h) (hO : sp_ok a f hr lt k h) (oD : ∀ p q, p < 2 * a → q < 2 * a → h p = h q → p = q) {z : Nat} (hz : z < 8000) : am_go 152 (am_ent 152 [.ref 17, .int (nI z)] M) (am_ri (fun x N => x = am_b (sp_gt a f hr lt k h z) ∧ N = if sp_gt a f hr lt k h z = true then am_set M 20 (2 * (z / 1000) + z / 100 % 10) (nI (z % 100)) else M)) := by
  obtain ⟨hF, hA, hHr, hHs, hLt, hK, hH⟩ := id hS
  obtain ⟨oA, oF, oHr, oLt, oK, oH⟩ := id hO
  refine am_goQ 8 (s1 := (12, [.ref 17, .int (nI z), .int ((nI z / nI 1000)), .null], [.int (nI 10), .int ((nI z / nI 100))], M)) (s2 := (12, [.ref 17, .int (nI z), .int (nI (z / 1000)), .null], [.int (nI 10), .int (nI (z / 100))], M)) rfl (by simp only [pk_div (a := z) (d := 1000) (by omega) (by omega) (by omega), pk_div (a := z) (d := 100) (by omega) (by omega) (by omega)]) ?_
  refine am_goQ 5 (s1 := (17, [.ref 17, .int (nI z), .int (nI (z / 1000)), .int ((nI (z / 100) - nI (z / 100) / nI 10 * nI 10))], [.int ((nI (z / 100) - nI (z / 100) / nI 10 * nI 10)), .int (nI (z / 1000)), .ref 17], M)) (s2 := (17, [.ref 17, .int (nI z), .int (nI (z / 1000)), .int (nI ((z / 100) % 10))], [.int (nI ((z / 100) % 10)), .int (nI (z / 1000)), .ref 17], M)) rfl (by rw [pk_rem (a := (z / 100)) (d := 10) (by omega) (by omega) (by omega)]) ?_
  refine am_goX (v := am_b (decide ((z / 1000) < a) && decide (((z / 100) % 10) < 2))) (M2 := M) (s2 := (20, [.ref 17, .int (nI z), .int (nI (z / 1000)), .int (nI ((z / 100) % 10))], [], M)) rfl (t_isHandN hS.2.1 hO.1 (i := (z / 1000)) (b := ((z / 100) % 10)) (by omega) (by omega)) ?_
  refine am_bB0 (decide ((z / 1000) < a) && decide (((z / 100) % 10) < 2)) (s1 := (36, [.ref 17, .int (nI z), .int (nI (z / 1000)), .int (nI ((z / 100) % 10))], [], M)) (s2 := (23, [.ref 17, .int (nI z), .int (nI (z / 1000)), .int (nI ((z / 100) % 10))], [], M)) rfl (fun c1 => ?_) (fun c1 => ?_)
  · refine am_goR 1 (s2 := (37, [.ref 17, .int (nI z), .int (nI (z / 1000)), .int (nI ((z / 100) % 10))], [.int (nI 0)], M)) rfl ?_
    have e9 : sp_gt a f hr lt k h z = false := by
      unfold sp_gt
      first | (rw [show (decide (z / 1000 < a) && decide (z / 100 % 10 < 2)) = false by assumption]; rfl) | (rw [show (sp_wk lt (k (z / 1000)) hr && sp_cn a f k h (z / 1000) (z / 100 % 10) 9 (z % 100)) = false by assumption, Bool.and_false])
    exact am_goZ false rfl ⟨_, rfl, by rw [e9], by rw [e9]; rfl⟩
  · have c1d : z / 1000 < a ∧ z / 100 % 10 < 2 := by rw [Bool.and_eq_true, decide_eq_true_eq, decide_eq_true_eq] at c1; exact c1
    refine am_goQ 6 (s1 := (30, [.ref 17, .int (nI z), .int (nI (z / 1000)), .int (nI ((z / 100) % 10))], [.int ((nI z - nI z / nI 100 * nI 100)), .int (nI ((z / 100) % 10)), .int (nI (z / 1000)), .ref 17], M)) (s2 := (30, [.ref 17, .int (nI z), .int (nI (z / 1000)), .int (nI ((z / 100) % 10))], [.int (nI (z % 100)), .int (nI ((z / 100) % 10)), .int (nI (z / 1000)), .ref 17], M)) rfl (by rw [pk_rem (a := z) (d := 100) (by omega) (by omega) (by omega)]) ?_
    refine am_goX (v := am_b (sp_wk lt (k (z / 1000)) hr && sp_cn a f k h (z / 1000) ((z / 100) % 10) 9 (z % 100))) (M2 := M) (s2 := (33, [.ref 17, .int (nI z), .int (nI (z / 1000)), .int (nI ((z / 100) % 10))], [], M)) rfl (t_maySo hS hO oD (i := (z / 1000)) (b := ((z / 100) % 10)) (j := (z % 100)) (by omega) (by omega) (by omega)) ?_
    refine am_bB1 (sp_wk lt (k (z / 1000)) hr && sp_cn a f k h (z / 1000) ((z / 100) % 10) 9 (z % 100)) (s1 := (38, [.ref 17, .int (nI z), .int (nI (z / 1000)), .int (nI ((z / 100) % 10))], [], M)) (s2 := (36, [.ref 17, .int (nI z), .int (nI (z / 1000)), .int (nI ((z / 100) % 10))], [], M)) rfl (fun c2 => ?_) (fun c2 => ?_)
    · refine am_goQ 10 (s1 := (51, [.ref 17, .int (nI z), .int (nI (z / 1000)), .int (nI ((z / 100) % 10))], [.int ((nI z - nI z / nI 100 * nI 100)), .int (((nI 2 * nI (z / 1000)) + nI ((z / 100) % 10))), .ref 20], M)) (s2 := (51, [.ref 17, .int (nI z), .int (nI (z / 1000)), .int (nI ((z / 100) % 10))], [.int (nI (z % 100)), .int (nI ((2 * (z / 1000)) + ((z / 100) % 10))), .ref 20], M)) rfl (by rw [pk_rem (a := z) (d := 100) (by omega) (by omega) (by omega)]; simp only [pk_mul, nI_add]) ?_
      refine am_goS (pc := 52) (ls := [.ref 17, .int (nI z), .int (nI (z / 1000)), .int (nI ((z / 100) % 10))]) (r := []) (M := M) (a := 20) (n := 8) (v := nI (z % 100)) (((2 * (z / 1000)) + ((z / 100) % 10))) rfl rfl (by omega) (by decide) ?_
      refine am_goR 1 (s2 := (53, [.ref 17, .int (nI z), .int (nI (z / 1000)), .int (nI ((z / 100) % 10))], [.int (nI 1)], (am_set M 20 ((2 * (z / 1000)) + ((z / 100) % 10)) (nI (z % 100))))) rfl ?_
      exact am_goZ true rfl ⟨_, rfl, by rw [show sp_gt a f hr lt k h z = true from by unfold sp_gt; simp [*]], by rw [show sp_gt a f hr lt k h z = true from by unfold sp_gt; simp [*]]; rfl⟩
    · refine am_goR 1 (s2 := (37, [.ref 17, .int (nI z), .int (nI (z / 1000)), .int (nI ((z / 100) % 10))], [.int (nI 0)], M)) rfl ?_
      have e9 : sp_gt a f hr lt k h z = false := by
        unfold sp_gt
        first | (rw [show (decide (z / 1000 < a) && decide (z / 100 % 10 < 2)) = false by assumption]; rfl) | (rw [show (sp_wk lt (k (z / 1000)) hr && sp_cn a f k h (z / 1000) (z / 100 % 10) 9 (z % 100)) = false by assumption, Bool.and_false])
      exact am_goZ false rfl ⟨_, rfl, by rw [e9], by rw [e9]; rfl⟩

