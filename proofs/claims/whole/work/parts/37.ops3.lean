/-! calls: closedIn -/
def sp_c2 (p : Nat → Nat → Bool) (i : Nat) : Nat → Nat → Nat × Int32 → Nat × Int32 | 0, _, s => s | c + 1, b, s => sp_c2 p i c (b + 1) (if p i b = true then (s.1 + 1, if s.1 = 0 then nI (10 * i + b) else s.2) else s)
def sp_c1 (p : Nat → Nat → Bool) (a : Nat) : Nat → Nat → Nat × Int32 → Nat × Int32 | 0, _, s => s | c + 1, i, s => sp_c1 p a c (i + 1) (sp_c2 p i (a - (i + 1)) (i + 1) s)
theorem sp_c2_F {p : Nat → Nat → Bool} {i c b m : Nat} {x : Int32} (hp : p i b = false) : sp_c2 p i (c + 1) b (m, x) = sp_c2 p i c (b + 1) (m, x) := by rw [sp_c2, if_neg (by rw [hp]; decide)]
theorem sp_c2_0 {p : Nat → Nat → Bool} {i c b m : Nat} {x : Int32} (hp : p i b = true) (hm : m = 0) : sp_c2 p i (c + 1) b (m, x) = sp_c2 p i c (b + 1) (m + 1, nI (10 * i + b)) := by rw [sp_c2, if_pos hp, if_pos hm]
theorem sp_c2_1 {p : Nat → Nat → Bool} {i c b m : Nat} {x : Int32} (hp : p i b = true) (hm : ¬ m = 0) : sp_c2 p i (c + 1) b (m, x) = sp_c2 p i c (b + 1) (m + 1, x) := by rw [sp_c2, if_pos hp, if_neg hm]
theorem sp_c2_le {p : Nat → Nat → Bool} {i : Nat} : ∀ (c b : Nat) (s : Nat × Int32), (sp_c2 p i c b s).1 ≤ s.1 + c := by
  intro c
  induction c with
  | zero => intro b s; exact Nat.le_refl _
  | succ c ih =>
    intro b s
    rw [sp_c2]
    refine Nat.le_trans (ih _ _) ?_
    split
    · dsimp only; omega
    · omega
def sp_cl (a f hr lt : Nat) (k h : Nat → Nat) (i i2 : Nat) : Bool := (sp_wk lt (k i) hr && !sp_st a f k h i 9) && (sp_wk lt (k i2) hr && !sp_st a f k h i2 9) && sp_st a f k h i i2 && sp_st a f k h i2 i
theorem sp_by_bit {a f : Nat} {k h : Nat → Nat} {i b : Nat} (hb : b < a) (hn : ¬ b = i) : (sp_bs (fun q => !decide (q = i) && sp_st a f k h i q) a).testBit b = sp_st a f k h i b := by
  rw [sp_bs_bit, decide_eq_true hb, decide_eq_false hn]
  rfl

set_option maxHeartbeats 4000000 in
theorem c_ci2 {M : am_Mem} {a f hr hs lt : Nat} {k h : Nat → Nat} (hS : sp_S 1 M a f hr hs lt k h) (hO : sp_ok a f hr lt k h) {wv : Value} {Q : Option Value → am_Mem → Prop} {i : Nat} (hi : i < a) : ∀ c : Nat, ∀ (b m : Nat) (fi : Int32), c + b = a → i < b → m + c ≤ 100 → am_go 66 (95, [.ref 0, wv, .int (nI (sp_c2 (sp_cl a f hr lt k h) i c b (m, fi)).1), .int (sp_c2 (sp_cl a f hr lt k h) i c b (m, fi)).2, .int (nI i), .int (nI a)], [], M) Q → am_go 66 (42, [.ref 0, wv, .int (nI m), .int fi, .int (nI i), .int (nI b)], [], M) Q := by
  obtain ⟨hF, hA, hHr, hHs, hLt, hK, hH⟩ := id hS
  obtain ⟨oA, oF, oHr, oLt, oK, oH⟩ := id hO
  intro c
  induction c using Nat.strongRecOn with
  | ind c ihs =>
    have ih : ∀ z, z < c → ∀ (b m : Nat) (fi : Int32), z + b = a → i < b → m + z ≤ 100 → am_go 66 (95, [.ref 0, wv, .int (nI (sp_c2 (sp_cl a f hr lt k h) i z b (m, fi)).1), .int (sp_c2 (sp_cl a f hr lt k h) i z b (m, fi)).2, .int (nI i), .int (nI a)], [], M) Q → am_go 66 (42, [.ref 0, wv, .int (nI m), .int fi, .int (nI i), .int (nI b)], [], M) Q := ihs
    intro b m fi h1 h2 h3 kk
    refine am_goQ 4 (s1 := (51, [.ref 0, wv, .int (nI m), .int (fi), .int (nI i), .int (nI b)], [.int ((M 1 1)), .int (nI b)], M)) (s2 := (51, [.ref 0, wv, .int (nI m), .int (fi), .int (nI i), .int (nI b)], [.int (nI a), .int (nI b)], M)) rfl (by simp only [hA]) ?_
    refine am_bLE (a) (b) (s1 := (95, [.ref 0, wv, .int (nI m), .int (fi), .int (nI i), .int (nI b)], [], M)) (s2 := (54, [.ref 0, wv, .int (nI m), .int (fi), .int (nI i), .int (nI b)], [], M)) rfl (by omega) (by omega) (fun c1 => ?_) (fun c1 => ?_)
    · have e0 : c = 0 := by omega
      subst e0
      have eb : a = b := by omega
      subst eb
      exact kk
    · refine am_goR 4 (s2 := (62, [.ref 0, wv, .int (nI m), .int (fi), .int (nI i), .int (nI b)], [.int (nI b), .int (nI i), .ref 1], M)) rfl ?_
      refine am_goX (v := am_b (sp_cl a f hr lt k h i b)) (M2 := M) (s2 := (65, [.ref 0, wv, .int (nI m), .int (fi), .int (nI i), .int (nI b)], [], M)) rfl (s_close_1 hS hO (i := i) (by omega) (i2 := b) (by omega)) ?_
      refine am_bB0 (sp_cl a f hr lt k h i b) (s1 := (89, [.ref 0, wv, .int (nI m), .int (fi), .int (nI i), .int (nI b)], [], M)) (s2 := (68, [.ref 0, wv, .int (nI m), .int (fi), .int (nI i), .int (nI b)], [], M)) rfl (fun c2 => ?_) (fun c2 => ?_)
      · refine am_goQ 2 (s1 := (42, [.ref 0, wv, .int (nI m), .int (fi), .int (nI i), .int ((nI b + nI 1))], [], M)) (s2 := (42, [.ref 0, wv, .int (nI m), .int (fi), .int (nI i), .int (nI (b + 1))], [], M)) rfl (by simp only [nI_add]) ?_
        cases c with
        | zero => omega
        | succ c =>
          have hcl : sp_cl a f hr lt k h i b = false := by first | assumption | (unfold sp_cl; rw [← hb1 (by omega), ← hb2 (by omega)]; clear hb1 hb2; simp [*])
          rw [sp_c2_F hcl] at kk
          exact ih c (by omega) (b + 1) m fi (by omega) (by omega) (by omega) kk
      · refine am_goQ 3 (s1 := (73, [.ref 0, wv, .int ((nI m + nI 1)), .int (fi), .int (nI i), .int (nI b)], [.int (nI 1), .int ((nI m + nI 1))], M)) (s2 := (73, [.ref 0, wv, .int (nI (m + 1)), .int (fi), .int (nI i), .int (nI b)], [.int (nI 1), .int (nI (m + 1))], M)) rfl (by simp only [nI_add]) ?_
        refine am_bNE ((m + 1)) (1) (s1 := (87, [.ref 0, wv, .int (nI (m + 1)), .int (fi), .int (nI i), .int (nI b)], [], M)) (s2 := (76, [.ref 0, wv, .int (nI (m + 1)), .int (fi), .int (nI i), .int (nI b)], [], M)) rfl (by omega) (by omega) (fun c3 => ?_) (fun c3 => ?_)
        · refine am_goQ 4 (s1 := (42, [.ref 0, wv, .int (nI (m + 1)), .int (fi), .int (nI i), .int ((nI b + nI 1))], [], M)) (s2 := (42, [.ref 0, wv, .int (nI (m + 1)), .int (fi), .int (nI i), .int (nI (b + 1))], [], M)) rfl (by simp only [nI_add]) ?_
          cases c with
          | zero => omega
          | succ c =>
            have hcl : sp_cl a f hr lt k h i b = true := by first | assumption | (unfold sp_cl; rw [← hb1 (by omega), ← hb2 (by omega)]; clear hb1 hb2; simp [*])
            rw [sp_c2_1 hcl (by omega)] at kk
            exact ih c (by omega) (b + 1) (m + 1) _ (by omega) (by omega) (by omega) kk
        · refine am_goQ 9 (s1 := (42, [.ref 0, wv, .int (nI (m + 1)), .int (((nI 10 * nI i) + nI b)), .int (nI i), .int ((nI b + nI 1))], [], M)) (s2 := (42, [.ref 0, wv, .int (nI (m + 1)), .int (nI ((10 * i) + b)), .int (nI i), .int (nI (b + 1))], [], M)) rfl (by simp only [pk_mul, nI_add]) ?_
          cases c with
          | zero => omega
          | succ c =>
            have hcl : sp_cl a f hr lt k h i b = true := by first | assumption | (unfold sp_cl; rw [← hb1 (by omega), ← hb2 (by omega)]; clear hb1 hb2; simp [*])
            rw [sp_c2_0 hcl (by omega)] at kk
            exact ih c (by omega) (b + 1) (m + 1) _ (by omega) (by omega) (by omega) kk
set_option maxHeartbeats 4000000 in
theorem c_ci1 {M : am_Mem} {a f hr hs lt : Nat} {k h : Nat → Nat} (hS : sp_S 1 M a f hr hs lt k h) (hO : sp_ok a f hr lt k h) {wv : Value} {Q : Option Value → am_Mem → Prop} : ∀ c : Nat, ∀ (i m : Nat) (fi : Int32) (v5 : Value), c + i = a → m + 6 * c ≤ 40 → (∀ v6 : Value, am_go 66 (101, [.ref 0, wv, .int (nI (sp_c1 (sp_cl a f hr lt k h) a c i (m, fi)).1), .int (sp_c1 (sp_cl a f hr lt k h) a c i (m, fi)).2, .int (nI a), v6], [], M) Q) → am_go 66 (24, [.ref 0, wv, .int (nI m), .int fi, .int (nI i), v5], [], M) Q := by
  obtain ⟨hF, hA, hHr, hHs, hLt, hK, hH⟩ := id hS
  obtain ⟨oA, oF, oHr, oLt, oK, oH⟩ := id hO
  intro c
  induction c with
  | zero =>
    intro i m fi v5 h1 h2 kk
    have ei : i = a := by omega
    refine am_goQ 0 (s1 := (24, [.ref 0, wv, .int (nI m), .int fi, .int (nI i), v5], [], M)) (s2 := (24, [.ref 0, wv, .int (nI m), .int fi, .int (nI i), v5], [], M)) rfl rfl ?_
    refine am_goQ 4 (s1 := (33, [.ref 0, wv, .int (nI m), .int (fi), .int (nI i), v5], [.int ((M 1 1)), .int (nI i)], M)) (s2 := (33, [.ref 0, wv, .int (nI m), .int (fi), .int (nI i), v5], [.int (nI a), .int (nI i)], M)) rfl (by simp only [hA]) ?_
    refine am_bLE (a) (i) (s1 := (101, [.ref 0, wv, .int (nI m), .int (fi), .int (nI i), v5], [], M)) (s2 := (36, [.ref 0, wv, .int (nI m), .int (fi), .int (nI i), v5], [], M)) rfl (by omega) (by omega) (fun c1 => ?_) (fun c1 => absurd c1 (by omega))
    rw [ei]
    exact kk v5
  | succ c ih =>
    intro i m fi v5 h1 h2 kk
    have hia : i < a := by omega
    refine am_goQ 4 (s1 := (33, [.ref 0, wv, .int (nI m), .int (fi), .int (nI i), v5], [.int ((M 1 1)), .int (nI i)], M)) (s2 := (33, [.ref 0, wv, .int (nI m), .int (fi), .int (nI i), v5], [.int (nI a), .int (nI i)], M)) rfl (by simp only [hA]) ?_
    refine am_bLE (a) (i) (s1 := (101, [.ref 0, wv, .int (nI m), .int (fi), .int (nI i), v5], [], M)) (s2 := (36, [.ref 0, wv, .int (nI m), .int (fi), .int (nI i), v5], [], M)) rfl (by omega) (by omega) (fun c1 => absurd c1 (by omega)) (fun c1 => ?_)
    refine am_goQ 4 (s1 := (42, [.ref 0, wv, .int (nI m), .int (fi), .int (nI i), .int ((nI i + nI 1))], [], M)) (s2 := (42, [.ref 0, wv, .int (nI m), .int (fi), .int (nI i), .int (nI (i + 1))], [], M)) rfl (by simp only [nI_add]) ?_
    refine c_ci2 hS hO (by omega) (a - (i + 1)) (i + 1) m fi (by omega) (by omega) (by omega) ?_
    have hle := sp_c2_le (p := (sp_cl a f hr lt k h)) (i := i) (a - (i + 1)) (i + 1) (m, fi)
    dsimp only at hle
    refine am_goQ 2 (s1 := (24, [.ref 0, wv, .int (nI (sp_c2 (sp_cl a f hr lt k h) i (a - (i + 1)) (i + 1) (m, fi)).1), .int (sp_c2 (sp_cl a f hr lt k h) i (a - (i + 1)) (i + 1) (m, fi)).2, .int (nI i + nI 1), .int (nI a)], [], M)) (s2 := (24, [.ref 0, wv, .int (nI (sp_c2 (sp_cl a f hr lt k h) i (a - (i + 1)) (i + 1) (m, fi)).1), .int (sp_c2 (sp_cl a f hr lt k h) i (a - (i + 1)) (i + 1) (m, fi)).2, .int (nI (i + 1)), .int (nI a)], [], M)) rfl (by rw [nI_add]) ?_
    exact ih (i + 1) _ _ _ (by omega) (by omega) (fun v6 => by have z := kk v6; rw [sp_c1] at z; exact z)
set_option maxHeartbeats 4000000 in
theorem c_closedIn_v0 {M : am_Mem} {a f hr hs lt : Nat} {k h : Nat → Nat} (hS : sp_S 1 M a f hr hs lt k h) (hO : sp_ok a f hr lt k h)  : am_go 66 (am_ent 66 [.ref 0, .int (nI 0)] M) (am_is (nI (sp_c1 (sp_cl a f hr lt k h) a a 0 (0, -nI 9)).1) M) := by
  obtain ⟨hF, hA, hHr, hHs, hLt, hK, hH⟩ := id hS
  obtain ⟨oA, oF, oHr, oLt, oK, oH⟩ := id hO
  refine am_goR 8 (s2 := (24, [.ref 0, .int (nI 0), .int (nI 0), .int ((-nI 9)), .int (nI 0), .null], [], M)) rfl ?_
  refine c_ci1 hS hO a 0 0 (-nI 9) _ (by omega) (by omega) (fun v6 => ?_)
  refine am_goR 4 (s2 := (110, [.ref 0, .int (nI 0), .int (nI (sp_c1 (sp_cl a f hr lt k h) a a 0 (0, -nI 9)).1), .int (sp_c1 (sp_cl a f hr lt k h) a a 0 (0, -nI 9)).2, .int (nI a), v6], [.int (nI (sp_c1 (sp_cl a f hr lt k h) a a 0 (0, -nI 9)).1)], M)) rfl ?_
  exact am_ends _ _ rfl rfl rfl

set_option maxHeartbeats 4000000 in
theorem c_closedIn_v1 {M : am_Mem} {a f hr hs lt : Nat} {k h : Nat → Nat} (hS : sp_S 1 M a f hr hs lt k h) (hO : sp_ok a f hr lt k h)  : am_go 66 (am_ent 66 [.ref 0, .int (nI 1)] M) (am_is ((sp_c1 (sp_cl a f hr lt k h) a a 0 (0, -nI 9)).2) M) := by
  obtain ⟨hF, hA, hHr, hHs, hLt, hK, hH⟩ := id hS
  obtain ⟨oA, oF, oHr, oLt, oK, oH⟩ := id hO
  refine am_goR 11 (s2 := (24, [.ref 0, .int (nI 1), .int (nI 0), .int ((-nI 9)), .int (nI 0), .null], [], M)) rfl ?_
  refine c_ci1 hS hO a 0 0 (-nI 9) _ (by omega) (by omega) (fun v6 => ?_)
  refine am_goR 3 (s2 := (110, [.ref 0, .int (nI 1), .int (nI (sp_c1 (sp_cl a f hr lt k h) a a 0 (0, -nI 9)).1), .int (sp_c1 (sp_cl a f hr lt k h) a a 0 (0, -nI 9)).2, .int (nI a), v6], [.int ((sp_c1 (sp_cl a f hr lt k h) a a 0 (0, -nI 9)).2)], M)) rfl ?_
  exact am_ends _ _ rfl rfl rfl

set_option maxHeartbeats 4000000 in
theorem r_ci2 {M : am_Mem} {a f hr hs lt : Nat} {k h : Nat → Nat} (hS : sp_M M a f hr hs lt k h) (hO : sp_ok a f hr lt k h) (oD : ∀ p q, p < 2 * a → q < 2 * a → h p = h q → p = q) {wv : Value} {Q : Option Value → am_Mem → Prop} {i : Nat} (hi : i < a) : ∀ c : Nat, ∀ (b m : Nat) (fi : Int32), c + b = a → i < b → m + c ≤ 100 → am_go 133 (123, [.ref 17, wv, .int (nI (sp_c2 (sp_cl a f hr lt k h) i c b (m, fi)).1), .int (sp_c2 (sp_cl a f hr lt k h) i c b (m, fi)).2, .int (nI i), .int (nI a)], [], M) Q → am_go 133 (39, [.ref 17, wv, .int (nI m), .int fi, .int (nI i), .int (nI b)], [], M) Q := by
  obtain ⟨hF, hA, hHr, hHs, hLt, hK, hH⟩ := id hS
  obtain ⟨oA, oF, oHr, oLt, oK, oH⟩ := id hO
  intro c
  induction c using Nat.strongRecOn with
  | ind c ihs =>
    have ih : ∀ z, z < c → ∀ (b m : Nat) (fi : Int32), z + b = a → i < b → m + z ≤ 100 → am_go 133 (123, [.ref 17, wv, .int (nI (sp_c2 (sp_cl a f hr lt k h) i z b (m, fi)).1), .int (sp_c2 (sp_cl a f hr lt k h) i z b (m, fi)).2, .int (nI i), .int (nI a)], [], M) Q → am_go 133 (39, [.ref 17, wv, .int (nI m), .int fi, .int (nI i), .int (nI b)], [], M) Q := ihs
    intro b m fi h1 h2 h3 kk
    have hb1 := fun z : b < a => sp_by_bit (f := f) (k := k) (h := h) (i := i) z (by omega)
    have hb2 := fun z : b < a => sp_by_bit (f := f) (k := k) (h := h) (i := b) (b := i) hi (by omega)
    refine am_goQ 3 (s1 := (45, [.ref 17, wv, .int (nI m), .int (fi), .int (nI i), .int (nI b)], [.int ((M 17 3)), .int (nI b)], M)) (s2 := (45, [.ref 17, wv, .int (nI m), .int (fi), .int (nI i), .int (nI b)], [.int (nI a), .int (nI b)], M)) rfl (by simp only [hA]) ?_
    refine am_bLE (a) (b) (s1 := (123, [.ref 17, wv, .int (nI m), .int (fi), .int (nI i), .int (nI b)], [], M)) (s2 := (48, [.ref 17, wv, .int (nI m), .int (fi), .int (nI i), .int (nI b)], [], M)) rfl (by omega) (by omega) (fun c1 => ?_) (fun c1 => ?_)
    · have e0 : c = 0 := by omega
      subst e0
      have eb : a = b := by omega
      subst eb
      exact kk
    · refine am_goR 2 (s2 := (51, [.ref 17, wv, .int (nI m), .int (fi), .int (nI i), .int (nI b)], [.int (nI i), .ref 17], M)) rfl ?_
      refine am_goX (v := am_b (sp_wk lt (k i) hr && !sp_st a f k h i 9)) (M2 := M) (s2 := (54, [.ref 17, wv, .int (nI m), .int (fi), .int (nI i), .int (nI b)], [], M)) rfl (t_isBlocked hS hO oD (i := i) (by omega)) ?_
      refine am_bB0 (sp_wk lt (k i) hr && !sp_st a f k h i 9) (s1 := (117, [.ref 17, wv, .int (nI m), .int (fi), .int (nI i), .int (nI b)], [], M)) (s2 := (57, [.ref 17, wv, .int (nI m), .int (fi), .int (nI i), .int (nI b)], [], M)) rfl (fun c2 => ?_) (fun c2 => ?_)
      · refine am_goQ 2 (s1 := (39, [.ref 17, wv, .int (nI m), .int (fi), .int (nI i), .int ((nI b + nI 1))], [], M)) (s2 := (39, [.ref 17, wv, .int (nI m), .int (fi), .int (nI i), .int (nI (b + 1))], [], M)) rfl (by simp only [nI_add]) ?_
        cases c with
        | zero => omega
        | succ c =>
          have hcl : sp_cl a f hr lt k h i b = false := by first | assumption | (unfold sp_cl; rw [← hb1 (by omega), ← hb2 (by omega)]; clear hb1 hb2; simp [*])
          rw [sp_c2_F hcl] at kk
          exact ih c (by omega) (b + 1) m fi (by omega) (by omega) (by omega) kk
      · refine am_goR 2 (s2 := (60, [.ref 17, wv, .int (nI m), .int (fi), .int (nI i), .int (nI b)], [.int (nI b), .ref 17], M)) rfl ?_
        refine am_goX (v := am_b (sp_wk lt (k b) hr && !sp_st a f k h b 9)) (M2 := M) (s2 := (63, [.ref 17, wv, .int (nI m), .int (fi), .int (nI i), .int (nI b)], [], M)) rfl (t_isBlocked hS hO oD (i := b) (by omega)) ?_
        refine am_bB0 (sp_wk lt (k b) hr && !sp_st a f k h b 9) (s1 := (117, [.ref 17, wv, .int (nI m), .int (fi), .int (nI i), .int (nI b)], [], M)) (s2 := (66, [.ref 17, wv, .int (nI m), .int (fi), .int (nI i), .int (nI b)], [], M)) rfl (fun c3 => ?_) (fun c3 => ?_)
        · refine am_goQ 2 (s1 := (39, [.ref 17, wv, .int (nI m), .int (fi), .int (nI i), .int ((nI b + nI 1))], [], M)) (s2 := (39, [.ref 17, wv, .int (nI m), .int (fi), .int (nI i), .int (nI (b + 1))], [], M)) rfl (by simp only [nI_add]) ?_
          cases c with
          | zero => omega
          | succ c =>
            have hcl : sp_cl a f hr lt k h i b = false := by first | assumption | (unfold sp_cl; rw [← hb1 (by omega), ← hb2 (by omega)]; clear hb1 hb2; simp [*])
            rw [sp_c2_F hcl] at kk
            exact ih c (by omega) (b + 1) m fi (by omega) (by omega) (by omega) kk
        · refine am_goR 2 (s2 := (69, [.ref 17, wv, .int (nI m), .int (fi), .int (nI i), .int (nI b)], [.int (nI i), .ref 17], M)) rfl ?_
          refine am_goX (v := nI (sp_bs (fun q => !decide (q = i) && sp_st a f k h i q) a)) (M2 := M) (s2 := (72, [.ref 17, wv, .int (nI m), .int (fi), .int (nI i), .int (nI b)], [], M)) rfl (t_byBits hS hO oD (i := i) (by omega)) ?_
          have b16b4 := sp_bs4 (p := (fun q => !decide (q = i) && sp_st a f k h i q)) oA
          refine am_goQ 4 (s1 := (77, [.ref 17, wv, .int (nI m), .int (fi), .int (nI i), .int (nI b)], [.int (((nI (sp_bs (fun q => !decide (q = i) && sp_st a f k h i q) a) >>> (nI b &&& 31)) &&& nI 1))], M)) (s2 := (77, [.ref 17, wv, .int (nI m), .int (fi), .int (nI i), .int (nI b)], [.int (am_b ((sp_bs (fun q => !decide (q = i) && sp_st a f k h i q) a).testBit b))], M)) rfl (by simp only [am_shr (x := (sp_bs (fun q => !decide (q = i) && sp_st a f k h i q) a)) (j := b) (by omega) (by omega), am_and, am_bit]) ?_
          refine am_bB0 ((sp_bs (fun q => !decide (q = i) && sp_st a f k h i q) a).testBit b) (s1 := (117, [.ref 17, wv, .int (nI m), .int (fi), .int (nI i), .int (nI b)], [], M)) (s2 := (80, [.ref 17, wv, .int (nI m), .int (fi), .int (nI i), .int (nI b)], [], M)) rfl (fun c5 => ?_) (fun c5 => ?_)
          · refine am_goQ 2 (s1 := (39, [.ref 17, wv, .int (nI m), .int (fi), .int (nI i), .int ((nI b + nI 1))], [], M)) (s2 := (39, [.ref 17, wv, .int (nI m), .int (fi), .int (nI i), .int (nI (b + 1))], [], M)) rfl (by simp only [nI_add]) ?_
            cases c with
            | zero => omega
            | succ c =>
              have hcl : sp_cl a f hr lt k h i b = false := by first | assumption | (unfold sp_cl; rw [← hb1 (by omega), ← hb2 (by omega)]; clear hb1 hb2; simp [*])
              rw [sp_c2_F hcl] at kk
              exact ih c (by omega) (b + 1) m fi (by omega) (by omega) (by omega) kk
          · refine am_goR 2 (s2 := (83, [.ref 17, wv, .int (nI m), .int (fi), .int (nI i), .int (nI b)], [.int (nI b), .ref 17], M)) rfl ?_
            refine am_goX (v := nI (sp_bs (fun q => !decide (q = b) && sp_st a f k h b q) a)) (M2 := M) (s2 := (86, [.ref 17, wv, .int (nI m), .int (fi), .int (nI i), .int (nI b)], [], M)) rfl (t_byBits hS hO oD (i := b) (by omega)) ?_
            have b16b6 := sp_bs4 (p := (fun q => !decide (q = b) && sp_st a f k h b q)) oA
            refine am_goQ 4 (s1 := (91, [.ref 17, wv, .int (nI m), .int (fi), .int (nI i), .int (nI b)], [.int (((nI (sp_bs (fun q => !decide (q = b) && sp_st a f k h b q) a) >>> (nI i &&& 31)) &&& nI 1))], M)) (s2 := (91, [.ref 17, wv, .int (nI m), .int (fi), .int (nI i), .int (nI b)], [.int (am_b ((sp_bs (fun q => !decide (q = b) && sp_st a f k h b q) a).testBit i))], M)) rfl (by simp only [am_shr (x := (sp_bs (fun q => !decide (q = b) && sp_st a f k h b q) a)) (j := i) (by omega) (by omega), am_and, am_bit]) ?_
            refine am_bB1 ((sp_bs (fun q => !decide (q = b) && sp_st a f k h b q) a).testBit i) (s1 := (97, [.ref 17, wv, .int (nI m), .int (fi), .int (nI i), .int (nI b)], [], M)) (s2 := (94, [.ref 17, wv, .int (nI m), .int (fi), .int (nI i), .int (nI b)], [], M)) rfl (fun c7 => ?_) (fun c7 => ?_)
            · refine am_goR 1 (s2 := (98, [.ref 17, wv, .int (nI m), .int (fi), .int (nI i), .int (nI b)], [.int (nI m)], M)) rfl ?_
              refine am_bNE (m) (0) (s1 := (112, [.ref 17, wv, .int (nI m), .int (fi), .int (nI i), .int (nI b)], [], M)) (s2 := (101, [.ref 17, wv, .int (nI m), .int (fi), .int (nI i), .int (nI b)], [], M)) rfl (by omega) (by omega) (fun c8 => ?_) (fun c8 => ?_)
              · refine am_goQ 5 (s1 := (39, [.ref 17, wv, .int ((nI m + nI 1)), .int (fi), .int (nI i), .int ((nI b + nI 1))], [], M)) (s2 := (39, [.ref 17, wv, .int (nI (m + 1)), .int (fi), .int (nI i), .int (nI (b + 1))], [], M)) rfl (by simp only [nI_add]) ?_
                cases c with
                | zero => omega
                | succ c =>
                  have hcl : sp_cl a f hr lt k h i b = true := by first | assumption | (unfold sp_cl; rw [← hb1 (by omega), ← hb2 (by omega)]; clear hb1 hb2; simp [*])
                  rw [sp_c2_1 hcl (by omega)] at kk
                  exact ih c (by omega) (b + 1) (m + 1) _ (by omega) (by omega) (by omega) kk
              · refine am_goQ 10 (s1 := (39, [.ref 17, wv, .int ((nI m + nI 1)), .int (((nI 10 * nI i) + nI b)), .int (nI i), .int ((nI b + nI 1))], [], M)) (s2 := (39, [.ref 17, wv, .int (nI (m + 1)), .int (nI ((10 * i) + b)), .int (nI i), .int (nI (b + 1))], [], M)) rfl (by simp only [nI_add, pk_mul]) ?_
                cases c with
                | zero => omega
                | succ c =>
                  have hcl : sp_cl a f hr lt k h i b = true := by first | assumption | (unfold sp_cl; rw [← hb1 (by omega), ← hb2 (by omega)]; clear hb1 hb2; simp [*])
                  rw [sp_c2_0 hcl (by omega)] at kk
                  exact ih c (by omega) (b + 1) (m + 1) _ (by omega) (by omega) (by omega) kk
            · refine am_goQ 3 (s1 := (39, [.ref 17, wv, .int (nI m), .int (fi), .int (nI i), .int ((nI b + nI 1))], [], M)) (s2 := (39, [.ref 17, wv, .int (nI m), .int (fi), .int (nI i), .int (nI (b + 1))], [], M)) rfl (by simp only [nI_add]) ?_
              cases c with
              | zero => omega
              | succ c =>
                have hcl : sp_cl a f hr lt k h i b = false := by first | assumption | (unfold sp_cl; rw [← hb1 (by omega), ← hb2 (by omega)]; clear hb1 hb2; simp [*])
                rw [sp_c2_F hcl] at kk
                exact ih c (by omega) (b + 1) m fi (by omega) (by omega) (by omega) kk
set_option maxHeartbeats 4000000 in
theorem r_ci1 {M : am_Mem} {a f hr hs lt : Nat} {k h : Nat → Nat} (hS : sp_M M a f hr hs lt k h) (hO : sp_ok a f hr lt k h) (oD : ∀ p q, p < 2 * a → q < 2 * a → h p = h q → p = q) {wv : Value} {Q : Option Value → am_Mem → Prop} : ∀ c : Nat, ∀ (i m : Nat) (fi : Int32) (v5 : Value), c + i = a → m + 6 * c ≤ 40 → (∀ v6 : Value, am_go 133 (129, [.ref 17, wv, .int (nI (sp_c1 (sp_cl a f hr lt k h) a c i (m, fi)).1), .int (sp_c1 (sp_cl a f hr lt k h) a c i (m, fi)).2, .int (nI a), v6], [], M) Q) → am_go 133 (24, [.ref 17, wv, .int (nI m), .int fi, .int (nI i), v5], [], M) Q := by
  obtain ⟨hF, hA, hHr, hHs, hLt, hK, hH⟩ := id hS
  obtain ⟨oA, oF, oHr, oLt, oK, oH⟩ := id hO
  intro c
  induction c with
  | zero =>
    intro i m fi v5 h1 h2 kk
    have ei : i = a := by omega
    refine am_goQ 0 (s1 := (24, [.ref 17, wv, .int (nI m), .int fi, .int (nI i), v5], [], M)) (s2 := (24, [.ref 17, wv, .int (nI m), .int fi, .int (nI i), v5], [], M)) rfl rfl ?_
    refine am_goQ 3 (s1 := (30, [.ref 17, wv, .int (nI m), .int (fi), .int (nI i), v5], [.int ((M 17 3)), .int (nI i)], M)) (s2 := (30, [.ref 17, wv, .int (nI m), .int (fi), .int (nI i), v5], [.int (nI a), .int (nI i)], M)) rfl (by simp only [hA]) ?_
    refine am_bLE (a) (i) (s1 := (129, [.ref 17, wv, .int (nI m), .int (fi), .int (nI i), v5], [], M)) (s2 := (33, [.ref 17, wv, .int (nI m), .int (fi), .int (nI i), v5], [], M)) rfl (by omega) (by omega) (fun c1 => ?_) (fun c1 => absurd c1 (by omega))
    rw [ei]
    exact kk v5
  | succ c ih =>
    intro i m fi v5 h1 h2 kk
    have hia : i < a := by omega
    refine am_goQ 3 (s1 := (30, [.ref 17, wv, .int (nI m), .int (fi), .int (nI i), v5], [.int ((M 17 3)), .int (nI i)], M)) (s2 := (30, [.ref 17, wv, .int (nI m), .int (fi), .int (nI i), v5], [.int (nI a), .int (nI i)], M)) rfl (by simp only [hA]) ?_
    refine am_bLE (a) (i) (s1 := (129, [.ref 17, wv, .int (nI m), .int (fi), .int (nI i), v5], [], M)) (s2 := (33, [.ref 17, wv, .int (nI m), .int (fi), .int (nI i), v5], [], M)) rfl (by omega) (by omega) (fun c1 => absurd c1 (by omega)) (fun c1 => ?_)
    refine am_goQ 4 (s1 := (39, [.ref 17, wv, .int (nI m), .int (fi), .int (nI i), .int ((nI i + nI 1))], [], M)) (s2 := (39, [.ref 17, wv, .int (nI m), .int (fi), .int (nI i), .int (nI (i + 1))], [], M)) rfl (by simp only [nI_add]) ?_
    refine r_ci2 hS hO oD (by omega) (a - (i + 1)) (i + 1) m fi (by omega) (by omega) (by omega) ?_
    have hle := sp_c2_le (p := (sp_cl a f hr lt k h)) (i := i) (a - (i + 1)) (i + 1) (m, fi)
    dsimp only at hle
    refine am_goQ 2 (s1 := (24, [.ref 17, wv, .int (nI (sp_c2 (sp_cl a f hr lt k h) i (a - (i + 1)) (i + 1) (m, fi)).1), .int (sp_c2 (sp_cl a f hr lt k h) i (a - (i + 1)) (i + 1) (m, fi)).2, .int (nI i + nI 1), .int (nI a)], [], M)) (s2 := (24, [.ref 17, wv, .int (nI (sp_c2 (sp_cl a f hr lt k h) i (a - (i + 1)) (i + 1) (m, fi)).1), .int (sp_c2 (sp_cl a f hr lt k h) i (a - (i + 1)) (i + 1) (m, fi)).2, .int (nI (i + 1)), .int (nI a)], [], M)) rfl (by rw [nI_add]) ?_
    exact ih (i + 1) _ _ _ (by omega) (by omega) (fun v6 => by have z := kk v6; rw [sp_c1] at z; exact z)
set_option maxHeartbeats 4000000 in
theorem r_closedIn_v0 {M : am_Mem} {a f hr hs lt : Nat} {k h : Nat → Nat} (hS : sp_M M a f hr hs lt k h) (hO : sp_ok a f hr lt k h) (oD : ∀ p q, p < 2 * a → q < 2 * a → h p = h q → p = q)  : am_go 133 (am_ent 133 [.ref 17, .int (nI 0)] M) (am_is (nI (sp_c1 (sp_cl a f hr lt k h) a a 0 (0, -nI 9)).1) M) := by
  obtain ⟨hF, hA, hHr, hHs, hLt, hK, hH⟩ := id hS
  obtain ⟨oA, oF, oHr, oLt, oK, oH⟩ := id hO
  refine am_goR 3 (s2 := (3, [.ref 17, .int (nI 0), .null, .null, .null, .null], [.int (nI 1), .int (nI 0), .int (nI 0)], M)) rfl ?_
  refine am_goX (v := nI 1) (M2 := M) (s2 := (6, [.ref 17, .int (nI 0), .null, .null, .null, .null], [], M)) rfl (t_isIn1 (x := 0) (by omega)) ?_
  refine am_goR 7 (s2 := (24, [.ref 17, .int (nI 0), .int (nI 0), .int ((-nI 9)), .int (nI 0), .null], [], M)) rfl ?_
  refine r_ci1 hS hO oD a 0 0 (-nI 9) _ (by omega) (by omega) (fun v6 => ?_)
  refine am_goR 4 (s2 := (138, [.ref 17, .int (nI 0), .int (nI (sp_c1 (sp_cl a f hr lt k h) a a 0 (0, -nI 9)).1), .int (sp_c1 (sp_cl a f hr lt k h) a a 0 (0, -nI 9)).2, .int (nI a), v6], [.int (nI (sp_c1 (sp_cl a f hr lt k h) a a 0 (0, -nI 9)).1)], M)) rfl ?_
  exact am_ends _ _ rfl rfl rfl

set_option maxHeartbeats 4000000 in
theorem r_closedIn_v1 {M : am_Mem} {a f hr hs lt : Nat} {k h : Nat → Nat} (hS : sp_M M a f hr hs lt k h) (hO : sp_ok a f hr lt k h) (oD : ∀ p q, p < 2 * a → q < 2 * a → h p = h q → p = q)  : am_go 133 (am_ent 133 [.ref 17, .int (nI 1)] M) (am_is ((sp_c1 (sp_cl a f hr lt k h) a a 0 (0, -nI 9)).2) M) := by
  obtain ⟨hF, hA, hHr, hHs, hLt, hK, hH⟩ := id hS
  obtain ⟨oA, oF, oHr, oLt, oK, oH⟩ := id hO
  refine am_goR 3 (s2 := (3, [.ref 17, .int (nI 1), .null, .null, .null, .null], [.int (nI 1), .int (nI 0), .int (nI 1)], M)) rfl ?_
  refine am_goX (v := nI 1) (M2 := M) (s2 := (6, [.ref 17, .int (nI 1), .null, .null, .null, .null], [], M)) rfl (t_isIn1 (x := 1) (by omega)) ?_
  refine am_goR 7 (s2 := (24, [.ref 17, .int (nI 1), .int (nI 0), .int ((-nI 9)), .int (nI 0), .null], [], M)) rfl ?_
  refine r_ci1 hS hO oD a 0 0 (-nI 9) _ (by omega) (by omega) (fun v6 => ?_)
  refine am_goR 3 (s2 := (138, [.ref 17, .int (nI 1), .int (nI (sp_c1 (sp_cl a f hr lt k h) a a 0 (0, -nI 9)).1), .int (sp_c1 (sp_cl a f hr lt k h) a a 0 (0, -nI 9)).2, .int (nI a), v6], [.int ((sp_c1 (sp_cl a f hr lt k h) a a 0 (0, -nI 9)).2)], M)) rfl ?_
  exact am_ends _ _ rfl rfl rfl

set_option maxHeartbeats 4000000 in
theorem c_closedIn_0 {M : am_Mem} {a f hr hs lt : Nat} {k h : Nat → Nat} (hS : sp_S 1 M a f hr hs lt k h) (hO : sp_ok a f hr lt k h) {x : Int32} (hx : am_in x 2 = false) (h0 : ¬ x = 0) (h1 : ¬ x = nI 1) : am_go 66 (am_ent 66 [.ref 0, .int (x)] M) (am_is (-nI 2) (am_set M 16 2 (M 16 2 + nI 1))) := by
  obtain ⟨hF, hA, hHr, hHs, hLt, hK, hH⟩ := id hS
  obtain ⟨oA, oF, oHr, oLt, oK, oH⟩ := id hO
  refine am_goR 1 (s2 := (1, [.ref 0, .int (x), .null, .null, .null, .null], [.int (x)], M)) rfl ?_
  refine am_bF (P := x = 0) (s1 := (16, [.ref 0, .int (x), .null, .null, .null, .null], [], M)) (s2 := (4, [.ref 0, .int (x), .null, .null, .null, .null], [], M)) rfl (h0) ?_
  refine am_goR 2 (s2 := (6, [.ref 0, .int (x), .null, .null, .null, .null], [.int (nI 1), .int (x)], M)) rfl ?_
  refine am_bF (P := x = nI 1) (s1 := (16, [.ref 0, .int (x), .null, .null, .null, .null], [], M)) (s2 := (9, [.ref 0, .int (x), .null, .null, .null, .null], [], M)) rfl (h1) ?_
  refine am_goR 2 (s2 := (12, [.ref 0, .int (x), .null, .null, .null, .null], [.int ((-nI 2)), .ref 0], M)) rfl ?_
  refine am_goX (v := (-nI 2)) (M2 := (am_set M 16 2 (M 16 2 + nI 1))) (s2 := (15, [.ref 0, .int (x), .null, .null, .null, .null], [], M)) rfl (s_refuse_2) ?_
  exact am_ends (-nI 2) _ rfl rfl rfl

set_option maxHeartbeats 4000000 in
theorem r_closedIn_0 {M : am_Mem} {a f hr hs lt : Nat} {k h : Nat → Nat} (hS : sp_M M a f hr hs lt k h) (hO : sp_ok a f hr lt k h) (oD : ∀ p q, p < 2 * a → q < 2 * a → h p = h q → p = q) {x : Int32} (hx : am_in x 2 = false) (h0 : ¬ x = 0) (h1 : ¬ x = nI 1) : am_go 133 (am_ent 133 [.ref 17, .int (x)] M) (am_is (-nI 2) (am_set M 18 2 (M 18 2 + nI 1))) := by
  obtain ⟨hF, hA, hHr, hHs, hLt, hK, hH⟩ := id hS
  obtain ⟨oA, oF, oHr, oLt, oK, oH⟩ := id hO
  refine am_goR 3 (s2 := (3, [.ref 17, .int (x), .null, .null, .null, .null], [.int (nI 1), .int (nI 0), .int (x)], M)) rfl ?_
  refine am_goX (v := am_b (am_in x 2)) (M2 := M) (s2 := (6, [.ref 17, .int (x), .null, .null, .null, .null], [], M)) rfl (t_isInX (n := 1) (by decide)) ?_
  refine am_bB1 (am_in x 2) (s1 := (16, [.ref 17, .int (x), .null, .null, .null, .null], [], M)) (s2 := (9, [.ref 17, .int (x), .null, .null, .null, .null], [], M)) rfl (fun c1 => absurd c1 (by simp [*])) (fun c1 => ?_)
  refine am_goR 2 (s2 := (12, [.ref 17, .int (x), .null, .null, .null, .null], [.int ((-nI 2)), .ref 17], M)) rfl ?_
  refine am_goX (v := (-nI 2)) (M2 := (am_set M 18 2 (M 18 2 + nI 1))) (s2 := (15, [.ref 17, .int (x), .null, .null, .null, .null], [], M)) rfl (t_no_2) ?_
  exact am_ends (-nI 2) _ rfl rfl rfl

theorem pp_closedIn {M : am_Mem} (hI : sp_Inv M) (x : Int32) : sp_PP 66 133 [.int x] M := by
  obtain ⟨⟨⟨a, f, hr, hs, lt, k, h⟩, t, w2, n, tx, rn, ro, rf⟩, hC, hR, hG⟩ := hI
  have hO := hG.1.1
  have oD := hG.1.2.2.1
  have oFx := hG.1.2.2.2
  have oA := hO.1
  have oHs := hG.1.2.1
  dsimp only at oD oFx oA oHs
  have hO : sp_ok a f hr lt k h := hO
  rcases am_in_cs x (n := 2) (by omega) with hx | ⟨i, hi, rfl⟩
  · have h0 : ¬ x = 0 := fun z => by subst z; revert hx; decide +kernel
    have h1 : ¬ x = nI 1 := fun z => by subst z; revert hx; decide +kernel
    exact sp_PPr 2 (by decide) hC hR hG (c_closedIn_0 hC.1 hO hx h0 h1) (fun N hN => r_closedIn_0 hN.1 hO oD hx h0 h1)
  · rcases (show i = 0 ∨ i = 1 by omega) with rfl | rfl
    · exact sp_PP0 hC hR hG (c_closedIn_v0 hC.1 hO) (fun N hN => r_closedIn_v0 hN.1 hO oD)
    · exact sp_PP0 hC hR hG (c_closedIn_v1 hC.1 hO) (fun N hN => r_closedIn_v1 hN.1 hO oD)

