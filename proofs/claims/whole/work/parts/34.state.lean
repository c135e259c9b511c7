/-! the state of both, what a call must do -/
abbrev sp_Z : Type := sp_W × Bool × sp_W × Nat × (Nat → Nat) × Nat × (Nat → Nat) × (Nat → Int32)
def sp_fL (M N : am_Mem) : Prop := ∀ a b, 17 ≤ a → N a b = M a b
def sp_fH (M N : am_Mem) : Prop := ∀ a b, a < 17 → N a b = M a b
/-- the class's cells -/
def sp_IC (M : am_Mem) (z : sp_Z) : Prop := sp_SW 1 M z.1 ∧ M 0 3 = am_b z.2.1 ∧ (z.2.1 = true → sp_SW 7 M z.2.2.1) ∧ M 13 1 = nI z.2.2.2.1 ∧ (∀ q, q < 64 → M 14 q = nI (z.2.2.2.2.1 q)) ∧ M 0 7 = nI z.2.2.2.2.2.1 ∧ (∀ q, q < 16 → M 15 q = nI (z.2.2.2.2.2.2.1 q)) ∧ ∀ q, q < 7 → M 16 q = z.2.2.2.2.2.2.2 q
/-- the reference's cells -/
def sp_IR (M : am_Mem) (z : sp_Z) : Prop := sp_MW M z.1 ∧ M 17 16 = am_b z.2.1 ∧ (z.2.1 = true → sp_KW M 0 z.2.2.1) ∧ M 17 12 = nI z.2.2.2.1 ∧ (∀ q, q < 64 → M 21 q = nI (z.2.2.2.2.1 q)) ∧ M 17 24 = nI z.2.2.2.2.2.1 ∧ (∀ q, q < 16 → M 28 q = nI (z.2.2.2.2.2.2.1 q)) ∧ ∀ q, q < 7 → M 18 q = z.2.2.2.2.2.2.2 q
/-- what holds of the state -/
def sp_IG (z : sp_Z) : Prop := sp_go z.1 ∧ (z.2.1 = true → sp_go z.2.2.1) ∧ z.2.2.2.1 ≤ 64 ∧ (∀ q, z.2.2.2.2.1 q < 256) ∧ z.2.2.2.2.2.1 ≤ 16 ∧ ∀ q, z.2.2.2.2.2.2.1 q < 3112
def sp_Inv (M : am_Mem) : Prop := ∃ z : sp_Z, sp_IC M z ∧ sp_IR M z ∧ sp_IG z
/-- a call of both: the answers are one, the state goes on -/
def sp_PP (j1 j2 : Nat) (as : List Value) (M : am_Mem) : Prop := am_go j1 (am_ent j1 (.ref 0 :: as) M) (am_ri (fun x N => am_go j2 (am_ent j2 (.ref 17 :: as) N) (am_ri (fun y O => x = y ∧ sp_Inv O))))
def sp_cP (M : am_Mem) (v : Int32) (z : sp_Z) : Option Value → am_Mem → Prop := am_ri (fun x N => x = v ∧ sp_fL M N ∧ sp_IC N z)
def sp_rP (M : am_Mem) (v : Int32) (z : sp_Z) : Option Value → am_Mem → Prop := am_ri (fun x N => x = v ∧ sp_fH M N ∧ sp_IR N z)
theorem sp_SW.fr {c : Nat} {M N : am_Mem} {w : sp_W} (h : sp_SW c M w) (hf : ∀ a b, a = c ∨ a = c + 1 ∨ a = c + 2 → N a b = M a b) : sp_SW c N w := ⟨(hf _ _ (Or.inl rfl)).trans h.1, (hf _ _ (Or.inl rfl)).trans h.2.1, (hf _ _ (Or.inl rfl)).trans h.2.2.1, (hf _ _ (Or.inl rfl)).trans h.2.2.2.1, (hf _ _ (Or.inl rfl)).trans h.2.2.2.2.1, fun q hq => (hf _ _ (Or.inr (Or.inl rfl))).trans (h.2.2.2.2.2.1 q hq), fun q hq => (hf _ _ (Or.inr (Or.inr rfl))).trans (h.2.2.2.2.2.2 q hq)⟩
theorem sp_MW.fr {M N : am_Mem} {w : sp_W} (h : sp_MW M w) (hf : ∀ a b, a = 19 ∨ a = 20 ∨ (a = 17 ∧ 3 ≤ b ∧ b ≤ 7) → N a b = M a b) : sp_MW N w := ⟨(hf _ _ (by omega)).trans h.1, (hf _ _ (by omega)).trans h.2.1, (hf _ _ (by omega)).trans h.2.2.1, (hf _ _ (by omega)).trans h.2.2.2.1, (hf _ _ (by omega)).trans h.2.2.2.2.1, fun q hq => (hf _ _ (by omega)).trans (h.2.2.2.2.2.1 q hq), fun q hq => (hf _ _ (by omega)).trans (h.2.2.2.2.2.2 q hq)⟩
theorem sp_KW.fr2 {M N : am_Mem} {w : sp_W} (h : sp_KW M 0 w) (hf : ∀ b, b < 20 → N 25 b = M 25 b) : sp_KW N 0 w := ⟨fun q hq => (hf _ (by omega)).trans (h.1 q hq), fun q hq => (hf _ (by omega)).trans (h.2.1 q hq), (hf _ (by omega)).trans h.2.2.1, (hf _ (by omega)).trans h.2.2.2.1, (hf _ (by omega)).trans h.2.2.2.2.1, (hf _ (by omega)).trans h.2.2.2.2.2.1, (hf _ (by omega)).trans h.2.2.2.2.2.2⟩
/-- cells that the class writes and that carry nothing on -/
def sp_sC (a b : Nat) : Prop := a = 4 ∨ a = 5 ∨ a = 6 ∨ a = 10 ∨ a = 11 ∨ a = 12 ∨ (a = 13 ∧ 2 ≤ b) ∨ (a = 0 ∧ 9 ≤ b) ∨ 17 ≤ a
def sp_sR (a b : Nat) : Prop := a < 17 ∨ a = 22 ∨ a = 23 ∨ a = 24 ∨ (a = 25 ∧ 20 ≤ b) ∨ a = 26 ∨ a = 27 ∨ a = 29 ∨ (a = 17 ∧ (b = 13 ∨ b = 14 ∨ b = 17 ∨ b = 18 ∨ b = 21 ∨ b = 25 ∨ b = 26))
theorem sp_IC.fr {M N : am_Mem} {z : sp_Z} (h : sp_IC M z) (hf : ∀ a b, ¬ sp_sC a b → N a b = M a b) : sp_IC N z := by
  unfold sp_sC at hf
  exact ⟨h.1.fr (fun a b c => hf a b (by omega)), (hf _ _ (by omega)).trans h.2.1, fun t => (h.2.2.1 t).fr (fun a b c => hf a b (by omega)), (hf _ _ (by omega)).trans h.2.2.2.1, fun q hq => (hf _ _ (by omega)).trans (h.2.2.2.2.1 q hq), (hf _ _ (by omega)).trans h.2.2.2.2.2.1, fun q hq => (hf _ _ (by omega)).trans (h.2.2.2.2.2.2.1 q hq), fun q hq => (hf _ _ (by omega)).trans (h.2.2.2.2.2.2.2 q hq)⟩
theorem sp_IR.fr {M N : am_Mem} {z : sp_Z} (h : sp_IR M z) (hf : ∀ a b, ¬ sp_sR a b → N a b = M a b) : sp_IR N z := by
  unfold sp_sR at hf
  exact ⟨h.1.fr (fun a b c => hf a b (by omega)), (hf _ _ (by omega)).trans h.2.1, fun t => (h.2.2.1 t).fr2 (fun b c => hf 25 b (by omega)), (hf _ _ (by omega)).trans h.2.2.2.1, fun q hq => (hf _ _ (by omega)).trans (h.2.2.2.2.1 q hq), (hf _ _ (by omega)).trans h.2.2.2.2.2.1, fun q hq => (hf _ _ (by omega)).trans (h.2.2.2.2.2.2.1 q hq), fun q hq => (hf _ _ (by omega)).trans (h.2.2.2.2.2.2.2 q hq)⟩
/-- a new stand, the rest as it was -/
theorem sp_IC.st {M N : am_Mem} {w : sp_W} {z : Bool × sp_W × Nat × (Nat → Nat) × Nat × (Nat → Nat) × (Nat → Int32)} {w9 : sp_W} (h : sp_IC M (w, z)) (hS : sp_SW 1 N w9) (hf : ∀ a b, ¬ sp_sC a b → ¬ a = 1 → ¬ a = 2 → ¬ a = 3 → N a b = M a b) : sp_IC N (w9, z) := by
  unfold sp_sC at hf
  exact ⟨hS, (hf _ _ (by omega) (by omega) (by omega) (by omega)).trans h.2.1, fun t => (h.2.2.1 t).fr (fun a b c => hf a b (by omega) (by omega) (by omega) (by omega)), (hf _ _ (by omega) (by omega) (by omega) (by omega)).trans h.2.2.2.1, fun q hq => (hf _ _ (by omega) (by omega) (by omega) (by omega)).trans (h.2.2.2.2.1 q hq), (hf _ _ (by omega) (by omega) (by omega) (by omega)).trans h.2.2.2.2.2.1, fun q hq => (hf _ _ (by omega) (by omega) (by omega) (by omega)).trans (h.2.2.2.2.2.2.1 q hq), fun q hq => (hf _ _ (by omega) (by omega) (by omega) (by omega)).trans (h.2.2.2.2.2.2.2 q hq)⟩
theorem sp_IR.st {M N : am_Mem} {w : sp_W} {z : Bool × sp_W × Nat × (Nat → Nat) × Nat × (Nat → Nat) × (Nat → Int32)} {w9 : sp_W} (h : sp_IR M (w, z)) (hS : sp_MW N w9) (hf : ∀ a b, ¬ sp_sR a b → ¬ a = 19 → ¬ a = 20 → ¬ (a = 17 ∧ 3 ≤ b ∧ b ≤ 7) → N a b = M a b) : sp_IR N (w9, z) := by
  unfold sp_sR at hf
  exact ⟨hS, (hf _ _ (by omega) (by omega) (by omega) (by omega)).trans h.2.1, fun t => (h.2.2.1 t).fr2 (fun b c => hf 25 b (by omega) (by omega) (by omega) (by omega)), (hf _ _ (by omega) (by omega) (by omega) (by omega)).trans h.2.2.2.1, fun q hq => (hf _ _ (by omega) (by omega) (by omega) (by omega)).trans (h.2.2.2.2.1 q hq), (hf _ _ (by omega) (by omega) (by omega) (by omega)).trans h.2.2.2.2.2.1, fun q hq => (hf _ _ (by omega) (by omega) (by omega) (by omega)).trans (h.2.2.2.2.2.2.1 q hq), fun q hq => (hf _ _ (by omega) (by omega) (by omega) (by omega)).trans (h.2.2.2.2.2.2.2 q hq)⟩
theorem sp_comb {j1 j2 : Nat} {as : List Value} {M : am_Mem} {v : Int32} {z z2 : sp_Z} (hR : sp_IR M z) (hc : am_go j1 (am_ent j1 (.ref 0 :: as) M) (sp_cP M v z2)) (hr : ∀ N, sp_IR N z → am_go j2 (am_ent j2 (.ref 17 :: as) N) (sp_rP N v z2)) (hG : sp_IG z2) : sp_PP j1 j2 as M := by
  refine am_goW hc (fun r N hN => ?_)
  obtain ⟨x, rfl, rfl, hL, hI⟩ := hN
  have hR2 : sp_IR N z := hR.fr (fun a b c => hL a b (by unfold sp_sR at c; omega))
  refine ⟨_, rfl, am_goW (hr N hR2) (fun r O hO => ?_)⟩
  obtain ⟨y, rfl, rfl, hH, hI2⟩ := hO
  exact ⟨_, rfl, rfl, z2, hI.fr (fun a b c => hH a b (by unfold sp_sC at c; omega)), hI2, hG⟩
theorem sp_cP0 {j : Nat} {s : am_St} {M : am_Mem} {v : Int32} {z : sp_Z} (hC : sp_IC M z) (h : am_go j s (am_is v M)) : am_go j s (sp_cP M v z) := am_goW h (fun r N hN => by
  obtain ⟨x, rfl, rfl, rfl⟩ := hN
  exact ⟨_, rfl, rfl, fun _ _ _ => rfl, hC⟩)
theorem sp_rP0 {j : Nat} {s : am_St} {M : am_Mem} {v : Int32} {z : sp_Z} (hC : sp_IR M z) (h : am_go j s (am_is v M)) : am_go j s (sp_rP M v z) := am_goW h (fun r N hN => by
  obtain ⟨x, rfl, rfl, rfl⟩ := hN
  exact ⟨_, rfl, rfl, fun _ _ _ => rfl, hC⟩)
/-- a refusal more -/
def sp_rf (rf : Nat → Int32) (r : Nat) : Nat → Int32 := fun q => if q = r then rf q + nI 1 else rf q
theorem sp_cPr {j : Nat} {s : am_St} {M : am_Mem} {w : sp_W} {t : Bool} {w2 : sp_W} {n : Nat} {tx : Nat → Nat} {rn : Nat} {ro : Nat → Nat} {rf : Nat → Int32} (r : Nat) (hr : r < 7) (hC : sp_IC M (w, t, w2, n, tx, rn, ro, rf)) (h : am_go j s (am_is (-nI r) (am_set M 16 r (M 16 r + nI 1)))) : am_go j s (sp_cP M (-nI r) (w, t, w2, n, tx, rn, ro, sp_rf rf r)) := am_goW h (fun q N hN => by
  obtain ⟨x, rfl, rfl, rfl⟩ := hN
  have hf : ∀ a b, ¬ a = 16 → am_set M 16 r (M 16 r + nI 1) a b = M a b := fun a b z => am_set_o (by omega)
  refine ⟨_, rfl, rfl, fun a b z => hf a b (by omega), hC.1.fr (fun a b c => hf a b (by omega)), (hf _ _ (by omega)).trans hC.2.1, fun t => (hC.2.2.1 t).fr (fun a b c => hf a b (by omega)), (hf _ _ (by omega)).trans hC.2.2.2.1, fun q hq => (hf _ _ (by omega)).trans (hC.2.2.2.2.1 q hq), (hf _ _ (by omega)).trans hC.2.2.2.2.2.1, fun q hq => (hf _ _ (by omega)).trans (hC.2.2.2.2.2.2.1 q hq), fun q hq => ?_⟩
  have h7 := hC.2.2.2.2.2.2.2
  dsimp only at h7 ⊢
  unfold sp_rf
  by_cases e : q = r
  · subst e; rw [am_set_s, if_pos rfl, h7 q hq]
  · rw [am_set_o (by omega), if_neg e, h7 q hq])
theorem sp_rPr {j : Nat} {s : am_St} {M : am_Mem} {w : sp_W} {t : Bool} {w2 : sp_W} {n : Nat} {tx : Nat → Nat} {rn : Nat} {ro : Nat → Nat} {rf : Nat → Int32} (r : Nat) (hr : r < 7) (hC : sp_IR M (w, t, w2, n, tx, rn, ro, rf)) (h : am_go j s (am_is (-nI r) (am_set M 18 r (M 18 r + nI 1)))) : am_go j s (sp_rP M (-nI r) (w, t, w2, n, tx, rn, ro, sp_rf rf r)) := am_goW h (fun q N hN => by
  obtain ⟨x, rfl, rfl, rfl⟩ := hN
  have hf : ∀ a b, ¬ a = 18 → am_set M 18 r (M 18 r + nI 1) a b = M a b := fun a b z => am_set_o (by omega)
  refine ⟨_, rfl, rfl, fun a b z => hf a b (by omega), hC.1.fr (fun a b c => hf a b (by omega)), (hf _ _ (by omega)).trans hC.2.1, fun t => (hC.2.2.1 t).fr2 (fun b c => hf 25 b (by omega)), (hf _ _ (by omega)).trans hC.2.2.2.1, fun q hq => (hf _ _ (by omega)).trans (hC.2.2.2.2.1 q hq), (hf _ _ (by omega)).trans hC.2.2.2.2.2.1, fun q hq => (hf _ _ (by omega)).trans (hC.2.2.2.2.2.2.1 q hq), fun q hq => ?_⟩
  have h7 := hC.2.2.2.2.2.2.2
  dsimp only at h7 ⊢
  unfold sp_rf
  by_cases e : q = r
  · subst e; rw [am_set_s, if_pos rfl, h7 q hq]
  · rw [am_set_o (by omega), if_neg e, h7 q hq])
/-- a call that both refuse; a call that changes nothing -/
theorem sp_PPr {j1 j2 : Nat} {as : List Value} {M : am_Mem} {z : sp_Z} (r : Nat) (hr : r < 7) (hC : sp_IC M z) (hR : sp_IR M z) (hG : sp_IG z) (h1 : am_go j1 (am_ent j1 (.ref 0 :: as) M) (am_is (-nI r) (am_set M 16 r (M 16 r + nI 1)))) (h2 : ∀ N, sp_IR N z → am_go j2 (am_ent j2 (.ref 17 :: as) N) (am_is (-nI r) (am_set N 18 r (N 18 r + nI 1)))) : sp_PP j1 j2 as M := by
  obtain ⟨w, t, w2, n, tx, rn, ro, rf⟩ := z
  exact sp_comb (z2 := (w, t, w2, n, tx, rn, ro, sp_rf rf r)) hR (sp_cPr r hr hC h1) (fun N hN => sp_rPr r hr hN (h2 N hN)) hG
theorem sp_PP0 {j1 j2 : Nat} {as : List Value} {M : am_Mem} {z : sp_Z} {v : Int32} (hC : sp_IC M z) (hR : sp_IR M z) (hG : sp_IG z) (h1 : am_go j1 (am_ent j1 (.ref 0 :: as) M) (am_is v M)) (h2 : ∀ N, sp_IR N z → am_go j2 (am_ent j2 (.ref 17 :: as) N) (am_is v N)) : sp_PP j1 j2 as M := sp_comb hR (sp_cP0 hC h1) (fun N hN => sp_rP0 hN (h2 N hN)) hG
theorem am_in_cs (x : Int32) {n : Nat} (hn : n < 2147483648) : am_in x n = false ∨ ∃ i : Nat, i < n ∧ x = nI i := by
  cases e : am_in x n with
  | false => exact Or.inl rfl
  | true => exact Or.inr (am_in_of hn e)

