/-! a told beam: all its statements, as the class reads and tells them -/
def sp_pz (tx : Nat → Nat) (n : Nat) : Nat → Nat | 0 => 0 | j + 1 => sp_pe tx n (sp_pz tx n j)
def sp_cy (tx : Nat → Nat) (n : Nat) : Nat → Nat → Bool × Nat | 0, i => (true, i) | c + 1, i => if sp_pz tx n i < n ∨ i = 0 then (if sp_pk tx n (sp_pz tx n i) = true then sp_cy tx n c (i + 1) else (false, i)) else (true, i)
def sp_t3 (tx : Nat → Nat) (n p : Nat) (w : sp_W) : Option sp_W := sp_tl w (tx p) (sp_kd tx n (p + 1)) (sp_sx tx n p) (sp_sy tx n p)
def sp_ru (tx : Nat → Nat) (n : Nat) : Nat → Nat → sp_W → Nat ⊕ sp_W | 0, _, w => .inr w | m + 1, i, w => match sp_t3 tx n (sp_pz tx n i) w with | none => .inl i | some w2 => sp_ru tx n m (i + 1) w2
def sp_bm (tx : Nat → Nat) (n : Nat) (w : sp_W) : Int32 × Option sp_W := match sp_cy tx n 30 0 with
  | (false, j) => (-nI 1000 - nI (sp_pe tx n (sp_pz tx n j)), none)
  | (true, j) => match sp_ru tx n j 0 w with
    | .inl q => (-nI 2000 - nI (sp_pz tx n q), none)
    | .inr w2 => (nI j, some w2)
theorem sp_cy_1 {tx : Nat → Nat} {n c i : Nat} (h : sp_pz tx n i < n ∨ i = 0) (hk : sp_pk tx n (sp_pz tx n i) = true) : sp_cy tx n (c + 1) i = sp_cy tx n c (i + 1) := by rw [sp_cy, if_pos h, if_pos hk]
theorem sp_cy_2 {tx : Nat → Nat} {n c i : Nat} (h : sp_pz tx n i < n ∨ i = 0) (hk : sp_pk tx n (sp_pz tx n i) = false) : sp_cy tx n (c + 1) i = (false, i) := by rw [sp_cy, if_pos h, if_neg (by rw [hk]; decide)]
theorem sp_cy_3 {tx : Nat → Nat} {n c i : Nat} (h : ¬ (sp_pz tx n i < n ∨ i = 0)) : sp_cy tx n (c + 1) i = (true, i) := by rw [sp_cy, if_neg h]
theorem sp_nl_3 {tx : Nat → Nat} {n q : Nat} (h : ¬ sp_nl tx n q = 0) : 1 ≤ sp_nl tx n q ∧ sp_nl tx n q ≤ 2 ∧ q + sp_nl tx n q ≤ n := by
  have a1 := sp_nl_n0 h
  have a2 := sp_dg_of a1
  cases hd : sp_dg tx n (q + 1) with
  | true =>
    have a3 := sp_dg_of hd
    rw [(sp_nl_2 a1 hd).1]; omega
  | false => rw [(sp_nl_1 a1 hd).1]; omega
theorem sp_pe_le {tx : Nat → Nat} {n p : Nat} (hp : p ≤ n) : p ≤ sp_pe tx n p ∧ sp_pe tx n p ≤ n := by
  unfold sp_pe
  split
  · next h =>
    have h1 := sp_is_lt h
    have h2 := sp_ae_le (tx := tx) (n := n) (q := p + 1) (by omega)
    split
    · next h3 =>
      rw [Bool.and_eq_true] at h3
      have h4 := sp_is_lt h3.2
      omega
    · omega
  · split
    · next h =>
      have h1 : p < n := by
        unfold sp_so at h
        rw [Bool.or_eq_true, Bool.or_eq_true] at h
        rcases h with h | h | h <;> exact (sp_is_lt h).1
      split
      · omega
      · next h2 =>
        have h3 := sp_nl_3 h2
        split
        · next h4 => have := sp_is_lt h4; omega
        · omega
    · omega
/-- what a good statement is -/
theorem sp_pk_f {tx : Nat → Nat} {n p : Nat} (h : sp_pk tx n p = true) : p < n ∧ p + 3 ≤ sp_pe tx n p ∧ (tx p = 97 ∨ tx p = 106 ∨ tx p = 104 ∨ tx p = 100) ∧ (tx p = 97 → sp_kd tx n (p + 1) < 6 ∧ sp_sy tx n p < 100) ∧ sp_sx tx n p < 100 := by
  unfold sp_pk at h
  split at h
  · next h1 =>
    have h2 := sp_is_lt h1
    have hh := h
    rw [Bool.and_eq_true] at h
    have h3 := h.1
    unfold sp_ak at h3
    simp only [Bool.and_eq_true, decide_eq_true_eq, Bool.not_eq_true', decide_eq_false_iff_not] at h3
    obtain ⟨k1, k2, k3, k4⟩ := h3
    have e1 := sp_ae_le (tx := tx) (n := n) (q := p + 1) (by omega)
    have n1 := sp_nl_3 k2
    have e2 : sp_pe tx n p = sp_ae tx n (p + 1) + 1 := by unfold sp_pe; rw [if_pos h1, if_pos hh]
    have e3 : p + 1 + 1 ≤ sp_ae tx n (p + 1) := by
      unfold sp_ae
      rw [if_pos k1, if_neg k2, if_pos k3]
      omega
    refine ⟨h2.1, by omega, Or.inl h2.2, fun _ => ⟨k1, sp_nv_lt k4⟩, ?_⟩
    unfold sp_sx
    rw [if_pos h2.2]
    exact sp_nv_lt k2
  · next h0 =>
    split at h
    · next h1 =>
      have h2 : p < n ∧ (tx p = 106 ∨ tx p = 104 ∨ tx p = 100) := by
        unfold sp_so at h1
        rw [Bool.or_eq_true, Bool.or_eq_true] at h1
        rcases h1 with h | h | h
        · exact ⟨(sp_is_lt h).1, Or.inl (sp_is_lt h).2⟩
        · exact ⟨(sp_is_lt h).1, Or.inr (Or.inl (sp_is_lt h).2)⟩
        · exact ⟨(sp_is_lt h).1, Or.inr (Or.inr (sp_is_lt h).2)⟩
      simp only [Bool.and_eq_true, Bool.not_eq_true', decide_eq_false_iff_not] at h
      have n1 := sp_nl_3 h.1
      have e2 : sp_pe tx n p = p + 1 + sp_nl tx n (p + 1) + 1 := by unfold sp_pe; rw [if_neg h0, if_pos h1, if_neg h.1, if_pos h.2]
      refine ⟨h2.1, by omega, Or.inr h2.2, fun z => by omega, ?_⟩
      unfold sp_sx
      rw [if_neg (by omega)]
      exact sp_nv_lt h.1
    · cases h
theorem sp_pz_3 {tx : Nat → Nat} {n : Nat} : ∀ i : Nat, (∀ q, q < i → sp_pk tx n (sp_pz tx n q) = true) → 3 * i ≤ sp_pz tx n i ∧ sp_pz tx n i ≤ n := by
  intro i
  induction i with
  | zero => intro _; exact ⟨Nat.le_refl _, Nat.zero_le _⟩
  | succ i ih =>
    intro hk
    have h1 := ih (fun q hq => hk q (by omega))
    have h2 := sp_pk_f (hk i (by omega))
    have h3 := sp_pe_le (tx := tx) (n := n) (p := sp_pz tx n i) h1.2
    show 3 * (i + 1) ≤ sp_pe tx n (sp_pz tx n i) ∧ sp_pe tx n (sp_pz tx n i) ≤ n
    omega
theorem sp_go.ru {tx : Nat → Nat} {n : Nat} : ∀ (m i : Nat) (w w2 : sp_W), sp_go w → (∀ q, q < i + m → sp_pk tx n (sp_pz tx n q) = true) → sp_ru tx n m i w = .inr w2 → sp_go w2 := by
  intro m
  induction m with
  | zero => intro i w w2 hg _ e; cases e; exact hg
  | succ m ih =>
    intro i w w2 hg hk e
    rw [sp_ru] at e
    cases e1 : sp_t3 tx n (sp_pz tx n i) w with
    | none => rw [e1] at e; cases e
    | some w3 =>
      rw [e1] at e
      have h1 := sp_pk_f (hk i (by omega))
      exact ih (i + 1) w3 w2 (hg.tl (fun z => (h1.2.2.2.1 z).1) e1) (fun q hq => hk q (by omega)) e
def sp_fT (M N : am_Mem) : Prop := ∀ a b, ¬ (a = 13 ∧ 2 ≤ b) → N a b = M a b
def sp_fU (M N : am_Mem) : Prop := ∀ a b, ¬ a = 4 → ¬ a = 5 → ¬ a = 6 → ¬ (a = 13 ∧ 2 ≤ b) → N a b = M a b
theorem s_tellOne {M : am_Mem} {w : sp_W} (hS : sp_SW 4 M w) (hO : sp_oW w) {b kd x y : Nat} (hb : b = 97 ∨ b = 106 ∨ b = 104 ∨ b = 100) (hB : M 13 3 = nI b) (hX : M 13 5 = nI x) (hx : x < 100) (hA : b = 97 → M 13 4 = nI kd ∧ kd < 6 ∧ M 13 6 = nI y ∧ y < 100) : am_go 40 (am_ent 40 [.ref 13, .ref 4] M) (am_ri (sp_tp M (sp_tl w b kd x y))) := by
  obtain ⟨a, f, hr, hs, lt, k, h⟩ := w
  rcases hb with rfl | rfl | rfl | rfl
  · exact s_one_a hS hO hB (hA rfl).1 (hA rfl).2.1 hX hx (hA rfl).2.2.1 (hA rfl).2.2.2
  · exact s_one_j hS hO hB hX hx
  · exact s_one_h hS hO hB hX hx
  · exact s_one_d hS hO hB hX hx
theorem t_comes {M : am_Mem} {w : sp_W} (hS : sp_MW M w) (hO : sp_oW w) {b kd x y i : Nat} (hi : i < 30) (hb : b = 97 ∨ b = 106 ∨ b = 104 ∨ b = 100) (hB : M 22 i = nI b) (hx : x < 100) (hA : b = 97 → M 24 (3 * i) = nI kd ∧ M 24 (3 * i + 1) = nI x ∧ M 24 (3 * i + 2) = nI y ∧ kd < 6 ∧ y < 100) (hN : ¬ b = 97 → M 24 (3 * i) = nI x) : am_go 109 (am_ent 109 [.ref 17, .int (nI i)] M) (am_ri (sp_rp M (sp_tl w b kd x y))) := by
  obtain ⟨a, f, hr, hs, lt, k, h⟩ := w
  rcases hb with rfl | rfl | rfl | rfl
  · exact t_comes_a hS hO hi hB (hA rfl).1 (hA rfl).2.1 (hA rfl).2.2.1 (hA rfl).2.2.2.1 hx (hA rfl).2.2.2.2
  · exact t_comes_j hS hO hi hB (hN (by decide)) hx
  · exact t_comes_h hS hO hi hB (hN (by decide)) hx
  · exact t_comes_d hS hO hi hB (hN (by decide)) hx

set_option maxHeartbeats 4000000 in
theorem s_tell1 {tx : Nat → Nat} {n : Nat} (hn : n ≤ 64) (hx : ∀ q, tx q < 256) {v4 : Value} {Q : Option Value → am_Mem → Prop} : ∀ (c i : Nat) (M : am_Mem), c + i = 30 → (∀ q, q < i → sp_pk tx n (sp_pz tx n q) = true) → M 13 1 = nI n → (∀ q, q < 64 → M 14 q = nI (tx q)) → M 13 2 = nI (sp_pz tx n i) →
    (∀ (N : am_Mem) (m0 : Nat), sp_cy tx n c i = (true, m0) → (∀ q, q < m0 → sp_pk tx n (sp_pz tx n q) = true) → sp_fT M N → am_go 39 (58, [.ref 13, .ref 4, .int (nI m0), .int (nI m0), v4], [], N) Q) →
    (∀ (N : am_Mem) (m0 : Nat), sp_cy tx n c i = (false, m0) → sp_fT M N → Q (some (.int (-nI 1000 - nI (sp_pe tx n (sp_pz tx n m0))))) N) →
    am_go 39 (9, [.ref 13, .ref 4, .int (nI i), .int (nI i), v4], [], M) Q := by
  intro c
  induction c with
  | zero =>
    intro i M h1 hk
    have := sp_pz_3 i hk
    omega
  | succ c ih =>
    intro i M h1 hk hL hT hP kT kF
    have hb := sp_pz_3 i hk
    have hpe := sp_pe_le (tx := tx) (n := n) (p := sp_pz tx n i) hb.2
    refine am_goR 4 (s2 := (15, [.ref 13, .ref 4, .int (nI i), .int (nI i), v4], [.int (nI 64), .int (nI i)], M)) rfl ?_
    refine am_bLT (64) (i) (s1 := (58, [.ref 13, .ref 4, .int (nI i), .int (nI i), v4], [], M)) (s2 := (18, [.ref 13, .ref 4, .int (nI i), .int (nI i), v4], [], M)) rfl (by omega) (by omega) (fun c1 => absurd c1 (by omega)) (fun c1 => ?_)
    refine am_goQ 4 (s1 := (26, [.ref 13, .ref 4, .int (nI i), .int (nI i), v4], [.int ((M 13 1)), .int ((M 13 2))], M)) (s2 := (26, [.ref 13, .ref 4, .int (nI i), .int (nI i), v4], [.int (nI n), .int (nI (sp_pz tx n i))], M)) rfl (by simp only [hL, hP]) ?_
    refine am_bLT ((sp_pz tx n i)) (n) (s1 := (33, [.ref 13, .ref 4, .int (nI i), .int (nI i), v4], [], M)) (s2 := (29, [.ref 13, .ref 4, .int (nI i), .int (nI i), v4], [], M)) rfl (by omega) (by omega) (fun c2 => ?_) (fun c2 => ?_)
    · refine am_goR 1 (s2 := (34, [.ref 13, .ref 4, .int (nI i), .int (nI i), v4], [.ref 13], M)) rfl ?_
      refine am_goC (s2 := (37, [.ref 13, .ref 4, .int (nI i), .int (nI i), v4], [], M)) rfl (s_readStatement (M := M) hL hT hn hx (p := (sp_pz tx n i)) hP (by omega)) (fun wx M1 wh => ?_)
      obtain ⟨w0, w1, w2, w3⟩ := wh
      subst w0
      have hL1 : M1 13 1 = nI n := (w1 13 1 (by omega)).trans hL
      have hT1 : ∀ q, q < 64 → M1 14 q = nI (tx q) := fun q hq => (w1 14 q (by omega)).trans (hT q hq)
      refine am_bB1 (sp_pk tx n (sp_pz tx n i)) (s1 := (49, [.ref 13, .ref 4, .int (nI i), .int (nI i), v4], [], M1)) (s2 := (40, [.ref 13, .ref 4, .int (nI i), .int (nI i), v4], [], M1)) rfl (fun c3 => ?_) (fun c3 => ?_)
      · refine am_goQ 3 (s1 := (9, [.ref 13, .ref 4, .int ((nI i + nI 1)), .int ((nI i + nI 1)), v4], [], M1)) (s2 := (9, [.ref 13, .ref 4, .int (nI (i + 1)), .int (nI (i + 1)), v4], [], M1)) rfl (by simp only [nI_add]) ?_
        have hor : sp_pz tx n i < n ∨ i = 0 := by omega
        have hkk : ∀ q, q < i + 1 → sp_pk tx n (sp_pz tx n q) = true := fun q hq => by
          by_cases e : q = i
          · subst e; assumption
          · exact hk q (by omega)
        refine ih (i + 1) M1 (by omega) hkk hL1 hT1 w2 (fun N m0 e1 e2 e3 => kT N m0 ((sp_cy_1 hor (by assumption)).trans e1) e2 (fun a b z => (e3 a b z).trans (w1 a b z))) (fun N m0 e1 e3 => kF N m0 ((sp_cy_1 hor (by assumption)).trans e1) (fun a b z => (e3 a b z).trans (w1 a b z)))
      · refine am_goQ 4 (s1 := (48, [.ref 13, .ref 4, .int (nI i), .int (nI i), v4], [.int (((-nI 1000) - (M1 13 2)))], M1)) (s2 := (48, [.ref 13, .ref 4, .int (nI i), .int (nI i), v4], [.int (((-nI 1000) - nI (sp_pe tx n (sp_pz tx n i))))], M1)) rfl (by simp only [w2]) ?_
        exact am_goE _ _ rfl (kF M1 i (sp_cy_2 (by omega) (by assumption)) (fun a b z => w1 a b z))
    · refine am_goR 1 (s2 := (30, [.ref 13, .ref 4, .int (nI i), .int (nI i), v4], [.int (nI i)], M)) rfl ?_
      refine am_bNE (i) (0) (s1 := (58, [.ref 13, .ref 4, .int (nI i), .int (nI i), v4], [], M)) (s2 := (33, [.ref 13, .ref 4, .int (nI i), .int (nI i), v4], [], M)) rfl (by omega) (by omega) (fun c4 => ?_) (fun c4 => ?_)
      · exact kT M i (sp_cy_3 (by omega)) hk (fun a b z => rfl)
      · refine am_goR 1 (s2 := (34, [.ref 13, .ref 4, .int (nI i), .int (nI i), v4], [.ref 13], M)) rfl ?_
        refine am_goC (s2 := (37, [.ref 13, .ref 4, .int (nI i), .int (nI i), v4], [], M)) rfl (s_readStatement (M := M) hL hT hn hx (p := (sp_pz tx n i)) hP (by omega)) (fun wx M1 wh => ?_)
        obtain ⟨w0, w1, w2, w3⟩ := wh
        subst w0
        have hL1 : M1 13 1 = nI n := (w1 13 1 (by omega)).trans hL
        have hT1 : ∀ q, q < 64 → M1 14 q = nI (tx q) := fun q hq => (w1 14 q (by omega)).trans (hT q hq)
        refine am_bB1 (sp_pk tx n (sp_pz tx n i)) (s1 := (49, [.ref 13, .ref 4, .int (nI i), .int (nI i), v4], [], M1)) (s2 := (40, [.ref 13, .ref 4, .int (nI i), .int (nI i), v4], [], M1)) rfl (fun c5 => absurd c5 (fun z => by have := (sp_pk_f z).1; omega)) (fun c5 => ?_)
        refine am_goQ 4 (s1 := (48, [.ref 13, .ref 4, .int (nI i), .int (nI i), v4], [.int (((-nI 1000) - (M1 13 2)))], M1)) (s2 := (48, [.ref 13, .ref 4, .int (nI i), .int (nI i), v4], [.int (((-nI 1000) - nI (sp_pe tx n (sp_pz tx n i))))], M1)) rfl (by simp only [w2]) ?_
        exact am_goE _ _ rfl (kF M1 i (sp_cy_2 (by omega) (by assumption)) (fun a b z => w1 a b z))
theorem sp_SW.fT {M N : am_Mem} {w : sp_W} (h : sp_SW 4 M w) (hf : ∀ a b, ¬ (a = 13 ∧ 2 ≤ b) → N a b = M a b) : sp_SW 4 N w := ⟨(hf _ _ (by omega)).trans h.1, (hf _ _ (by omega)).trans h.2.1, (hf _ _ (by omega)).trans h.2.2.1, (hf _ _ (by omega)).trans h.2.2.2.1, (hf _ _ (by omega)).trans h.2.2.2.2.1, fun q hq => (hf _ _ (by omega)).trans (h.2.2.2.2.2.1 q hq), fun q hq => (hf _ _ (by omega)).trans (h.2.2.2.2.2.2 q hq)⟩
set_option maxHeartbeats 4000000 in
theorem s_tell2 {tx : Nat → Nat} {n : Nat} (hn : n ≤ 64) (hx : ∀ q, tx q < 256) {m0 : Nat} (hk : ∀ q, q < m0 → sp_pk tx n (sp_pz tx n q) = true) : ∀ (m : Nat), m ≤ m0 → ∀ (i : Nat) (M : am_Mem) (w : sp_W) (v4 : Value), i + m = m0 → M 13 1 = nI n → (∀ q, q < 64 → M 14 q = nI (tx q)) → M 13 2 = nI (sp_pz tx n i) → sp_SW 4 M w → sp_go w →
    am_go 39 (65, [.ref 13, .ref 4, .int (nI m0), .int (nI i), v4], [], M) (am_ri (fun x N => sp_fU M N ∧ match sp_ru tx n m i w with | .inl j => x = -nI 2000 - nI (sp_pz tx n j) | .inr w2 => x = nI m0 ∧ sp_SW 4 N w2)) := by
  have hbb := sp_pz_3 m0 hk
  intro m
  induction m using Nat.strongRecOn with
  | ind m ihs =>
    intro hm i M w v4 him hL hT hP hSW hg
    have ih : ∀ z, z < m → ∀ (i : Nat) (M : am_Mem) (w : sp_W) (v4 : Value), i + z = m0 → M 13 1 = nI n → (∀ q, q < 64 → M 14 q = nI (tx q)) → M 13 2 = nI (sp_pz tx n i) → sp_SW 4 M w → sp_go w → am_go 39 (65, [.ref 13, .ref 4, .int (nI m0), .int (nI i), v4], [], M) (am_ri (fun x N => sp_fU M N ∧ match sp_ru tx n z i w with | .inl j => x = -nI 2000 - nI (sp_pz tx n j) | .inr w2 => x = nI m0 ∧ sp_SW 4 N w2)) := fun z hz => ihs z hz (by omega)
    have hb := sp_pz_3 i (fun q hq => hk q (by omega))
    have hpe := sp_pe_le (tx := tx) (n := n) (p := sp_pz tx n i) hb.2
    have hki0 := fun z : i < m0 => hk i z
    refine am_goR 2 (s2 := (67, [.ref 13, .ref 4, .int (nI m0), .int (nI i), v4], [.int (nI m0), .int (nI i)], M)) rfl ?_
    refine am_bLE (m0) (i) (s1 := (104, [.ref 13, .ref 4, .int (nI m0), .int (nI i), v4], [], M)) (s2 := (70, [.ref 13, .ref 4, .int (nI m0), .int (nI i), v4], [], M)) rfl (by omega) (by omega) (fun c1 => ?_) (fun c1 => ?_)
    · refine am_goR 1 (s2 := (105, [.ref 13, .ref 4, .int (nI m0), .int (nI i), v4], [.int (nI m0)], M)) rfl ?_
      have em : m = 0 := by omega
      subst em
      exact am_goE _ _ rfl ⟨_, rfl, fun a b _ _ _ _ => rfl, rfl, hSW⟩
    · refine am_goQ 4 (s1 := (77, [.ref 13, .ref 4, .int (nI m0), .int (nI i), .int ((M 13 2))], [.ref 13], M)) (s2 := (77, [.ref 13, .ref 4, .int (nI m0), .int (nI i), .int (nI (sp_pz tx n i))], [.ref 13], M)) rfl (by simp only [hP]) ?_
      refine am_goC (s2 := (80, [.ref 13, .ref 4, .int (nI m0), .int (nI i), .int (nI (sp_pz tx n i))], [], M)) rfl (s_readStatement (M := M) hL hT hn hx (p := (sp_pz tx n i)) hP (by omega)) (fun wx M1 wh => ?_)
      obtain ⟨w0, w1, w2, w3⟩ := wh
      have hki := hki0 (by omega)
      have hpf := sp_pk_f hki
      rw [hki] at w0
      subst w0
      have hL1 : M1 13 1 = nI n := (w1 13 1 (by omega)).trans hL
      have hT1 : ∀ q, q < 64 → M1 14 q = nI (tx q) := fun q hq => (w1 14 q (by omega)).trans (hT q hq)
      refine am_goR 3 (s2 := (85, [.ref 13, .ref 4, .int (nI m0), .int (nI i), .int (nI (sp_pz tx n i))], [.ref 4, .ref 13], M1)) rfl ?_
      obtain ⟨w30, w31, w32⟩ := w3 hki
      rcases e9 : (sp_t3 tx n (sp_pz tx n i) w) with _ | wz
      · refine am_goC (s2 := (88, [.ref 13, .ref 4, .int (nI m0), .int (nI i), .int (nI (sp_pz tx n i))], [], M1)) rfl (s_tellOne (M := M1) (hSW.fT w1) hg.1 hpf.2.2.1 w30 w31 hpf.2.2.2.2 (fun z => ⟨(w32 z).1, (hpf.2.2.2.1 z).1, (w32 z).2, (hpf.2.2.2.1 z).2⟩)) (fun vx M2 vh => ?_)
        obtain ⟨v0, v1, v2⟩ := vh
        rw [show sp_tl w (tx (sp_pz tx n i)) (sp_kd tx n (sp_pz tx n i + 1)) (sp_sx tx n (sp_pz tx n i)) (sp_sy tx n (sp_pz tx n i)) = none from e9] at v0 v1
        subst v0
        refine am_goR 4 (s2 := (97, [.ref 13, .ref 4, .int (nI m0), .int (nI i), .int (nI (sp_pz tx n i))], [.int (((-nI 2000) - nI (sp_pz tx n i)))], M2)) rfl ?_
        cases m with
        | zero => omega
        | succ m =>
          refine am_goE _ _ rfl ⟨_, rfl, fun a b c1 c2 c3 c4 => (congrFun (v2 a c1 c2 c3) b).trans (w1 a b c4), ?_⟩
          rw [sp_ru, e9]
      · refine am_goC (s2 := (88, [.ref 13, .ref 4, .int (nI m0), .int (nI i), .int (nI (sp_pz tx n i))], [], M1)) rfl (s_tellOne (M := M1) (hSW.fT w1) hg.1 hpf.2.2.1 w30 w31 hpf.2.2.2.2 (fun z => ⟨(w32 z).1, (hpf.2.2.2.1 z).1, (w32 z).2, (hpf.2.2.2.1 z).2⟩)) (fun vx M2 vh => ?_)
        obtain ⟨v0, v1, v2⟩ := vh
        rw [show sp_tl w (tx (sp_pz tx n i)) (sp_kd tx n (sp_pz tx n i + 1)) (sp_sx tx n (sp_pz tx n i)) (sp_sy tx n (sp_pz tx n i)) = some wz from e9] at v0 v1
        subst v0
        refine am_goQ 3 (s1 := (65, [.ref 13, .ref 4, .int (nI m0), .int ((nI i + nI 1)), .int (nI (sp_pz tx n i))], [], M2)) (s2 := (65, [.ref 13, .ref 4, .int (nI m0), .int (nI (i + 1)), .int (nI (sp_pz tx n i))], [], M2)) rfl (by simp only [nI_add]) ?_
        cases m with
        | zero => omega
        | succ m =>
          have f2 : ∀ b, M2 13 b = M1 13 b := fun b => congrFun (v2 13 (by decide) (by decide) (by decide)) b
          have i1 := ih m (by omega) (i + 1) M2 wz (.int (nI (sp_pz tx n i))) (by omega) ((f2 1).trans hL1) (fun q hq => (congrFun (v2 14 (by decide) (by decide) (by decide)) q).trans (hT1 q hq)) ((f2 2).trans w2) (v1 wz rfl) (hg.tl (fun z => (hpf.2.2.2.1 z).1) e9)
          refine am_goW i1 (fun r9 O hr => ?_)
          obtain ⟨x, rfl, q1, q2⟩ := hr
          refine ⟨x, rfl, fun a b c1 c2 c3 c4 => (q1 a b c1 c2 c3 c4).trans ((congrFun (v2 a c1 c2 c3) b).trans (w1 a b c4)), ?_⟩
          rw [sp_ru, e9]
          exact q2
