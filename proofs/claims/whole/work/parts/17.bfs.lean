/-! the search over the places of one arm's hands, in pure words -/
/-- a part's hand goes: place p = 12 * (hand 0's joint) + (hand 1's joint) -/
def sp_e0 (ft R : Nat) (kp : Bool) (p j : Nat) : Bool := ft.testBit j && !decide (j = p / 12) && !decide (j = p % 12) && !kp && decide (sp_ds j (p % 12) ≤ R)
def sp_e1 (ft R p j : Nat) : Bool := ft.testBit j && !decide (j = p / 12) && !decide (j = p % 12) && decide (sp_ds j (p / 12) ≤ R)
def sp_ed (ft R : Nat) (kp : Bool) (p q : Nat) : Prop := ∃ j, j < 12 ∧ ((sp_e0 ft R kp p j = true ∧ q = 12 * j + p % 12) ∨ (sp_e1 ft R p j = true ∧ q = 12 * (p / 12) + j))
def sp_rn (E : Nat → Nat → Prop) (p0 : Nat) : Nat → Nat → Prop | 0, q => q = p0 | n + 1, q => ∃ p, sp_rn E p0 n p ∧ E p q
def sp_ct (p : Nat → Bool) : Nat → Nat | 0 => 0 | n + 1 => sp_ct p n + (if p n then 1 else 0)
theorem sp_ct_le (p : Nat → Bool) : ∀ n, sp_ct p n ≤ n := by
  intro n
  induction n with
  | zero => exact Nat.le_refl _
  | succ n ih => unfold sp_ct; split <;> omega
theorem sp_ct_lt {p : Nat → Bool} {x : Nat} (hx : p x = false) : ∀ n, x < n → sp_ct p n < n := by
  intro n
  induction n with
  | zero => intro h; omega
  | succ n ih =>
    intro h
    unfold sp_ct
    by_cases e : x = n
    · subst e
      rw [hx]
      have := sp_ct_le p x
      simp; omega
    · have := ih (by omega)
      split <;> omega
theorem sp_ct_set {p q : Nat → Bool} {x : Nat} (hx : p x = false) (hq : ∀ y, q y = if y = x then true else p y) : ∀ n, sp_ct q n = sp_ct p n + (if x < n then 1 else 0) := by
  intro n
  induction n with
  | zero => simp [sp_ct]
  | succ n ih =>
    unfold sp_ct
    rw [ih, hq n]
    by_cases e : n = x
    · subst e
      rw [if_pos rfl, hx, if_neg (Nat.lt_irrefl n), if_pos (Nat.lt_succ_self n)]
      simp
    · rw [if_neg e]
      by_cases h2 : x < n
      · simp only [h2, if_true, show x < n + 1 by omega]
        omega
      · simp only [h2, if_false, show ¬ x < n + 1 by omega]
        omega
/-- what holds of steps s and queue u of n all through -/
def sp_BI (E : Nat → Nat → Prop) (p0 : Nat) (s : Nat → Option Nat) (u : Nat → Nat) (n : Nat) : Prop :=
  n = sp_ct (fun p => (s p).isSome) 144 ∧ (∀ a, a < n → u a < 144 ∧ ∃ d, s (u a) = some d ∧ d ≤ a) ∧ (∀ p, p < 144 → ∀ d, s p = some d → ∃ a, a < n ∧ u a = p) ∧
  (∀ a b d e, a ≤ b → b < n → s (u a) = some d → s (u b) = some e → d ≤ e) ∧ (∀ p d, s p = some d → p < 144 ∧ sp_rn E p0 d p) ∧ s p0 = some 0
/-- a place is put behind the queue, if it has no steps yet -/
def sp_ps (s : Nat → Option Nat) (q v : Nat) : Nat → Option Nat := fun p => if p = q ∧ s q = none then some v else s p
def sp_pu (s : Nat → Option Nat) (u : Nat → Nat) (n q : Nat) : Nat → Nat := fun a => if a = n ∧ s q = none then q else u a
def sp_pn (s : Nat → Option Nat) (n q : Nat) : Nat := if s q = none then n + 1 else n
theorem sp_BI.le {E : Nat → Nat → Prop} {p0 : Nat} {s : Nat → Option Nat} {u : Nat → Nat} {n : Nat} (h : sp_BI E p0 s u n) : n ≤ 144 := by
  rw [h.1]
  exact sp_ct_le _ _
theorem sp_BI.room {E : Nat → Nat → Prop} {p0 : Nat} {s : Nat → Option Nat} {u : Nat → Nat} {n q : Nat} (h : sp_BI E p0 s u n) (hq : q < 144) (hs : s q = none) : n < 144 := by
  rw [h.1]
  exact sp_ct_lt (x := q) (by rw [hs]; rfl) 144 hq
theorem sp_BI.push {E : Nat → Nat → Prop} {p0 : Nat} {s : Nat → Option Nat} {u : Nat → Nat} {n t d q : Nat} (h : sp_BI E p0 s u n) (ht : t < n) (hd : s (u t) = some d) (h3 : ∀ b e, b < n → s (u b) = some e → e ≤ d + 1) (he : E (u t) q) (hq : q < 144) :
    sp_BI E p0 (sp_ps s q (d + 1)) (sp_pu s u n q) (sp_pn s n q) ∧ n ≤ sp_pn s n q ∧ (∀ a, a < n → sp_pu s u n q a = u a) ∧ (∀ p e, s p = some e → sp_ps s q (d + 1) p = some e) ∧ (∃ e, e ≤ d + 1 ∧ sp_ps s q (d + 1) q = some e) ∧ (∀ b e, b < sp_pn s n q → sp_ps s q (d + 1) (sp_pu s u n q b) = some e → e ≤ d + 1) := by
  cases hs : s q with
  | some e0 =>
    have e1 : sp_ps s q (d + 1) = s := by
      funext p
      unfold sp_ps
      rw [if_neg (fun z => by rw [hs] at z; cases z.2)]
    have e2 : sp_pu s u n q = u := by
      funext p
      unfold sp_pu
      rw [if_neg (fun z => by rw [hs] at z; cases z.2)]
    have e3 : sp_pn s n q = n := by
      unfold sp_pn
      rw [if_neg (fun z => by rw [hs] at z; cases z)]
    rw [e1, e2, e3]
    obtain ⟨a, ha, hua⟩ := h.2.2.1 q hq e0 hs
    exact ⟨h, Nat.le_refl n, fun _ _ => rfl, fun _ _ z => z, ⟨e0, h3 a e0 ha (by rw [hua]; exact hs), hs⟩, h3⟩
  | none =>
    have hn := h.room hq hs
    have e3 : sp_pn s n q = n + 1 := by unfold sp_pn; rw [if_pos hs]
    have hsq : ∀ p, sp_ps s q (d + 1) p = if p = q then some (d + 1) else s p := by
      intro p
      unfold sp_ps
      by_cases e : p = q
      · rw [if_pos ⟨e, hs⟩, if_pos e]
      · rw [if_neg (fun z => e z.1), if_neg e]
    have huq : ∀ a, sp_pu s u n q a = if a = n then q else u a := by
      intro a
      unfold sp_pu
      by_cases e : a = n
      · rw [if_pos ⟨e, hs⟩, if_pos e]
      · rw [if_neg (fun z => e z.1), if_neg e]
    have hold : ∀ p e, s p = some e → sp_ps s q (d + 1) p = some e := by
      intro p e hp
      rw [hsq, if_neg (fun z => by rw [z, hs] at hp; cases hp)]
      exact hp
    have hua : ∀ a, a < n → sp_pu s u n q a = u a := fun a ha => by rw [huq, if_neg (by omega)]
    have hun : sp_pu s u n q n = q := by rw [huq, if_pos rfl]
    have hsn : sp_ps s q (d + 1) q = some (d + 1) := by rw [hsq, if_pos rfl]
    obtain ⟨g1, g2, g3, g4, g5, g6⟩ := h
    obtain ⟨-, d0, hd0, hdt⟩ := g2 t ht
    have hdd : d0 = d := by rw [hd] at hd0; cases hd0; rfl
    subst hdd
    have new : ∀ b e, b < n + 1 → sp_ps s q (d0 + 1) (sp_pu s u n q b) = some e → e ≤ d0 + 1 := by
      intro b e hb hbe
      by_cases eb : b = n
      · rw [eb, hun, hsn] at hbe
        cases hbe
        exact Nat.le_refl _
      · rw [hua b (by omega)] at hbe
        obtain ⟨-, e2, h2, -⟩ := g2 b (by omega)
        rw [hold _ _ h2] at hbe
        cases hbe
        exact h3 b _ (by omega) h2
    rw [e3]
    refine ⟨⟨?_, fun a ha => ?_, fun p hp e hpe => ?_, fun a b e1 e2 hab hb ha1 hb1 => ?_, fun p e hpe => ?_, hold _ _ g6⟩, by omega, hua, hold, ⟨d0 + 1, Nat.le_refl _, hsn⟩, new⟩
    · rw [sp_ct_set (p := fun p => (s p).isSome) (q := fun p => (sp_ps s q (d0 + 1) p).isSome) (x := q) (by show (s q).isSome = false; rw [hs]; rfl) (fun y => by
        show (sp_ps s q (d0 + 1) y).isSome = if y = q then true else (s y).isSome
        rw [hsq]
        by_cases e : y = q
        · rw [if_pos e, if_pos e]; rfl
        · rw [if_neg e, if_neg e]) 144, if_pos hq, ← g1]
    · by_cases ea : a = n
      · rw [ea, hun]
        exact ⟨hq, d0 + 1, hsn, by omega⟩
      · rw [hua a (by omega)]
        obtain ⟨k1, d2, k2, k3⟩ := g2 a (by omega)
        exact ⟨k1, d2, hold _ _ k2, k3⟩
    · by_cases ep : p = q
      · exact ⟨n, by omega, by rw [hun, ep]⟩
      · rw [hsq, if_neg ep] at hpe
        obtain ⟨a, ha, hap⟩ := g3 p hp e hpe
        exact ⟨a, by omega, by rw [hua a ha, hap]⟩
    · by_cases eb : b = n
      · rw [eb, hun, hsn] at hb1
        cases hb1
        exact new a e1 (by omega) ha1
      · rw [hua b (by omega)] at hb1
        rw [hua a (by omega)] at ha1
        obtain ⟨-, d2, k2, -⟩ := g2 b (by omega)
        obtain ⟨-, d3, k3, -⟩ := g2 a (by omega)
        rw [hold _ _ k2] at hb1
        rw [hold _ _ k3] at ha1
        cases hb1
        cases ha1
        exact g4 a b _ _ hab (by omega) k3 k2
    · by_cases ep : p = q
      · rw [ep, hsn] at hpe
        cases hpe
        rw [ep]
        exact ⟨hq, u t, (g5 _ _ hd).2, he⟩
      · rw [hsq, if_neg ep] at hpe
        exact g5 p e hpe
/-- the steps that a search leaves: sound, from the start, closed -/
def sp_DI (E : Nat → Nat → Prop) (p0 : Nat) (s : Nat → Option Nat) : Prop := (∀ p d, s p = some d → p < 144 ∧ sp_rn E p0 d p) ∧ s p0 = some 0 ∧ ∀ p q d, s p = some d → E p q → ∃ e, e ≤ d + 1 ∧ s q = some e
theorem sp_DI.le {E : Nat → Nat → Prop} {p0 : Nat} {s : Nat → Option Nat} (h : sp_DI E p0 s) : ∀ d p, sp_rn E p0 d p → ∃ e, e ≤ d ∧ s p = some e := by
  intro d
  induction d with
  | zero =>
    intro p hp
    have : p = p0 := hp
    rw [this]
    exact ⟨0, Nat.le_refl 0, h.2.1⟩
  | succ d ih =>
    intro p hp
    obtain ⟨q, hq, he⟩ := hp
    obtain ⟨e, h1, h2⟩ := ih q hq
    obtain ⟨e2, h3, h4⟩ := h.2.2 q p e h2 he
    exact ⟨e2, by omega, h4⟩
theorem sp_DI.same {E : Nat → Nat → Prop} {p0 : Nat} {s s2 : Nat → Option Nat} (h : sp_DI E p0 s) (h2 : sp_DI E p0 s2) : s = s2 := by
  have key : ∀ (s s2 : Nat → Option Nat), sp_DI E p0 s → sp_DI E p0 s2 → ∀ p d, s p = some d → ∃ e, e ≤ d ∧ s2 p = some e := fun s s2 h h2 p d hp => h2.le d p (h.1 p d hp).2
  funext p
  cases hp : s p with
  | none =>
    cases hp2 : s2 p with
    | none => rfl
    | some d =>
      obtain ⟨e, -, he⟩ := key s2 s h2 h p d hp2
      rw [hp] at he
      cases he
  | some d =>
    obtain ⟨e, h3, he⟩ := key s s2 h h2 p d hp
    obtain ⟨d2, h4, hd2⟩ := key s2 s h2 h p e he
    rw [hp] at hd2
    cases hd2
    rw [he]
    congr 1
    omega
/-- the first place -/
def sp_s0 (p0 : Nat) : Nat → Option Nat := fun p => if p = p0 then some 0 else none
theorem sp_BI0 (E : Nat → Nat → Prop) {p0 : Nat} (h0 : p0 < 144) : sp_BI E p0 (sp_s0 p0) (fun _ => p0) 1 := by
  have hs : ∀ p d, sp_s0 p0 p = some d → p = p0 ∧ d = 0 := by
    intro p d hp
    unfold sp_s0 at hp
    by_cases e : p = p0
    · rw [if_pos e] at hp; cases hp; exact ⟨e, rfl⟩
    · rw [if_neg e] at hp; cases hp
  have h00 : sp_s0 p0 p0 = some 0 := by unfold sp_s0; rw [if_pos rfl]
  have hz : sp_ct (fun _ => false) 144 = 0 := by decide +kernel
  refine ⟨?_, fun a ha => ⟨h0, 0, h00, Nat.zero_le _⟩, fun p hp d hpd => ⟨0, by omega, (hs p d hpd).1.symm⟩, fun a b d e _ _ h1 h2 => by rw [(hs _ _ h1).2]; exact Nat.zero_le _, fun p d hp => ?_, h00⟩
  · rw [sp_ct_set (p := fun _ => false) (q := fun p => (sp_s0 p0 p).isSome) (x := p0) rfl (fun y => by
      show (sp_s0 p0 y).isSome = if y = p0 then true else false
      unfold sp_s0
      by_cases e : y = p0
      · rw [if_pos e, if_pos e]; rfl
      · rw [if_neg e, if_neg e]; rfl) 144, if_pos h0, hz]
  · obtain ⟨rfl, rfl⟩ := hs p d hp
    exact ⟨h0, rfl⟩
/-- the memory of a search: steps in cell cS, queue in cU, how many in the field kn of cn -/
def sp_R (cS cU cn kn : Nat) (M : am_Mem) (s : Nat → Option Nat) (u : Nat → Nat) (n : Nat) : Prop := (∀ p, p < 144 → M cS p = sp_oi (s p)) ∧ (∀ q, q < n → M cU q = nI (u q)) ∧ M cn kn = nI n
def sp_fB (cS cU cn kn : Nat) (M N : am_Mem) : Prop := ∀ x y, ¬ x = cS → ¬ x = cU → ¬ (x = cn ∧ y = kn) → N x y = M x y
theorem sp_fB.rf {cS cU cn kn : Nat} {M : am_Mem} : sp_fB cS cU cn kn M M := fun _ _ _ _ _ => rfl
theorem sp_fB.tr {cS cU cn kn : Nat} {M N O : am_Mem} (h : sp_fB cS cU cn kn M N) (h2 : sp_fB cS cU cn kn N O) : sp_fB cS cU cn kn M O := fun x y a b c => (h2 x y a b c).trans (h x y a b c)
/-- what a put place does to the memory -/
theorem sp_R.push {cS cU cn kn : Nat} (hc : cS ≠ cU ∧ cS ≠ cn ∧ cU ≠ cn) {M : am_Mem} {s : Nat → Option Nat} {u : Nat → Nat} {n q v : Nat} (h : sp_R cS cU cn kn M s u n) (hs : s q = none) :
    sp_R cS cU cn kn (am_set (am_set (am_set M cS q (nI v)) cU n (nI q)) cn kn (nI (n + 1))) (sp_ps s q v) (sp_pu s u n q) (sp_pn s n q) ∧ sp_fB cS cU cn kn M (am_set (am_set (am_set M cS q (nI v)) cU n (nI q)) cn kn (nI (n + 1))) := by
  obtain ⟨c1, c2, c3⟩ := hc
  refine ⟨⟨fun p hp => ?_, fun a ha => ?_, ?_⟩, fun x y a b c => ?_⟩
  · unfold sp_ps
    by_cases e : p = q
    · simp [am_set, c1, c2, e, hs, sp_oi]
    · simp only [am_set, c1, c2, e, false_and, and_false, if_false]
      exact h.1 p hp
  · unfold sp_pu
    unfold sp_pn at ha
    rw [if_pos hs] at ha
    by_cases e : a = n
    · simp [am_set, c1, c2, c3, e, hs]
    · simp only [am_set, c3, Ne.symm c1, e, false_and, and_false, if_false]
      exact h.2.1 a (by omega)
  · unfold sp_pn
    rw [if_pos hs]
    simp [am_set]
  · simp only [am_set, a, b, c, false_and, if_false]
theorem sp_R.skip {cS cU cn kn : Nat} {M : am_Mem} {s : Nat → Option Nat} {u : Nat → Nat} {n q v e : Nat} (h : sp_R cS cU cn kn M s u n) (hs : s q = some e) : sp_R cS cU cn kn M (sp_ps s q v) (sp_pu s u n q) (sp_pn s n q) := by
  have e1 : sp_ps s q v = s := by
    funext p
    unfold sp_ps
    rw [if_neg (fun z => by rw [hs] at z; cases z.2)]
  have e2 : sp_pu s u n q = u := by
    funext p
    unfold sp_pu
    rw [if_neg (fun z => by rw [hs] at z; cases z.2)]
  have e3 : sp_pn s n q = n := by
    unfold sp_pn
    rw [if_neg (fun z => by rw [hs] at z; cases z)]
  rw [e1, e2, e3]
  exact h
/-- a search under way: steps are at most one more than d -/
def sp_GS (E : Nat → Nat → Prop) (p0 d : Nat) (s : Nat → Option Nat) (u : Nat → Nat) (n : Nat) : Prop := sp_BI E p0 s u n ∧ ∀ b e, b < n → s (u b) = some e → e ≤ d + 1
def sp_EX (s : Nat → Option Nat) (u : Nat → Nat) (n : Nat) (s2 : Nat → Option Nat) (u2 : Nat → Nat) (n2 : Nat) : Prop := n ≤ n2 ∧ (∀ a, a < n → u2 a = u a) ∧ ∀ p e, s p = some e → s2 p = some e
theorem sp_EX.rf {s : Nat → Option Nat} {u : Nat → Nat} {n : Nat} : sp_EX s u n s u n := ⟨Nat.le_refl n, fun _ _ => rfl, fun _ _ z => z⟩
theorem sp_EX.tr {s s2 s3 : Nat → Option Nat} {u u2 u3 : Nat → Nat} {n n2 n3 : Nat} (h : sp_EX s u n s2 u2 n2) (h2 : sp_EX s2 u2 n2 s3 u3 n3) : sp_EX s u n s3 u3 n3 := ⟨Nat.le_trans h.1 h2.1, fun a ha => (h2.2.1 a (Nat.lt_of_lt_of_le ha h.1)).trans (h.2.1 a ha), fun p e z => h2.2.2 p e (h.2.2 p e z)⟩
theorem sp_push_ex {E : Nat → Nat → Prop} {p0 t d P q cS cU cn kn : Nat} {s : Nat → Option Nat} {u : Nat → Nat} {n : Nat} {N : am_Mem} (hR : sp_R cS cU cn kn N (sp_ps s q (d + 1)) (sp_pu s u n q) (sp_pn s n q)) (hG : sp_GS E p0 d s u n) (ht : t < n) (hu : u t = P) (hd : s P = some d) (he : E P q) (hq : q < 144) :
    ∃ (s2 : Nat → Option Nat) (u2 : Nat → Nat) (n2 : Nat), sp_R cS cU cn kn N s2 u2 n2 ∧ sp_GS E p0 d s2 u2 n2 ∧ sp_EX s u n s2 u2 n2 ∧ ∃ e, e ≤ d + 1 ∧ s2 q = some e := by
  subst hu
  obtain ⟨h1, h2, h3, h4, h5, h6⟩ := hG.1.push ht hd hG.2 he hq
  exact ⟨_, _, _, hR, ⟨h1, h6⟩, ⟨h2, h3, h4⟩, h5⟩
/-- the goings of a place with a joint less than p are done -/
def sp_pj (ft R : Nat) (kp : Bool) (P d : Nat) (s : Nat → Option Nat) (p : Nat) : Prop := ∀ j, j < p → (sp_e0 ft R kp P j = true → ∃ e, e ≤ d + 1 ∧ s (12 * j + P % 12) = some e) ∧ (sp_e1 ft R P j = true → ∃ e, e ≤ d + 1 ∧ s (12 * (P / 12) + j) = some e)
theorem sp_pj.ext {ft R : Nat} {kp : Bool} {P d p : Nat} {s s2 : Nat → Option Nat} {u u2 : Nat → Nat} {n n2 : Nat} (h : sp_pj ft R kp P d s p) (hx : sp_EX s u n s2 u2 n2) : sp_pj ft R kp P d s2 p := fun j hj => ⟨fun z => by obtain ⟨e, e1, e2⟩ := (h j hj).1 z; exact ⟨e, e1, hx.2.2 _ _ e2⟩, fun z => by obtain ⟨e, e1, e2⟩ := (h j hj).2 z; exact ⟨e, e1, hx.2.2 _ _ e2⟩⟩
theorem sp_pj.succ {ft R : Nat} {kp : Bool} {P d p : Nat} {s : Nat → Option Nat} (h : sp_pj ft R kp P d s p) (h0 : sp_e0 ft R kp P p = true → ∃ e, e ≤ d + 1 ∧ s (12 * p + P % 12) = some e) (h1 : sp_e1 ft R P p = true → ∃ e, e ≤ d + 1 ∧ s (12 * (P / 12) + p) = some e) : sp_pj ft R kp P d s (p + 1) := by
  intro j hj
  by_cases e : j = p
  · subst e; exact ⟨h0, h1⟩
  · exact h j (by omega)
theorem sp_pj.all {ft R : Nat} {kp : Bool} {P d q : Nat} {s : Nat → Option Nat} (h : sp_pj ft R kp P d s 12) (he : sp_ed ft R kp P q) : ∃ e, e ≤ d + 1 ∧ s q = some e := by
  obtain ⟨j, hj, ⟨h1, rfl⟩ | ⟨h1, rfl⟩⟩ := he
  · exact (h j hj).1 h1
  · exact (h j hj).2 h1
/-- the queue's first t are done -/
def sp_dn (E : Nat → Nat → Prop) (s : Nat → Option Nat) (u : Nat → Nat) (t : Nat) : Prop := ∀ b, b < t → ∀ q d, E (u b) q → s (u b) = some d → ∃ e, e ≤ d + 1 ∧ s q = some e
theorem sp_dn.end {E : Nat → Nat → Prop} {p0 n : Nat} {s : Nat → Option Nat} {u : Nat → Nat} (h : sp_BI E p0 s u n) (hd : sp_dn E s u n) : sp_DI E p0 s := ⟨h.2.2.2.2.1, h.2.2.2.2.2, fun p q d hp he => by
  obtain ⟨b, hb, rfl⟩ := h.2.2.1 p (h.2.2.2.2.1 p d hp).1 d hp
  exact hd b hb q d he hp⟩
/-- a place is done: the next one -/
theorem sp_dn.next {ft R : Nat} {kp : Bool} {p0 t d n n2 : Nat} {s s2 : Nat → Option Nat} {u u2 : Nat → Nat} (h : sp_dn (sp_ed ft R kp) s u t) (hB : sp_BI (sp_ed ft R kp) p0 s u n) (ht : t < n) (hd : s (u t) = some d) (hx : sp_EX s u n s2 u2 n2) (hj : sp_pj ft R kp (u t) d s2 12) : sp_dn (sp_ed ft R kp) s2 u2 (t + 1) := by
  intro b hb q e he hbe
  rw [hx.2.1 b (by omega)] at he hbe
  by_cases eb : b = t
  · subst eb
    rw [hx.2.2 _ _ hd] at hbe
    cases hbe
    exact hj.all he
  · obtain ⟨-, d2, hd2, -⟩ := hB.2.1 b (by omega)
    rw [hx.2.2 _ _ hd2] at hbe
    cases hbe
    obtain ⟨e3, h3, h4⟩ := h b (by omega) q _ he hd2
    exact ⟨e3, h3, hx.2.2 _ _ h4⟩
theorem sp_GS.of {E : Nat → Nat → Prop} {p0 t d n : Nat} {s : Nat → Option Nat} {u : Nat → Nat} (h : sp_BI E p0 s u n) (hd : s (u t) = some d) (h3 : ∀ b e, b < n → s (u b) = some e → e ≤ d + 1) : sp_GS E p0 d s u n := ⟨h, h3⟩
/-- behind a place done, the next one's steps are no fewer -/
theorem sp_GS.next {E : Nat → Nat → Prop} {p0 t d d2 n : Nat} {s : Nat → Option Nat} {u : Nat → Nat} (h : sp_GS E p0 d s u n) (ht : t + 1 < n) (hd : s (u t) = some d) (hd2 : s (u (t + 1)) = some d2) : sp_GS E p0 d2 s u n := ⟨h.1, fun b e hb he => by
  have h1 := h.2 b e hb he
  have h2 := h.1.2.2.2.1 t (t + 1) d d2 (by omega) ht hd hd2
  omega⟩
theorem sp_S.fB {M N : am_Mem} {a f hr hs lt : Nat} {k h : Nat → Nat} (hS : sp_S 1 M a f hr hs lt k h) (hF : sp_fB 11 12 10 2 M N) : sp_S 1 N a f hr hs lt k h := by
  obtain ⟨h1, h2, h3, h4, h5, h6, h7⟩ := hS
  exact ⟨(hF _ _ (by decide) (by decide) (fun z => by cases z.1)).trans h1, (hF _ _ (by decide) (by decide) (fun z => by cases z.1)).trans h2, (hF _ _ (by decide) (by decide) (fun z => by cases z.1)).trans h3, (hF _ _ (by decide) (by decide) (fun z => by cases z.1)).trans h4, (hF _ _ (by decide) (by decide) (fun z => by cases z.1)).trans h5, fun q hq => (hF _ _ (by decide) (by decide) (fun z => by cases z.1)).trans (h6 q hq), fun q hq => (hF _ _ (by decide) (by decide) (fun z => by cases z.1)).trans (h7 q hq)⟩
/-- the lesser of two steps -/
def sp_le (x y : Option Nat) : Option Nat := match x with | none => y | some b => (match y with | none => some b | some d => some (if d < b then d else b))
theorem am_minN {x y : Nat} (hx : x < 2147483648) (hy : y < 2147483648) : am_min (nI x) (nI y) = nI (if y < x then y else x) := by
  unfold am_min
  by_cases h : y < x
  · rw [if_pos ((nI_ltI (by omega) (by omega)).mpr h), if_pos h]
  · rw [if_neg (fun z => h ((nI_ltI (by omega) (by omega)).mp z)), if_neg h]
def sp_fw (s : Nat → Option Nat) (j : Nat) : Nat → Option Nat | 0 => none | p + 1 => sp_le (sp_le (sp_fw s j p) (s (12 * j + p))) (s (12 * p + j))
