/-! what the words mean, in whole numbers -/
theorem am_shl1 {j : Nat} (hj : j < 32) : nI 1 <<< (nI j &&& 31) = nI (2 ^ j) := by rw [am_shl hj, Nat.one_mul]
/-- how far apart -/
def sp_ds (x y : Nat) : Nat := (x - y) + (y - x)
theorem sp_ds_comm (x y : Nat) : sp_ds x y = sp_ds y x := by unfold sp_ds; omega
theorem am_absd {x y : Nat} (hx : x < 1073741824) (hy : y < 1073741824) : am_abs (nI x - nI y) = nI (sp_ds x y) := by
  unfold am_abs sp_ds
  by_cases h : y ≤ x
  · rw [pk_sub h, if_pos (nI_pos' (by omega))]
    congr 1
    omega
  · have h2 : (nI x - nI y).toInt = (x : Int) - y := pk_sub_toInt (by omega) (by omega)
    rw [if_neg (by rw [Int32.le_iff_toInt_le, h2]; have : (0 : Int32).toInt = 0 := by decide
                   omega)]
    rw [show x - y + (y - x) = y - x by omega, ← pk_sub (a := y) (b := x) (by omega)]
    rw [Int32.zero_sub, Int32.neg_sub]
/-- how far a kind reaches, whether it works in an hour -/
def sp_rc (k : Nat) : Nat := if k = 1 ∨ k = 4 then 4 else if k = 2 then 2 else 3
def sp_wk (lt k hr : Nat) : Bool := if k = 3 then lt.testBit hr else if k = 5 then !lt.testBit hr else true
theorem sp_rc_tab {k : Nat} (hk : k < 6) : am_tab 31 k = nI (sp_rc k) := by
  revert hk; revert k; decide +kernel
theorem sp_rc_lt (k : Nat) : sp_rc k ≤ 4 := by unfold sp_rc; split <;> first | omega | (split <;> omega)
def sp_wt (k : Nat) : Nat := if k = 3 then 1 else if k = 5 then 2 else 0
theorem sp_wt_tab {k : Nat} (hk : k < 6) : am_tab 32 k = nI (sp_wt k) := by
  revert hk; revert k; decide +kernel
/-- a set of places as bits -/
def sp_bs (p : Nat → Bool) : Nat → Nat | 0 => 0 | n + 1 => sp_bs p n ||| (if p n then 2 ^ n else 0)
/-- joints with hands, of the first n hands, an arm away not there -/
def sp_hb (h : Nat → Nat) (aw : Nat) : Nat → Nat | 0 => 0 | n + 1 => if n / 2 = aw then sp_hb h aw n else sp_hb h aw n ||| 2 ^ (h n)
/-- the first hand on a joint -/
def sp_wo (h : Nat → Nat) (j : Nat) : Nat → Option Nat | 0 => none | n + 1 => match sp_wo h j n with | some q => some q | none => if h n = j then some n else none
theorem sp_wo_none {h : Nat → Nat} {j : Nat} : ∀ {n : Nat}, sp_wo h j n = none ↔ ∀ q, q < n → h q ≠ j := by
  intro n
  induction n with
  | zero => exact ⟨fun _ q hq => by omega, fun _ => rfl⟩
  | succ n ih =>
    unfold sp_wo
    cases hw : sp_wo h j n with
    | some q =>
      refine ⟨fun z => (by cases z), fun z => ?_⟩
      have := ih.mpr (fun q hq => z q (by omega))
      rw [hw] at this
      cases this
    | none =>
      have h1 := ih.mp hw
      by_cases hj : h n = j
      · rw [if_pos hj]
        exact ⟨fun z => (by cases z), fun z => absurd hj (z n (by omega))⟩
      · rw [if_neg hj]
        refine ⟨fun _ q hq => ?_, fun _ => rfl⟩
        by_cases e : q = n
        · subst e; exact hj
        · exact h1 q (by omega)
theorem sp_wo_some {h : Nat → Nat} {j q : Nat} : ∀ {n : Nat}, sp_wo h j n = some q ↔ q < n ∧ h q = j ∧ ∀ i, i < q → h i ≠ j := by
  intro n
  induction n with
  | zero => exact ⟨fun z => (by cases z), fun z => by omega⟩
  | succ n ih =>
    unfold sp_wo
    cases hw : sp_wo h j n with
    | some q2 =>
      rw [hw] at ih
      dsimp only
      constructor
      · intro z
        have := ih.mp z
        exact ⟨by omega, this.2⟩
      · intro z
        by_cases e : q = n
        · have h2 : ∀ i, i < n → h i ≠ j := fun i hi => z.2.2 i (by omega)
          have := sp_wo_none.mpr h2
          rw [hw] at this
          cases this
        · exact ih.mpr ⟨by omega, z.2⟩
    | none =>
      have h1 := sp_wo_none.mp hw
      dsimp only
      by_cases hj : h n = j
      · rw [if_pos hj]
        constructor
        · intro z
          cases z
          exact ⟨by omega, hj, fun i hi => h1 i hi⟩
        · intro z
          by_cases e : q = n
          · rw [e]
          · exact absurd z.2.1 (h1 q (by omega))
      · rw [if_neg hj]
        refine ⟨fun z => (by cases z), fun z => ?_⟩
        by_cases e : q = n
        · subst e; exact absurd z.2.1 hj
        · exact absurd z.2.1 (h1 q (by omega))
theorem sp_bs_bit (p : Nat → Bool) : ∀ n j : Nat, (sp_bs p n).testBit j = (decide (j < n) && p j) := by
  intro n
  induction n with
  | zero => intro j; simp [sp_bs]
  | succ n ih =>
    intro j
    unfold sp_bs
    rw [Nat.testBit_or, ih]
    by_cases hp : p n = true
    · rw [if_pos hp, Nat.testBit_two_pow]
      by_cases e : n = j
      · subst e; simp [hp]
      · simp only [e, decide_false, Bool.or_false]
        congr 1
        exact decide_eq_decide.mpr (by omega)
    · rw [if_neg hp]
      simp only [Nat.zero_testBit, Bool.or_false]
      by_cases e : n = j
      · subst e
        simp at hp
        simp [hp]
      · congr 1
        exact decide_eq_decide.mpr (by omega)
theorem sp_bs_lt (p : Nat → Bool) (n : Nat) : sp_bs p n < 2 ^ n := by
  apply Nat.lt_pow_two_of_testBit
  intro i hi
  rw [sp_bs_bit]
  simp; omega
theorem sp_hb_bit (h : Nat → Nat) (aw : Nat) : ∀ n j : Nat, (sp_hb h aw n).testBit j = true ↔ ∃ q, q < n ∧ ¬ q / 2 = aw ∧ h q = j := by
  intro n
  induction n with
  | zero => intro j; simp [sp_hb]
  | succ n ih =>
    intro j
    unfold sp_hb
    by_cases ha : n / 2 = aw
    · rw [if_pos ha, ih]
      exact ⟨fun ⟨q, h1, h2, h3⟩ => ⟨q, by omega, h2, h3⟩, fun ⟨q, h1, h2, h3⟩ => ⟨q, by
        by_cases e : q = n
        · subst e; exact absurd ha h2
        · omega, h2, h3⟩⟩
    · rw [if_neg ha, Nat.testBit_or, Bool.or_eq_true, ih, Nat.testBit_two_pow, decide_eq_true_eq]
      constructor
      · rintro (⟨q, h1, h2, h3⟩ | h1)
        · exact ⟨q, by omega, h2, h3⟩
        · exact ⟨n, by omega, ha, h1⟩
      · rintro ⟨q, h1, h2, h3⟩
        by_cases e : q = n
        · subst e; exact Or.inr h3
        · exact Or.inl ⟨q, by omega, h2, h3⟩
theorem sp_hb_lt {h : Nat → Nat} (hh : ∀ q, h q < 12) (aw n : Nat) : sp_hb h aw n < 4096 := by
  apply Nat.lt_pow_two_of_testBit (n := 12)
  intro i hi
  cases hb : (sp_hb h aw n).testBit i with
  | false => rfl
  | true =>
    obtain ⟨q, -, -, h3⟩ := (sp_hb_bit h aw n i).mp hb
    have := hh q
    omega
/-- a stand, as the class has it at a cell: arms, fixed, hour, hours, light, kinds, hands -/
def sp_S (c : Nat) (M : am_Mem) (a f hr hs lt : Nat) (k h : Nat → Nat) : Prop := M c 0 = nI f ∧ M c 1 = nI a ∧ M c 2 = nI hr ∧ M c 3 = nI hs ∧ M c 4 = nI lt ∧ (∀ q, q < 4 → M (c + 1) q = nI (k q)) ∧ ∀ q, q < 8 → M (c + 2) q = nI (h q)
/-- what holds of it -/
def sp_ok (a f hr lt : Nat) (k h : Nat → Nat) : Prop := a ≤ 4 ∧ f < 4096 ∧ hr < 24 ∧ lt < 16777216 ∧ (∀ q, k q < 6) ∧ ∀ q, h q < 12
/-- where a hand can go, hours aside, an arm away not there -/
def sp_cn (a f : Nat) (k h : Nat → Nat) (i b aw j : Nat) : Bool := f.testBit j && decide (∀ q, q < 2 * a → h q = j → q / 2 = aw) && !(decide (k i = 4) && decide (b = 0)) && decide (sp_ds j (h (2 * i + 1 - b)) ≤ sp_rc (k i))
theorem am_in_T {x : Int32} {n : Nat} (h1 : ¬ x < 0) (h2 : ¬ nI n ≤ x) : am_in x n = true := by
  unfold am_in
  simp only [Bool.and_eq_true, decide_eq_true_eq]
  exact ⟨k2_le h1, k2_lt h2⟩
theorem am_in_F1 {x : Int32} {n : Nat} (h1 : x < 0) : am_in x n = false := by
  unfold am_in
  rw [decide_eq_false (k2_nle h1)]
  rfl
theorem am_in_F2 {x : Int32} {n : Nat} (h1 : nI n ≤ x) : am_in x n = false := by
  unfold am_in
  rw [decide_eq_false (k2_nlt h1), Bool.and_false]
theorem am_leT {x : Int32} {a n : Nat} (h : nI n ≤ x) (ha : a ≤ n) (hn : n < 2147483648) : nI a ≤ x := by
  rw [Int32.le_iff_toInt_le] at h ⊢
  rw [nI_toInt (by omega)] at h ⊢
  omega
