/-! tools of the walks: numbers that are counted, branches on them, bits -/
theorem am_goQ (n : Nat) {mi : Nat} {s s1 s2 : am_St} {Q : Option Value → am_Mem → Prop} (h : am_run n mi s = some s1) (e : s1 = s2) (k : am_go mi s2 Q) : am_go mi s Q := by
  subst e
  exact am_goR n h k
theorem am_bT {mi : Nat} {s s1 s2 : am_St} {Q : Option Value → am_Mem → Prop} {P : Prop} [Decidable P] (h : am_nx mi s = some (.inl (bif decide P then s1 else s2))) (hp : P) (k : am_go mi s1 Q) : am_go mi s Q := am_goB P h (fun _ => k) (fun q => absurd hp q)
theorem am_bF {mi : Nat} {s s1 s2 : am_St} {Q : Option Value → am_Mem → Prop} {P : Prop} [Decidable P] (h : am_nx mi s = some (.inl (bif decide P then s1 else s2))) (hp : ¬ P) (k : am_go mi s2 Q) : am_go mi s Q := am_goB P h (fun q => absurd q hp) (fun _ => k)
theorem am_bTn {mi : Nat} {s s1 s2 : am_St} {Q : Option Value → am_Mem → Prop} {P : Prop} [Decidable P] (h : am_nx mi s = some (.inl (bif !decide P then s1 else s2))) (hp : ¬ P) (k : am_go mi s1 Q) : am_go mi s Q := am_goB' P h (fun _ => k) (fun q => absurd q hp)
theorem am_bFn {mi : Nat} {s s1 s2 : am_St} {Q : Option Value → am_Mem → Prop} {P : Prop} [Decidable P] (h : am_nx mi s = some (.inl (bif !decide P then s1 else s2))) (hp : P) (k : am_go mi s2 Q) : am_go mi s Q := am_goB' P h (fun q => absurd hp q) (fun _ => k)
theorem am_bEQ {mi : Nat} {s s1 s2 : am_St} {Q : Option Value → am_Mem → Prop} (x y : Nat) (h : am_nx mi s = some (.inl (bif decide (nI x = nI y) then s1 else s2))) (hx : x < 2147483648) (hy : y < 2147483648) (k1 : x = y → am_go mi s1 Q) (k2 : ¬ x = y → am_go mi s2 Q) : am_go mi s Q := am_goB _ h (fun q => k1 ((nI_eq hx hy).mp q)) (fun q => k2 (fun z => q ((nI_eq hx hy).mpr z)))
theorem am_bNE {mi : Nat} {s s1 s2 : am_St} {Q : Option Value → am_Mem → Prop} (x y : Nat) (h : am_nx mi s = some (.inl (bif !decide (nI x = nI y) then s1 else s2))) (hx : x < 2147483648) (hy : y < 2147483648) (k1 : ¬ x = y → am_go mi s1 Q) (k2 : x = y → am_go mi s2 Q) : am_go mi s Q := am_goB' _ h (fun q => k1 (fun z => q ((nI_eq hx hy).mpr z))) (fun q => k2 ((nI_eq hx hy).mp q))
theorem am_bLT {mi : Nat} {s s1 s2 : am_St} {Q : Option Value → am_Mem → Prop} (x y : Nat) (h : am_nx mi s = some (.inl (bif decide (nI x < nI y) then s1 else s2))) (hx : x < 2147483648) (hy : y < 2147483648) (k1 : x < y → am_go mi s1 Q) (k2 : y ≤ x → am_go mi s2 Q) : am_go mi s Q := am_goB _ h (fun q => k1 ((nI_ltI hx hy).mp q)) (fun q => k2 (Nat.not_lt.mp (fun z => q ((nI_ltI hx hy).mpr z))))
theorem am_bLE {mi : Nat} {s s1 s2 : am_St} {Q : Option Value → am_Mem → Prop} (x y : Nat) (h : am_nx mi s = some (.inl (bif decide (nI x ≤ nI y) then s1 else s2))) (hx : x < 2147483648) (hy : y < 2147483648) (k1 : x ≤ y → am_go mi s1 Q) (k2 : y < x → am_go mi s2 Q) : am_go mi s Q := am_goB _ h (fun q => k1 ((nI_leI hx hy).mp q)) (fun q => k2 (Nat.not_le.mp (fun z => q ((nI_leI hx hy).mpr z))))
theorem am_b_inj {b d : Bool} (h : am_b b = am_b d) : b = d := by
  cases b <;> cases d <;> first | rfl | (revert h; decide +kernel)
theorem am_b0 {b : Bool} : am_b b = 0 ↔ b = false := by
  cases b
  · exact ⟨fun _ => rfl, fun _ => rfl⟩
  · exact ⟨fun h => absurd h (by decide +kernel), fun h => by cases h⟩
theorem am_bB0 {mi : Nat} {s s1 s2 : am_St} {Q : Option Value → am_Mem → Prop} (b : Bool) (h : am_nx mi s = some (.inl (bif decide (am_b b = 0) then s1 else s2))) (k1 : b = false → am_go mi s1 Q) (k2 : b = true → am_go mi s2 Q) : am_go mi s Q := am_goB _ h (fun q => k1 (am_b0.mp q)) (fun q => k2 (by cases b <;> first | rfl | exact absurd rfl q))
theorem am_bB1 {mi : Nat} {s s1 s2 : am_St} {Q : Option Value → am_Mem → Prop} (b : Bool) (h : am_nx mi s = some (.inl (bif !decide (am_b b = 0) then s1 else s2))) (k1 : b = true → am_go mi s1 Q) (k2 : b = false → am_go mi s2 Q) : am_go mi s Q := am_goB' _ h (fun q => k1 (by cases b <;> first | rfl | exact absurd rfl q)) (fun q => k2 (am_b0.mp q))
theorem am_bBE {mi : Nat} {s s1 s2 : am_St} {Q : Option Value → am_Mem → Prop} (b d : Bool) (h : am_nx mi s = some (.inl (bif decide (am_b b = am_b d) then s1 else s2))) (k1 : b = d → am_go mi s1 Q) (k2 : ¬ b = d → am_go mi s2 Q) : am_go mi s Q := am_goB _ h (fun q => k1 (am_b_inj q)) (fun q => k2 (fun z => q (by rw [z])))
theorem am_bBN {mi : Nat} {s s1 s2 : am_St} {Q : Option Value → am_Mem → Prop} (b d : Bool) (h : am_nx mi s = some (.inl (bif !decide (am_b b = am_b d) then s1 else s2))) (k1 : ¬ b = d → am_go mi s1 Q) (k2 : b = d → am_go mi s2 Q) : am_go mi s Q := am_goB' _ h (fun q => k1 (fun z => q (by rw [z]))) (fun q => k2 (am_b_inj q))
theorem am_goL2 {mi : Nat} {pc a n : Nat} {x : Int32} {ls r : List Value} {M : am_Mem} {s : am_St} {Q : Option Value → am_Mem → Prop} (k : Nat) (v : Int32) (h : am_nx mi s = (if x < 0 ∨ n ≤ x.toNatClampNeg then none else some (.inl (pc, ls, .int (am_rd M a x.toNatClampNeg) :: r, M)))) (hx : x = nI k) (hk : k < n) (hn : n < 2 ^ 31) (hv : am_rd M a k = v) (g : am_go mi (pc, ls, .int v :: r, M) Q) : am_go mi s Q := by
  subst hv
  exact am_goL k h hx hk hn g
/-- an answer that is known -/
theorem am_ends {mi : Nat} {s : am_St} {M M0 : am_Mem} (v v0 : Int32) (h : am_nx mi s = some (.inr (.inl (some (.int v), M)))) (e : v = v0) (eM : M = M0) : am_go mi s (am_is v0 M0) := am_goE _ _ h ⟨v, rfl, e, eM⟩
theorem am_endz {mi : Nat} {s : am_St} {M M0 : am_Mem} (b b0 : Bool) (h : am_nx mi s = (if am_b b = am_b true ∨ am_b b = am_b false then some (.inr (.inl (some (.int (am_b b)), M))) else none)) (e : b = b0) (eM : M = M0) : am_go mi s (am_is (am_b b0) M0) := am_goZ b h ⟨_, rfl, by rw [e], eM⟩
theorem am_endv {mi : Nat} {s : am_St} {M M0 : am_Mem} (h : am_nx mi s = some (.inr (.inl (none, M)))) (eM : M = M0) : am_go mi s (am_rv (fun N => N = M0)) := am_goE _ _ h ⟨rfl, eM⟩
/-- numbers below 0 -/
theorem am_nm_ne {x m : Nat} (hx : x < 2147483648) (h0 : 0 < m) (hm : m < 2147483648) : ¬ nI x = -nI m := by
  intro h
  have h1 := congrArg (fun y : Int32 => y + nI m) h
  simp only [nI_add] at h1
  rw [Int32.add_left_neg] at h1
  have h2 : (nI (x + m)).toBitVec.toNat = (0 : Int32).toBitVec.toNat := by rw [h1]
  rw [pk_tn (by omega)] at h2
  have h3 : (0 : Int32).toBitVec.toNat = 0 := by decide
  omega
theorem am_m_toInt {m : Nat} (hm : m < 2147483648) : (-nI m).toInt = -(m : Int) := by
  rw [Int32.toInt_neg, nI_toInt (by omega)]
  rw [Int.bmod_def]
  split <;> omega
theorem am_m_lt {x m : Nat} (hx : x < 2147483648) (h0 : 0 < m) (hm : m < 2147483648) : -nI m < nI x := by
  rw [Int32.lt_iff_toInt_lt, am_m_toInt hm, nI_toInt (by omega)]
  omega
theorem am_m_le {x m : Nat} (hx : x < 2147483648) (h0 : 0 < m) (hm : m < 2147483648) : -nI m ≤ nI x := by
  rw [Int32.le_iff_toInt_le, am_m_toInt hm, nI_toInt (by omega)]
  omega
theorem am_m_nlt {x m : Nat} (hx : x < 2147483648) (h0 : 0 < m) (hm : m < 2147483648) : ¬ nI x < -nI m := by
  rw [Int32.lt_iff_toInt_lt, am_m_toInt hm, nI_toInt (by omega)]
  omega
theorem am_m_nle {x m : Nat} (hx : x < 2147483648) (h0 : 0 < m) (hm : m < 2147483648) : ¬ nI x ≤ -nI m := by
  rw [Int32.le_iff_toInt_le, am_m_toInt hm, nI_toInt (by omega)]
  omega
/-- bits -/
theorem am_bv (n : Nat) : (nI n).toBitVec = BitVec.ofNat 32 n := rfl
theorem am_and (x y : Nat) : nI x &&& nI y = nI (x &&& y) := by
  apply Int32.toBitVec_inj.mp
  rw [Int32.toBitVec_and, am_bv, am_bv, am_bv]
  apply BitVec.eq_of_toNat_eq
  simp [Nat.and_mod_two_pow]
theorem am_or (x y : Nat) : nI x ||| nI y = nI (x ||| y) := by
  apply Int32.toBitVec_inj.mp
  rw [Int32.toBitVec_or, am_bv, am_bv, am_bv]
  apply BitVec.eq_of_toNat_eq
  simp [Nat.or_mod_two_pow]
theorem am_xor (x y : Nat) : nI x ^^^ nI y = nI (x ^^^ y) := by
  apply Int32.toBitVec_inj.mp
  rw [Int32.toBitVec_xor, am_bv, am_bv, am_bv]
  apply BitVec.eq_of_toNat_eq
  simp [Nat.xor_mod_two_pow]
theorem am_m1 : -nI 1 = nI 4294967295 := by decide +kernel
theorem am_xm (x : Nat) : nI x ^^^ -nI 1 = nI (x ^^^ 4294967295) := by rw [am_m1, am_xor]
theorem am_s31 {j : Nat} (hj : j < 32) : nI j &&& 31 = nI j := by
  rw [show (31 : Int32) = nI 31 from rfl, am_and]
  congr 1
  exact Nat.and_two_pow_sub_one_of_lt_two_pow (n := 5) (by omega)
theorem am_smod {j : Nat} (hj : j < 32) : ((nI j).toBitVec.smod 32).toNat = j := by
  revert hj
  revert j
  decide +kernel
theorem am_shl {x j : Nat} (hj : j < 32) : nI x <<< (nI j &&& 31) = nI (x * 2 ^ j) := by
  rw [am_s31 hj]
  apply Int32.toBitVec_inj.mp
  apply BitVec.eq_of_toNat_eq
  rw [pk_shl _ _ j (am_smod hj), am_bv, am_bv]
  simp
theorem am_shr {x j : Nat} (hx : x < 2147483648) (hj : j < 32) : nI x >>> (nI j &&& 31) = nI (x / 2 ^ j) := by
  rw [am_s31 hj]
  exact pk_shrN (by omega) _ j (am_smod hj)
theorem am_bit (x j : Nat) : nI (x / 2 ^ j &&& 1) = am_b (x.testBit j) := by
  rw [Nat.testBit_eq_decide_div_mod_eq, Nat.and_one_is_mod]
  have h : x / 2 ^ j % 2 = 0 ∨ x / 2 ^ j % 2 = 1 := by omega
  rcases h with h | h
  · rw [h]; rfl
  · rw [h]; rfl
theorem am_1 : nI 1 = am_b true := rfl
theorem am_0 : nI 0 = am_b false := rfl
/-- a number that is told, within 0 .. n - 1 -/
def am_in (x : Int32) (n : Nat) : Bool := decide (0 ≤ x) && decide (x < nI n)
theorem am_in_nI {k n : Nat} (hk : k < 2147483648) (hn : n < 2147483648) : am_in (nI k) n = decide (k < n) := by
  unfold am_in
  rw [decide_eq_true (nI_pos' (by omega)), Bool.true_and]
  exact decide_eq_decide.mpr (nI_ltI (by omega) (by omega))
theorem am_in_of {x : Int32} {n : Nat} (hn : n < 2147483648) (h : am_in x n = true) : ∃ k : Nat, k < n ∧ x = nI k := by
  unfold am_in at h
  simp only [Bool.and_eq_true, decide_eq_true_eq] at h
  obtain ⟨k, hk, rfl⟩ := nI_of (x := x) (fun z => by
    have h1 := h.1
    rw [Int32.le_iff_toInt_le] at h1
    rw [Int32.lt_iff_toInt_lt] at z
    omega)
  exact ⟨k, (nI_ltI (by omega) (by omega)).mp h.2, rfl⟩
