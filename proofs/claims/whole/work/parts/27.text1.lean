/-! walks: the letters: the class's reading -/
def am_tso (x : Int32) (d lo hi : Int) (offs : Array Int) : Option Int := if x.toInt < lo ∨ hi < x.toInt then some d else offs[(x.toInt - lo).toNat]?
theorem am_goTS {mi pc : Nat} {d lo hi : Int} {offs : Array Int} {ls r : List Value} {M : am_Mem} {s : am_St} {Q : Option Value → am_Mem → Prop} {x : Int32} (o : Int) (p2 : Nat) (h : am_nx mi s = am_ts pc ls (.int x :: r) M d lo hi offs) (ho : am_tso x d lo hi offs = some o) (hp : am_tg pc o = p2) (k : am_go mi (p2, ls, r, M) Q) : am_go mi s Q := by
  subst hp
  refine am_goN (s2 := (am_tg pc o, ls, r, M)) ?_ k
  rw [h]
  unfold am_tso at ho
  unfold am_ts
  dsimp only
  split at ho
  · next z => rw [if_pos z]; cases ho; rfl
  · next z => rw [if_neg z, ho]
theorem am_goLK {mi pc : Nat} {d : Int} {ps : Array (Int × Int)} {ls r : List Value} {M : am_Mem} {s : am_St} {Q : Option Value → am_Mem → Prop} {x : Int32} (o : Int) (p2 : Nat) (h : am_nx mi s = am_lk pc ls (.int x :: r) M d ps) (ho : Op.lookupswitch.offset ps.toList d x.toInt = o) (hp : am_tg pc o = p2) (k : am_go mi (p2, ls, r, M) Q) : am_go mi s Q := by
  subst hp
  subst ho
  exact am_goN (s2 := (am_tg pc (Op.lookupswitch.offset ps.toList d x.toInt), ls, r, M)) h k
theorem am_set2 (M : am_Mem) (i k : Nat) (u v : Int32) : am_set (am_set M i k u) i k v = am_set M i k v := by
  funext a b
  unfold am_set
  by_cases h : a = i ∧ b = k
  · rw [if_pos h, if_pos h]
  · rw [if_neg h, if_neg h, if_neg h]
theorem am_set_o {M : am_Mem} {i k a b : Nat} {v : Int32} (h : ¬ (a = i ∧ b = k)) : am_set M i k v a b = M a b := by unfold am_set; rw [if_neg h]
def sp_dg (tx : Nat → Nat) (n q : Nat) : Bool := decide (q < n) && sp_in (tx q) 48 57
def sp_nl (tx : Nat → Nat) (n q : Nat) : Nat := if sp_dg tx n q = true then (if sp_dg tx n (q + 1) = true then 2 else 1) else 0
def sp_nv (tx : Nat → Nat) (n q : Nat) : Nat := if sp_dg tx n (q + 1) = true then 10 * (tx q - 48) + tx (q + 1) - 48 else tx q - 48
def sp_is (tx : Nat → Nat) (n q c : Nat) : Bool := decide (q < n) && decide (tx q = c)
def sp_kl (c : Nat) : Nat := if c = 97 then 0 else if c = 108 then 1 else if c = 115 then 2 else if c = 119 then 3 else if c = 107 then 4 else if c = 110 then 5 else 6
def sp_kd (tx : Nat → Nat) (n q : Nat) : Nat := if q < n then sp_kl (tx q) else 6
def sp_ae (tx : Nat → Nat) (n q : Nat) : Nat := if sp_kd tx n q < 6 then (if sp_nl tx n (q + 1) = 0 then q + 1 else if sp_is tx n (q + 1 + sp_nl tx n (q + 1)) 44 = true then q + 1 + sp_nl tx n (q + 1) + 1 + sp_nl tx n (q + 1 + sp_nl tx n (q + 1) + 1) else q + 1 + sp_nl tx n (q + 1)) else q
def sp_ak (tx : Nat → Nat) (n q : Nat) : Bool := decide (sp_kd tx n q < 6) && (!decide (sp_nl tx n (q + 1) = 0) && (sp_is tx n (q + 1 + sp_nl tx n (q + 1)) 44 && !decide (sp_nl tx n (q + 1 + sp_nl tx n (q + 1) + 1) = 0)))
def sp_so (tx : Nat → Nat) (n q : Nat) : Bool := sp_is tx n q 106 || (sp_is tx n q 104 || sp_is tx n q 100)
def sp_pe (tx : Nat → Nat) (n q : Nat) : Nat := if sp_is tx n q 97 = true then (if (sp_ak tx n (q + 1) && sp_is tx n (sp_ae tx n (q + 1)) 59) = true then sp_ae tx n (q + 1) + 1 else sp_ae tx n (q + 1)) else if sp_so tx n q = true then (if sp_nl tx n (q + 1) = 0 then q + 1 else if sp_is tx n (q + 1 + sp_nl tx n (q + 1)) 59 = true then q + 1 + sp_nl tx n (q + 1) + 1 else q + 1 + sp_nl tx n (q + 1)) else q
def sp_pk (tx : Nat → Nat) (n q : Nat) : Bool := if sp_is tx n q 97 = true then sp_ak tx n (q + 1) && sp_is tx n (sp_ae tx n (q + 1)) 59 else if sp_so tx n q = true then !decide (sp_nl tx n (q + 1) = 0) && sp_is tx n (q + 1 + sp_nl tx n (q + 1)) 59 else false
def sp_sx (tx : Nat → Nat) (n q : Nat) : Nat := if tx q = 97 then sp_nv tx n (q + 2) else sp_nv tx n (q + 1)
def sp_sy (tx : Nat → Nat) (n q : Nat) : Nat := sp_nv tx n (q + 2 + sp_nl tx n (q + 2) + 1)
theorem sp_in_T {x lo hi : Nat} (h : sp_in x lo hi = true) : lo ≤ x ∧ x ≤ hi := by
  unfold sp_in at h
  rw [Bool.and_eq_true, decide_eq_true_eq, decide_eq_true_eq] at h
  exact h
theorem sp_dg_T {tx : Nat → Nat} {n q : Nat} (h1 : q < n) (h2 : sp_in (tx q) 48 57 = true) : sp_dg tx n q = true := by unfold sp_dg; rw [h2, decide_eq_true h1]; rfl
theorem sp_dg_F {tx : Nat → Nat} {n q : Nat} (h2 : sp_in (tx q) 48 57 = false) : sp_dg tx n q = false := by unfold sp_dg; rw [h2, Bool.and_false]
theorem sp_dg_N {tx : Nat → Nat} {n q : Nat} (h1 : n ≤ q) : sp_dg tx n q = false := by unfold sp_dg; rw [decide_eq_false (by omega)]; rfl
theorem sp_dg_of {tx : Nat → Nat} {n q : Nat} (h : sp_dg tx n q = true) : q < n ∧ 48 ≤ tx q ∧ tx q ≤ 57 := by
  unfold sp_dg at h
  rw [Bool.and_eq_true, decide_eq_true_eq] at h
  exact ⟨h.1, sp_in_T h.2⟩
theorem sp_nl_0 {tx : Nat → Nat} {n q : Nat} (h : sp_dg tx n q = false) : sp_nl tx n q = 0 := by unfold sp_nl; rw [h]; rfl
theorem sp_nl_1 {tx : Nat → Nat} {n q : Nat} (h : sp_dg tx n q = true) (h2 : sp_dg tx n (q + 1) = false) : sp_nl tx n q = 1 ∧ sp_nv tx n q = tx q - 48 := by unfold sp_nl sp_nv; rw [h, h2]; exact ⟨rfl, rfl⟩
theorem sp_nl_2 {tx : Nat → Nat} {n q : Nat} (h : sp_dg tx n q = true) (h2 : sp_dg tx n (q + 1) = true) : sp_nl tx n q = 2 ∧ sp_nv tx n q = 10 * (tx q - 48) + tx (q + 1) - 48 := by unfold sp_nl sp_nv; rw [h, h2]; exact ⟨rfl, rfl⟩
theorem sp_nl_n0 {tx : Nat → Nat} {n q : Nat} (h : ¬ sp_nl tx n q = 0) : sp_dg tx n q = true := by
  cases hd : sp_dg tx n q with
  | true => rfl
  | false => exact absurd (sp_nl_0 hd) h
theorem sp_nl_b {tx : Nat → Nat} {n p : Nat} (_ : n ≤ 64) (h : ¬ sp_nl tx n p = 0) : 1 ≤ sp_nl tx n p ∧ sp_nl tx n p ≤ 2 ∧ p + sp_nl tx n p ≤ n := by
  have h1 := sp_nl_n0 h
  have h2 := sp_dg_of h1
  cases hd : sp_dg tx n (p + 1) with
  | true =>
    have h3 := sp_dg_of hd
    rw [(sp_nl_2 h1 hd).1]; omega
  | false => rw [(sp_nl_1 h1 hd).1]; omega
theorem sp_nv_lt {tx : Nat → Nat} {n p : Nat} (h : ¬ sp_nl tx n p = 0) : sp_nv tx n p < 100 := by
  have h1 := sp_nl_n0 h
  have h2 := sp_dg_of h1
  cases hd : sp_dg tx n (p + 1) with
  | true =>
    have h3 := sp_dg_of hd
    rw [(sp_nl_2 h1 hd).2]; omega
  | false => rw [(sp_nl_1 h1 hd).2]; omega
theorem sp_is_lt {tx : Nat → Nat} {n q c : Nat} (h : sp_is tx n q c = true) : q < n ∧ tx q = c := by
  unfold sp_is at h
  rw [Bool.and_eq_true, decide_eq_true_eq, decide_eq_true_eq] at h
  exact h
theorem sp_is_T {tx : Nat → Nat} {n q c : Nat} (h1 : q < n) (h2 : tx q = c) : sp_is tx n q c = true := by unfold sp_is; rw [decide_eq_true h1, decide_eq_true h2]; rfl
theorem sp_is_F {tx : Nat → Nat} {n q c : Nat} (h2 : ¬ tx q = c) : sp_is tx n q c = false := by unfold sp_is; rw [decide_eq_false h2, Bool.and_false]
theorem sp_is_N {tx : Nat → Nat} {n q c : Nat} (h2 : n ≤ q) : sp_is tx n q c = false := by unfold sp_is; rw [decide_eq_false (by omega)]; rfl
theorem sp_is_nF {tx : Nat → Nat} {n q c : Nat} (h : sp_is tx n q c = false) (h1 : q < n) : ¬ tx q = c := by
  intro z
  rw [sp_is_T h1 z] at h
  cases h
theorem sp_kd_lt {tx : Nat → Nat} {n q : Nat} (h : sp_kd tx n q < 6) : q < n := by
  unfold sp_kd at h
  split at h
  · assumption
  · omega
theorem sp_kd_e {tx : Nat → Nat} {n q : Nat} (h : q < n) : sp_kd tx n q = sp_kl (tx q) := by unfold sp_kd; rw [if_pos h]
theorem sp_kd_n {tx : Nat → Nat} {n q : Nat} (h : n ≤ q) : sp_kd tx n q = 6 := by unfold sp_kd; rw [if_neg (by omega)]

set_option maxHeartbeats 4000000 in
theorem s_hereS {M : am_Mem} {tx : Nat → Nat} {n p : Nat} (hL : M 13 1 = nI n) (hT : ∀ q, q < 64 → M 14 q = nI (tx q)) (hn : n ≤ 64) (hx : ∀ q, tx q < 256) (hP : M 13 2 = nI p) (hp : p < n) : am_go 46 (am_ent 46 [.ref 13] M) (am_is (nI (tx p)) M) := by
  refine am_goQ 2 (s1 := (4, [.ref 13], [.int ((M 13 2))], M)) (s2 := (4, [.ref 13], [.int (nI p)], M)) rfl (by simp only [hP]) ?_
  refine am_bLT (p) (0) (s1 := (42, [.ref 13], [], M)) (s2 := (7, [.ref 13], [], M)) rfl (by omega) (by omega) (fun c1 => absurd c1 (by omega)) (fun c1 => ?_)
  refine am_goQ 4 (s1 := (15, [.ref 13], [.int ((M 13 1)), .int ((M 13 2))], M)) (s2 := (15, [.ref 13], [.int (nI n), .int (nI p)], M)) rfl (by simp only [hL, hP]) ?_
  refine am_bLE (n) (p) (s1 := (42, [.ref 13], [], M)) (s2 := (18, [.ref 13], [], M)) rfl (by omega) (by omega) (fun c2 => absurd c2 (by omega)) (fun c2 => ?_)
  refine am_goQ 5 (s1 := (27, [.ref 13], [.int (nI 64), .int ((M 13 2))], M)) (s2 := (27, [.ref 13], [.int (nI 64), .int (nI p)], M)) rfl (by simp only [hP]) ?_
  refine am_bLE (64) (p) (s1 := (42, [.ref 13], [], M)) (s2 := (30, [.ref 13], [], M)) rfl (by omega) (by omega) (fun c3 => absurd c3 (by omega)) (fun c3 => ?_)
  refine am_goQ 4 (s1 := (38, [.ref 13], [.int ((M 13 2)), .ref 14], M)) (s2 := (38, [.ref 13], [.int (nI p), .ref 14], M)) rfl (by simp only [hP]) ?_
  refine am_goL2 (pc := 39) (ls := [.ref 13]) (r := []) (M := M) (a := 14) (n := 64) (p) (nI (tx p)) rfl rfl (by omega) (by decide) (hT _ (by omega)) ?_
  refine am_goR 1 (s2 := (44, [.ref 13], [.int (nI (tx p))], M)) rfl ?_
  exact am_ends (nI (tx p)) _ rfl (by rfl) (rfl)

set_option maxHeartbeats 4000000 in
theorem s_hereN {M : am_Mem} {tx : Nat → Nat} {n p : Nat} (hL : M 13 1 = nI n) (hT : ∀ q, q < 64 → M 14 q = nI (tx q)) (hn : n ≤ 64) (hx : ∀ q, tx q < 256) (hP : M 13 2 = nI p) (hp : n ≤ p) (hp2 : p < 2147483648) : am_go 46 (am_ent 46 [.ref 13] M) (am_is (-nI 9) M) := by
  refine am_goQ 2 (s1 := (4, [.ref 13], [.int ((M 13 2))], M)) (s2 := (4, [.ref 13], [.int (nI p)], M)) rfl (by simp only [hP]) ?_
  refine am_bLT (p) (0) (s1 := (42, [.ref 13], [], M)) (s2 := (7, [.ref 13], [], M)) rfl (by omega) (by omega) (fun c1 => absurd c1 (by omega)) (fun c1 => ?_)
  refine am_goQ 4 (s1 := (15, [.ref 13], [.int ((M 13 1)), .int ((M 13 2))], M)) (s2 := (15, [.ref 13], [.int (nI n), .int (nI p)], M)) rfl (by simp only [hL, hP]) ?_
  refine am_bLE (n) (p) (s1 := (42, [.ref 13], [], M)) (s2 := (18, [.ref 13], [], M)) rfl (by omega) (by omega) (fun c2 => ?_) (fun c2 => absurd c2 (by omega))
  refine am_goR 1 (s2 := (44, [.ref 13], [.int ((-nI 9))], M)) rfl ?_
  exact am_ends ((-nI 9)) _ rfl (by rfl) (rfl)

set_option maxHeartbeats 4000000 in
theorem s_isDigit {M : am_Mem} {c : Nat} (hc : c < 2147483648) : am_go 47 (am_ent 47 [.int (nI c)] M) (am_is (am_b (sp_in c 48 57)) M) := by
  refine am_goR 2 (s2 := (3, [.int (nI c)], [.int (nI 48), .int (nI c)], M)) rfl ?_
  refine am_bLT (c) (48) (s1 := (16, [.int (nI c)], [], M)) (s2 := (6, [.int (nI c)], [], M)) rfl (by omega) (by omega) (fun c1 => ?_) (fun c1 => ?_)
  · refine am_goR 1 (s2 := (17, [.int (nI c)], [.int (nI 0)], M)) rfl ?_
    exact am_endz false _ rfl (by unfold sp_in; first | (rw [decide_eq_false (by omega)]; rfl) | (rw [Bool.and_comm, decide_eq_false (by omega)]; rfl)) rfl
  · refine am_goR 2 (s2 := (9, [.int (nI c)], [.int (nI 57), .int (nI c)], M)) rfl ?_
    refine am_bLT (57) (c) (s1 := (16, [.int (nI c)], [], M)) (s2 := (12, [.int (nI c)], [], M)) rfl (by omega) (by omega) (fun c2 => ?_) (fun c2 => ?_)
    · refine am_goR 1 (s2 := (17, [.int (nI c)], [.int (nI 0)], M)) rfl ?_
      exact am_endz false _ rfl (by unfold sp_in; first | (rw [decide_eq_false (by omega)]; rfl) | (rw [Bool.and_comm, decide_eq_false (by omega)]; rfl)) rfl
    · refine am_goR 2 (s2 := (17, [.int (nI c)], [.int (nI 1)], M)) rfl ?_
      exact am_endz true _ rfl (by unfold sp_in; rw [decide_eq_true (by omega), decide_eq_true (by omega)]; rfl) rfl

set_option maxHeartbeats 4000000 in
theorem s_isDigitN {M : am_Mem} : am_go 47 (am_ent 47 [.int ((-nI 9))] M) (am_is (nI 0) M) := by
  refine am_goR 4 (s2 := (17, [.int ((-nI 9))], [.int (nI 0)], M)) rfl ?_
  exact am_ends (nI 0) _ rfl (by rfl) (rfl)

set_option maxHeartbeats 4000000 in
theorem s_readSignS {M : am_Mem} {tx : Nat → Nat} {n p : Nat} (hL : M 13 1 = nI n) (hT : ∀ q, q < 64 → M 14 q = nI (tx q)) (hn : n ≤ 64) (hx : ∀ q, tx q < 256) (hP : M 13 2 = nI p) (hp : p ≤ n) {c : Nat} (hc : c < 256) (hs : sp_is tx n p c = true) : am_go 45 (am_ent 45 [.ref 13, .int (nI c)] M) (am_is (nI 1) (am_set M 13 2 (nI (p + 1)))) := by
  have hs2 := sp_is_lt hs
  have hxp := hx p
  refine am_goR 1 (s2 := (1, [.ref 13, .int (nI c)], [.ref 13], M)) rfl ?_
  refine am_goX (v := nI (tx p)) (M2 := M) (s2 := (4, [.ref 13, .int (nI c)], [], M)) rfl (s_hereS (M := M) hL hT hn hx (p := p) hP (by omega)) ?_
  have w1x := hx p
  refine am_goR 1 (s2 := (5, [.ref 13, .int (nI c)], [.int (nI c), .int (nI (tx p))], M)) rfl ?_
  refine am_bEQ ((tx p)) (c) (s1 := (10, [.ref 13, .int (nI c)], [], M)) (s2 := (8, [.ref 13, .int (nI c)], [], M)) rfl (by omega) (by omega) (fun c2 => ?_) (fun c2 => absurd c2 (by omega))
  refine am_goQ 5 (s1 := (17, [.ref 13, .int (nI c)], [.int (((M 13 2) + nI 1)), .ref 13], M)) (s2 := (17, [.ref 13, .int (nI c)], [.int (nI (p + 1)), .ref 13], M)) rfl (by simp only [hP, nI_add]) ?_
  refine am_goR 2 (s2 := (21, [.ref 13, .int (nI c)], [.int (nI 1)], (am_set M 13 2 (nI (p + 1))))) rfl ?_
  exact am_goZ true rfl ⟨_, rfl, rfl, rfl⟩

set_option maxHeartbeats 4000000 in
theorem s_readSignN {M : am_Mem} {tx : Nat → Nat} {n p : Nat} (hL : M 13 1 = nI n) (hT : ∀ q, q < 64 → M 14 q = nI (tx q)) (hn : n ≤ 64) (hx : ∀ q, tx q < 256) (hP : M 13 2 = nI p) (hp : p ≤ n) {c : Nat} (hc : c < 256) (hs : sp_is tx n p c = false) : am_go 45 (am_ent 45 [.ref 13, .int (nI c)] M) (am_is (nI 0) M) := by
  have hs2 := sp_is_nF hs
  have hxp := hx p
  refine am_goR 1 (s2 := (1, [.ref 13, .int (nI c)], [.ref 13], M)) rfl ?_
  rcases Nat.lt_or_ge p n with w1 | w1
  · refine am_goX (v := nI (tx p)) (M2 := M) (s2 := (4, [.ref 13, .int (nI c)], [], M)) rfl (s_hereS (M := M) hL hT hn hx (p := p) hP (by omega)) ?_
    have w1x := hx p
    refine am_goR 1 (s2 := (5, [.ref 13, .int (nI c)], [.int (nI c), .int (nI (tx p))], M)) rfl ?_
    refine am_bEQ ((tx p)) (c) (s1 := (10, [.ref 13, .int (nI c)], [], M)) (s2 := (8, [.ref 13, .int (nI c)], [], M)) rfl (by omega) (by omega) (fun c2 => absurd c2 (by omega)) (fun c2 => ?_)
    refine am_goR 1 (s2 := (9, [.ref 13, .int (nI c)], [.int (nI 0)], M)) rfl ?_
    exact am_goZ false rfl ⟨_, rfl, rfl, rfl⟩
  · refine am_goX (v := (-nI 9)) (M2 := M) (s2 := (4, [.ref 13, .int (nI c)], [], M)) rfl (s_hereN (M := M) hL hT hn hx (p := p) hP (by omega) (by omega)) ?_
    refine am_goR 1 (s2 := (5, [.ref 13, .int (nI c)], [.int (nI c), .int ((-nI 9))], M)) rfl ?_
    refine am_bF (s1 := (10, [.ref 13, .int (nI c)], [], M)) (s2 := (8, [.ref 13, .int (nI c)], [], M)) rfl (fun z => am_nm_ne (x := c) (m := 9) (by omega) (by decide) (by decide) z.symm) ?_
    refine am_goR 1 (s2 := (9, [.ref 13, .int (nI c)], [.int (nI 0)], M)) rfl ?_
    exact am_goZ false rfl ⟨_, rfl, rfl, rfl⟩

set_option maxHeartbeats 4000000 in
theorem s_readNumN {M : am_Mem} {tx : Nat → Nat} {n p : Nat} (hL : M 13 1 = nI n) (hT : ∀ q, q < 64 → M 14 q = nI (tx q)) (hn : n ≤ 64) (hx : ∀ q, tx q < 256) (hP : M 13 2 = nI p) (hp : p ≤ n) (hz : sp_nl tx n p = 0) : am_go 44 (am_ent 44 [.ref 13] M) (am_is (-nI 9) M) := by
  have hxp := hx p
  have hd : p < n → ¬ sp_in (tx p) 48 57 = true := fun h1 h2 => by
    have h3 := sp_dg_T h1 h2
    unfold sp_nl at hz
    rw [if_pos h3] at hz
    split at hz <;> omega
  refine am_goR 1 (s2 := (1, [.ref 13, .null], [.ref 13], M)) rfl ?_
  rcases Nat.lt_or_ge p n with w1 | w1
  · refine am_goX (v := nI (tx p)) (M2 := M) (s2 := (4, [.ref 13, .null], [], M)) rfl (s_hereS (M := M) hL hT hn hx (p := p) hP (by omega)) ?_
    have w1x := hx p
    refine am_goX (v := am_b (sp_in (tx p) 48 57)) (M2 := M) (s2 := (7, [.ref 13, .null], [], M)) rfl (s_isDigit (c := (tx p)) (by omega)) ?_
    refine am_bB1 (sp_in (tx p) 48 57) (s1 := (13, [.ref 13, .null], [], M)) (s2 := (10, [.ref 13, .null], [], M)) rfl (fun c2 => absurd c2 (by simp [*])) (fun c2 => ?_)
    refine am_goR 1 (s2 := (12, [.ref 13, .null], [.int ((-nI 9))], M)) rfl ?_
    exact am_ends ((-nI 9)) _ rfl rfl rfl
  · refine am_goX (v := (-nI 9)) (M2 := M) (s2 := (4, [.ref 13, .null], [], M)) rfl (s_hereN (M := M) hL hT hn hx (p := p) hP (by omega) (by omega)) ?_
    refine am_goX (v := nI 0) (M2 := M) (s2 := (7, [.ref 13, .null], [], M)) rfl (s_isDigitN) ?_
    refine am_goR 2 (s2 := (12, [.ref 13, .null], [.int ((-nI 9))], M)) rfl ?_
    exact am_ends ((-nI 9)) _ rfl rfl rfl

set_option maxHeartbeats 4000000 in
theorem s_readNumS {M : am_Mem} {tx : Nat → Nat} {n p : Nat} (hL : M 13 1 = nI n) (hT : ∀ q, q < 64 → M 14 q = nI (tx q)) (hn : n ≤ 64) (hx : ∀ q, tx q < 256) (hP : M 13 2 = nI p) (hp : p ≤ n) (hz : ¬ sp_nl tx n p = 0) : am_go 44 (am_ent 44 [.ref 13] M) (am_is (nI (sp_nv tx n p)) (am_set M 13 2 (nI (p + sp_nl tx n p)))) := by
  have hxp := hx p
  have hd := sp_nl_n0 hz
  have hd2 := sp_dg_of hd
  have hd3 : sp_in (tx p) 48 57 = true := by unfold sp_in; rw [decide_eq_true hd2.2.1, decide_eq_true hd2.2.2]; rfl
  refine am_goR 1 (s2 := (1, [.ref 13, .null], [.ref 13], M)) rfl ?_
  refine am_goX (v := nI (tx p)) (M2 := M) (s2 := (4, [.ref 13, .null], [], M)) rfl (s_hereS (M := M) hL hT hn hx (p := p) hP (by omega)) ?_
  have w1x := hx p
  refine am_goX (v := am_b (sp_in (tx p) 48 57)) (M2 := M) (s2 := (7, [.ref 13, .null], [], M)) rfl (s_isDigit (c := (tx p)) (by omega)) ?_
  refine am_bB1 (sp_in (tx p) 48 57) (s1 := (13, [.ref 13, .null], [], M)) (s2 := (10, [.ref 13, .null], [], M)) rfl (fun c2 => ?_) (fun c2 => absurd c2 (by simp [*]))
  have c2d := sp_in_T c2
  refine am_goR 1 (s2 := (14, [.ref 13, .null], [.ref 13], M)) rfl ?_
  refine am_goX (v := nI (tx p)) (M2 := M) (s2 := (17, [.ref 13, .null], [], M)) rfl (s_hereS (M := M) hL hT hn hx (p := p) hP (by omega)) ?_
  have w3x := hx p
  refine am_goQ 8 (s1 := (28, [.ref 13, .int ((nI (tx p) - nI 48))], [.int (((M 13 2) + nI 1)), .ref 13], M)) (s2 := (28, [.ref 13, .int (nI ((tx p) - 48))], [.int (nI (p + 1)), .ref 13], M)) rfl (by simp only [pk_sub (a := (tx p)) (b := 48) (by omega), hP, nI_add]) ?_
  refine am_goR 2 (s2 := (32, [.ref 13, .int (nI ((tx p) - 48))], [.ref 13], (am_set M 13 2 (nI (p + 1))))) rfl ?_
  rcases Nat.lt_or_ge (p + 1) n with w4 | w4
  · refine am_goX (v := nI (tx (p + 1))) (M2 := (am_set M 13 2 (nI (p + 1)))) (s2 := (35, [.ref 13, .int (nI ((tx p) - 48))], [], (am_set M 13 2 (nI (p + 1))))) rfl (s_hereS (M := (am_set M 13 2 (nI (p + 1)))) hL hT hn hx (p := (p + 1)) rfl (by omega)) ?_
    have w4x := hx (p + 1)
    refine am_goX (v := am_b (sp_in (tx (p + 1)) 48 57)) (M2 := (am_set M 13 2 (nI (p + 1)))) (s2 := (38, [.ref 13, .int (nI ((tx p) - 48))], [], (am_set M 13 2 (nI (p + 1))))) rfl (s_isDigit (c := (tx (p + 1))) (by omega)) ?_
    refine am_bB0 (sp_in (tx (p + 1)) 48 57) (s1 := (64, [.ref 13, .int (nI ((tx p) - 48))], [], (am_set M 13 2 (nI (p + 1))))) (s2 := (41, [.ref 13, .int (nI ((tx p) - 48))], [], (am_set M 13 2 (nI (p + 1))))) rfl (fun c5 => ?_) (fun c5 => ?_)
    · refine am_goR 1 (s2 := (65, [.ref 13, .int (nI ((tx p) - 48))], [.int (nI ((tx p) - 48))], (am_set M 13 2 (nI (p + 1))))) rfl ?_
      have e2 := sp_nl_1 hd (by first | exact sp_dg_N (by omega) | exact sp_dg_F (by assumption))
      rw [e2.1, e2.2]
      exact am_ends (nI ((tx p) - 48)) _ rfl (by first | rfl | (congr 1; omega)) rfl
    · have c5d := sp_in_T c5
      refine am_goQ 4 (s1 := (46, [.ref 13, .int (nI ((tx p) - 48))], [.ref 13, .int ((nI 10 * nI ((tx p) - 48)))], (am_set M 13 2 (nI (p + 1))))) (s2 := (46, [.ref 13, .int (nI ((tx p) - 48))], [.ref 13, .int (nI (10 * ((tx p) - 48)))], (am_set M 13 2 (nI (p + 1))))) rfl (by simp only [pk_mul]) ?_
      refine am_goX (v := nI (tx (p + 1))) (M2 := (am_set M 13 2 (nI (p + 1)))) (s2 := (49, [.ref 13, .int (nI ((tx p) - 48))], [.int (nI (10 * ((tx p) - 48)))], (am_set M 13 2 (nI (p + 1))))) rfl (s_hereS (M := (am_set M 13 2 (nI (p + 1)))) hL hT hn hx (p := (p + 1)) rfl (by omega)) ?_
      have w6x := hx (p + 1)
      refine am_goQ 9 (s1 := (61, [.ref 13, .int (((nI (10 * ((tx p) - 48)) + nI (tx (p + 1))) - nI 48))], [.int ((nI (p + 1) + nI 1)), .ref 13], (am_set M 13 2 (nI (p + 1))))) (s2 := (61, [.ref 13, .int (nI (((10 * ((tx p) - 48)) + (tx (p + 1))) - 48))], [.int (nI ((p + 1) + 1)), .ref 13], (am_set M 13 2 (nI (p + 1))))) rfl (by simp only [nI_add, pk_sub (a := ((10 * ((tx p) - 48)) + (tx (p + 1)))) (b := 48) (by omega)]) ?_
      refine am_goR 2 (s2 := (65, [.ref 13, .int (nI (((10 * ((tx p) - 48)) + (tx (p + 1))) - 48))], [.int (nI (((10 * ((tx p) - 48)) + (tx (p + 1))) - 48))], (am_set (am_set M 13 2 (nI (p + 1))) 13 2 (nI ((p + 1) + 1))))) rfl ?_
      have e2 := sp_nl_2 hd (sp_dg_T (by omega) (by assumption))
      rw [e2.1, e2.2]
      exact am_ends (nI (((10 * ((tx p) - 48)) + (tx (p + 1))) - 48)) _ rfl (by first | rfl | (congr 1; omega)) (by rw [am_set2])
  · refine am_goX (v := (-nI 9)) (M2 := (am_set M 13 2 (nI (p + 1)))) (s2 := (35, [.ref 13, .int (nI ((tx p) - 48))], [], (am_set M 13 2 (nI (p + 1))))) rfl (s_hereN (M := (am_set M 13 2 (nI (p + 1)))) hL hT hn hx (p := (p + 1)) rfl (by omega) (by omega)) ?_
    refine am_goX (v := nI 0) (M2 := (am_set M 13 2 (nI (p + 1)))) (s2 := (38, [.ref 13, .int (nI ((tx p) - 48))], [], (am_set M 13 2 (nI (p + 1))))) rfl (s_isDigitN) ?_
    refine am_goR 2 (s2 := (65, [.ref 13, .int (nI ((tx p) - 48))], [.int (nI ((tx p) - 48))], (am_set M 13 2 (nI (p + 1))))) rfl ?_
    have e2 := sp_nl_1 hd (by first | exact sp_dg_N (by omega) | exact sp_dg_F (by assumption))
    rw [e2.1, e2.2]
    exact am_ends (nI ((tx p) - 48)) _ rfl (by first | rfl | (congr 1; omega)) rfl

set_option maxHeartbeats 4000000 in
theorem s_readKindS {M : am_Mem} {tx : Nat → Nat} {n p : Nat} (hL : M 13 1 = nI n) (hT : ∀ q, q < 64 → M 14 q = nI (tx q)) (hn : n ≤ 64) (hx : ∀ q, tx q < 256) (hP : M 13 2 = nI p) (hp : p ≤ n) (hk : sp_kd tx n p < 6) : am_go 43 (am_ent 43 [.ref 13] M) (am_is (nI 1) (am_set (am_set M 13 4 (nI (sp_kd tx n p))) 13 2 (nI (p + 1)))) := by
  have hpn := sp_kd_lt hk
  have hxp := hx p
  have hk2 : tx p = 97 ∨ tx p = 108 ∨ tx p = 115 ∨ tx p = 119 ∨ tx p = 107 ∨ tx p = 110 := by
    rw [sp_kd_e hpn] at hk
    refine Decidable.byContradiction (fun z => ?_)
    have e6 : sp_kl (tx p) = 6 := by unfold sp_kl; rw [if_neg (by omega), if_neg (by omega), if_neg (by omega), if_neg (by omega), if_neg (by omega), if_neg (by omega)]
    omega
  refine am_goR 7 (s2 := (11, [.ref 13, .int (nI 0)], [.ref 13], M)) rfl ?_
  refine am_goX (v := nI (tx p)) (M2 := M) (s2 := (14, [.ref 13, .int (nI 0)], [], M)) rfl (s_hereS (M := M) hL hT hn hx (p := p) hP (by omega)) ?_
  have w1x := hx p
  refine am_goR 2 (s2 := (18, [.ref 13, .int (nI 0)], [.int (nI 0), .ref 30, .int (nI (tx p))], M)) rfl ?_
  refine am_goL2 (pc := 19) (ls := [.ref 13, .int (nI 0)]) (r := [.int (nI (tx p))]) (M := M) (a := 30) (n := 6) (0) (nI 97) rfl rfl (by omega) (by decide) (rfl) ?_
  refine am_bNE ((tx p)) (97) (s1 := (39, [.ref 13, .int (nI 0)], [], M)) (s2 := (22, [.ref 13, .int (nI 0)], [], M)) rfl (by omega) (by omega) (fun c2 => ?_) (fun c2 => ?_)
  · refine am_goR 7 (s2 := (11, [.ref 13, .int (nI 1)], [.ref 13], M)) rfl ?_
    refine am_goX (v := nI (tx p)) (M2 := M) (s2 := (14, [.ref 13, .int (nI 1)], [], M)) rfl (s_hereS (M := M) hL hT hn hx (p := p) hP (by omega)) ?_
    have w3x := hx p
    refine am_goR 2 (s2 := (18, [.ref 13, .int (nI 1)], [.int (nI 1), .ref 30, .int (nI (tx p))], M)) rfl ?_
    refine am_goL2 (pc := 19) (ls := [.ref 13, .int (nI 1)]) (r := [.int (nI (tx p))]) (M := M) (a := 30) (n := 6) (1) (nI 108) rfl rfl (by omega) (by decide) (rfl) ?_
    refine am_bNE ((tx p)) (108) (s1 := (39, [.ref 13, .int (nI 1)], [], M)) (s2 := (22, [.ref 13, .int (nI 1)], [], M)) rfl (by omega) (by omega) (fun c4 => ?_) (fun c4 => ?_)
    · refine am_goR 7 (s2 := (11, [.ref 13, .int (nI 2)], [.ref 13], M)) rfl ?_
      refine am_goX (v := nI (tx p)) (M2 := M) (s2 := (14, [.ref 13, .int (nI 2)], [], M)) rfl (s_hereS (M := M) hL hT hn hx (p := p) hP (by omega)) ?_
      have w5x := hx p
      refine am_goR 2 (s2 := (18, [.ref 13, .int (nI 2)], [.int (nI 2), .ref 30, .int (nI (tx p))], M)) rfl ?_
      refine am_goL2 (pc := 19) (ls := [.ref 13, .int (nI 2)]) (r := [.int (nI (tx p))]) (M := M) (a := 30) (n := 6) (2) (nI 115) rfl rfl (by omega) (by decide) (rfl) ?_
      refine am_bNE ((tx p)) (115) (s1 := (39, [.ref 13, .int (nI 2)], [], M)) (s2 := (22, [.ref 13, .int (nI 2)], [], M)) rfl (by omega) (by omega) (fun c6 => ?_) (fun c6 => ?_)
      · refine am_goR 7 (s2 := (11, [.ref 13, .int (nI 3)], [.ref 13], M)) rfl ?_
        refine am_goX (v := nI (tx p)) (M2 := M) (s2 := (14, [.ref 13, .int (nI 3)], [], M)) rfl (s_hereS (M := M) hL hT hn hx (p := p) hP (by omega)) ?_
        have w7x := hx p
        refine am_goR 2 (s2 := (18, [.ref 13, .int (nI 3)], [.int (nI 3), .ref 30, .int (nI (tx p))], M)) rfl ?_
        refine am_goL2 (pc := 19) (ls := [.ref 13, .int (nI 3)]) (r := [.int (nI (tx p))]) (M := M) (a := 30) (n := 6) (3) (nI 119) rfl rfl (by omega) (by decide) (rfl) ?_
        refine am_bNE ((tx p)) (119) (s1 := (39, [.ref 13, .int (nI 3)], [], M)) (s2 := (22, [.ref 13, .int (nI 3)], [], M)) rfl (by omega) (by omega) (fun c8 => ?_) (fun c8 => ?_)
        · refine am_goR 7 (s2 := (11, [.ref 13, .int (nI 4)], [.ref 13], M)) rfl ?_
          refine am_goX (v := nI (tx p)) (M2 := M) (s2 := (14, [.ref 13, .int (nI 4)], [], M)) rfl (s_hereS (M := M) hL hT hn hx (p := p) hP (by omega)) ?_
          have w9x := hx p
          refine am_goR 2 (s2 := (18, [.ref 13, .int (nI 4)], [.int (nI 4), .ref 30, .int (nI (tx p))], M)) rfl ?_
          refine am_goL2 (pc := 19) (ls := [.ref 13, .int (nI 4)]) (r := [.int (nI (tx p))]) (M := M) (a := 30) (n := 6) (4) (nI 107) rfl rfl (by omega) (by decide) (rfl) ?_
          refine am_bNE ((tx p)) (107) (s1 := (39, [.ref 13, .int (nI 4)], [], M)) (s2 := (22, [.ref 13, .int (nI 4)], [], M)) rfl (by omega) (by omega) (fun c10 => ?_) (fun c10 => ?_)
          · refine am_goR 7 (s2 := (11, [.ref 13, .int (nI 5)], [.ref 13], M)) rfl ?_
            refine am_goX (v := nI (tx p)) (M2 := M) (s2 := (14, [.ref 13, .int (nI 5)], [], M)) rfl (s_hereS (M := M) hL hT hn hx (p := p) hP (by omega)) ?_
            have w11x := hx p
            refine am_goR 2 (s2 := (18, [.ref 13, .int (nI 5)], [.int (nI 5), .ref 30, .int (nI (tx p))], M)) rfl ?_
            refine am_goL2 (pc := 19) (ls := [.ref 13, .int (nI 5)]) (r := [.int (nI (tx p))]) (M := M) (a := 30) (n := 6) (5) (nI 110) rfl rfl (by omega) (by decide) (rfl) ?_
            refine am_bNE ((tx p)) (110) (s1 := (39, [.ref 13, .int (nI 5)], [], M)) (s2 := (22, [.ref 13, .int (nI 5)], [], M)) rfl (by omega) (by omega) (fun c12 => absurd c12 (by omega)) (fun c12 => ?_)
            refine am_goQ 8 (s1 := (34, [.ref 13, .int (nI 5)], [.int (((M 13 2) + nI 1)), .ref 13], (am_set M 13 4 (nI 5)))) (s2 := (34, [.ref 13, .int (nI 5)], [.int (nI (p + 1)), .ref 13], (am_set M 13 4 (nI 5)))) rfl (by simp only [hP, nI_add]) ?_
            refine am_goR 2 (s2 := (38, [.ref 13, .int (nI 5)], [.int (nI 1)], (am_set (am_set M 13 4 (nI 5)) 13 2 (nI (p + 1))))) rfl ?_
            refine am_goZ true rfl ⟨_, rfl, rfl, ?_⟩
            rw [sp_kd_e (by assumption)]
            unfold sp_kl
            simp [*]
          · refine am_goQ 8 (s1 := (34, [.ref 13, .int (nI 4)], [.int (((M 13 2) + nI 1)), .ref 13], (am_set M 13 4 (nI 4)))) (s2 := (34, [.ref 13, .int (nI 4)], [.int (nI (p + 1)), .ref 13], (am_set M 13 4 (nI 4)))) rfl (by simp only [hP, nI_add]) ?_
            refine am_goR 2 (s2 := (38, [.ref 13, .int (nI 4)], [.int (nI 1)], (am_set (am_set M 13 4 (nI 4)) 13 2 (nI (p + 1))))) rfl ?_
            refine am_goZ true rfl ⟨_, rfl, rfl, ?_⟩
            rw [sp_kd_e (by assumption)]
            unfold sp_kl
            simp [*]
        · refine am_goQ 8 (s1 := (34, [.ref 13, .int (nI 3)], [.int (((M 13 2) + nI 1)), .ref 13], (am_set M 13 4 (nI 3)))) (s2 := (34, [.ref 13, .int (nI 3)], [.int (nI (p + 1)), .ref 13], (am_set M 13 4 (nI 3)))) rfl (by simp only [hP, nI_add]) ?_
          refine am_goR 2 (s2 := (38, [.ref 13, .int (nI 3)], [.int (nI 1)], (am_set (am_set M 13 4 (nI 3)) 13 2 (nI (p + 1))))) rfl ?_
          refine am_goZ true rfl ⟨_, rfl, rfl, ?_⟩
          rw [sp_kd_e (by assumption)]
          unfold sp_kl
          simp [*]
      · refine am_goQ 8 (s1 := (34, [.ref 13, .int (nI 2)], [.int (((M 13 2) + nI 1)), .ref 13], (am_set M 13 4 (nI 2)))) (s2 := (34, [.ref 13, .int (nI 2)], [.int (nI (p + 1)), .ref 13], (am_set M 13 4 (nI 2)))) rfl (by simp only [hP, nI_add]) ?_
        refine am_goR 2 (s2 := (38, [.ref 13, .int (nI 2)], [.int (nI 1)], (am_set (am_set M 13 4 (nI 2)) 13 2 (nI (p + 1))))) rfl ?_
        refine am_goZ true rfl ⟨_, rfl, rfl, ?_⟩
        rw [sp_kd_e (by assumption)]
        unfold sp_kl
        simp [*]
    · refine am_goQ 8 (s1 := (34, [.ref 13, .int (nI 1)], [.int (((M 13 2) + nI 1)), .ref 13], (am_set M 13 4 (nI 1)))) (s2 := (34, [.ref 13, .int (nI 1)], [.int (nI (p + 1)), .ref 13], (am_set M 13 4 (nI 1)))) rfl (by simp only [hP, nI_add]) ?_
      refine am_goR 2 (s2 := (38, [.ref 13, .int (nI 1)], [.int (nI 1)], (am_set (am_set M 13 4 (nI 1)) 13 2 (nI (p + 1))))) rfl ?_
      refine am_goZ true rfl ⟨_, rfl, rfl, ?_⟩
      rw [sp_kd_e (by assumption)]
      unfold sp_kl
      simp [*]
  · refine am_goQ 8 (s1 := (34, [.ref 13, .int (nI 0)], [.int (((M 13 2) + nI 1)), .ref 13], (am_set M 13 4 (nI 0)))) (s2 := (34, [.ref 13, .int (nI 0)], [.int (nI (p + 1)), .ref 13], (am_set M 13 4 (nI 0)))) rfl (by simp only [hP, nI_add]) ?_
    refine am_goR 2 (s2 := (38, [.ref 13, .int (nI 0)], [.int (nI 1)], (am_set (am_set M 13 4 (nI 0)) 13 2 (nI (p + 1))))) rfl ?_
    refine am_goZ true rfl ⟨_, rfl, rfl, ?_⟩
    rw [sp_kd_e (by assumption)]
    unfold sp_kl
    simp [*]

set_option maxHeartbeats 4000000 in
theorem s_readKindN {M : am_Mem} {tx : Nat → Nat} {n p : Nat} (hL : M 13 1 = nI n) (hT : ∀ q, q < 64 → M 14 q = nI (tx q)) (hn : n ≤ 64) (hx : ∀ q, tx q < 256) (hP : M 13 2 = nI p) (hp : p ≤ n) (hk : 6 ≤ sp_kd tx n p) : am_go 43 (am_ent 43 [.ref 13] M) (am_is (nI 0) M) := by
  have hxp := hx p
  have hk2 : p < n → ¬ tx p = 97 ∧ ¬ tx p = 108 ∧ ¬ tx p = 115 ∧ ¬ tx p = 119 ∧ ¬ tx p = 107 ∧ ¬ tx p = 110 := by
    intro h
    rw [sp_kd_e h] at hk
    unfold sp_kl at hk
    refine ⟨fun z => ?_, fun z => ?_, fun z => ?_, fun z => ?_, fun z => ?_, fun z => ?_⟩ <;> (rw [z] at hk; revert hk; decide)
  refine am_goR 7 (s2 := (11, [.ref 13, .int (nI 0)], [.ref 13], M)) rfl ?_
  rcases Nat.lt_or_ge p n with w1 | w1
  · refine am_goX (v := nI (tx p)) (M2 := M) (s2 := (14, [.ref 13, .int (nI 0)], [], M)) rfl (s_hereS (M := M) hL hT hn hx (p := p) hP (by omega)) ?_
    have w1x := hx p
    refine am_goR 2 (s2 := (18, [.ref 13, .int (nI 0)], [.int (nI 0), .ref 30, .int (nI (tx p))], M)) rfl ?_
    refine am_goL2 (pc := 19) (ls := [.ref 13, .int (nI 0)]) (r := [.int (nI (tx p))]) (M := M) (a := 30) (n := 6) (0) (nI 97) rfl rfl (by omega) (by decide) (rfl) ?_
    refine am_bNE ((tx p)) (97) (s1 := (39, [.ref 13, .int (nI 0)], [], M)) (s2 := (22, [.ref 13, .int (nI 0)], [], M)) rfl (by omega) (by omega) (fun c2 => ?_) (fun c2 => absurd c2 (by omega))
    refine am_goR 7 (s2 := (11, [.ref 13, .int (nI 1)], [.ref 13], M)) rfl ?_
    refine am_goX (v := nI (tx p)) (M2 := M) (s2 := (14, [.ref 13, .int (nI 1)], [], M)) rfl (s_hereS (M := M) hL hT hn hx (p := p) hP (by omega)) ?_
    have w3x := hx p
    refine am_goR 2 (s2 := (18, [.ref 13, .int (nI 1)], [.int (nI 1), .ref 30, .int (nI (tx p))], M)) rfl ?_
    refine am_goL2 (pc := 19) (ls := [.ref 13, .int (nI 1)]) (r := [.int (nI (tx p))]) (M := M) (a := 30) (n := 6) (1) (nI 108) rfl rfl (by omega) (by decide) (rfl) ?_
    refine am_bNE ((tx p)) (108) (s1 := (39, [.ref 13, .int (nI 1)], [], M)) (s2 := (22, [.ref 13, .int (nI 1)], [], M)) rfl (by omega) (by omega) (fun c4 => ?_) (fun c4 => absurd c4 (by omega))
    refine am_goR 7 (s2 := (11, [.ref 13, .int (nI 2)], [.ref 13], M)) rfl ?_
    refine am_goX (v := nI (tx p)) (M2 := M) (s2 := (14, [.ref 13, .int (nI 2)], [], M)) rfl (s_hereS (M := M) hL hT hn hx (p := p) hP (by omega)) ?_
    have w5x := hx p
    refine am_goR 2 (s2 := (18, [.ref 13, .int (nI 2)], [.int (nI 2), .ref 30, .int (nI (tx p))], M)) rfl ?_
    refine am_goL2 (pc := 19) (ls := [.ref 13, .int (nI 2)]) (r := [.int (nI (tx p))]) (M := M) (a := 30) (n := 6) (2) (nI 115) rfl rfl (by omega) (by decide) (rfl) ?_
    refine am_bNE ((tx p)) (115) (s1 := (39, [.ref 13, .int (nI 2)], [], M)) (s2 := (22, [.ref 13, .int (nI 2)], [], M)) rfl (by omega) (by omega) (fun c6 => ?_) (fun c6 => absurd c6 (by omega))
    refine am_goR 7 (s2 := (11, [.ref 13, .int (nI 3)], [.ref 13], M)) rfl ?_
    refine am_goX (v := nI (tx p)) (M2 := M) (s2 := (14, [.ref 13, .int (nI 3)], [], M)) rfl (s_hereS (M := M) hL hT hn hx (p := p) hP (by omega)) ?_
    have w7x := hx p
    refine am_goR 2 (s2 := (18, [.ref 13, .int (nI 3)], [.int (nI 3), .ref 30, .int (nI (tx p))], M)) rfl ?_
    refine am_goL2 (pc := 19) (ls := [.ref 13, .int (nI 3)]) (r := [.int (nI (tx p))]) (M := M) (a := 30) (n := 6) (3) (nI 119) rfl rfl (by omega) (by decide) (rfl) ?_
    refine am_bNE ((tx p)) (119) (s1 := (39, [.ref 13, .int (nI 3)], [], M)) (s2 := (22, [.ref 13, .int (nI 3)], [], M)) rfl (by omega) (by omega) (fun c8 => ?_) (fun c8 => absurd c8 (by omega))
    refine am_goR 7 (s2 := (11, [.ref 13, .int (nI 4)], [.ref 13], M)) rfl ?_
    refine am_goX (v := nI (tx p)) (M2 := M) (s2 := (14, [.ref 13, .int (nI 4)], [], M)) rfl (s_hereS (M := M) hL hT hn hx (p := p) hP (by omega)) ?_
    have w9x := hx p
    refine am_goR 2 (s2 := (18, [.ref 13, .int (nI 4)], [.int (nI 4), .ref 30, .int (nI (tx p))], M)) rfl ?_
    refine am_goL2 (pc := 19) (ls := [.ref 13, .int (nI 4)]) (r := [.int (nI (tx p))]) (M := M) (a := 30) (n := 6) (4) (nI 107) rfl rfl (by omega) (by decide) (rfl) ?_
    refine am_bNE ((tx p)) (107) (s1 := (39, [.ref 13, .int (nI 4)], [], M)) (s2 := (22, [.ref 13, .int (nI 4)], [], M)) rfl (by omega) (by omega) (fun c10 => ?_) (fun c10 => absurd c10 (by omega))
    refine am_goR 7 (s2 := (11, [.ref 13, .int (nI 5)], [.ref 13], M)) rfl ?_
    refine am_goX (v := nI (tx p)) (M2 := M) (s2 := (14, [.ref 13, .int (nI 5)], [], M)) rfl (s_hereS (M := M) hL hT hn hx (p := p) hP (by omega)) ?_
    have w11x := hx p
    refine am_goR 2 (s2 := (18, [.ref 13, .int (nI 5)], [.int (nI 5), .ref 30, .int (nI (tx p))], M)) rfl ?_
    refine am_goL2 (pc := 19) (ls := [.ref 13, .int (nI 5)]) (r := [.int (nI (tx p))]) (M := M) (a := 30) (n := 6) (5) (nI 110) rfl rfl (by omega) (by decide) (rfl) ?_
    refine am_bNE ((tx p)) (110) (s1 := (39, [.ref 13, .int (nI 5)], [], M)) (s2 := (22, [.ref 13, .int (nI 5)], [], M)) rfl (by omega) (by omega) (fun c12 => ?_) (fun c12 => absurd c12 (by omega))
    refine am_goR 7 (s2 := (46, [.ref 13, .int (nI 6)], [.int (nI 0)], M)) rfl ?_
    exact am_goZ false rfl ⟨_, rfl, rfl, rfl⟩
  · refine am_goX (v := (-nI 9)) (M2 := M) (s2 := (14, [.ref 13, .int (nI 0)], [], M)) rfl (s_hereN (M := M) hL hT hn hx (p := p) hP (by omega) (by omega)) ?_
    refine am_goR 2 (s2 := (18, [.ref 13, .int (nI 0)], [.int (nI 0), .ref 30, .int ((-nI 9))], M)) rfl ?_
    refine am_goL2 (pc := 19) (ls := [.ref 13, .int (nI 0)]) (r := [.int ((-nI 9))]) (M := M) (a := 30) (n := 6) (0) (nI 97) rfl rfl (by omega) (by decide) (rfl) ?_
    refine am_goR 8 (s2 := (11, [.ref 13, .int (nI 1)], [.ref 13], M)) rfl ?_
    refine am_goX (v := (-nI 9)) (M2 := M) (s2 := (14, [.ref 13, .int (nI 1)], [], M)) rfl (s_hereN (M := M) hL hT hn hx (p := p) hP (by omega) (by omega)) ?_
    refine am_goR 2 (s2 := (18, [.ref 13, .int (nI 1)], [.int (nI 1), .ref 30, .int ((-nI 9))], M)) rfl ?_
    refine am_goL2 (pc := 19) (ls := [.ref 13, .int (nI 1)]) (r := [.int ((-nI 9))]) (M := M) (a := 30) (n := 6) (1) (nI 108) rfl rfl (by omega) (by decide) (rfl) ?_
    refine am_goR 8 (s2 := (11, [.ref 13, .int (nI 2)], [.ref 13], M)) rfl ?_
    refine am_goX (v := (-nI 9)) (M2 := M) (s2 := (14, [.ref 13, .int (nI 2)], [], M)) rfl (s_hereN (M := M) hL hT hn hx (p := p) hP (by omega) (by omega)) ?_
    refine am_goR 2 (s2 := (18, [.ref 13, .int (nI 2)], [.int (nI 2), .ref 30, .int ((-nI 9))], M)) rfl ?_
    refine am_goL2 (pc := 19) (ls := [.ref 13, .int (nI 2)]) (r := [.int ((-nI 9))]) (M := M) (a := 30) (n := 6) (2) (nI 115) rfl rfl (by omega) (by decide) (rfl) ?_
    refine am_goR 8 (s2 := (11, [.ref 13, .int (nI 3)], [.ref 13], M)) rfl ?_
    refine am_goX (v := (-nI 9)) (M2 := M) (s2 := (14, [.ref 13, .int (nI 3)], [], M)) rfl (s_hereN (M := M) hL hT hn hx (p := p) hP (by omega) (by omega)) ?_
    refine am_goR 2 (s2 := (18, [.ref 13, .int (nI 3)], [.int (nI 3), .ref 30, .int ((-nI 9))], M)) rfl ?_
    refine am_goL2 (pc := 19) (ls := [.ref 13, .int (nI 3)]) (r := [.int ((-nI 9))]) (M := M) (a := 30) (n := 6) (3) (nI 119) rfl rfl (by omega) (by decide) (rfl) ?_
    refine am_goR 8 (s2 := (11, [.ref 13, .int (nI 4)], [.ref 13], M)) rfl ?_
    refine am_goX (v := (-nI 9)) (M2 := M) (s2 := (14, [.ref 13, .int (nI 4)], [], M)) rfl (s_hereN (M := M) hL hT hn hx (p := p) hP (by omega) (by omega)) ?_
    refine am_goR 2 (s2 := (18, [.ref 13, .int (nI 4)], [.int (nI 4), .ref 30, .int ((-nI 9))], M)) rfl ?_
    refine am_goL2 (pc := 19) (ls := [.ref 13, .int (nI 4)]) (r := [.int ((-nI 9))]) (M := M) (a := 30) (n := 6) (4) (nI 107) rfl rfl (by omega) (by decide) (rfl) ?_
    refine am_goR 8 (s2 := (11, [.ref 13, .int (nI 5)], [.ref 13], M)) rfl ?_
    refine am_goX (v := (-nI 9)) (M2 := M) (s2 := (14, [.ref 13, .int (nI 5)], [], M)) rfl (s_hereN (M := M) hL hT hn hx (p := p) hP (by omega) (by omega)) ?_
    refine am_goR 2 (s2 := (18, [.ref 13, .int (nI 5)], [.int (nI 5), .ref 30, .int ((-nI 9))], M)) rfl ?_
    refine am_goL2 (pc := 19) (ls := [.ref 13, .int (nI 5)]) (r := [.int ((-nI 9))]) (M := M) (a := 30) (n := 6) (5) (nI 110) rfl rfl (by omega) (by decide) (rfl) ?_
    refine am_goR 8 (s2 := (46, [.ref 13, .int (nI 6)], [.int (nI 0)], M)) rfl ?_
    exact am_goZ false rfl ⟨_, rfl, rfl, rfl⟩

set_option maxHeartbeats 4000000 in
theorem s_readArm {M : am_Mem} {tx : Nat → Nat} {n p : Nat} (hL : M 13 1 = nI n) (hT : ∀ q, q < 64 → M 14 q = nI (tx q)) (hn : n ≤ 64) (hx : ∀ q, tx q < 256) (hP : M 13 2 = nI p) (hp : p ≤ n) : am_go 42 (am_ent 42 [.ref 13] M) (am_ri (fun x N => x = am_b (sp_ak tx n p) ∧ (∀ a b, ¬ (a = 13 ∧ (b = 2 ∨ 4 ≤ b)) → N a b = M a b) ∧ N 13 2 = nI (sp_ae tx n p) ∧ (sp_ak tx n p = true → N 13 4 = nI (sp_kd tx n p) ∧ N 13 5 = nI (sp_nv tx n (p + 1)) ∧ N 13 6 = nI (sp_nv tx n (p + 1 + sp_nl tx n (p + 1) + 1))))) := by
  refine am_goR 1 (s2 := (1, [.ref 13], [.ref 13], M)) rfl ?_
  rcases Nat.lt_or_ge (sp_kd tx n p) 6 with w1 | w1
  · refine am_goX (v := nI 1) (M2 := (am_set (am_set M 13 4 (nI (sp_kd tx n p))) 13 2 (nI (p + 1)))) (s2 := (4, [.ref 13], [], M)) rfl (s_readKindS (M := M) hL hT hn hx (p := p) hP (by omega) w1) ?_
    have w1a := sp_kd_lt w1
    refine am_goR 3 (s2 := (11, [.ref 13], [.ref 13, .ref 13], (am_set (am_set M 13 4 (nI (sp_kd tx n p))) 13 2 (nI (p + 1))))) rfl ?_
    by_cases w2 : sp_nl tx n (p + 1) = 0
    · refine am_goX (v := (-nI 9)) (M2 := (am_set (am_set M 13 4 (nI (sp_kd tx n p))) 13 2 (nI (p + 1)))) (s2 := (14, [.ref 13], [.ref 13], (am_set (am_set M 13 4 (nI (sp_kd tx n p))) 13 2 (nI (p + 1))))) rfl (s_readNumN (M := (am_set (am_set M 13 4 (nI (sp_kd tx n p))) 13 2 (nI (p + 1)))) hL hT hn hx (p := (p + 1)) rfl (by omega) w2) ?_
      refine am_goR 5 (s2 := (34, [.ref 13], [.int (nI 0)], (am_set (am_set (am_set M 13 4 (nI (sp_kd tx n p))) 13 2 (nI (p + 1))) 13 5 ((-nI 9))))) rfl ?_
      have e1 : sp_ak tx n p = false := by unfold sp_ak; simp [*]
      have e2 : sp_ae tx n p = (p + 1) := by unfold sp_ae; simp [*]
      exact am_goZ false rfl ⟨_, rfl, by rw [e1], fun a b hf => by show (am_set (am_set (am_set M 13 4 (nI (sp_kd tx n p))) 13 2 (nI (p + 1))) 13 5 ((-nI 9))) a b = M a b; first | rfl | ((repeat rw [am_set_o (fun z => hf (by omega))])), by rw [e2]; first | rfl | exact hP, fun z => by rw [e1] at z; cases z⟩
    · refine am_goX (v := nI (sp_nv tx n (p + 1))) (M2 := (am_set (am_set (am_set M 13 4 (nI (sp_kd tx n p))) 13 2 (nI (p + 1))) 13 2 (nI ((p + 1) + (sp_nl tx n (p + 1)))))) (s2 := (14, [.ref 13], [.ref 13], (am_set (am_set M 13 4 (nI (sp_kd tx n p))) 13 2 (nI (p + 1))))) rfl (s_readNumS (M := (am_set (am_set M 13 4 (nI (sp_kd tx n p))) 13 2 (nI (p + 1)))) hL hT hn hx (p := (p + 1)) rfl (by omega) w2) ?_
      have w2a := sp_nl_b hn (p := (p + 1)) w2
      have w2b := sp_nv_lt (tx := tx) (n := n) w2
      refine am_goR 3 (s2 := (21, [.ref 13], [.int (nI (sp_nv tx n (p + 1)))], (am_set (am_set (am_set (am_set M 13 4 (nI (sp_kd tx n p))) 13 2 (nI (p + 1))) 13 2 (nI ((p + 1) + (sp_nl tx n (p + 1))))) 13 5 (nI (sp_nv tx n (p + 1)))))) rfl ?_
      refine am_bLT ((sp_nv tx n (p + 1))) (0) (s1 := (33, [.ref 13], [], (am_set (am_set (am_set (am_set M 13 4 (nI (sp_kd tx n p))) 13 2 (nI (p + 1))) 13 2 (nI ((p + 1) + (sp_nl tx n (p + 1))))) 13 5 (nI (sp_nv tx n (p + 1)))))) (s2 := (24, [.ref 13], [], (am_set (am_set (am_set (am_set M 13 4 (nI (sp_kd tx n p))) 13 2 (nI (p + 1))) 13 2 (nI ((p + 1) + (sp_nl tx n (p + 1))))) 13 5 (nI (sp_nv tx n (p + 1)))))) rfl (by omega) (by omega) (fun c3 => absurd c3 (by omega)) (fun c3 => ?_)
      refine am_goR 2 (s2 := (27, [.ref 13], [.int (nI 44), .ref 13], (am_set (am_set (am_set (am_set M 13 4 (nI (sp_kd tx n p))) 13 2 (nI (p + 1))) 13 2 (nI ((p + 1) + (sp_nl tx n (p + 1))))) 13 5 (nI (sp_nv tx n (p + 1)))))) rfl ?_
      rcases Bool.eq_false_or_eq_true (sp_is tx n ((p + 1) + (sp_nl tx n (p + 1))) 44) with w4 | w4
      · refine am_goX (v := nI 1) (M2 := (am_set (am_set (am_set (am_set (am_set M 13 4 (nI (sp_kd tx n p))) 13 2 (nI (p + 1))) 13 2 (nI ((p + 1) + (sp_nl tx n (p + 1))))) 13 5 (nI (sp_nv tx n (p + 1)))) 13 2 (nI (((p + 1) + (sp_nl tx n (p + 1))) + 1)))) (s2 := (30, [.ref 13], [], (am_set (am_set (am_set (am_set M 13 4 (nI (sp_kd tx n p))) 13 2 (nI (p + 1))) 13 2 (nI ((p + 1) + (sp_nl tx n (p + 1))))) 13 5 (nI (sp_nv tx n (p + 1)))))) rfl (s_readSignS (M := (am_set (am_set (am_set (am_set M 13 4 (nI (sp_kd tx n p))) 13 2 (nI (p + 1))) 13 2 (nI ((p + 1) + (sp_nl tx n (p + 1))))) 13 5 (nI (sp_nv tx n (p + 1))))) hL hT hn hx (p := ((p + 1) + (sp_nl tx n (p + 1)))) rfl (by omega) (by omega) w4) ?_
        have w4a := sp_is_lt w4
        refine am_goR 3 (s2 := (37, [.ref 13], [.ref 13, .ref 13], (am_set (am_set (am_set (am_set (am_set M 13 4 (nI (sp_kd tx n p))) 13 2 (nI (p + 1))) 13 2 (nI ((p + 1) + (sp_nl tx n (p + 1))))) 13 5 (nI (sp_nv tx n (p + 1)))) 13 2 (nI (((p + 1) + (sp_nl tx n (p + 1))) + 1))))) rfl ?_
        by_cases w5 : sp_nl tx n (((p + 1) + (sp_nl tx n (p + 1))) + 1) = 0
        · refine am_goX (v := (-nI 9)) (M2 := (am_set (am_set (am_set (am_set (am_set M 13 4 (nI (sp_kd tx n p))) 13 2 (nI (p + 1))) 13 2 (nI ((p + 1) + (sp_nl tx n (p + 1))))) 13 5 (nI (sp_nv tx n (p + 1)))) 13 2 (nI (((p + 1) + (sp_nl tx n (p + 1))) + 1)))) (s2 := (40, [.ref 13], [.ref 13], (am_set (am_set (am_set (am_set (am_set M 13 4 (nI (sp_kd tx n p))) 13 2 (nI (p + 1))) 13 2 (nI ((p + 1) + (sp_nl tx n (p + 1))))) 13 5 (nI (sp_nv tx n (p + 1)))) 13 2 (nI (((p + 1) + (sp_nl tx n (p + 1))) + 1))))) rfl (s_readNumN (M := (am_set (am_set (am_set (am_set (am_set M 13 4 (nI (sp_kd tx n p))) 13 2 (nI (p + 1))) 13 2 (nI ((p + 1) + (sp_nl tx n (p + 1))))) 13 5 (nI (sp_nv tx n (p + 1)))) 13 2 (nI (((p + 1) + (sp_nl tx n (p + 1))) + 1)))) hL hT hn hx (p := (((p + 1) + (sp_nl tx n (p + 1))) + 1)) rfl (by omega) w5) ?_
          refine am_goR 5 (s2 := (55, [.ref 13], [.int (nI 0)], (am_set (am_set (am_set (am_set (am_set (am_set M 13 4 (nI (sp_kd tx n p))) 13 2 (nI (p + 1))) 13 2 (nI ((p + 1) + (sp_nl tx n (p + 1))))) 13 5 (nI (sp_nv tx n (p + 1)))) 13 2 (nI (((p + 1) + (sp_nl tx n (p + 1))) + 1))) 13 6 ((-nI 9))))) rfl ?_
          have e1 : sp_ak tx n p = false := by unfold sp_ak; simp [*]
          have e2 : sp_ae tx n p = (((p + 1) + (sp_nl tx n (p + 1))) + 1) := by unfold sp_ae; simp [*]
          exact am_goZ false rfl ⟨_, rfl, by rw [e1], fun a b hf => by show (am_set (am_set (am_set (am_set (am_set (am_set M 13 4 (nI (sp_kd tx n p))) 13 2 (nI (p + 1))) 13 2 (nI ((p + 1) + (sp_nl tx n (p + 1))))) 13 5 (nI (sp_nv tx n (p + 1)))) 13 2 (nI (((p + 1) + (sp_nl tx n (p + 1))) + 1))) 13 6 ((-nI 9))) a b = M a b; first | rfl | ((repeat rw [am_set_o (fun z => hf (by omega))])), by rw [e2]; first | rfl | exact hP, fun z => by rw [e1] at z; cases z⟩
        · refine am_goX (v := nI (sp_nv tx n (((p + 1) + (sp_nl tx n (p + 1))) + 1))) (M2 := (am_set (am_set (am_set (am_set (am_set (am_set M 13 4 (nI (sp_kd tx n p))) 13 2 (nI (p + 1))) 13 2 (nI ((p + 1) + (sp_nl tx n (p + 1))))) 13 5 (nI (sp_nv tx n (p + 1)))) 13 2 (nI (((p + 1) + (sp_nl tx n (p + 1))) + 1))) 13 2 (nI ((((p + 1) + (sp_nl tx n (p + 1))) + 1) + (sp_nl tx n (((p + 1) + (sp_nl tx n (p + 1))) + 1)))))) (s2 := (40, [.ref 13], [.ref 13], (am_set (am_set (am_set (am_set (am_set M 13 4 (nI (sp_kd tx n p))) 13 2 (nI (p + 1))) 13 2 (nI ((p + 1) + (sp_nl tx n (p + 1))))) 13 5 (nI (sp_nv tx n (p + 1)))) 13 2 (nI (((p + 1) + (sp_nl tx n (p + 1))) + 1))))) rfl (s_readNumS (M := (am_set (am_set (am_set (am_set (am_set M 13 4 (nI (sp_kd tx n p))) 13 2 (nI (p + 1))) 13 2 (nI ((p + 1) + (sp_nl tx n (p + 1))))) 13 5 (nI (sp_nv tx n (p + 1)))) 13 2 (nI (((p + 1) + (sp_nl tx n (p + 1))) + 1)))) hL hT hn hx (p := (((p + 1) + (sp_nl tx n (p + 1))) + 1)) rfl (by omega) w5) ?_
          have w5a := sp_nl_b hn (p := (((p + 1) + (sp_nl tx n (p + 1))) + 1)) w5
          have w5b := sp_nv_lt (tx := tx) (n := n) w5
          refine am_goR 3 (s2 := (47, [.ref 13], [.int (nI (sp_nv tx n (((p + 1) + (sp_nl tx n (p + 1))) + 1)))], (am_set (am_set (am_set (am_set (am_set (am_set (am_set M 13 4 (nI (sp_kd tx n p))) 13 2 (nI (p + 1))) 13 2 (nI ((p + 1) + (sp_nl tx n (p + 1))))) 13 5 (nI (sp_nv tx n (p + 1)))) 13 2 (nI (((p + 1) + (sp_nl tx n (p + 1))) + 1))) 13 2 (nI ((((p + 1) + (sp_nl tx n (p + 1))) + 1) + (sp_nl tx n (((p + 1) + (sp_nl tx n (p + 1))) + 1))))) 13 6 (nI (sp_nv tx n (((p + 1) + (sp_nl tx n (p + 1))) + 1)))))) rfl ?_
          refine am_bLT ((sp_nv tx n (((p + 1) + (sp_nl tx n (p + 1))) + 1))) (0) (s1 := (54, [.ref 13], [], (am_set (am_set (am_set (am_set (am_set (am_set (am_set M 13 4 (nI (sp_kd tx n p))) 13 2 (nI (p + 1))) 13 2 (nI ((p + 1) + (sp_nl tx n (p + 1))))) 13 5 (nI (sp_nv tx n (p + 1)))) 13 2 (nI (((p + 1) + (sp_nl tx n (p + 1))) + 1))) 13 2 (nI ((((p + 1) + (sp_nl tx n (p + 1))) + 1) + (sp_nl tx n (((p + 1) + (sp_nl tx n (p + 1))) + 1))))) 13 6 (nI (sp_nv tx n (((p + 1) + (sp_nl tx n (p + 1))) + 1)))))) (s2 := (50, [.ref 13], [], (am_set (am_set (am_set (am_set (am_set (am_set (am_set M 13 4 (nI (sp_kd tx n p))) 13 2 (nI (p + 1))) 13 2 (nI ((p + 1) + (sp_nl tx n (p + 1))))) 13 5 (nI (sp_nv tx n (p + 1)))) 13 2 (nI (((p + 1) + (sp_nl tx n (p + 1))) + 1))) 13 2 (nI ((((p + 1) + (sp_nl tx n (p + 1))) + 1) + (sp_nl tx n (((p + 1) + (sp_nl tx n (p + 1))) + 1))))) 13 6 (nI (sp_nv tx n (((p + 1) + (sp_nl tx n (p + 1))) + 1)))))) rfl (by omega) (by omega) (fun c6 => absurd c6 (by omega)) (fun c6 => ?_)
          refine am_goR 2 (s2 := (55, [.ref 13], [.int (nI 1)], (am_set (am_set (am_set (am_set (am_set (am_set (am_set M 13 4 (nI (sp_kd tx n p))) 13 2 (nI (p + 1))) 13 2 (nI ((p + 1) + (sp_nl tx n (p + 1))))) 13 5 (nI (sp_nv tx n (p + 1)))) 13 2 (nI (((p + 1) + (sp_nl tx n (p + 1))) + 1))) 13 2 (nI ((((p + 1) + (sp_nl tx n (p + 1))) + 1) + (sp_nl tx n (((p + 1) + (sp_nl tx n (p + 1))) + 1))))) 13 6 (nI (sp_nv tx n (((p + 1) + (sp_nl tx n (p + 1))) + 1)))))) rfl ?_
          have e1 : sp_ak tx n p = true := by unfold sp_ak; simp [*]
          have e2 : sp_ae tx n p = ((((p + 1) + (sp_nl tx n (p + 1))) + 1) + (sp_nl tx n (((p + 1) + (sp_nl tx n (p + 1))) + 1))) := by unfold sp_ae; simp [*]
          exact am_goZ true rfl ⟨_, rfl, by rw [e1], fun a b hf => by show (am_set (am_set (am_set (am_set (am_set (am_set (am_set M 13 4 (nI (sp_kd tx n p))) 13 2 (nI (p + 1))) 13 2 (nI ((p + 1) + (sp_nl tx n (p + 1))))) 13 5 (nI (sp_nv tx n (p + 1)))) 13 2 (nI (((p + 1) + (sp_nl tx n (p + 1))) + 1))) 13 2 (nI ((((p + 1) + (sp_nl tx n (p + 1))) + 1) + (sp_nl tx n (((p + 1) + (sp_nl tx n (p + 1))) + 1))))) 13 6 (nI (sp_nv tx n (((p + 1) + (sp_nl tx n (p + 1))) + 1)))) a b = M a b; first | rfl | ((repeat rw [am_set_o (fun z => hf (by omega))])), by rw [e2]; first | rfl | exact hP, fun _ => ⟨rfl, rfl, rfl⟩⟩
      · refine am_goX (v := nI 0) (M2 := (am_set (am_set (am_set (am_set M 13 4 (nI (sp_kd tx n p))) 13 2 (nI (p + 1))) 13 2 (nI ((p + 1) + (sp_nl tx n (p + 1))))) 13 5 (nI (sp_nv tx n (p + 1))))) (s2 := (30, [.ref 13], [], (am_set (am_set (am_set (am_set M 13 4 (nI (sp_kd tx n p))) 13 2 (nI (p + 1))) 13 2 (nI ((p + 1) + (sp_nl tx n (p + 1))))) 13 5 (nI (sp_nv tx n (p + 1)))))) rfl (s_readSignN (M := (am_set (am_set (am_set (am_set M 13 4 (nI (sp_kd tx n p))) 13 2 (nI (p + 1))) 13 2 (nI ((p + 1) + (sp_nl tx n (p + 1))))) 13 5 (nI (sp_nv tx n (p + 1))))) hL hT hn hx (p := ((p + 1) + (sp_nl tx n (p + 1)))) rfl (by omega) (by omega) w4) ?_
        refine am_goR 2 (s2 := (34, [.ref 13], [.int (nI 0)], (am_set (am_set (am_set (am_set M 13 4 (nI (sp_kd tx n p))) 13 2 (nI (p + 1))) 13 2 (nI ((p + 1) + (sp_nl tx n (p + 1))))) 13 5 (nI (sp_nv tx n (p + 1)))))) rfl ?_
        have e1 : sp_ak tx n p = false := by unfold sp_ak; simp [*]
        have e2 : sp_ae tx n p = ((p + 1) + (sp_nl tx n (p + 1))) := by unfold sp_ae; simp [*]
        exact am_goZ false rfl ⟨_, rfl, by rw [e1], fun a b hf => by show (am_set (am_set (am_set (am_set M 13 4 (nI (sp_kd tx n p))) 13 2 (nI (p + 1))) 13 2 (nI ((p + 1) + (sp_nl tx n (p + 1))))) 13 5 (nI (sp_nv tx n (p + 1)))) a b = M a b; first | rfl | ((repeat rw [am_set_o (fun z => hf (by omega))])), by rw [e2]; first | rfl | exact hP, fun z => by rw [e1] at z; cases z⟩
  · refine am_goX (v := nI 0) (M2 := M) (s2 := (4, [.ref 13], [], M)) rfl (s_readKindN (M := M) hL hT hn hx (p := p) hP (by omega) w1) ?_
    have w1a : ¬ sp_kd tx n p < 6 := by omega
    refine am_goR 2 (s2 := (8, [.ref 13], [.int (nI 0)], M)) rfl ?_
    have e1 : sp_ak tx n p = false := by unfold sp_ak; simp [*]
    have e2 : sp_ae tx n p = p := by unfold sp_ae; simp [*]
    exact am_goZ false rfl ⟨_, rfl, by rw [e1], fun a b hf => by show M a b = M a b; first | rfl | ((repeat rw [am_set_o (fun z => hf (by omega))])), by rw [e2]; first | rfl | exact hP, fun z => by rw [e1] at z; cases z⟩

theorem sp_ae_le {tx : Nat → Nat} {n q : Nat} (hq : q ≤ n) : q ≤ sp_ae tx n q ∧ sp_ae tx n q ≤ n := by
  unfold sp_ae
  split
  · next h =>
    have h1 := sp_kd_lt h
    split
    · omega
    · next h2 =>
      have h3 : 1 ≤ sp_nl tx n (q + 1) ∧ sp_nl tx n (q + 1) ≤ 2 ∧ q + 1 + sp_nl tx n (q + 1) ≤ n := by
        have a1 := sp_nl_n0 h2
        have a2 := sp_dg_of a1
        cases hd : sp_dg tx n (q + 1 + 1) with
        | true =>
          have a3 := sp_dg_of hd
          rw [(sp_nl_2 a1 hd).1]; omega
        | false => rw [(sp_nl_1 a1 hd).1]; omega
      split
      · next h4 =>
        have h5 := sp_is_lt h4
        by_cases h6 : sp_nl tx n (q + 1 + sp_nl tx n (q + 1) + 1) = 0
        · omega
        · have a1 := sp_nl_n0 h6
          have a2 := sp_dg_of a1
          cases hd : sp_dg tx n (q + 1 + sp_nl tx n (q + 1) + 1 + 1) with
          | true =>
            have a3 := sp_dg_of hd
            rw [(sp_nl_2 a1 hd).1]; omega
          | false => rw [(sp_nl_1 a1 hd).1]; omega
      · omega
  · omega

set_option maxHeartbeats 4000000 in
theorem s_readStatement {M : am_Mem} {tx : Nat → Nat} {n p : Nat} (hL : M 13 1 = nI n) (hT : ∀ q, q < 64 → M 14 q = nI (tx q)) (hn : n ≤ 64) (hx : ∀ q, tx q < 256) (hP : M 13 2 = nI p) (hp : p ≤ n) : am_go 41 (am_ent 41 [.ref 13] M) (am_ri (fun x N => x = am_b (sp_pk tx n p) ∧ (∀ a b, ¬ (a = 13 ∧ 2 ≤ b) → N a b = M a b) ∧ N 13 2 = nI (sp_pe tx n p) ∧ (sp_pk tx n p = true → N 13 3 = nI (tx p) ∧ N 13 5 = nI (sp_sx tx n p) ∧ (tx p = 97 → N 13 4 = nI (sp_kd tx n (p + 1)) ∧ N 13 6 = nI (sp_sy tx n p))))) := by
  have hxp := hx p
  refine am_goR 2 (s2 := (2, [.ref 13], [.ref 13, .ref 13], M)) rfl ?_
  rcases Nat.lt_or_ge p n with w1 | w1
  · refine am_goX (v := nI (tx p)) (M2 := M) (s2 := (5, [.ref 13], [.ref 13], M)) rfl (s_hereS (M := M) hL hT hn hx (p := p) hP (by omega)) ?_
    have w1x := hx p
    refine am_goR 3 (s2 := (12, [.ref 13], [.int (nI (tx p))], (am_set M 13 3 (nI (tx p))))) rfl ?_
    by_cases c2 : (tx p) = 97
    · refine am_goTS (pc := 12) (d := (128)) (lo := (97)) (hi := (106)) (offs := #[56, 128, 128, 88, 128, 128, 128, 88, 128, 88]) (ls := [.ref 13]) (r := []) (M := (am_set M 13 3 (nI (tx p)))) (x := nI (tx p)) (56) 68 rfl (by rw [c2]; decide +kernel) rfl ?_
      refine am_goQ 5 (s1 := (75, [.ref 13], [.int (((M 13 2) + nI 1)), .ref 13], (am_set M 13 3 (nI (tx p))))) (s2 := (75, [.ref 13], [.int (nI (p + 1)), .ref 13], (am_set M 13 3 (nI (tx p))))) rfl (by simp only [hP, nI_add]) ?_
      refine am_goR 2 (s2 := (79, [.ref 13], [.ref 13], (am_set (am_set M 13 3 (nI (tx p))) 13 2 (nI (p + 1))))) rfl ?_
      refine am_goC (s2 := (82, [.ref 13], [], (am_set (am_set M 13 3 (nI (tx p))) 13 2 (nI (p + 1))))) rfl (s_readArm (M := (am_set (am_set M 13 3 (nI (tx p))) 13 2 (nI (p + 1)))) hL hT hn hx (p := (p + 1)) rfl (by omega)) (fun w3x M4 w3h => ?_)
      obtain ⟨w30, w31, w32, w33⟩ := w3h
      subst w30
      have hL1 : M4 13 1 = nI n := (w31 13 1 (by omega)).trans hL
      have hT1 : ∀ q, q < 64 → M4 14 q = nI (tx q) := fun q hq => (w31 14 q (by omega)).trans (hT q hq)
      have w35 : M4 13 3 = nI (tx p) := (w31 13 3 (by omega)).trans rfl
      have w36 := sp_ae_le (tx := tx) (n := n) (q := (p + 1)) (by omega)
      refine am_bB0 (sp_ak tx n (p + 1)) (s1 := (98, [.ref 13], [], M4)) (s2 := (85, [.ref 13], [], M4)) rfl (fun c5 => ?_) (fun c5 => ?_)
      · refine am_goR 1 (s2 := (99, [.ref 13], [.int (nI 0)], M4)) rfl ?_
        have e97 : sp_is tx n p 97 = true := sp_is_T (by omega) (by assumption)
        have e1 : sp_pk tx n p = false := by unfold sp_pk; rw [e97]; simp [*]
        have e2 : sp_pe tx n p = (sp_ae tx n (p + 1)) := by unfold sp_pe; rw [e97]; simp [*]
        exact am_goZ false rfl ⟨_, rfl, by rw [e1], fun a b hf => by show M4 a b = M a b; (repeat rw [am_set_o (fun z => hf (by omega))]); rw [w31 a b (fun z => hf (by omega))]; (repeat rw [am_set_o (fun z => hf (by omega))]), by rw [e2]; first | rfl | exact hP | exact w32, fun z => by rw [e1] at z; cases z⟩
      · refine am_goR 2 (s2 := (88, [.ref 13], [.int (nI 59), .ref 13], M4)) rfl ?_
        rcases Bool.eq_false_or_eq_true (sp_is tx n (sp_ae tx n (p + 1)) 59) with w6 | w6
        · refine am_goX (v := nI 1) (M2 := (am_set M4 13 2 (nI ((sp_ae tx n (p + 1)) + 1)))) (s2 := (91, [.ref 13], [], M4)) rfl (s_readSignS (M := M4) hL1 hT1 hn hx (p := (sp_ae tx n (p + 1))) w32 (by omega) (by omega) w6) ?_
          have w6a := sp_is_lt w6
          refine am_goR 3 (s2 := (99, [.ref 13], [.int (nI 1)], (am_set M4 13 2 (nI ((sp_ae tx n (p + 1)) + 1))))) rfl ?_
          have e97 : sp_is tx n p 97 = true := sp_is_T (by omega) (by assumption)
          have e1 : sp_pk tx n p = true := by unfold sp_pk; rw [e97]; simp [*]
          have e2 : sp_pe tx n p = ((sp_ae tx n (p + 1)) + 1) := by unfold sp_pe; rw [e97]; simp [*]
          exact am_goZ true rfl ⟨_, rfl, by rw [e1], fun a b hf => by show (am_set M4 13 2 (nI ((sp_ae tx n (p + 1)) + 1))) a b = M a b; (repeat rw [am_set_o (fun z => hf (by omega))]); rw [w31 a b (fun z => hf (by omega))]; (repeat rw [am_set_o (fun z => hf (by omega))]), by rw [e2]; first | rfl | exact hP | exact w32, fun _ => ⟨w35, (w33 (by assumption)).2.1.trans (by unfold sp_sx; rw [if_pos (by assumption)]), fun _ => ⟨(w33 (by assumption)).1, (w33 (by assumption)).2.2⟩⟩⟩
        · refine am_goX (v := nI 0) (M2 := M4) (s2 := (91, [.ref 13], [], M4)) rfl (s_readSignN (M := M4) hL1 hT1 hn hx (p := (sp_ae tx n (p + 1))) w32 (by omega) (by omega) w6) ?_
          refine am_goR 2 (s2 := (99, [.ref 13], [.int (nI 0)], M4)) rfl ?_
          have e97 : sp_is tx n p 97 = true := sp_is_T (by omega) (by assumption)
          have e1 : sp_pk tx n p = false := by unfold sp_pk; rw [e97]; simp [*]
          have e2 : sp_pe tx n p = (sp_ae tx n (p + 1)) := by unfold sp_pe; rw [e97]; simp [*]
          exact am_goZ false rfl ⟨_, rfl, by rw [e1], fun a b hf => by show M4 a b = M a b; (repeat rw [am_set_o (fun z => hf (by omega))]); rw [w31 a b (fun z => hf (by omega))]; (repeat rw [am_set_o (fun z => hf (by omega))]), by rw [e2]; first | rfl | exact hP | exact w32, fun z => by rw [e1] at z; cases z⟩
    · by_cases c7 : (tx p) = 100
      · refine am_goTS (pc := 12) (d := (128)) (lo := (97)) (hi := (106)) (offs := #[56, 128, 128, 88, 128, 128, 128, 88, 128, 88]) (ls := [.ref 13]) (r := []) (M := (am_set M 13 3 (nI (tx p)))) (x := nI (tx p)) (88) 100 rfl (by rw [c7]; decide +kernel) rfl ?_
        refine am_goQ 5 (s1 := (107, [.ref 13], [.int (((M 13 2) + nI 1)), .ref 13], (am_set M 13 3 (nI (tx p))))) (s2 := (107, [.ref 13], [.int (nI (p + 1)), .ref 13], (am_set M 13 3 (nI (tx p))))) rfl (by simp only [hP, nI_add]) ?_
        refine am_goR 3 (s2 := (112, [.ref 13], [.ref 13, .ref 13], (am_set (am_set M 13 3 (nI (tx p))) 13 2 (nI (p + 1))))) rfl ?_
        by_cases w8 : sp_nl tx n (p + 1) = 0
        · refine am_goX (v := (-nI 9)) (M2 := (am_set (am_set M 13 3 (nI (tx p))) 13 2 (nI (p + 1)))) (s2 := (115, [.ref 13], [.ref 13], (am_set (am_set M 13 3 (nI (tx p))) 13 2 (nI (p + 1))))) rfl (s_readNumN (M := (am_set (am_set M 13 3 (nI (tx p))) 13 2 (nI (p + 1)))) hL hT hn hx (p := (p + 1)) rfl (by omega) w8) ?_
          refine am_goR 5 (s2 := (139, [.ref 13], [.int (nI 0)], (am_set (am_set (am_set M 13 3 (nI (tx p))) 13 2 (nI (p + 1))) 13 5 ((-nI 9))))) rfl ?_
          have e97 : sp_is tx n p 97 = false := by first | exact sp_is_N (by omega) | exact sp_is_F (by omega)
          have eso : sp_so tx n p = true := by unfold sp_so; first | (rw [sp_is_T (by omega) (show tx p = 106 by omega)]; rfl) | (rw [sp_is_T (c := 104) (by omega) (by omega), Bool.true_or, Bool.or_true]) | (rw [sp_is_T (c := 100) (by omega) (by omega), Bool.or_true, Bool.or_true])
          have e1 : sp_pk tx n p = false := by unfold sp_pk; rw [e97, eso]; simp [*]
          have e2 : sp_pe tx n p = (p + 1) := by unfold sp_pe; rw [e97, eso]; simp [*]
          exact am_goZ false rfl ⟨_, rfl, by rw [e1], fun a b hf => by show (am_set (am_set (am_set M 13 3 (nI (tx p))) 13 2 (nI (p + 1))) 13 5 ((-nI 9))) a b = M a b; first | rfl | ((repeat rw [am_set_o (fun z => hf (by omega))])), by rw [e2]; first | rfl | exact hP | exact w2, fun z => by rw [e1] at z; cases z⟩
        · refine am_goX (v := nI (sp_nv tx n (p + 1))) (M2 := (am_set (am_set (am_set M 13 3 (nI (tx p))) 13 2 (nI (p + 1))) 13 2 (nI ((p + 1) + (sp_nl tx n (p + 1)))))) (s2 := (115, [.ref 13], [.ref 13], (am_set (am_set M 13 3 (nI (tx p))) 13 2 (nI (p + 1))))) rfl (s_readNumS (M := (am_set (am_set M 13 3 (nI (tx p))) 13 2 (nI (p + 1)))) hL hT hn hx (p := (p + 1)) rfl (by omega) w8) ?_
          have w8a := sp_nl_b hn (p := (p + 1)) w8
          have w8b := sp_nv_lt (tx := tx) (n := n) w8
          refine am_goR 3 (s2 := (122, [.ref 13], [.int (nI (sp_nv tx n (p + 1)))], (am_set (am_set (am_set (am_set M 13 3 (nI (tx p))) 13 2 (nI (p + 1))) 13 2 (nI ((p + 1) + (sp_nl tx n (p + 1))))) 13 5 (nI (sp_nv tx n (p + 1)))))) rfl ?_
          refine am_bLT ((sp_nv tx n (p + 1))) (0) (s1 := (138, [.ref 13], [], (am_set (am_set (am_set (am_set M 13 3 (nI (tx p))) 13 2 (nI (p + 1))) 13 2 (nI ((p + 1) + (sp_nl tx n (p + 1))))) 13 5 (nI (sp_nv tx n (p + 1)))))) (s2 := (125, [.ref 13], [], (am_set (am_set (am_set (am_set M 13 3 (nI (tx p))) 13 2 (nI (p + 1))) 13 2 (nI ((p + 1) + (sp_nl tx n (p + 1))))) 13 5 (nI (sp_nv tx n (p + 1)))))) rfl (by omega) (by omega) (fun c9 => absurd c9 (by omega)) (fun c9 => ?_)
          refine am_goR 2 (s2 := (128, [.ref 13], [.int (nI 59), .ref 13], (am_set (am_set (am_set (am_set M 13 3 (nI (tx p))) 13 2 (nI (p + 1))) 13 2 (nI ((p + 1) + (sp_nl tx n (p + 1))))) 13 5 (nI (sp_nv tx n (p + 1)))))) rfl ?_
          rcases Bool.eq_false_or_eq_true (sp_is tx n ((p + 1) + (sp_nl tx n (p + 1))) 59) with w10 | w10
          · refine am_goX (v := nI 1) (M2 := (am_set (am_set (am_set (am_set (am_set M 13 3 (nI (tx p))) 13 2 (nI (p + 1))) 13 2 (nI ((p + 1) + (sp_nl tx n (p + 1))))) 13 5 (nI (sp_nv tx n (p + 1)))) 13 2 (nI (((p + 1) + (sp_nl tx n (p + 1))) + 1)))) (s2 := (131, [.ref 13], [], (am_set (am_set (am_set (am_set M 13 3 (nI (tx p))) 13 2 (nI (p + 1))) 13 2 (nI ((p + 1) + (sp_nl tx n (p + 1))))) 13 5 (nI (sp_nv tx n (p + 1)))))) rfl (s_readSignS (M := (am_set (am_set (am_set (am_set M 13 3 (nI (tx p))) 13 2 (nI (p + 1))) 13 2 (nI ((p + 1) + (sp_nl tx n (p + 1))))) 13 5 (nI (sp_nv tx n (p + 1))))) hL hT hn hx (p := ((p + 1) + (sp_nl tx n (p + 1)))) rfl (by omega) (by omega) w10) ?_
            have w10a := sp_is_lt w10
            refine am_goR 3 (s2 := (139, [.ref 13], [.int (nI 1)], (am_set (am_set (am_set (am_set (am_set M 13 3 (nI (tx p))) 13 2 (nI (p + 1))) 13 2 (nI ((p + 1) + (sp_nl tx n (p + 1))))) 13 5 (nI (sp_nv tx n (p + 1)))) 13 2 (nI (((p + 1) + (sp_nl tx n (p + 1))) + 1))))) rfl ?_
            have e97 : sp_is tx n p 97 = false := by first | exact sp_is_N (by omega) | exact sp_is_F (by omega)
            have eso : sp_so tx n p = true := by unfold sp_so; first | (rw [sp_is_T (by omega) (show tx p = 106 by omega)]; rfl) | (rw [sp_is_T (c := 104) (by omega) (by omega), Bool.true_or, Bool.or_true]) | (rw [sp_is_T (c := 100) (by omega) (by omega), Bool.or_true, Bool.or_true])
            have e1 : sp_pk tx n p = true := by unfold sp_pk; rw [e97, eso]; simp [*]
            have e2 : sp_pe tx n p = (((p + 1) + (sp_nl tx n (p + 1))) + 1) := by unfold sp_pe; rw [e97, eso]; simp [*]
            exact am_goZ true rfl ⟨_, rfl, by rw [e1], fun a b hf => by show (am_set (am_set (am_set (am_set (am_set M 13 3 (nI (tx p))) 13 2 (nI (p + 1))) 13 2 (nI ((p + 1) + (sp_nl tx n (p + 1))))) 13 5 (nI (sp_nv tx n (p + 1)))) 13 2 (nI (((p + 1) + (sp_nl tx n (p + 1))) + 1))) a b = M a b; first | rfl | ((repeat rw [am_set_o (fun z => hf (by omega))])), by rw [e2]; first | rfl | exact hP | exact w2, fun _ => ⟨rfl, by unfold sp_sx; rw [if_neg (by omega)]; rfl, fun z => by omega⟩⟩
          · refine am_goX (v := nI 0) (M2 := (am_set (am_set (am_set (am_set M 13 3 (nI (tx p))) 13 2 (nI (p + 1))) 13 2 (nI ((p + 1) + (sp_nl tx n (p + 1))))) 13 5 (nI (sp_nv tx n (p + 1))))) (s2 := (131, [.ref 13], [], (am_set (am_set (am_set (am_set M 13 3 (nI (tx p))) 13 2 (nI (p + 1))) 13 2 (nI ((p + 1) + (sp_nl tx n (p + 1))))) 13 5 (nI (sp_nv tx n (p + 1)))))) rfl (s_readSignN (M := (am_set (am_set (am_set (am_set M 13 3 (nI (tx p))) 13 2 (nI (p + 1))) 13 2 (nI ((p + 1) + (sp_nl tx n (p + 1))))) 13 5 (nI (sp_nv tx n (p + 1))))) hL hT hn hx (p := ((p + 1) + (sp_nl tx n (p + 1)))) rfl (by omega) (by omega) w10) ?_
            refine am_goR 2 (s2 := (139, [.ref 13], [.int (nI 0)], (am_set (am_set (am_set (am_set M 13 3 (nI (tx p))) 13 2 (nI (p + 1))) 13 2 (nI ((p + 1) + (sp_nl tx n (p + 1))))) 13 5 (nI (sp_nv tx n (p + 1)))))) rfl ?_
            have e97 : sp_is tx n p 97 = false := by first | exact sp_is_N (by omega) | exact sp_is_F (by omega)
            have eso : sp_so tx n p = true := by unfold sp_so; first | (rw [sp_is_T (by omega) (show tx p = 106 by omega)]; rfl) | (rw [sp_is_T (c := 104) (by omega) (by omega), Bool.true_or, Bool.or_true]) | (rw [sp_is_T (c := 100) (by omega) (by omega), Bool.or_true, Bool.or_true])
            have e1 : sp_pk tx n p = false := by unfold sp_pk; rw [e97, eso]; simp [*]
            have e2 : sp_pe tx n p = ((p + 1) + (sp_nl tx n (p + 1))) := by unfold sp_pe; rw [e97, eso]; simp [*]
            exact am_goZ false rfl ⟨_, rfl, by rw [e1], fun a b hf => by show (am_set (am_set (am_set (am_set M 13 3 (nI (tx p))) 13 2 (nI (p + 1))) 13 2 (nI ((p + 1) + (sp_nl tx n (p + 1))))) 13 5 (nI (sp_nv tx n (p + 1)))) a b = M a b; first | rfl | ((repeat rw [am_set_o (fun z => hf (by omega))])), by rw [e2]; first | rfl | exact hP | exact w2, fun z => by rw [e1] at z; cases z⟩
      · by_cases c11 : (tx p) = 104
        · refine am_goTS (pc := 12) (d := (128)) (lo := (97)) (hi := (106)) (offs := #[56, 128, 128, 88, 128, 128, 128, 88, 128, 88]) (ls := [.ref 13]) (r := []) (M := (am_set M 13 3 (nI (tx p)))) (x := nI (tx p)) (88) 100 rfl (by rw [c11]; decide +kernel) rfl ?_
          refine am_goQ 5 (s1 := (107, [.ref 13], [.int (((M 13 2) + nI 1)), .ref 13], (am_set M 13 3 (nI (tx p))))) (s2 := (107, [.ref 13], [.int (nI (p + 1)), .ref 13], (am_set M 13 3 (nI (tx p))))) rfl (by simp only [hP, nI_add]) ?_
          refine am_goR 3 (s2 := (112, [.ref 13], [.ref 13, .ref 13], (am_set (am_set M 13 3 (nI (tx p))) 13 2 (nI (p + 1))))) rfl ?_
          by_cases w12 : sp_nl tx n (p + 1) = 0
          · refine am_goX (v := (-nI 9)) (M2 := (am_set (am_set M 13 3 (nI (tx p))) 13 2 (nI (p + 1)))) (s2 := (115, [.ref 13], [.ref 13], (am_set (am_set M 13 3 (nI (tx p))) 13 2 (nI (p + 1))))) rfl (s_readNumN (M := (am_set (am_set M 13 3 (nI (tx p))) 13 2 (nI (p + 1)))) hL hT hn hx (p := (p + 1)) rfl (by omega) w12) ?_
            refine am_goR 5 (s2 := (139, [.ref 13], [.int (nI 0)], (am_set (am_set (am_set M 13 3 (nI (tx p))) 13 2 (nI (p + 1))) 13 5 ((-nI 9))))) rfl ?_
            have e97 : sp_is tx n p 97 = false := by first | exact sp_is_N (by omega) | exact sp_is_F (by omega)
            have eso : sp_so tx n p = true := by unfold sp_so; first | (rw [sp_is_T (by omega) (show tx p = 106 by omega)]; rfl) | (rw [sp_is_T (c := 104) (by omega) (by omega), Bool.true_or, Bool.or_true]) | (rw [sp_is_T (c := 100) (by omega) (by omega), Bool.or_true, Bool.or_true])
            have e1 : sp_pk tx n p = false := by unfold sp_pk; rw [e97, eso]; simp [*]
            have e2 : sp_pe tx n p = (p + 1) := by unfold sp_pe; rw [e97, eso]; simp [*]
            exact am_goZ false rfl ⟨_, rfl, by rw [e1], fun a b hf => by show (am_set (am_set (am_set M 13 3 (nI (tx p))) 13 2 (nI (p + 1))) 13 5 ((-nI 9))) a b = M a b; first | rfl | ((repeat rw [am_set_o (fun z => hf (by omega))])), by rw [e2]; first | rfl | exact hP | exact w2, fun z => by rw [e1] at z; cases z⟩
          · refine am_goX (v := nI (sp_nv tx n (p + 1))) (M2 := (am_set (am_set (am_set M 13 3 (nI (tx p))) 13 2 (nI (p + 1))) 13 2 (nI ((p + 1) + (sp_nl tx n (p + 1)))))) (s2 := (115, [.ref 13], [.ref 13], (am_set (am_set M 13 3 (nI (tx p))) 13 2 (nI (p + 1))))) rfl (s_readNumS (M := (am_set (am_set M 13 3 (nI (tx p))) 13 2 (nI (p + 1)))) hL hT hn hx (p := (p + 1)) rfl (by omega) w12) ?_
            have w12a := sp_nl_b hn (p := (p + 1)) w12
            have w12b := sp_nv_lt (tx := tx) (n := n) w12
            refine am_goR 3 (s2 := (122, [.ref 13], [.int (nI (sp_nv tx n (p + 1)))], (am_set (am_set (am_set (am_set M 13 3 (nI (tx p))) 13 2 (nI (p + 1))) 13 2 (nI ((p + 1) + (sp_nl tx n (p + 1))))) 13 5 (nI (sp_nv tx n (p + 1)))))) rfl ?_
            refine am_bLT ((sp_nv tx n (p + 1))) (0) (s1 := (138, [.ref 13], [], (am_set (am_set (am_set (am_set M 13 3 (nI (tx p))) 13 2 (nI (p + 1))) 13 2 (nI ((p + 1) + (sp_nl tx n (p + 1))))) 13 5 (nI (sp_nv tx n (p + 1)))))) (s2 := (125, [.ref 13], [], (am_set (am_set (am_set (am_set M 13 3 (nI (tx p))) 13 2 (nI (p + 1))) 13 2 (nI ((p + 1) + (sp_nl tx n (p + 1))))) 13 5 (nI (sp_nv tx n (p + 1)))))) rfl (by omega) (by omega) (fun c13 => absurd c13 (by omega)) (fun c13 => ?_)
            refine am_goR 2 (s2 := (128, [.ref 13], [.int (nI 59), .ref 13], (am_set (am_set (am_set (am_set M 13 3 (nI (tx p))) 13 2 (nI (p + 1))) 13 2 (nI ((p + 1) + (sp_nl tx n (p + 1))))) 13 5 (nI (sp_nv tx n (p + 1)))))) rfl ?_
            rcases Bool.eq_false_or_eq_true (sp_is tx n ((p + 1) + (sp_nl tx n (p + 1))) 59) with w14 | w14
            · refine am_goX (v := nI 1) (M2 := (am_set (am_set (am_set (am_set (am_set M 13 3 (nI (tx p))) 13 2 (nI (p + 1))) 13 2 (nI ((p + 1) + (sp_nl tx n (p + 1))))) 13 5 (nI (sp_nv tx n (p + 1)))) 13 2 (nI (((p + 1) + (sp_nl tx n (p + 1))) + 1)))) (s2 := (131, [.ref 13], [], (am_set (am_set (am_set (am_set M 13 3 (nI (tx p))) 13 2 (nI (p + 1))) 13 2 (nI ((p + 1) + (sp_nl tx n (p + 1))))) 13 5 (nI (sp_nv tx n (p + 1)))))) rfl (s_readSignS (M := (am_set (am_set (am_set (am_set M 13 3 (nI (tx p))) 13 2 (nI (p + 1))) 13 2 (nI ((p + 1) + (sp_nl tx n (p + 1))))) 13 5 (nI (sp_nv tx n (p + 1))))) hL hT hn hx (p := ((p + 1) + (sp_nl tx n (p + 1)))) rfl (by omega) (by omega) w14) ?_
              have w14a := sp_is_lt w14
              refine am_goR 3 (s2 := (139, [.ref 13], [.int (nI 1)], (am_set (am_set (am_set (am_set (am_set M 13 3 (nI (tx p))) 13 2 (nI (p + 1))) 13 2 (nI ((p + 1) + (sp_nl tx n (p + 1))))) 13 5 (nI (sp_nv tx n (p + 1)))) 13 2 (nI (((p + 1) + (sp_nl tx n (p + 1))) + 1))))) rfl ?_
              have e97 : sp_is tx n p 97 = false := by first | exact sp_is_N (by omega) | exact sp_is_F (by omega)
              have eso : sp_so tx n p = true := by unfold sp_so; first | (rw [sp_is_T (by omega) (show tx p = 106 by omega)]; rfl) | (rw [sp_is_T (c := 104) (by omega) (by omega), Bool.true_or, Bool.or_true]) | (rw [sp_is_T (c := 100) (by omega) (by omega), Bool.or_true, Bool.or_true])
              have e1 : sp_pk tx n p = true := by unfold sp_pk; rw [e97, eso]; simp [*]
              have e2 : sp_pe tx n p = (((p + 1) + (sp_nl tx n (p + 1))) + 1) := by unfold sp_pe; rw [e97, eso]; simp [*]
              exact am_goZ true rfl ⟨_, rfl, by rw [e1], fun a b hf => by show (am_set (am_set (am_set (am_set (am_set M 13 3 (nI (tx p))) 13 2 (nI (p + 1))) 13 2 (nI ((p + 1) + (sp_nl tx n (p + 1))))) 13 5 (nI (sp_nv tx n (p + 1)))) 13 2 (nI (((p + 1) + (sp_nl tx n (p + 1))) + 1))) a b = M a b; first | rfl | ((repeat rw [am_set_o (fun z => hf (by omega))])), by rw [e2]; first | rfl | exact hP | exact w2, fun _ => ⟨rfl, by unfold sp_sx; rw [if_neg (by omega)]; rfl, fun z => by omega⟩⟩
            · refine am_goX (v := nI 0) (M2 := (am_set (am_set (am_set (am_set M 13 3 (nI (tx p))) 13 2 (nI (p + 1))) 13 2 (nI ((p + 1) + (sp_nl tx n (p + 1))))) 13 5 (nI (sp_nv tx n (p + 1))))) (s2 := (131, [.ref 13], [], (am_set (am_set (am_set (am_set M 13 3 (nI (tx p))) 13 2 (nI (p + 1))) 13 2 (nI ((p + 1) + (sp_nl tx n (p + 1))))) 13 5 (nI (sp_nv tx n (p + 1)))))) rfl (s_readSignN (M := (am_set (am_set (am_set (am_set M 13 3 (nI (tx p))) 13 2 (nI (p + 1))) 13 2 (nI ((p + 1) + (sp_nl tx n (p + 1))))) 13 5 (nI (sp_nv tx n (p + 1))))) hL hT hn hx (p := ((p + 1) + (sp_nl tx n (p + 1)))) rfl (by omega) (by omega) w14) ?_
              refine am_goR 2 (s2 := (139, [.ref 13], [.int (nI 0)], (am_set (am_set (am_set (am_set M 13 3 (nI (tx p))) 13 2 (nI (p + 1))) 13 2 (nI ((p + 1) + (sp_nl tx n (p + 1))))) 13 5 (nI (sp_nv tx n (p + 1)))))) rfl ?_
              have e97 : sp_is tx n p 97 = false := by first | exact sp_is_N (by omega) | exact sp_is_F (by omega)
              have eso : sp_so tx n p = true := by unfold sp_so; first | (rw [sp_is_T (by omega) (show tx p = 106 by omega)]; rfl) | (rw [sp_is_T (c := 104) (by omega) (by omega), Bool.true_or, Bool.or_true]) | (rw [sp_is_T (c := 100) (by omega) (by omega), Bool.or_true, Bool.or_true])
              have e1 : sp_pk tx n p = false := by unfold sp_pk; rw [e97, eso]; simp [*]
              have e2 : sp_pe tx n p = ((p + 1) + (sp_nl tx n (p + 1))) := by unfold sp_pe; rw [e97, eso]; simp [*]
              exact am_goZ false rfl ⟨_, rfl, by rw [e1], fun a b hf => by show (am_set (am_set (am_set (am_set M 13 3 (nI (tx p))) 13 2 (nI (p + 1))) 13 2 (nI ((p + 1) + (sp_nl tx n (p + 1))))) 13 5 (nI (sp_nv tx n (p + 1)))) a b = M a b; first | rfl | ((repeat rw [am_set_o (fun z => hf (by omega))])), by rw [e2]; first | rfl | exact hP | exact w2, fun z => by rw [e1] at z; cases z⟩
        · by_cases c15 : (tx p) = 106
          · refine am_goTS (pc := 12) (d := (128)) (lo := (97)) (hi := (106)) (offs := #[56, 128, 128, 88, 128, 128, 128, 88, 128, 88]) (ls := [.ref 13]) (r := []) (M := (am_set M 13 3 (nI (tx p)))) (x := nI (tx p)) (88) 100 rfl (by rw [c15]; decide +kernel) rfl ?_
            refine am_goQ 5 (s1 := (107, [.ref 13], [.int (((M 13 2) + nI 1)), .ref 13], (am_set M 13 3 (nI (tx p))))) (s2 := (107, [.ref 13], [.int (nI (p + 1)), .ref 13], (am_set M 13 3 (nI (tx p))))) rfl (by simp only [hP, nI_add]) ?_
            refine am_goR 3 (s2 := (112, [.ref 13], [.ref 13, .ref 13], (am_set (am_set M 13 3 (nI (tx p))) 13 2 (nI (p + 1))))) rfl ?_
            by_cases w16 : sp_nl tx n (p + 1) = 0
            · refine am_goX (v := (-nI 9)) (M2 := (am_set (am_set M 13 3 (nI (tx p))) 13 2 (nI (p + 1)))) (s2 := (115, [.ref 13], [.ref 13], (am_set (am_set M 13 3 (nI (tx p))) 13 2 (nI (p + 1))))) rfl (s_readNumN (M := (am_set (am_set M 13 3 (nI (tx p))) 13 2 (nI (p + 1)))) hL hT hn hx (p := (p + 1)) rfl (by omega) w16) ?_
              refine am_goR 5 (s2 := (139, [.ref 13], [.int (nI 0)], (am_set (am_set (am_set M 13 3 (nI (tx p))) 13 2 (nI (p + 1))) 13 5 ((-nI 9))))) rfl ?_
              have e97 : sp_is tx n p 97 = false := by first | exact sp_is_N (by omega) | exact sp_is_F (by omega)
              have eso : sp_so tx n p = true := by unfold sp_so; first | (rw [sp_is_T (by omega) (show tx p = 106 by omega)]; rfl) | (rw [sp_is_T (c := 104) (by omega) (by omega), Bool.true_or, Bool.or_true]) | (rw [sp_is_T (c := 100) (by omega) (by omega), Bool.or_true, Bool.or_true])
              have e1 : sp_pk tx n p = false := by unfold sp_pk; rw [e97, eso]; simp [*]
              have e2 : sp_pe tx n p = (p + 1) := by unfold sp_pe; rw [e97, eso]; simp [*]
              exact am_goZ false rfl ⟨_, rfl, by rw [e1], fun a b hf => by show (am_set (am_set (am_set M 13 3 (nI (tx p))) 13 2 (nI (p + 1))) 13 5 ((-nI 9))) a b = M a b; first | rfl | ((repeat rw [am_set_o (fun z => hf (by omega))])), by rw [e2]; first | rfl | exact hP | exact w2, fun z => by rw [e1] at z; cases z⟩
            · refine am_goX (v := nI (sp_nv tx n (p + 1))) (M2 := (am_set (am_set (am_set M 13 3 (nI (tx p))) 13 2 (nI (p + 1))) 13 2 (nI ((p + 1) + (sp_nl tx n (p + 1)))))) (s2 := (115, [.ref 13], [.ref 13], (am_set (am_set M 13 3 (nI (tx p))) 13 2 (nI (p + 1))))) rfl (s_readNumS (M := (am_set (am_set M 13 3 (nI (tx p))) 13 2 (nI (p + 1)))) hL hT hn hx (p := (p + 1)) rfl (by omega) w16) ?_
              have w16a := sp_nl_b hn (p := (p + 1)) w16
              have w16b := sp_nv_lt (tx := tx) (n := n) w16
              refine am_goR 3 (s2 := (122, [.ref 13], [.int (nI (sp_nv tx n (p + 1)))], (am_set (am_set (am_set (am_set M 13 3 (nI (tx p))) 13 2 (nI (p + 1))) 13 2 (nI ((p + 1) + (sp_nl tx n (p + 1))))) 13 5 (nI (sp_nv tx n (p + 1)))))) rfl ?_
              refine am_bLT ((sp_nv tx n (p + 1))) (0) (s1 := (138, [.ref 13], [], (am_set (am_set (am_set (am_set M 13 3 (nI (tx p))) 13 2 (nI (p + 1))) 13 2 (nI ((p + 1) + (sp_nl tx n (p + 1))))) 13 5 (nI (sp_nv tx n (p + 1)))))) (s2 := (125, [.ref 13], [], (am_set (am_set (am_set (am_set M 13 3 (nI (tx p))) 13 2 (nI (p + 1))) 13 2 (nI ((p + 1) + (sp_nl tx n (p + 1))))) 13 5 (nI (sp_nv tx n (p + 1)))))) rfl (by omega) (by omega) (fun c17 => absurd c17 (by omega)) (fun c17 => ?_)
              refine am_goR 2 (s2 := (128, [.ref 13], [.int (nI 59), .ref 13], (am_set (am_set (am_set (am_set M 13 3 (nI (tx p))) 13 2 (nI (p + 1))) 13 2 (nI ((p + 1) + (sp_nl tx n (p + 1))))) 13 5 (nI (sp_nv tx n (p + 1)))))) rfl ?_
              rcases Bool.eq_false_or_eq_true (sp_is tx n ((p + 1) + (sp_nl tx n (p + 1))) 59) with w18 | w18
              · refine am_goX (v := nI 1) (M2 := (am_set (am_set (am_set (am_set (am_set M 13 3 (nI (tx p))) 13 2 (nI (p + 1))) 13 2 (nI ((p + 1) + (sp_nl tx n (p + 1))))) 13 5 (nI (sp_nv tx n (p + 1)))) 13 2 (nI (((p + 1) + (sp_nl tx n (p + 1))) + 1)))) (s2 := (131, [.ref 13], [], (am_set (am_set (am_set (am_set M 13 3 (nI (tx p))) 13 2 (nI (p + 1))) 13 2 (nI ((p + 1) + (sp_nl tx n (p + 1))))) 13 5 (nI (sp_nv tx n (p + 1)))))) rfl (s_readSignS (M := (am_set (am_set (am_set (am_set M 13 3 (nI (tx p))) 13 2 (nI (p + 1))) 13 2 (nI ((p + 1) + (sp_nl tx n (p + 1))))) 13 5 (nI (sp_nv tx n (p + 1))))) hL hT hn hx (p := ((p + 1) + (sp_nl tx n (p + 1)))) rfl (by omega) (by omega) w18) ?_
                have w18a := sp_is_lt w18
                refine am_goR 3 (s2 := (139, [.ref 13], [.int (nI 1)], (am_set (am_set (am_set (am_set (am_set M 13 3 (nI (tx p))) 13 2 (nI (p + 1))) 13 2 (nI ((p + 1) + (sp_nl tx n (p + 1))))) 13 5 (nI (sp_nv tx n (p + 1)))) 13 2 (nI (((p + 1) + (sp_nl tx n (p + 1))) + 1))))) rfl ?_
                have e97 : sp_is tx n p 97 = false := by first | exact sp_is_N (by omega) | exact sp_is_F (by omega)
                have eso : sp_so tx n p = true := by unfold sp_so; first | (rw [sp_is_T (by omega) (show tx p = 106 by omega)]; rfl) | (rw [sp_is_T (c := 104) (by omega) (by omega), Bool.true_or, Bool.or_true]) | (rw [sp_is_T (c := 100) (by omega) (by omega), Bool.or_true, Bool.or_true])
                have e1 : sp_pk tx n p = true := by unfold sp_pk; rw [e97, eso]; simp [*]
                have e2 : sp_pe tx n p = (((p + 1) + (sp_nl tx n (p + 1))) + 1) := by unfold sp_pe; rw [e97, eso]; simp [*]
                exact am_goZ true rfl ⟨_, rfl, by rw [e1], fun a b hf => by show (am_set (am_set (am_set (am_set (am_set M 13 3 (nI (tx p))) 13 2 (nI (p + 1))) 13 2 (nI ((p + 1) + (sp_nl tx n (p + 1))))) 13 5 (nI (sp_nv tx n (p + 1)))) 13 2 (nI (((p + 1) + (sp_nl tx n (p + 1))) + 1))) a b = M a b; first | rfl | ((repeat rw [am_set_o (fun z => hf (by omega))])), by rw [e2]; first | rfl | exact hP | exact w2, fun _ => ⟨rfl, by unfold sp_sx; rw [if_neg (by omega)]; rfl, fun z => by omega⟩⟩
              · refine am_goX (v := nI 0) (M2 := (am_set (am_set (am_set (am_set M 13 3 (nI (tx p))) 13 2 (nI (p + 1))) 13 2 (nI ((p + 1) + (sp_nl tx n (p + 1))))) 13 5 (nI (sp_nv tx n (p + 1))))) (s2 := (131, [.ref 13], [], (am_set (am_set (am_set (am_set M 13 3 (nI (tx p))) 13 2 (nI (p + 1))) 13 2 (nI ((p + 1) + (sp_nl tx n (p + 1))))) 13 5 (nI (sp_nv tx n (p + 1)))))) rfl (s_readSignN (M := (am_set (am_set (am_set (am_set M 13 3 (nI (tx p))) 13 2 (nI (p + 1))) 13 2 (nI ((p + 1) + (sp_nl tx n (p + 1))))) 13 5 (nI (sp_nv tx n (p + 1))))) hL hT hn hx (p := ((p + 1) + (sp_nl tx n (p + 1)))) rfl (by omega) (by omega) w18) ?_
                refine am_goR 2 (s2 := (139, [.ref 13], [.int (nI 0)], (am_set (am_set (am_set (am_set M 13 3 (nI (tx p))) 13 2 (nI (p + 1))) 13 2 (nI ((p + 1) + (sp_nl tx n (p + 1))))) 13 5 (nI (sp_nv tx n (p + 1)))))) rfl ?_
                have e97 : sp_is tx n p 97 = false := by first | exact sp_is_N (by omega) | exact sp_is_F (by omega)
                have eso : sp_so tx n p = true := by unfold sp_so; first | (rw [sp_is_T (by omega) (show tx p = 106 by omega)]; rfl) | (rw [sp_is_T (c := 104) (by omega) (by omega), Bool.true_or, Bool.or_true]) | (rw [sp_is_T (c := 100) (by omega) (by omega), Bool.or_true, Bool.or_true])
                have e1 : sp_pk tx n p = false := by unfold sp_pk; rw [e97, eso]; simp [*]
                have e2 : sp_pe tx n p = ((p + 1) + (sp_nl tx n (p + 1))) := by unfold sp_pe; rw [e97, eso]; simp [*]
                exact am_goZ false rfl ⟨_, rfl, by rw [e1], fun a b hf => by show (am_set (am_set (am_set (am_set M 13 3 (nI (tx p))) 13 2 (nI (p + 1))) 13 2 (nI ((p + 1) + (sp_nl tx n (p + 1))))) 13 5 (nI (sp_nv tx n (p + 1)))) a b = M a b; first | rfl | ((repeat rw [am_set_o (fun z => hf (by omega))])), by rw [e2]; first | rfl | exact hP | exact w2, fun z => by rw [e1] at z; cases z⟩
          · refine am_goTS (pc := 12) (d := (128)) (lo := (97)) (hi := (106)) (offs := #[56, 128, 128, 88, 128, 128, 128, 88, 128, 88]) (ls := [.ref 13]) (r := []) (M := (am_set M 13 3 (nI (tx p)))) (x := nI (tx p)) (128) 140 rfl (((((((show ∀ z : Nat, z < 256 → (z = 97 ∨ z = 100 ∨ z = 104 ∨ z = 106 ∨ am_tso (nI z) (128) (97) (106) #[56, 128, 128, 88, 128, 128, 128, 88, 128, 88] = some (128)) by decide +kernel) _ (by omega)).resolve_left c2).resolve_left c7).resolve_left c11).resolve_left c15)) rfl ?_
            refine am_goR 1 (s2 := (141, [.ref 13], [.int (nI 0)], (am_set M 13 3 (nI (tx p))))) rfl ?_
            have e97 : sp_is tx n p 97 = false := by first | exact sp_is_N (by omega) | exact sp_is_F (by omega)
            have eso : sp_so tx n p = false := by unfold sp_so; first | (rw [sp_is_N (by omega), sp_is_N (by omega), sp_is_N (by omega)]; rfl) | (rw [sp_is_F (by omega), sp_is_F (by omega), sp_is_F (by omega)]; rfl)
            have e1 : sp_pk tx n p = false := by unfold sp_pk; rw [e97, eso]; simp [*]
            have e2 : sp_pe tx n p = p := by unfold sp_pe; rw [e97, eso]; simp [*]
            exact am_goZ false rfl ⟨_, rfl, by rw [e1], fun a b hf => by show (am_set M 13 3 (nI (tx p))) a b = M a b; first | rfl | ((repeat rw [am_set_o (fun z => hf (by omega))])), by rw [e2]; first | rfl | exact hP | exact w2, fun z => by rw [e1] at z; cases z⟩
  · refine am_goX (v := (-nI 9)) (M2 := M) (s2 := (5, [.ref 13], [.ref 13], M)) rfl (s_hereN (M := M) hL hT hn hx (p := p) hP (by omega) (by omega)) ?_
    refine am_goR 5 (s2 := (141, [.ref 13], [.int (nI 0)], (am_set M 13 3 ((-nI 9))))) rfl ?_
    have e97 : sp_is tx n p 97 = false := by first | exact sp_is_N (by omega) | exact sp_is_F (by omega)
    have eso : sp_so tx n p = false := by unfold sp_so; first | (rw [sp_is_N (by omega), sp_is_N (by omega), sp_is_N (by omega)]; rfl) | (rw [sp_is_F (by omega), sp_is_F (by omega), sp_is_F (by omega)]; rfl)
    have e1 : sp_pk tx n p = false := by unfold sp_pk; rw [e97, eso]; simp [*]
    have e2 : sp_pe tx n p = p := by unfold sp_pe; rw [e97, eso]; simp [*]
    exact am_goZ false rfl ⟨_, rfl, by rw [e1], fun a b hf => by show (am_set M 13 3 ((-nI 9))) a b = M a b; first | rfl | ((repeat rw [am_set_o (fun z => hf (by omega))])), by rw [e2]; first | rfl | exact hP | exact w2, fun z => by rw [e1] at z; cases z⟩

