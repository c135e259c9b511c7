/-! walks: the letters: the reference's reading -/
theorem am_set_s (M : am_Mem) (i k : Nat) (v : Int32) : am_set M i k v i k = v := by unfold am_set; rw [if_pos ⟨rfl, rfl⟩]

set_option maxHeartbeats 4000000 in
theorem t_nextS {M : am_Mem} {tx : Nat → Nat} {n p : Nat} (hL : M 17 12 = nI n) (hT : ∀ q, q < 64 → M 21 q = nI (tx q)) (hn : n ≤ 64) (hx : ∀ q, tx q < 256) (hP : M 17 13 = nI p) (hp : p < n) : am_go 102 (am_ent 102 [.ref 17] M) (am_is (nI (tx p)) M) := by
  refine am_goQ 4 (s1 := (8, [.ref 17], [.int ((M 17 12)), .int ((M 17 13))], M)) (s2 := (8, [.ref 17], [.int (nI n), .int (nI p)], M)) rfl (by simp only [hL, hP]) ?_
  refine am_bLE (n) (p) (s1 := (23, [.ref 17], [], M)) (s2 := (11, [.ref 17], [], M)) rfl (by omega) (by omega) (fun c1 => absurd c1 (by omega)) (fun c1 => ?_)
  refine am_goQ 4 (s1 := (19, [.ref 17], [.int ((M 17 13)), .ref 21], M)) (s2 := (19, [.ref 17], [.int (nI p), .ref 21], M)) rfl (by simp only [hP]) ?_
  refine am_goL2 (pc := 20) (ls := [.ref 17]) (r := []) (M := M) (a := 21) (n := 64) (p) (nI (tx p)) rfl rfl (by omega) (by decide) (hT _ (by omega)) ?_
  refine am_goR 1 (s2 := (24, [.ref 17], [.int (nI (tx p))], M)) rfl ?_
  exact am_ends (nI (tx p)) _ rfl (by rfl) (rfl)

set_option maxHeartbeats 4000000 in
theorem t_nextN {M : am_Mem} {tx : Nat → Nat} {n p : Nat} (hL : M 17 12 = nI n) (hT : ∀ q, q < 64 → M 21 q = nI (tx q)) (hn : n ≤ 64) (hx : ∀ q, tx q < 256) (hP : M 17 13 = nI p) (hp : n ≤ p) (hp2 : p < 2147483648) : am_go 102 (am_ent 102 [.ref 17] M) (am_is (-nI 1) M) := by
  refine am_goQ 4 (s1 := (8, [.ref 17], [.int ((M 17 12)), .int ((M 17 13))], M)) (s2 := (8, [.ref 17], [.int (nI n), .int (nI p)], M)) rfl (by simp only [hL, hP]) ?_
  refine am_bLE (n) (p) (s1 := (23, [.ref 17], [], M)) (s2 := (11, [.ref 17], [], M)) rfl (by omega) (by omega) (fun c1 => ?_) (fun c1 => absurd c1 (by omega))
  refine am_goR 1 (s2 := (24, [.ref 17], [.int ((-nI 1))], M)) rfl ?_
  exact am_ends ((-nI 1)) _ rfl (by rfl) (rfl)

set_option maxHeartbeats 4000000 in
theorem t_isInM {M : am_Mem} : am_go 91 (am_ent 91 [.int ((-nI 1)), .int (nI 48), .int (nI 57)] M) (am_is (nI 0) M) := by
  refine am_goR 4 (s2 := (15, [.int ((-nI 1)), .int (nI 48), .int (nI 57)], [.int (nI 0)], M)) rfl ?_
  exact am_ends (nI 0) _ rfl (by rfl) (rfl)

set_option maxHeartbeats 4000000 in
theorem t_kindOfM {M : am_Mem} : am_go 104 (am_ent 104 [.int ((-nI 1))] M) (am_is (-nI 1) M) := by
  refine am_goR 3 (s2 := (73, [.int ((-nI 1))], [.int ((-nI 1))], M)) rfl ?_
  exact am_ends ((-nI 1)) _ rfl (by rfl) (rfl)

set_option maxHeartbeats 4000000 in
theorem t_kindOfS {M : am_Mem} {c : Nat} (hc : c < 256) (hk : sp_kl c < 6) : am_go 104 (am_ent 104 [.int (nI c)] M) (am_is (nI (sp_kl c)) M) := by
  have hk2 : c = 97 ∨ c = 108 ∨ c = 115 ∨ c = 119 ∨ c = 107 ∨ c = 110 := by
    unfold sp_kl at hk
    refine Decidable.byContradiction (fun z => ?_)
    rw [if_neg (by omega), if_neg (by omega), if_neg (by omega), if_neg (by omega), if_neg (by omega), if_neg (by omega)] at hk
    omega
  refine am_goR 1 (s2 := (1, [.int (nI c)], [.int (nI c)], M)) rfl ?_
  by_cases c1 : c = 97
  · refine am_goLK (pc := 1) (d := (71)) (ps := #[(97, 59), (107, 67), (108, 61), (110, 69), (115, 63), (119, 65)]) (ls := [.int (nI c)]) (r := []) (M := M) (x := nI c) (59) 60 rfl (by rw [c1]; decide +kernel) rfl ?_
    refine am_goR 1 (s2 := (61, [.int (nI c)], [.int (nI 0)], M)) rfl ?_
    exact am_ends (nI 0) _ rfl (by unfold sp_kl; simp [*]) rfl
  · by_cases c2 : c = 107
    · refine am_goLK (pc := 1) (d := (71)) (ps := #[(97, 59), (107, 67), (108, 61), (110, 69), (115, 63), (119, 65)]) (ls := [.int (nI c)]) (r := []) (M := M) (x := nI c) (67) 68 rfl (by rw [c2]; decide +kernel) rfl ?_
      refine am_goR 1 (s2 := (69, [.int (nI c)], [.int (nI 4)], M)) rfl ?_
      exact am_ends (nI 4) _ rfl (by unfold sp_kl; simp [*]) rfl
    · by_cases c3 : c = 108
      · refine am_goLK (pc := 1) (d := (71)) (ps := #[(97, 59), (107, 67), (108, 61), (110, 69), (115, 63), (119, 65)]) (ls := [.int (nI c)]) (r := []) (M := M) (x := nI c) (61) 62 rfl (by rw [c3]; decide +kernel) rfl ?_
        refine am_goR 1 (s2 := (63, [.int (nI c)], [.int (nI 1)], M)) rfl ?_
        exact am_ends (nI 1) _ rfl (by unfold sp_kl; simp [*]) rfl
      · by_cases c4 : c = 110
        · refine am_goLK (pc := 1) (d := (71)) (ps := #[(97, 59), (107, 67), (108, 61), (110, 69), (115, 63), (119, 65)]) (ls := [.int (nI c)]) (r := []) (M := M) (x := nI c) (69) 70 rfl (by rw [c4]; decide +kernel) rfl ?_
          refine am_goR 1 (s2 := (71, [.int (nI c)], [.int (nI 5)], M)) rfl ?_
          exact am_ends (nI 5) _ rfl (by unfold sp_kl; simp [*]) rfl
        · by_cases c5 : c = 115
          · refine am_goLK (pc := 1) (d := (71)) (ps := #[(97, 59), (107, 67), (108, 61), (110, 69), (115, 63), (119, 65)]) (ls := [.int (nI c)]) (r := []) (M := M) (x := nI c) (63) 64 rfl (by rw [c5]; decide +kernel) rfl ?_
            refine am_goR 1 (s2 := (65, [.int (nI c)], [.int (nI 2)], M)) rfl ?_
            exact am_ends (nI 2) _ rfl (by unfold sp_kl; simp [*]) rfl
          · have c6 : c = 119 := by omega
            refine am_goLK (pc := 1) (d := (71)) (ps := #[(97, 59), (107, 67), (108, 61), (110, 69), (115, 63), (119, 65)]) (ls := [.int (nI c)]) (r := []) (M := M) (x := nI c) (65) 66 rfl (by rw [c6]; decide +kernel) rfl ?_
            refine am_goR 1 (s2 := (67, [.int (nI c)], [.int (nI 3)], M)) rfl ?_
            exact am_ends (nI 3) _ rfl (by unfold sp_kl; simp [*]) rfl

set_option maxHeartbeats 4000000 in
theorem t_kindOfN {M : am_Mem} {c : Nat} (hc : c < 256) (hk : 6 ≤ sp_kl c) : am_go 104 (am_ent 104 [.int (nI c)] M) (am_is (-nI 1) M) := by
  have hk2 : ¬ c = 97 ∧ ¬ c = 108 ∧ ¬ c = 115 ∧ ¬ c = 119 ∧ ¬ c = 107 ∧ ¬ c = 110 := by
    refine ⟨fun z => ?_, fun z => ?_, fun z => ?_, fun z => ?_, fun z => ?_, fun z => ?_⟩ <;> (rw [z] at hk; revert hk; decide)
  refine am_goR 1 (s2 := (1, [.int (nI c)], [.int (nI c)], M)) rfl ?_
  have c1 : ¬ c = 97 := by omega
  have c2 : ¬ c = 107 := by omega
  have c3 : ¬ c = 108 := by omega
  have c4 : ¬ c = 110 := by omega
  have c5 : ¬ c = 115 := by omega
  have c6 : ¬ c = 119 := by omega
  refine am_goLK (pc := 1) (d := (71)) (ps := #[(97, 59), (107, 67), (108, 61), (110, 69), (115, 63), (119, 65)]) (ls := [.int (nI c)]) (r := []) (M := M) (x := nI c) (71) 72 rfl (((((((((show ∀ z : Nat, z < 256 → (z = 97 ∨ z = 107 ∨ z = 108 ∨ z = 110 ∨ z = 115 ∨ z = 119 ∨ Op.lookupswitch.offset [(97, 59), (107, 67), (108, 61), (110, 69), (115, 63), (119, 65)] (71) (nI z).toInt = (71)) by decide +kernel) _ (by omega)).resolve_left c1).resolve_left c2).resolve_left c3).resolve_left c4).resolve_left c5).resolve_left c6)) rfl ?_
  refine am_goR 1 (s2 := (73, [.int (nI c)], [.int ((-nI 1))], M)) rfl ?_
  exact am_ends (-nI 1) _ rfl rfl rfl

set_option maxHeartbeats 4000000 in
theorem t_readsN {M : am_Mem} {tx : Nat → Nat} {n p : Nat} (hL : M 17 12 = nI n) (hT : ∀ q, q < 64 → M 21 q = nI (tx q)) (hn : n ≤ 64) (hx : ∀ q, tx q < 256) (hP : M 17 13 = nI p) (hp : p ≤ n) (hz : sp_nl tx n p = 0) {t : Nat} : am_go 103 (am_ent 103 [.ref 17, .int (nI t)] M) (am_is (nI 0) M) := by
  have hxp := hx p
  have hd : p < n → ¬ sp_in (tx p) 48 57 = true := fun h1 h2 => by
    have h3 := sp_dg_T h1 h2
    unfold sp_nl at hz
    rw [if_pos h3] at hz
    split at hz <;> omega
  refine am_goR 1 (s2 := (1, [.ref 17, .int (nI t), .null, .null], [.ref 17], M)) rfl ?_
  rcases Nat.lt_or_ge p n with w1 | w1
  · refine am_goX (v := nI (tx p)) (M2 := M) (s2 := (4, [.ref 17, .int (nI t), .null, .null], [], M)) rfl (t_nextS (M := M) hL hT hn hx (p := p) hP (by omega)) ?_
    have w1x := hx p
    refine am_goR 2 (s2 := (8, [.ref 17, .int (nI t), .null, .null], [.int (nI 57), .int (nI 48), .int (nI (tx p))], M)) rfl ?_
    refine am_goX (v := am_b (sp_in (tx p) 48 57)) (M2 := M) (s2 := (11, [.ref 17, .int (nI t), .null, .null], [], M)) rfl (t_isInG (x := (tx p)) (lo := 48) (hi := 57) (by omega) (by omega) (by omega)) ?_
    refine am_bB1 (sp_in (tx p) 48 57) (s1 := (16, [.ref 17, .int (nI t), .null, .null], [], M)) (s2 := (14, [.ref 17, .int (nI t), .null, .null], [], M)) rfl (fun c2 => absurd c2 (by simp [*])) (fun c2 => ?_)
    refine am_goR 1 (s2 := (15, [.ref 17, .int (nI t), .null, .null], [.int (nI 0)], M)) rfl ?_
    exact am_goZ false rfl ⟨_, rfl, rfl, rfl⟩
  · refine am_goX (v := (-nI 1)) (M2 := M) (s2 := (4, [.ref 17, .int (nI t), .null, .null], [], M)) rfl (t_nextN (M := M) hL hT hn hx (p := p) hP (by omega) (by omega)) ?_
    refine am_goR 2 (s2 := (8, [.ref 17, .int (nI t), .null, .null], [.int (nI 57), .int (nI 48), .int ((-nI 1))], M)) rfl ?_
    refine am_goX (v := nI 0) (M2 := M) (s2 := (11, [.ref 17, .int (nI t), .null, .null], [], M)) rfl (t_isInM) ?_
    refine am_goR 2 (s2 := (15, [.ref 17, .int (nI t), .null, .null], [.int (nI 0)], M)) rfl ?_
    exact am_goZ false rfl ⟨_, rfl, rfl, rfl⟩

set_option maxHeartbeats 4000000 in
theorem t_readsS {M : am_Mem} {tx : Nat → Nat} {n p : Nat} (hL : M 17 12 = nI n) (hT : ∀ q, q < 64 → M 21 q = nI (tx q)) (hn : n ≤ 64) (hx : ∀ q, tx q < 256) (hP : M 17 13 = nI p) (hp : p ≤ n) (hz : ¬ sp_nl tx n p = 0) {t : Nat} (ht : t < 96) : am_go 103 (am_ent 103 [.ref 17, .int (nI t)] M) (am_is (nI 1) (am_set (am_set M 17 13 (nI (p + sp_nl tx n p))) 24 t (nI (sp_nv tx n p)))) := by
  have hxp := hx p
  have hd := sp_nl_n0 hz
  have hd2 := sp_dg_of hd
  have hd3 : sp_in (tx p) 48 57 = true := by unfold sp_in; rw [decide_eq_true hd2.2.1, decide_eq_true hd2.2.2]; rfl
  refine am_goR 1 (s2 := (1, [.ref 17, .int (nI t), .null, .null], [.ref 17], M)) rfl ?_
  refine am_goX (v := nI (tx p)) (M2 := M) (s2 := (4, [.ref 17, .int (nI t), .null, .null], [], M)) rfl (t_nextS (M := M) hL hT hn hx (p := p) hP (by omega)) ?_
  have w1x := hx p
  refine am_goR 2 (s2 := (8, [.ref 17, .int (nI t), .null, .null], [.int (nI 57), .int (nI 48), .int (nI (tx p))], M)) rfl ?_
  refine am_goX (v := am_b (sp_in (tx p) 48 57)) (M2 := M) (s2 := (11, [.ref 17, .int (nI t), .null, .null], [], M)) rfl (t_isInG (x := (tx p)) (lo := 48) (hi := 57) (by omega) (by omega) (by omega)) ?_
  refine am_bB1 (sp_in (tx p) 48 57) (s1 := (16, [.ref 17, .int (nI t), .null, .null], [], M)) (s2 := (14, [.ref 17, .int (nI t), .null, .null], [], M)) rfl (fun c2 => ?_) (fun c2 => absurd c2 (by simp [*]))
  have c2d := sp_in_T c2
  refine am_goR 8 (s2 := (26, [.ref 17, .int (nI t), .int (nI 0), .int (nI 0)], [.ref 17], M)) rfl ?_
  refine am_goX (v := nI (tx p)) (M2 := M) (s2 := (29, [.ref 17, .int (nI t), .int (nI 0), .int (nI 0)], [], M)) rfl (t_nextS (M := M) hL hT hn hx (p := p) hP (by omega)) ?_
  have w3x := hx p
  refine am_goR 2 (s2 := (33, [.ref 17, .int (nI t), .int (nI 0), .int (nI 0)], [.int (nI 57), .int (nI 48), .int (nI (tx p))], M)) rfl ?_
  refine am_goX (v := am_b (sp_in (tx p) 48 57)) (M2 := M) (s2 := (36, [.ref 17, .int (nI t), .int (nI 0), .int (nI 0)], [], M)) rfl (t_isInG (x := (tx p)) (lo := 48) (hi := 57) (by omega) (by omega) (by omega)) ?_
  refine am_bB0 (sp_in (tx p) 48 57) (s1 := (68, [.ref 17, .int (nI t), .int (nI 0), .int (nI 0)], [], M)) (s2 := (39, [.ref 17, .int (nI t), .int (nI 0), .int (nI 0)], [], M)) rfl (fun c4 => absurd c4 (by simp [*])) (fun c4 => ?_)
  have c4d := sp_in_T c4
  refine am_goR 4 (s2 := (44, [.ref 17, .int (nI t), .int (nI 0), .int (nI 0)], [.ref 17, .int (nI 0)], M)) rfl ?_
  refine am_goX (v := nI (tx p)) (M2 := M) (s2 := (47, [.ref 17, .int (nI t), .int (nI 0), .int (nI 0)], [.int (nI 0)], M)) rfl (t_nextS (M := M) hL hT hn hx (p := p) hP (by omega)) ?_
  have w5x := hx p
  refine am_goQ 9 (s1 := (59, [.ref 17, .int (nI t), .int (((nI 0 + nI (tx p)) - nI 48)), .int (nI 0)], [.int (((M 17 13) + nI 1)), .ref 17], M)) (s2 := (59, [.ref 17, .int (nI t), .int (nI ((0 + (tx p)) - 48)), .int (nI 0)], [.int (nI (p + 1)), .ref 17], M)) rfl (by simp only [nI_add, pk_sub (a := (0 + (tx p))) (b := 48) (by omega), hP]) ?_
  refine am_goR 7 (s2 := (26, [.ref 17, .int (nI t), .int (nI ((0 + (tx p)) - 48)), .int (nI 1)], [.ref 17], (am_set M 17 13 (nI (p + 1))))) rfl ?_
  rcases Nat.lt_or_ge (p + 1) n with w6 | w6
  · refine am_goX (v := nI (tx (p + 1))) (M2 := (am_set M 17 13 (nI (p + 1)))) (s2 := (29, [.ref 17, .int (nI t), .int (nI ((0 + (tx p)) - 48)), .int (nI 1)], [], (am_set M 17 13 (nI (p + 1))))) rfl (t_nextS (M := (am_set M 17 13 (nI (p + 1)))) hL hT hn hx (p := (p + 1)) rfl (by omega)) ?_
    have w6x := hx (p + 1)
    refine am_goR 2 (s2 := (33, [.ref 17, .int (nI t), .int (nI ((0 + (tx p)) - 48)), .int (nI 1)], [.int (nI 57), .int (nI 48), .int (nI (tx (p + 1)))], (am_set M 17 13 (nI (p + 1))))) rfl ?_
    refine am_goX (v := am_b (sp_in (tx (p + 1)) 48 57)) (M2 := (am_set M 17 13 (nI (p + 1)))) (s2 := (36, [.ref 17, .int (nI t), .int (nI ((0 + (tx p)) - 48)), .int (nI 1)], [], (am_set M 17 13 (nI (p + 1))))) rfl (t_isInG (x := (tx (p + 1))) (lo := 48) (hi := 57) (by omega) (by omega) (by omega)) ?_
    refine am_bB0 (sp_in (tx (p + 1)) 48 57) (s1 := (68, [.ref 17, .int (nI t), .int (nI ((0 + (tx p)) - 48)), .int (nI 1)], [], (am_set M 17 13 (nI (p + 1))))) (s2 := (39, [.ref 17, .int (nI t), .int (nI ((0 + (tx p)) - 48)), .int (nI 1)], [], (am_set M 17 13 (nI (p + 1))))) rfl (fun c7 => ?_) (fun c7 => ?_)
    · refine am_goR 4 (s2 := (74, [.ref 17, .int (nI t), .int (nI ((0 + (tx p)) - 48)), .int (nI 1)], [.int (nI ((0 + (tx p)) - 48)), .int (nI t), .ref 24], (am_set M 17 13 (nI (p + 1))))) rfl ?_
      refine am_goS (pc := 75) (ls := [.ref 17, .int (nI t), .int (nI ((0 + (tx p)) - 48)), .int (nI 1)]) (r := []) (M := (am_set M 17 13 (nI (p + 1)))) (a := 24) (n := 96) (v := nI ((0 + (tx p)) - 48)) (t) rfl rfl (by omega) (by decide) ?_
      refine am_goR 1 (s2 := (76, [.ref 17, .int (nI t), .int (nI ((0 + (tx p)) - 48)), .int (nI 1)], [.int (nI 1)], (am_set (am_set M 17 13 (nI (p + 1))) 24 t (nI ((0 + (tx p)) - 48))))) rfl ?_
      have e2 := sp_nl_1 hd (by first | exact sp_dg_N (by omega) | exact sp_dg_F (by assumption))
      rw [e2.1, e2.2]
      refine am_goZ true rfl ⟨_, rfl, rfl, ?_⟩
      show (am_set (am_set M 17 13 (nI (p + 1))) 24 t (nI ((0 + (tx p)) - 48))) = _
      exact congrArg (fun z : Nat => am_set (am_set M 17 13 (nI (p + 1))) 24 t (nI z)) (show ((0 + (tx p)) - 48) = tx p - 48 by omega)
    · have c7d := sp_in_T c7
      refine am_goQ 4 (s1 := (44, [.ref 17, .int (nI t), .int (nI ((0 + (tx p)) - 48)), .int (nI 1)], [.ref 17, .int ((nI 10 * nI ((0 + (tx p)) - 48)))], (am_set M 17 13 (nI (p + 1))))) (s2 := (44, [.ref 17, .int (nI t), .int (nI ((0 + (tx p)) - 48)), .int (nI 1)], [.ref 17, .int (nI (10 * ((0 + (tx p)) - 48)))], (am_set M 17 13 (nI (p + 1))))) rfl (by simp only [pk_mul]) ?_
      refine am_goX (v := nI (tx (p + 1))) (M2 := (am_set M 17 13 (nI (p + 1)))) (s2 := (47, [.ref 17, .int (nI t), .int (nI ((0 + (tx p)) - 48)), .int (nI 1)], [.int (nI (10 * ((0 + (tx p)) - 48)))], (am_set M 17 13 (nI (p + 1))))) rfl (t_nextS (M := (am_set M 17 13 (nI (p + 1)))) hL hT hn hx (p := (p + 1)) rfl (by omega)) ?_
      have w8x := hx (p + 1)
      refine am_goQ 9 (s1 := (59, [.ref 17, .int (nI t), .int (((nI (10 * ((0 + (tx p)) - 48)) + nI (tx (p + 1))) - nI 48)), .int (nI 1)], [.int ((nI (p + 1) + nI 1)), .ref 17], (am_set M 17 13 (nI (p + 1))))) (s2 := (59, [.ref 17, .int (nI t), .int (nI (((10 * ((0 + (tx p)) - 48)) + (tx (p + 1))) - 48)), .int (nI 1)], [.int (nI ((p + 1) + 1)), .ref 17], (am_set M 17 13 (nI (p + 1))))) rfl (by simp only [nI_add, pk_sub (a := ((10 * ((0 + (tx p)) - 48)) + (tx (p + 1)))) (b := 48) (by omega)]) ?_
      refine am_goR 10 (s2 := (74, [.ref 17, .int (nI t), .int (nI (((10 * ((0 + (tx p)) - 48)) + (tx (p + 1))) - 48)), .int (nI 2)], [.int (nI (((10 * ((0 + (tx p)) - 48)) + (tx (p + 1))) - 48)), .int (nI t), .ref 24], (am_set (am_set M 17 13 (nI (p + 1))) 17 13 (nI ((p + 1) + 1))))) rfl ?_
      refine am_goS (pc := 75) (ls := [.ref 17, .int (nI t), .int (nI (((10 * ((0 + (tx p)) - 48)) + (tx (p + 1))) - 48)), .int (nI 2)]) (r := []) (M := (am_set (am_set M 17 13 (nI (p + 1))) 17 13 (nI ((p + 1) + 1)))) (a := 24) (n := 96) (v := nI (((10 * ((0 + (tx p)) - 48)) + (tx (p + 1))) - 48)) (t) rfl rfl (by omega) (by decide) ?_
      refine am_goR 1 (s2 := (76, [.ref 17, .int (nI t), .int (nI (((10 * ((0 + (tx p)) - 48)) + (tx (p + 1))) - 48)), .int (nI 2)], [.int (nI 1)], (am_set (am_set (am_set M 17 13 (nI (p + 1))) 17 13 (nI ((p + 1) + 1))) 24 t (nI (((10 * ((0 + (tx p)) - 48)) + (tx (p + 1))) - 48))))) rfl ?_
      have e2 := sp_nl_2 hd (sp_dg_T (by omega) (by assumption))
      rw [e2.1, e2.2]
      refine am_goZ true rfl ⟨_, rfl, rfl, ?_⟩
      show (am_set (am_set (am_set M 17 13 (nI (p + 1))) 17 13 (nI ((p + 1) + 1))) 24 t (nI (((10 * ((0 + (tx p)) - 48)) + (tx (p + 1))) - 48))) = _
      rw [am_set2]
      exact congrArg (fun z : Nat => am_set (am_set M 17 13 (nI ((p + 1) + 1))) 24 t (nI z)) (show (((10 * ((0 + (tx p)) - 48)) + (tx (p + 1))) - 48) = 10 * (tx p - 48) + tx (p + 1) - 48 by omega)
  · refine am_goX (v := (-nI 1)) (M2 := (am_set M 17 13 (nI (p + 1)))) (s2 := (29, [.ref 17, .int (nI t), .int (nI ((0 + (tx p)) - 48)), .int (nI 1)], [], (am_set M 17 13 (nI (p + 1))))) rfl (t_nextN (M := (am_set M 17 13 (nI (p + 1)))) hL hT hn hx (p := (p + 1)) rfl (by omega) (by omega)) ?_
    refine am_goR 2 (s2 := (33, [.ref 17, .int (nI t), .int (nI ((0 + (tx p)) - 48)), .int (nI 1)], [.int (nI 57), .int (nI 48), .int ((-nI 1))], (am_set M 17 13 (nI (p + 1))))) rfl ?_
    refine am_goX (v := nI 0) (M2 := (am_set M 17 13 (nI (p + 1)))) (s2 := (36, [.ref 17, .int (nI t), .int (nI ((0 + (tx p)) - 48)), .int (nI 1)], [], (am_set M 17 13 (nI (p + 1))))) rfl (t_isInM) ?_
    refine am_goR 5 (s2 := (74, [.ref 17, .int (nI t), .int (nI ((0 + (tx p)) - 48)), .int (nI 1)], [.int (nI ((0 + (tx p)) - 48)), .int (nI t), .ref 24], (am_set M 17 13 (nI (p + 1))))) rfl ?_
    refine am_goS (pc := 75) (ls := [.ref 17, .int (nI t), .int (nI ((0 + (tx p)) - 48)), .int (nI 1)]) (r := []) (M := (am_set M 17 13 (nI (p + 1)))) (a := 24) (n := 96) (v := nI ((0 + (tx p)) - 48)) (t) rfl rfl (by omega) (by decide) ?_
    refine am_goR 1 (s2 := (76, [.ref 17, .int (nI t), .int (nI ((0 + (tx p)) - 48)), .int (nI 1)], [.int (nI 1)], (am_set (am_set M 17 13 (nI (p + 1))) 24 t (nI ((0 + (tx p)) - 48))))) rfl ?_
    have e2 := sp_nl_1 hd (by first | exact sp_dg_N (by omega) | exact sp_dg_F (by assumption))
    rw [e2.1, e2.2]
    refine am_goZ true rfl ⟨_, rfl, rfl, ?_⟩
    show (am_set (am_set M 17 13 (nI (p + 1))) 24 t (nI ((0 + (tx p)) - 48))) = _
    exact congrArg (fun z : Nat => am_set (am_set M 17 13 (nI (p + 1))) 24 t (nI z)) (show ((0 + (tx p)) - 48) = tx p - 48 by omega)

set_option maxHeartbeats 4000000 in
theorem t_readsArm {M : am_Mem} {tx : Nat → Nat} {n p : Nat} (hL : M 17 12 = nI n) (hT : ∀ q, q < 64 → M 21 q = nI (tx q)) (hn : n ≤ 64) (hx : ∀ q, tx q < 256) (hP : M 17 13 = nI p) (hp : p ≤ n) {t : Nat} (ht : t < 90) : am_go 105 (am_ent 105 [.ref 17, .int (nI t)] M) (am_ri (fun x N => x = am_b (sp_ak tx n p) ∧ (∀ a b, ¬ (a = 17 ∧ b = 13) → ¬ (a = 24 ∧ t ≤ b ∧ b < t + 3) → N a b = M a b) ∧ N 17 13 = nI (sp_ae tx n p) ∧ (sp_ak tx n p = true → N 24 t = nI (sp_kd tx n p) ∧ N 24 (t + 1) = nI (sp_nv tx n (p + 1)) ∧ N 24 (t + 2) = nI (sp_nv tx n (p + 1 + sp_nl tx n (p + 1) + 1))))) := by
  have hxp := hx p
  refine am_goR 4 (s2 := (6, [.ref 17, .int (nI t)], [.ref 17, .int (nI t), .ref 24], M)) rfl ?_
  rcases Nat.lt_or_ge p n with w1 | w1
  · refine am_goX (v := nI (tx p)) (M2 := M) (s2 := (9, [.ref 17, .int (nI t)], [.int (nI t), .ref 24], M)) rfl (t_nextS (M := M) hL hT hn hx (p := p) hP (by omega)) ?_
    have w1x := hx p
    rcases Nat.lt_or_ge (sp_kl (tx p)) 6 with w2 | w2
    · refine am_goX (v := nI (sp_kl (tx p))) (M2 := M) (s2 := (12, [.ref 17, .int (nI t)], [.int (nI t), .ref 24], M)) rfl (t_kindOfS (c := (tx p)) (by omega) w2) ?_
      refine am_goS (pc := 13) (ls := [.ref 17, .int (nI t)]) (r := []) (M := M) (a := 24) (n := 96) (v := nI (sp_kl (tx p))) (t) rfl rfl (by omega) (by decide) ?_
      refine am_goR 3 (s2 := (18, [.ref 17, .int (nI t)], [.int (nI t), .ref 24], (am_set M 24 t (nI (sp_kl (tx p)))))) rfl ?_
      refine am_goL2 (pc := 19) (ls := [.ref 17, .int (nI t)]) (r := []) (M := (am_set M 24 t (nI (sp_kl (tx p))))) (a := 24) (n := 96) (t) (nI (sp_kl (tx p))) rfl rfl (by omega) (by decide) (am_set_s _ _ _ _) ?_
      refine am_bLE (0) ((sp_kl (tx p))) (s1 := (24, [.ref 17, .int (nI t)], [], (am_set M 24 t (nI (sp_kl (tx p)))))) (s2 := (22, [.ref 17, .int (nI t)], [], (am_set M 24 t (nI (sp_kl (tx p)))))) rfl (by omega) (by omega) (fun c3 => ?_) (fun c3 => absurd c3 (by omega))
      refine am_goQ 5 (s1 := (31, [.ref 17, .int (nI t)], [.int (((M 17 13) + nI 1)), .ref 17], (am_set M 24 t (nI (sp_kl (tx p)))))) (s2 := (31, [.ref 17, .int (nI t)], [.int (nI (p + 1)), .ref 17], (am_set M 24 t (nI (sp_kl (tx p)))))) rfl (by simp only [hP, nI_add]) ?_
      refine am_goQ 5 (s1 := (38, [.ref 17, .int (nI t)], [.int ((nI t + nI 1)), .ref 17], (am_set (am_set M 24 t (nI (sp_kl (tx p)))) 17 13 (nI (p + 1))))) (s2 := (38, [.ref 17, .int (nI t)], [.int (nI (t + 1)), .ref 17], (am_set (am_set M 24 t (nI (sp_kl (tx p)))) 17 13 (nI (p + 1))))) rfl (by simp only [nI_add]) ?_
      by_cases w4 : sp_nl tx n (p + 1) = 0
      · refine am_goX (v := nI 0) (M2 := (am_set (am_set M 24 t (nI (sp_kl (tx p)))) 17 13 (nI (p + 1)))) (s2 := (41, [.ref 17, .int (nI t)], [], (am_set (am_set M 24 t (nI (sp_kl (tx p)))) 17 13 (nI (p + 1))))) rfl (t_readsN (M := (am_set (am_set M 24 t (nI (sp_kl (tx p)))) 17 13 (nI (p + 1)))) hL hT hn hx (p := (p + 1)) rfl (by omega) w4 (t := (t + 1))) ?_
        refine am_goR 2 (s2 := (54, [.ref 17, .int (nI t)], [.int (nI 0)], (am_set (am_set M 24 t (nI (sp_kl (tx p)))) 17 13 (nI (p + 1))))) rfl ?_
        have ek : sp_kd tx n p = sp_kl (tx p) := sp_kd_e (by omega)
        have e1 : sp_ak tx n p = false := by unfold sp_ak; rw [ek]; simp [*]
        have e2 : sp_ae tx n p = (p + 1) := by unfold sp_ae; rw [ek]; simp [*]
        exact am_goZ false rfl ⟨_, rfl, by rw [e1], fun a b hf hg => by show (am_set (am_set M 24 t (nI (sp_kl (tx p)))) 17 13 (nI (p + 1))) a b = M a b; first | rfl | ((repeat rw [am_set_o (fun z => by omega)])), by rw [e2]; show (am_set (am_set M 24 t (nI (sp_kl (tx p)))) 17 13 (nI (p + 1))) 17 13 = _; first | rfl | exact hP, fun z => by rw [e1] at z; cases z⟩
      · refine am_goX (v := nI 1) (M2 := (am_set (am_set (am_set (am_set M 24 t (nI (sp_kl (tx p)))) 17 13 (nI (p + 1))) 17 13 (nI ((p + 1) + (sp_nl tx n (p + 1))))) 24 (t + 1) (nI (sp_nv tx n (p + 1))))) (s2 := (41, [.ref 17, .int (nI t)], [], (am_set (am_set M 24 t (nI (sp_kl (tx p)))) 17 13 (nI (p + 1))))) rfl (t_readsS (M := (am_set (am_set M 24 t (nI (sp_kl (tx p)))) 17 13 (nI (p + 1)))) hL hT hn hx (p := (p + 1)) rfl (by omega) w4 (t := (t + 1)) (by omega)) ?_
        have w4a := sp_nl_b hn (p := (p + 1)) w4
        have w4b := sp_nv_lt (tx := tx) (n := n) w4
        refine am_goR 2 (s2 := (45, [.ref 17, .int (nI t)], [.ref 17], (am_set (am_set (am_set (am_set M 24 t (nI (sp_kl (tx p)))) 17 13 (nI (p + 1))) 17 13 (nI ((p + 1) + (sp_nl tx n (p + 1))))) 24 (t + 1) (nI (sp_nv tx n (p + 1)))))) rfl ?_
        rcases Nat.lt_or_ge ((p + 1) + (sp_nl tx n (p + 1))) n with w5 | w5
        · refine am_goX (v := nI (tx ((p + 1) + (sp_nl tx n (p + 1))))) (M2 := (am_set (am_set (am_set (am_set M 24 t (nI (sp_kl (tx p)))) 17 13 (nI (p + 1))) 17 13 (nI ((p + 1) + (sp_nl tx n (p + 1))))) 24 (t + 1) (nI (sp_nv tx n (p + 1))))) (s2 := (48, [.ref 17, .int (nI t)], [], (am_set (am_set (am_set (am_set M 24 t (nI (sp_kl (tx p)))) 17 13 (nI (p + 1))) 17 13 (nI ((p + 1) + (sp_nl tx n (p + 1))))) 24 (t + 1) (nI (sp_nv tx n (p + 1)))))) rfl (t_nextS (M := (am_set (am_set (am_set (am_set M 24 t (nI (sp_kl (tx p)))) 17 13 (nI (p + 1))) 17 13 (nI ((p + 1) + (sp_nl tx n (p + 1))))) 24 (t + 1) (nI (sp_nv tx n (p + 1))))) hL hT hn hx (p := ((p + 1) + (sp_nl tx n (p + 1)))) rfl (by omega)) ?_
          have w5x := hx ((p + 1) + (sp_nl tx n (p + 1)))
          refine am_goR 1 (s2 := (50, [.ref 17, .int (nI t)], [.int (nI 44), .int (nI (tx ((p + 1) + (sp_nl tx n (p + 1)))))], (am_set (am_set (am_set (am_set M 24 t (nI (sp_kl (tx p)))) 17 13 (nI (p + 1))) 17 13 (nI ((p + 1) + (sp_nl tx n (p + 1))))) 24 (t + 1) (nI (sp_nv tx n (p + 1)))))) rfl ?_
          refine am_bEQ ((tx ((p + 1) + (sp_nl tx n (p + 1))))) (44) (s1 := (55, [.ref 17, .int (nI t)], [], (am_set (am_set (am_set (am_set M 24 t (nI (sp_kl (tx p)))) 17 13 (nI (p + 1))) 17 13 (nI ((p + 1) + (sp_nl tx n (p + 1))))) 24 (t + 1) (nI (sp_nv tx n (p + 1)))))) (s2 := (53, [.ref 17, .int (nI t)], [], (am_set (am_set (am_set (am_set M 24 t (nI (sp_kl (tx p)))) 17 13 (nI (p + 1))) 17 13 (nI ((p + 1) + (sp_nl tx n (p + 1))))) 24 (t + 1) (nI (sp_nv tx n (p + 1)))))) rfl (by omega) (by omega) (fun c6 => ?_) (fun c6 => ?_)
          · refine am_goQ 5 (s1 := (62, [.ref 17, .int (nI t)], [.int ((nI ((p + 1) + (sp_nl tx n (p + 1))) + nI 1)), .ref 17], (am_set (am_set (am_set (am_set M 24 t (nI (sp_kl (tx p)))) 17 13 (nI (p + 1))) 17 13 (nI ((p + 1) + (sp_nl tx n (p + 1))))) 24 (t + 1) (nI (sp_nv tx n (p + 1)))))) (s2 := (62, [.ref 17, .int (nI t)], [.int (nI (((p + 1) + (sp_nl tx n (p + 1))) + 1)), .ref 17], (am_set (am_set (am_set (am_set M 24 t (nI (sp_kl (tx p)))) 17 13 (nI (p + 1))) 17 13 (nI ((p + 1) + (sp_nl tx n (p + 1))))) 24 (t + 1) (nI (sp_nv tx n (p + 1)))))) rfl (by simp only [nI_add]) ?_
            refine am_goQ 5 (s1 := (69, [.ref 17, .int (nI t)], [.int ((nI t + nI 2)), .ref 17], (am_set (am_set (am_set (am_set (am_set M 24 t (nI (sp_kl (tx p)))) 17 13 (nI (p + 1))) 17 13 (nI ((p + 1) + (sp_nl tx n (p + 1))))) 24 (t + 1) (nI (sp_nv tx n (p + 1)))) 17 13 (nI (((p + 1) + (sp_nl tx n (p + 1))) + 1))))) (s2 := (69, [.ref 17, .int (nI t)], [.int (nI (t + 2)), .ref 17], (am_set (am_set (am_set (am_set (am_set M 24 t (nI (sp_kl (tx p)))) 17 13 (nI (p + 1))) 17 13 (nI ((p + 1) + (sp_nl tx n (p + 1))))) 24 (t + 1) (nI (sp_nv tx n (p + 1)))) 17 13 (nI (((p + 1) + (sp_nl tx n (p + 1))) + 1))))) rfl (by simp only [nI_add]) ?_
            by_cases w7 : sp_nl tx n (((p + 1) + (sp_nl tx n (p + 1))) + 1) = 0
            · refine am_goX (v := nI 0) (M2 := (am_set (am_set (am_set (am_set (am_set M 24 t (nI (sp_kl (tx p)))) 17 13 (nI (p + 1))) 17 13 (nI ((p + 1) + (sp_nl tx n (p + 1))))) 24 (t + 1) (nI (sp_nv tx n (p + 1)))) 17 13 (nI (((p + 1) + (sp_nl tx n (p + 1))) + 1)))) (s2 := (72, [.ref 17, .int (nI t)], [], (am_set (am_set (am_set (am_set (am_set M 24 t (nI (sp_kl (tx p)))) 17 13 (nI (p + 1))) 17 13 (nI ((p + 1) + (sp_nl tx n (p + 1))))) 24 (t + 1) (nI (sp_nv tx n (p + 1)))) 17 13 (nI (((p + 1) + (sp_nl tx n (p + 1))) + 1))))) rfl (t_readsN (M := (am_set (am_set (am_set (am_set (am_set M 24 t (nI (sp_kl (tx p)))) 17 13 (nI (p + 1))) 17 13 (nI ((p + 1) + (sp_nl tx n (p + 1))))) 24 (t + 1) (nI (sp_nv tx n (p + 1)))) 17 13 (nI (((p + 1) + (sp_nl tx n (p + 1))) + 1)))) hL hT hn hx (p := (((p + 1) + (sp_nl tx n (p + 1))) + 1)) rfl (by omega) w7 (t := (t + 2))) ?_
              have ek : sp_kd tx n p = sp_kl (tx p) := sp_kd_e (by omega)
              have e44 : sp_is tx n (p + 1 + sp_nl tx n (p + 1)) 44 = true := by first | exact sp_is_T (by omega) (by assumption)
              have e1 : sp_ak tx n p = false := by unfold sp_ak; rw [ek]; simp [*]
              have e2 : sp_ae tx n p = (((p + 1) + (sp_nl tx n (p + 1))) + 1) := by unfold sp_ae; rw [ek]; simp [*]
              exact am_goZ false rfl ⟨_, rfl, by rw [e1], fun a b hf hg => by show (am_set (am_set (am_set (am_set (am_set M 24 t (nI (sp_kl (tx p)))) 17 13 (nI (p + 1))) 17 13 (nI ((p + 1) + (sp_nl tx n (p + 1))))) 24 (t + 1) (nI (sp_nv tx n (p + 1)))) 17 13 (nI (((p + 1) + (sp_nl tx n (p + 1))) + 1))) a b = M a b; first | rfl | ((repeat rw [am_set_o (fun z => by omega)])), by rw [e2]; show (am_set (am_set (am_set (am_set (am_set M 24 t (nI (sp_kl (tx p)))) 17 13 (nI (p + 1))) 17 13 (nI ((p + 1) + (sp_nl tx n (p + 1))))) 24 (t + 1) (nI (sp_nv tx n (p + 1)))) 17 13 (nI (((p + 1) + (sp_nl tx n (p + 1))) + 1))) 17 13 = _; first | rfl | exact hP, fun z => by rw [e1] at z; cases z⟩
            · refine am_goX (v := nI 1) (M2 := (am_set (am_set (am_set (am_set (am_set (am_set (am_set M 24 t (nI (sp_kl (tx p)))) 17 13 (nI (p + 1))) 17 13 (nI ((p + 1) + (sp_nl tx n (p + 1))))) 24 (t + 1) (nI (sp_nv tx n (p + 1)))) 17 13 (nI (((p + 1) + (sp_nl tx n (p + 1))) + 1))) 17 13 (nI ((((p + 1) + (sp_nl tx n (p + 1))) + 1) + (sp_nl tx n (((p + 1) + (sp_nl tx n (p + 1))) + 1))))) 24 (t + 2) (nI (sp_nv tx n (((p + 1) + (sp_nl tx n (p + 1))) + 1))))) (s2 := (72, [.ref 17, .int (nI t)], [], (am_set (am_set (am_set (am_set (am_set M 24 t (nI (sp_kl (tx p)))) 17 13 (nI (p + 1))) 17 13 (nI ((p + 1) + (sp_nl tx n (p + 1))))) 24 (t + 1) (nI (sp_nv tx n (p + 1)))) 17 13 (nI (((p + 1) + (sp_nl tx n (p + 1))) + 1))))) rfl (t_readsS (M := (am_set (am_set (am_set (am_set (am_set M 24 t (nI (sp_kl (tx p)))) 17 13 (nI (p + 1))) 17 13 (nI ((p + 1) + (sp_nl tx n (p + 1))))) 24 (t + 1) (nI (sp_nv tx n (p + 1)))) 17 13 (nI (((p + 1) + (sp_nl tx n (p + 1))) + 1)))) hL hT hn hx (p := (((p + 1) + (sp_nl tx n (p + 1))) + 1)) rfl (by omega) w7 (t := (t + 2)) (by omega)) ?_
              have w7a := sp_nl_b hn (p := (((p + 1) + (sp_nl tx n (p + 1))) + 1)) w7
              have w7b := sp_nv_lt (tx := tx) (n := n) w7
              have ek : sp_kd tx n p = sp_kl (tx p) := sp_kd_e (by omega)
              have e44 : sp_is tx n (p + 1 + sp_nl tx n (p + 1)) 44 = true := by first | exact sp_is_T (by omega) (by assumption)
              have e1 : sp_ak tx n p = true := by unfold sp_ak; rw [ek]; simp [*]
              have e2 : sp_ae tx n p = ((((p + 1) + (sp_nl tx n (p + 1))) + 1) + (sp_nl tx n (((p + 1) + (sp_nl tx n (p + 1))) + 1))) := by unfold sp_ae; rw [ek]; simp [*]
              exact am_goZ true rfl ⟨_, rfl, by rw [e1], fun a b hf hg => by show (am_set (am_set (am_set (am_set (am_set (am_set (am_set M 24 t (nI (sp_kl (tx p)))) 17 13 (nI (p + 1))) 17 13 (nI ((p + 1) + (sp_nl tx n (p + 1))))) 24 (t + 1) (nI (sp_nv tx n (p + 1)))) 17 13 (nI (((p + 1) + (sp_nl tx n (p + 1))) + 1))) 17 13 (nI ((((p + 1) + (sp_nl tx n (p + 1))) + 1) + (sp_nl tx n (((p + 1) + (sp_nl tx n (p + 1))) + 1))))) 24 (t + 2) (nI (sp_nv tx n (((p + 1) + (sp_nl tx n (p + 1))) + 1)))) a b = M a b; first | rfl | ((repeat rw [am_set_o (fun z => by omega)])), by rw [e2]; show (am_set (am_set (am_set (am_set (am_set (am_set (am_set M 24 t (nI (sp_kl (tx p)))) 17 13 (nI (p + 1))) 17 13 (nI ((p + 1) + (sp_nl tx n (p + 1))))) 24 (t + 1) (nI (sp_nv tx n (p + 1)))) 17 13 (nI (((p + 1) + (sp_nl tx n (p + 1))) + 1))) 17 13 (nI ((((p + 1) + (sp_nl tx n (p + 1))) + 1) + (sp_nl tx n (((p + 1) + (sp_nl tx n (p + 1))) + 1))))) 24 (t + 2) (nI (sp_nv tx n (((p + 1) + (sp_nl tx n (p + 1))) + 1)))) 17 13 = _; first | rfl | exact hP, fun _ => ⟨by rw [ek]; simp [am_set], by simp [am_set], by simp [am_set]⟩⟩
          · refine am_goR 1 (s2 := (54, [.ref 17, .int (nI t)], [.int (nI 0)], (am_set (am_set (am_set (am_set M 24 t (nI (sp_kl (tx p)))) 17 13 (nI (p + 1))) 17 13 (nI ((p + 1) + (sp_nl tx n (p + 1))))) 24 (t + 1) (nI (sp_nv tx n (p + 1)))))) rfl ?_
            have ek : sp_kd tx n p = sp_kl (tx p) := sp_kd_e (by omega)
            have e44 : sp_is tx n (p + 1 + sp_nl tx n (p + 1)) 44 = false := by first | exact sp_is_N (by omega) | exact sp_is_F (by assumption)
            have e1 : sp_ak tx n p = false := by unfold sp_ak; rw [ek]; simp [*]
            have e2 : sp_ae tx n p = ((p + 1) + (sp_nl tx n (p + 1))) := by unfold sp_ae; rw [ek]; simp [*]
            exact am_goZ false rfl ⟨_, rfl, by rw [e1], fun a b hf hg => by show (am_set (am_set (am_set (am_set M 24 t (nI (sp_kl (tx p)))) 17 13 (nI (p + 1))) 17 13 (nI ((p + 1) + (sp_nl tx n (p + 1))))) 24 (t + 1) (nI (sp_nv tx n (p + 1)))) a b = M a b; first | rfl | ((repeat rw [am_set_o (fun z => by omega)])), by rw [e2]; show (am_set (am_set (am_set (am_set M 24 t (nI (sp_kl (tx p)))) 17 13 (nI (p + 1))) 17 13 (nI ((p + 1) + (sp_nl tx n (p + 1))))) 24 (t + 1) (nI (sp_nv tx n (p + 1)))) 17 13 = _; first | rfl | exact hP, fun z => by rw [e1] at z; cases z⟩
        · refine am_goX (v := (-nI 1)) (M2 := (am_set (am_set (am_set (am_set M 24 t (nI (sp_kl (tx p)))) 17 13 (nI (p + 1))) 17 13 (nI ((p + 1) + (sp_nl tx n (p + 1))))) 24 (t + 1) (nI (sp_nv tx n (p + 1))))) (s2 := (48, [.ref 17, .int (nI t)], [], (am_set (am_set (am_set (am_set M 24 t (nI (sp_kl (tx p)))) 17 13 (nI (p + 1))) 17 13 (nI ((p + 1) + (sp_nl tx n (p + 1))))) 24 (t + 1) (nI (sp_nv tx n (p + 1)))))) rfl (t_nextN (M := (am_set (am_set (am_set (am_set M 24 t (nI (sp_kl (tx p)))) 17 13 (nI (p + 1))) 17 13 (nI ((p + 1) + (sp_nl tx n (p + 1))))) 24 (t + 1) (nI (sp_nv tx n (p + 1))))) hL hT hn hx (p := ((p + 1) + (sp_nl tx n (p + 1)))) rfl (by omega) (by omega)) ?_
          refine am_goR 3 (s2 := (54, [.ref 17, .int (nI t)], [.int (nI 0)], (am_set (am_set (am_set (am_set M 24 t (nI (sp_kl (tx p)))) 17 13 (nI (p + 1))) 17 13 (nI ((p + 1) + (sp_nl tx n (p + 1))))) 24 (t + 1) (nI (sp_nv tx n (p + 1)))))) rfl ?_
          have ek : sp_kd tx n p = sp_kl (tx p) := sp_kd_e (by omega)
          have e44 : sp_is tx n (p + 1 + sp_nl tx n (p + 1)) 44 = false := by first | exact sp_is_N (by omega) | exact sp_is_F (by assumption)
          have e1 : sp_ak tx n p = false := by unfold sp_ak; rw [ek]; simp [*]
          have e2 : sp_ae tx n p = ((p + 1) + (sp_nl tx n (p + 1))) := by unfold sp_ae; rw [ek]; simp [*]
          exact am_goZ false rfl ⟨_, rfl, by rw [e1], fun a b hf hg => by show (am_set (am_set (am_set (am_set M 24 t (nI (sp_kl (tx p)))) 17 13 (nI (p + 1))) 17 13 (nI ((p + 1) + (sp_nl tx n (p + 1))))) 24 (t + 1) (nI (sp_nv tx n (p + 1)))) a b = M a b; first | rfl | ((repeat rw [am_set_o (fun z => by omega)])), by rw [e2]; show (am_set (am_set (am_set (am_set M 24 t (nI (sp_kl (tx p)))) 17 13 (nI (p + 1))) 17 13 (nI ((p + 1) + (sp_nl tx n (p + 1))))) 24 (t + 1) (nI (sp_nv tx n (p + 1)))) 17 13 = _; first | rfl | exact hP, fun z => by rw [e1] at z; cases z⟩
    · refine am_goX (v := (-nI 1)) (M2 := M) (s2 := (12, [.ref 17, .int (nI t)], [.int (nI t), .ref 24], M)) rfl (t_kindOfN (c := (tx p)) (by omega) w2) ?_
      have w2a : ¬ sp_kl (tx p) < 6 := by omega
      refine am_goS (pc := 13) (ls := [.ref 17, .int (nI t)]) (r := []) (M := M) (a := 24) (n := 96) (v := (-nI 1)) (t) rfl rfl (by omega) (by decide) ?_
      refine am_goR 3 (s2 := (18, [.ref 17, .int (nI t)], [.int (nI t), .ref 24], (am_set M 24 t ((-nI 1))))) rfl ?_
      refine am_goL2 (pc := 19) (ls := [.ref 17, .int (nI t)]) (r := []) (M := (am_set M 24 t ((-nI 1)))) (a := 24) (n := 96) (t) ((-nI 1)) rfl rfl (by omega) (by decide) (am_set_s _ _ _ _) ?_
      refine am_goR 2 (s2 := (23, [.ref 17, .int (nI t)], [.int (nI 0)], (am_set M 24 t ((-nI 1))))) rfl ?_
      have ek : sp_kd tx n p = sp_kl (tx p) := sp_kd_e (by omega)
      have e1 : sp_ak tx n p = false := by unfold sp_ak; rw [ek]; simp [*]
      have e2 : sp_ae tx n p = p := by unfold sp_ae; rw [ek]; simp [*]
      exact am_goZ false rfl ⟨_, rfl, by rw [e1], fun a b hf hg => by show (am_set M 24 t ((-nI 1))) a b = M a b; first | rfl | ((repeat rw [am_set_o (fun z => by omega)])), by rw [e2]; show (am_set M 24 t ((-nI 1))) 17 13 = _; first | rfl | exact hP, fun z => by rw [e1] at z; cases z⟩
  · refine am_goX (v := (-nI 1)) (M2 := M) (s2 := (9, [.ref 17, .int (nI t)], [.int (nI t), .ref 24], M)) rfl (t_nextN (M := M) hL hT hn hx (p := p) hP (by omega) (by omega)) ?_
    refine am_goX (v := (-nI 1)) (M2 := M) (s2 := (12, [.ref 17, .int (nI t)], [.int (nI t), .ref 24], M)) rfl (t_kindOfM) ?_
    refine am_goS (pc := 13) (ls := [.ref 17, .int (nI t)]) (r := []) (M := M) (a := 24) (n := 96) (v := (-nI 1)) (t) rfl rfl (by omega) (by decide) ?_
    refine am_goR 3 (s2 := (18, [.ref 17, .int (nI t)], [.int (nI t), .ref 24], (am_set M 24 t ((-nI 1))))) rfl ?_
    refine am_goL2 (pc := 19) (ls := [.ref 17, .int (nI t)]) (r := []) (M := (am_set M 24 t ((-nI 1)))) (a := 24) (n := 96) (t) ((-nI 1)) rfl rfl (by omega) (by decide) (am_set_s _ _ _ _) ?_
    refine am_goR 2 (s2 := (23, [.ref 17, .int (nI t)], [.int (nI 0)], (am_set M 24 t ((-nI 1))))) rfl ?_
    have ek : sp_kd tx n p = 6 := sp_kd_n (by omega)
    have e1 : sp_ak tx n p = false := by unfold sp_ak; rw [ek]; simp [*]
    have e2 : sp_ae tx n p = p := by unfold sp_ae; rw [ek]; simp [*]
    exact am_goZ false rfl ⟨_, rfl, by rw [e1], fun a b hf hg => by show (am_set M 24 t ((-nI 1))) a b = M a b; first | rfl | ((repeat rw [am_set_o (fun z => by omega)])), by rw [e2]; show (am_set M 24 t ((-nI 1))) 17 13 = _; first | rfl | exact hP, fun z => by rw [e1] at z; cases z⟩

set_option maxHeartbeats 4000000 in
theorem t_statement {M : am_Mem} {tx : Nat → Nat} {n p : Nat} (hL : M 17 12 = nI n) (hT : ∀ q, q < 64 → M 21 q = nI (tx q)) (hn : n ≤ 64) (hx : ∀ q, tx q < 256) (hP : M 17 13 = nI p) (hp : p ≤ n) {i : Nat} (hi : i < 30) (hI : M 17 14 = nI i) : am_go 106 (am_ent 106 [.ref 17] M) (am_ri (fun x N => x = am_b (sp_pk tx n p) ∧ (∀ a b, ¬ (a = 17 ∧ b = 13) → ¬ (a = 22 ∧ b = i) → ¬ (a = 23 ∧ b = i) → ¬ (a = 24 ∧ 3 * i ≤ b ∧ b < 3 * i + 3) → N a b = M a b) ∧ N 17 13 = nI (sp_pe tx n p) ∧ (sp_pk tx n p = true → N 22 i = nI (tx p) ∧ N 23 i = nI p ∧ (tx p = 97 → N 24 (3 * i) = nI (sp_kd tx n (p + 1)) ∧ N 24 (3 * i + 1) = nI (sp_sx tx n p) ∧ N 24 (3 * i + 2) = nI (sp_sy tx n p)) ∧ (¬ tx p = 97 → N 24 (3 * i) = nI (sp_sx tx n p))))) := by
  have hxp := hx p
  refine am_goR 1 (s2 := (1, [.ref 17, .null], [.ref 17], M)) rfl ?_
  rcases Nat.lt_or_ge p n with w1 | w1
  · refine am_goX (v := nI (tx p)) (M2 := M) (s2 := (4, [.ref 17, .null], [], M)) rfl (t_nextS (M := M) hL hT hn hx (p := p) hP (by omega)) ?_
    have w1x := hx p
    refine am_goR 3 (s2 := (8, [.ref 17, .int (nI (tx p))], [.int (nI 106), .int (nI (tx p))], M)) rfl ?_
    refine am_bEQ ((tx p)) (106) (s1 := (31, [.ref 17, .int (nI (tx p))], [], M)) (s2 := (11, [.ref 17, .int (nI (tx p))], [], M)) rfl (by omega) (by omega) (fun c2 => ?_) (fun c2 => ?_)
    · refine am_goQ 5 (s1 := (40, [.ref 17, .int (nI (tx p))], [.int (nI (tx p)), .int ((M 17 14)), .ref 22], M)) (s2 := (40, [.ref 17, .int (nI (tx p))], [.int (nI (tx p)), .int (nI i), .ref 22], M)) rfl (by simp only [hI]) ?_
      refine am_goS (pc := 41) (ls := [.ref 17, .int (nI (tx p))]) (r := []) (M := M) (a := 22) (n := 32) (v := nI (tx p)) (i) rfl rfl (by omega) (by decide) ?_
      refine am_goQ 6 (s1 := (53, [.ref 17, .int (nI (tx p))], [.int ((M 17 13)), .int ((M 17 14)), .ref 23], (am_set M 22 i (nI (tx p))))) (s2 := (53, [.ref 17, .int (nI (tx p))], [.int (nI p), .int (nI i), .ref 23], (am_set M 22 i (nI (tx p))))) rfl (by simp only [hP, hI]) ?_
      refine am_goS (pc := 54) (ls := [.ref 17, .int (nI (tx p))]) (r := []) (M := (am_set M 22 i (nI (tx p)))) (a := 23) (n := 32) (v := nI p) (i) rfl rfl (by omega) (by decide) ?_
      refine am_goQ 5 (s1 := (61, [.ref 17, .int (nI (tx p))], [.int (((M 17 13) + nI 1)), .ref 17], (am_set (am_set M 22 i (nI (tx p))) 23 i (nI p)))) (s2 := (61, [.ref 17, .int (nI (tx p))], [.int (nI (p + 1)), .ref 17], (am_set (am_set M 22 i (nI (tx p))) 23 i (nI p)))) rfl (by simp only [hP, nI_add]) ?_
      refine am_goR 3 (s2 := (67, [.ref 17, .int (nI (tx p))], [.int (nI 97), .int (nI (tx p))], (am_set (am_set (am_set M 22 i (nI (tx p))) 23 i (nI p)) 17 13 (nI (p + 1))))) rfl ?_
      refine am_bNE ((tx p)) (97) (s1 := (86, [.ref 17, .int (nI (tx p))], [], (am_set (am_set (am_set M 22 i (nI (tx p))) 23 i (nI p)) 17 13 (nI (p + 1))))) (s2 := (70, [.ref 17, .int (nI (tx p))], [], (am_set (am_set (am_set M 22 i (nI (tx p))) 23 i (nI p)) 17 13 (nI (p + 1))))) rfl (by omega) (by omega) (fun c3 => ?_) (fun c3 => absurd c3 (by omega))
      refine am_goQ 5 (s1 := (93, [.ref 17, .int (nI (tx p))], [.int ((nI 3 * (M 17 14))), .ref 17], (am_set (am_set (am_set M 22 i (nI (tx p))) 23 i (nI p)) 17 13 (nI (p + 1))))) (s2 := (93, [.ref 17, .int (nI (tx p))], [.int (nI (3 * i)), .ref 17], (am_set (am_set (am_set M 22 i (nI (tx p))) 23 i (nI p)) 17 13 (nI (p + 1))))) rfl (by simp only [hI, pk_mul]) ?_
      by_cases w4 : sp_nl tx n (p + 1) = 0
      · refine am_goX (v := nI 0) (M2 := (am_set (am_set (am_set M 22 i (nI (tx p))) 23 i (nI p)) 17 13 (nI (p + 1)))) (s2 := (96, [.ref 17, .int (nI (tx p))], [], (am_set (am_set (am_set M 22 i (nI (tx p))) 23 i (nI p)) 17 13 (nI (p + 1))))) rfl (t_readsN (M := (am_set (am_set (am_set M 22 i (nI (tx p))) 23 i (nI p)) 17 13 (nI (p + 1)))) hL hT hn hx (p := (p + 1)) rfl (by omega) w4 (t := (3 * i))) ?_
        refine am_goR 2 (s2 := (109, [.ref 17, .int (nI (tx p))], [.int (nI 0)], (am_set (am_set (am_set M 22 i (nI (tx p))) 23 i (nI p)) 17 13 (nI (p + 1))))) rfl ?_
        have e97 : sp_is tx n p 97 = false := by first | exact sp_is_N (by omega) | exact sp_is_F (by omega)
        have eso : sp_so tx n p = true := by unfold sp_so; first | (rw [sp_is_T (show p < n by omega) (show tx p = 106 by omega)]; rfl) | (rw [sp_is_T (c := 104) (by omega) (by omega), Bool.true_or, Bool.or_true]) | (rw [sp_is_T (c := 100) (by omega) (by omega), Bool.or_true, Bool.or_true])
        have e1 : sp_pk tx n p = false := by unfold sp_pk; rw [e97, eso]; simp [*]
        have e2 : sp_pe tx n p = (p + 1) := by unfold sp_pe; rw [e97, eso]; simp [*]
        exact am_goZ false rfl ⟨_, rfl, by rw [e1], fun a b hf hg hh hj => by show (am_set (am_set (am_set M 22 i (nI (tx p))) 23 i (nI p)) 17 13 (nI (p + 1))) a b = M a b; first | rfl | ((repeat rw [am_set_o (fun z => by omega)])), by rw [e2]; show (am_set (am_set (am_set M 22 i (nI (tx p))) 23 i (nI p)) 17 13 (nI (p + 1))) 17 13 = _; first | rfl | exact hP | exact w2, fun z => by rw [e1] at z; cases z⟩
      · refine am_goX (v := nI 1) (M2 := (am_set (am_set (am_set (am_set (am_set M 22 i (nI (tx p))) 23 i (nI p)) 17 13 (nI (p + 1))) 17 13 (nI ((p + 1) + (sp_nl tx n (p + 1))))) 24 (3 * i) (nI (sp_nv tx n (p + 1))))) (s2 := (96, [.ref 17, .int (nI (tx p))], [], (am_set (am_set (am_set M 22 i (nI (tx p))) 23 i (nI p)) 17 13 (nI (p + 1))))) rfl (t_readsS (M := (am_set (am_set (am_set M 22 i (nI (tx p))) 23 i (nI p)) 17 13 (nI (p + 1)))) hL hT hn hx (p := (p + 1)) rfl (by omega) w4 (t := (3 * i)) (by omega)) ?_
        have w4a := sp_nl_b hn (p := (p + 1)) w4
        have w4b := sp_nv_lt (tx := tx) (n := n) w4
        refine am_goR 2 (s2 := (100, [.ref 17, .int (nI (tx p))], [.ref 17], (am_set (am_set (am_set (am_set (am_set M 22 i (nI (tx p))) 23 i (nI p)) 17 13 (nI (p + 1))) 17 13 (nI ((p + 1) + (sp_nl tx n (p + 1))))) 24 (3 * i) (nI (sp_nv tx n (p + 1)))))) rfl ?_
        rcases Nat.lt_or_ge ((p + 1) + (sp_nl tx n (p + 1))) n with w5 | w5
        · refine am_goX (v := nI (tx ((p + 1) + (sp_nl tx n (p + 1))))) (M2 := (am_set (am_set (am_set (am_set (am_set M 22 i (nI (tx p))) 23 i (nI p)) 17 13 (nI (p + 1))) 17 13 (nI ((p + 1) + (sp_nl tx n (p + 1))))) 24 (3 * i) (nI (sp_nv tx n (p + 1))))) (s2 := (103, [.ref 17, .int (nI (tx p))], [], (am_set (am_set (am_set (am_set (am_set M 22 i (nI (tx p))) 23 i (nI p)) 17 13 (nI (p + 1))) 17 13 (nI ((p + 1) + (sp_nl tx n (p + 1))))) 24 (3 * i) (nI (sp_nv tx n (p + 1)))))) rfl (t_nextS (M := (am_set (am_set (am_set (am_set (am_set M 22 i (nI (tx p))) 23 i (nI p)) 17 13 (nI (p + 1))) 17 13 (nI ((p + 1) + (sp_nl tx n (p + 1))))) 24 (3 * i) (nI (sp_nv tx n (p + 1))))) hL hT hn hx (p := ((p + 1) + (sp_nl tx n (p + 1)))) rfl (by omega)) ?_
          have w5x := hx ((p + 1) + (sp_nl tx n (p + 1)))
          refine am_goR 1 (s2 := (105, [.ref 17, .int (nI (tx p))], [.int (nI 59), .int (nI (tx ((p + 1) + (sp_nl tx n (p + 1)))))], (am_set (am_set (am_set (am_set (am_set M 22 i (nI (tx p))) 23 i (nI p)) 17 13 (nI (p + 1))) 17 13 (nI ((p + 1) + (sp_nl tx n (p + 1))))) 24 (3 * i) (nI (sp_nv tx n (p + 1)))))) rfl ?_
          refine am_bEQ ((tx ((p + 1) + (sp_nl tx n (p + 1))))) (59) (s1 := (110, [.ref 17, .int (nI (tx p))], [], (am_set (am_set (am_set (am_set (am_set M 22 i (nI (tx p))) 23 i (nI p)) 17 13 (nI (p + 1))) 17 13 (nI ((p + 1) + (sp_nl tx n (p + 1))))) 24 (3 * i) (nI (sp_nv tx n (p + 1)))))) (s2 := (108, [.ref 17, .int (nI (tx p))], [], (am_set (am_set (am_set (am_set (am_set M 22 i (nI (tx p))) 23 i (nI p)) 17 13 (nI (p + 1))) 17 13 (nI ((p + 1) + (sp_nl tx n (p + 1))))) 24 (3 * i) (nI (sp_nv tx n (p + 1)))))) rfl (by omega) (by omega) (fun c6 => ?_) (fun c6 => ?_)
          · refine am_goQ 5 (s1 := (117, [.ref 17, .int (nI (tx p))], [.int ((nI ((p + 1) + (sp_nl tx n (p + 1))) + nI 1)), .ref 17], (am_set (am_set (am_set (am_set (am_set M 22 i (nI (tx p))) 23 i (nI p)) 17 13 (nI (p + 1))) 17 13 (nI ((p + 1) + (sp_nl tx n (p + 1))))) 24 (3 * i) (nI (sp_nv tx n (p + 1)))))) (s2 := (117, [.ref 17, .int (nI (tx p))], [.int (nI (((p + 1) + (sp_nl tx n (p + 1))) + 1)), .ref 17], (am_set (am_set (am_set (am_set (am_set M 22 i (nI (tx p))) 23 i (nI p)) 17 13 (nI (p + 1))) 17 13 (nI ((p + 1) + (sp_nl tx n (p + 1))))) 24 (3 * i) (nI (sp_nv tx n (p + 1)))))) rfl (by simp only [nI_add]) ?_
            refine am_goR 2 (s2 := (121, [.ref 17, .int (nI (tx p))], [.int (nI 1)], (am_set (am_set (am_set (am_set (am_set (am_set M 22 i (nI (tx p))) 23 i (nI p)) 17 13 (nI (p + 1))) 17 13 (nI ((p + 1) + (sp_nl tx n (p + 1))))) 24 (3 * i) (nI (sp_nv tx n (p + 1)))) 17 13 (nI (((p + 1) + (sp_nl tx n (p + 1))) + 1))))) rfl ?_
            have e97 : sp_is tx n p 97 = false := by first | exact sp_is_N (by omega) | exact sp_is_F (by omega)
            have eso : sp_so tx n p = true := by unfold sp_so; first | (rw [sp_is_T (show p < n by omega) (show tx p = 106 by omega)]; rfl) | (rw [sp_is_T (c := 104) (by omega) (by omega), Bool.true_or, Bool.or_true]) | (rw [sp_is_T (c := 100) (by omega) (by omega), Bool.or_true, Bool.or_true])
            have e59 : sp_is tx n (p + 1 + sp_nl tx n (p + 1)) 59 = true := by first | exact sp_is_T (by omega) (by assumption)
            have e1 : sp_pk tx n p = true := by unfold sp_pk; rw [e97, eso]; simp [*]
            have e2 : sp_pe tx n p = (((p + 1) + (sp_nl tx n (p + 1))) + 1) := by unfold sp_pe; rw [e97, eso]; simp [*]
            exact am_goZ true rfl ⟨_, rfl, by rw [e1], fun a b hf hg hh hj => by show (am_set (am_set (am_set (am_set (am_set (am_set M 22 i (nI (tx p))) 23 i (nI p)) 17 13 (nI (p + 1))) 17 13 (nI ((p + 1) + (sp_nl tx n (p + 1))))) 24 (3 * i) (nI (sp_nv tx n (p + 1)))) 17 13 (nI (((p + 1) + (sp_nl tx n (p + 1))) + 1))) a b = M a b; first | rfl | ((repeat rw [am_set_o (fun z => by omega)])), by rw [e2]; show (am_set (am_set (am_set (am_set (am_set (am_set M 22 i (nI (tx p))) 23 i (nI p)) 17 13 (nI (p + 1))) 17 13 (nI ((p + 1) + (sp_nl tx n (p + 1))))) 24 (3 * i) (nI (sp_nv tx n (p + 1)))) 17 13 (nI (((p + 1) + (sp_nl tx n (p + 1))) + 1))) 17 13 = _; first | rfl | exact hP | exact w2, fun _ => ⟨by simp [am_set], by simp [am_set], fun z => by omega, fun _ => by unfold sp_sx; rw [if_neg (by omega)]; simp [am_set]⟩⟩
          · refine am_goR 1 (s2 := (109, [.ref 17, .int (nI (tx p))], [.int (nI 0)], (am_set (am_set (am_set (am_set (am_set M 22 i (nI (tx p))) 23 i (nI p)) 17 13 (nI (p + 1))) 17 13 (nI ((p + 1) + (sp_nl tx n (p + 1))))) 24 (3 * i) (nI (sp_nv tx n (p + 1)))))) rfl ?_
            have e97 : sp_is tx n p 97 = false := by first | exact sp_is_N (by omega) | exact sp_is_F (by omega)
            have eso : sp_so tx n p = true := by unfold sp_so; first | (rw [sp_is_T (show p < n by omega) (show tx p = 106 by omega)]; rfl) | (rw [sp_is_T (c := 104) (by omega) (by omega), Bool.true_or, Bool.or_true]) | (rw [sp_is_T (c := 100) (by omega) (by omega), Bool.or_true, Bool.or_true])
            have e59 : sp_is tx n (p + 1 + sp_nl tx n (p + 1)) 59 = false := by first | exact sp_is_N (by omega) | exact sp_is_F (by assumption)
            have e1 : sp_pk tx n p = false := by unfold sp_pk; rw [e97, eso]; simp [*]
            have e2 : sp_pe tx n p = ((p + 1) + (sp_nl tx n (p + 1))) := by unfold sp_pe; rw [e97, eso]; simp [*]
            exact am_goZ false rfl ⟨_, rfl, by rw [e1], fun a b hf hg hh hj => by show (am_set (am_set (am_set (am_set (am_set M 22 i (nI (tx p))) 23 i (nI p)) 17 13 (nI (p + 1))) 17 13 (nI ((p + 1) + (sp_nl tx n (p + 1))))) 24 (3 * i) (nI (sp_nv tx n (p + 1)))) a b = M a b; first | rfl | ((repeat rw [am_set_o (fun z => by omega)])), by rw [e2]; show (am_set (am_set (am_set (am_set (am_set M 22 i (nI (tx p))) 23 i (nI p)) 17 13 (nI (p + 1))) 17 13 (nI ((p + 1) + (sp_nl tx n (p + 1))))) 24 (3 * i) (nI (sp_nv tx n (p + 1)))) 17 13 = _; first | rfl | exact hP | exact w2, fun z => by rw [e1] at z; cases z⟩
        · refine am_goX (v := (-nI 1)) (M2 := (am_set (am_set (am_set (am_set (am_set M 22 i (nI (tx p))) 23 i (nI p)) 17 13 (nI (p + 1))) 17 13 (nI ((p + 1) + (sp_nl tx n (p + 1))))) 24 (3 * i) (nI (sp_nv tx n (p + 1))))) (s2 := (103, [.ref 17, .int (nI (tx p))], [], (am_set (am_set (am_set (am_set (am_set M 22 i (nI (tx p))) 23 i (nI p)) 17 13 (nI (p + 1))) 17 13 (nI ((p + 1) + (sp_nl tx n (p + 1))))) 24 (3 * i) (nI (sp_nv tx n (p + 1)))))) rfl (t_nextN (M := (am_set (am_set (am_set (am_set (am_set M 22 i (nI (tx p))) 23 i (nI p)) 17 13 (nI (p + 1))) 17 13 (nI ((p + 1) + (sp_nl tx n (p + 1))))) 24 (3 * i) (nI (sp_nv tx n (p + 1))))) hL hT hn hx (p := ((p + 1) + (sp_nl tx n (p + 1)))) rfl (by omega) (by omega)) ?_
          refine am_goR 3 (s2 := (109, [.ref 17, .int (nI (tx p))], [.int (nI 0)], (am_set (am_set (am_set (am_set (am_set M 22 i (nI (tx p))) 23 i (nI p)) 17 13 (nI (p + 1))) 17 13 (nI ((p + 1) + (sp_nl tx n (p + 1))))) 24 (3 * i) (nI (sp_nv tx n (p + 1)))))) rfl ?_
          have e97 : sp_is tx n p 97 = false := by first | exact sp_is_N (by omega) | exact sp_is_F (by omega)
          have eso : sp_so tx n p = true := by unfold sp_so; first | (rw [sp_is_T (show p < n by omega) (show tx p = 106 by omega)]; rfl) | (rw [sp_is_T (c := 104) (by omega) (by omega), Bool.true_or, Bool.or_true]) | (rw [sp_is_T (c := 100) (by omega) (by omega), Bool.or_true, Bool.or_true])
          have e59 : sp_is tx n (p + 1 + sp_nl tx n (p + 1)) 59 = false := by first | exact sp_is_N (by omega) | exact sp_is_F (by assumption)
          have e1 : sp_pk tx n p = false := by unfold sp_pk; rw [e97, eso]; simp [*]
          have e2 : sp_pe tx n p = ((p + 1) + (sp_nl tx n (p + 1))) := by unfold sp_pe; rw [e97, eso]; simp [*]
          exact am_goZ false rfl ⟨_, rfl, by rw [e1], fun a b hf hg hh hj => by show (am_set (am_set (am_set (am_set (am_set M 22 i (nI (tx p))) 23 i (nI p)) 17 13 (nI (p + 1))) 17 13 (nI ((p + 1) + (sp_nl tx n (p + 1))))) 24 (3 * i) (nI (sp_nv tx n (p + 1)))) a b = M a b; first | rfl | ((repeat rw [am_set_o (fun z => by omega)])), by rw [e2]; show (am_set (am_set (am_set (am_set (am_set M 22 i (nI (tx p))) 23 i (nI p)) 17 13 (nI (p + 1))) 17 13 (nI ((p + 1) + (sp_nl tx n (p + 1))))) 24 (3 * i) (nI (sp_nv tx n (p + 1)))) 17 13 = _; first | rfl | exact hP | exact w2, fun z => by rw [e1] at z; cases z⟩
    · refine am_goR 2 (s2 := (14, [.ref 17, .int (nI (tx p))], [.int (nI 97), .int (nI (tx p))], M)) rfl ?_
      refine am_bEQ ((tx p)) (97) (s1 := (31, [.ref 17, .int (nI (tx p))], [], M)) (s2 := (17, [.ref 17, .int (nI (tx p))], [], M)) rfl (by omega) (by omega) (fun c7 => ?_) (fun c7 => ?_)
      · refine am_goQ 5 (s1 := (40, [.ref 17, .int (nI (tx p))], [.int (nI (tx p)), .int ((M 17 14)), .ref 22], M)) (s2 := (40, [.ref 17, .int (nI (tx p))], [.int (nI (tx p)), .int (nI i), .ref 22], M)) rfl (by simp only [hI]) ?_
        refine am_goS (pc := 41) (ls := [.ref 17, .int (nI (tx p))]) (r := []) (M := M) (a := 22) (n := 32) (v := nI (tx p)) (i) rfl rfl (by omega) (by decide) ?_
        refine am_goQ 6 (s1 := (53, [.ref 17, .int (nI (tx p))], [.int ((M 17 13)), .int ((M 17 14)), .ref 23], (am_set M 22 i (nI (tx p))))) (s2 := (53, [.ref 17, .int (nI (tx p))], [.int (nI p), .int (nI i), .ref 23], (am_set M 22 i (nI (tx p))))) rfl (by simp only [hP, hI]) ?_
        refine am_goS (pc := 54) (ls := [.ref 17, .int (nI (tx p))]) (r := []) (M := (am_set M 22 i (nI (tx p)))) (a := 23) (n := 32) (v := nI p) (i) rfl rfl (by omega) (by decide) ?_
        refine am_goQ 5 (s1 := (61, [.ref 17, .int (nI (tx p))], [.int (((M 17 13) + nI 1)), .ref 17], (am_set (am_set M 22 i (nI (tx p))) 23 i (nI p)))) (s2 := (61, [.ref 17, .int (nI (tx p))], [.int (nI (p + 1)), .ref 17], (am_set (am_set M 22 i (nI (tx p))) 23 i (nI p)))) rfl (by simp only [hP, nI_add]) ?_
        refine am_goR 3 (s2 := (67, [.ref 17, .int (nI (tx p))], [.int (nI 97), .int (nI (tx p))], (am_set (am_set (am_set M 22 i (nI (tx p))) 23 i (nI p)) 17 13 (nI (p + 1))))) rfl ?_
        refine am_bNE ((tx p)) (97) (s1 := (86, [.ref 17, .int (nI (tx p))], [], (am_set (am_set (am_set M 22 i (nI (tx p))) 23 i (nI p)) 17 13 (nI (p + 1))))) (s2 := (70, [.ref 17, .int (nI (tx p))], [], (am_set (am_set (am_set M 22 i (nI (tx p))) 23 i (nI p)) 17 13 (nI (p + 1))))) rfl (by omega) (by omega) (fun c8 => absurd c8 (by omega)) (fun c8 => ?_)
        refine am_goQ 5 (s1 := (77, [.ref 17, .int (nI (tx p))], [.int ((nI 3 * (M 17 14))), .ref 17], (am_set (am_set (am_set M 22 i (nI (tx p))) 23 i (nI p)) 17 13 (nI (p + 1))))) (s2 := (77, [.ref 17, .int (nI (tx p))], [.int (nI (3 * i)), .ref 17], (am_set (am_set (am_set M 22 i (nI (tx p))) 23 i (nI p)) 17 13 (nI (p + 1))))) rfl (by simp only [hI, pk_mul]) ?_
        refine am_goC (s2 := (80, [.ref 17, .int (nI (tx p))], [], (am_set (am_set (am_set M 22 i (nI (tx p))) 23 i (nI p)) 17 13 (nI (p + 1))))) rfl (t_readsArm (M := (am_set (am_set (am_set M 22 i (nI (tx p))) 23 i (nI p)) 17 13 (nI (p + 1)))) hL hT hn hx (p := (p + 1)) rfl (by omega) (t := (3 * i)) (by omega)) (fun w9x M10 w9h => ?_)
        obtain ⟨w90, w91, w92, w93⟩ := w9h
        subst w90
        have hL1 : M10 17 12 = nI n := (w91 17 12 (by omega) (by omega)).trans hL
        have hT1 : ∀ q, q < 64 → M10 21 q = nI (tx q) := fun q hq => (w91 21 q (by omega) (by omega)).trans (hT q hq)
        have w96 := sp_ae_le (tx := tx) (n := n) (q := (p + 1)) (by omega)
        have q22 : M10 22 i = nI (tx p) := (w91 22 i (by omega) (by omega)).trans (by simp [am_set])
        have q23 : M10 23 i = nI p := (w91 23 i (by omega) (by omega)).trans (by simp [am_set])
        refine am_bB0 (sp_ak tx n (p + 1)) (s1 := (108, [.ref 17, .int (nI (tx p))], [], M10)) (s2 := (83, [.ref 17, .int (nI (tx p))], [], M10)) rfl (fun c11 => ?_) (fun c11 => ?_)
        · refine am_goR 1 (s2 := (109, [.ref 17, .int (nI (tx p))], [.int (nI 0)], M10)) rfl ?_
          have e97 : sp_is tx n p 97 = true := sp_is_T (by omega) (by omega)
          have e1 : sp_pk tx n p = false := by unfold sp_pk; rw [e97]; simp [*]
          have e2 : sp_pe tx n p = (sp_ae tx n (p + 1)) := by unfold sp_pe; rw [e97]; simp [*]
          exact am_goZ false rfl ⟨_, rfl, by rw [e1], fun a b hf hg hh hj => by show M10 a b = M a b; (repeat rw [am_set_o (fun z => by omega)]); rw [w91 a b (fun z => by omega) (fun z => by omega)]; (repeat rw [am_set_o (fun z => by omega)]), by rw [e2]; show M10 17 13 = _; first | rfl | exact hP | exact w92, fun z => by rw [e1] at z; cases z⟩
        · refine am_goR 2 (s2 := (100, [.ref 17, .int (nI (tx p))], [.ref 17], M10)) rfl ?_
          rcases Nat.lt_or_ge (sp_ae tx n (p + 1)) n with w12 | w12
          · refine am_goX (v := nI (tx (sp_ae tx n (p + 1)))) (M2 := M10) (s2 := (103, [.ref 17, .int (nI (tx p))], [], M10)) rfl (t_nextS (M := M10) hL1 hT1 hn hx (p := (sp_ae tx n (p + 1))) w92 (by omega)) ?_
            have w12x := hx (sp_ae tx n (p + 1))
            refine am_goR 1 (s2 := (105, [.ref 17, .int (nI (tx p))], [.int (nI 59), .int (nI (tx (sp_ae tx n (p + 1))))], M10)) rfl ?_
            refine am_bEQ ((tx (sp_ae tx n (p + 1)))) (59) (s1 := (110, [.ref 17, .int (nI (tx p))], [], M10)) (s2 := (108, [.ref 17, .int (nI (tx p))], [], M10)) rfl (by omega) (by omega) (fun c13 => ?_) (fun c13 => ?_)
            · refine am_goQ 5 (s1 := (117, [.ref 17, .int (nI (tx p))], [.int (((M10 17 13) + nI 1)), .ref 17], M10)) (s2 := (117, [.ref 17, .int (nI (tx p))], [.int (nI ((sp_ae tx n (p + 1)) + 1)), .ref 17], M10)) rfl (by simp only [w92, nI_add]) ?_
              refine am_goR 2 (s2 := (121, [.ref 17, .int (nI (tx p))], [.int (nI 1)], (am_set M10 17 13 (nI ((sp_ae tx n (p + 1)) + 1))))) rfl ?_
              have e97 : sp_is tx n p 97 = true := sp_is_T (by omega) (by omega)
              have e59 : sp_is tx n (sp_ae tx n (p + 1)) 59 = true := by first | exact sp_is_T (by omega) (by assumption)
              have e1 : sp_pk tx n p = true := by unfold sp_pk; rw [e97]; simp [*]
              have e2 : sp_pe tx n p = ((sp_ae tx n (p + 1)) + 1) := by unfold sp_pe; rw [e97]; simp [*]
              exact am_goZ true rfl ⟨_, rfl, by rw [e1], fun a b hf hg hh hj => by show (am_set M10 17 13 (nI ((sp_ae tx n (p + 1)) + 1))) a b = M a b; (repeat rw [am_set_o (fun z => by omega)]); rw [w91 a b (fun z => by omega) (fun z => by omega)]; (repeat rw [am_set_o (fun z => by omega)]), by rw [e2]; show (am_set M10 17 13 (nI ((sp_ae tx n (p + 1)) + 1))) 17 13 = _; first | rfl | exact hP | exact w92, fun _ => ⟨q22, q23, fun _ => ⟨(w93 (by assumption)).1, (w93 (by assumption)).2.1.trans (by unfold sp_sx; rw [if_pos (by omega)]), (w93 (by assumption)).2.2⟩, fun z => by omega⟩⟩
            · refine am_goR 1 (s2 := (109, [.ref 17, .int (nI (tx p))], [.int (nI 0)], M10)) rfl ?_
              have e97 : sp_is tx n p 97 = true := sp_is_T (by omega) (by omega)
              have e59 : sp_is tx n (sp_ae tx n (p + 1)) 59 = false := by first | exact sp_is_N (by omega) | exact sp_is_F (by assumption)
              have e1 : sp_pk tx n p = false := by unfold sp_pk; rw [e97]; simp [*]
              have e2 : sp_pe tx n p = (sp_ae tx n (p + 1)) := by unfold sp_pe; rw [e97]; simp [*]
              exact am_goZ false rfl ⟨_, rfl, by rw [e1], fun a b hf hg hh hj => by show M10 a b = M a b; (repeat rw [am_set_o (fun z => by omega)]); rw [w91 a b (fun z => by omega) (fun z => by omega)]; (repeat rw [am_set_o (fun z => by omega)]), by rw [e2]; show M10 17 13 = _; first | rfl | exact hP | exact w92, fun z => by rw [e1] at z; cases z⟩
          · refine am_goX (v := (-nI 1)) (M2 := M10) (s2 := (103, [.ref 17, .int (nI (tx p))], [], M10)) rfl (t_nextN (M := M10) hL1 hT1 hn hx (p := (sp_ae tx n (p + 1))) w92 (by omega) (by omega)) ?_
            refine am_goR 3 (s2 := (109, [.ref 17, .int (nI (tx p))], [.int (nI 0)], M10)) rfl ?_
            have e97 : sp_is tx n p 97 = true := sp_is_T (by omega) (by omega)
            have e59 : sp_is tx n (sp_ae tx n (p + 1)) 59 = false := by first | exact sp_is_N (by omega) | exact sp_is_F (by assumption)
            have e1 : sp_pk tx n p = false := by unfold sp_pk; rw [e97]; simp [*]
            have e2 : sp_pe tx n p = (sp_ae tx n (p + 1)) := by unfold sp_pe; rw [e97]; simp [*]
            exact am_goZ false rfl ⟨_, rfl, by rw [e1], fun a b hf hg hh hj => by show M10 a b = M a b; (repeat rw [am_set_o (fun z => by omega)]); rw [w91 a b (fun z => by omega) (fun z => by omega)]; (repeat rw [am_set_o (fun z => by omega)]), by rw [e2]; show M10 17 13 = _; first | rfl | exact hP | exact w92, fun z => by rw [e1] at z; cases z⟩
      · refine am_goR 2 (s2 := (20, [.ref 17, .int (nI (tx p))], [.int (nI 104), .int (nI (tx p))], M)) rfl ?_
        refine am_bEQ ((tx p)) (104) (s1 := (31, [.ref 17, .int (nI (tx p))], [], M)) (s2 := (23, [.ref 17, .int (nI (tx p))], [], M)) rfl (by omega) (by omega) (fun c14 => ?_) (fun c14 => ?_)
        · refine am_goQ 5 (s1 := (40, [.ref 17, .int (nI (tx p))], [.int (nI (tx p)), .int ((M 17 14)), .ref 22], M)) (s2 := (40, [.ref 17, .int (nI (tx p))], [.int (nI (tx p)), .int (nI i), .ref 22], M)) rfl (by simp only [hI]) ?_
          refine am_goS (pc := 41) (ls := [.ref 17, .int (nI (tx p))]) (r := []) (M := M) (a := 22) (n := 32) (v := nI (tx p)) (i) rfl rfl (by omega) (by decide) ?_
          refine am_goQ 6 (s1 := (53, [.ref 17, .int (nI (tx p))], [.int ((M 17 13)), .int ((M 17 14)), .ref 23], (am_set M 22 i (nI (tx p))))) (s2 := (53, [.ref 17, .int (nI (tx p))], [.int (nI p), .int (nI i), .ref 23], (am_set M 22 i (nI (tx p))))) rfl (by simp only [hP, hI]) ?_
          refine am_goS (pc := 54) (ls := [.ref 17, .int (nI (tx p))]) (r := []) (M := (am_set M 22 i (nI (tx p)))) (a := 23) (n := 32) (v := nI p) (i) rfl rfl (by omega) (by decide) ?_
          refine am_goQ 5 (s1 := (61, [.ref 17, .int (nI (tx p))], [.int (((M 17 13) + nI 1)), .ref 17], (am_set (am_set M 22 i (nI (tx p))) 23 i (nI p)))) (s2 := (61, [.ref 17, .int (nI (tx p))], [.int (nI (p + 1)), .ref 17], (am_set (am_set M 22 i (nI (tx p))) 23 i (nI p)))) rfl (by simp only [hP, nI_add]) ?_
          refine am_goR 3 (s2 := (67, [.ref 17, .int (nI (tx p))], [.int (nI 97), .int (nI (tx p))], (am_set (am_set (am_set M 22 i (nI (tx p))) 23 i (nI p)) 17 13 (nI (p + 1))))) rfl ?_
          refine am_bNE ((tx p)) (97) (s1 := (86, [.ref 17, .int (nI (tx p))], [], (am_set (am_set (am_set M 22 i (nI (tx p))) 23 i (nI p)) 17 13 (nI (p + 1))))) (s2 := (70, [.ref 17, .int (nI (tx p))], [], (am_set (am_set (am_set M 22 i (nI (tx p))) 23 i (nI p)) 17 13 (nI (p + 1))))) rfl (by omega) (by omega) (fun c15 => ?_) (fun c15 => absurd c15 (by omega))
          refine am_goQ 5 (s1 := (93, [.ref 17, .int (nI (tx p))], [.int ((nI 3 * (M 17 14))), .ref 17], (am_set (am_set (am_set M 22 i (nI (tx p))) 23 i (nI p)) 17 13 (nI (p + 1))))) (s2 := (93, [.ref 17, .int (nI (tx p))], [.int (nI (3 * i)), .ref 17], (am_set (am_set (am_set M 22 i (nI (tx p))) 23 i (nI p)) 17 13 (nI (p + 1))))) rfl (by simp only [hI, pk_mul]) ?_
          by_cases w16 : sp_nl tx n (p + 1) = 0
          · refine am_goX (v := nI 0) (M2 := (am_set (am_set (am_set M 22 i (nI (tx p))) 23 i (nI p)) 17 13 (nI (p + 1)))) (s2 := (96, [.ref 17, .int (nI (tx p))], [], (am_set (am_set (am_set M 22 i (nI (tx p))) 23 i (nI p)) 17 13 (nI (p + 1))))) rfl (t_readsN (M := (am_set (am_set (am_set M 22 i (nI (tx p))) 23 i (nI p)) 17 13 (nI (p + 1)))) hL hT hn hx (p := (p + 1)) rfl (by omega) w16 (t := (3 * i))) ?_
            refine am_goR 2 (s2 := (109, [.ref 17, .int (nI (tx p))], [.int (nI 0)], (am_set (am_set (am_set M 22 i (nI (tx p))) 23 i (nI p)) 17 13 (nI (p + 1))))) rfl ?_
            have e97 : sp_is tx n p 97 = false := by first | exact sp_is_N (by omega) | exact sp_is_F (by omega)
            have eso : sp_so tx n p = true := by unfold sp_so; first | (rw [sp_is_T (show p < n by omega) (show tx p = 106 by omega)]; rfl) | (rw [sp_is_T (c := 104) (by omega) (by omega), Bool.true_or, Bool.or_true]) | (rw [sp_is_T (c := 100) (by omega) (by omega), Bool.or_true, Bool.or_true])
            have e1 : sp_pk tx n p = false := by unfold sp_pk; rw [e97, eso]; simp [*]
            have e2 : sp_pe tx n p = (p + 1) := by unfold sp_pe; rw [e97, eso]; simp [*]
            exact am_goZ false rfl ⟨_, rfl, by rw [e1], fun a b hf hg hh hj => by show (am_set (am_set (am_set M 22 i (nI (tx p))) 23 i (nI p)) 17 13 (nI (p + 1))) a b = M a b; first | rfl | ((repeat rw [am_set_o (fun z => by omega)])), by rw [e2]; show (am_set (am_set (am_set M 22 i (nI (tx p))) 23 i (nI p)) 17 13 (nI (p + 1))) 17 13 = _; first | rfl | exact hP | exact w2, fun z => by rw [e1] at z; cases z⟩
          · refine am_goX (v := nI 1) (M2 := (am_set (am_set (am_set (am_set (am_set M 22 i (nI (tx p))) 23 i (nI p)) 17 13 (nI (p + 1))) 17 13 (nI ((p + 1) + (sp_nl tx n (p + 1))))) 24 (3 * i) (nI (sp_nv tx n (p + 1))))) (s2 := (96, [.ref 17, .int (nI (tx p))], [], (am_set (am_set (am_set M 22 i (nI (tx p))) 23 i (nI p)) 17 13 (nI (p + 1))))) rfl (t_readsS (M := (am_set (am_set (am_set M 22 i (nI (tx p))) 23 i (nI p)) 17 13 (nI (p + 1)))) hL hT hn hx (p := (p + 1)) rfl (by omega) w16 (t := (3 * i)) (by omega)) ?_
            have w16a := sp_nl_b hn (p := (p + 1)) w16
            have w16b := sp_nv_lt (tx := tx) (n := n) w16
            refine am_goR 2 (s2 := (100, [.ref 17, .int (nI (tx p))], [.ref 17], (am_set (am_set (am_set (am_set (am_set M 22 i (nI (tx p))) 23 i (nI p)) 17 13 (nI (p + 1))) 17 13 (nI ((p + 1) + (sp_nl tx n (p + 1))))) 24 (3 * i) (nI (sp_nv tx n (p + 1)))))) rfl ?_
            rcases Nat.lt_or_ge ((p + 1) + (sp_nl tx n (p + 1))) n with w17 | w17
            · refine am_goX (v := nI (tx ((p + 1) + (sp_nl tx n (p + 1))))) (M2 := (am_set (am_set (am_set (am_set (am_set M 22 i (nI (tx p))) 23 i (nI p)) 17 13 (nI (p + 1))) 17 13 (nI ((p + 1) + (sp_nl tx n (p + 1))))) 24 (3 * i) (nI (sp_nv tx n (p + 1))))) (s2 := (103, [.ref 17, .int (nI (tx p))], [], (am_set (am_set (am_set (am_set (am_set M 22 i (nI (tx p))) 23 i (nI p)) 17 13 (nI (p + 1))) 17 13 (nI ((p + 1) + (sp_nl tx n (p + 1))))) 24 (3 * i) (nI (sp_nv tx n (p + 1)))))) rfl (t_nextS (M := (am_set (am_set (am_set (am_set (am_set M 22 i (nI (tx p))) 23 i (nI p)) 17 13 (nI (p + 1))) 17 13 (nI ((p + 1) + (sp_nl tx n (p + 1))))) 24 (3 * i) (nI (sp_nv tx n (p + 1))))) hL hT hn hx (p := ((p + 1) + (sp_nl tx n (p + 1)))) rfl (by omega)) ?_
              have w17x := hx ((p + 1) + (sp_nl tx n (p + 1)))
              refine am_goR 1 (s2 := (105, [.ref 17, .int (nI (tx p))], [.int (nI 59), .int (nI (tx ((p + 1) + (sp_nl tx n (p + 1)))))], (am_set (am_set (am_set (am_set (am_set M 22 i (nI (tx p))) 23 i (nI p)) 17 13 (nI (p + 1))) 17 13 (nI ((p + 1) + (sp_nl tx n (p + 1))))) 24 (3 * i) (nI (sp_nv tx n (p + 1)))))) rfl ?_
              refine am_bEQ ((tx ((p + 1) + (sp_nl tx n (p + 1))))) (59) (s1 := (110, [.ref 17, .int (nI (tx p))], [], (am_set (am_set (am_set (am_set (am_set M 22 i (nI (tx p))) 23 i (nI p)) 17 13 (nI (p + 1))) 17 13 (nI ((p + 1) + (sp_nl tx n (p + 1))))) 24 (3 * i) (nI (sp_nv tx n (p + 1)))))) (s2 := (108, [.ref 17, .int (nI (tx p))], [], (am_set (am_set (am_set (am_set (am_set M 22 i (nI (tx p))) 23 i (nI p)) 17 13 (nI (p + 1))) 17 13 (nI ((p + 1) + (sp_nl tx n (p + 1))))) 24 (3 * i) (nI (sp_nv tx n (p + 1)))))) rfl (by omega) (by omega) (fun c18 => ?_) (fun c18 => ?_)
              · refine am_goQ 5 (s1 := (117, [.ref 17, .int (nI (tx p))], [.int ((nI ((p + 1) + (sp_nl tx n (p + 1))) + nI 1)), .ref 17], (am_set (am_set (am_set (am_set (am_set M 22 i (nI (tx p))) 23 i (nI p)) 17 13 (nI (p + 1))) 17 13 (nI ((p + 1) + (sp_nl tx n (p + 1))))) 24 (3 * i) (nI (sp_nv tx n (p + 1)))))) (s2 := (117, [.ref 17, .int (nI (tx p))], [.int (nI (((p + 1) + (sp_nl tx n (p + 1))) + 1)), .ref 17], (am_set (am_set (am_set (am_set (am_set M 22 i (nI (tx p))) 23 i (nI p)) 17 13 (nI (p + 1))) 17 13 (nI ((p + 1) + (sp_nl tx n (p + 1))))) 24 (3 * i) (nI (sp_nv tx n (p + 1)))))) rfl (by simp only [nI_add]) ?_
                refine am_goR 2 (s2 := (121, [.ref 17, .int (nI (tx p))], [.int (nI 1)], (am_set (am_set (am_set (am_set (am_set (am_set M 22 i (nI (tx p))) 23 i (nI p)) 17 13 (nI (p + 1))) 17 13 (nI ((p + 1) + (sp_nl tx n (p + 1))))) 24 (3 * i) (nI (sp_nv tx n (p + 1)))) 17 13 (nI (((p + 1) + (sp_nl tx n (p + 1))) + 1))))) rfl ?_
                have e97 : sp_is tx n p 97 = false := by first | exact sp_is_N (by omega) | exact sp_is_F (by omega)
                have eso : sp_so tx n p = true := by unfold sp_so; first | (rw [sp_is_T (show p < n by omega) (show tx p = 106 by omega)]; rfl) | (rw [sp_is_T (c := 104) (by omega) (by omega), Bool.true_or, Bool.or_true]) | (rw [sp_is_T (c := 100) (by omega) (by omega), Bool.or_true, Bool.or_true])
                have e59 : sp_is tx n (p + 1 + sp_nl tx n (p + 1)) 59 = true := by first | exact sp_is_T (by omega) (by assumption)
                have e1 : sp_pk tx n p = true := by unfold sp_pk; rw [e97, eso]; simp [*]
                have e2 : sp_pe tx n p = (((p + 1) + (sp_nl tx n (p + 1))) + 1) := by unfold sp_pe; rw [e97, eso]; simp [*]
                exact am_goZ true rfl ⟨_, rfl, by rw [e1], fun a b hf hg hh hj => by show (am_set (am_set (am_set (am_set (am_set (am_set M 22 i (nI (tx p))) 23 i (nI p)) 17 13 (nI (p + 1))) 17 13 (nI ((p + 1) + (sp_nl tx n (p + 1))))) 24 (3 * i) (nI (sp_nv tx n (p + 1)))) 17 13 (nI (((p + 1) + (sp_nl tx n (p + 1))) + 1))) a b = M a b; first | rfl | ((repeat rw [am_set_o (fun z => by omega)])), by rw [e2]; show (am_set (am_set (am_set (am_set (am_set (am_set M 22 i (nI (tx p))) 23 i (nI p)) 17 13 (nI (p + 1))) 17 13 (nI ((p + 1) + (sp_nl tx n (p + 1))))) 24 (3 * i) (nI (sp_nv tx n (p + 1)))) 17 13 (nI (((p + 1) + (sp_nl tx n (p + 1))) + 1))) 17 13 = _; first | rfl | exact hP | exact w2, fun _ => ⟨by simp [am_set], by simp [am_set], fun z => by omega, fun _ => by unfold sp_sx; rw [if_neg (by omega)]; simp [am_set]⟩⟩
              · refine am_goR 1 (s2 := (109, [.ref 17, .int (nI (tx p))], [.int (nI 0)], (am_set (am_set (am_set (am_set (am_set M 22 i (nI (tx p))) 23 i (nI p)) 17 13 (nI (p + 1))) 17 13 (nI ((p + 1) + (sp_nl tx n (p + 1))))) 24 (3 * i) (nI (sp_nv tx n (p + 1)))))) rfl ?_
                have e97 : sp_is tx n p 97 = false := by first | exact sp_is_N (by omega) | exact sp_is_F (by omega)
                have eso : sp_so tx n p = true := by unfold sp_so; first | (rw [sp_is_T (show p < n by omega) (show tx p = 106 by omega)]; rfl) | (rw [sp_is_T (c := 104) (by omega) (by omega), Bool.true_or, Bool.or_true]) | (rw [sp_is_T (c := 100) (by omega) (by omega), Bool.or_true, Bool.or_true])
                have e59 : sp_is tx n (p + 1 + sp_nl tx n (p + 1)) 59 = false := by first | exact sp_is_N (by omega) | exact sp_is_F (by assumption)
                have e1 : sp_pk tx n p = false := by unfold sp_pk; rw [e97, eso]; simp [*]
                have e2 : sp_pe tx n p = ((p + 1) + (sp_nl tx n (p + 1))) := by unfold sp_pe; rw [e97, eso]; simp [*]
                exact am_goZ false rfl ⟨_, rfl, by rw [e1], fun a b hf hg hh hj => by show (am_set (am_set (am_set (am_set (am_set M 22 i (nI (tx p))) 23 i (nI p)) 17 13 (nI (p + 1))) 17 13 (nI ((p + 1) + (sp_nl tx n (p + 1))))) 24 (3 * i) (nI (sp_nv tx n (p + 1)))) a b = M a b; first | rfl | ((repeat rw [am_set_o (fun z => by omega)])), by rw [e2]; show (am_set (am_set (am_set (am_set (am_set M 22 i (nI (tx p))) 23 i (nI p)) 17 13 (nI (p + 1))) 17 13 (nI ((p + 1) + (sp_nl tx n (p + 1))))) 24 (3 * i) (nI (sp_nv tx n (p + 1)))) 17 13 = _; first | rfl | exact hP | exact w2, fun z => by rw [e1] at z; cases z⟩
            · refine am_goX (v := (-nI 1)) (M2 := (am_set (am_set (am_set (am_set (am_set M 22 i (nI (tx p))) 23 i (nI p)) 17 13 (nI (p + 1))) 17 13 (nI ((p + 1) + (sp_nl tx n (p + 1))))) 24 (3 * i) (nI (sp_nv tx n (p + 1))))) (s2 := (103, [.ref 17, .int (nI (tx p))], [], (am_set (am_set (am_set (am_set (am_set M 22 i (nI (tx p))) 23 i (nI p)) 17 13 (nI (p + 1))) 17 13 (nI ((p + 1) + (sp_nl tx n (p + 1))))) 24 (3 * i) (nI (sp_nv tx n (p + 1)))))) rfl (t_nextN (M := (am_set (am_set (am_set (am_set (am_set M 22 i (nI (tx p))) 23 i (nI p)) 17 13 (nI (p + 1))) 17 13 (nI ((p + 1) + (sp_nl tx n (p + 1))))) 24 (3 * i) (nI (sp_nv tx n (p + 1))))) hL hT hn hx (p := ((p + 1) + (sp_nl tx n (p + 1)))) rfl (by omega) (by omega)) ?_
              refine am_goR 3 (s2 := (109, [.ref 17, .int (nI (tx p))], [.int (nI 0)], (am_set (am_set (am_set (am_set (am_set M 22 i (nI (tx p))) 23 i (nI p)) 17 13 (nI (p + 1))) 17 13 (nI ((p + 1) + (sp_nl tx n (p + 1))))) 24 (3 * i) (nI (sp_nv tx n (p + 1)))))) rfl ?_
              have e97 : sp_is tx n p 97 = false := by first | exact sp_is_N (by omega) | exact sp_is_F (by omega)
              have eso : sp_so tx n p = true := by unfold sp_so; first | (rw [sp_is_T (show p < n by omega) (show tx p = 106 by omega)]; rfl) | (rw [sp_is_T (c := 104) (by omega) (by omega), Bool.true_or, Bool.or_true]) | (rw [sp_is_T (c := 100) (by omega) (by omega), Bool.or_true, Bool.or_true])
              have e59 : sp_is tx n (p + 1 + sp_nl tx n (p + 1)) 59 = false := by first | exact sp_is_N (by omega) | exact sp_is_F (by assumption)
              have e1 : sp_pk tx n p = false := by unfold sp_pk; rw [e97, eso]; simp [*]
              have e2 : sp_pe tx n p = ((p + 1) + (sp_nl tx n (p + 1))) := by unfold sp_pe; rw [e97, eso]; simp [*]
              exact am_goZ false rfl ⟨_, rfl, by rw [e1], fun a b hf hg hh hj => by show (am_set (am_set (am_set (am_set (am_set M 22 i (nI (tx p))) 23 i (nI p)) 17 13 (nI (p + 1))) 17 13 (nI ((p + 1) + (sp_nl tx n (p + 1))))) 24 (3 * i) (nI (sp_nv tx n (p + 1)))) a b = M a b; first | rfl | ((repeat rw [am_set_o (fun z => by omega)])), by rw [e2]; show (am_set (am_set (am_set (am_set (am_set M 22 i (nI (tx p))) 23 i (nI p)) 17 13 (nI (p + 1))) 17 13 (nI ((p + 1) + (sp_nl tx n (p + 1))))) 24 (3 * i) (nI (sp_nv tx n (p + 1)))) 17 13 = _; first | rfl | exact hP | exact w2, fun z => by rw [e1] at z; cases z⟩
        · refine am_goR 2 (s2 := (26, [.ref 17, .int (nI (tx p))], [.int (nI 100), .int (nI (tx p))], M)) rfl ?_
          refine am_bEQ ((tx p)) (100) (s1 := (31, [.ref 17, .int (nI (tx p))], [], M)) (s2 := (29, [.ref 17, .int (nI (tx p))], [], M)) rfl (by omega) (by omega) (fun c19 => ?_) (fun c19 => ?_)
          · refine am_goQ 5 (s1 := (40, [.ref 17, .int (nI (tx p))], [.int (nI (tx p)), .int ((M 17 14)), .ref 22], M)) (s2 := (40, [.ref 17, .int (nI (tx p))], [.int (nI (tx p)), .int (nI i), .ref 22], M)) rfl (by simp only [hI]) ?_
            refine am_goS (pc := 41) (ls := [.ref 17, .int (nI (tx p))]) (r := []) (M := M) (a := 22) (n := 32) (v := nI (tx p)) (i) rfl rfl (by omega) (by decide) ?_
            refine am_goQ 6 (s1 := (53, [.ref 17, .int (nI (tx p))], [.int ((M 17 13)), .int ((M 17 14)), .ref 23], (am_set M 22 i (nI (tx p))))) (s2 := (53, [.ref 17, .int (nI (tx p))], [.int (nI p), .int (nI i), .ref 23], (am_set M 22 i (nI (tx p))))) rfl (by simp only [hP, hI]) ?_
            refine am_goS (pc := 54) (ls := [.ref 17, .int (nI (tx p))]) (r := []) (M := (am_set M 22 i (nI (tx p)))) (a := 23) (n := 32) (v := nI p) (i) rfl rfl (by omega) (by decide) ?_
            refine am_goQ 5 (s1 := (61, [.ref 17, .int (nI (tx p))], [.int (((M 17 13) + nI 1)), .ref 17], (am_set (am_set M 22 i (nI (tx p))) 23 i (nI p)))) (s2 := (61, [.ref 17, .int (nI (tx p))], [.int (nI (p + 1)), .ref 17], (am_set (am_set M 22 i (nI (tx p))) 23 i (nI p)))) rfl (by simp only [hP, nI_add]) ?_
            refine am_goR 3 (s2 := (67, [.ref 17, .int (nI (tx p))], [.int (nI 97), .int (nI (tx p))], (am_set (am_set (am_set M 22 i (nI (tx p))) 23 i (nI p)) 17 13 (nI (p + 1))))) rfl ?_
            refine am_bNE ((tx p)) (97) (s1 := (86, [.ref 17, .int (nI (tx p))], [], (am_set (am_set (am_set M 22 i (nI (tx p))) 23 i (nI p)) 17 13 (nI (p + 1))))) (s2 := (70, [.ref 17, .int (nI (tx p))], [], (am_set (am_set (am_set M 22 i (nI (tx p))) 23 i (nI p)) 17 13 (nI (p + 1))))) rfl (by omega) (by omega) (fun c20 => ?_) (fun c20 => absurd c20 (by omega))
            refine am_goQ 5 (s1 := (93, [.ref 17, .int (nI (tx p))], [.int ((nI 3 * (M 17 14))), .ref 17], (am_set (am_set (am_set M 22 i (nI (tx p))) 23 i (nI p)) 17 13 (nI (p + 1))))) (s2 := (93, [.ref 17, .int (nI (tx p))], [.int (nI (3 * i)), .ref 17], (am_set (am_set (am_set M 22 i (nI (tx p))) 23 i (nI p)) 17 13 (nI (p + 1))))) rfl (by simp only [hI, pk_mul]) ?_
            by_cases w21 : sp_nl tx n (p + 1) = 0
            · refine am_goX (v := nI 0) (M2 := (am_set (am_set (am_set M 22 i (nI (tx p))) 23 i (nI p)) 17 13 (nI (p + 1)))) (s2 := (96, [.ref 17, .int (nI (tx p))], [], (am_set (am_set (am_set M 22 i (nI (tx p))) 23 i (nI p)) 17 13 (nI (p + 1))))) rfl (t_readsN (M := (am_set (am_set (am_set M 22 i (nI (tx p))) 23 i (nI p)) 17 13 (nI (p + 1)))) hL hT hn hx (p := (p + 1)) rfl (by omega) w21 (t := (3 * i))) ?_
              refine am_goR 2 (s2 := (109, [.ref 17, .int (nI (tx p))], [.int (nI 0)], (am_set (am_set (am_set M 22 i (nI (tx p))) 23 i (nI p)) 17 13 (nI (p + 1))))) rfl ?_
              have e97 : sp_is tx n p 97 = false := by first | exact sp_is_N (by omega) | exact sp_is_F (by omega)
              have eso : sp_so tx n p = true := by unfold sp_so; first | (rw [sp_is_T (show p < n by omega) (show tx p = 106 by omega)]; rfl) | (rw [sp_is_T (c := 104) (by omega) (by omega), Bool.true_or, Bool.or_true]) | (rw [sp_is_T (c := 100) (by omega) (by omega), Bool.or_true, Bool.or_true])
              have e1 : sp_pk tx n p = false := by unfold sp_pk; rw [e97, eso]; simp [*]
              have e2 : sp_pe tx n p = (p + 1) := by unfold sp_pe; rw [e97, eso]; simp [*]
              exact am_goZ false rfl ⟨_, rfl, by rw [e1], fun a b hf hg hh hj => by show (am_set (am_set (am_set M 22 i (nI (tx p))) 23 i (nI p)) 17 13 (nI (p + 1))) a b = M a b; first | rfl | ((repeat rw [am_set_o (fun z => by omega)])), by rw [e2]; show (am_set (am_set (am_set M 22 i (nI (tx p))) 23 i (nI p)) 17 13 (nI (p + 1))) 17 13 = _; first | rfl | exact hP | exact w2, fun z => by rw [e1] at z; cases z⟩
            · refine am_goX (v := nI 1) (M2 := (am_set (am_set (am_set (am_set (am_set M 22 i (nI (tx p))) 23 i (nI p)) 17 13 (nI (p + 1))) 17 13 (nI ((p + 1) + (sp_nl tx n (p + 1))))) 24 (3 * i) (nI (sp_nv tx n (p + 1))))) (s2 := (96, [.ref 17, .int (nI (tx p))], [], (am_set (am_set (am_set M 22 i (nI (tx p))) 23 i (nI p)) 17 13 (nI (p + 1))))) rfl (t_readsS (M := (am_set (am_set (am_set M 22 i (nI (tx p))) 23 i (nI p)) 17 13 (nI (p + 1)))) hL hT hn hx (p := (p + 1)) rfl (by omega) w21 (t := (3 * i)) (by omega)) ?_
              have w21a := sp_nl_b hn (p := (p + 1)) w21
              have w21b := sp_nv_lt (tx := tx) (n := n) w21
              refine am_goR 2 (s2 := (100, [.ref 17, .int (nI (tx p))], [.ref 17], (am_set (am_set (am_set (am_set (am_set M 22 i (nI (tx p))) 23 i (nI p)) 17 13 (nI (p + 1))) 17 13 (nI ((p + 1) + (sp_nl tx n (p + 1))))) 24 (3 * i) (nI (sp_nv tx n (p + 1)))))) rfl ?_
              rcases Nat.lt_or_ge ((p + 1) + (sp_nl tx n (p + 1))) n with w22 | w22
              · refine am_goX (v := nI (tx ((p + 1) + (sp_nl tx n (p + 1))))) (M2 := (am_set (am_set (am_set (am_set (am_set M 22 i (nI (tx p))) 23 i (nI p)) 17 13 (nI (p + 1))) 17 13 (nI ((p + 1) + (sp_nl tx n (p + 1))))) 24 (3 * i) (nI (sp_nv tx n (p + 1))))) (s2 := (103, [.ref 17, .int (nI (tx p))], [], (am_set (am_set (am_set (am_set (am_set M 22 i (nI (tx p))) 23 i (nI p)) 17 13 (nI (p + 1))) 17 13 (nI ((p + 1) + (sp_nl tx n (p + 1))))) 24 (3 * i) (nI (sp_nv tx n (p + 1)))))) rfl (t_nextS (M := (am_set (am_set (am_set (am_set (am_set M 22 i (nI (tx p))) 23 i (nI p)) 17 13 (nI (p + 1))) 17 13 (nI ((p + 1) + (sp_nl tx n (p + 1))))) 24 (3 * i) (nI (sp_nv tx n (p + 1))))) hL hT hn hx (p := ((p + 1) + (sp_nl tx n (p + 1)))) rfl (by omega)) ?_
                have w22x := hx ((p + 1) + (sp_nl tx n (p + 1)))
                refine am_goR 1 (s2 := (105, [.ref 17, .int (nI (tx p))], [.int (nI 59), .int (nI (tx ((p + 1) + (sp_nl tx n (p + 1)))))], (am_set (am_set (am_set (am_set (am_set M 22 i (nI (tx p))) 23 i (nI p)) 17 13 (nI (p + 1))) 17 13 (nI ((p + 1) + (sp_nl tx n (p + 1))))) 24 (3 * i) (nI (sp_nv tx n (p + 1)))))) rfl ?_
                refine am_bEQ ((tx ((p + 1) + (sp_nl tx n (p + 1))))) (59) (s1 := (110, [.ref 17, .int (nI (tx p))], [], (am_set (am_set (am_set (am_set (am_set M 22 i (nI (tx p))) 23 i (nI p)) 17 13 (nI (p + 1))) 17 13 (nI ((p + 1) + (sp_nl tx n (p + 1))))) 24 (3 * i) (nI (sp_nv tx n (p + 1)))))) (s2 := (108, [.ref 17, .int (nI (tx p))], [], (am_set (am_set (am_set (am_set (am_set M 22 i (nI (tx p))) 23 i (nI p)) 17 13 (nI (p + 1))) 17 13 (nI ((p + 1) + (sp_nl tx n (p + 1))))) 24 (3 * i) (nI (sp_nv tx n (p + 1)))))) rfl (by omega) (by omega) (fun c23 => ?_) (fun c23 => ?_)
                · refine am_goQ 5 (s1 := (117, [.ref 17, .int (nI (tx p))], [.int ((nI ((p + 1) + (sp_nl tx n (p + 1))) + nI 1)), .ref 17], (am_set (am_set (am_set (am_set (am_set M 22 i (nI (tx p))) 23 i (nI p)) 17 13 (nI (p + 1))) 17 13 (nI ((p + 1) + (sp_nl tx n (p + 1))))) 24 (3 * i) (nI (sp_nv tx n (p + 1)))))) (s2 := (117, [.ref 17, .int (nI (tx p))], [.int (nI (((p + 1) + (sp_nl tx n (p + 1))) + 1)), .ref 17], (am_set (am_set (am_set (am_set (am_set M 22 i (nI (tx p))) 23 i (nI p)) 17 13 (nI (p + 1))) 17 13 (nI ((p + 1) + (sp_nl tx n (p + 1))))) 24 (3 * i) (nI (sp_nv tx n (p + 1)))))) rfl (by simp only [nI_add]) ?_
                  refine am_goR 2 (s2 := (121, [.ref 17, .int (nI (tx p))], [.int (nI 1)], (am_set (am_set (am_set (am_set (am_set (am_set M 22 i (nI (tx p))) 23 i (nI p)) 17 13 (nI (p + 1))) 17 13 (nI ((p + 1) + (sp_nl tx n (p + 1))))) 24 (3 * i) (nI (sp_nv tx n (p + 1)))) 17 13 (nI (((p + 1) + (sp_nl tx n (p + 1))) + 1))))) rfl ?_
                  have e97 : sp_is tx n p 97 = false := by first | exact sp_is_N (by omega) | exact sp_is_F (by omega)
                  have eso : sp_so tx n p = true := by unfold sp_so; first | (rw [sp_is_T (show p < n by omega) (show tx p = 106 by omega)]; rfl) | (rw [sp_is_T (c := 104) (by omega) (by omega), Bool.true_or, Bool.or_true]) | (rw [sp_is_T (c := 100) (by omega) (by omega), Bool.or_true, Bool.or_true])
                  have e59 : sp_is tx n (p + 1 + sp_nl tx n (p + 1)) 59 = true := by first | exact sp_is_T (by omega) (by assumption)
                  have e1 : sp_pk tx n p = true := by unfold sp_pk; rw [e97, eso]; simp [*]
                  have e2 : sp_pe tx n p = (((p + 1) + (sp_nl tx n (p + 1))) + 1) := by unfold sp_pe; rw [e97, eso]; simp [*]
                  exact am_goZ true rfl ⟨_, rfl, by rw [e1], fun a b hf hg hh hj => by show (am_set (am_set (am_set (am_set (am_set (am_set M 22 i (nI (tx p))) 23 i (nI p)) 17 13 (nI (p + 1))) 17 13 (nI ((p + 1) + (sp_nl tx n (p + 1))))) 24 (3 * i) (nI (sp_nv tx n (p + 1)))) 17 13 (nI (((p + 1) + (sp_nl tx n (p + 1))) + 1))) a b = M a b; first | rfl | ((repeat rw [am_set_o (fun z => by omega)])), by rw [e2]; show (am_set (am_set (am_set (am_set (am_set (am_set M 22 i (nI (tx p))) 23 i (nI p)) 17 13 (nI (p + 1))) 17 13 (nI ((p + 1) + (sp_nl tx n (p + 1))))) 24 (3 * i) (nI (sp_nv tx n (p + 1)))) 17 13 (nI (((p + 1) + (sp_nl tx n (p + 1))) + 1))) 17 13 = _; first | rfl | exact hP | exact w2, fun _ => ⟨by simp [am_set], by simp [am_set], fun z => by omega, fun _ => by unfold sp_sx; rw [if_neg (by omega)]; simp [am_set]⟩⟩
                · refine am_goR 1 (s2 := (109, [.ref 17, .int (nI (tx p))], [.int (nI 0)], (am_set (am_set (am_set (am_set (am_set M 22 i (nI (tx p))) 23 i (nI p)) 17 13 (nI (p + 1))) 17 13 (nI ((p + 1) + (sp_nl tx n (p + 1))))) 24 (3 * i) (nI (sp_nv tx n (p + 1)))))) rfl ?_
                  have e97 : sp_is tx n p 97 = false := by first | exact sp_is_N (by omega) | exact sp_is_F (by omega)
                  have eso : sp_so tx n p = true := by unfold sp_so; first | (rw [sp_is_T (show p < n by omega) (show tx p = 106 by omega)]; rfl) | (rw [sp_is_T (c := 104) (by omega) (by omega), Bool.true_or, Bool.or_true]) | (rw [sp_is_T (c := 100) (by omega) (by omega), Bool.or_true, Bool.or_true])
                  have e59 : sp_is tx n (p + 1 + sp_nl tx n (p + 1)) 59 = false := by first | exact sp_is_N (by omega) | exact sp_is_F (by assumption)
                  have e1 : sp_pk tx n p = false := by unfold sp_pk; rw [e97, eso]; simp [*]
                  have e2 : sp_pe tx n p = ((p + 1) + (sp_nl tx n (p + 1))) := by unfold sp_pe; rw [e97, eso]; simp [*]
                  exact am_goZ false rfl ⟨_, rfl, by rw [e1], fun a b hf hg hh hj => by show (am_set (am_set (am_set (am_set (am_set M 22 i (nI (tx p))) 23 i (nI p)) 17 13 (nI (p + 1))) 17 13 (nI ((p + 1) + (sp_nl tx n (p + 1))))) 24 (3 * i) (nI (sp_nv tx n (p + 1)))) a b = M a b; first | rfl | ((repeat rw [am_set_o (fun z => by omega)])), by rw [e2]; show (am_set (am_set (am_set (am_set (am_set M 22 i (nI (tx p))) 23 i (nI p)) 17 13 (nI (p + 1))) 17 13 (nI ((p + 1) + (sp_nl tx n (p + 1))))) 24 (3 * i) (nI (sp_nv tx n (p + 1)))) 17 13 = _; first | rfl | exact hP | exact w2, fun z => by rw [e1] at z; cases z⟩
              · refine am_goX (v := (-nI 1)) (M2 := (am_set (am_set (am_set (am_set (am_set M 22 i (nI (tx p))) 23 i (nI p)) 17 13 (nI (p + 1))) 17 13 (nI ((p + 1) + (sp_nl tx n (p + 1))))) 24 (3 * i) (nI (sp_nv tx n (p + 1))))) (s2 := (103, [.ref 17, .int (nI (tx p))], [], (am_set (am_set (am_set (am_set (am_set M 22 i (nI (tx p))) 23 i (nI p)) 17 13 (nI (p + 1))) 17 13 (nI ((p + 1) + (sp_nl tx n (p + 1))))) 24 (3 * i) (nI (sp_nv tx n (p + 1)))))) rfl (t_nextN (M := (am_set (am_set (am_set (am_set (am_set M 22 i (nI (tx p))) 23 i (nI p)) 17 13 (nI (p + 1))) 17 13 (nI ((p + 1) + (sp_nl tx n (p + 1))))) 24 (3 * i) (nI (sp_nv tx n (p + 1))))) hL hT hn hx (p := ((p + 1) + (sp_nl tx n (p + 1)))) rfl (by omega) (by omega)) ?_
                refine am_goR 3 (s2 := (109, [.ref 17, .int (nI (tx p))], [.int (nI 0)], (am_set (am_set (am_set (am_set (am_set M 22 i (nI (tx p))) 23 i (nI p)) 17 13 (nI (p + 1))) 17 13 (nI ((p + 1) + (sp_nl tx n (p + 1))))) 24 (3 * i) (nI (sp_nv tx n (p + 1)))))) rfl ?_
                have e97 : sp_is tx n p 97 = false := by first | exact sp_is_N (by omega) | exact sp_is_F (by omega)
                have eso : sp_so tx n p = true := by unfold sp_so; first | (rw [sp_is_T (show p < n by omega) (show tx p = 106 by omega)]; rfl) | (rw [sp_is_T (c := 104) (by omega) (by omega), Bool.true_or, Bool.or_true]) | (rw [sp_is_T (c := 100) (by omega) (by omega), Bool.or_true, Bool.or_true])
                have e59 : sp_is tx n (p + 1 + sp_nl tx n (p + 1)) 59 = false := by first | exact sp_is_N (by omega) | exact sp_is_F (by assumption)
                have e1 : sp_pk tx n p = false := by unfold sp_pk; rw [e97, eso]; simp [*]
                have e2 : sp_pe tx n p = ((p + 1) + (sp_nl tx n (p + 1))) := by unfold sp_pe; rw [e97, eso]; simp [*]
                exact am_goZ false rfl ⟨_, rfl, by rw [e1], fun a b hf hg hh hj => by show (am_set (am_set (am_set (am_set (am_set M 22 i (nI (tx p))) 23 i (nI p)) 17 13 (nI (p + 1))) 17 13 (nI ((p + 1) + (sp_nl tx n (p + 1))))) 24 (3 * i) (nI (sp_nv tx n (p + 1)))) a b = M a b; first | rfl | ((repeat rw [am_set_o (fun z => by omega)])), by rw [e2]; show (am_set (am_set (am_set (am_set (am_set M 22 i (nI (tx p))) 23 i (nI p)) 17 13 (nI (p + 1))) 17 13 (nI ((p + 1) + (sp_nl tx n (p + 1))))) 24 (3 * i) (nI (sp_nv tx n (p + 1)))) 17 13 = _; first | rfl | exact hP | exact w2, fun z => by rw [e1] at z; cases z⟩
          · refine am_goR 1 (s2 := (30, [.ref 17, .int (nI (tx p))], [.int (nI 0)], M)) rfl ?_
            have e97 : sp_is tx n p 97 = false := by first | exact sp_is_N (by omega) | exact sp_is_F (by omega)
            have eso : sp_so tx n p = false := by unfold sp_so; first | (rw [sp_is_N (by omega), sp_is_N (by omega), sp_is_N (by omega)]; rfl) | (rw [sp_is_F (by omega), sp_is_F (by omega), sp_is_F (by omega)]; rfl)
            have e1 : sp_pk tx n p = false := by unfold sp_pk; rw [e97, eso]; simp [*]
            have e2 : sp_pe tx n p = p := by unfold sp_pe; rw [e97, eso]; simp [*]
            exact am_goZ false rfl ⟨_, rfl, by rw [e1], fun a b hf hg hh hj => by show M a b = M a b; first | rfl | ((repeat rw [am_set_o (fun z => by omega)])), by rw [e2]; show M 17 13 = _; first | rfl | exact hP | exact w2, fun z => by rw [e1] at z; cases z⟩
  · refine am_goX (v := (-nI 1)) (M2 := M) (s2 := (4, [.ref 17, .null], [], M)) rfl (t_nextN (M := M) hL hT hn hx (p := p) hP (by omega) (by omega)) ?_
    refine am_goR 14 (s2 := (30, [.ref 17, .int ((-nI 1))], [.int (nI 0)], M)) rfl ?_
    have e97 : sp_is tx n p 97 = false := by first | exact sp_is_N (by omega) | exact sp_is_F (by omega)
    have eso : sp_so tx n p = false := by unfold sp_so; first | (rw [sp_is_N (by omega), sp_is_N (by omega), sp_is_N (by omega)]; rfl) | (rw [sp_is_F (by omega), sp_is_F (by omega), sp_is_F (by omega)]; rfl)
    have e1 : sp_pk tx n p = false := by unfold sp_pk; rw [e97, eso]; simp [*]
    have e2 : sp_pe tx n p = p := by unfold sp_pe; rw [e97, eso]; simp [*]
    exact am_goZ false rfl ⟨_, rfl, by rw [e1], fun a b hf hg hh hj => by show M a b = M a b; first | rfl | ((repeat rw [am_set_o (fun z => by omega)])), by rw [e2]; show M 17 13 = _; first | rfl | exact hP | exact w2, fun z => by rw [e1] at z; cases z⟩

