/-! walks: stands told (class), refusals, bounds, how many bits -/
theorem am_bN (b : Bool) : am_b b = nI (if b = true then 1 else 0) := by cases b <;> rfl

set_option maxHeartbeats 4000000 in
theorem s_refuse_1 {M : am_Mem} : am_go 85 (am_ent 85 [.ref 0, .int (-nI 1)] M) (am_is (-nI 1) (am_set M 16 1 (M 16 1 + nI 1))) := by
  refine am_goQ 4 (s1 := (4, [.ref 0, .int ((-nI 1)), .int ((-(-nI 1)))], [.int ((-(-nI 1)))], M)) (s2 := (4, [.ref 0, .int ((-nI 1)), .int (nI 1)], [.int (nI 1)], M)) rfl (by simp only [Int32.neg_neg]) ?_
  refine am_goR 10 (s2 := (22, [.ref 0, .int ((-nI 1)), .int (nI 1)], [.int (nI 1), .ref 16, .int (nI 1), .ref 16], M)) rfl ?_
  refine am_goL2 (pc := 23) (ls := [.ref 0, .int ((-nI 1)), .int (nI 1)]) (r := [.int (nI 1), .ref 16]) (M := M) (a := 16) (n := 7) (1) ((M 16 1)) rfl rfl (by omega) (by decide) (rfl) ?_
  refine am_goR 2 (s2 := (25, [.ref 0, .int ((-nI 1)), .int (nI 1)], [.int (((M 16 1) + nI 1)), .int (nI 1), .ref 16], M)) rfl ?_
  refine am_goS (pc := 26) (ls := [.ref 0, .int ((-nI 1)), .int (nI 1)]) (r := []) (M := M) (a := 16) (n := 7) (v := ((M 16 1) + nI 1)) (1) rfl rfl (by omega) (by decide) ?_
  refine am_goR 1 (s2 := (27, [.ref 0, .int ((-nI 1)), .int (nI 1)], [.int ((-nI 1))], (am_set M 16 1 (((M 16 1) + nI 1))))) rfl ?_
  exact am_ends ((-nI 1)) _ rfl rfl rfl

set_option maxHeartbeats 4000000 in
theorem t_no_1 {M : am_Mem} : am_go 90 (am_ent 90 [.ref 17, .int (-nI 1)] M) (am_is (-nI 1) (am_set M 18 1 (M 18 1 + nI 1))) := by
  refine am_goQ 5 (s1 := (7, [.ref 17, .int ((-nI 1))], [.int ((-(-nI 1))), .ref 18, .int ((-(-nI 1))), .ref 18], M)) (s2 := (7, [.ref 17, .int ((-nI 1))], [.int (nI 1), .ref 18, .int (nI 1), .ref 18], M)) rfl (by simp only [Int32.neg_neg]) ?_
  refine am_goL2 (pc := 8) (ls := [.ref 17, .int ((-nI 1))]) (r := [.int (nI 1), .ref 18]) (M := M) (a := 18) (n := 7) (1) ((M 18 1)) rfl rfl (by omega) (by decide) (rfl) ?_
  refine am_goR 2 (s2 := (10, [.ref 17, .int ((-nI 1))], [.int (((M 18 1) + nI 1)), .int (nI 1), .ref 18], M)) rfl ?_
  refine am_goS (pc := 11) (ls := [.ref 17, .int ((-nI 1))]) (r := []) (M := M) (a := 18) (n := 7) (v := ((M 18 1) + nI 1)) (1) rfl rfl (by omega) (by decide) ?_
  refine am_goR 1 (s2 := (12, [.ref 17, .int ((-nI 1))], [.int ((-nI 1))], (am_set M 18 1 (((M 18 1) + nI 1))))) rfl ?_
  exact am_ends ((-nI 1)) _ rfl rfl rfl

set_option maxHeartbeats 4000000 in
theorem s_refuse_2 {M : am_Mem} : am_go 85 (am_ent 85 [.ref 0, .int (-nI 2)] M) (am_is (-nI 2) (am_set M 16 2 (M 16 2 + nI 1))) := by
  refine am_goQ 4 (s1 := (4, [.ref 0, .int ((-nI 2)), .int ((-(-nI 2)))], [.int ((-(-nI 2)))], M)) (s2 := (4, [.ref 0, .int ((-nI 2)), .int (nI 2)], [.int (nI 2)], M)) rfl (by simp only [Int32.neg_neg]) ?_
  refine am_goR 10 (s2 := (22, [.ref 0, .int ((-nI 2)), .int (nI 2)], [.int (nI 2), .ref 16, .int (nI 2), .ref 16], M)) rfl ?_
  refine am_goL2 (pc := 23) (ls := [.ref 0, .int ((-nI 2)), .int (nI 2)]) (r := [.int (nI 2), .ref 16]) (M := M) (a := 16) (n := 7) (2) ((M 16 2)) rfl rfl (by omega) (by decide) (rfl) ?_
  refine am_goR 2 (s2 := (25, [.ref 0, .int ((-nI 2)), .int (nI 2)], [.int (((M 16 2) + nI 1)), .int (nI 2), .ref 16], M)) rfl ?_
  refine am_goS (pc := 26) (ls := [.ref 0, .int ((-nI 2)), .int (nI 2)]) (r := []) (M := M) (a := 16) (n := 7) (v := ((M 16 2) + nI 1)) (2) rfl rfl (by omega) (by decide) ?_
  refine am_goR 1 (s2 := (27, [.ref 0, .int ((-nI 2)), .int (nI 2)], [.int ((-nI 2))], (am_set M 16 2 (((M 16 2) + nI 1))))) rfl ?_
  exact am_ends ((-nI 2)) _ rfl rfl rfl

set_option maxHeartbeats 4000000 in
theorem t_no_2 {M : am_Mem} : am_go 90 (am_ent 90 [.ref 17, .int (-nI 2)] M) (am_is (-nI 2) (am_set M 18 2 (M 18 2 + nI 1))) := by
  refine am_goQ 5 (s1 := (7, [.ref 17, .int ((-nI 2))], [.int ((-(-nI 2))), .ref 18, .int ((-(-nI 2))), .ref 18], M)) (s2 := (7, [.ref 17, .int ((-nI 2))], [.int (nI 2), .ref 18, .int (nI 2), .ref 18], M)) rfl (by simp only [Int32.neg_neg]) ?_
  refine am_goL2 (pc := 8) (ls := [.ref 17, .int ((-nI 2))]) (r := [.int (nI 2), .ref 18]) (M := M) (a := 18) (n := 7) (2) ((M 18 2)) rfl rfl (by omega) (by decide) (rfl) ?_
  refine am_goR 2 (s2 := (10, [.ref 17, .int ((-nI 2))], [.int (((M 18 2) + nI 1)), .int (nI 2), .ref 18], M)) rfl ?_
  refine am_goS (pc := 11) (ls := [.ref 17, .int ((-nI 2))]) (r := []) (M := M) (a := 18) (n := 7) (v := ((M 18 2) + nI 1)) (2) rfl rfl (by omega) (by decide) ?_
  refine am_goR 1 (s2 := (12, [.ref 17, .int ((-nI 2))], [.int ((-nI 2))], (am_set M 18 2 (((M 18 2) + nI 1))))) rfl ?_
  exact am_ends ((-nI 2)) _ rfl rfl rfl

set_option maxHeartbeats 4000000 in
theorem s_refuse_3 {M : am_Mem} : am_go 85 (am_ent 85 [.ref 0, .int (-nI 3)] M) (am_is (-nI 3) (am_set M 16 3 (M 16 3 + nI 1))) := by
  refine am_goQ 4 (s1 := (4, [.ref 0, .int ((-nI 3)), .int ((-(-nI 3)))], [.int ((-(-nI 3)))], M)) (s2 := (4, [.ref 0, .int ((-nI 3)), .int (nI 3)], [.int (nI 3)], M)) rfl (by simp only [Int32.neg_neg]) ?_
  refine am_goR 10 (s2 := (22, [.ref 0, .int ((-nI 3)), .int (nI 3)], [.int (nI 3), .ref 16, .int (nI 3), .ref 16], M)) rfl ?_
  refine am_goL2 (pc := 23) (ls := [.ref 0, .int ((-nI 3)), .int (nI 3)]) (r := [.int (nI 3), .ref 16]) (M := M) (a := 16) (n := 7) (3) ((M 16 3)) rfl rfl (by omega) (by decide) (rfl) ?_
  refine am_goR 2 (s2 := (25, [.ref 0, .int ((-nI 3)), .int (nI 3)], [.int (((M 16 3) + nI 1)), .int (nI 3), .ref 16], M)) rfl ?_
  refine am_goS (pc := 26) (ls := [.ref 0, .int ((-nI 3)), .int (nI 3)]) (r := []) (M := M) (a := 16) (n := 7) (v := ((M 16 3) + nI 1)) (3) rfl rfl (by omega) (by decide) ?_
  refine am_goR 1 (s2 := (27, [.ref 0, .int ((-nI 3)), .int (nI 3)], [.int ((-nI 3))], (am_set M 16 3 (((M 16 3) + nI 1))))) rfl ?_
  exact am_ends ((-nI 3)) _ rfl rfl rfl

set_option maxHeartbeats 4000000 in
theorem t_no_3 {M : am_Mem} : am_go 90 (am_ent 90 [.ref 17, .int (-nI 3)] M) (am_is (-nI 3) (am_set M 18 3 (M 18 3 + nI 1))) := by
  refine am_goQ 5 (s1 := (7, [.ref 17, .int ((-nI 3))], [.int ((-(-nI 3))), .ref 18, .int ((-(-nI 3))), .ref 18], M)) (s2 := (7, [.ref 17, .int ((-nI 3))], [.int (nI 3), .ref 18, .int (nI 3), .ref 18], M)) rfl (by simp only [Int32.neg_neg]) ?_
  refine am_goL2 (pc := 8) (ls := [.ref 17, .int ((-nI 3))]) (r := [.int (nI 3), .ref 18]) (M := M) (a := 18) (n := 7) (3) ((M 18 3)) rfl rfl (by omega) (by decide) (rfl) ?_
  refine am_goR 2 (s2 := (10, [.ref 17, .int ((-nI 3))], [.int (((M 18 3) + nI 1)), .int (nI 3), .ref 18], M)) rfl ?_
  refine am_goS (pc := 11) (ls := [.ref 17, .int ((-nI 3))]) (r := []) (M := M) (a := 18) (n := 7) (v := ((M 18 3) + nI 1)) (3) rfl rfl (by omega) (by decide) ?_
  refine am_goR 1 (s2 := (12, [.ref 17, .int ((-nI 3))], [.int ((-nI 3))], (am_set M 18 3 (((M 18 3) + nI 1))))) rfl ?_
  exact am_ends ((-nI 3)) _ rfl rfl rfl

set_option maxHeartbeats 4000000 in
theorem s_refuse_4 {M : am_Mem} : am_go 85 (am_ent 85 [.ref 0, .int (-nI 4)] M) (am_is (-nI 4) (am_set M 16 4 (M 16 4 + nI 1))) := by
  refine am_goQ 4 (s1 := (4, [.ref 0, .int ((-nI 4)), .int ((-(-nI 4)))], [.int ((-(-nI 4)))], M)) (s2 := (4, [.ref 0, .int ((-nI 4)), .int (nI 4)], [.int (nI 4)], M)) rfl (by simp only [Int32.neg_neg]) ?_
  refine am_goR 10 (s2 := (22, [.ref 0, .int ((-nI 4)), .int (nI 4)], [.int (nI 4), .ref 16, .int (nI 4), .ref 16], M)) rfl ?_
  refine am_goL2 (pc := 23) (ls := [.ref 0, .int ((-nI 4)), .int (nI 4)]) (r := [.int (nI 4), .ref 16]) (M := M) (a := 16) (n := 7) (4) ((M 16 4)) rfl rfl (by omega) (by decide) (rfl) ?_
  refine am_goR 2 (s2 := (25, [.ref 0, .int ((-nI 4)), .int (nI 4)], [.int (((M 16 4) + nI 1)), .int (nI 4), .ref 16], M)) rfl ?_
  refine am_goS (pc := 26) (ls := [.ref 0, .int ((-nI 4)), .int (nI 4)]) (r := []) (M := M) (a := 16) (n := 7) (v := ((M 16 4) + nI 1)) (4) rfl rfl (by omega) (by decide) ?_
  refine am_goR 1 (s2 := (27, [.ref 0, .int ((-nI 4)), .int (nI 4)], [.int ((-nI 4))], (am_set M 16 4 (((M 16 4) + nI 1))))) rfl ?_
  exact am_ends ((-nI 4)) _ rfl rfl rfl

set_option maxHeartbeats 4000000 in
theorem t_no_4 {M : am_Mem} : am_go 90 (am_ent 90 [.ref 17, .int (-nI 4)] M) (am_is (-nI 4) (am_set M 18 4 (M 18 4 + nI 1))) := by
  refine am_goQ 5 (s1 := (7, [.ref 17, .int ((-nI 4))], [.int ((-(-nI 4))), .ref 18, .int ((-(-nI 4))), .ref 18], M)) (s2 := (7, [.ref 17, .int ((-nI 4))], [.int (nI 4), .ref 18, .int (nI 4), .ref 18], M)) rfl (by simp only [Int32.neg_neg]) ?_
  refine am_goL2 (pc := 8) (ls := [.ref 17, .int ((-nI 4))]) (r := [.int (nI 4), .ref 18]) (M := M) (a := 18) (n := 7) (4) ((M 18 4)) rfl rfl (by omega) (by decide) (rfl) ?_
  refine am_goR 2 (s2 := (10, [.ref 17, .int ((-nI 4))], [.int (((M 18 4) + nI 1)), .int (nI 4), .ref 18], M)) rfl ?_
  refine am_goS (pc := 11) (ls := [.ref 17, .int ((-nI 4))]) (r := []) (M := M) (a := 18) (n := 7) (v := ((M 18 4) + nI 1)) (4) rfl rfl (by omega) (by decide) ?_
  refine am_goR 1 (s2 := (12, [.ref 17, .int ((-nI 4))], [.int ((-nI 4))], (am_set M 18 4 (((M 18 4) + nI 1))))) rfl ?_
  exact am_ends ((-nI 4)) _ rfl rfl rfl

set_option maxHeartbeats 4000000 in
theorem s_refuse_6 {M : am_Mem} : am_go 85 (am_ent 85 [.ref 0, .int (-nI 6)] M) (am_is (-nI 6) (am_set M 16 6 (M 16 6 + nI 1))) := by
  refine am_goQ 4 (s1 := (4, [.ref 0, .int ((-nI 6)), .int ((-(-nI 6)))], [.int ((-(-nI 6)))], M)) (s2 := (4, [.ref 0, .int ((-nI 6)), .int (nI 6)], [.int (nI 6)], M)) rfl (by simp only [Int32.neg_neg]) ?_
  refine am_goR 10 (s2 := (22, [.ref 0, .int ((-nI 6)), .int (nI 6)], [.int (nI 6), .ref 16, .int (nI 6), .ref 16], M)) rfl ?_
  refine am_goL2 (pc := 23) (ls := [.ref 0, .int ((-nI 6)), .int (nI 6)]) (r := [.int (nI 6), .ref 16]) (M := M) (a := 16) (n := 7) (6) ((M 16 6)) rfl rfl (by omega) (by decide) (rfl) ?_
  refine am_goR 2 (s2 := (25, [.ref 0, .int ((-nI 6)), .int (nI 6)], [.int (((M 16 6) + nI 1)), .int (nI 6), .ref 16], M)) rfl ?_
  refine am_goS (pc := 26) (ls := [.ref 0, .int ((-nI 6)), .int (nI 6)]) (r := []) (M := M) (a := 16) (n := 7) (v := ((M 16 6) + nI 1)) (6) rfl rfl (by omega) (by decide) ?_
  refine am_goR 1 (s2 := (27, [.ref 0, .int ((-nI 6)), .int (nI 6)], [.int ((-nI 6))], (am_set M 16 6 (((M 16 6) + nI 1))))) rfl ?_
  exact am_ends ((-nI 6)) _ rfl rfl rfl

set_option maxHeartbeats 4000000 in
theorem t_no_6 {M : am_Mem} : am_go 90 (am_ent 90 [.ref 17, .int (-nI 6)] M) (am_is (-nI 6) (am_set M 18 6 (M 18 6 + nI 1))) := by
  refine am_goQ 5 (s1 := (7, [.ref 17, .int ((-nI 6))], [.int ((-(-nI 6))), .ref 18, .int ((-(-nI 6))), .ref 18], M)) (s2 := (7, [.ref 17, .int ((-nI 6))], [.int (nI 6), .ref 18, .int (nI 6), .ref 18], M)) rfl (by simp only [Int32.neg_neg]) ?_
  refine am_goL2 (pc := 8) (ls := [.ref 17, .int ((-nI 6))]) (r := [.int (nI 6), .ref 18]) (M := M) (a := 18) (n := 7) (6) ((M 18 6)) rfl rfl (by omega) (by decide) (rfl) ?_
  refine am_goR 2 (s2 := (10, [.ref 17, .int ((-nI 6))], [.int (((M 18 6) + nI 1)), .int (nI 6), .ref 18], M)) rfl ?_
  refine am_goS (pc := 11) (ls := [.ref 17, .int ((-nI 6))]) (r := []) (M := M) (a := 18) (n := 7) (v := ((M 18 6) + nI 1)) (6) rfl rfl (by omega) (by decide) ?_
  refine am_goR 1 (s2 := (12, [.ref 17, .int ((-nI 6))], [.int ((-nI 6))], (am_set M 18 6 (((M 18 6) + nI 1))))) rfl ?_
  exact am_ends ((-nI 6)) _ rfl rfl rfl

theorem t_bound_lo {M : am_Mem} {x : Int32} {lo hi : Nat} (h : x < nI lo) : am_go 92 (am_ent 92 [.int x, .int (nI lo), .int (nI hi)] M) (am_is (-nI 4) M) := by
  refine am_goR 2 (s2 := (2, [.int x, .int (nI lo), .int (nI hi)], [.int (nI lo), .int x], M)) rfl ?_
  refine am_goB (nI lo ≤ x) (s1 := (10, [.int x, .int (nI lo), .int (nI hi)], [], M)) (s2 := (5, [.int x, .int (nI lo), .int (nI hi)], [], M)) rfl (fun c => absurd h (k2_nlt c)) (fun c => ?_)
  refine am_goR 2 (s2 := (21, [.int x, .int (nI lo), .int (nI hi)], [.int (-nI 4)], M)) rfl ?_
  exact am_ends (-nI 4) _ rfl rfl rfl
theorem t_bound_hi {M : am_Mem} {x : Int32} {lo hi : Nat} (h : ¬ x < nI lo) (h2 : nI hi < x) : am_go 92 (am_ent 92 [.int x, .int (nI lo), .int (nI hi)] M) (am_is (-nI 6) M) := by
  refine am_goR 2 (s2 := (2, [.int x, .int (nI lo), .int (nI hi)], [.int (nI lo), .int x], M)) rfl ?_
  refine am_goB (nI lo ≤ x) (s1 := (10, [.int x, .int (nI lo), .int (nI hi)], [], M)) (s2 := (5, [.int x, .int (nI lo), .int (nI hi)], [], M)) rfl (fun c => ?_) (fun c => absurd (k2_le h) c)
  refine am_goR 2 (s2 := (12, [.int x, .int (nI lo), .int (nI hi)], [.int (nI hi), .int x], M)) rfl ?_
  refine am_goB (x ≤ nI hi) (s1 := (20, [.int x, .int (nI lo), .int (nI hi)], [], M)) (s2 := (15, [.int x, .int (nI lo), .int (nI hi)], [], M)) rfl (fun c => absurd h2 (k2_nlt c)) (fun c => ?_)
  refine am_goR 2 (s2 := (21, [.int x, .int (nI lo), .int (nI hi)], [.int (-nI 6)], M)) rfl ?_
  exact am_ends (-nI 6) _ rfl rfl rfl
theorem t_bound_ok {M : am_Mem} {x : Int32} {lo hi : Nat} (h : ¬ x < nI lo) (h2 : ¬ nI hi < x) : am_go 92 (am_ent 92 [.int x, .int (nI lo), .int (nI hi)] M) (am_is (nI 0) M) := by
  refine am_goR 2 (s2 := (2, [.int x, .int (nI lo), .int (nI hi)], [.int (nI lo), .int x], M)) rfl ?_
  refine am_goB (nI lo ≤ x) (s1 := (10, [.int x, .int (nI lo), .int (nI hi)], [], M)) (s2 := (5, [.int x, .int (nI lo), .int (nI hi)], [], M)) rfl (fun c => ?_) (fun c => absurd (k2_le h) c)
  refine am_goR 2 (s2 := (12, [.int x, .int (nI lo), .int (nI hi)], [.int (nI hi), .int x], M)) rfl ?_
  refine am_goB (x ≤ nI hi) (s1 := (20, [.int x, .int (nI lo), .int (nI hi)], [], M)) (s2 := (15, [.int x, .int (nI lo), .int (nI hi)], [], M)) rfl (fun c => ?_) (fun c => absurd (k2_le h2) c)
  refine am_goR 1 (s2 := (21, [.int x, .int (nI lo), .int (nI hi)], [.int (nI 0)], M)) rfl ?_
  exact am_ends (nI 0) _ rfl rfl rfl

theorem t_bits_loop {M : am_Mem} {x : Nat} (hx : x < 2147483648) : ∀ n p : Nat, n + p = 32 → p ≤ 31 → am_go 157 (4, [.int (nI x), .int (nI (sp_pc2 x p)), .int (nI p)], [], M) (am_is (nI (sp_pc2 x 31)) M) := by
  intro n
  induction n with
  | zero => intro p h1 h2; omega
  | succ n ih =>
    intro p h1 h2
    refine am_goR 2 (s2 := (7, [.int (nI x), .int (nI (sp_pc2 x p)), .int (nI p)], [.int (nI 31), .int (nI p)], M)) rfl ?_
    refine am_bLE (31) (p) (s1 := (24, [.int (nI x), .int (nI (sp_pc2 x p)), .int (nI p)], [], M)) (s2 := (10, [.int (nI x), .int (nI (sp_pc2 x p)), .int (nI p)], [], M)) rfl (by omega) (by omega) (fun c1 => ?_) (fun c1 => ?_)
    · refine am_goR 1 (s2 := (25, [.int (nI x), .int (nI (sp_pc2 x p)), .int (nI p)], [.int (nI (sp_pc2 x p))], M)) rfl ?_
      have ep : p = 31 := by omega
      subst ep
      exact am_ends _ _ rfl rfl rfl
    · refine am_goQ 10 (s1 := (4, [.int (nI x), .int ((nI (sp_pc2 x p) + ((nI x >>> (nI p &&& 31)) &&& nI 1))), .int ((nI p + nI 1))], [], M)) (s2 := (4, [.int (nI x), .int (nI ((sp_pc2 x p) + (if (x.testBit p) = true then 1 else 0))), .int (nI (p + 1))], [], M)) rfl (by simp only [am_shr (x := x) (j := p) (by omega) (by omega), am_and, am_bit, am_bN, nI_add]) ?_
      exact ih (p + 1) (by omega) (by omega)
theorem t_bits {M : am_Mem} {x : Nat} (hx : x < 2147483648) : am_go 157 (am_ent 157 [.int (nI x)] M) (am_is (nI (sp_pc2 x 31)) M) := by
  refine am_goR 4 (s2 := (4, [.int (nI x), .int (nI 0), .int (nI 0)], [], M)) rfl ?_
  exact t_bits_loop hx 32 0 (by omega) (by omega)

def sp_b1 (x : Nat) : Nat := x - (x / 2 &&& 1431655765)
def sp_b2 (x : Nat) : Nat := (x &&& 858993459) + (x / 4 &&& 858993459)
def sp_b3 (x : Nat) : Nat := (x + x / 16) &&& 252645135
def sp_b4 (x : Nat) : Nat := x + x / 256
def sp_b5 (x : Nat) : Nat := x + x / 65536
theorem sp_and8 {u v c d : Nat} (hu : u < 256) (hc : c < 256) : (u + 256 * v) &&& (c + 256 * d) = (u &&& c) + 256 * (v &&& d) := by
  have h1 : ((u + 256 * v) &&& (c + 256 * d)) / 2 ^ 8 = v &&& d := by
    rw [Nat.and_div_two_pow, show (u + 256 * v) / 2 ^ 8 = v by omega, show (c + 256 * d) / 2 ^ 8 = d by omega]
  have h2 : ((u + 256 * v) &&& (c + 256 * d)) % 2 ^ 8 = u &&& c := by
    rw [Nat.and_mod_two_pow, show (u + 256 * v) % 2 ^ 8 = u by omega, show (c + 256 * d) % 2 ^ 8 = c by omega]
  omega
theorem sp_b1_q : ∀ q : Nat, q < 256 → ∀ z : Nat, z < 2 → (q / 2 + 128 * z) &&& 85 = q / 2 &&& 85 := by decide +kernel
theorem sp_b2_q : ∀ q : Nat, q < 256 → ∀ z : Nat, z < 4 → (q / 4 + 64 * z) &&& 51 = q / 4 &&& 51 := by decide +kernel
def sp_q1 (q : Nat) : Nat := q - (q / 2 &&& 85)
def sp_q2 (q : Nat) : Nat := (sp_q1 q &&& 51) + (sp_q1 q / 4 &&& 51)
theorem sp_q1_lt : ∀ q : Nat, q < 256 → sp_q1 q < 256 ∧ (q / 2 &&& 85) ≤ q := by decide +kernel
theorem sp_q2_lt : ∀ q : Nat, q < 256 → sp_q2 q ≤ 68 ∧ sp_q2 q % 16 ≤ 4 := by decide +kernel
theorem sp_q3_e : ∀ q : Nat, q < 256 → (sp_q2 q + sp_q2 q / 16) % 16 = sp_pc2 q 8 ∧ sp_pc2 q 8 ≤ 8 := by decide +kernel
theorem sp_b1_s {q v m : Nat} (hq : q < 256) : ((q + 256 * v) / 2 &&& (85 + 256 * m)) = (q / 2 &&& 85) + 256 * (v / 2 &&& m) := by
  rw [show (q + 256 * v) / 2 = (q / 2 + 128 * (v % 2)) + 256 * (v / 2) by omega, sp_and8 (by omega) (by omega), sp_b1_q q hq (v % 2) (by omega)]
theorem sp_b2_s {q v m : Nat} (hq : q < 256) : ((q + 256 * v) / 4 &&& (51 + 256 * m)) = (q / 4 &&& 51) + 256 * (v / 4 &&& m) := by
  rw [show (q + 256 * v) / 4 = (q / 4 + 64 * (v % 4)) + 256 * (v / 4) by omega, sp_and8 (by omega) (by omega), sp_b2_q q hq (v % 4) (by omega)]
theorem sp_b3_s {q v m : Nat} (hq : q ≤ 68) (hz : v % 16 ≤ 4) : ((q + 256 * v + (q + 256 * v) / 16) &&& (15 + 256 * m)) = (q + q / 16) % 16 + 256 * ((v + v / 16) &&& m) := by
  rw [show q + 256 * v + (q + 256 * v) / 16 = (q + q / 16 + 16 * (v % 16)) + 256 * (v + v / 16) by omega, sp_and8 (by omega) (by omega)]
  rw [show (15 : Nat) = 2 ^ 4 - 1 by rfl, Nat.and_two_pow_sub_one_eq_mod]
  omega
theorem sp_b1_e {a b c : Nat} (ha : a < 256) (hb : b < 256) (hc : c < 256) : sp_b1 (a + 256 * (b + 256 * c)) = sp_q1 a + 256 * (sp_q1 b + 256 * sp_q1 c) := by
  have e1 := sp_b1_s (q := a) (v := b + 256 * c) (m := 5592405) ha
  have e2 := sp_b1_s (q := b) (v := c) (m := 21845) hb
  have e3 := sp_b1_s (q := c) (v := 0) (m := 85) hc
  have l1 := (sp_q1_lt a ha).2
  have l2 := (sp_q1_lt b hb).2
  have l3 := (sp_q1_lt c hc).2
  unfold sp_b1 sp_q1
  rw [show (1431655765 : Nat) = 85 + 256 * 5592405 by rfl, e1, show (5592405 : Nat) = 85 + 256 * 21845 by rfl, e2, show (21845 : Nat) = 85 + 256 * 85 by rfl]
  rw [Nat.mul_zero, Nat.add_zero, Nat.zero_div, Nat.zero_and] at e3
  rw [e3]
  omega
theorem sp_b2_e {a b c : Nat} (ha : a < 256) (hb : b < 256) (hc : c < 256) : sp_b2 (a + 256 * (b + 256 * c)) = ((a &&& 51) + (a / 4 &&& 51)) + 256 * (((b &&& 51) + (b / 4 &&& 51)) + 256 * ((c &&& 51) + (c / 4 &&& 51))) := by
  have e1 := sp_b2_s (q := a) (v := b + 256 * c) (m := 3355443) ha
  have e2 := sp_b2_s (q := b) (v := c) (m := 13107) hb
  have e3 := sp_b2_s (q := c) (v := 0) (m := 51) hc
  have f1 := sp_and8 (u := a) (v := b + 256 * c) (c := 51) (d := 3355443) ha (by omega)
  have f2 := sp_and8 (u := b) (v := c) (c := 51) (d := 13107) hb (by omega)
  have f3 := sp_and8 (u := c) (v := 0) (c := 51) (d := 51) hc (by omega)
  unfold sp_b2
  rw [show (858993459 : Nat) = 51 + 256 * 3355443 by rfl, e1, f1, show (3355443 : Nat) = 51 + 256 * 13107 by rfl, e2, f2, show (13107 : Nat) = 51 + 256 * 51 by rfl]
  rw [Nat.mul_zero, Nat.add_zero, Nat.zero_div, Nat.zero_and] at e3
  rw [Nat.mul_zero, Nat.add_zero, Nat.zero_and] at f3
  rw [e3, f3]
  omega
theorem sp_b3_e {a b c : Nat} (ha : a ≤ 68) (hb : b ≤ 68) (hc : c ≤ 68) (hb4 : b % 16 ≤ 4) (hc4 : c % 16 ≤ 4) : sp_b3 (a + 256 * (b + 256 * c)) = (a + a / 16) % 16 + 256 * ((b + b / 16) % 16 + 256 * ((c + c / 16) % 16)) := by
  have e1 := sp_b3_s (q := a) (v := b + 256 * c) (m := 986895) ha (by omega)
  have e2 := sp_b3_s (q := b) (v := c) (m := 3855) hb hc4
  have e3 := sp_b3_s (q := c) (v := 0) (m := 15) hc (by omega)
  unfold sp_b3
  rw [show (252645135 : Nat) = 15 + 256 * 986895 by rfl, e1, show (986895 : Nat) = 15 + 256 * 3855 by rfl, e2, show (3855 : Nat) = 15 + 256 * 15 by rfl]
  rw [Nat.mul_zero, Nat.add_zero, Nat.zero_div, Nat.add_zero, Nat.zero_and] at e3
  rw [e3]
  omega
theorem sp_tb8 {q v j : Nat} (hj : j < 8) : (q + 256 * v).testBit j = q.testBit j := by
  rw [Nat.testBit_eq_decide_div_mod_eq, Nat.testBit_eq_decide_div_mod_eq]
  rcases (show j = 0 ∨ j = 1 ∨ j = 2 ∨ j = 3 ∨ j = 4 ∨ j = 5 ∨ j = 6 ∨ j = 7 by omega) with rfl | rfl | rfl | rfl | rfl | rfl | rfl | rfl <;> exact decide_eq_decide.mpr (by omega)
theorem sp_tb8' {q v j : Nat} (hq : q < 256) : (q + 256 * v).testBit (8 + j) = v.testBit j := by
  rw [Nat.testBit_eq_decide_div_mod_eq, Nat.testBit_eq_decide_div_mod_eq, Nat.pow_add, ← Nat.div_div_eq_div_mul, show (q + 256 * v) / 2 ^ 8 = v by omega]
theorem sp_pc2_s (n c : Nat) : sp_pc2 n (c + 1) = sp_pc2 n c + (if n.testBit c = true then 1 else 0) := rfl
theorem sp_pc2_8 {q v : Nat} : ∀ c : Nat, c ≤ 8 → sp_pc2 (q + 256 * v) c = sp_pc2 q c := by
  intro c
  induction c with
  | zero => intro _; rfl
  | succ c ih => intro h; rw [sp_pc2, sp_pc2, ih (by omega), sp_tb8 (by omega)]
theorem sp_pc2_a {q v : Nat} (hq : q < 256) : ∀ c : Nat, sp_pc2 (q + 256 * v) (8 + c) = sp_pc2 q 8 + sp_pc2 v c := by
  intro c
  induction c with
  | zero => exact sp_pc2_8 8 (Nat.le_refl _)
  | succ c ih =>
    rw [show 8 + (c + 1) = (8 + c) + 1 by omega, sp_pc2_s (q + 256 * v) (8 + c), ih, sp_tb8' hq, sp_pc2_s v c]
    omega
theorem sp_pc2_0 : ∀ c : Nat, sp_pc2 0 c = 0 := by
  intro c
  induction c with
  | zero => rfl
  | succ c ih => rw [sp_pc2, ih, Nat.zero_testBit]; rfl
def sp_bN (x : Nat) : Nat := sp_b5 (sp_b4 (sp_b3 (sp_b2 (sp_b1 x)))) &&& 63
theorem sp_bN_e {x : Nat} (hx : x < 16777216) : sp_bN x = sp_pc2 x 31 := by
  obtain ⟨a, b, c, ha, hb, hc, rfl⟩ : ∃ a b c : Nat, a < 256 ∧ b < 256 ∧ c < 256 ∧ x = a + 256 * (b + 256 * c) := ⟨x % 256, x / 256 % 256, x / 65536, by omega, by omega, by omega, by omega⟩
  have a1 := sp_q1_lt a ha
  have b1 := sp_q1_lt b hb
  have c1 := sp_q1_lt c hc
  have a2 := sp_q2_lt a ha
  have b2 := sp_q2_lt b hb
  have c2 := sp_q2_lt c hc
  have a3 := sp_q3_e a ha
  have b3 := sp_q3_e b hb
  have c3 := sp_q3_e c hc
  have e2 := sp_b2_e a1.1 b1.1 c1.1
  have e3 := sp_b3_e a2.1 b2.1 c2.1 b2.2 c2.2
  unfold sp_q2 at e3 a3 b3 c3
  unfold sp_bN
  rw [sp_b1_e ha hb hc, e2, e3, a3.1, b3.1, c3.1]
  have k : sp_pc2 (a + 256 * (b + 256 * c)) 31 = sp_pc2 a 8 + (sp_pc2 b 8 + sp_pc2 c 8) := by
    rw [show (31 : Nat) = 8 + 23 by rfl, sp_pc2_a ha, show (23 : Nat) = 8 + 15 by rfl, sp_pc2_a hb]
    have := sp_pc2_a (q := c) (v := 0) hc 7
    rw [Nat.mul_zero, Nat.add_zero, sp_pc2_0] at this
    rw [show (15 : Nat) = 8 + 7 by rfl, this]
    omega
  rw [k]
  have p1 := a3.2
  have p2 := b3.2
  have p3 := c3.2
  clear a3 b3 c3 e2 e3 a2 b2 c2 a1 b1 c1 k
  generalize sp_pc2 a 8 = u at *
  generalize sp_pc2 b 8 = v at *
  generalize sp_pc2 c 8 = w at *
  unfold sp_b5 sp_b4
  rw [show (63 : Nat) = 2 ^ 6 - 1 by rfl, Nat.and_two_pow_sub_one_eq_mod]
  have d1 : (u + 256 * (v + 256 * w)) / 256 = v + 256 * w := by omega
  rw [d1]
  have d2 : (u + 256 * (v + 256 * w) + (v + 256 * w)) / 65536 = w := by omega
  rw [d2]
  omega

set_option maxHeartbeats 4000000 in
theorem s_bitCount0 {M : am_Mem} {x : Nat} (hx : x < 16777216) : am_go 159 (am_ent 159 [.int (nI x)] M) (am_is (nI (sp_bN x)) M) := by
  have g1 : (x / 2 &&& 1431655765) ≤ x := Nat.le_trans Nat.and_le_left (by omega)
  have g2 : (x - (x / 2 &&& 1431655765) &&& 858993459) ≤ x := Nat.le_trans Nat.and_le_left (by omega)
  have g3 : ((x - (x / 2 &&& 1431655765)) / 4 &&& 858993459) ≤ x := Nat.le_trans Nat.and_le_left (by omega)
  have g4 : sp_b3 (sp_b2 (sp_b1 x)) ≤ 252645135 := Nat.and_le_right
  unfold sp_b3 sp_b2 sp_b1 at g4
  refine am_goQ 41 (s1 := (52, [.int ((((((((nI x - (((nI x).toUInt32 >>> ((nI 1).toUInt32 &&& Int32.toUInt32 31)).toInt32 &&& nI 1431655765)) &&& nI 858993459) + ((((nI x - (((nI x).toUInt32 >>> ((nI 1).toUInt32 &&& Int32.toUInt32 31)).toInt32 &&& nI 1431655765))).toUInt32 >>> ((nI 2).toUInt32 &&& Int32.toUInt32 31)).toInt32 &&& nI 858993459)) + (((((nI x - (((nI x).toUInt32 >>> ((nI 1).toUInt32 &&& Int32.toUInt32 31)).toInt32 &&& nI 1431655765)) &&& nI 858993459) + ((((nI x - (((nI x).toUInt32 >>> ((nI 1).toUInt32 &&& Int32.toUInt32 31)).toInt32 &&& nI 1431655765))).toUInt32 >>> ((nI 2).toUInt32 &&& Int32.toUInt32 31)).toInt32 &&& nI 858993459))).toUInt32 >>> ((nI 4).toUInt32 &&& Int32.toUInt32 31)).toInt32) &&& nI 252645135) + (((((((nI x - (((nI x).toUInt32 >>> ((nI 1).toUInt32 &&& Int32.toUInt32 31)).toInt32 &&& nI 1431655765)) &&& nI 858993459) + ((((nI x - (((nI x).toUInt32 >>> ((nI 1).toUInt32 &&& Int32.toUInt32 31)).toInt32 &&& nI 1431655765))).toUInt32 >>> ((nI 2).toUInt32 &&& Int32.toUInt32 31)).toInt32 &&& nI 858993459)) + (((((nI x - (((nI x).toUInt32 >>> ((nI 1).toUInt32 &&& Int32.toUInt32 31)).toInt32 &&& nI 1431655765)) &&& nI 858993459) + ((((nI x - (((nI x).toUInt32 >>> ((nI 1).toUInt32 &&& Int32.toUInt32 31)).toInt32 &&& nI 1431655765))).toUInt32 >>> ((nI 2).toUInt32 &&& Int32.toUInt32 31)).toInt32 &&& nI 858993459))).toUInt32 >>> ((nI 4).toUInt32 &&& Int32.toUInt32 31)).toInt32) &&& nI 252645135)).toUInt32 >>> ((nI 8).toUInt32 &&& Int32.toUInt32 31)).toInt32) + ((((((((nI x - (((nI x).toUInt32 >>> ((nI 1).toUInt32 &&& Int32.toUInt32 31)).toInt32 &&& nI 1431655765)) &&& nI 858993459) + ((((nI x - (((nI x).toUInt32 >>> ((nI 1).toUInt32 &&& Int32.toUInt32 31)).toInt32 &&& nI 1431655765))).toUInt32 >>> ((nI 2).toUInt32 &&& Int32.toUInt32 31)).toInt32 &&& nI 858993459)) + (((((nI x - (((nI x).toUInt32 >>> ((nI 1).toUInt32 &&& Int32.toUInt32 31)).toInt32 &&& nI 1431655765)) &&& nI 858993459) + ((((nI x - (((nI x).toUInt32 >>> ((nI 1).toUInt32 &&& Int32.toUInt32 31)).toInt32 &&& nI 1431655765))).toUInt32 >>> ((nI 2).toUInt32 &&& Int32.toUInt32 31)).toInt32 &&& nI 858993459))).toUInt32 >>> ((nI 4).toUInt32 &&& Int32.toUInt32 31)).toInt32) &&& nI 252645135) + (((((((nI x - (((nI x).toUInt32 >>> ((nI 1).toUInt32 &&& Int32.toUInt32 31)).toInt32 &&& nI 1431655765)) &&& nI 858993459) + ((((nI x - (((nI x).toUInt32 >>> ((nI 1).toUInt32 &&& Int32.toUInt32 31)).toInt32 &&& nI 1431655765))).toUInt32 >>> ((nI 2).toUInt32 &&& Int32.toUInt32 31)).toInt32 &&& nI 858993459)) + (((((nI x - (((nI x).toUInt32 >>> ((nI 1).toUInt32 &&& Int32.toUInt32 31)).toInt32 &&& nI 1431655765)) &&& nI 858993459) + ((((nI x - (((nI x).toUInt32 >>> ((nI 1).toUInt32 &&& Int32.toUInt32 31)).toInt32 &&& nI 1431655765))).toUInt32 >>> ((nI 2).toUInt32 &&& Int32.toUInt32 31)).toInt32 &&& nI 858993459))).toUInt32 >>> ((nI 4).toUInt32 &&& Int32.toUInt32 31)).toInt32) &&& nI 252645135)).toUInt32 >>> ((nI 8).toUInt32 &&& Int32.toUInt32 31)).toInt32)).toUInt32 >>> ((nI 16).toUInt32 &&& Int32.toUInt32 31)).toInt32))], [.int (((((((((nI x - (((nI x).toUInt32 >>> ((nI 1).toUInt32 &&& Int32.toUInt32 31)).toInt32 &&& nI 1431655765)) &&& nI 858993459) + ((((nI x - (((nI x).toUInt32 >>> ((nI 1).toUInt32 &&& Int32.toUInt32 31)).toInt32 &&& nI 1431655765))).toUInt32 >>> ((nI 2).toUInt32 &&& Int32.toUInt32 31)).toInt32 &&& nI 858993459)) + (((((nI x - (((nI x).toUInt32 >>> ((nI 1).toUInt32 &&& Int32.toUInt32 31)).toInt32 &&& nI 1431655765)) &&& nI 858993459) + ((((nI x - (((nI x).toUInt32 >>> ((nI 1).toUInt32 &&& Int32.toUInt32 31)).toInt32 &&& nI 1431655765))).toUInt32 >>> ((nI 2).toUInt32 &&& Int32.toUInt32 31)).toInt32 &&& nI 858993459))).toUInt32 >>> ((nI 4).toUInt32 &&& Int32.toUInt32 31)).toInt32) &&& nI 252645135) + (((((((nI x - (((nI x).toUInt32 >>> ((nI 1).toUInt32 &&& Int32.toUInt32 31)).toInt32 &&& nI 1431655765)) &&& nI 858993459) + ((((nI x - (((nI x).toUInt32 >>> ((nI 1).toUInt32 &&& Int32.toUInt32 31)).toInt32 &&& nI 1431655765))).toUInt32 >>> ((nI 2).toUInt32 &&& Int32.toUInt32 31)).toInt32 &&& nI 858993459)) + (((((nI x - (((nI x).toUInt32 >>> ((nI 1).toUInt32 &&& Int32.toUInt32 31)).toInt32 &&& nI 1431655765)) &&& nI 858993459) + ((((nI x - (((nI x).toUInt32 >>> ((nI 1).toUInt32 &&& Int32.toUInt32 31)).toInt32 &&& nI 1431655765))).toUInt32 >>> ((nI 2).toUInt32 &&& Int32.toUInt32 31)).toInt32 &&& nI 858993459))).toUInt32 >>> ((nI 4).toUInt32 &&& Int32.toUInt32 31)).toInt32) &&& nI 252645135)).toUInt32 >>> ((nI 8).toUInt32 &&& Int32.toUInt32 31)).toInt32) + ((((((((nI x - (((nI x).toUInt32 >>> ((nI 1).toUInt32 &&& Int32.toUInt32 31)).toInt32 &&& nI 1431655765)) &&& nI 858993459) + ((((nI x - (((nI x).toUInt32 >>> ((nI 1).toUInt32 &&& Int32.toUInt32 31)).toInt32 &&& nI 1431655765))).toUInt32 >>> ((nI 2).toUInt32 &&& Int32.toUInt32 31)).toInt32 &&& nI 858993459)) + (((((nI x - (((nI x).toUInt32 >>> ((nI 1).toUInt32 &&& Int32.toUInt32 31)).toInt32 &&& nI 1431655765)) &&& nI 858993459) + ((((nI x - (((nI x).toUInt32 >>> ((nI 1).toUInt32 &&& Int32.toUInt32 31)).toInt32 &&& nI 1431655765))).toUInt32 >>> ((nI 2).toUInt32 &&& Int32.toUInt32 31)).toInt32 &&& nI 858993459))).toUInt32 >>> ((nI 4).toUInt32 &&& Int32.toUInt32 31)).toInt32) &&& nI 252645135) + (((((((nI x - (((nI x).toUInt32 >>> ((nI 1).toUInt32 &&& Int32.toUInt32 31)).toInt32 &&& nI 1431655765)) &&& nI 858993459) + ((((nI x - (((nI x).toUInt32 >>> ((nI 1).toUInt32 &&& Int32.toUInt32 31)).toInt32 &&& nI 1431655765))).toUInt32 >>> ((nI 2).toUInt32 &&& Int32.toUInt32 31)).toInt32 &&& nI 858993459)) + (((((nI x - (((nI x).toUInt32 >>> ((nI 1).toUInt32 &&& Int32.toUInt32 31)).toInt32 &&& nI 1431655765)) &&& nI 858993459) + ((((nI x - (((nI x).toUInt32 >>> ((nI 1).toUInt32 &&& Int32.toUInt32 31)).toInt32 &&& nI 1431655765))).toUInt32 >>> ((nI 2).toUInt32 &&& Int32.toUInt32 31)).toInt32 &&& nI 858993459))).toUInt32 >>> ((nI 4).toUInt32 &&& Int32.toUInt32 31)).toInt32) &&& nI 252645135)).toUInt32 >>> ((nI 8).toUInt32 &&& Int32.toUInt32 31)).toInt32)).toUInt32 >>> ((nI 16).toUInt32 &&& Int32.toUInt32 31)).toInt32) &&& nI 63))], M)) (s2 := (52, [.int (nI (((((((x - ((x / 2) &&& 1431655765)) &&& 858993459) + (((x - ((x / 2) &&& 1431655765)) / 4) &&& 858993459)) + ((((x - ((x / 2) &&& 1431655765)) &&& 858993459) + (((x - ((x / 2) &&& 1431655765)) / 4) &&& 858993459)) / 16)) &&& 252645135) + ((((((x - ((x / 2) &&& 1431655765)) &&& 858993459) + (((x - ((x / 2) &&& 1431655765)) / 4) &&& 858993459)) + ((((x - ((x / 2) &&& 1431655765)) &&& 858993459) + (((x - ((x / 2) &&& 1431655765)) / 4) &&& 858993459)) / 16)) &&& 252645135) / 256)) + (((((((x - ((x / 2) &&& 1431655765)) &&& 858993459) + (((x - ((x / 2) &&& 1431655765)) / 4) &&& 858993459)) + ((((x - ((x / 2) &&& 1431655765)) &&& 858993459) + (((x - ((x / 2) &&& 1431655765)) / 4) &&& 858993459)) / 16)) &&& 252645135) + ((((((x - ((x / 2) &&& 1431655765)) &&& 858993459) + (((x - ((x / 2) &&& 1431655765)) / 4) &&& 858993459)) + ((((x - ((x / 2) &&& 1431655765)) &&& 858993459) + (((x - ((x / 2) &&& 1431655765)) / 4) &&& 858993459)) / 16)) &&& 252645135) / 256)) / 65536)))], [.int (nI ((((((((x - ((x / 2) &&& 1431655765)) &&& 858993459) + (((x - ((x / 2) &&& 1431655765)) / 4) &&& 858993459)) + ((((x - ((x / 2) &&& 1431655765)) &&& 858993459) + (((x - ((x / 2) &&& 1431655765)) / 4) &&& 858993459)) / 16)) &&& 252645135) + ((((((x - ((x / 2) &&& 1431655765)) &&& 858993459) + (((x - ((x / 2) &&& 1431655765)) / 4) &&& 858993459)) + ((((x - ((x / 2) &&& 1431655765)) &&& 858993459) + (((x - ((x / 2) &&& 1431655765)) / 4) &&& 858993459)) / 16)) &&& 252645135) / 256)) + (((((((x - ((x / 2) &&& 1431655765)) &&& 858993459) + (((x - ((x / 2) &&& 1431655765)) / 4) &&& 858993459)) + ((((x - ((x / 2) &&& 1431655765)) &&& 858993459) + (((x - ((x / 2) &&& 1431655765)) / 4) &&& 858993459)) / 16)) &&& 252645135) + ((((((x - ((x / 2) &&& 1431655765)) &&& 858993459) + (((x - ((x / 2) &&& 1431655765)) / 4) &&& 858993459)) + ((((x - ((x / 2) &&& 1431655765)) &&& 858993459) + (((x - ((x / 2) &&& 1431655765)) / 4) &&& 858993459)) / 16)) &&& 252645135) / 256)) / 65536)) &&& 63))], M)) rfl (by simp only [pk_ushrN (n := x) (by omega) (nI 1) 1 (by decide +kernel), am_and, pk_sub (a := x) (b := ((x / 2) &&& 1431655765)) (by omega), pk_ushrN (n := (x - ((x / 2) &&& 1431655765))) (by omega) (nI 2) 2 (by decide +kernel), nI_add, pk_ushrN (n := (((x - ((x / 2) &&& 1431655765)) &&& 858993459) + (((x - ((x / 2) &&& 1431655765)) / 4) &&& 858993459))) (by omega) (nI 4) 4 (by decide +kernel), pk_ushrN (n := (((((x - ((x / 2) &&& 1431655765)) &&& 858993459) + (((x - ((x / 2) &&& 1431655765)) / 4) &&& 858993459)) + ((((x - ((x / 2) &&& 1431655765)) &&& 858993459) + (((x - ((x / 2) &&& 1431655765)) / 4) &&& 858993459)) / 16)) &&& 252645135)) (by omega) (nI 8) 8 (by decide +kernel), pk_ushrN (n := ((((((x - ((x / 2) &&& 1431655765)) &&& 858993459) + (((x - ((x / 2) &&& 1431655765)) / 4) &&& 858993459)) + ((((x - ((x / 2) &&& 1431655765)) &&& 858993459) + (((x - ((x / 2) &&& 1431655765)) / 4) &&& 858993459)) / 16)) &&& 252645135) + ((((((x - ((x / 2) &&& 1431655765)) &&& 858993459) + (((x - ((x / 2) &&& 1431655765)) / 4) &&& 858993459)) + ((((x - ((x / 2) &&& 1431655765)) &&& 858993459) + (((x - ((x / 2) &&& 1431655765)) / 4) &&& 858993459)) / 16)) &&& 252645135) / 256))) (by omega) (nI 16) 16 (by decide +kernel)]) ?_
  exact am_ends _ _ rfl rfl rfl

theorem s_bitCount {M : am_Mem} {x : Nat} (hx : x < 16777216) : am_go 159 (am_ent 159 [.int (nI x)] M) (am_is (nI (sp_pc2 x 31)) M) := by
  rw [← sp_bN_e hx]
  exact s_bitCount0 hx

