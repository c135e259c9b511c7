/-! walks: the class's stand: where a hand can go, who is blocked -/
theorem sp_eq_bit {x y : Nat} (h : ∀ j, x.testBit j = y.testBit j) : x = y := Nat.eq_of_testBit_eq h
theorem sp_m1_bit (x j : Nat) (hj : j < 32) : (x ^^^ 4294967295).testBit j = !x.testBit j := by
  rw [Nat.testBit_xor, show (4294967295 : Nat) = 2 ^ 32 - 1 from rfl, Nat.testBit_two_pow_sub_one, decide_eq_true hj]
  cases x.testBit j <;> rfl
theorem sp_f_bit {f j : Nat} (hf : f < 4096) (h : f.testBit j = true) : j < 12 := by
  rcases Nat.lt_or_ge j 12 with z | z
  · exact z
  · rw [Nat.testBit_lt_two_pow (Nat.lt_of_lt_of_le hf (show 2 ^ 12 ≤ 2 ^ j from Nat.pow_le_pow_right (by decide) z))] at h
    cases h
theorem sp_hb_dec (h : Nat → Nat) (aw n j : Nat) : (sp_hb h aw n).testBit j = !decide (∀ q, q < n → h q = j → q / 2 = aw) := by
  cases hb : (sp_hb h aw n).testBit j with
  | true =>
    obtain ⟨q, h1, h2, h3⟩ := (sp_hb_bit h aw n j).mp hb
    rw [decide_eq_false (fun z => h2 (z q h1 h3))]
    rfl
  | false =>
    rw [decide_eq_true]
    · rfl
    · intro q h1 h3
      rcases Nat.decEq (q / 2) aw with z | z
      · rw [(sp_hb_bit h aw n j).mpr ⟨q, h1, z, h3⟩] at hb
        cases hb
      · exact z
theorem sp_open {a f : Nat} {k h : Nat → Nat} {i b aw : Nat} (oF : f < 4096) (hb : b < 2) (hk : (decide (k i = 4) && decide (b = 0)) = false) :
    ((f &&& (sp_hb h aw (2 * a) ^^^ 4294967295)) &&& sp_bs (fun q => decide (sp_ds q (h (2 * i + (1 - b))) ≤ sp_rc (k i))) 12) = sp_bs (fun q => sp_cn a f k h i b aw q) 12 := by
  apply sp_eq_bit
  intro j
  rw [Nat.testBit_and, Nat.testBit_and, sp_bs_bit, sp_bs_bit]
  by_cases hj : j < 12
  · rw [sp_m1_bit _ _ (by omega), sp_hb_dec, decide_eq_true hj]
    unfold sp_cn
    rw [hk, show 2 * i + (1 - b) = 2 * i + 1 - b by omega]
    simp
  · rw [decide_eq_false hj]
    simp
theorem sp_open0 {a f : Nat} {k h : Nat → Nat} {i b aw : Nat} (hk : (decide (k i = 4) && decide (b = 0)) = true) : 0 = sp_bs (fun q => sp_cn a f k h i b aw q) 12 := by
  apply sp_eq_bit
  intro j
  rw [sp_bs_bit]
  unfold sp_cn
  rw [hk]
  simp
/-- whether an arm has a step, an arm away not there -/
def sp_st (a f : Nat) (k h : Nat → Nat) (i aw : Nat) : Bool := !decide ((sp_bs (fun q => sp_cn a f k h i 0 aw q) 12 ||| sp_bs (fun q => sp_cn a f k h i 1 aw q) 12) = 0)
def sp_nr (h : Nat → Nat) (i j m : Nat) : Bool := decide (sp_ds (h (2 * i)) j ≤ m) || decide (sp_ds (h (2 * i + 1)) j ≤ m)
def sp_ht (h : Nat → Nat) (i i2 : Nat) : Bool := sp_nr h i2 (h (2 * i)) 2 || sp_nr h i2 (h (2 * i + 1)) 2
def sp_be (h : Nat → Nat) (i j : Nat) : Bool := decide (sp_ds (h (2 * i)) j = 1) || decide (sp_ds (h (2 * i + 1)) j = 1)
theorem sp_bs12 (p : Nat → Bool) : sp_bs p 12 < 4096 := sp_bs_lt p 12
theorem sp_or12 {x y : Nat} (hx : x < 4096) (hy : y < 4096) : (x ||| y) < 4096 := Nat.or_lt_two_pow (n := 12) hx hy
theorem sp_and12 {x y : Nat} (hx : x < 4096) : (x &&& y) < 4096 := Nat.lt_of_le_of_lt Nat.and_le_left hx
theorem sp_bs_cn {a f : Nat} {k h : Nat → Nat} {i b aw j : Nat} (oF : f < 4096) : (sp_bs (fun q => sp_cn a f k h i b aw q) 12).testBit j = sp_cn a f k h i b aw j := by
  rw [sp_bs_bit]
  cases hc : sp_cn a f k h i b aw j with
  | false => simp
  | true =>
    have h1 : f.testBit j = true := by
      unfold sp_cn at hc
      simp only [Bool.and_eq_true] at hc
      exact hc.1.1.1
    rw [decide_eq_true (sp_f_bit oF h1)]
    rfl

set_option maxHeartbeats 4000000 in
theorem s_openTon_1 {M : am_Mem} {a f hr hs lt : Nat} {k h : Nat → Nat} (hS : sp_S 1 M a f hr hs lt k h) (hO : sp_ok a f hr lt k h) {i : Nat} (hi : i < a) {b : Nat} (hb : b < 2)  : am_go 13 (am_ent 13 [.ref 1, .int (nI i), .int (nI b), .int ((-nI 9))] M) (am_is (nI (sp_bs (fun q => sp_cn a f k h i b 9 q) 12)) M) := by
  obtain ⟨hF, hA, hHr, hHs, hLt, hK, hH⟩ := id hS
  obtain ⟨oA, oF, oHr, oLt, oK, oH⟩ := id hO
  have oKi := oK i
  have oR := sp_rc_lt (k i)
  have oHi := oH (2 * i + (1 - b))
  refine am_goR 3 (s2 := (3, [.ref 1, .int (nI i), .int (nI b), .int ((-nI 9))], [.int (nI b), .int (nI i), .ref 1], M)) rfl ?_
  refine am_goX (v := am_b (decide ((k i) = 4) && decide (b = 0))) (M2 := M) (s2 := (6, [.ref 1, .int (nI i), .int (nI b), .int ((-nI 9))], [], M)) rfl (s_staysPut_1 hS hO (i := i) (b := b) (by omega) (by omega)) ?_
  refine am_bB0 (decide ((k i) = 4) && decide (b = 0)) (s1 := (11, [.ref 1, .int (nI i), .int (nI b), .int ((-nI 9))], [], M)) (s2 := (9, [.ref 1, .int (nI i), .int (nI b), .int ((-nI 9))], [], M)) rfl (fun c1 => ?_) (fun c1 => ?_)
  · refine am_goQ 4 (s1 := (17, [.ref 1, .int (nI i), .int (nI b), .int ((-nI 9))], [.int ((-nI 9)), .ref 1, .int ((M 1 0))], M)) (s2 := (17, [.ref 1, .int (nI i), .int (nI b), .int ((-nI 9))], [.int ((-nI 9)), .ref 1, .int (nI f)], M)) rfl (by simp only [hF]) ?_
    refine am_goX (v := nI (sp_hb h 9 (2 * a))) (M2 := M) (s2 := (20, [.ref 1, .int (nI i), .int (nI b), .int ((-nI 9))], [.int (nI f)], M)) rfl (s_heldButn_1 hS hO) ?_
    refine am_goQ 8 (s1 := (28, [.ref 1, .int (nI i), .int (nI b), .int ((-nI 9))], [.int ((nI 1 - nI b)), .int (nI i), .ref 1, .int ((nI f &&& (nI (sp_hb h 9 (2 * a)) ^^^ (-nI 1))))], M)) (s2 := (28, [.ref 1, .int (nI i), .int (nI b), .int ((-nI 9))], [.int (nI (1 - b)), .int (nI i), .ref 1, .int (nI (f &&& ((sp_hb h 9 (2 * a)) ^^^ 4294967295)))], M)) rfl (by simp only [pk_sub (a := 1) (b := b) (by omega), am_xm, am_and]) ?_
    refine am_goX (v := nI (h ((2 * i) + (1 - b)))) (M2 := M) (s2 := (31, [.ref 1, .int (nI i), .int (nI b), .int ((-nI 9))], [.int (nI (f &&& ((sp_hb h 9 (2 * a)) ^^^ 4294967295)))], M)) rfl (s_handOn_1 hS hO (i := i) (b := (1 - b)) (by omega) (by omega)) ?_
    refine am_goR 2 (s2 := (33, [.ref 1, .int (nI i), .int (nI b), .int ((-nI 9))], [.int (nI i), .ref 1, .int (nI (h ((2 * i) + (1 - b)))), .int (nI (f &&& ((sp_hb h 9 (2 * a)) ^^^ 4294967295)))], M)) rfl ?_
    refine am_goX (v := nI (sp_rc (k i))) (M2 := M) (s2 := (36, [.ref 1, .int (nI i), .int (nI b), .int ((-nI 9))], [.int (nI (h ((2 * i) + (1 - b)))), .int (nI (f &&& ((sp_hb h 9 (2 * a)) ^^^ 4294967295)))], M)) rfl (s_reachOf_1 hS hO (i := i) (by omega)) ?_
    refine am_goX (v := nI (sp_bs (fun q => decide (sp_ds q (h ((2 * i) + (1 - b))) ≤ (sp_rc (k i)))) 12)) (M2 := M) (s2 := (39, [.ref 1, .int (nI i), .int (nI b), .int ((-nI 9))], [.int (nI (f &&& ((sp_hb h 9 (2 * a)) ^^^ 4294967295)))], M)) rfl (s_around (j := (h ((2 * i) + (1 - b)))) (r := (sp_rc (k i))) (by omega) (by omega)) ?_
    refine am_goQ 1 (s1 := (40, [.ref 1, .int (nI i), .int (nI b), .int ((-nI 9))], [.int ((nI (f &&& ((sp_hb h 9 (2 * a)) ^^^ 4294967295)) &&& nI (sp_bs (fun q => decide (sp_ds q (h ((2 * i) + (1 - b))) ≤ (sp_rc (k i)))) 12)))], M)) (s2 := (40, [.ref 1, .int (nI i), .int (nI b), .int ((-nI 9))], [.int (nI ((f &&& ((sp_hb h 9 (2 * a)) ^^^ 4294967295)) &&& (sp_bs (fun q => decide (sp_ds q (h ((2 * i) + (1 - b))) ≤ (sp_rc (k i)))) 12)))], M)) rfl (by simp only [am_and]) ?_
    exact am_ends (nI ((f &&& ((sp_hb h 9 (2 * a)) ^^^ 4294967295)) &&& (sp_bs (fun q => decide (sp_ds q (h ((2 * i) + (1 - b))) ≤ (sp_rc (k i)))) 12))) _ rfl (by rw [sp_open oF hb (by assumption)]) rfl
  · refine am_goR 1 (s2 := (10, [.ref 1, .int (nI i), .int (nI b), .int ((-nI 9))], [.int (nI 0)], M)) rfl ?_
    exact am_ends (nI 0) _ rfl (by rw [← sp_open0 (by assumption)]) rfl

set_option maxHeartbeats 4000000 in
theorem s_openTow_1 {M : am_Mem} {a f hr hs lt : Nat} {k h : Nat → Nat} (hS : sp_S 1 M a f hr hs lt k h) (hO : sp_ok a f hr lt k h) {i : Nat} (hi : i < a) {b : Nat} (hb : b < 2) {w : Nat} (hw : w < 4) : am_go 13 (am_ent 13 [.ref 1, .int (nI i), .int (nI b), .int (nI w)] M) (am_is (nI (sp_bs (fun q => sp_cn a f k h i b w q) 12)) M) := by
  obtain ⟨hF, hA, hHr, hHs, hLt, hK, hH⟩ := id hS
  obtain ⟨oA, oF, oHr, oLt, oK, oH⟩ := id hO
  have oKi := oK i
  have oR := sp_rc_lt (k i)
  have oHi := oH (2 * i + (1 - b))
  refine am_goR 3 (s2 := (3, [.ref 1, .int (nI i), .int (nI b), .int (nI w)], [.int (nI b), .int (nI i), .ref 1], M)) rfl ?_
  refine am_goX (v := am_b (decide ((k i) = 4) && decide (b = 0))) (M2 := M) (s2 := (6, [.ref 1, .int (nI i), .int (nI b), .int (nI w)], [], M)) rfl (s_staysPut_1 hS hO (i := i) (b := b) (by omega) (by omega)) ?_
  refine am_bB0 (decide ((k i) = 4) && decide (b = 0)) (s1 := (11, [.ref 1, .int (nI i), .int (nI b), .int (nI w)], [], M)) (s2 := (9, [.ref 1, .int (nI i), .int (nI b), .int (nI w)], [], M)) rfl (fun c1 => ?_) (fun c1 => ?_)
  · refine am_goQ 4 (s1 := (17, [.ref 1, .int (nI i), .int (nI b), .int (nI w)], [.int (nI w), .ref 1, .int ((M 1 0))], M)) (s2 := (17, [.ref 1, .int (nI i), .int (nI b), .int (nI w)], [.int (nI w), .ref 1, .int (nI f)], M)) rfl (by simp only [hF]) ?_
    refine am_goX (v := nI (sp_hb h w (2 * a))) (M2 := M) (s2 := (20, [.ref 1, .int (nI i), .int (nI b), .int (nI w)], [.int (nI f)], M)) rfl (s_heldButw_1 hS hO (w := w) (by omega)) ?_
    refine am_goQ 8 (s1 := (28, [.ref 1, .int (nI i), .int (nI b), .int (nI w)], [.int ((nI 1 - nI b)), .int (nI i), .ref 1, .int ((nI f &&& (nI (sp_hb h w (2 * a)) ^^^ (-nI 1))))], M)) (s2 := (28, [.ref 1, .int (nI i), .int (nI b), .int (nI w)], [.int (nI (1 - b)), .int (nI i), .ref 1, .int (nI (f &&& ((sp_hb h w (2 * a)) ^^^ 4294967295)))], M)) rfl (by simp only [pk_sub (a := 1) (b := b) (by omega), am_xm, am_and]) ?_
    refine am_goX (v := nI (h ((2 * i) + (1 - b)))) (M2 := M) (s2 := (31, [.ref 1, .int (nI i), .int (nI b), .int (nI w)], [.int (nI (f &&& ((sp_hb h w (2 * a)) ^^^ 4294967295)))], M)) rfl (s_handOn_1 hS hO (i := i) (b := (1 - b)) (by omega) (by omega)) ?_
    refine am_goR 2 (s2 := (33, [.ref 1, .int (nI i), .int (nI b), .int (nI w)], [.int (nI i), .ref 1, .int (nI (h ((2 * i) + (1 - b)))), .int (nI (f &&& ((sp_hb h w (2 * a)) ^^^ 4294967295)))], M)) rfl ?_
    refine am_goX (v := nI (sp_rc (k i))) (M2 := M) (s2 := (36, [.ref 1, .int (nI i), .int (nI b), .int (nI w)], [.int (nI (h ((2 * i) + (1 - b)))), .int (nI (f &&& ((sp_hb h w (2 * a)) ^^^ 4294967295)))], M)) rfl (s_reachOf_1 hS hO (i := i) (by omega)) ?_
    refine am_goX (v := nI (sp_bs (fun q => decide (sp_ds q (h ((2 * i) + (1 - b))) ≤ (sp_rc (k i)))) 12)) (M2 := M) (s2 := (39, [.ref 1, .int (nI i), .int (nI b), .int (nI w)], [.int (nI (f &&& ((sp_hb h w (2 * a)) ^^^ 4294967295)))], M)) rfl (s_around (j := (h ((2 * i) + (1 - b)))) (r := (sp_rc (k i))) (by omega) (by omega)) ?_
    refine am_goQ 1 (s1 := (40, [.ref 1, .int (nI i), .int (nI b), .int (nI w)], [.int ((nI (f &&& ((sp_hb h w (2 * a)) ^^^ 4294967295)) &&& nI (sp_bs (fun q => decide (sp_ds q (h ((2 * i) + (1 - b))) ≤ (sp_rc (k i)))) 12)))], M)) (s2 := (40, [.ref 1, .int (nI i), .int (nI b), .int (nI w)], [.int (nI ((f &&& ((sp_hb h w (2 * a)) ^^^ 4294967295)) &&& (sp_bs (fun q => decide (sp_ds q (h ((2 * i) + (1 - b))) ≤ (sp_rc (k i)))) 12)))], M)) rfl (by simp only [am_and]) ?_
    exact am_ends (nI ((f &&& ((sp_hb h w (2 * a)) ^^^ 4294967295)) &&& (sp_bs (fun q => decide (sp_ds q (h ((2 * i) + (1 - b))) ≤ (sp_rc (k i)))) 12))) _ rfl (by rw [sp_open oF hb (by assumption)]) rfl
  · refine am_goR 1 (s2 := (10, [.ref 1, .int (nI i), .int (nI b), .int (nI w)], [.int (nI 0)], M)) rfl ?_
    exact am_ends (nI 0) _ rfl (by rw [← sp_open0 (by assumption)]) rfl

set_option maxHeartbeats 4000000 in
theorem s_goesTo_1 {M : am_Mem} {a f hr hs lt : Nat} {k h : Nat → Nat} (hS : sp_S 1 M a f hr hs lt k h) (hO : sp_ok a f hr lt k h) {i : Nat} (hi : i < a) {b : Nat} (hb : b < 2) : am_go 14 (am_ent 14 [.ref 1, .int (nI i), .int (nI b)] M) (am_is (nI (if sp_wk lt (k i) hr = true then sp_bs (fun q => sp_cn a f k h i b 9 q) 12 else 0)) M) := by
  obtain ⟨hF, hA, hHr, hHs, hLt, hK, hH⟩ := id hS
  obtain ⟨oA, oF, oHr, oLt, oK, oH⟩ := id hO
  have oKi := oK i
  have oR := sp_rc_lt (k i)
  refine am_goR 2 (s2 := (2, [.ref 1, .int (nI i), .int (nI b)], [.int (nI i), .ref 1], M)) rfl ?_
  refine am_goX (v := am_b (sp_wk lt (k i) hr)) (M2 := M) (s2 := (5, [.ref 1, .int (nI i), .int (nI b)], [], M)) rfl (s_worksNow_1 hS hO (i := i) (by omega)) ?_
  refine am_bB0 (sp_wk lt (k i) hr) (s1 := (19, [.ref 1, .int (nI i), .int (nI b)], [], M)) (s2 := (8, [.ref 1, .int (nI i), .int (nI b)], [], M)) rfl (fun c1 => ?_) (fun c1 => ?_)
  · refine am_goR 1 (s2 := (20, [.ref 1, .int (nI i), .int (nI b)], [.int (nI 0)], M)) rfl ?_
    exact am_ends (nI 0) _ rfl (by first | rw [if_pos (by assumption)] | rw [if_neg (by simp [*])]) rfl
  · refine am_goR 4 (s2 := (13, [.ref 1, .int (nI i), .int (nI b)], [.int ((-nI 9)), .int (nI b), .int (nI i), .ref 1], M)) rfl ?_
    refine am_goX (v := nI (sp_bs (fun q => sp_cn a f k h i b 9 q) 12)) (M2 := M) (s2 := (16, [.ref 1, .int (nI i), .int (nI b)], [], M)) rfl (s_openTon_1 hS hO (i := i) (b := b) (by omega) (by omega)) ?_
    refine am_goR 1 (s2 := (20, [.ref 1, .int (nI i), .int (nI b)], [.int (nI (sp_bs (fun q => sp_cn a f k h i b 9 q) 12))], M)) rfl ?_
    exact am_ends (nI (sp_bs (fun q => sp_cn a f k h i b 9 q) 12)) _ rfl (by first | rw [if_pos (by assumption)] | rw [if_neg (by simp [*])]) rfl

set_option maxHeartbeats 4000000 in
theorem s_canGo_1 {M : am_Mem} {a f hr hs lt : Nat} {k h : Nat → Nat} (hS : sp_S 1 M a f hr hs lt k h) (hO : sp_ok a f hr lt k h) {i : Nat} (hi : i < a) {b j : Nat} (hb : b < 2) (hj : j < 32) : am_go 15 (am_ent 15 [.ref 1, .int (nI i), .int (nI b), .int (nI j)] M) (am_is (am_b (sp_wk lt (k i) hr && sp_cn a f k h i b 9 j)) M) := by
  obtain ⟨hF, hA, hHr, hHs, hLt, hK, hH⟩ := id hS
  obtain ⟨oA, oF, oHr, oLt, oK, oH⟩ := id hO
  have oKi := oK i
  have oR := sp_rc_lt (k i)
  have hg : (if sp_wk lt (k i) hr = true then sp_bs (fun q => sp_cn a f k h i b 9 q) 12 else 0) < 4096 := by split <;> first | exact sp_bs12 _ | decide
  refine am_goR 3 (s2 := (3, [.ref 1, .int (nI i), .int (nI b), .int (nI j)], [.int (nI b), .int (nI i), .ref 1], M)) rfl ?_
  refine am_goX (v := nI (if sp_wk lt (k i) hr = true then sp_bs (fun q => sp_cn a f k h i b 9 q) 12 else 0)) (M2 := M) (s2 := (6, [.ref 1, .int (nI i), .int (nI b), .int (nI j)], [], M)) rfl (s_goesTo_1 hS hO (i := i) (b := b) (by omega) (by omega)) ?_
  refine am_goR 1 (s2 := (7, [.ref 1, .int (nI i), .int (nI b), .int (nI j)], [.int (nI j), .int (nI (if sp_wk lt (k i) hr = true then sp_bs (fun q => sp_cn a f k h i b 9 q) 12 else 0))], M)) rfl ?_
  refine am_goX (v := am_b ((if sp_wk lt (k i) hr = true then sp_bs (fun q => sp_cn a f k h i b 9 q) 12 else 0).testBit j)) (M2 := M) (s2 := (10, [.ref 1, .int (nI i), .int (nI b), .int (nI j)], [], M)) rfl (s_hasBit1 (x := (if sp_wk lt (k i) hr = true then sp_bs (fun q => sp_cn a f k h i b 9 q) 12 else 0)) (j := j) (by omega) (by omega)) ?_
  exact am_endz ((if sp_wk lt (k i) hr = true then sp_bs (fun q => sp_cn a f k h i b 9 q) 12 else 0).testBit j) _ rfl (by by_cases hw : sp_wk lt (k i) hr = true <;> simp [hw, sp_bs_cn oF]) (rfl)

set_option maxHeartbeats 4000000 in
theorem s_hasStepButn_1 {M : am_Mem} {a f hr hs lt : Nat} {k h : Nat → Nat} (hS : sp_S 1 M a f hr hs lt k h) (hO : sp_ok a f hr lt k h) {i : Nat} (hi : i < a)  : am_go 20 (am_ent 20 [.ref 1, .int (nI i), .int ((-nI 9))] M) (am_is (am_b (sp_st a f k h i 9)) M) := by
  obtain ⟨hF, hA, hHr, hHs, hLt, hK, hH⟩ := id hS
  obtain ⟨oA, oF, oHr, oLt, oK, oH⟩ := id hO
  have oKi := oK i
  have oR := sp_rc_lt (k i)
  have hg := sp_or12 (sp_bs12 (fun q => sp_cn a f k h i 0 9 q)) (sp_bs12 (fun q => sp_cn a f k h i 1 9 q))
  refine am_goR 4 (s2 := (4, [.ref 1, .int (nI i), .int ((-nI 9))], [.int ((-nI 9)), .int (nI 0), .int (nI i), .ref 1], M)) rfl ?_
  refine am_goX (v := nI (sp_bs (fun q => sp_cn a f k h i 0 9 q) 12)) (M2 := M) (s2 := (7, [.ref 1, .int (nI i), .int ((-nI 9))], [], M)) rfl (s_openTon_1 hS hO (i := i) (b := 0) (by omega) (by omega)) ?_
  refine am_goR 4 (s2 := (11, [.ref 1, .int (nI i), .int ((-nI 9))], [.int ((-nI 9)), .int (nI 1), .int (nI i), .ref 1, .int (nI (sp_bs (fun q => sp_cn a f k h i 0 9 q) 12))], M)) rfl ?_
  refine am_goX (v := nI (sp_bs (fun q => sp_cn a f k h i 1 9 q) 12)) (M2 := M) (s2 := (14, [.ref 1, .int (nI i), .int ((-nI 9))], [.int (nI (sp_bs (fun q => sp_cn a f k h i 0 9 q) 12))], M)) rfl (s_openTon_1 hS hO (i := i) (b := 1) (by omega) (by omega)) ?_
  refine am_goQ 1 (s1 := (15, [.ref 1, .int (nI i), .int ((-nI 9))], [.int ((nI (sp_bs (fun q => sp_cn a f k h i 0 9 q) 12) ||| nI (sp_bs (fun q => sp_cn a f k h i 1 9 q) 12)))], M)) (s2 := (15, [.ref 1, .int (nI i), .int ((-nI 9))], [.int (nI ((sp_bs (fun q => sp_cn a f k h i 0 9 q) 12) ||| (sp_bs (fun q => sp_cn a f k h i 1 9 q) 12)))], M)) rfl (by simp only [am_or]) ?_
  refine am_bEQ (((sp_bs (fun q => sp_cn a f k h i 0 9 q) 12) ||| (sp_bs (fun q => sp_cn a f k h i 1 9 q) 12))) (0) (s1 := (22, [.ref 1, .int (nI i), .int ((-nI 9))], [], M)) (s2 := (18, [.ref 1, .int (nI i), .int ((-nI 9))], [], M)) rfl (by omega) (by omega) (fun c1 => ?_) (fun c1 => ?_)
  · refine am_goR 1 (s2 := (23, [.ref 1, .int (nI i), .int ((-nI 9))], [.int (nI 0)], M)) rfl ?_
    exact am_endz false _ rfl (by simp [sp_st, *]) (rfl)
  · refine am_goR 2 (s2 := (23, [.ref 1, .int (nI i), .int ((-nI 9))], [.int (nI 1)], M)) rfl ?_
    exact am_endz true _ rfl (by simp [sp_st, *]) (rfl)

set_option maxHeartbeats 4000000 in
theorem s_hasStepButw_1 {M : am_Mem} {a f hr hs lt : Nat} {k h : Nat → Nat} (hS : sp_S 1 M a f hr hs lt k h) (hO : sp_ok a f hr lt k h) {i : Nat} (hi : i < a) {w : Nat} (hw : w < 4) : am_go 20 (am_ent 20 [.ref 1, .int (nI i), .int (nI w)] M) (am_is (am_b (sp_st a f k h i w)) M) := by
  obtain ⟨hF, hA, hHr, hHs, hLt, hK, hH⟩ := id hS
  obtain ⟨oA, oF, oHr, oLt, oK, oH⟩ := id hO
  have oKi := oK i
  have oR := sp_rc_lt (k i)
  have hg := sp_or12 (sp_bs12 (fun q => sp_cn a f k h i 0 w q)) (sp_bs12 (fun q => sp_cn a f k h i 1 w q))
  refine am_goR 4 (s2 := (4, [.ref 1, .int (nI i), .int (nI w)], [.int (nI w), .int (nI 0), .int (nI i), .ref 1], M)) rfl ?_
  refine am_goX (v := nI (sp_bs (fun q => sp_cn a f k h i 0 w q) 12)) (M2 := M) (s2 := (7, [.ref 1, .int (nI i), .int (nI w)], [], M)) rfl (s_openTow_1 hS hO (i := i) (b := 0) (by omega) (by omega) (w := w) (by omega)) ?_
  refine am_goR 4 (s2 := (11, [.ref 1, .int (nI i), .int (nI w)], [.int (nI w), .int (nI 1), .int (nI i), .ref 1, .int (nI (sp_bs (fun q => sp_cn a f k h i 0 w q) 12))], M)) rfl ?_
  refine am_goX (v := nI (sp_bs (fun q => sp_cn a f k h i 1 w q) 12)) (M2 := M) (s2 := (14, [.ref 1, .int (nI i), .int (nI w)], [.int (nI (sp_bs (fun q => sp_cn a f k h i 0 w q) 12))], M)) rfl (s_openTow_1 hS hO (i := i) (b := 1) (by omega) (by omega) (w := w) (by omega)) ?_
  refine am_goQ 1 (s1 := (15, [.ref 1, .int (nI i), .int (nI w)], [.int ((nI (sp_bs (fun q => sp_cn a f k h i 0 w q) 12) ||| nI (sp_bs (fun q => sp_cn a f k h i 1 w q) 12)))], M)) (s2 := (15, [.ref 1, .int (nI i), .int (nI w)], [.int (nI ((sp_bs (fun q => sp_cn a f k h i 0 w q) 12) ||| (sp_bs (fun q => sp_cn a f k h i 1 w q) 12)))], M)) rfl (by simp only [am_or]) ?_
  refine am_bEQ (((sp_bs (fun q => sp_cn a f k h i 0 w q) 12) ||| (sp_bs (fun q => sp_cn a f k h i 1 w q) 12))) (0) (s1 := (22, [.ref 1, .int (nI i), .int (nI w)], [], M)) (s2 := (18, [.ref 1, .int (nI i), .int (nI w)], [], M)) rfl (by omega) (by omega) (fun c1 => ?_) (fun c1 => ?_)
  · refine am_goR 1 (s2 := (23, [.ref 1, .int (nI i), .int (nI w)], [.int (nI 0)], M)) rfl ?_
    exact am_endz false _ rfl (by simp [sp_st, *]) (rfl)
  · refine am_goR 2 (s2 := (23, [.ref 1, .int (nI i), .int (nI w)], [.int (nI 1)], M)) rfl ?_
    exact am_endz true _ rfl (by simp [sp_st, *]) (rfl)

set_option maxHeartbeats 4000000 in
theorem s_isBlocked_1 {M : am_Mem} {a f hr hs lt : Nat} {k h : Nat → Nat} (hS : sp_S 1 M a f hr hs lt k h) (hO : sp_ok a f hr lt k h) {i : Nat} (hi : i < a) : am_go 21 (am_ent 21 [.ref 1, .int (nI i)] M) (am_is (am_b (sp_wk lt (k i) hr && !sp_st a f k h i 9)) M) := by
  obtain ⟨hF, hA, hHr, hHs, hLt, hK, hH⟩ := id hS
  obtain ⟨oA, oF, oHr, oLt, oK, oH⟩ := id hO
  have oKi := oK i
  have oR := sp_rc_lt (k i)
  refine am_goR 2 (s2 := (2, [.ref 1, .int (nI i)], [.int (nI i), .ref 1], M)) rfl ?_
  refine am_goX (v := am_b (sp_wk lt (k i) hr)) (M2 := M) (s2 := (5, [.ref 1, .int (nI i)], [], M)) rfl (s_worksNow_1 hS hO (i := i) (by omega)) ?_
  refine am_bB0 (sp_wk lt (k i) hr) (s1 := (22, [.ref 1, .int (nI i)], [], M)) (s2 := (8, [.ref 1, .int (nI i)], [], M)) rfl (fun c1 => ?_) (fun c1 => ?_)
  · refine am_goR 1 (s2 := (23, [.ref 1, .int (nI i)], [.int (nI 0)], M)) rfl ?_
    exact am_endz false _ rfl (by first | (simp [*]; done) | (simp [*] <;> omega)) (rfl)
  · refine am_goR 3 (s2 := (12, [.ref 1, .int (nI i)], [.int ((-nI 9)), .int (nI i), .ref 1], M)) rfl ?_
    refine am_goX (v := am_b (sp_st a f k h i 9)) (M2 := M) (s2 := (15, [.ref 1, .int (nI i)], [], M)) rfl (s_hasStepButn_1 hS hO (i := i) (by omega)) ?_
    refine am_bB1 (sp_st a f k h i 9) (s1 := (22, [.ref 1, .int (nI i)], [], M)) (s2 := (18, [.ref 1, .int (nI i)], [], M)) rfl (fun c2 => ?_) (fun c2 => ?_)
    · refine am_goR 1 (s2 := (23, [.ref 1, .int (nI i)], [.int (nI 0)], M)) rfl ?_
      exact am_endz false _ rfl (by first | (simp [*]; done) | (simp [*] <;> omega)) (rfl)
    · refine am_goR 2 (s2 := (23, [.ref 1, .int (nI i)], [.int (nI 1)], M)) rfl ?_
      exact am_endz true _ rfl (by first | (simp [*]; done) | (simp [*] <;> omega)) (rfl)

set_option maxHeartbeats 4000000 in
theorem s_near_1 {M : am_Mem} {a f hr hs lt : Nat} {k h : Nat → Nat} (hS : sp_S 1 M a f hr hs lt k h) (hO : sp_ok a f hr lt k h) {i : Nat} (hi : i < a) {j m : Nat} (hj : j < 1073741824) (hm : m < 2147483648) : am_go 26 (am_ent 26 [.ref 1, .int (nI i), .int (nI j), .int (nI m)] M) (am_is (am_b (sp_nr h i j m)) M) := by
  obtain ⟨hF, hA, hHr, hHs, hLt, hK, hH⟩ := id hS
  obtain ⟨oA, oF, oHr, oLt, oK, oH⟩ := id hO
  have oH0 := oH (2 * i)
  have oH1 := oH (2 * i + 1)
  have hd0 : sp_ds (h (2 * i)) j < 2147483648 := by unfold sp_ds; omega
  have hd1 : sp_ds (h (2 * i + 1)) j < 2147483648 := by unfold sp_ds; omega
  refine am_goR 3 (s2 := (3, [.ref 1, .int (nI i), .int (nI j), .int (nI m)], [.int (nI 0), .int (nI i), .ref 1], M)) rfl ?_
  refine am_goX (v := nI (h (2 * i))) (M2 := M) (s2 := (6, [.ref 1, .int (nI i), .int (nI j), .int (nI m)], [], M)) rfl (s_handOn_1 hS hO (i := i) (b := 0) (by omega) (by omega)) ?_
  refine am_goQ 4 (s1 := (12, [.ref 1, .int (nI i), .int (nI j), .int (nI m)], [.int (nI m), .int ((am_abs (nI (h (2 * i)) - nI j)))], M)) (s2 := (12, [.ref 1, .int (nI i), .int (nI j), .int (nI m)], [.int (nI m), .int (nI (sp_ds (h (2 * i)) j))], M)) rfl (by simp only [am_absd (x := (h (2 * i))) (y := j) (by omega) (by omega)]) ?_
  refine am_bLE ((sp_ds (h (2 * i)) j)) (m) (s1 := (30, [.ref 1, .int (nI i), .int (nI j), .int (nI m)], [], M)) (s2 := (15, [.ref 1, .int (nI i), .int (nI j), .int (nI m)], [], M)) rfl (by omega) (by omega) (fun c1 => ?_) (fun c1 => ?_)
  · refine am_goR 2 (s2 := (35, [.ref 1, .int (nI i), .int (nI j), .int (nI m)], [.int (nI 1)], M)) rfl ?_
    exact am_endz true _ rfl (by unfold sp_nr; first | (simp [*]; done) | (simp <;> omega)) (rfl)
  · refine am_goR 3 (s2 := (18, [.ref 1, .int (nI i), .int (nI j), .int (nI m)], [.int (nI 1), .int (nI i), .ref 1], M)) rfl ?_
    refine am_goX (v := nI (h ((2 * i) + 1))) (M2 := M) (s2 := (21, [.ref 1, .int (nI i), .int (nI j), .int (nI m)], [], M)) rfl (s_handOn_1 hS hO (i := i) (b := 1) (by omega) (by omega)) ?_
    refine am_goQ 4 (s1 := (27, [.ref 1, .int (nI i), .int (nI j), .int (nI m)], [.int (nI m), .int ((am_abs (nI (h ((2 * i) + 1)) - nI j)))], M)) (s2 := (27, [.ref 1, .int (nI i), .int (nI j), .int (nI m)], [.int (nI m), .int (nI (sp_ds (h ((2 * i) + 1)) j))], M)) rfl (by simp only [am_absd (x := (h ((2 * i) + 1))) (y := j) (by omega) (by omega)]) ?_
    refine am_bLT (m) ((sp_ds (h ((2 * i) + 1)) j)) (s1 := (34, [.ref 1, .int (nI i), .int (nI j), .int (nI m)], [], M)) (s2 := (30, [.ref 1, .int (nI i), .int (nI j), .int (nI m)], [], M)) rfl (by omega) (by omega) (fun c2 => ?_) (fun c2 => ?_)
    · refine am_goR 1 (s2 := (35, [.ref 1, .int (nI i), .int (nI j), .int (nI m)], [.int (nI 0)], M)) rfl ?_
      exact am_endz false _ rfl (by unfold sp_nr; first | (simp [*]; done) | (simp <;> omega)) (rfl)
    · refine am_goR 2 (s2 := (35, [.ref 1, .int (nI i), .int (nI j), .int (nI m)], [.int (nI 1)], M)) rfl ?_
      exact am_endz true _ rfl (by unfold sp_nr; first | (simp [*]; done) | (simp <;> omega)) (rfl)

set_option maxHeartbeats 4000000 in
theorem s_beside_1 {M : am_Mem} {a f hr hs lt : Nat} {k h : Nat → Nat} (hS : sp_S 1 M a f hr hs lt k h) (hO : sp_ok a f hr lt k h) {i : Nat} (hi : i < a) {j : Nat} (hj : j < 1073741824) : am_go 17 (am_ent 17 [.ref 1, .int (nI i), .int (nI j)] M) (am_is (am_b (sp_be h i j)) M) := by
  obtain ⟨hF, hA, hHr, hHs, hLt, hK, hH⟩ := id hS
  obtain ⟨oA, oF, oHr, oLt, oK, oH⟩ := id hO
  have oH0 := oH (2 * i)
  have oH1 := oH (2 * i + 1)
  have hd0 : sp_ds (h (2 * i)) j < 2147483648 := by unfold sp_ds; omega
  have hd1 : sp_ds (h (2 * i + 1)) j < 2147483648 := by unfold sp_ds; omega
  refine am_goR 3 (s2 := (3, [.ref 1, .int (nI i), .int (nI j)], [.int (nI 0), .int (nI i), .ref 1], M)) rfl ?_
  refine am_goX (v := nI (h (2 * i))) (M2 := M) (s2 := (6, [.ref 1, .int (nI i), .int (nI j)], [], M)) rfl (s_handOn_1 hS hO (i := i) (b := 0) (by omega) (by omega)) ?_
  refine am_goQ 4 (s1 := (12, [.ref 1, .int (nI i), .int (nI j)], [.int (nI 1), .int ((am_abs (nI (h (2 * i)) - nI j)))], M)) (s2 := (12, [.ref 1, .int (nI i), .int (nI j)], [.int (nI 1), .int (nI (sp_ds (h (2 * i)) j))], M)) rfl (by simp only [am_absd (x := (h (2 * i))) (y := j) (by omega) (by omega)]) ?_
  refine am_bEQ ((sp_ds (h (2 * i)) j)) (1) (s1 := (30, [.ref 1, .int (nI i), .int (nI j)], [], M)) (s2 := (15, [.ref 1, .int (nI i), .int (nI j)], [], M)) rfl (by omega) (by omega) (fun c1 => ?_) (fun c1 => ?_)
  · refine am_goR 2 (s2 := (35, [.ref 1, .int (nI i), .int (nI j)], [.int (nI 1)], M)) rfl ?_
    exact am_endz true _ rfl (by unfold sp_be; first | (simp [*]; done) | (simp <;> omega)) (rfl)
  · refine am_goR 3 (s2 := (18, [.ref 1, .int (nI i), .int (nI j)], [.int (nI 1), .int (nI i), .ref 1], M)) rfl ?_
    refine am_goX (v := nI (h ((2 * i) + 1))) (M2 := M) (s2 := (21, [.ref 1, .int (nI i), .int (nI j)], [], M)) rfl (s_handOn_1 hS hO (i := i) (b := 1) (by omega) (by omega)) ?_
    refine am_goQ 4 (s1 := (27, [.ref 1, .int (nI i), .int (nI j)], [.int (nI 1), .int ((am_abs (nI (h ((2 * i) + 1)) - nI j)))], M)) (s2 := (27, [.ref 1, .int (nI i), .int (nI j)], [.int (nI 1), .int (nI (sp_ds (h ((2 * i) + 1)) j))], M)) rfl (by simp only [am_absd (x := (h ((2 * i) + 1))) (y := j) (by omega) (by omega)]) ?_
    refine am_bNE ((sp_ds (h ((2 * i) + 1)) j)) (1) (s1 := (34, [.ref 1, .int (nI i), .int (nI j)], [], M)) (s2 := (30, [.ref 1, .int (nI i), .int (nI j)], [], M)) rfl (by omega) (by omega) (fun c2 => ?_) (fun c2 => ?_)
    · refine am_goR 1 (s2 := (35, [.ref 1, .int (nI i), .int (nI j)], [.int (nI 0)], M)) rfl ?_
      exact am_endz false _ rfl (by unfold sp_be; first | (simp [*]; done) | (simp <;> omega)) (rfl)
    · refine am_goR 2 (s2 := (35, [.ref 1, .int (nI i), .int (nI j)], [.int (nI 1)], M)) rfl ?_
      exact am_endz true _ rfl (by unfold sp_be; first | (simp [*]; done) | (simp <;> omega)) (rfl)

set_option maxHeartbeats 4000000 in
theorem s_together_1 {M : am_Mem} {a f hr hs lt : Nat} {k h : Nat → Nat} (hS : sp_S 1 M a f hr hs lt k h) (hO : sp_ok a f hr lt k h) {i : Nat} (hi : i < a) {i2 : Nat} (hi2 : i2 < a) : am_go 28 (am_ent 28 [.ref 1, .int (nI i), .int (nI i2)] M) (am_is (am_b (sp_ht h i i2)) M) := by
  obtain ⟨hF, hA, hHr, hHs, hLt, hK, hH⟩ := id hS
  obtain ⟨oA, oF, oHr, oLt, oK, oH⟩ := id hO
  have oH0 := oH (2 * i)
  have oH1 := oH (2 * i + 1)
  refine am_goR 5 (s2 := (5, [.ref 1, .int (nI i), .int (nI i2)], [.int (nI 0), .int (nI i), .ref 1, .int (nI i2), .ref 1], M)) rfl ?_
  refine am_goX (v := nI (h (2 * i))) (M2 := M) (s2 := (8, [.ref 1, .int (nI i), .int (nI i2)], [.int (nI i2), .ref 1], M)) rfl (s_handOn_1 hS hO (i := i) (b := 0) (by omega) (by omega)) ?_
  refine am_goR 1 (s2 := (9, [.ref 1, .int (nI i), .int (nI i2)], [.int (nI 2), .int (nI (h (2 * i))), .int (nI i2), .ref 1], M)) rfl ?_
  refine am_goX (v := am_b (sp_nr h i2 (h (2 * i)) 2)) (M2 := M) (s2 := (12, [.ref 1, .int (nI i), .int (nI i2)], [], M)) rfl (s_near_1 hS hO (i := i2) (j := (h (2 * i))) (m := 2) (by omega) (by omega) (by omega)) ?_
  refine am_bB1 (sp_nr h i2 (h (2 * i)) 2) (s1 := (30, [.ref 1, .int (nI i), .int (nI i2)], [], M)) (s2 := (15, [.ref 1, .int (nI i), .int (nI i2)], [], M)) rfl (fun c1 => ?_) (fun c1 => ?_)
  · refine am_goR 2 (s2 := (35, [.ref 1, .int (nI i), .int (nI i2)], [.int (nI 1)], M)) rfl ?_
    exact am_endz true _ rfl (by unfold sp_ht; simp [*]) (rfl)
  · refine am_goR 5 (s2 := (20, [.ref 1, .int (nI i), .int (nI i2)], [.int (nI 1), .int (nI i), .ref 1, .int (nI i2), .ref 1], M)) rfl ?_
    refine am_goX (v := nI (h ((2 * i) + 1))) (M2 := M) (s2 := (23, [.ref 1, .int (nI i), .int (nI i2)], [.int (nI i2), .ref 1], M)) rfl (s_handOn_1 hS hO (i := i) (b := 1) (by omega) (by omega)) ?_
    refine am_goR 1 (s2 := (24, [.ref 1, .int (nI i), .int (nI i2)], [.int (nI 2), .int (nI (h ((2 * i) + 1))), .int (nI i2), .ref 1], M)) rfl ?_
    refine am_goX (v := am_b (sp_nr h i2 (h ((2 * i) + 1)) 2)) (M2 := M) (s2 := (27, [.ref 1, .int (nI i), .int (nI i2)], [], M)) rfl (s_near_1 hS hO (i := i2) (j := (h ((2 * i) + 1))) (m := 2) (by omega) (by omega) (by omega)) ?_
    refine am_bB0 (sp_nr h i2 (h ((2 * i) + 1)) 2) (s1 := (34, [.ref 1, .int (nI i), .int (nI i2)], [], M)) (s2 := (30, [.ref 1, .int (nI i), .int (nI i2)], [], M)) rfl (fun c2 => ?_) (fun c2 => ?_)
    · refine am_goR 1 (s2 := (35, [.ref 1, .int (nI i), .int (nI i2)], [.int (nI 0)], M)) rfl ?_
      exact am_endz false _ rfl (by unfold sp_ht; simp [*]) (rfl)
    · refine am_goR 2 (s2 := (35, [.ref 1, .int (nI i), .int (nI i2)], [.int (nI 1)], M)) rfl ?_
      exact am_endz true _ rfl (by unfold sp_ht; simp [*]) (rfl)

set_option maxHeartbeats 4000000 in
theorem s_canFix_1 {M : am_Mem} {a f hr hs lt : Nat} {k h : Nat → Nat} (hS : sp_S 1 M a f hr hs lt k h) (hO : sp_ok a f hr lt k h) {i : Nat} (hi : i < a) {j : Nat} (hj : j < 12) : am_go 18 (am_ent 18 [.ref 1, .int (nI i), .int (nI j)] M) (am_is (am_b (sp_wk lt (k i) hr && sp_be h i j && !f.testBit j)) M) := by
  obtain ⟨hF, hA, hHr, hHs, hLt, hK, hH⟩ := id hS
  obtain ⟨oA, oF, oHr, oLt, oK, oH⟩ := id hO
  have oKi := oK i
  have oR := sp_rc_lt (k i)
  refine am_goR 2 (s2 := (2, [.ref 1, .int (nI i), .int (nI j)], [.int (nI i), .ref 1], M)) rfl ?_
  refine am_goX (v := am_b (sp_wk lt (k i) hr)) (M2 := M) (s2 := (5, [.ref 1, .int (nI i), .int (nI j)], [], M)) rfl (s_worksNow_1 hS hO (i := i) (by omega)) ?_
  refine am_bB0 (sp_wk lt (k i) hr) (s1 := (29, [.ref 1, .int (nI i), .int (nI j)], [], M)) (s2 := (8, [.ref 1, .int (nI i), .int (nI j)], [], M)) rfl (fun c1 => ?_) (fun c1 => ?_)
  · refine am_goR 1 (s2 := (30, [.ref 1, .int (nI i), .int (nI j)], [.int (nI 0)], M)) rfl ?_
    exact am_endz false _ rfl (by first | (simp [*]; done) | (simp [*] <;> omega)) (rfl)
  · refine am_goR 3 (s2 := (11, [.ref 1, .int (nI i), .int (nI j)], [.int (nI j), .int (nI i), .ref 1], M)) rfl ?_
    refine am_goX (v := am_b (sp_be h i j)) (M2 := M) (s2 := (14, [.ref 1, .int (nI i), .int (nI j)], [], M)) rfl (s_beside_1 hS hO (i := i) (j := j) (by omega) (by omega)) ?_
    refine am_bB0 (sp_be h i j) (s1 := (29, [.ref 1, .int (nI i), .int (nI j)], [], M)) (s2 := (17, [.ref 1, .int (nI i), .int (nI j)], [], M)) rfl (fun c2 => ?_) (fun c2 => ?_)
    · refine am_goR 1 (s2 := (30, [.ref 1, .int (nI i), .int (nI j)], [.int (nI 0)], M)) rfl ?_
      exact am_endz false _ rfl (by first | (simp [*]; done) | (simp [*] <;> omega)) (rfl)
    · refine am_goR 2 (s2 := (19, [.ref 1, .int (nI i), .int (nI j)], [.int (nI j), .ref 1], M)) rfl ?_
      refine am_goX (v := am_b (f.testBit j)) (M2 := M) (s2 := (22, [.ref 1, .int (nI i), .int (nI j)], [], M)) rfl (s_isFixed_1 hS hO (j := j) (by omega)) ?_
      refine am_bB1 (f.testBit j) (s1 := (29, [.ref 1, .int (nI i), .int (nI j)], [], M)) (s2 := (25, [.ref 1, .int (nI i), .int (nI j)], [], M)) rfl (fun c3 => ?_) (fun c3 => ?_)
      · refine am_goR 1 (s2 := (30, [.ref 1, .int (nI i), .int (nI j)], [.int (nI 0)], M)) rfl ?_
        exact am_endz false _ rfl (by first | (simp [*]; done) | (simp [*] <;> omega)) (rfl)
      · refine am_goR 2 (s2 := (30, [.ref 1, .int (nI i), .int (nI j)], [.int (nI 1)], M)) rfl ?_
        exact am_endz true _ rfl (by first | (simp [*]; done) | (simp [*] <;> omega)) (rfl)

set_option maxHeartbeats 4000000 in
theorem s_canFree_1 {M : am_Mem} {a f hr hs lt : Nat} {k h : Nat → Nat} (hS : sp_S 1 M a f hr hs lt k h) (hO : sp_ok a f hr lt k h) {i : Nat} (hi : i < a) {j : Nat} (hj : j < 12) : am_go 19 (am_ent 19 [.ref 1, .int (nI i), .int (nI j)] M) (am_is (am_b (sp_wk lt (k i) hr && sp_be h i j && f.testBit j && (sp_wo h j (2 * a)).isNone)) M) := by
  obtain ⟨hF, hA, hHr, hHs, hLt, hK, hH⟩ := id hS
  obtain ⟨oA, oF, oHr, oLt, oK, oH⟩ := id hO
  have oKi := oK i
  have oR := sp_rc_lt (k i)
  refine am_goR 2 (s2 := (2, [.ref 1, .int (nI i), .int (nI j)], [.int (nI i), .ref 1], M)) rfl ?_
  refine am_goX (v := am_b (sp_wk lt (k i) hr)) (M2 := M) (s2 := (5, [.ref 1, .int (nI i), .int (nI j)], [], M)) rfl (s_worksNow_1 hS hO (i := i) (by omega)) ?_
  refine am_bB0 (sp_wk lt (k i) hr) (s1 := (39, [.ref 1, .int (nI i), .int (nI j)], [], M)) (s2 := (8, [.ref 1, .int (nI i), .int (nI j)], [], M)) rfl (fun c1 => ?_) (fun c1 => ?_)
  · refine am_goR 1 (s2 := (40, [.ref 1, .int (nI i), .int (nI j)], [.int (nI 0)], M)) rfl ?_
    exact am_endz false _ rfl (by first | (simp [*]; done) | (simp [*] <;> omega)) (rfl)
  · refine am_goR 3 (s2 := (11, [.ref 1, .int (nI i), .int (nI j)], [.int (nI j), .int (nI i), .ref 1], M)) rfl ?_
    refine am_goX (v := am_b (sp_be h i j)) (M2 := M) (s2 := (14, [.ref 1, .int (nI i), .int (nI j)], [], M)) rfl (s_beside_1 hS hO (i := i) (j := j) (by omega) (by omega)) ?_
    refine am_bB0 (sp_be h i j) (s1 := (39, [.ref 1, .int (nI i), .int (nI j)], [], M)) (s2 := (17, [.ref 1, .int (nI i), .int (nI j)], [], M)) rfl (fun c2 => ?_) (fun c2 => ?_)
    · refine am_goR 1 (s2 := (40, [.ref 1, .int (nI i), .int (nI j)], [.int (nI 0)], M)) rfl ?_
      exact am_endz false _ rfl (by first | (simp [*]; done) | (simp [*] <;> omega)) (rfl)
    · refine am_goR 2 (s2 := (19, [.ref 1, .int (nI i), .int (nI j)], [.int (nI j), .ref 1], M)) rfl ?_
      refine am_goX (v := am_b (f.testBit j)) (M2 := M) (s2 := (22, [.ref 1, .int (nI i), .int (nI j)], [], M)) rfl (s_isFixed_1 hS hO (j := j) (by omega)) ?_
      refine am_bB0 (f.testBit j) (s1 := (39, [.ref 1, .int (nI i), .int (nI j)], [], M)) (s2 := (25, [.ref 1, .int (nI i), .int (nI j)], [], M)) rfl (fun c3 => ?_) (fun c3 => ?_)
      · refine am_goR 1 (s2 := (40, [.ref 1, .int (nI i), .int (nI j)], [.int (nI 0)], M)) rfl ?_
        exact am_endz false _ rfl (by first | (simp [*]; done) | (simp [*] <;> omega)) (rfl)
      · refine am_goR 2 (s2 := (27, [.ref 1, .int (nI i), .int (nI j)], [.int (nI j), .ref 1], M)) rfl ?_
        rcases hw5 : sp_wo h j (2 * a) with _ | q4
        · refine am_goX (v := (-nI 9)) (M2 := M) (s2 := (30, [.ref 1, .int (nI i), .int (nI j)], [], M)) rfl (s_whoIsOnN_1 hS hO (j := j) (by omega) hw5) ?_
          refine am_goR 4 (s2 := (40, [.ref 1, .int (nI i), .int (nI j)], [.int (nI 1)], M)) rfl ?_
          exact am_endz true _ rfl (by first | (simp [*]; done) | (simp [*] <;> omega)) (rfl)
        · refine am_goX (v := nI ((10 * (q4 / 2)) + (q4 % 2))) (M2 := M) (s2 := (30, [.ref 1, .int (nI i), .int (nI j)], [], M)) rfl (s_whoIsOnS_1 hS hO (j := j) (by omega) hw5) ?_
          have hq4 := (sp_wo_some.mp hw5).1
          refine am_goR 1 (s2 := (32, [.ref 1, .int (nI i), .int (nI j)], [.int ((-nI 9)), .int (nI ((10 * (q4 / 2)) + (q4 % 2)))], M)) rfl ?_
          refine am_bTn (s1 := (39, [.ref 1, .int (nI i), .int (nI j)], [], M)) (s2 := (35, [.ref 1, .int (nI i), .int (nI j)], [], M)) rfl (am_nm_ne (x := ((10 * (q4 / 2)) + (q4 % 2))) (m := 9) (by omega) (by decide) (by decide)) ?_
          refine am_goR 1 (s2 := (40, [.ref 1, .int (nI i), .int (nI j)], [.int (nI 0)], M)) rfl ?_
          exact am_endz false _ rfl (by first | (simp [*]; done) | (simp [*] <;> omega)) (rfl)

set_option maxHeartbeats 4000000 in
theorem s_close_1 {M : am_Mem} {a f hr hs lt : Nat} {k h : Nat → Nat} (hS : sp_S 1 M a f hr hs lt k h) (hO : sp_ok a f hr lt k h) {i : Nat} (hi : i < a) {i2 : Nat} (hi2 : i2 < a) : am_go 23 (am_ent 23 [.ref 1, .int (nI i), .int (nI i2)] M) (am_is (am_b ((sp_wk lt (k i) hr && !sp_st a f k h i 9) && (sp_wk lt (k i2) hr && !sp_st a f k h i2 9) && sp_st a f k h i i2 && sp_st a f k h i2 i)) M) := by
  obtain ⟨hF, hA, hHr, hHs, hLt, hK, hH⟩ := id hS
  obtain ⟨oA, oF, oHr, oLt, oK, oH⟩ := id hO
  have oKi := oK i
  have oR := sp_rc_lt (k i)
  refine am_goR 2 (s2 := (2, [.ref 1, .int (nI i), .int (nI i2)], [.int (nI i), .ref 1], M)) rfl ?_
  refine am_goX (v := am_b (sp_wk lt (k i) hr && !sp_st a f k h i 9)) (M2 := M) (s2 := (5, [.ref 1, .int (nI i), .int (nI i2)], [], M)) rfl (s_isBlocked_1 hS hO (i := i) (by omega)) ?_
  refine am_bB0 (sp_wk lt (k i) hr && !sp_st a f k h i 9) (s1 := (38, [.ref 1, .int (nI i), .int (nI i2)], [], M)) (s2 := (8, [.ref 1, .int (nI i), .int (nI i2)], [], M)) rfl (fun c1 => ?_) (fun c1 => ?_)
  · refine am_goR 1 (s2 := (39, [.ref 1, .int (nI i), .int (nI i2)], [.int (nI 0)], M)) rfl ?_
    exact am_endz false _ rfl (by first | (simp [*]; done) | (simp [*] <;> omega)) (rfl)
  · refine am_goR 2 (s2 := (10, [.ref 1, .int (nI i), .int (nI i2)], [.int (nI i2), .ref 1], M)) rfl ?_
    refine am_goX (v := am_b (sp_wk lt (k i2) hr && !sp_st a f k h i2 9)) (M2 := M) (s2 := (13, [.ref 1, .int (nI i), .int (nI i2)], [], M)) rfl (s_isBlocked_1 hS hO (i := i2) (by omega)) ?_
    refine am_bB0 (sp_wk lt (k i2) hr && !sp_st a f k h i2 9) (s1 := (38, [.ref 1, .int (nI i), .int (nI i2)], [], M)) (s2 := (16, [.ref 1, .int (nI i), .int (nI i2)], [], M)) rfl (fun c2 => ?_) (fun c2 => ?_)
    · refine am_goR 1 (s2 := (39, [.ref 1, .int (nI i), .int (nI i2)], [.int (nI 0)], M)) rfl ?_
      exact am_endz false _ rfl (by first | (simp [*]; done) | (simp [*] <;> omega)) (rfl)
    · refine am_goR 3 (s2 := (19, [.ref 1, .int (nI i), .int (nI i2)], [.int (nI i2), .int (nI i), .ref 1], M)) rfl ?_
      refine am_goX (v := am_b (sp_st a f k h i i2)) (M2 := M) (s2 := (22, [.ref 1, .int (nI i), .int (nI i2)], [], M)) rfl (s_hasStepButw_1 hS hO (i := i) (by omega) (w := i2) (by omega)) ?_
      refine am_bB0 (sp_st a f k h i i2) (s1 := (38, [.ref 1, .int (nI i), .int (nI i2)], [], M)) (s2 := (25, [.ref 1, .int (nI i), .int (nI i2)], [], M)) rfl (fun c3 => ?_) (fun c3 => ?_)
      · refine am_goR 1 (s2 := (39, [.ref 1, .int (nI i), .int (nI i2)], [.int (nI 0)], M)) rfl ?_
        exact am_endz false _ rfl (by first | (simp [*]; done) | (simp [*] <;> omega)) (rfl)
      · refine am_goR 3 (s2 := (28, [.ref 1, .int (nI i), .int (nI i2)], [.int (nI i), .int (nI i2), .ref 1], M)) rfl ?_
        refine am_goX (v := am_b (sp_st a f k h i2 i)) (M2 := M) (s2 := (31, [.ref 1, .int (nI i), .int (nI i2)], [], M)) rfl (s_hasStepButw_1 hS hO (i := i2) (by omega) (w := i) (by omega)) ?_
        refine am_bB0 (sp_st a f k h i2 i) (s1 := (38, [.ref 1, .int (nI i), .int (nI i2)], [], M)) (s2 := (34, [.ref 1, .int (nI i), .int (nI i2)], [], M)) rfl (fun c4 => ?_) (fun c4 => ?_)
        · refine am_goR 1 (s2 := (39, [.ref 1, .int (nI i), .int (nI i2)], [.int (nI 0)], M)) rfl ?_
          exact am_endz false _ rfl (by first | (simp [*]; done) | (simp [*] <;> omega)) (rfl)
        · refine am_goR 2 (s2 := (39, [.ref 1, .int (nI i), .int (nI i2)], [.int (nI 1)], M)) rfl ?_
          exact am_endz true _ rfl (by first | (simp [*]; done) | (simp [*] <;> omega)) (rfl)

set_option maxHeartbeats 4000000 in
theorem s_isFree_1 {M : am_Mem} {a f hr hs lt : Nat} {k h : Nat → Nat} (hS : sp_S 1 M a f hr hs lt k h) (hO : sp_ok a f hr lt k h) {j : Nat} (hj : j < 2147483648) : am_go 35 (am_ent 35 [.ref 1, .int (nI j)] M) (am_is (am_b (decide (j < 12) && f.testBit j && (sp_wo h j (2 * a)).isNone)) M) := by
  obtain ⟨hF, hA, hHr, hHs, hLt, hK, hH⟩ := id hS
  obtain ⟨oA, oF, oHr, oLt, oK, oH⟩ := id hO
  refine am_goR 1 (s2 := (1, [.ref 1, .int (nI j)], [.int (nI j)], M)) rfl ?_
  refine am_goX (v := am_b (decide (j < 12))) (M2 := M) (s2 := (4, [.ref 1, .int (nI j)], [], M)) rfl (s_isJointN (j := j) (by omega)) ?_
  refine am_bB0 (decide (j < 12)) (s1 := (29, [.ref 1, .int (nI j)], [], M)) (s2 := (7, [.ref 1, .int (nI j)], [], M)) rfl (fun c1 => ?_) (fun c1 => ?_)
  · have c1d := of_decide_eq_false c1
    refine am_goR 1 (s2 := (30, [.ref 1, .int (nI j)], [.int (nI 0)], M)) rfl ?_
    exact am_endz false _ rfl (by first | (simp [*]; done) | (simp [*] <;> omega)) (rfl)
  · have c1d := of_decide_eq_true c1
    refine am_goR 2 (s2 := (9, [.ref 1, .int (nI j)], [.int (nI j), .ref 1], M)) rfl ?_
    refine am_goX (v := am_b (f.testBit j)) (M2 := M) (s2 := (12, [.ref 1, .int (nI j)], [], M)) rfl (s_isFixed_1 hS hO (j := j) (by omega)) ?_
    refine am_bB0 (f.testBit j) (s1 := (29, [.ref 1, .int (nI j)], [], M)) (s2 := (15, [.ref 1, .int (nI j)], [], M)) rfl (fun c2 => ?_) (fun c2 => ?_)
    · refine am_goR 1 (s2 := (30, [.ref 1, .int (nI j)], [.int (nI 0)], M)) rfl ?_
      exact am_endz false _ rfl (by first | (simp [*]; done) | (simp [*] <;> omega)) (rfl)
    · refine am_goR 2 (s2 := (17, [.ref 1, .int (nI j)], [.int (nI j), .ref 1], M)) rfl ?_
      rcases hw4 : sp_wo h j (2 * a) with _ | q3
      · refine am_goX (v := (-nI 9)) (M2 := M) (s2 := (20, [.ref 1, .int (nI j)], [], M)) rfl (s_whoIsOnN_1 hS hO (j := j) (by omega) hw4) ?_
        refine am_goR 4 (s2 := (30, [.ref 1, .int (nI j)], [.int (nI 1)], M)) rfl ?_
        exact am_endz true _ rfl (by first | (simp [*]; done) | (simp [*] <;> omega)) (rfl)
      · refine am_goX (v := nI ((10 * (q3 / 2)) + (q3 % 2))) (M2 := M) (s2 := (20, [.ref 1, .int (nI j)], [], M)) rfl (s_whoIsOnS_1 hS hO (j := j) (by omega) hw4) ?_
        have hq3 := (sp_wo_some.mp hw4).1
        refine am_goR 1 (s2 := (22, [.ref 1, .int (nI j)], [.int ((-nI 9)), .int (nI ((10 * (q3 / 2)) + (q3 % 2)))], M)) rfl ?_
        refine am_bTn (s1 := (29, [.ref 1, .int (nI j)], [], M)) (s2 := (25, [.ref 1, .int (nI j)], [], M)) rfl (am_nm_ne (x := ((10 * (q3 / 2)) + (q3 % 2))) (m := 9) (by omega) (by decide) (by decide)) ?_
        refine am_goR 1 (s2 := (30, [.ref 1, .int (nI j)], [.int (nI 0)], M)) rfl ?_
        exact am_endz false _ rfl (by first | (simp [*]; done) | (simp [*] <;> omega)) (rfl)

set_option maxHeartbeats 4000000 in
theorem s_openTon_4 {M : am_Mem} {a f hr hs lt : Nat} {k h : Nat → Nat} (hS : sp_S 4 M a f hr hs lt k h) (hO : sp_ok a f hr lt k h) {i : Nat} (hi : i < a) {b : Nat} (hb : b < 2)  : am_go 13 (am_ent 13 [.ref 4, .int (nI i), .int (nI b), .int ((-nI 9))] M) (am_is (nI (sp_bs (fun q => sp_cn a f k h i b 9 q) 12)) M) := by
  obtain ⟨hF, hA, hHr, hHs, hLt, hK, hH⟩ := id hS
  obtain ⟨oA, oF, oHr, oLt, oK, oH⟩ := id hO
  have oKi := oK i
  have oR := sp_rc_lt (k i)
  have oHi := oH (2 * i + (1 - b))
  refine am_goR 3 (s2 := (3, [.ref 4, .int (nI i), .int (nI b), .int ((-nI 9))], [.int (nI b), .int (nI i), .ref 4], M)) rfl ?_
  refine am_goX (v := am_b (decide ((k i) = 4) && decide (b = 0))) (M2 := M) (s2 := (6, [.ref 4, .int (nI i), .int (nI b), .int ((-nI 9))], [], M)) rfl (s_staysPut_4 hS hO (i := i) (b := b) (by omega) (by omega)) ?_
  refine am_bB0 (decide ((k i) = 4) && decide (b = 0)) (s1 := (11, [.ref 4, .int (nI i), .int (nI b), .int ((-nI 9))], [], M)) (s2 := (9, [.ref 4, .int (nI i), .int (nI b), .int ((-nI 9))], [], M)) rfl (fun c1 => ?_) (fun c1 => ?_)
  · refine am_goQ 4 (s1 := (17, [.ref 4, .int (nI i), .int (nI b), .int ((-nI 9))], [.int ((-nI 9)), .ref 4, .int ((M 4 0))], M)) (s2 := (17, [.ref 4, .int (nI i), .int (nI b), .int ((-nI 9))], [.int ((-nI 9)), .ref 4, .int (nI f)], M)) rfl (by simp only [hF]) ?_
    refine am_goX (v := nI (sp_hb h 9 (2 * a))) (M2 := M) (s2 := (20, [.ref 4, .int (nI i), .int (nI b), .int ((-nI 9))], [.int (nI f)], M)) rfl (s_heldButn_4 hS hO) ?_
    refine am_goQ 8 (s1 := (28, [.ref 4, .int (nI i), .int (nI b), .int ((-nI 9))], [.int ((nI 1 - nI b)), .int (nI i), .ref 4, .int ((nI f &&& (nI (sp_hb h 9 (2 * a)) ^^^ (-nI 1))))], M)) (s2 := (28, [.ref 4, .int (nI i), .int (nI b), .int ((-nI 9))], [.int (nI (1 - b)), .int (nI i), .ref 4, .int (nI (f &&& ((sp_hb h 9 (2 * a)) ^^^ 4294967295)))], M)) rfl (by simp only [pk_sub (a := 1) (b := b) (by omega), am_xm, am_and]) ?_
    refine am_goX (v := nI (h ((2 * i) + (1 - b)))) (M2 := M) (s2 := (31, [.ref 4, .int (nI i), .int (nI b), .int ((-nI 9))], [.int (nI (f &&& ((sp_hb h 9 (2 * a)) ^^^ 4294967295)))], M)) rfl (s_handOn_4 hS hO (i := i) (b := (1 - b)) (by omega) (by omega)) ?_
    refine am_goR 2 (s2 := (33, [.ref 4, .int (nI i), .int (nI b), .int ((-nI 9))], [.int (nI i), .ref 4, .int (nI (h ((2 * i) + (1 - b)))), .int (nI (f &&& ((sp_hb h 9 (2 * a)) ^^^ 4294967295)))], M)) rfl ?_
    refine am_goX (v := nI (sp_rc (k i))) (M2 := M) (s2 := (36, [.ref 4, .int (nI i), .int (nI b), .int ((-nI 9))], [.int (nI (h ((2 * i) + (1 - b)))), .int (nI (f &&& ((sp_hb h 9 (2 * a)) ^^^ 4294967295)))], M)) rfl (s_reachOf_4 hS hO (i := i) (by omega)) ?_
    refine am_goX (v := nI (sp_bs (fun q => decide (sp_ds q (h ((2 * i) + (1 - b))) ≤ (sp_rc (k i)))) 12)) (M2 := M) (s2 := (39, [.ref 4, .int (nI i), .int (nI b), .int ((-nI 9))], [.int (nI (f &&& ((sp_hb h 9 (2 * a)) ^^^ 4294967295)))], M)) rfl (s_around (j := (h ((2 * i) + (1 - b)))) (r := (sp_rc (k i))) (by omega) (by omega)) ?_
    refine am_goQ 1 (s1 := (40, [.ref 4, .int (nI i), .int (nI b), .int ((-nI 9))], [.int ((nI (f &&& ((sp_hb h 9 (2 * a)) ^^^ 4294967295)) &&& nI (sp_bs (fun q => decide (sp_ds q (h ((2 * i) + (1 - b))) ≤ (sp_rc (k i)))) 12)))], M)) (s2 := (40, [.ref 4, .int (nI i), .int (nI b), .int ((-nI 9))], [.int (nI ((f &&& ((sp_hb h 9 (2 * a)) ^^^ 4294967295)) &&& (sp_bs (fun q => decide (sp_ds q (h ((2 * i) + (1 - b))) ≤ (sp_rc (k i)))) 12)))], M)) rfl (by simp only [am_and]) ?_
    exact am_ends (nI ((f &&& ((sp_hb h 9 (2 * a)) ^^^ 4294967295)) &&& (sp_bs (fun q => decide (sp_ds q (h ((2 * i) + (1 - b))) ≤ (sp_rc (k i)))) 12))) _ rfl (by rw [sp_open oF hb (by assumption)]) rfl
  · refine am_goR 1 (s2 := (10, [.ref 4, .int (nI i), .int (nI b), .int ((-nI 9))], [.int (nI 0)], M)) rfl ?_
    exact am_ends (nI 0) _ rfl (by rw [← sp_open0 (by assumption)]) rfl

set_option maxHeartbeats 4000000 in
theorem s_openTow_4 {M : am_Mem} {a f hr hs lt : Nat} {k h : Nat → Nat} (hS : sp_S 4 M a f hr hs lt k h) (hO : sp_ok a f hr lt k h) {i : Nat} (hi : i < a) {b : Nat} (hb : b < 2) {w : Nat} (hw : w < 4) : am_go 13 (am_ent 13 [.ref 4, .int (nI i), .int (nI b), .int (nI w)] M) (am_is (nI (sp_bs (fun q => sp_cn a f k h i b w q) 12)) M) := by
  obtain ⟨hF, hA, hHr, hHs, hLt, hK, hH⟩ := id hS
  obtain ⟨oA, oF, oHr, oLt, oK, oH⟩ := id hO
  have oKi := oK i
  have oR := sp_rc_lt (k i)
  have oHi := oH (2 * i + (1 - b))
  refine am_goR 3 (s2 := (3, [.ref 4, .int (nI i), .int (nI b), .int (nI w)], [.int (nI b), .int (nI i), .ref 4], M)) rfl ?_
  refine am_goX (v := am_b (decide ((k i) = 4) && decide (b = 0))) (M2 := M) (s2 := (6, [.ref 4, .int (nI i), .int (nI b), .int (nI w)], [], M)) rfl (s_staysPut_4 hS hO (i := i) (b := b) (by omega) (by omega)) ?_
  refine am_bB0 (decide ((k i) = 4) && decide (b = 0)) (s1 := (11, [.ref 4, .int (nI i), .int (nI b), .int (nI w)], [], M)) (s2 := (9, [.ref 4, .int (nI i), .int (nI b), .int (nI w)], [], M)) rfl (fun c1 => ?_) (fun c1 => ?_)
  · refine am_goQ 4 (s1 := (17, [.ref 4, .int (nI i), .int (nI b), .int (nI w)], [.int (nI w), .ref 4, .int ((M 4 0))], M)) (s2 := (17, [.ref 4, .int (nI i), .int (nI b), .int (nI w)], [.int (nI w), .ref 4, .int (nI f)], M)) rfl (by simp only [hF]) ?_
    refine am_goX (v := nI (sp_hb h w (2 * a))) (M2 := M) (s2 := (20, [.ref 4, .int (nI i), .int (nI b), .int (nI w)], [.int (nI f)], M)) rfl (s_heldButw_4 hS hO (w := w) (by omega)) ?_
    refine am_goQ 8 (s1 := (28, [.ref 4, .int (nI i), .int (nI b), .int (nI w)], [.int ((nI 1 - nI b)), .int (nI i), .ref 4, .int ((nI f &&& (nI (sp_hb h w (2 * a)) ^^^ (-nI 1))))], M)) (s2 := (28, [.ref 4, .int (nI i), .int (nI b), .int (nI w)], [.int (nI (1 - b)), .int (nI i), .ref 4, .int (nI (f &&& ((sp_hb h w (2 * a)) ^^^ 4294967295)))], M)) rfl (by simp only [pk_sub (a := 1) (b := b) (by omega), am_xm, am_and]) ?_
    refine am_goX (v := nI (h ((2 * i) + (1 - b)))) (M2 := M) (s2 := (31, [.ref 4, .int (nI i), .int (nI b), .int (nI w)], [.int (nI (f &&& ((sp_hb h w (2 * a)) ^^^ 4294967295)))], M)) rfl (s_handOn_4 hS hO (i := i) (b := (1 - b)) (by omega) (by omega)) ?_
    refine am_goR 2 (s2 := (33, [.ref 4, .int (nI i), .int (nI b), .int (nI w)], [.int (nI i), .ref 4, .int (nI (h ((2 * i) + (1 - b)))), .int (nI (f &&& ((sp_hb h w (2 * a)) ^^^ 4294967295)))], M)) rfl ?_
    refine am_goX (v := nI (sp_rc (k i))) (M2 := M) (s2 := (36, [.ref 4, .int (nI i), .int (nI b), .int (nI w)], [.int (nI (h ((2 * i) + (1 - b)))), .int (nI (f &&& ((sp_hb h w (2 * a)) ^^^ 4294967295)))], M)) rfl (s_reachOf_4 hS hO (i := i) (by omega)) ?_
    refine am_goX (v := nI (sp_bs (fun q => decide (sp_ds q (h ((2 * i) + (1 - b))) ≤ (sp_rc (k i)))) 12)) (M2 := M) (s2 := (39, [.ref 4, .int (nI i), .int (nI b), .int (nI w)], [.int (nI (f &&& ((sp_hb h w (2 * a)) ^^^ 4294967295)))], M)) rfl (s_around (j := (h ((2 * i) + (1 - b)))) (r := (sp_rc (k i))) (by omega) (by omega)) ?_
    refine am_goQ 1 (s1 := (40, [.ref 4, .int (nI i), .int (nI b), .int (nI w)], [.int ((nI (f &&& ((sp_hb h w (2 * a)) ^^^ 4294967295)) &&& nI (sp_bs (fun q => decide (sp_ds q (h ((2 * i) + (1 - b))) ≤ (sp_rc (k i)))) 12)))], M)) (s2 := (40, [.ref 4, .int (nI i), .int (nI b), .int (nI w)], [.int (nI ((f &&& ((sp_hb h w (2 * a)) ^^^ 4294967295)) &&& (sp_bs (fun q => decide (sp_ds q (h ((2 * i) + (1 - b))) ≤ (sp_rc (k i)))) 12)))], M)) rfl (by simp only [am_and]) ?_
    exact am_ends (nI ((f &&& ((sp_hb h w (2 * a)) ^^^ 4294967295)) &&& (sp_bs (fun q => decide (sp_ds q (h ((2 * i) + (1 - b))) ≤ (sp_rc (k i)))) 12))) _ rfl (by rw [sp_open oF hb (by assumption)]) rfl
  · refine am_goR 1 (s2 := (10, [.ref 4, .int (nI i), .int (nI b), .int (nI w)], [.int (nI 0)], M)) rfl ?_
    exact am_ends (nI 0) _ rfl (by rw [← sp_open0 (by assumption)]) rfl

set_option maxHeartbeats 4000000 in
theorem s_goesTo_4 {M : am_Mem} {a f hr hs lt : Nat} {k h : Nat → Nat} (hS : sp_S 4 M a f hr hs lt k h) (hO : sp_ok a f hr lt k h) {i : Nat} (hi : i < a) {b : Nat} (hb : b < 2) : am_go 14 (am_ent 14 [.ref 4, .int (nI i), .int (nI b)] M) (am_is (nI (if sp_wk lt (k i) hr = true then sp_bs (fun q => sp_cn a f k h i b 9 q) 12 else 0)) M) := by
  obtain ⟨hF, hA, hHr, hHs, hLt, hK, hH⟩ := id hS
  obtain ⟨oA, oF, oHr, oLt, oK, oH⟩ := id hO
  have oKi := oK i
  have oR := sp_rc_lt (k i)
  refine am_goR 2 (s2 := (2, [.ref 4, .int (nI i), .int (nI b)], [.int (nI i), .ref 4], M)) rfl ?_
  refine am_goX (v := am_b (sp_wk lt (k i) hr)) (M2 := M) (s2 := (5, [.ref 4, .int (nI i), .int (nI b)], [], M)) rfl (s_worksNow_4 hS hO (i := i) (by omega)) ?_
  refine am_bB0 (sp_wk lt (k i) hr) (s1 := (19, [.ref 4, .int (nI i), .int (nI b)], [], M)) (s2 := (8, [.ref 4, .int (nI i), .int (nI b)], [], M)) rfl (fun c1 => ?_) (fun c1 => ?_)
  · refine am_goR 1 (s2 := (20, [.ref 4, .int (nI i), .int (nI b)], [.int (nI 0)], M)) rfl ?_
    exact am_ends (nI 0) _ rfl (by first | rw [if_pos (by assumption)] | rw [if_neg (by simp [*])]) rfl
  · refine am_goR 4 (s2 := (13, [.ref 4, .int (nI i), .int (nI b)], [.int ((-nI 9)), .int (nI b), .int (nI i), .ref 4], M)) rfl ?_
    refine am_goX (v := nI (sp_bs (fun q => sp_cn a f k h i b 9 q) 12)) (M2 := M) (s2 := (16, [.ref 4, .int (nI i), .int (nI b)], [], M)) rfl (s_openTon_4 hS hO (i := i) (b := b) (by omega) (by omega)) ?_
    refine am_goR 1 (s2 := (20, [.ref 4, .int (nI i), .int (nI b)], [.int (nI (sp_bs (fun q => sp_cn a f k h i b 9 q) 12))], M)) rfl ?_
    exact am_ends (nI (sp_bs (fun q => sp_cn a f k h i b 9 q) 12)) _ rfl (by first | rw [if_pos (by assumption)] | rw [if_neg (by simp [*])]) rfl

set_option maxHeartbeats 4000000 in
theorem s_canGo_4 {M : am_Mem} {a f hr hs lt : Nat} {k h : Nat → Nat} (hS : sp_S 4 M a f hr hs lt k h) (hO : sp_ok a f hr lt k h) {i : Nat} (hi : i < a) {b j : Nat} (hb : b < 2) (hj : j < 32) : am_go 15 (am_ent 15 [.ref 4, .int (nI i), .int (nI b), .int (nI j)] M) (am_is (am_b (sp_wk lt (k i) hr && sp_cn a f k h i b 9 j)) M) := by
  obtain ⟨hF, hA, hHr, hHs, hLt, hK, hH⟩ := id hS
  obtain ⟨oA, oF, oHr, oLt, oK, oH⟩ := id hO
  have oKi := oK i
  have oR := sp_rc_lt (k i)
  have hg : (if sp_wk lt (k i) hr = true then sp_bs (fun q => sp_cn a f k h i b 9 q) 12 else 0) < 4096 := by split <;> first | exact sp_bs12 _ | decide
  refine am_goR 3 (s2 := (3, [.ref 4, .int (nI i), .int (nI b), .int (nI j)], [.int (nI b), .int (nI i), .ref 4], M)) rfl ?_
  refine am_goX (v := nI (if sp_wk lt (k i) hr = true then sp_bs (fun q => sp_cn a f k h i b 9 q) 12 else 0)) (M2 := M) (s2 := (6, [.ref 4, .int (nI i), .int (nI b), .int (nI j)], [], M)) rfl (s_goesTo_4 hS hO (i := i) (b := b) (by omega) (by omega)) ?_
  refine am_goR 1 (s2 := (7, [.ref 4, .int (nI i), .int (nI b), .int (nI j)], [.int (nI j), .int (nI (if sp_wk lt (k i) hr = true then sp_bs (fun q => sp_cn a f k h i b 9 q) 12 else 0))], M)) rfl ?_
  refine am_goX (v := am_b ((if sp_wk lt (k i) hr = true then sp_bs (fun q => sp_cn a f k h i b 9 q) 12 else 0).testBit j)) (M2 := M) (s2 := (10, [.ref 4, .int (nI i), .int (nI b), .int (nI j)], [], M)) rfl (s_hasBit1 (x := (if sp_wk lt (k i) hr = true then sp_bs (fun q => sp_cn a f k h i b 9 q) 12 else 0)) (j := j) (by omega) (by omega)) ?_
  exact am_endz ((if sp_wk lt (k i) hr = true then sp_bs (fun q => sp_cn a f k h i b 9 q) 12 else 0).testBit j) _ rfl (by by_cases hw : sp_wk lt (k i) hr = true <;> simp [hw, sp_bs_cn oF]) (rfl)

set_option maxHeartbeats 4000000 in
theorem s_hasStepButn_4 {M : am_Mem} {a f hr hs lt : Nat} {k h : Nat → Nat} (hS : sp_S 4 M a f hr hs lt k h) (hO : sp_ok a f hr lt k h) {i : Nat} (hi : i < a)  : am_go 20 (am_ent 20 [.ref 4, .int (nI i), .int ((-nI 9))] M) (am_is (am_b (sp_st a f k h i 9)) M) := by
  obtain ⟨hF, hA, hHr, hHs, hLt, hK, hH⟩ := id hS
  obtain ⟨oA, oF, oHr, oLt, oK, oH⟩ := id hO
  have oKi := oK i
  have oR := sp_rc_lt (k i)
  have hg := sp_or12 (sp_bs12 (fun q => sp_cn a f k h i 0 9 q)) (sp_bs12 (fun q => sp_cn a f k h i 1 9 q))
  refine am_goR 4 (s2 := (4, [.ref 4, .int (nI i), .int ((-nI 9))], [.int ((-nI 9)), .int (nI 0), .int (nI i), .ref 4], M)) rfl ?_
  refine am_goX (v := nI (sp_bs (fun q => sp_cn a f k h i 0 9 q) 12)) (M2 := M) (s2 := (7, [.ref 4, .int (nI i), .int ((-nI 9))], [], M)) rfl (s_openTon_4 hS hO (i := i) (b := 0) (by omega) (by omega)) ?_
  refine am_goR 4 (s2 := (11, [.ref 4, .int (nI i), .int ((-nI 9))], [.int ((-nI 9)), .int (nI 1), .int (nI i), .ref 4, .int (nI (sp_bs (fun q => sp_cn a f k h i 0 9 q) 12))], M)) rfl ?_
  refine am_goX (v := nI (sp_bs (fun q => sp_cn a f k h i 1 9 q) 12)) (M2 := M) (s2 := (14, [.ref 4, .int (nI i), .int ((-nI 9))], [.int (nI (sp_bs (fun q => sp_cn a f k h i 0 9 q) 12))], M)) rfl (s_openTon_4 hS hO (i := i) (b := 1) (by omega) (by omega)) ?_
  refine am_goQ 1 (s1 := (15, [.ref 4, .int (nI i), .int ((-nI 9))], [.int ((nI (sp_bs (fun q => sp_cn a f k h i 0 9 q) 12) ||| nI (sp_bs (fun q => sp_cn a f k h i 1 9 q) 12)))], M)) (s2 := (15, [.ref 4, .int (nI i), .int ((-nI 9))], [.int (nI ((sp_bs (fun q => sp_cn a f k h i 0 9 q) 12) ||| (sp_bs (fun q => sp_cn a f k h i 1 9 q) 12)))], M)) rfl (by simp only [am_or]) ?_
  refine am_bEQ (((sp_bs (fun q => sp_cn a f k h i 0 9 q) 12) ||| (sp_bs (fun q => sp_cn a f k h i 1 9 q) 12))) (0) (s1 := (22, [.ref 4, .int (nI i), .int ((-nI 9))], [], M)) (s2 := (18, [.ref 4, .int (nI i), .int ((-nI 9))], [], M)) rfl (by omega) (by omega) (fun c1 => ?_) (fun c1 => ?_)
  · refine am_goR 1 (s2 := (23, [.ref 4, .int (nI i), .int ((-nI 9))], [.int (nI 0)], M)) rfl ?_
    exact am_endz false _ rfl (by simp [sp_st, *]) (rfl)
  · refine am_goR 2 (s2 := (23, [.ref 4, .int (nI i), .int ((-nI 9))], [.int (nI 1)], M)) rfl ?_
    exact am_endz true _ rfl (by simp [sp_st, *]) (rfl)

set_option maxHeartbeats 4000000 in
theorem s_hasStepButw_4 {M : am_Mem} {a f hr hs lt : Nat} {k h : Nat → Nat} (hS : sp_S 4 M a f hr hs lt k h) (hO : sp_ok a f hr lt k h) {i : Nat} (hi : i < a) {w : Nat} (hw : w < 4) : am_go 20 (am_ent 20 [.ref 4, .int (nI i), .int (nI w)] M) (am_is (am_b (sp_st a f k h i w)) M) := by
  obtain ⟨hF, hA, hHr, hHs, hLt, hK, hH⟩ := id hS
  obtain ⟨oA, oF, oHr, oLt, oK, oH⟩ := id hO
  have oKi := oK i
  have oR := sp_rc_lt (k i)
  have hg := sp_or12 (sp_bs12 (fun q => sp_cn a f k h i 0 w q)) (sp_bs12 (fun q => sp_cn a f k h i 1 w q))
  refine am_goR 4 (s2 := (4, [.ref 4, .int (nI i), .int (nI w)], [.int (nI w), .int (nI 0), .int (nI i), .ref 4], M)) rfl ?_
  refine am_goX (v := nI (sp_bs (fun q => sp_cn a f k h i 0 w q) 12)) (M2 := M) (s2 := (7, [.ref 4, .int (nI i), .int (nI w)], [], M)) rfl (s_openTow_4 hS hO (i := i) (b := 0) (by omega) (by omega) (w := w) (by omega)) ?_
  refine am_goR 4 (s2 := (11, [.ref 4, .int (nI i), .int (nI w)], [.int (nI w), .int (nI 1), .int (nI i), .ref 4, .int (nI (sp_bs (fun q => sp_cn a f k h i 0 w q) 12))], M)) rfl ?_
  refine am_goX (v := nI (sp_bs (fun q => sp_cn a f k h i 1 w q) 12)) (M2 := M) (s2 := (14, [.ref 4, .int (nI i), .int (nI w)], [.int (nI (sp_bs (fun q => sp_cn a f k h i 0 w q) 12))], M)) rfl (s_openTow_4 hS hO (i := i) (b := 1) (by omega) (by omega) (w := w) (by omega)) ?_
  refine am_goQ 1 (s1 := (15, [.ref 4, .int (nI i), .int (nI w)], [.int ((nI (sp_bs (fun q => sp_cn a f k h i 0 w q) 12) ||| nI (sp_bs (fun q => sp_cn a f k h i 1 w q) 12)))], M)) (s2 := (15, [.ref 4, .int (nI i), .int (nI w)], [.int (nI ((sp_bs (fun q => sp_cn a f k h i 0 w q) 12) ||| (sp_bs (fun q => sp_cn a f k h i 1 w q) 12)))], M)) rfl (by simp only [am_or]) ?_
  refine am_bEQ (((sp_bs (fun q => sp_cn a f k h i 0 w q) 12) ||| (sp_bs (fun q => sp_cn a f k h i 1 w q) 12))) (0) (s1 := (22, [.ref 4, .int (nI i), .int (nI w)], [], M)) (s2 := (18, [.ref 4, .int (nI i), .int (nI w)], [], M)) rfl (by omega) (by omega) (fun c1 => ?_) (fun c1 => ?_)
  · refine am_goR 1 (s2 := (23, [.ref 4, .int (nI i), .int (nI w)], [.int (nI 0)], M)) rfl ?_
    exact am_endz false _ rfl (by simp [sp_st, *]) (rfl)
  · refine am_goR 2 (s2 := (23, [.ref 4, .int (nI i), .int (nI w)], [.int (nI 1)], M)) rfl ?_
    exact am_endz true _ rfl (by simp [sp_st, *]) (rfl)

set_option maxHeartbeats 4000000 in
theorem s_isBlocked_4 {M : am_Mem} {a f hr hs lt : Nat} {k h : Nat → Nat} (hS : sp_S 4 M a f hr hs lt k h) (hO : sp_ok a f hr lt k h) {i : Nat} (hi : i < a) : am_go 21 (am_ent 21 [.ref 4, .int (nI i)] M) (am_is (am_b (sp_wk lt (k i) hr && !sp_st a f k h i 9)) M) := by
  obtain ⟨hF, hA, hHr, hHs, hLt, hK, hH⟩ := id hS
  obtain ⟨oA, oF, oHr, oLt, oK, oH⟩ := id hO
  have oKi := oK i
  have oR := sp_rc_lt (k i)
  refine am_goR 2 (s2 := (2, [.ref 4, .int (nI i)], [.int (nI i), .ref 4], M)) rfl ?_
  refine am_goX (v := am_b (sp_wk lt (k i) hr)) (M2 := M) (s2 := (5, [.ref 4, .int (nI i)], [], M)) rfl (s_worksNow_4 hS hO (i := i) (by omega)) ?_
  refine am_bB0 (sp_wk lt (k i) hr) (s1 := (22, [.ref 4, .int (nI i)], [], M)) (s2 := (8, [.ref 4, .int (nI i)], [], M)) rfl (fun c1 => ?_) (fun c1 => ?_)
  · refine am_goR 1 (s2 := (23, [.ref 4, .int (nI i)], [.int (nI 0)], M)) rfl ?_
    exact am_endz false _ rfl (by first | (simp [*]; done) | (simp [*] <;> omega)) (rfl)
  · refine am_goR 3 (s2 := (12, [.ref 4, .int (nI i)], [.int ((-nI 9)), .int (nI i), .ref 4], M)) rfl ?_
    refine am_goX (v := am_b (sp_st a f k h i 9)) (M2 := M) (s2 := (15, [.ref 4, .int (nI i)], [], M)) rfl (s_hasStepButn_4 hS hO (i := i) (by omega)) ?_
    refine am_bB1 (sp_st a f k h i 9) (s1 := (22, [.ref 4, .int (nI i)], [], M)) (s2 := (18, [.ref 4, .int (nI i)], [], M)) rfl (fun c2 => ?_) (fun c2 => ?_)
    · refine am_goR 1 (s2 := (23, [.ref 4, .int (nI i)], [.int (nI 0)], M)) rfl ?_
      exact am_endz false _ rfl (by first | (simp [*]; done) | (simp [*] <;> omega)) (rfl)
    · refine am_goR 2 (s2 := (23, [.ref 4, .int (nI i)], [.int (nI 1)], M)) rfl ?_
      exact am_endz true _ rfl (by first | (simp [*]; done) | (simp [*] <;> omega)) (rfl)

set_option maxHeartbeats 4000000 in
theorem s_near_4 {M : am_Mem} {a f hr hs lt : Nat} {k h : Nat → Nat} (hS : sp_S 4 M a f hr hs lt k h) (hO : sp_ok a f hr lt k h) {i : Nat} (hi : i < a) {j m : Nat} (hj : j < 1073741824) (hm : m < 2147483648) : am_go 26 (am_ent 26 [.ref 4, .int (nI i), .int (nI j), .int (nI m)] M) (am_is (am_b (sp_nr h i j m)) M) := by
  obtain ⟨hF, hA, hHr, hHs, hLt, hK, hH⟩ := id hS
  obtain ⟨oA, oF, oHr, oLt, oK, oH⟩ := id hO
  have oH0 := oH (2 * i)
  have oH1 := oH (2 * i + 1)
  have hd0 : sp_ds (h (2 * i)) j < 2147483648 := by unfold sp_ds; omega
  have hd1 : sp_ds (h (2 * i + 1)) j < 2147483648 := by unfold sp_ds; omega
  refine am_goR 3 (s2 := (3, [.ref 4, .int (nI i), .int (nI j), .int (nI m)], [.int (nI 0), .int (nI i), .ref 4], M)) rfl ?_
  refine am_goX (v := nI (h (2 * i))) (M2 := M) (s2 := (6, [.ref 4, .int (nI i), .int (nI j), .int (nI m)], [], M)) rfl (s_handOn_4 hS hO (i := i) (b := 0) (by omega) (by omega)) ?_
  refine am_goQ 4 (s1 := (12, [.ref 4, .int (nI i), .int (nI j), .int (nI m)], [.int (nI m), .int ((am_abs (nI (h (2 * i)) - nI j)))], M)) (s2 := (12, [.ref 4, .int (nI i), .int (nI j), .int (nI m)], [.int (nI m), .int (nI (sp_ds (h (2 * i)) j))], M)) rfl (by simp only [am_absd (x := (h (2 * i))) (y := j) (by omega) (by omega)]) ?_
  refine am_bLE ((sp_ds (h (2 * i)) j)) (m) (s1 := (30, [.ref 4, .int (nI i), .int (nI j), .int (nI m)], [], M)) (s2 := (15, [.ref 4, .int (nI i), .int (nI j), .int (nI m)], [], M)) rfl (by omega) (by omega) (fun c1 => ?_) (fun c1 => ?_)
  · refine am_goR 2 (s2 := (35, [.ref 4, .int (nI i), .int (nI j), .int (nI m)], [.int (nI 1)], M)) rfl ?_
    exact am_endz true _ rfl (by unfold sp_nr; first | (simp [*]; done) | (simp <;> omega)) (rfl)
  · refine am_goR 3 (s2 := (18, [.ref 4, .int (nI i), .int (nI j), .int (nI m)], [.int (nI 1), .int (nI i), .ref 4], M)) rfl ?_
    refine am_goX (v := nI (h ((2 * i) + 1))) (M2 := M) (s2 := (21, [.ref 4, .int (nI i), .int (nI j), .int (nI m)], [], M)) rfl (s_handOn_4 hS hO (i := i) (b := 1) (by omega) (by omega)) ?_
    refine am_goQ 4 (s1 := (27, [.ref 4, .int (nI i), .int (nI j), .int (nI m)], [.int (nI m), .int ((am_abs (nI (h ((2 * i) + 1)) - nI j)))], M)) (s2 := (27, [.ref 4, .int (nI i), .int (nI j), .int (nI m)], [.int (nI m), .int (nI (sp_ds (h ((2 * i) + 1)) j))], M)) rfl (by simp only [am_absd (x := (h ((2 * i) + 1))) (y := j) (by omega) (by omega)]) ?_
    refine am_bLT (m) ((sp_ds (h ((2 * i) + 1)) j)) (s1 := (34, [.ref 4, .int (nI i), .int (nI j), .int (nI m)], [], M)) (s2 := (30, [.ref 4, .int (nI i), .int (nI j), .int (nI m)], [], M)) rfl (by omega) (by omega) (fun c2 => ?_) (fun c2 => ?_)
    · refine am_goR 1 (s2 := (35, [.ref 4, .int (nI i), .int (nI j), .int (nI m)], [.int (nI 0)], M)) rfl ?_
      exact am_endz false _ rfl (by unfold sp_nr; first | (simp [*]; done) | (simp <;> omega)) (rfl)
    · refine am_goR 2 (s2 := (35, [.ref 4, .int (nI i), .int (nI j), .int (nI m)], [.int (nI 1)], M)) rfl ?_
      exact am_endz true _ rfl (by unfold sp_nr; first | (simp [*]; done) | (simp <;> omega)) (rfl)

set_option maxHeartbeats 4000000 in
theorem s_beside_4 {M : am_Mem} {a f hr hs lt : Nat} {k h : Nat → Nat} (hS : sp_S 4 M a f hr hs lt k h) (hO : sp_ok a f hr lt k h) {i : Nat} (hi : i < a) {j : Nat} (hj : j < 1073741824) : am_go 17 (am_ent 17 [.ref 4, .int (nI i), .int (nI j)] M) (am_is (am_b (sp_be h i j)) M) := by
  obtain ⟨hF, hA, hHr, hHs, hLt, hK, hH⟩ := id hS
  obtain ⟨oA, oF, oHr, oLt, oK, oH⟩ := id hO
  have oH0 := oH (2 * i)
  have oH1 := oH (2 * i + 1)
  have hd0 : sp_ds (h (2 * i)) j < 2147483648 := by unfold sp_ds; omega
  have hd1 : sp_ds (h (2 * i + 1)) j < 2147483648 := by unfold sp_ds; omega
  refine am_goR 3 (s2 := (3, [.ref 4, .int (nI i), .int (nI j)], [.int (nI 0), .int (nI i), .ref 4], M)) rfl ?_
  refine am_goX (v := nI (h (2 * i))) (M2 := M) (s2 := (6, [.ref 4, .int (nI i), .int (nI j)], [], M)) rfl (s_handOn_4 hS hO (i := i) (b := 0) (by omega) (by omega)) ?_
  refine am_goQ 4 (s1 := (12, [.ref 4, .int (nI i), .int (nI j)], [.int (nI 1), .int ((am_abs (nI (h (2 * i)) - nI j)))], M)) (s2 := (12, [.ref 4, .int (nI i), .int (nI j)], [.int (nI 1), .int (nI (sp_ds (h (2 * i)) j))], M)) rfl (by simp only [am_absd (x := (h (2 * i))) (y := j) (by omega) (by omega)]) ?_
  refine am_bEQ ((sp_ds (h (2 * i)) j)) (1) (s1 := (30, [.ref 4, .int (nI i), .int (nI j)], [], M)) (s2 := (15, [.ref 4, .int (nI i), .int (nI j)], [], M)) rfl (by omega) (by omega) (fun c1 => ?_) (fun c1 => ?_)
  · refine am_goR 2 (s2 := (35, [.ref 4, .int (nI i), .int (nI j)], [.int (nI 1)], M)) rfl ?_
    exact am_endz true _ rfl (by unfold sp_be; first | (simp [*]; done) | (simp <;> omega)) (rfl)
  · refine am_goR 3 (s2 := (18, [.ref 4, .int (nI i), .int (nI j)], [.int (nI 1), .int (nI i), .ref 4], M)) rfl ?_
    refine am_goX (v := nI (h ((2 * i) + 1))) (M2 := M) (s2 := (21, [.ref 4, .int (nI i), .int (nI j)], [], M)) rfl (s_handOn_4 hS hO (i := i) (b := 1) (by omega) (by omega)) ?_
    refine am_goQ 4 (s1 := (27, [.ref 4, .int (nI i), .int (nI j)], [.int (nI 1), .int ((am_abs (nI (h ((2 * i) + 1)) - nI j)))], M)) (s2 := (27, [.ref 4, .int (nI i), .int (nI j)], [.int (nI 1), .int (nI (sp_ds (h ((2 * i) + 1)) j))], M)) rfl (by simp only [am_absd (x := (h ((2 * i) + 1))) (y := j) (by omega) (by omega)]) ?_
    refine am_bNE ((sp_ds (h ((2 * i) + 1)) j)) (1) (s1 := (34, [.ref 4, .int (nI i), .int (nI j)], [], M)) (s2 := (30, [.ref 4, .int (nI i), .int (nI j)], [], M)) rfl (by omega) (by omega) (fun c2 => ?_) (fun c2 => ?_)
    · refine am_goR 1 (s2 := (35, [.ref 4, .int (nI i), .int (nI j)], [.int (nI 0)], M)) rfl ?_
      exact am_endz false _ rfl (by unfold sp_be; first | (simp [*]; done) | (simp <;> omega)) (rfl)
    · refine am_goR 2 (s2 := (35, [.ref 4, .int (nI i), .int (nI j)], [.int (nI 1)], M)) rfl ?_
      exact am_endz true _ rfl (by unfold sp_be; first | (simp [*]; done) | (simp <;> omega)) (rfl)

set_option maxHeartbeats 4000000 in
theorem s_together_4 {M : am_Mem} {a f hr hs lt : Nat} {k h : Nat → Nat} (hS : sp_S 4 M a f hr hs lt k h) (hO : sp_ok a f hr lt k h) {i : Nat} (hi : i < a) {i2 : Nat} (hi2 : i2 < a) : am_go 28 (am_ent 28 [.ref 4, .int (nI i), .int (nI i2)] M) (am_is (am_b (sp_ht h i i2)) M) := by
  obtain ⟨hF, hA, hHr, hHs, hLt, hK, hH⟩ := id hS
  obtain ⟨oA, oF, oHr, oLt, oK, oH⟩ := id hO
  have oH0 := oH (2 * i)
  have oH1 := oH (2 * i + 1)
  refine am_goR 5 (s2 := (5, [.ref 4, .int (nI i), .int (nI i2)], [.int (nI 0), .int (nI i), .ref 4, .int (nI i2), .ref 4], M)) rfl ?_
  refine am_goX (v := nI (h (2 * i))) (M2 := M) (s2 := (8, [.ref 4, .int (nI i), .int (nI i2)], [.int (nI i2), .ref 4], M)) rfl (s_handOn_4 hS hO (i := i) (b := 0) (by omega) (by omega)) ?_
  refine am_goR 1 (s2 := (9, [.ref 4, .int (nI i), .int (nI i2)], [.int (nI 2), .int (nI (h (2 * i))), .int (nI i2), .ref 4], M)) rfl ?_
  refine am_goX (v := am_b (sp_nr h i2 (h (2 * i)) 2)) (M2 := M) (s2 := (12, [.ref 4, .int (nI i), .int (nI i2)], [], M)) rfl (s_near_4 hS hO (i := i2) (j := (h (2 * i))) (m := 2) (by omega) (by omega) (by omega)) ?_
  refine am_bB1 (sp_nr h i2 (h (2 * i)) 2) (s1 := (30, [.ref 4, .int (nI i), .int (nI i2)], [], M)) (s2 := (15, [.ref 4, .int (nI i), .int (nI i2)], [], M)) rfl (fun c1 => ?_) (fun c1 => ?_)
  · refine am_goR 2 (s2 := (35, [.ref 4, .int (nI i), .int (nI i2)], [.int (nI 1)], M)) rfl ?_
    exact am_endz true _ rfl (by unfold sp_ht; simp [*]) (rfl)
  · refine am_goR 5 (s2 := (20, [.ref 4, .int (nI i), .int (nI i2)], [.int (nI 1), .int (nI i), .ref 4, .int (nI i2), .ref 4], M)) rfl ?_
    refine am_goX (v := nI (h ((2 * i) + 1))) (M2 := M) (s2 := (23, [.ref 4, .int (nI i), .int (nI i2)], [.int (nI i2), .ref 4], M)) rfl (s_handOn_4 hS hO (i := i) (b := 1) (by omega) (by omega)) ?_
    refine am_goR 1 (s2 := (24, [.ref 4, .int (nI i), .int (nI i2)], [.int (nI 2), .int (nI (h ((2 * i) + 1))), .int (nI i2), .ref 4], M)) rfl ?_
    refine am_goX (v := am_b (sp_nr h i2 (h ((2 * i) + 1)) 2)) (M2 := M) (s2 := (27, [.ref 4, .int (nI i), .int (nI i2)], [], M)) rfl (s_near_4 hS hO (i := i2) (j := (h ((2 * i) + 1))) (m := 2) (by omega) (by omega) (by omega)) ?_
    refine am_bB0 (sp_nr h i2 (h ((2 * i) + 1)) 2) (s1 := (34, [.ref 4, .int (nI i), .int (nI i2)], [], M)) (s2 := (30, [.ref 4, .int (nI i), .int (nI i2)], [], M)) rfl (fun c2 => ?_) (fun c2 => ?_)
    · refine am_goR 1 (s2 := (35, [.ref 4, .int (nI i), .int (nI i2)], [.int (nI 0)], M)) rfl ?_
      exact am_endz false _ rfl (by unfold sp_ht; simp [*]) (rfl)
    · refine am_goR 2 (s2 := (35, [.ref 4, .int (nI i), .int (nI i2)], [.int (nI 1)], M)) rfl ?_
      exact am_endz true _ rfl (by unfold sp_ht; simp [*]) (rfl)

set_option maxHeartbeats 4000000 in
theorem s_isFree_4 {M : am_Mem} {a f hr hs lt : Nat} {k h : Nat → Nat} (hS : sp_S 4 M a f hr hs lt k h) (hO : sp_ok a f hr lt k h) {j : Nat} (hj : j < 2147483648) : am_go 35 (am_ent 35 [.ref 4, .int (nI j)] M) (am_is (am_b (decide (j < 12) && f.testBit j && (sp_wo h j (2 * a)).isNone)) M) := by
  obtain ⟨hF, hA, hHr, hHs, hLt, hK, hH⟩ := id hS
  obtain ⟨oA, oF, oHr, oLt, oK, oH⟩ := id hO
  refine am_goR 1 (s2 := (1, [.ref 4, .int (nI j)], [.int (nI j)], M)) rfl ?_
  refine am_goX (v := am_b (decide (j < 12))) (M2 := M) (s2 := (4, [.ref 4, .int (nI j)], [], M)) rfl (s_isJointN (j := j) (by omega)) ?_
  refine am_bB0 (decide (j < 12)) (s1 := (29, [.ref 4, .int (nI j)], [], M)) (s2 := (7, [.ref 4, .int (nI j)], [], M)) rfl (fun c1 => ?_) (fun c1 => ?_)
  · have c1d := of_decide_eq_false c1
    refine am_goR 1 (s2 := (30, [.ref 4, .int (nI j)], [.int (nI 0)], M)) rfl ?_
    exact am_endz false _ rfl (by first | (simp [*]; done) | (simp [*] <;> omega)) (rfl)
  · have c1d := of_decide_eq_true c1
    refine am_goR 2 (s2 := (9, [.ref 4, .int (nI j)], [.int (nI j), .ref 4], M)) rfl ?_
    refine am_goX (v := am_b (f.testBit j)) (M2 := M) (s2 := (12, [.ref 4, .int (nI j)], [], M)) rfl (s_isFixed_4 hS hO (j := j) (by omega)) ?_
    refine am_bB0 (f.testBit j) (s1 := (29, [.ref 4, .int (nI j)], [], M)) (s2 := (15, [.ref 4, .int (nI j)], [], M)) rfl (fun c2 => ?_) (fun c2 => ?_)
    · refine am_goR 1 (s2 := (30, [.ref 4, .int (nI j)], [.int (nI 0)], M)) rfl ?_
      exact am_endz false _ rfl (by first | (simp [*]; done) | (simp [*] <;> omega)) (rfl)
    · refine am_goR 2 (s2 := (17, [.ref 4, .int (nI j)], [.int (nI j), .ref 4], M)) rfl ?_
      rcases hw4 : sp_wo h j (2 * a) with _ | q3
      · refine am_goX (v := (-nI 9)) (M2 := M) (s2 := (20, [.ref 4, .int (nI j)], [], M)) rfl (s_whoIsOnN_4 hS hO (j := j) (by omega) hw4) ?_
        refine am_goR 4 (s2 := (30, [.ref 4, .int (nI j)], [.int (nI 1)], M)) rfl ?_
        exact am_endz true _ rfl (by first | (simp [*]; done) | (simp [*] <;> omega)) (rfl)
      · refine am_goX (v := nI ((10 * (q3 / 2)) + (q3 % 2))) (M2 := M) (s2 := (20, [.ref 4, .int (nI j)], [], M)) rfl (s_whoIsOnS_4 hS hO (j := j) (by omega) hw4) ?_
        have hq3 := (sp_wo_some.mp hw4).1
        refine am_goR 1 (s2 := (22, [.ref 4, .int (nI j)], [.int ((-nI 9)), .int (nI ((10 * (q3 / 2)) + (q3 % 2)))], M)) rfl ?_
        refine am_bTn (s1 := (29, [.ref 4, .int (nI j)], [], M)) (s2 := (25, [.ref 4, .int (nI j)], [], M)) rfl (am_nm_ne (x := ((10 * (q3 / 2)) + (q3 % 2))) (m := 9) (by omega) (by decide) (by decide)) ?_
        refine am_goR 1 (s2 := (30, [.ref 4, .int (nI j)], [.int (nI 0)], M)) rfl ?_
        exact am_endz false _ rfl (by first | (simp [*]; done) | (simp [*] <;> omega)) (rfl)

