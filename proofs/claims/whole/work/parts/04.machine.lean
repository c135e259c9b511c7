/-! an abstract machine, 2: what an instruction does to (pc, locals, stack, memory); runs of a method -/
abbrev am_Mem : Type := Nat → Nat → Int32
abbrev am_St : Type := Nat × List Value × List Value × am_Mem
abbrev am_Nx : Type := am_St ⊕ ((Option Value × am_Mem) ⊕ (Nat × List Value × am_St))
def am_set (M : am_Mem) (i k : Nat) (v : Int32) : am_Mem := fun a b => if a = i ∧ b = k then v else M a b
def am_b (b : Bool) : Int32 := match b with | true => nI 1 | false => nI 0
/-- the class of an object's cell -/
def am_cls (i : Nat) : Option Nat := match i with | 0 => some 3 | 1 => some 0 | 4 => some 0 | 7 => some 0 | 10 => some 2 | 13 => some 1 | 17 => some 4 | _ => none
/-- how long an array's cell is -/
def am_len (i : Nat) : Option Nat := match i with
  | 2 => some 4 | 3 => some 8 | 5 => some 4 | 6 => some 8 | 8 => some 4 | 9 => some 8 | 11 => some 144 | 12 => some 144 | 14 => some 64 | 15 => some 16 | 16 => some 7
  | 18 => some 7 | 19 => some 4 | 20 => some 8 | 21 => some 64 | 22 => some 32 | 23 => some 32 | 24 => some 96 | 25 => some 40 | 26 => some 144 | 27 => some 144 | 28 => some 16 | 29 => some 8
  | 30 => some 6 | 31 => some 6 | 32 => some 6 | _ => none
/-- which cell a field of references holds -/
def am_ref (i k : Nat) : Option Nat := match i with
  | 0 => (match k with | 0 => some 1 | 1 => some 4 | 2 => some 7 | 4 => some 10 | 5 => some 13 | 6 => some 15 | 8 => some 16 | _ => none)
  | 1 => (match k with | 5 => some 2 | 6 => some 3 | _ => none)
  | 4 => (match k with | 5 => some 5 | 6 => some 6 | _ => none)
  | 7 => (match k with | 5 => some 8 | 6 => some 9 | _ => none)
  | 10 => (match k with | 0 => some 11 | 1 => some 12 | _ => none)
  | 13 => (match k with | 0 => some 14 | _ => none)
  | 17 => (match k with | 0 => some 18 | 1 => some 19 | 2 => some 20 | 8 => some 21 | 9 => some 22 | 10 => some 23 | 11 => some 24 | 15 => some 25 | 19 => some 26 | 20 => some 27 | 22 => some 28 | 23 => some 29 | _ => none)
  | _ => none
/-- the tables that nobody writes: letters of the kinds, reaches, when they work -/
def am_tab (a k : Nat) : Int32 := match a with
  | 30 => (match k with | 0 => 97 | 1 => 108 | 2 => 115 | 3 => 119 | 4 => 107 | _ => 110)
  | 31 => (match k with | 0 => 3 | 1 => 4 | 2 => 2 | 3 => 3 | 4 => 4 | _ => 3)
  | _ => (match k with | 0 => 0 | 1 => 0 | 2 => 0 | 3 => 1 | 4 => 0 | _ => 2)
def am_rd (M : am_Mem) (a k : Nat) : Int32 := bif Nat.blt a 30 then M a k else am_tab a k
/-- whether a field is a boolean's -/
def am_fz (c k : Nat) : Bool := match c with | 3 => Nat.beq k 3 | 4 => Nat.beq k 16 || Nat.beq k 17 | _ => false
def am_tg (pc : Nat) (off : Int) : Nat := ((pc : Int) + off).toNat
def am_br (b : Bool) (pc : Nat) (off : Int) (ls st : List Value) (M : am_Mem) : Option am_Nx := some (.inl (bif b then (am_tg pc off, ls, st, M) else (pc + 3, ls, st, M)))
def am_ld (pc : Nat) (ls st : List Value) (M : am_Mem) (k : Nat) : Option am_Nx := match ls[k]? with | some (.int x) => some (.inl (pc, ls, .int x :: st, M)) | _ => none
def am_lda (pc : Nat) (ls st : List Value) (M : am_Mem) (k : Nat) : Option am_Nx := match ls[k]? with | some (.ref x) => some (.inl (pc, ls, .ref x :: st, M)) | _ => none
def am_sto (pc : Nat) (ls st : List Value) (M : am_Mem) (k : Nat) : Option am_Nx := match st with
  | .int x :: r => (bif Nat.blt k ls.length then some (.inl (pc, ls.set k (.int x), r, M)) else none)
  | _ => none
def am_op2 (pc : Nat) (ls st : List Value) (M : am_Mem) (f : Int32 → Int32 → Int32) : Option am_Nx := match st with | .int y :: .int x :: r => some (.inl (pc + 1, ls, .int (f x y) :: r, M)) | _ => none
def am_dv (pc : Nat) (ls st : List Value) (M : am_Mem) (f : Int32 → Int32 → Int32) : Option am_Nx := match st with | .int y :: .int x :: r => (if y = 0 then none else some (.inl (pc + 1, ls, .int (f x y) :: r, M))) | _ => none
def am_one (v : Value) : Bool := match v with | .int _ => true | .ref _ => true | _ => false
def am_abs (x : Int32) : Int32 := if 0 ≤ x then x else 0 - x
def am_min (x y : Int32) : Int32 := if y < x then y else x
def am_ja (pc : Nat) (ls st : List Value) (M : am_Mem) : Option am_Nx := match st with | .int x :: r => (bif Nat.ble r.length 4 then some (.inl (pc + 3, ls, .int (am_abs x) :: r, M)) else none) | _ => none
def am_jm (pc : Nat) (ls st : List Value) (M : am_Mem) : Option am_Nx := match st with | .int y :: .int x :: r => (bif Nat.ble r.length 4 then some (.inl (pc + 3, ls, .int (am_min x y) :: r, M)) else none) | _ => none
def am_cal1 (mi pc : Nat) (ls st : List Value) (M : am_Mem) (ix : Nat) (sta : Bool) : Option am_Nx := match am_cal (am_cl mi) ix with
  | some (j, _, _) => (bif Nat.blt (am_hg j) (am_hg mi) && (am_sta j == sta) then (bif Nat.blt j 160 then (bif sta then
        (bif Nat.ble (am_np j) st.length && Nat.ble (st.drop (am_np j)).length 4 && (st.take (am_np j)).all am_one then some (.inr (.inr (j, (st.take (am_np j)).reverse, (pc + 3, ls, st.drop (am_np j), M)))) else none)
      else (match st.drop (am_np j) with
        | .ref b :: r => (bif (am_cls b == some (am_cl j)) && Nat.ble r.length 4 && (st.take (am_np j)).all am_one then some (.inr (.inr (j, .ref b :: (st.take (am_np j)).reverse, (pc + 3, ls, r, M)))) else none)
        | _ => none))
      else (bif sta then (match j with | 160 => am_ja pc ls st M | _ => am_jm pc ls st M) else none)) else none)
  | none => none
def am_iret (mi : Nat) (st : List Value) (M : am_Mem) : Option am_Nx := match st with
  | [.int v] => (match am_rk mi with | 1 => some (.inr (.inl (some (.int v), M))) | 2 => (if v = am_b true ∨ v = am_b false then some (.inr (.inl (some (.int v), M))) else none) | _ => none)
  | _ => none
def am_inc (pc : Nat) (ls st : List Value) (M : am_Mem) (k : Nat) (n : Int) : Option am_Nx := match ls[k]? with | some (.int x) => some (.inl (pc + 3, ls.set k (.int (x + am_k n)), st, M)) | _ => none
def am_cs (mi pc : Nat) (ls st : List Value) (M : am_Mem) (ix : Nat) : Option am_Nx := match am_cst (am_cl mi) ix with | some (v, _) => some (.inl (pc, ls, .int v :: st, M)) | none => none
def am_ng (pc : Nat) (ls st : List Value) (M : am_Mem) : Option am_Nx := match st with | .int x :: r => some (.inl (pc + 1, ls, .int (-x) :: r, M)) | _ => none
def am_du (pc : Nat) (ls st : List Value) (M : am_Mem) : Option am_Nx := match st with | .int x :: r => some (.inl (pc + 1, ls, .int x :: .int x :: r, M)) | .ref x :: r => some (.inl (pc + 1, ls, .ref x :: .ref x :: r, M)) | _ => none
def am_d2 (pc : Nat) (ls st : List Value) (M : am_Mem) : Option am_Nx := match st with | .int y :: .ref x :: r => some (.inl (pc + 1, ls, .int y :: .ref x :: .int y :: .ref x :: r, M)) | _ => none
def am_ic (pc : Nat) (ls st : List Value) (M : am_Mem) (c : ClassFile.Cond) (off : Int) : Option am_Nx := match st with
  | .int x :: r => (match c with
    | .eq => am_br (decide (x = 0)) pc off ls r M
    | .ne => am_br (!decide (x = 0)) pc off ls r M
    | .lt => am_br (decide (x < 0)) pc off ls r M
    | .ge => am_br (decide (0 ≤ x)) pc off ls r M
    | .gt => am_br (decide (0 < x)) pc off ls r M
    | .le => am_br (decide (x ≤ 0)) pc off ls r M)
  | _ => none
def am_ii (pc : Nat) (ls st : List Value) (M : am_Mem) (c : ClassFile.Cond) (off : Int) : Option am_Nx := match st with
  | .int y :: .int x :: r => (match c with
    | .eq => am_br (decide (x = y)) pc off ls r M
    | .ne => am_br (!decide (x = y)) pc off ls r M
    | .lt => am_br (decide (x < y)) pc off ls r M
    | .ge => am_br (decide (y ≤ x)) pc off ls r M
    | .gt => am_br (decide (y < x)) pc off ls r M
    | .le => am_br (decide (x ≤ y)) pc off ls r M)
  | _ => none
def am_ts (pc : Nat) (ls st : List Value) (M : am_Mem) (d lo hi : Int) (offs : Array Int) : Option am_Nx := match st with
  | .int x :: r => (if x.toInt < lo ∨ hi < x.toInt then some (.inl (am_tg pc d, ls, r, M)) else (match offs[(x.toInt - lo).toNat]? with | some o => some (.inl (am_tg pc o, ls, r, M)) | none => none))
  | _ => none
def am_lk (pc : Nat) (ls st : List Value) (M : am_Mem) (d : Int) (ps : Array (Int × Int)) : Option am_Nx := match st with | .int x :: r => some (.inl (am_tg pc (Op.lookupswitch.offset ps.toList d x.toInt), ls, r, M)) | _ => none
def am_gf (mi pc : Nat) (ls st : List Value) (M : am_Mem) (ix : Nat) : Option am_Nx := match st with
  | .ref a :: r => (match am_fld (am_cl mi) ix with
    | some (c, k, _, _) => (bif am_cls a == some c then (match am_ref a k with | some j => some (.inl (pc + 3, ls, .ref j :: r, M)) | none => some (.inl (pc + 3, ls, .int (M a k) :: r, M))) else none)
    | none => none)
  | _ => none
def am_pf (mi pc : Nat) (ls st : List Value) (M : am_Mem) (ix : Nat) : Option am_Nx := match st with
  | .int x :: .ref a :: r => (match am_fld (am_cl mi) ix with
    | some (c, k, 0, _) => (bif (am_cls a == some c) && (am_ref a k == none) && (!am_fz c k || decide (x = am_b true) || decide (x = am_b false)) then some (.inl (pc + 3, ls, r, am_set M a k x)) else none)
    | _ => none)
  | _ => none
def am_gs (mi pc : Nat) (ls st : List Value) (M : am_Mem) (ix : Nat) : Option am_Nx := match am_gst (am_cl mi) ix with | some (j, _, _) => some (.inl (pc + 3, ls, .ref (30 + j) :: st, M)) | none => none
def am_al (pc : Nat) (ls st : List Value) (M : am_Mem) : Option am_Nx := match st with | .ref a :: r => (match am_len a with | some n => some (.inl (pc + 1, ls, .int (nI n) :: r, M)) | none => none) | _ => none
def am_ia (pc : Nat) (ls st : List Value) (M : am_Mem) : Option am_Nx := match st with
  | .int x :: .ref a :: r => (match am_len a with | some n => (if x < 0 ∨ n ≤ x.toNatClampNeg then none else some (.inl (pc + 1, ls, .int (am_rd M a x.toNatClampNeg) :: r, M))) | none => none)
  | _ => none
def am_iS (pc : Nat) (ls st : List Value) (M : am_Mem) : Option am_Nx := match st with
  | .int v :: .int x :: .ref a :: r => (match am_len a with | some n => (bif Nat.blt a 30 then (if x < 0 ∨ n ≤ x.toNatClampNeg then none else some (.inl (pc + 1, ls, r, am_set M a x.toNatClampNeg v))) else none) | none => none)
  | _ => none
def am_vr (mi : Nat) (st : List Value) (M : am_Mem) : Option am_Nx := match st with | [] => (match am_rk mi with | 0 => some (.inr (.inl (none, M))) | _ => none) | _ => none
def am_stp (mi pc len : Nat) (ls st : List Value) (M : am_Mem) (i : Instr) : Option am_Nx := match i with
  | .aload_n k => am_lda (pc + 1) ls st M k
  | .iload_n k => am_ld (pc + 1) ls st M k
  | .iload k => am_ld (pc + 2) ls st M k
  | .istore_n k => am_sto (pc + 1) ls st M k
  | .istore k => am_sto (pc + 2) ls st M k
  | .iinc k n => am_inc pc ls st M k n
  | .iconst n => some (.inl (pc + 1, ls, .int (am_k n) :: st, M))
  | .bipush n => some (.inl (pc + 2, ls, .int (am_k n) :: st, M))
  | .sipush n => some (.inl (pc + 3, ls, .int (am_k n) :: st, M))
  | .ldc ix => am_cs mi (pc + 2) ls st M ix
  | .ldc_w ix => am_cs mi (pc + 3) ls st M ix
  | .iadd => am_op2 pc ls st M (fun x y => x + y)
  | .isub => am_op2 pc ls st M (fun x y => x - y)
  | .imul => am_op2 pc ls st M (fun x y => x * y)
  | .iand => am_op2 pc ls st M (fun x y => x &&& y)
  | .ior => am_op2 pc ls st M (fun x y => x ||| y)
  | .ixor => am_op2 pc ls st M (fun x y => x ^^^ y)
  | .ishl => am_op2 pc ls st M (fun x y => x <<< (y &&& 31))
  | .ishr => am_op2 pc ls st M (fun x y => x >>> (y &&& 31))
  | .iushr => am_op2 pc ls st M (fun x y => (x.toUInt32 >>> (y.toUInt32 &&& Int32.toUInt32 31)).toInt32)
  | .idiv => am_dv pc ls st M (fun x y => x / y)
  | .irem => am_dv pc ls st M (fun x y => x - x / y * y)
  | .ineg => am_ng pc ls st M
  | .dup => am_du pc ls st M
  | .dup2 => am_d2 pc ls st M
  | .goto off => some (.inl (am_tg pc off, ls, st, M))
  | .ifCond c off => am_ic pc ls st M c off
  | .if_icmp c off => am_ii pc ls st M c off
  | .tableswitch d lo hi offs => am_ts pc ls st M d lo hi offs
  | .lookupswitch d ps => am_lk pc ls st M d ps
  | .getfield ix => am_gf mi pc ls st M ix
  | .putfield ix => am_pf mi pc ls st M ix
  | .getstatic ix => am_gs mi pc ls st M ix
  | .arraylength => am_al pc ls st M
  | .iaload => am_ia pc ls st M
  | .iastore => am_iS pc ls st M
  | .invokevirtual ix => am_cal1 mi pc ls st M ix false
  | .invokestatic ix => am_cal1 mi pc ls st M ix true
  | .ireturn => am_iret mi st M
  | .return_ => am_vr mi st M
  | _ => none
def am_nx (mi : Nat) (s : am_St) : Option am_Nx := match am_cod mi s.1 with
  | some (i, len) => am_stp mi s.1 len s.2.1 s.2.2.1 s.2.2.2 i
  | none => none
def am_ent (j : Nat) (as : List Value) (M : am_Mem) : am_St := (0, as ++ List.replicate (am_ml j - as.length) Value.null, [], M)
def am_ex : Nat → Nat → am_St → Option (Option Value × am_Mem)
  | 0, _, _ => none
  | n + 1, mi, s => match am_nx mi s with
    | none => none
    | some (.inl s2) => am_ex n mi s2
    | some (.inr (.inl r)) => some r
    | some (.inr (.inr (j, as, s2))) => match am_ex n j (am_ent j as s2.2.2.2) with
      | some (some (.int v), M2) => am_ex n mi (s2.1, s2.2.1, .int v :: s2.2.2.1, M2)
      | some (none, M2) => am_ex n mi (s2.1, s2.2.1, s2.2.2.1, M2)
      | _ => none
/-- n inner steps, none of which is a call or an end -/
def am_run : Nat → Nat → am_St → Option am_St
  | 0, _, s => some s
  | n + 1, mi, s => match am_nx mi s with
    | some (.inl s2) => am_run n mi s2
    | _ => none
/-- the method comes to an end, with Q of its answer and its memory -/
def am_go (mi : Nat) (s : am_St) (Q : Option Value → am_Mem → Prop) : Prop := ∃ (n : Nat) (r : Option Value) (M : am_Mem), am_ex n mi s = some (r, M) ∧ Q r M
theorem am_mono1 : ∀ (n mi : Nat) (s : am_St) (x : Option Value × am_Mem), am_ex n mi s = some x → am_ex (n + 1) mi s = some x := by
  intro n
  induction n with
  | zero => intro mi s x h; cases h
  | succ n ih =>
    intro mi s x h
    rw [am_ex] at h ⊢
    cases hn : am_nx mi s with
    | none => rw [hn] at h; cases h
    | some y =>
      rw [hn] at h
      rcases y with s2 | r | ⟨j, as, s2⟩
      · exact ih _ _ _ h
      · exact h
      · dsimp only at h ⊢
        cases hc : am_ex n j (am_ent j as s2.2.2.2) with
        | none => rw [hc] at h; cases h
        | some z =>
          rw [hc] at h
          rw [ih _ _ _ hc]
          obtain ⟨r, M2⟩ := z
          cases r with
          | none => exact ih _ _ _ h
          | some v => cases v <;> first | exact ih _ _ _ h | cases h
theorem am_mono {n mi : Nat} {s : am_St} {x : Option Value × am_Mem} (h : am_ex n mi s = some x) (k : Nat) : am_ex (n + k) mi s = some x := by
  induction k with
  | zero => exact h
  | succ k ih => exact am_mono1 _ _ _ _ ih
theorem am_goN {mi : Nat} {s s2 : am_St} {Q : Option Value → am_Mem → Prop} (h : am_nx mi s = some (.inl s2)) (k : am_go mi s2 Q) : am_go mi s Q := by
  obtain ⟨n, r, M, h1, h2⟩ := k
  refine ⟨n + 1, r, M, ?_, h2⟩
  rw [am_ex, h]
  exact h1
theorem am_goR (n : Nat) {mi : Nat} {s s2 : am_St} {Q : Option Value → am_Mem → Prop} (h : am_run n mi s = some s2) (k : am_go mi s2 Q) : am_go mi s Q := by
  induction n generalizing s with
  | zero => cases h; exact k
  | succ n ih =>
    rw [am_run] at h
    cases hn : am_nx mi s with
    | none => rw [hn] at h; cases h
    | some y =>
      rw [hn] at h
      rcases y with s3 | y
      · exact am_goN hn (ih h)
      · cases h
theorem am_goB {mi : Nat} {s s1 s2 : am_St} {Q : Option Value → am_Mem → Prop} (P : Prop) [Decidable P] (h : am_nx mi s = some (.inl (bif decide P then s1 else s2))) (k1 : P → am_go mi s1 Q) (k2 : ¬ P → am_go mi s2 Q) : am_go mi s Q := by
  refine am_goN h ?_
  by_cases hp : P
  · rw [decide_eq_true hp]; exact k1 hp
  · rw [decide_eq_false hp]; exact k2 hp
theorem am_goB' {mi : Nat} {s s1 s2 : am_St} {Q : Option Value → am_Mem → Prop} (P : Prop) [Decidable P] (h : am_nx mi s = some (.inl (bif !decide P then s1 else s2))) (k1 : ¬ P → am_go mi s1 Q) (k2 : P → am_go mi s2 Q) : am_go mi s Q := by
  refine am_goN h ?_
  by_cases hp : P
  · rw [decide_eq_true hp]; exact k2 hp
  · rw [decide_eq_false hp]; exact k1 hp
/-- what a method answers, and leaves: an int, or nothing -/
def am_ri (P : Int32 → am_Mem → Prop) : Option Value → am_Mem → Prop := fun r N => ∃ x : Int32, r = some (.int x) ∧ P x N
def am_rv (P : am_Mem → Prop) : Option Value → am_Mem → Prop := fun r N => r = none ∧ P N
theorem am_goC {mi j : Nat} {s s2 : am_St} {as : List Value} {Q : Option Value → am_Mem → Prop} {P : Int32 → am_Mem → Prop} (h : am_nx mi s = some (.inr (.inr (j, as, s2)))) (hc : am_go j (am_ent j as s2.2.2.2) (am_ri P)) (k : ∀ x M2, P x M2 → am_go mi (s2.1, s2.2.1, .int x :: s2.2.2.1, M2) Q) : am_go mi s Q := by
  obtain ⟨n, r, M, h1, x, rfl, h2⟩ := hc
  obtain ⟨n2, r2, M2, h3, h4⟩ := k x M h2
  refine ⟨n + n2 + 1, r2, M2, ?_, h4⟩
  rw [am_ex, h]
  dsimp only
  rw [am_mono h1 n2]
  dsimp only
  rw [Nat.add_comm n n2]
  exact am_mono h3 n
theorem am_goV {mi j : Nat} {s s2 : am_St} {as : List Value} {Q : Option Value → am_Mem → Prop} {P : am_Mem → Prop} (h : am_nx mi s = some (.inr (.inr (j, as, s2)))) (hc : am_go j (am_ent j as s2.2.2.2) (am_rv P)) (k : ∀ M2, P M2 → am_go mi (s2.1, s2.2.1, s2.2.2.1, M2) Q) : am_go mi s Q := by
  obtain ⟨n, r, M, h1, rfl, h2⟩ := hc
  obtain ⟨n2, r2, M2, h3, h4⟩ := k M h2
  refine ⟨n + n2 + 1, r2, M2, ?_, h4⟩
  rw [am_ex, h]
  dsimp only
  rw [am_mono h1 n2]
  dsimp only
  rw [Nat.add_comm n n2]
  exact am_mono h3 n
/-- a known answer, a known memory -/
def am_is (v : Int32) (M : am_Mem) : Option Value → am_Mem → Prop := am_ri (fun x N => x = v ∧ N = M)
theorem am_goX {mi j : Nat} {s s2 : am_St} {as : List Value} {v : Int32} {M2 : am_Mem} {Q : Option Value → am_Mem → Prop} (h : am_nx mi s = some (.inr (.inr (j, as, s2)))) (hc : am_go j (am_ent j as s2.2.2.2) (am_is v M2)) (k : am_go mi (s2.1, s2.2.1, .int v :: s2.2.2.1, M2) Q) : am_go mi s Q :=
  am_goC h hc (fun x M h => by obtain ⟨rfl, rfl⟩ := h; exact k)
theorem am_goY {mi j : Nat} {s s2 : am_St} {as : List Value} {M2 : am_Mem} {Q : Option Value → am_Mem → Prop} (h : am_nx mi s = some (.inr (.inr (j, as, s2)))) (hc : am_go j (am_ent j as s2.2.2.2) (am_rv (fun N => N = M2))) (k : am_go mi (s2.1, s2.2.1, s2.2.2.1, M2) Q) : am_go mi s Q :=
  am_goV h hc (fun M h => by subst h; exact k)
theorem am_goE {mi : Nat} {s : am_St} {Q : Option Value → am_Mem → Prop} (r : Option Value) (M : am_Mem) (h : am_nx mi s = some (.inr (.inl (r, M)))) (k : Q r M) : am_go mi s Q := ⟨1, r, M, by rw [am_ex, h], k⟩
theorem am_goZ {mi : Nat} {s : am_St} {Q : Option Value → am_Mem → Prop} {M : am_Mem} (B : Bool) (h : am_nx mi s = (if am_b B = am_b true ∨ am_b B = am_b false then some (.inr (.inl (some (.int (am_b B)), M))) else none)) (k : Q (some (.int (am_b B))) M) : am_go mi s Q := by
  refine am_goE (some (.int (am_b B))) M ?_ k
  rw [h, if_pos]
  cases B
  · exact Or.inr rfl
  · exact Or.inl rfl
theorem am_inI {n k : Nat} (hk : k < n) (hn : n < 2 ^ 31) : ¬ (nI k < 0 ∨ n ≤ (nI k).toNatClampNeg) := nI_in hk hn
theorem am_goL {mi : Nat} {pc a n : Nat} {x : Int32} {ls r : List Value} {M : am_Mem} {s : am_St} {Q : Option Value → am_Mem → Prop} (k : Nat) (h : am_nx mi s = (if x < 0 ∨ n ≤ x.toNatClampNeg then none else some (.inl (pc, ls, .int (am_rd M a x.toNatClampNeg) :: r, M)))) (hx : x = nI k) (hk : k < n) (hn : n < 2 ^ 31) (g : am_go mi (pc, ls, .int (am_rd M a k) :: r, M) Q) : am_go mi s Q := by
  subst hx
  rw [if_neg (am_inI hk hn), nI_clamp (Nat.lt_trans hk hn)] at h
  exact am_goN h g
theorem am_goS {mi : Nat} {pc a n : Nat} {x v : Int32} {ls r : List Value} {M : am_Mem} {s : am_St} {Q : Option Value → am_Mem → Prop} (k : Nat) (h : am_nx mi s = (if x < 0 ∨ n ≤ x.toNatClampNeg then none else some (.inl (pc, ls, r, am_set M a x.toNatClampNeg v)))) (hx : x = nI k) (hk : k < n) (hn : n < 2 ^ 31) (g : am_go mi (pc, ls, r, am_set M a k v) Q) : am_go mi s Q := by
  subst hx
  rw [if_neg (am_inI hk hn), nI_clamp (Nat.lt_trans hk hn)] at h
  exact am_goN h g
theorem am_goD {mi : Nat} {y : Int32} {s s2 : am_St} {Q : Option Value → am_Mem → Prop} (h : am_nx mi s = (if y = 0 then none else some (.inl s2))) (hy : ¬ y = 0) (g : am_go mi s2 Q) : am_go mi s Q := by
  rw [if_neg hy] at h
  exact am_goN h g
