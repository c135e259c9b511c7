/-! an abstract machine, 3: the tables hold what decode and the Statement's words say (by the kernel) -/
def am_ln (n len : Nat) : Bool := Nat.beq len n
/-- an instruction's length, its number, where it may go -/
def am_lit (pc len : Nat) (i : Instr) : Bool := match i with
  | .aload_n _ => am_ln 1 len
  | .iload_n _ => am_ln 1 len
  | .istore_n _ => am_ln 1 len
  | .iload _ => am_ln 2 len
  | .istore _ => am_ln 2 len
  | .iinc _ n => am_ln 3 len && decide (Int32.ofInt n = am_k n)
  | .iconst n => am_ln 1 len && decide (Int32.ofInt n = am_k n)
  | .bipush n => am_ln 2 len && decide ((Int8.ofInt n).toInt32 = am_k n)
  | .sipush n => am_ln 3 len && decide ((Int16.ofInt n).toInt32 = am_k n)
  | .ldc _ => am_ln 2 len
  | .ldc_w _ => am_ln 3 len
  | .iadd => am_ln 1 len
  | .isub => am_ln 1 len
  | .imul => am_ln 1 len
  | .iand => am_ln 1 len
  | .ior => am_ln 1 len
  | .ixor => am_ln 1 len
  | .ishl => am_ln 1 len
  | .ishr => am_ln 1 len
  | .iushr => am_ln 1 len
  | .idiv => am_ln 1 len
  | .irem => am_ln 1 len
  | .ineg => am_ln 1 len
  | .dup => am_ln 1 len
  | .dup2 => am_ln 1 len
  | .goto off => am_ln 3 len && decide (0 ≤ (pc : Int) + off)
  | .ifCond _ off => am_ln 3 len && decide (0 ≤ (pc : Int) + off)
  | .if_icmp _ off => am_ln 3 len && decide (0 ≤ (pc : Int) + off)
  | .tableswitch d _ _ offs => decide (0 ≤ (pc : Int) + d) && offs.toList.all (fun o => decide (0 ≤ (pc : Int) + o))
  | .lookupswitch d ps => decide (0 ≤ (pc : Int) + d) && ps.toList.all (fun o => decide (0 ≤ (pc : Int) + o.2)) && (ps.toList.zip (ps.toList.drop 1)).all (fun (a, next) => a.1 < next.1)
  | .getfield _ => am_ln 3 len
  | .putfield _ => am_ln 3 len
  | .getstatic _ => am_ln 3 len
  | .arraylength => am_ln 1 len
  | .iaload => am_ln 1 len
  | .iastore => am_ln 1 len
  | .invokevirtual _ => am_ln 3 len
  | .invokestatic _ => am_ln 3 len
  | .ireturn => am_ln 1 len
  | .return_ => am_ln 1 len
  | _ => true
/-- a method's code, as the words have it -/
def am_byt (mi : Nat) : ByteArray := match lw_tbl[(am_wp mi).1]? with | some (.code _ b _ _) => b | _ => ⟨#[]⟩
def am_okd (mi pc : Nat) : Bool := match am_cod mi pc with
  | none => true
  | some (i, len) => decide (decode (am_byt mi) pc = .ok (i, len)) && am_lit pc len i
def am_okr (lo n : Nat) : Bool := (List.range n).all fun d => (List.range 512).all fun pc => am_okd (lo + d) pc
theorem am_okr1 : am_okr 0 30 = true := by decide +kernel
theorem am_okr2 : am_okr 30 30 = true := by decide +kernel
theorem am_okr3 : am_okr 60 30 = true := by decide +kernel
theorem am_okr4 : am_okr 90 30 = true := by decide +kernel
theorem am_okr5 : am_okr 120 20 = true := by decide +kernel
theorem am_okr6 : am_okr 140 20 = true := by decide +kernel
theorem am_bifS {α : Type} {b : Bool} {x : Option α} {y : α} (h : (bif b then x else none) = some y) : b = true ∧ x = some y := by
  cases b
  · cases h
  · exact ⟨rfl, h⟩
theorem am_blt {a b : Nat} (h : Nat.blt a b = true) : a < b := Nat.le_of_ble_eq_true h
theorem am_code {mi pc len : Nat} {i : Instr} (h : am_cod mi pc = some (i, len)) : decode (am_byt mi) pc = .ok (i, len) ∧ am_lit pc len i = true := by
  have h1 : mi < 160 := am_blt (am_bifS h).1
  have h2 : pc < 512 := am_blt (am_bifS (am_bifS h).2).1
  have key : ∀ lo n : Nat, am_okr lo n = true → lo ≤ mi → mi < lo + n → am_okd mi pc = true := by
    intro lo n ho ha hb
    have e := List.all_eq_true.mp (List.all_eq_true.mp ho (mi - lo) (List.mem_range.mpr (by omega))) pc (List.mem_range.mpr h2)
    rw [show lo + (mi - lo) = mi by omega] at e
    exact e
  have hk : am_okd mi pc = true := by
    by_cases a1 : mi < 30
    · exact key _ _ am_okr1 (by omega) (by omega)
    by_cases a2 : mi < 60
    · exact key _ _ am_okr2 (by omega) (by omega)
    by_cases a3 : mi < 90
    · exact key _ _ am_okr3 (by omega) (by omega)
    by_cases a4 : mi < 120
    · exact key _ _ am_okr4 (by omega) (by omega)
    by_cases a5 : mi < 140
    · exact key _ _ am_okr5 (by omega) (by omega)
    · exact key _ _ am_okr6 (by omega) (by omega)
  unfold am_okd at hk
  rw [h] at hk
  simp only [Bool.and_eq_true, decide_eq_true_eq] at hk
  exact hk
