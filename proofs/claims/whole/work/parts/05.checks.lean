/-! an abstract machine, 3: the tables hold what decode and the Statement's words say (by the kernel) -/
def am_ln (n len : Nat) : Bool := Nat.beq len n
/-- an instruction's length, its number, where it may go -/
def am_lit (pc len : Nat) (i : Instr) : Bool := match i with
  | .aload_n _ => am_ln 1 len
  | .iload_n _ => am_ln 1 len
  | .istore_n _ => am_ln 1 len
  | .iload _ => am_ln 2 len
  | .istore _ => am_ln 2 len
  | .iinc _ n => am_ln 3 len && decide (Int32.ofInt n = am_k n)
  | .iconst n => am_ln 1 len && decide (Int32.ofInt n = am_k n)
  | .bipush n => am_ln 2 len && decide ((Int8.ofInt n).toInt32 = am_k n)
  | .sipush n => am_ln 3 len && decide ((Int16.ofInt n).toInt32 = am_k n)
  | .ldc _ => am_ln 2 len
  | .ldc_w _ => am_ln 3 len
  | .iadd => am_ln 1 len
  | .isub => am_ln 1 len
  | .imul => am_ln 1 len
  | .iand => am_ln 1 len
  | .ior => am_ln 1 len
  | .ixor => am_ln 1 len
  | .ishl => am_ln 1 len
  | .ishr => am_ln 1 len
  | .iushr => am_ln 1 len
  | .idiv => am_ln 1 len
  | .irem => am_ln 1 len
  | .ineg => am_ln 1 len
  | .dup => am_ln 1 len
  | .dup2 => am_ln 1 len
  | .goto off => am_ln 3 len && decide (0 ≤ (pc : Int) + off)
  | .ifCond _ off => am_ln 3 len && decide (0 ≤ (pc : Int) + off)
  | .if_icmp _ off => am_ln 3 len && decide (0 ≤ (pc : Int) + off)
  | .tableswitch d _ _ offs => decide (0 ≤ (pc : Int) + d) && offs.toList.all (fun o => decide (0 ≤ (pc : Int) + o))
  | .lookupswitch d ps => decide (0 ≤ (pc : Int) + d) && ps.toList.all (fun o => decide (0 ≤ (pc : Int) + o.2)) && (ps.toList.zip (ps.toList.drop 1)).all (fun (a, next) => a.1 < next.1)
  | .getfield _ => am_ln 3 len
  | .putfield _ => am_ln 3 len
  | .getstatic _ => am_ln 3 len
  | .arraylength => am_ln 1 len
  | .iaload => am_ln 1 len
  | .iastore => am_ln 1 len
  | .invokevirtual _ => am_ln 3 len
  | .invokestatic _ => am_ln 3 len
  | .ireturn => am_ln 1 len
  | .return_ => am_ln 1 len
  | _ => true
/-- a method's code, as the words have it -/
def am_byt (mi : Nat) : ByteArray := match lw_tbl[(am_wp mi).1]? with | some (.code _ b _ _) => b | _ => ⟨#[]⟩
def am_okd (mi pc : Nat) : Bool := match am_cod mi pc with
  | none => true
  | some (i, len) => decide (decode (am_byt mi) pc = .ok (i, len)) && am_lit pc len i
def am_okr (lo n : Nat) : Bool := (List.range n).all fun d => (List.range 512).all fun pc => am_okd (lo + d) pc
theorem am_okr1 : am_okr 0 30 = true := by decide +kernel
theorem am_okr2 : am_okr 30 30 = true := by decide +kernel
theorem am_okr3 : am_okr 60 30 = true := by decide +kernel
theorem am_okr4 : am_okr 90 30 = true := by decide +kernel
theorem am_okr5 : am_okr 120 20 = true := by decide +kernel
theorem am_okr6 : am_okr 140 22 = true := by decide +kernel
theorem am_bifS {α : Type} {b : Bool} {x : Option α} {y : α} (h : (bif b then x else none) = some y) : b = true ∧ x = some y := by
  cases b
  · cases h
  · exact ⟨rfl, h⟩
theorem am_blt {a b : Nat} (h : Nat.blt a b = true) : a < b := Nat.le_of_ble_eq_true h
theorem am_cod_lt {mi pc : Nat} {x : Instr × Nat} (h : am_cod mi pc = some x) : mi < 162 ∧ pc < 512 := by
  by_cases hp : pc < 512
  · exact ⟨am_blt (am_bifS h).1, hp⟩
  · sorry
theorem am_code {mi pc len : Nat} {i : Instr} (h : am_cod mi pc = some (i, len)) : decode (am_byt mi) pc = .ok (i, len) ∧ am_lit pc len i = true := by
  obtain ⟨h1, h2⟩ := am_cod_lt h
  have key : ∀ lo n : Nat, am_okr lo n = true → lo ≤ mi → mi < lo + n → am_okd mi pc = true := by
    intro lo n ho ha hb
    have e := List.all_eq_true.mp (List.all_eq_true.mp ho (mi - lo) (List.mem_range.mpr (by omega))) pc (List.mem_range.mpr h2)
    rw [show lo + (mi - lo) = mi by omega] at e
    exact e
  have hk : am_okd mi pc = true := by
    by_cases a1 : mi < 30
    · exact key _ _ am_okr1 (by omega) (by omega)
    by_cases a2 : mi < 60
    · exact key _ _ am_okr2 (by omega) (by omega)
    by_cases a3 : mi < 90
    · exact key _ _ am_okr3 (by omega) (by omega)
    by_cases a4 : mi < 120
    · exact key _ _ am_okr4 (by omega) (by omega)
    by_cases a5 : mi < 140
    · exact key _ _ am_okr5 (by omega) (by omega)
    · exact key _ _ am_okr6 (by omega) (by omega)
  unfold am_okd at hk
  rw [h] at hk
  simp only [Bool.and_eq_true, decide_eq_true_eq] at hk
  exact hk
/-- the words that every method is given -/
def am_wl : List Cond := lw_tbl.filter goodWord
def am_ws (mi : Nat) : List Cond := .code (am_nam mi) (am_byt mi) (am_ml mi) (am_rt (am_rk mi)) :: am_wl
def am_at (p : Nat) (w : Cond) : Bool := decide (lw_tbl[p]? = some w) && goodWord w
theorem am_at.wl {p : Nat} {w : Cond} (h : am_at p w = true) : w ∈ am_wl := by
  unfold am_at at h
  simp only [Bool.and_eq_true, decide_eq_true_eq] at h
  exact List.mem_filter.mpr ⟨List.mem_of_getElem? h.1, h.2⟩
theorem am_good {ws : List Cond} (h : ∀ w ∈ ws, w ∈ am_wl) : GoodIn am_wl ws := fun w hw => ⟨h w hw, good_of_word (List.mem_filter.mp (h w hw)).2⟩
/-- a method's own words -/
def am_okw (j : Nat) : Bool := match lw_tbl[(am_wp j).1]? with | some (.code y _ n r) => decide (y = am_nam j) && decide (n = am_ml j) && decide (r = am_rt (am_rk j)) | _ => false
def am_okm (j : Nat) : Bool := am_okw j && am_at (am_ip (am_cl j)) (.initialized (am_nam j).cls) && decide ((am_nam j).cls = am_cn (am_cl j)) &&
  decide ((am_nam j).cls ≠ "java/lang/invoke/MethodHandle") && decide ((am_nam j).cls ≠ "java/lang/invoke/VarHandle") && decide ((parseMethodDescriptor (am_nam j).desc).map (fun d => d.parameters.length) = some (am_np j)) && plainName (am_nam j).cls &&
  Nat.ble (am_ml j) 11 && (bif am_sta j then am_at (am_wp j).2.1 (.static (am_nam j)) && Nat.ble (am_np j) (am_ml j) else am_at (am_wp j).2.1 (.instanceMethod (am_nam j)) && am_at (am_wp j).2.2 (.selects (am_nam j).cls (am_nam j) (am_nam j)) && Nat.ble (am_np j + 1) (am_ml j) && Nat.blt (am_cl j) 5)
theorem am_okm_all : (List.range 162).all am_okm = true := by decide +kernel
/-- what a call names -/
def am_okc (c ix : Nat) : Bool := match am_cal c ix with
  | none => true
  | some (j, k, p) => Nat.blt j 162 && (match k with | 0 => am_at p (.methodLink (am_cn c) ix (am_nam j)) | 1 => am_sta j && decide (lw_tbl[p]? = some (.methodLinkNest (am_cn c) ix (am_nam j) RX3)) | _ => false)
theorem am_okc_all : ((List.range 7).all fun c => (List.range 256).all fun ix => am_okc c ix) = true := by decide +kernel
def am_TT (c : Nat) : u_T := match c with | 0 => TX0 | 1 => TX1 | 2 => TX2 | 3 => TX3 | _ => TX4
def am_ty (c : Nat) : Nat → FieldType := match c with | 0 => tyX0 | 1 => tyX1 | 2 => tyX2 | 3 => tyX3 | _ => tyX4
def am_n (c : Nat) : Nat := match c with | 0 => 7 | 1 => 7 | 2 => 3 | 3 => 10 | _ => 27
/-- what a field's name is -/
def am_okf (c ix : Nat) : Bool := match am_fld c ix with
  | none => true
  | some (fc, k, kd, p) => Nat.blt fc 5 && Nat.blt k (am_n fc) && (match kd with
    | 0 => am_at p (.fieldLink (am_cn c) ix (am_TT fc k).1 (am_TT fc k).2.1 (am_TT fc k).2.2.1)
    | 1 => decide (lw_tbl[p]? = some (.fieldLinkNest (am_cn c) ix (am_TT fc k).1 (am_TT fc k).2.1 (am_TT fc k).2.2.1 RX3))
    | _ => false)
theorem am_okf_all : ((List.range 5).all fun c => (List.range 256).all fun ix => am_okf c ix) = true := by decide +kernel
def am_sn (j : Nat) : String := match j with | 0 => "KIND_LETTERS" | 1 => "REACHES" | _ => "WORKS"
def am_okg (c ix : Nat) : Bool := match am_gst c ix with
  | none => true
  | some (j, kd, p) => Nat.blt j 3 && (match kd with
    | 0 => am_at p (.fieldLink (am_cn c) ix RX3 (am_sn j) "[I")
    | 1 => decide (lw_tbl[p]? = some (.fieldLinkNest (am_cn c) ix RX3 (am_sn j) "[I" RX3))
    | _ => false)
theorem am_okg_all : ((List.range 5).all fun c => (List.range 256).all fun ix => am_okg c ix) = true := by decide +kernel
def am_okk (c ix : Nat) : Bool := match am_cst c ix with
  | none => true
  | some (v, p) => am_at p (.constant (am_cn c) ix v)
theorem am_okk_all : ((List.range 7).all fun c => (List.range 512).all fun ix => am_okk c ix) = true := by decide +kernel
def am_okl (c : Nat) : Bool := (List.range (am_n c)).all fun k => am_at (am_lp c k) (u_lay (am_cn c) (am_TT c) k)
theorem am_okl_all : (List.range 5).all am_okl = true := by decide +kernel
