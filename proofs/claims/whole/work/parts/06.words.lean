/-! an abstract machine, 4: the words of the tables, by place -/
/-- the words that every method is given -/
def am_wl : List Cond := lw_tbl.filter goodWord
def am_ws (mi : Nat) : List Cond := .code (am_nam mi) (am_byt mi) (am_ml mi) (am_rt (am_rk mi)) :: am_wl
def am_at (p : Nat) (w : Cond) : Bool := decide (lw_tbl[p]? = some w) && goodWord w
theorem am_at.wl {p : Nat} {w : Cond} (h : am_at p w = true) : w ∈ am_wl := by
  unfold am_at at h
  simp only [Bool.and_eq_true, decide_eq_true_eq] at h
  exact List.mem_filter.mpr ⟨List.mem_of_getElem? h.1, h.2⟩
theorem am_good {ws : List Cond} (h : ∀ w ∈ ws, w ∈ am_wl) : GoodIn am_wl ws := fun w hw => ⟨h w hw, good_of_word (List.mem_filter.mp (h w hw)).2⟩
/-- a method's own words -/
def am_okw (j : Nat) : Bool := match lw_tbl[(am_wp j).1]? with | some (.code y _ n r) => decide (y = am_nam j) && decide (n = am_ml j) && decide (r = am_rt (am_rk j)) | _ => false
def am_okm (j : Nat) : Bool := am_okw j && am_at (am_ip (am_cl j)) (.initialized (am_nam j).cls) && decide ((am_nam j).cls = am_cn (am_cl j)) &&
  decide ((am_nam j).cls ≠ "java/lang/invoke/MethodHandle") && decide ((am_nam j).cls ≠ "java/lang/invoke/VarHandle") && decide ((parseMethodDescriptor (am_nam j).desc).map (fun d => d.parameters.length) = some (am_np j)) && plainName (am_nam j).cls &&
  Nat.ble (am_ml j) 11 && (bif am_sta j then am_at (am_wp j).2.1 (.static (am_nam j)) && Nat.ble (am_np j) (am_ml j) else am_at (am_wp j).2.1 (.instanceMethod (am_nam j)) && am_at (am_wp j).2.2 (.selects (am_nam j).cls (am_nam j) (am_nam j)) && Nat.ble (am_np j + 1) (am_ml j) && Nat.blt (am_cl j) 5)
theorem am_okm_all : (List.range 160).all am_okm = true := by decide +kernel
/-- what a call names -/
def am_okc (c ix : Nat) : Bool := match am_cal c ix with
  | none => true
  | some (j, k, p) => Nat.blt j 162 && (Nat.blt j 160 || (am_at (am_wp j).2.1 (.static (am_nam j)) && am_okw j && am_at (am_ip 6) (.initialized "java/lang/Math") && Nat.beq k 0)) && (match k with | 0 => am_at p (.methodLink (am_cn c) ix (am_nam j)) | 1 => am_sta j && decide (lw_tbl[p]? = some (.methodLinkNest (am_cn c) ix (am_nam j) RX3)) | _ => false)
theorem am_okc_all : ((List.range 7).all fun c => (List.range 256).all fun ix => am_okc c ix) = true := by decide +kernel
def am_TT (c : Nat) : u_T := match c with | 0 => TX0 | 1 => TX1 | 2 => TX2 | 3 => TX3 | _ => TX4
def am_ty (c : Nat) : Nat → FieldType := match c with | 0 => tyX0 | 1 => tyX1 | 2 => tyX2 | 3 => tyX3 | _ => tyX4
def am_n (c : Nat) : Nat := match c with | 0 => 7 | 1 => 7 | 2 => 3 | 3 => 10 | _ => 27
/-- what a field's name is -/
def am_okf (c ix : Nat) : Bool := match am_fld c ix with
  | none => true
  | some (fc, k, kd, p) => Nat.blt fc 5 && Nat.blt k (am_n fc) && (match kd with
    | 0 => am_at p (.fieldLink (am_cn c) ix (am_TT fc k).1 (am_TT fc k).2.1 (am_TT fc k).2.2.1)
    | 1 => decide (lw_tbl[p]? = some (.fieldLinkNest (am_cn c) ix (am_TT fc k).1 (am_TT fc k).2.1 (am_TT fc k).2.2.1 RX3))
    | _ => false)
theorem am_okf_all : ((List.range 5).all fun c => (List.range 256).all fun ix => am_okf c ix) = true := by decide +kernel
def am_sn (j : Nat) : String := match j with | 0 => "KIND_LETTERS" | 1 => "REACHES" | _ => "WORKS"
def am_okg (c ix : Nat) : Bool := match am_gst c ix with
  | none => true
  | some (j, kd, p) => Nat.blt j 3 && (match kd with
    | 0 => am_at p (.fieldLink (am_cn c) ix RX3 (am_sn j) "[I")
    | 1 => decide (lw_tbl[p]? = some (.fieldLinkNest (am_cn c) ix RX3 (am_sn j) "[I" RX3))
    | _ => false)
theorem am_okg_all : ((List.range 5).all fun c => (List.range 256).all fun ix => am_okg c ix) = true := by decide +kernel
def am_okk (c ix : Nat) : Bool := match am_cst c ix with
  | none => true
  | some (v, p) => am_at p (.constant (am_cn c) ix v)
theorem am_okk_all : ((List.range 7).all fun c => (List.range 512).all fun ix => am_okk c ix) = true := by decide +kernel
def am_okl (c : Nat) : Bool := (List.range (am_n c)).all fun k => am_at (am_lp c k) (u_lay (am_cn c) (am_TT c) k)
theorem am_mabs : (am_nam 160 = Lib.Math.abs.name ∧ am_byt 160 = Lib.Math.abs.code ∧ am_ml 160 = 1 ∧ am_rt (am_rk 160) = some .int) := by decide +kernel
theorem am_mmin : (am_nam 161 = Lib.Math.min.name ∧ am_byt 161 = Lib.Math.min.code ∧ am_ml 161 = 2 ∧ am_rt (am_rk 161) = some .int) := by decide +kernel
theorem am_okl_all : (List.range 5).all am_okl = true := by decide +kernel
