/-! an abstract machine, 6: an inner step of it is a step of the machine -/
def am_rm (mi : Nat) : Room := { frames := am_hg mi, cells := 0, slots := 0, locals := 30 * am_hg mi }
/-- what is given all through a method -/
def am_cx (p : Program) (s : State) (m : MethodId) (args : Array Value) (meth : Method) (c : Code) (D : va_G) (cA : ClassId) (ad : Nat → Nat) (A : Nat → Prop) (mi : Nat) : Prop :=
  p.tables.exec = Jvm.exec ∧ c.code = am_byt mi ∧ meth.sig.returnType = am_rt (am_rk mi) ∧ c.maxLocals = am_ml mi ∧ s.vm.findClass (am_cn (am_cl mi)) = some m.cls ∧ (∀ w ∈ am_wl, w.before args s = true) ∧ meth.locks = false ∧ va_K D vwCl [(cA, .int)] s ∧ am_nw s ∧ am_T ad A s s.heap
def am_W (p : Program) (l : Launch) (e : Env) (s : State) (m : MethodId) (args : Array Value) (below : List Frame) (meth : Method) (c : Code) (D : va_G) (cA : ClassId) (ad : Nat → Nat) (A : Nat → Prop) (mi : Nat) (Q : State → Prop) (S : am_St) : Prop :=
  ∀ (H : Heap) (locs : List Loc) (ls : Array Slot), va_P D vwCl (am_w ad cA S.2.2.2) H → va_S A s.heap H locs → am_lv ad (am_ml mi) ls S.2.1 → W p l e (am_rm mi) s m args below meth c H locs 0 0 Q (F0 m S.1 ls (S.2.2.1.map (am_v ad)))
theorem am_ldI {pc k : Nat} {ls st : List Value} {M : am_Mem} {S : am_St} (h : am_ld pc ls st M k = some (.inl S)) : ∃ x : Int32, ls[k]? = some (.int x) ∧ S = (pc, ls, .int x :: st, M) := by
  unfold am_ld at h
  split at h
  · next x hx => cases h; exact ⟨x, hx, rfl⟩
  · cases h
theorem am_ldaI {pc k : Nat} {ls st : List Value} {M : am_Mem} {S : am_St} (h : am_lda pc ls st M k = some (.inl S)) : ∃ x : Nat, ls[k]? = some (.ref x) ∧ S = (pc, ls, .ref x :: st, M) := by
  unfold am_lda at h
  split at h
  · next x hx => cases h; exact ⟨x, hx, rfl⟩
  · cases h
theorem am_stoI {pc k : Nat} {ls st : List Value} {M : am_Mem} {S : am_St} (h : am_sto pc ls st M k = some (.inl S)) : ∃ (x : Int32) (r : List Value), st = .int x :: r ∧ k < ls.length ∧ S = (pc, ls.set k (.int x), r, M) := by
  unfold am_sto at h
  split at h
  · next x r =>
    obtain ⟨h1, h2⟩ := am_bifS h
    cases h2
    exact ⟨x, r, rfl, am_blt h1, rfl⟩
  · cases h
theorem am_incI {pc k : Nat} {n : Int} {ls st : List Value} {M : am_Mem} {S : am_St} (h : am_inc pc ls st M k n = some (.inl S)) : ∃ x : Int32, ls[k]? = some (.int x) ∧ S = (pc + 3, ls.set k (.int (x + am_k n)), st, M) := by
  unfold am_inc at h
  split at h
  · next x hx => cases h; exact ⟨x, hx, rfl⟩
  · cases h
theorem am_csI {mi pc ix : Nat} {ls st : List Value} {M : am_Mem} {S : am_St} (h : am_cs mi pc ls st M ix = some (.inl S)) : ∃ (v : Int32) (q : Nat), am_cst (am_cl mi) ix = some (v, q) ∧ S = (pc, ls, .int v :: st, M) := by
  unfold am_cs at h
  split at h
  · next v q hx => cases h; exact ⟨v, q, hx, rfl⟩
  · cases h
theorem am_op2I {pc : Nat} {ls st : List Value} {M : am_Mem} {S : am_St} {f : Int32 → Int32 → Int32} (h : am_op2 pc ls st M f = some (.inl S)) : ∃ (x y : Int32) (r : List Value), st = .int y :: .int x :: r ∧ S = (pc + 1, ls, .int (f x y) :: r, M) := by
  unfold am_op2 at h
  split at h
  · next y x r => cases h; exact ⟨x, y, r, rfl, rfl⟩
  · cases h
theorem am_dvI {pc : Nat} {ls st : List Value} {M : am_Mem} {S : am_St} {f : Int32 → Int32 → Int32} (h : am_dv pc ls st M f = some (.inl S)) : ∃ (x y : Int32) (r : List Value), st = .int y :: .int x :: r ∧ ¬ y = 0 ∧ S = (pc + 1, ls, .int (f x y) :: r, M) := by
  unfold am_dv at h
  split at h
  · next y x r =>
    by_cases hy : y = 0
    · rw [if_pos hy] at h; cases h
    · rw [if_neg hy] at h; cases h; exact ⟨x, y, r, rfl, hy, rfl⟩
  · cases h
theorem am_ngI {pc : Nat} {ls st : List Value} {M : am_Mem} {S : am_St} (h : am_ng pc ls st M = some (.inl S)) : ∃ (x : Int32) (r : List Value), st = .int x :: r ∧ S = (pc + 1, ls, .int (-x) :: r, M) := by
  unfold am_ng at h
  split at h
  · next x r => cases h; exact ⟨x, r, rfl, rfl⟩
  · cases h
theorem am_duI {pc : Nat} {ls st : List Value} {M : am_Mem} {S : am_St} (h : am_du pc ls st M = some (.inl S)) : ∃ (v : Value) (r : List Value), st = v :: r ∧ am_one v = true ∧ S = (pc + 1, ls, v :: v :: r, M) := by
  unfold am_du at h
  split at h
  · next x r => cases h; exact ⟨.int x, r, rfl, rfl, rfl⟩
  · next x r => cases h; exact ⟨.ref x, r, rfl, rfl, rfl⟩
  · cases h
theorem am_d2I {pc : Nat} {ls st : List Value} {M : am_Mem} {S : am_St} (h : am_d2 pc ls st M = some (.inl S)) : ∃ (x : Nat) (y : Int32) (r : List Value), st = .int y :: .ref x :: r ∧ S = (pc + 1, ls, .int y :: .ref x :: .int y :: .ref x :: r, M) := by
  unfold am_d2 at h
  split at h
  · next y x r => cases h; exact ⟨x, y, r, rfl, rfl⟩
  · cases h
theorem am_brI {b : Bool} {pc : Nat} {off : Int} {ls r : List Value} {M : am_Mem} {S : am_St} (h : am_br b pc off ls r M = some (.inl S)) : (b = true → S = (am_tg pc off, ls, r, M)) ∧ (b = false → S = (pc + 3, ls, r, M)) := by
  unfold am_br at h
  cases b
  · cases h; exact ⟨fun q => (by cases q), fun _ => rfl⟩
  · cases h; exact ⟨fun _ => rfl, fun q => (by cases q)⟩
theorem am_gfI {mi pc ix : Nat} {ls st : List Value} {M : am_Mem} {S : am_St} (h : am_gf mi pc ls st M ix = some (.inl S)) : ∃ (a : Nat) (r : List Value) (c k kd q : Nat), st = .ref a :: r ∧ am_fld (am_cl mi) ix = some (c, k, kd, q) ∧ am_cls a = some c ∧ ((∃ j : Nat, am_ref a k = some j ∧ S = (pc + 3, ls, .ref j :: r, M)) ∨ (am_ref a k = none ∧ S = (pc + 3, ls, .int (M a k) :: r, M))) := by
  unfold am_gf at h
  split at h
  · next a r =>
    split at h
    · next c k kd q hf =>
      obtain ⟨h1, h2⟩ := am_bifS h
      have hc : am_cls a = some c := by simpa using h1
      split at h2
      · next j hj => cases h2; exact ⟨a, r, c, k, kd, q, rfl, hf, hc, Or.inl ⟨j, hj, rfl⟩⟩
      · next hj => cases h2; exact ⟨a, r, c, k, kd, q, rfl, hf, hc, Or.inr ⟨hj, rfl⟩⟩
    · cases h
  · cases h
theorem am_pfI {mi pc ix : Nat} {ls st : List Value} {M : am_Mem} {S : am_St} (h : am_pf mi pc ls st M ix = some (.inl S)) : ∃ (x : Int32) (a : Nat) (r : List Value) (c k q : Nat), st = .int x :: .ref a :: r ∧ am_fld (am_cl mi) ix = some (c, k, 0, q) ∧ am_cls a = some c ∧ am_ref a k = none ∧ (am_fz c k = true → x = am_b true ∨ x = am_b false) ∧ S = (pc + 3, ls, r, am_set M a k x) := by
  unfold am_pf at h
  split at h
  · next x a r =>
    split at h
    · next c k q hf =>
      obtain ⟨h1, h2⟩ := am_bifS h
      cases h2
      simp only [Bool.and_eq_true, Bool.or_eq_true, Bool.not_eq_true', decide_eq_true_eq, beq_iff_eq] at h1
      refine ⟨x, a, r, c, k, q, rfl, hf, h1.1.1, h1.1.2, fun hz => ?_, rfl⟩
      rcases h1.2 with (z | z) | z
      · rw [hz] at z; cases z
      · exact Or.inl z
      · exact Or.inr z
    · cases h
  · cases h
theorem am_gsI {mi pc ix : Nat} {ls st : List Value} {M : am_Mem} {S : am_St} (h : am_gs mi pc ls st M ix = some (.inl S)) : ∃ (j kd q : Nat), am_gst (am_cl mi) ix = some (j, kd, q) ∧ S = (pc + 3, ls, .ref (30 + j) :: st, M) := by
  unfold am_gs at h
  split at h
  · next j kd q hx => cases h; exact ⟨j, kd, q, hx, rfl⟩
  · cases h
theorem am_alI {pc : Nat} {ls st : List Value} {M : am_Mem} {S : am_St} (h : am_al pc ls st M = some (.inl S)) : ∃ (a : Nat) (r : List Value) (n : Nat), st = .ref a :: r ∧ am_len a = some n ∧ S = (pc + 1, ls, .int (nI n) :: r, M) := by
  unfold am_al at h
  split at h
  · next a r =>
    split at h
    · next n hn => cases h; exact ⟨a, r, n, rfl, hn, rfl⟩
    · cases h
  · cases h
theorem am_iaI {pc : Nat} {ls st : List Value} {M : am_Mem} {S : am_St} (h : am_ia pc ls st M = some (.inl S)) : ∃ (x : Int32) (a : Nat) (r : List Value) (n : Nat), st = .int x :: .ref a :: r ∧ am_len a = some n ∧ vp_in x n ∧ S = (pc + 1, ls, .int (am_rd M a x.toNatClampNeg) :: r, M) := by
  unfold am_ia at h
  split at h
  · next x a r =>
    split at h
    · next n hn =>
      by_cases hx : x < 0 ∨ n ≤ x.toNatClampNeg
      · rw [if_pos hx] at h; cases h
      · rw [if_neg hx] at h; cases h; exact ⟨x, a, r, n, rfl, hn, hx, rfl⟩
    · cases h
  · cases h
theorem am_iSI {pc : Nat} {ls st : List Value} {M : am_Mem} {S : am_St} (h : am_iS pc ls st M = some (.inl S)) : ∃ (v x : Int32) (a : Nat) (r : List Value) (n : Nat), st = .int v :: .int x :: .ref a :: r ∧ am_len a = some n ∧ a < 30 ∧ vp_in x n ∧ S = (pc + 1, ls, r, am_set M a x.toNatClampNeg v) := by
  unfold am_iS at h
  split at h
  · next v x a r =>
    split at h
    · next n hn =>
      obtain ⟨h1, h2⟩ := am_bifS h
      by_cases hx : x < 0 ∨ n ≤ x.toNatClampNeg
      · rw [if_pos hx] at h2; cases h2
      · rw [if_neg hx] at h2; cases h2; exact ⟨v, x, a, r, n, rfl, hn, am_blt h1, hx, rfl⟩
    · cases h
  · cases h
theorem am_len30 {a n : Nat} (h : am_len a = some n) (ha : ¬ a < 30) : n = 6 ∧ ∃ j : Nat, j < 3 ∧ a = 30 + j := by
  unfold am_len at h
  split at h <;> first | (exfalso; omega) | (cases h; exact ⟨rfl, 0, by omega, rfl⟩) | (cases h; exact ⟨rfl, 1, by omega, rfl⟩) | (cases h; exact ⟨rfl, 2, by omega, rfl⟩) | cases h
theorem am_rdL {M : am_Mem} {a : Nat} (h : a < 30) (k : Nat) : am_rd M a k = M a k := by
  unfold am_rd
  rw [show Nat.blt a 30 = true from Nat.ble_eq_true_of_le h]
  rfl
theorem am_rdT {M : am_Mem} (j k : Nat) : am_rd M (30 + j) k = am_tab (30 + j) k := by
  unfold am_rd
  have h : Nat.blt (30 + j) 30 = false := by
    cases hb : Nat.blt (30 + j) 30 with
    | false => rfl
    | true => exact absurd (am_blt hb) (by omega)
  rw [h]
  rfl
theorem am_fzty : ∀ c, c < 5 → ∀ k, k < am_n c → am_fz c k = true ∨ ((am_TT c k).2.2.2 = true ∨ am_ty c k = .int) := by decide +kernel
theorem am_fzty2 : ∀ c, c < 5 → ∀ k, k < am_n c → am_fz c k = true → am_ty c k = .boolean := by decide +kernel
/-- a field of whole numbers is not final -/
theorem am_fin0 : ∀ a, a < 30 → ∀ c, c < 5 → am_cls a = some c → ∀ k, k < am_n c → am_ref a k = none → (am_TT c k).2.2.2 = false := by decide +kernel
theorem am_nar {c k : Nat} {x : Int32} (hc : c < 5) (hk : k < am_n c) (hf : (am_TT c k).2.2.2 = false) (hz : am_fz c k = true → x = am_b true ∨ x = am_b false) : narrow (am_ty c k) (.int x) = .int x ∧ fits (am_ty c k) (.int x) = true := by
  rcases am_fzty c hc k hk with h | h | h
  · rw [am_fzty2 c hc k hk h]
    rcases hz h with rfl | rfl
    · exact ⟨by decide +kernel, by decide +kernel⟩
    · exact ⟨by decide +kernel, by decide +kernel⟩
  · rw [hf] at h; cases h
  · rw [h]
    exact ⟨vp_nar_int x, rfl⟩
theorem am_bif2 {α : Type} {b : Bool} {x y : Option α} {z : α} (h : (bif b then x else y) = some z) : x = some z ∨ y = some z := by
  cases b
  · exact Or.inr h
  · exact Or.inl h
theorem am_lkO {pc : Nat} {d : Int} {x : Int} : ∀ {ps : List (Int × Int)}, 0 ≤ (pc : Int) + d → (∀ o ∈ ps, 0 ≤ (pc : Int) + o.2) → 0 ≤ (pc : Int) + Op.lookupswitch.offset ps d x := by
  intro ps hd
  induction ps with
  | nil => intro _; exact hd
  | cons q r ih =>
    intro h
    have h2 := ih (fun o ho => h o (List.mem_cons_of_mem _ ho))
    have h1 := h q List.mem_cons_self
    simp only [Op.lookupswitch.offset, List.find?_cons] at h2 ⊢
    split <;> first | exact h1 | exact h2
theorem am_cal1V (mi pc : Nat) (ls st : List Value) (M : am_Mem) (ix : Nat) (S : am_St) : ¬ am_cal1 mi pc ls st M ix false = some (.inl S) := by
  intro h
  unfold am_cal1 at h
  split at h
  · obtain ⟨-, h⟩ := am_bifS h
    rcases am_bif2 h with h | h
    · simp only [cond_false] at h
      split at h
      · obtain ⟨-, h⟩ := am_bifS h
        cases h
      · cases h
    · cases h
  · cases h
theorem am_iretN (mi : Nat) (st : List Value) (M : am_Mem) (S : am_St) : ¬ am_iret mi st M = some (.inl S) := by
  intro h
  unfold am_iret at h
  split at h
  · split at h
    · cases h
    · split at h <;> cases h
    · cases h
  · cases h
theorem am_vrN (mi : Nat) (st : List Value) (M : am_Mem) (S : am_St) : ¬ am_vr mi st M = some (.inl S) := by
  intro h
  unfold am_vr at h
  split at h
  · split at h <;> cases h
  · cases h
theorem am_cwm {j : Nat} (h : am_okw j = true) : Cond.code (am_nam j) (am_byt j) (am_ml j) (am_rt (am_rk j)) ∈ am_wl := by
  have hb : ∃ b : ByteArray, lw_tbl[(am_wp j).1]? = some (.code (am_nam j) b (am_ml j) (am_rt (am_rk j))) := by
    unfold am_okw at h
    split at h
    · next y b n r hw =>
      simp only [Bool.and_eq_true, decide_eq_true_eq] at h
      obtain ⟨⟨rfl, rfl⟩, rfl⟩ := h
      exact ⟨b, hw⟩
    · cases h
  obtain ⟨b, hb⟩ := hb
  have e : am_byt j = b := by
    unfold am_byt
    rw [hb]
  rw [e]
  exact List.mem_filter.mpr ⟨List.mem_of_getElem? hb, rfl⟩
theorem am_math {p : Program} {l : Launch} {e : Env} {s : State} {m : MethodId} {args : Array Value} {below : List Frame} {meth : Method} {c : Code} {D : va_G} {cA : ClassId} {ad : Nat → Nat} {A : Nat → Prop} {mi : Nat} {Q : State → Prop} (hx : p.tables.exec = Jvm.exec) (hb : c.code = am_byt mi) (hml : c.maxLocals = am_ml mi) (hown : s.vm.findClass (am_cn (am_cl mi)) = some m.cls) (hts : ∀ w ∈ am_wl, w.before args s = true) {pc ix : Nat} {L st : List Value} {M : am_Mem} {H : Heap} {locs : List Loc} {ls : Array Slot} {S2 : am_St} (hd : decode (am_byt mi) pc = .ok (.invokestatic ix, 3)) (hP : va_P D vwCl (am_w ad cA M) H) (hS : va_S A s.heap H locs) (hL : am_lv ad (am_ml mi) ls L) (h : am_cal1 mi pc L st M ix true = some (.inl S2)) (kk : am_W p l e s m args below meth c D cA ad A mi Q S2) : W p l e (am_rm mi) s m args below meth c H locs 0 0 Q (F0 m pc ls (st.map (am_v ad))) := by
  unfold am_cal1 at h
  split at h
  · next j kd q hc =>
    obtain ⟨h1, h⟩ := am_bifS h
    simp only [Bool.and_eq_true] at h1
    have hhg := am_blt h1.1
    obtain ⟨q1, q2⟩ := am_cal_lt hc
    have e := List.all_eq_true.mp (List.all_eq_true.mp am_okc_all (am_cl mi) (List.mem_range.mpr q1)) ix (List.mem_range.mpr q2)
    unfold am_okc at e
    rw [hc] at e
    simp only [Bool.and_eq_true, Bool.or_eq_true] at e
    obtain ⟨⟨e1, e2⟩, e3⟩ := e
    by_cases hj : Nat.blt j 160 = true
    · rw [hj] at h
      obtain ⟨-, h⟩ := am_bifS h
      cases h
    · rcases e2 with e2 | ⟨⟨⟨f1, f2⟩, f3⟩, f4⟩
      · exact absurd e2 hj
      rw [show Nat.blt j 160 = false from (by cases hq : Nat.blt j 160 with | false => rfl | true => exact absurd hq hj)] at h
      simp only [cond_false, cond_true] at h
      have hk : kd = 0 := Nat.eq_of_beq_eq_true f4
      subst hk
      have w1 := hts _ (am_at.wl e3)
      have w2 := hts _ (am_at.wl f1)
      have w3 := hts _ (am_at.wl f3)
      have hcw : Cond.code (am_nam j) (am_byt j) (am_ml j) (am_rt (am_rk j)) ∈ am_wl := am_cwm f2
      have w4 := hts _ hcw
      have hsz : c.maxLocals = ls.size := by rw [hml]; exact hL.2.1.symm
      have hcat : ∀ r : List Value, ((r.map (am_v ad)).map fun v => v.category).sum ≤ 2 * r.length := by
        intro r
        induction r with
        | nil => exact Nat.le_refl _
        | cons v r ih =>
          have := lv_cat (am_v ad v)
          simp only [List.map_cons, List.sum_cons, List.length_cons]
          omega
      have hR : 1 ≤ (am_rm mi).frames := by show 1 ≤ am_hg mi; omega
      have hRl : 30 ≤ (am_rm mi).locals := by show 30 ≤ 30 * am_hg mi; omega
      have hj2 := am_blt e1
      have hj3 : j = 160 ∨ j = 161 := by
        have : ¬ j < 160 := fun z => hj (Nat.ble_eq_true_of_le z)
        omega
      rcases hj3 with rfl | rfl
      · obtain ⟨m1, m2, m3, m4⟩ := am_mabs
        rw [m1] at w1 w2
        rw [m1, m2, m3, m4] at w4
        change am_ja pc L st M = some (Sum.inl S2) at h
        unfold am_ja at h
        split at h
        · next x r _ =>
          obtain ⟨z1, z2⟩ := am_bifS h
          cases z2
          have hz := hcat r
          have z3 : r.length ≤ 4 := Nat.le_of_ble_eq_true z1
          exact va_mabs hx hb hsz hown w1 w2 w3 w4 hR (by omega) (Nat.zero_le _) (Nat.zero_le _) hd (kk H locs ls hP hS hL)
        · cases h
      · obtain ⟨m1, m2, m3, m4⟩ := am_mmin
        rw [m1] at w1 w2
        rw [m1, m2, m3, m4] at w4
        change am_jm pc L st M = some (Sum.inl S2) at h
        unfold am_jm at h
        split at h
        · next y x r _ =>
          obtain ⟨z1, z2⟩ := am_bifS h
          cases z2
          have hz := hcat r
          have z3 : r.length ≤ 4 := Nat.le_of_ble_eq_true z1
          exact va_mmin hx hb hsz hown w1 w2 w3 w4 hR (by omega) (Nat.zero_le _) (Nat.zero_le _) hd (kk H locs ls hP hS hL)
        · cases h
  · cases h
theorem vp_nar_int' (x : Int32) : vp_nar .int x = x := rfl
section AMS
variable {p : Program} {l : Launch} {e : Env} {s : State} {m : MethodId} {args : Array Value} {below : List Frame} {meth : Method} {c : Code} {D : va_G} {cA : ClassId} {ad : Nat → Nat} {A : Nat → Prop} {mi : Nat} {Q : State → Prop}
set_option maxHeartbeats 4000000 in
theorem am_step (hDD : am_D ad A) (C : am_cx p s m args meth c D cA ad A mi) {S S2 : am_St} (h : am_nx mi S = some (.inl S2)) (kk : am_W p l e s m args below meth c D cA ad A mi Q S2) : am_W p l e s m args below meth c D cA ad A mi Q S := by
  obtain ⟨hx, hb, hr, hml, hown, hts, hlocks, hK, hN, hT⟩ := C
  obtain ⟨pc, L, st, M⟩ := S
  intro H locs ls hP hS hL
  unfold am_nx at h
  dsimp only at h hP hL ⊢
  cases hcod : am_cod mi pc with
  | none => rw [hcod] at h; cases h
  | some q =>
    obtain ⟨i, len⟩ := q
    rw [hcod] at h
    dsimp only at h
    obtain ⟨hd, hlit⟩ := am_code hcod
    have hD : va_D A (am_w ad cA M) := hDD.w cA M
    cases i

    case aload_n k =>
      have e := am_kI hlit; subst e
      obtain ⟨x, h1, rfl⟩ := am_ldaI h
      exact lv_aload_n hx hb hd rfl (hL.at h1 rfl) (kk H locs ls hP hS hL)
    case iload_n k =>
      have e := am_kI hlit; subst e
      obtain ⟨x, h1, rfl⟩ := am_ldI h
      exact lv_iload_n hx hb hd rfl (hL.at h1 rfl) (kk H locs ls hP hS hL)
    case iload k =>
      have e := am_kI hlit; subst e
      obtain ⟨x, h1, rfl⟩ := am_ldI h
      exact lv_iload hx hb hd (hL.at h1 rfl) (kk H locs ls hP hS hL)
    case istore_n k =>
      have e := am_kI hlit; subst e
      obtain ⟨x, r, rfl, h1, rfl⟩ := am_stoI h
      rw [hL.1] at h1
      exact lv_istore_n hx hb hd rfl hL.2 h1 rfl (fun ls2 hl2 => kk H locs ls2 hP hS (am_lv.set hL.1 h1 hl2))
    case istore k =>
      have e := am_kI hlit; subst e
      obtain ⟨x, r, rfl, h1, rfl⟩ := am_stoI h
      rw [hL.1] at h1
      exact lv_istore hx hb hd hL.2 h1 rfl (fun ls2 hl2 => kk H locs ls2 hP hS (am_lv.set hL.1 h1 hl2))
    case iinc k n =>
      obtain ⟨hl1, hl2⟩ := (Bool.and_eq_true _ _).mp hlit
      have e := am_kI hl1; subst e
      obtain ⟨x, h1, rfl⟩ := am_incI h
      have h2 : k < am_ml mi := by rw [← hL.1]; exact (List.getElem?_eq_some_iff.mp h1).1
      obtain ⟨j, hj⟩ := List.getElem?_of_mem (am_ll_mem (ad := ad) h1 rfl)
      exact lv_iinc hx hb hd hL.2 hj (v := x + am_k n) (by rw [of_decide_eq_true hl2]) h2 rfl (fun ls2 hl2 => kk H locs ls2 hP hS (am_lv.set hL.1 h2 hl2))
    case iconst n =>
      obtain ⟨hl1, hl2⟩ := (Bool.and_eq_true _ _).mp hlit
      have e := am_kI hl1; subst e
      cases h
      exact lv_iconst hx hb hd (of_decide_eq_true hl2) (kk H locs ls hP hS hL)
    case bipush n =>
      obtain ⟨hl1, hl2⟩ := (Bool.and_eq_true _ _).mp hlit
      have e := am_kI hl1; subst e
      cases h
      exact lv_bipush hx hb hd (of_decide_eq_true hl2) (kk H locs ls hP hS hL)
    case sipush n =>
      obtain ⟨hl1, hl2⟩ := (Bool.and_eq_true _ _).mp hlit
      have e := am_kI hl1; subst e
      cases h
      exact lv_sipush hx hb hd (of_decide_eq_true hl2) (kk H locs ls hP hS hL)
    case ldc ix =>
      have e := am_kI hlit; subst e
      obtain ⟨v, q, h1, rfl⟩ := am_csI h
      obtain ⟨q1, q2⟩ := am_cst_lt h1
      exact lv_ldc hx hb hown (hts _ (am_cst_ok q1 q2 h1)) hd (kk H locs ls hP hS hL)
    case ldc_w ix =>
      have e := am_kI hlit; subst e
      obtain ⟨v, q, h1, rfl⟩ := am_csI h
      obtain ⟨q1, q2⟩ := am_cst_lt h1
      exact lv_ldcw hx hb hown (hts _ (am_cst_ok q1 q2 h1)) hd (kk H locs ls hP hS hL)
    case iadd =>
      have e := am_kI hlit; subst e
      obtain ⟨x, y, r, rfl, rfl⟩ := am_op2I h
      exact lv_iadd hx hb hd (kk H locs ls hP hS hL)
    case isub =>
      have e := am_kI hlit; subst e
      obtain ⟨x, y, r, rfl, rfl⟩ := am_op2I h
      exact lv_isub hx hb hd (kk H locs ls hP hS hL)
    case imul =>
      have e := am_kI hlit; subst e
      obtain ⟨x, y, r, rfl, rfl⟩ := am_op2I h
      exact lv_imul hx hb hd (kk H locs ls hP hS hL)
    case iand =>
      have e := am_kI hlit; subst e
      obtain ⟨x, y, r, rfl, rfl⟩ := am_op2I h
      exact lv_iand hx hb hd (kk H locs ls hP hS hL)
    case ior =>
      have e := am_kI hlit; subst e
      obtain ⟨x, y, r, rfl, rfl⟩ := am_op2I h
      exact lv_ior hx hb hd (kk H locs ls hP hS hL)
    case ixor =>
      have e := am_kI hlit; subst e
      obtain ⟨x, y, r, rfl, rfl⟩ := am_op2I h
      exact lv_ixor hx hb hd (kk H locs ls hP hS hL)
    case ishl =>
      have e := am_kI hlit; subst e
      obtain ⟨x, y, r, rfl, rfl⟩ := am_op2I h
      exact lv_ishl hx hb hd (kk H locs ls hP hS hL)
    case ishr =>
      have e := am_kI hlit; subst e
      obtain ⟨x, y, r, rfl, rfl⟩ := am_op2I h
      exact lv_ishr hx hb hd (kk H locs ls hP hS hL)
    case iushr =>
      have e := am_kI hlit; subst e
      obtain ⟨x, y, r, rfl, rfl⟩ := am_op2I h
      exact lv_iushr hx hb hd rfl (kk H locs ls hP hS hL)
    case idiv =>
      have e := am_kI hlit; subst e
      obtain ⟨x, y, r, rfl, hy, rfl⟩ := am_dvI h
      exact lv_idiv hx hb hd hy (kk H locs ls hP hS hL)
    case irem =>
      have e := am_kI hlit; subst e
      obtain ⟨x, y, r, rfl, hy, rfl⟩ := am_dvI h
      exact lv_irem hx hb hd hy (kk H locs ls hP hS hL)
    case ineg =>
      have e := am_kI hlit; subst e
      obtain ⟨x, r, rfl, rfl⟩ := am_ngI h
      exact lv_ineg hx hb hd (kk H locs ls hP hS hL)
    case dup =>
      have e := am_kI hlit; subst e
      obtain ⟨v, r, rfl, hv, rfl⟩ := am_duI h
      exact lv_dup hx hb hd (am_one_cat hv) (kk H locs ls hP hS hL)
    case dup2 =>
      have e := am_kI hlit; subst e
      obtain ⟨x, y, r, rfl, rfl⟩ := am_d2I h
      exact lv_dup2_11 hx hb hd rfl rfl (kk H locs ls hP hS hL)
    case goto off =>
      obtain ⟨hl1, hl2⟩ := (Bool.and_eq_true _ _).mp hlit
      have e := am_kI hl1; subst e
      cases h
      exact lv_goto hx hb hd (am_tgE (of_decide_eq_true hl2)) (kk H locs ls hP hS hL)
    case ifCond cd off =>
      obtain ⟨hl1, hl2⟩ := (Bool.and_eq_true _ _).mp hlit
      have e := am_kI hl1; subst e
      have ht := am_tgE (of_decide_eq_true hl2)
      change am_ic pc L st M cd off = some (.inl S2) at h
      unfold am_ic at h
      split at h
      · next x r =>
        cases cd
        case eq =>
          obtain ⟨h1, h2⟩ := am_brI h
          refine lv_if_eq hx hb hd ht (fun q => ?_) (fun q => ?_)
          · have e := h1 (decide_eq_true q); subst e; exact kk H locs ls hP hS hL
          · have e := h2 (decide_eq_false q); subst e; exact kk H locs ls hP hS hL
        case ne =>
          obtain ⟨h1, h2⟩ := am_brI h
          refine lv_if_ne hx hb hd ht (fun q => ?_) (fun q => ?_)
          · have e := h1 ((by rw [decide_eq_false q]; rfl)); subst e; exact kk H locs ls hP hS hL
          · have e := h2 ((by rw [decide_eq_true q]; rfl)); subst e; exact kk H locs ls hP hS hL
        case lt =>
          obtain ⟨h1, h2⟩ := am_brI h
          refine lv_if_lt hx hb hd ht (fun q => ?_) (fun q => ?_)
          · have e := h1 (decide_eq_true q); subst e; exact kk H locs ls hP hS hL
          · have e := h2 (decide_eq_false q); subst e; exact kk H locs ls hP hS hL
        case ge =>
          obtain ⟨h1, h2⟩ := am_brI h
          refine lv_if_ge hx hb hd ht (fun q => ?_) (fun q => ?_)
          · have e := h1 (decide_eq_true q); subst e; exact kk H locs ls hP hS hL
          · have e := h2 (decide_eq_false q); subst e; exact kk H locs ls hP hS hL
        case gt =>
          obtain ⟨h1, h2⟩ := am_brI h
          refine lv_if_gt hx hb hd ht (fun q => ?_) (fun q => ?_)
          · have e := h1 (decide_eq_true q); subst e; exact kk H locs ls hP hS hL
          · have e := h2 (decide_eq_false q); subst e; exact kk H locs ls hP hS hL
        case le =>
          obtain ⟨h1, h2⟩ := am_brI h
          refine lv_if_le hx hb hd ht (fun q => ?_) (fun q => ?_)
          · have e := h1 (decide_eq_true q); subst e; exact kk H locs ls hP hS hL
          · have e := h2 (decide_eq_false q); subst e; exact kk H locs ls hP hS hL
      · cases h
    case if_icmp cd off =>
      obtain ⟨hl1, hl2⟩ := (Bool.and_eq_true _ _).mp hlit
      have e := am_kI hl1; subst e
      have ht := am_tgE (of_decide_eq_true hl2)
      change am_ii pc L st M cd off = some (.inl S2) at h
      unfold am_ii at h
      split at h
      · next y x r =>
        cases cd
        case eq =>
          obtain ⟨h1, h2⟩ := am_brI h
          refine lv_icmp_eq hx hb hd ht (fun q => ?_) (fun q => ?_)
          · have e := h1 (decide_eq_true q); subst e; exact kk H locs ls hP hS hL
          · have e := h2 (decide_eq_false q); subst e; exact kk H locs ls hP hS hL
        case ne =>
          obtain ⟨h1, h2⟩ := am_brI h
          refine lv_icmp_ne hx hb hd ht (fun q => ?_) (fun q => ?_)
          · have e := h1 ((by rw [decide_eq_false q]; rfl)); subst e; exact kk H locs ls hP hS hL
          · have e := h2 ((by rw [decide_eq_true q]; rfl)); subst e; exact kk H locs ls hP hS hL
        case lt =>
          obtain ⟨h1, h2⟩ := am_brI h
          refine lv_icmp_lt hx hb hd ht (fun q => ?_) (fun q => ?_)
          · have e := h1 (decide_eq_true q); subst e; exact kk H locs ls hP hS hL
          · have e := h2 (decide_eq_false q); subst e; exact kk H locs ls hP hS hL
        case ge =>
          obtain ⟨h1, h2⟩ := am_brI h
          refine lv_icmp_ge hx hb hd ht (fun q => ?_) (fun q => ?_)
          · have e := h1 (decide_eq_true q); subst e; exact kk H locs ls hP hS hL
          · have e := h2 (decide_eq_false q); subst e; exact kk H locs ls hP hS hL
        case gt =>
          obtain ⟨h1, h2⟩ := am_brI h
          refine lv_icmp_gt hx hb hd ht (fun q => ?_) (fun q => ?_)
          · have e := h1 (decide_eq_true q); subst e; exact kk H locs ls hP hS hL
          · have e := h2 (decide_eq_false q); subst e; exact kk H locs ls hP hS hL
        case le =>
          obtain ⟨h1, h2⟩ := am_brI h
          refine lv_icmp_le hx hb hd ht (fun q => ?_) (fun q => ?_)
          · have e := h1 (decide_eq_true q); subst e; exact kk H locs ls hP hS hL
          · have e := h2 (decide_eq_false q); subst e; exact kk H locs ls hP hS hL
      · cases h
    case tableswitch d lo hi offs =>
      obtain ⟨hl1, hl2⟩ := (Bool.and_eq_true _ _).mp hlit
      change am_ts pc L st M d lo hi offs = some (.inl S2) at h
      unfold am_ts at h
      split at h
      · next x r =>
        by_cases hq : x.toInt < lo ∨ hi < x.toInt
        · rw [if_pos hq] at h
          cases h
          exact lv_tableOut hx hb hd hq (am_tgE (of_decide_eq_true hl1)) (kk H locs ls hP hS hL)
        · rw [if_neg hq] at h
          split at h
          · next o ho =>
            cases h
            have hm : o ∈ offs.toList := Array.mem_toList_iff.mpr (Array.mem_of_getElem? ho)
            exact lv_tableIn hx hb hd (fun z => hq (Or.inl z)) (fun z => hq (Or.inr z)) ho (am_tgE (of_decide_eq_true (List.all_eq_true.mp hl2 o hm))) (kk H locs ls hP hS hL)
          · cases h
      · cases h
    case lookupswitch d ps =>
      obtain ⟨hl1, hl3⟩ := (Bool.and_eq_true _ _).mp hlit
      obtain ⟨hl1, hl2⟩ := (Bool.and_eq_true _ _).mp hl1
      change am_lk pc L st M d ps = some (.inl S2) at h
      unfold am_lk at h
      split at h
      · next x r =>
        cases h
        exact lv_lookup hx hb hd hl3 rfl (am_tgE (am_lkO (of_decide_eq_true hl1) (fun o ho => of_decide_eq_true (List.all_eq_true.mp hl2 o ho)))) (kk H locs ls hP hS hL)
      · cases h
    case getfield ix =>
      have e := am_kI hlit; subst e
      obtain ⟨a, r, fc, k, kd, q, rfl, hf, hca, hh⟩ := am_gfI h
      obtain ⟨q1, q2⟩ := am_fld_lt hf
      obtain ⟨hfc, hk, hl⟩ := am_fld_ok q1 q2 hf
      have key : ∀ v : Value, (am_fs ad M a fc)[k]? = some v → (S2 = (pc + 3, L, S2.2.2.1, M) ∧ S2.2.2.1.map (am_v ad) = v :: r.map (am_v ad)) → W p l e (am_rm mi) s m args below meth c H locs 0 0 Q (F0 m pc ls (.ref (ad a) :: r.map (am_v ad))) := by
        intro v hv hz
        have hkk := kk H locs ls (by rw [hz.1]; exact hP) hS (by rw [hz.1]; exact hL)
        rw [hz.2] at hkk
        have h1 : S2.1 = pc + 3 := by rw [hz.1]
        rw [h1] at hkk
        rcases hl with ⟨-, hw⟩ | ⟨-, hw⟩
        · exact va_get hx hb hts (am_uin hfc) hown hK hP a (am_w_obj ad cA M hca) (am_hc hfc) k hk (hts _ hw) (fun _ h9 => h9) hv hd hkk
        · exact va_getN hx hb hts (am_uin hfc) hown hK hP a (am_w_obj ad cA M hca) (am_hc hfc) k hk (va_Nw.use rfl (hN.2 _ _ _ _ _ _ hw)) (fun _ h9 => h9) hv hd hkk
      have hfs : (am_fs ad M a fc)[k]? = some (match am_ref a k with | some j => .ref (ad j) | none => .int (M a k)) := by
        unfold am_fs
        rw [List.getElem?_map, List.getElem?_range hk]
        rfl
      rcases hh with ⟨j, hj, rfl⟩ | ⟨hj, rfl⟩
      · rw [hj] at hfs
        exact key _ hfs ⟨rfl, rfl⟩
      · rw [hj] at hfs
        exact key _ hfs ⟨rfl, rfl⟩
    case putfield ix =>
      have e := am_kI hlit; subst e
      obtain ⟨x, a, r, fc, k, q, rfl, hf, hca, hra, hz, rfl⟩ := am_pfI h
      obtain ⟨q1, q2⟩ := am_fld_lt hf
      obtain ⟨hfc, hk, hl⟩ := am_fld_ok q1 q2 hf
      have hw : Cond.fieldLink (am_cn (am_cl mi)) ix (am_TT fc k).1 (am_TT fc k).2.1 (am_TT fc k).2.2.1 ∈ am_wl := by
        rcases hl with ⟨-, hw⟩ | ⟨z, -⟩
        · exact hw
        · cases z
      have hfin := am_fin0 a (am_cls_lt hca).1 fc hfc hca k hk hra
      obtain ⟨hn, hfi⟩ := am_nar hfc hk hfin hz
      refine va_put hx hb hts (am_uin hfc) (am_ty fc) (am_tyk hfc) (am_nmk hfc) hown hK hP hD hS a (am_w_obj ad cA M hca) (am_hc hfc) k hk (hts _ hw) (fun _ h9 => h9) hfin (am_tyk hfc k hk) hn hfi (by simp [am_fs]; exact hk) hd (fun H1 locs1 hP1 hD1 hS1 => ?_)
      change va_P D vwCl (List.set (am_w ad cA M) a (ad a, Sum.inr (fc, (am_fs ad M a fc).set k (.int x)))) H1 at hP1
      rw [am_w_setO ad cA M hca hra] at hP1
      exact kk H1 locs1 ls hP1 hS1 hL
    case getstatic ix =>
      have e := am_kI hlit; subst e
      obtain ⟨j, kd, q, hg, rfl⟩ := am_gsI h
      obtain ⟨q1, q2⟩ := am_gst_lt hg
      obtain ⟨hj, hl⟩ := am_gst_ok q1 q2 hg
      rcases hl with ⟨-, hw⟩ | ⟨-, hw⟩
      · exact va_gets hx hb (hT j hj).1 hS hown (hts _ hw) (fun _ h9 => h9) hd (kk H locs ls hP hS hL)
      · exact va_getsN hx hb (hT j hj).1 hS hown (va_Nw.use rfl (hN.2 _ _ _ _ _ _ hw)) (fun _ h9 => h9) hd (kk H locs ls hP hS hL)
    case arraylength =>
      have e := am_kI hlit; subst e
      obtain ⟨a, r, n, rfl, hn, rfl⟩ := am_alI h
      by_cases ha : a < 30
      · exact va_alen hx hb hK hP a 0 (am_w_arr ad cA M ha hn) rfl rfl hd (kk H locs ls hP hS hL)
      · obtain ⟨rfl, j, hj, rfl⟩ := am_len30 hn ha
        exact va_tlen hx hb (hT j hj).2 hS rfl hd (kk H locs ls hP hS hL)
    case iaload =>
      have e := am_kI hlit; subst e
      obtain ⟨x, a, r, n, rfl, hn, hin, rfl⟩ := am_iaI h
      by_cases ha : a < 30
      · refine va_iald hx hb hK hP a 0 (am_w_arr ad cA M ha hn) rfl hin hd ?_
        have hkk := kk H locs ls hP hS hL
        rw [am_rdL ha] at hkk
        exact hkk
      · obtain ⟨rfl, j, hj, rfl⟩ := am_len30 hn ha
        refine va_ti hx hb (hT j hj).2 hS hin rfl hd ?_
        have hkk := kk H locs ls hP hS hL
        rw [am_rdT] at hkk
        exact hkk
    case iastore =>
      have e := am_kI hlit; subst e
      obtain ⟨v, x, a, r, n, rfl, hn, ha, hin, rfl⟩ := am_iSI h
      refine va_iast hx hb hK hP hD hS a 0 (am_w_arr ad cA M ha hn) rfl hin hd (fun H1 locs1 hP1 hD1 hS1 => ?_)
      try rw [vp_nar_int'] at hP1
      rw [am_w_setA ad cA M ha hn] at hP1
      exact kk H1 locs1 ls hP1 hS1 hL
    case invokevirtual ix =>
      have e := am_kI hlit; subst e
      exact absurd h (am_cal1V mi pc L st M ix S2)
    case invokestatic ix =>
      have e := am_kI hlit; subst e
      change am_cal1 mi pc L st M ix true = some (.inl S2) at h
      exact am_math hx hb hml hown hts hd hP hS hL h kk
    case ireturn =>
      exact absurd h (am_iretN mi st M S2)
    case return_ =>
      exact absurd h (am_vrN mi st M S2)
    all_goals exact absurd (show (none : Option am_Nx) = some (.inl S2) from h) (fun z => by cases z)
end AMS
