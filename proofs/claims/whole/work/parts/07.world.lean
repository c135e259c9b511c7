/-! an abstract machine, 5: a memory as a world of cells; locals; what is given all through -/
def am_v (ad : Nat → Nat) (v : Value) : Value := match v with | .ref k => .ref (ad k) | w => w
def am_fs (ad : Nat → Nat) (M : am_Mem) (i c : Nat) : List Value := (List.range (am_n c)).map (fun k => match am_ref i k with | some j => .ref (ad j) | none => .int (M i k))
def am_en (ad : Nat → Nat) (cA : ClassId) (M : am_Mem) (i : Nat) : va_E := match am_len i with
  | some n => .inl (cA, (n, .inl (M i)))
  | none => .inr ((am_cls i).getD 0, am_fs ad M i ((am_cls i).getD 0))
def am_w (ad : Nat → Nat) (cA : ClassId) (M : am_Mem) : va_W := (List.range 30).map (fun i => (ad i, am_en ad cA M i))
theorem am_w_at (ad : Nat → Nat) (cA : ClassId) (M : am_Mem) {i : Nat} (h : i < 30) : (am_w ad cA M)[i]? = some (ad i, am_en ad cA M i) := by
  unfold am_w
  rw [List.getElem?_map, List.getElem?_range h]
  rfl
theorem am_w_len (ad : Nat → Nat) (cA : ClassId) (M : am_Mem) : (am_w ad cA M).length = 30 := by simp [am_w]
theorem am_cls_lt {a c : Nat} (h : am_cls a = some c) : a < 30 ∧ am_len a = none ∧ c < 5 := by
  unfold am_cls at h
  split at h <;> first | (cases h; exact ⟨by decide, rfl, by decide⟩) | cases h
theorem am_w_obj (ad : Nat → Nat) (cA : ClassId) (M : am_Mem) {a c : Nat} (h : am_cls a = some c) : (am_w ad cA M)[a]? = some (ad a, .inr (c, am_fs ad M a c)) := by
  obtain ⟨h1, h2, -⟩ := am_cls_lt h
  rw [am_w_at ad cA M h1]
  unfold am_en
  rw [h2, h]
  rfl
theorem am_w_arr (ad : Nat → Nat) (cA : ClassId) (M : am_Mem) {a n : Nat} (h0 : a < 30) (h : am_len a = some n) : (am_w ad cA M)[a]? = some (ad a, .inl (cA, (n, .inl (M a)))) := by
  rw [am_w_at ad cA M h0]
  unfold am_en
  rw [h]
theorem am_set_ne (M : am_Mem) {i k j : Nat} (v : Int32) (h : j ≠ i) : am_set M i k v j = M j := by
  funext b
  unfold am_set
  rw [if_neg (fun q => h q.1)]
theorem am_set_eq (M : am_Mem) (i k : Nat) (v : Int32) : am_set M i k v i = upd (M i) k v := by
  funext b
  unfold am_set upd
  by_cases hb : b = k
  · rw [if_pos ⟨rfl, hb⟩, if_pos hb]
  · rw [if_neg (fun q => hb q.2), if_neg hb]
theorem am_w_setA (ad : Nat → Nat) (cA : ClassId) (M : am_Mem) {a n k : Nat} {v : Int32} (h0 : a < 30) (h : am_len a = some n) : (am_w ad cA M).set a (ad a, .inl (cA, (n, .inl (upd (M a) k v)))) = am_w ad cA (am_set M a k v) := by
  apply List.ext_getElem?
  intro j
  by_cases hj : j < 30
  · rw [am_w_at ad cA _ hj]
    by_cases hja : j = a
    · subst hja
      rw [List.getElem?_set_self (by rw [am_w_len]; exact h0)]
      unfold am_en
      rw [h]
      dsimp only
      rw [am_set_eq]
    · rw [List.getElem?_set_ne (Ne.symm hja), am_w_at ad cA _ hj]
      unfold am_en am_fs
      rw [am_set_ne M v hja]
  · rw [List.getElem?_eq_none (by rw [List.length_set, am_w_len]; omega), List.getElem?_eq_none (by rw [am_w_len]; omega)]
theorem am_fs_set (ad : Nat → Nat) (M : am_Mem) {a c k : Nat} {v : Int32} (hr : am_ref a k = none) : (am_fs ad M a c).set k (.int v) = am_fs ad (am_set M a k v) a c := by
  apply List.ext_getElem?
  intro j
  by_cases hj : j < am_n c
  · by_cases hjk : j = k
    · subst hjk
      rw [List.getElem?_set_self (by simp [am_fs]; exact hj)]
      unfold am_fs
      rw [List.getElem?_map, List.getElem?_range hj]
      simp only [Option.map_some, hr]
      rw [am_set_eq]
      simp [upd]
    · rw [List.getElem?_set_ne (Ne.symm hjk)]
      unfold am_fs
      rw [List.getElem?_map, List.getElem?_map, List.getElem?_range hj]
      simp only [Option.map_some]
      rw [am_set_eq]
      simp [upd, hjk]
  · rw [List.getElem?_eq_none (by rw [List.length_set]; simp [am_fs]; omega), List.getElem?_eq_none (by simp [am_fs]; omega)]
theorem am_w_setO (ad : Nat → Nat) (cA : ClassId) (M : am_Mem) {a c k : Nat} {v : Int32} (h : am_cls a = some c) (hr : am_ref a k = none) : (am_w ad cA M).set a (ad a, .inr (c, (am_fs ad M a c).set k (.int v))) = am_w ad cA (am_set M a k v) := by
  obtain ⟨h0, hn, -⟩ := am_cls_lt h
  apply List.ext_getElem?
  intro j
  by_cases hj : j < 30
  · by_cases hja : j = a
    · subst hja
      rw [List.getElem?_set_self (by rw [am_w_len]; exact h0), am_w_obj ad cA _ h, am_fs_set ad M hr]
    · rw [am_w_at ad cA _ hj, List.getElem?_set_ne (Ne.symm hja), am_w_at ad cA _ hj]
      unfold am_en am_fs
      rw [am_set_ne M v hja]
  · rw [List.getElem?_eq_none (by rw [List.length_set, am_w_len]; omega), List.getElem?_eq_none (by rw [am_w_len]; omega)]
/-- the addresses: apart, and of a kind -/
def am_D (ad : Nat → Nat) (A : Nat → Prop) : Prop := (∀ i j : Nat, i < 30 → j < 30 → ad i = ad j → i = j) ∧ ∀ i : Nat, i < 30 → A (ad i)
theorem am_D.w {ad : Nat → Nat} {A : Nat → Prop} (h : am_D ad A) (cA : ClassId) (M : am_Mem) : va_D A (am_w ad cA M) := by
  have key : ∀ (k : Nat) (q : Nat × va_E), (am_w ad cA M)[k]? = some q → k < 30 ∧ q.1 = ad k := by
    intro k q hk
    have hl : k < 30 := by
      have := (List.getElem?_eq_some_iff.mp hk).1
      rw [am_w_len] at this
      exact this
    rw [am_w_at ad cA M hl] at hk
    cases hk
    exact ⟨hl, rfl⟩
  refine ⟨fun i j p q hi hj hpq => ?_, fun k q hk => ?_⟩
  · obtain ⟨a1, a2⟩ := key i p hi
    obtain ⟨b1, b2⟩ := key j q hj
    exact h.1 i j a1 b1 (by rw [← a2, ← b2, hpq])
  · obtain ⟨a1, a2⟩ := key k q hk
    rw [a2]
    exact h.2 k a1
/-- the words of nest mates, which are no words of the tables that stay of themselves -/
def am_nw (U : State) : Prop := (∀ (a : String) (i : Nat) (x : MethodName) (h : String), Cond.methodLinkNest a i x h ∈ lw_tbl → va_Nw (.methodLinkNest a i x h) U) ∧ ∀ (a : String) (i : Nat) (b n d h : String), Cond.fieldLinkNest a i b n d h ∈ lw_tbl → va_Nw (.fieldLinkNest a i b n d h) U
theorem am_nw.warm {s U : State} (h : am_nw s) (hW : s.WarmedH U.vm) : am_nw U := ⟨fun a i x b hm => va_Nw.warmM hW (h.1 a i x b hm), fun a i b n d q hm => va_Nw.warmF hW (h.2 a i b n d q hm)⟩
theorem am_nw.same {s U : State} (h : am_nw s) (e : s.vm = U.vm) : am_nw U := ⟨fun a i x b hm => va_Nw.same rfl e (h.1 a i x b hm), fun a i b n d q hm => va_Nw.same rfl e (h.2 a i b n d q hm)⟩
/-- the three tables -/
def am_T (ad : Nat → Nat) (A : Nat → Prop) (U : State) (H : Heap) : Prop := ∀ j : Nat, j < 3 → va_Z RX3 (am_sn j) "[I" (.ref (ad (30 + j))) A U H ∧ va_T .int (ad (30 + j)) 6 (fun k => .int (am_tab (30 + j) k)) A U H
theorem am_T.moved {ad : Nat → Nat} {A : Nat → Prop} {u U : State} {H : Heap} (hvm : u.vm.Alike U.vm) (h : am_T ad A u H) : am_T ad A U H := fun j hj => ⟨(h j hj).1.moved hvm, (h j hj).2.moved hvm⟩
theorem am_T.kept {ad : Nat → Nat} {A : Nat → Prop} {U : State} {H H1 : Heap} (h : am_T ad A U H) (hq : ∀ a : Nat, a < H.size → ¬ A a → H1[a]? = H[a]?) : am_T ad A U H1 := fun j hj => ⟨(h j hj).1.kept hq, (h j hj).2.kept hq⟩
/-- the world with a memory -/
def am_B (D : va_G) (cA : ClassId) (ad : Nat → Nat) (A : Nat → Prop) (M : am_Mem) (U : State) : Prop := va_P D vwCl (am_w ad cA M) U.heap ∧ va_K D vwCl [(cA, .int)] U ∧ am_nw U ∧ am_T ad A U U.heap
theorem am_B.at {D : va_G} {cA : ClassId} {ad : Nat → Nat} {A : Nat → Prop} {M : am_Mem} {s U : State} {H : Heap} {locs : List Loc} (hP : va_P D vwCl (am_w ad cA M) H) (hK : va_K D vwCl [(cA, .int)] s) (hN : am_nw s) (hT : am_T ad A s s.heap) (hS : va_S A s.heap H locs) (hU : U.heap = H) (hW : s.WarmedH U.vm) : am_B D cA ad A M U := by
  subst hU
  exact ⟨hP, va_K.moved hW.alike hK, hN.warm hW, (hT.moved hW.alike).kept hS.2.1⟩
/-- the locals -/
def am_ll (ad : Nat → Nat) (L : List Value) : List (Nat × Value) := (List.range L.length).filterMap (fun k => match L[k]? with | some v => (if am_one v = true then some (k, am_v ad v) else none) | none => none)
theorem am_ll_mem {ad : Nat → Nat} {L : List Value} {k : Nat} {v : Value} (h : L[k]? = some v) (h1 : am_one v = true) : (k, am_v ad v) ∈ am_ll ad L := by
  refine List.mem_filterMap.mpr ⟨k, List.mem_range.mpr (List.getElem?_eq_some_iff.mp h).1, ?_⟩
  rw [h]
  dsimp only
  rw [if_pos h1]
theorem am_ll_inv {ad : Nat → Nat} {L : List Value} {q : Nat × Value} (h : q ∈ am_ll ad L) : ∃ (k : Nat) (v : Value), L[k]? = some v ∧ am_one v = true ∧ q = (k, am_v ad v) := by
  obtain ⟨k, -, hk⟩ := List.mem_filterMap.mp h
  cases hL : L[k]? with
  | none => rw [hL] at hk; cases hk
  | some v =>
    rw [hL] at hk
    dsimp only at hk
    by_cases h1 : am_one v = true
    · rw [if_pos h1] at hk
      cases hk
      exact ⟨k, v, hL, h1, rfl⟩
    · rw [if_neg h1] at hk
      cases hk
def am_lv (ad : Nat → Nat) (nL : Nat) (ls : Array Slot) (L : List Value) : Prop := L.length = nL ∧ lv_has ls nL (am_ll ad L)
theorem am_lv.at {ad : Nat → Nat} {nL : Nat} {ls : Array Slot} {L : List Value} (h : am_lv ad nL ls L) {k : Nat} {v : Value} (hk : L[k]? = some v) (h1 : am_one v = true) : ls[k]? = some (.val (am_v ad v)) := h.2.2.2 (k, am_v ad v) (am_ll_mem hk h1)
theorem am_one_cat {ad : Nat → Nat} {v : Value} (h : am_one v = true) : (am_v ad v).category = 1 := by
  cases v <;> first | rfl | cases h
theorem am_lv.set {ad : Nat → Nat} {nL : Nat} {L : List Value} (hl : L.length = nL) {ls2 : Array Slot} {i : Nat} {x : Int32} (hi : i < nL) (h : lv_has ls2 nL ((i, Value.int x) :: (am_ll ad L).filter (fun q => !(q.1 == i) && !(q.1 + 1 == i && q.2.category == 2)))) : am_lv ad nL ls2 (L.set i (.int x)) := by
  refine ⟨by rw [List.length_set]; exact hl, h.1, h.2.1, fun q hq => ?_⟩
  obtain ⟨k, v, hk, h1, rfl⟩ := am_ll_inv hq
  by_cases hki : k = i
  · subst hki
    rw [List.getElem?_set_self (by omega)] at hk
    cases hk
    exact h.2.2 (k, .int x) List.mem_cons_self
  · rw [List.getElem?_set_ne (Ne.symm hki)] at hk
    refine h.2.2 (k, am_v ad v) (List.mem_cons_of_mem _ (List.mem_filter.mpr ⟨am_ll_mem hk h1, ?_⟩))
    simp [hki, am_one_cat h1]
/-- numbers -/
theorem am_kI {n : Nat} {len : Nat} (h : am_ln n len = true) : len = n := Nat.eq_of_beq_eq_true h
theorem am_tgE {pc : Nat} {off : Int} (h : 0 ≤ (pc : Int) + off) : (pc : Int) + off = ((am_tg pc off : Nat) : Int) := (Int.toNat_of_nonneg h).symm
theorem am_uin {c : Nat} (hc : c < 5) : ∀ w ∈ u_ws (am_cn c) (am_TT c) (am_n c), w ∈ am_wl := by
  intro w hw
  obtain ⟨k, hk, rfl⟩ := List.mem_map.mp hw
  exact am_at.wl (List.all_eq_true.mp (List.all_eq_true.mp am_okl_all c (List.mem_range.mpr hc)) k hk)
theorem am_hc {c : Nat} (hc : c < 5) : vwCl[c]? = some (am_cn c, am_TT c, am_n c) := by
  match c, hc with
  | 0, _ => rfl
  | 1, _ => rfl
  | 2, _ => rfl
  | 3, _ => rfl
  | 4, _ => rfl
theorem am_tyk {c : Nat} (hc : c < 5) : ∀ k, k < am_n c → parseFieldDescriptor (am_TT c k).2.2.1 = some (am_ty c k) := by
  match c, hc with
  | 0, _ => exact tyX0_ok
  | 1, _ => exact tyX1_ok
  | 2, _ => exact tyX2_ok
  | 3, _ => exact tyX3_ok
  | 4, _ => exact tyX4_ok
theorem am_nmk {c : Nat} (hc : c < 5) : ∀ a, a < am_n c → ∀ b, b < am_n c → a ≠ b → (am_TT c a).2.1 ≠ (am_TT c b).2.1 := by
  match c, hc with
  | 0, _ => exact nmX0
  | 1, _ => exact nmX1
  | 2, _ => exact nmX2
  | 3, _ => exact nmX3
  | 4, _ => exact nmX4
theorem am_fld_ok {c ix fc k kd p : Nat} (hc : c < 5) (hi : ix < 256) (h : am_fld c ix = some (fc, k, kd, p)) : fc < 5 ∧ k < am_n fc ∧ ((kd = 0 ∧ Cond.fieldLink (am_cn c) ix (am_TT fc k).1 (am_TT fc k).2.1 (am_TT fc k).2.2.1 ∈ am_wl) ∨ (kd = 1 ∧ Cond.fieldLinkNest (am_cn c) ix (am_TT fc k).1 (am_TT fc k).2.1 (am_TT fc k).2.2.1 RX3 ∈ lw_tbl)) := by
  have e := List.all_eq_true.mp (List.all_eq_true.mp am_okf_all c (List.mem_range.mpr hc)) ix (List.mem_range.mpr hi)
  unfold am_okf at e
  rw [h] at e
  simp only [Bool.and_eq_true] at e
  refine ⟨am_blt e.1.1, am_blt e.1.2, ?_⟩
  have e2 := e.2
  match kd, e2 with
  | 0, e2 => exact Or.inl ⟨rfl, am_at.wl e2⟩
  | 1, e2 => exact Or.inr ⟨rfl, List.mem_of_getElem? (of_decide_eq_true e2)⟩
  | n + 2, e2 => cases e2
theorem am_gst_ok {c ix j kd p : Nat} (hc : c < 5) (hi : ix < 256) (h : am_gst c ix = some (j, kd, p)) : j < 3 ∧ ((kd = 0 ∧ Cond.fieldLink (am_cn c) ix RX3 (am_sn j) "[I" ∈ am_wl) ∨ (kd = 1 ∧ Cond.fieldLinkNest (am_cn c) ix RX3 (am_sn j) "[I" RX3 ∈ lw_tbl)) := by
  have e := List.all_eq_true.mp (List.all_eq_true.mp am_okg_all c (List.mem_range.mpr hc)) ix (List.mem_range.mpr hi)
  unfold am_okg at e
  rw [h] at e
  simp only [Bool.and_eq_true] at e
  refine ⟨am_blt e.1, ?_⟩
  have e2 := e.2
  match kd, e2 with
  | 0, e2 => exact Or.inl ⟨rfl, am_at.wl e2⟩
  | 1, e2 => exact Or.inr ⟨rfl, List.mem_of_getElem? (of_decide_eq_true e2)⟩
  | n + 2, e2 => cases e2
theorem am_cst_ok {c ix p : Nat} {v : Int32} (hc : c < 7) (hi : ix < 512) (h : am_cst c ix = some (v, p)) : Cond.constant (am_cn c) ix v ∈ am_wl := by
  have e := List.all_eq_true.mp (List.all_eq_true.mp am_okk_all c (List.mem_range.mpr hc)) ix (List.mem_range.mpr hi)
  unfold am_okk at e
  rw [h] at e
  exact am_at.wl e
theorem am_fld_lt {c ix : Nat} {x : Nat × Nat × Nat × Nat} (h : am_fld c ix = some x) : c < 5 ∧ ix < 256 := by
  match c, h with
  | 0, h => exact ⟨by omega, am_blt (am_bifS h).1⟩
  | 1, h => exact ⟨by omega, am_blt (am_bifS h).1⟩
  | 2, h => exact ⟨by omega, am_blt (am_bifS h).1⟩
  | 3, h => exact ⟨by omega, am_blt (am_bifS h).1⟩
  | 4, h => exact ⟨by omega, am_blt (am_bifS h).1⟩
  | n + 5, h => cases h
theorem am_gst_lt {c ix : Nat} {x : Nat × Nat × Nat} (h : am_gst c ix = some x) : c < 5 ∧ ix < 256 := by
  match c, h with
  | 0, h => exact ⟨by omega, am_blt (am_bifS h).1⟩
  | 1, h => exact ⟨by omega, am_blt (am_bifS h).1⟩
  | 2, h => cases h
  | 3, h => cases h
  | 4, h => cases h
  | n + 5, h => cases h
theorem am_cst_lt {c ix : Nat} {x : Int32 × Nat} (h : am_cst c ix = some x) : c < 7 ∧ ix < 512 := by
  match c, h with
  | 0, h => exact ⟨by omega, am_blt (am_bifS h).1⟩
  | 1, h => cases h
  | 2, h => cases h
  | 3, h => exact ⟨by omega, am_blt (am_bifS h).1⟩
  | 4, h => exact ⟨by omega, am_blt (am_bifS h).1⟩
  | 5, h => exact ⟨by omega, am_blt (am_bifS h).1⟩
  | n + 6, h => cases h
theorem am_cal_lt {c ix : Nat} {x : Nat × Nat × Nat} (h : am_cal c ix = some x) : c < 7 ∧ ix < 256 := by
  match c, h with
  | 0, h => exact ⟨by omega, am_blt (am_bifS h).1⟩
  | 1, h => exact ⟨by omega, am_blt (am_bifS h).1⟩
  | 2, h => exact ⟨by omega, am_blt (am_bifS h).1⟩
  | 3, h => exact ⟨by omega, am_blt (am_bifS h).1⟩
  | 4, h => exact ⟨by omega, am_blt (am_bifS h).1⟩
  | n + 5, h => cases h
