/-! an abstract machine, 7: it is sound: a run of it is a contract of the method -/
def am_Q (D : va_G) (cA : ClassId) (ad : Nat → Nat) (A : Nat → Prop) (r : Option Value) (M : am_Mem) : Array Value → State → Outcome → State → Prop := match r with
  | some (.int v) => va_Qi (S := Unit) (fun x _ => x = v) (fun _ t => am_B D cA ad A M t) A
  | _ => va_Qv (S := Unit) (fun _ => True) (fun _ t => am_B D cA ad A M t) A
/-- what a method's place in the tables says -/
theorem am_okm_at {j : Nat} (hj : j < 160) : am_okw j = true ∧ Cond.initialized (am_nam j).cls ∈ am_wl ∧ (am_nam j).cls = am_cn (am_cl j) ∧ ((am_nam j).cls ≠ "java/lang/invoke/MethodHandle" ∧ (am_nam j).cls ≠ "java/lang/invoke/VarHandle" ∧ (parseMethodDescriptor (am_nam j).desc).map (fun d => d.parameters.length) = some (am_np j)) ∧ plainName (am_nam j).cls = true ∧ am_ml j ≤ 11 ∧
    ((am_sta j = true ∧ Cond.static (am_nam j) ∈ am_wl ∧ am_np j ≤ am_ml j) ∨ (am_sta j = false ∧ Cond.instanceMethod (am_nam j) ∈ am_wl ∧ Cond.selects (am_nam j).cls (am_nam j) (am_nam j) ∈ am_wl ∧ am_np j + 1 ≤ am_ml j ∧ am_cl j < 5)) := by
  have e := List.all_eq_true.mp am_okm_all j (List.mem_range.mpr hj)
  unfold am_okm at e
  simp only [Bool.and_eq_true, decide_eq_true_eq] at e
  obtain ⟨⟨⟨⟨⟨⟨⟨⟨e1, e2⟩, e3⟩, e4⟩, e5⟩, e6⟩, e7⟩, e8⟩, e9⟩ := e
  refine ⟨e1, am_at.wl e2, e3, ⟨e4, e5, e6⟩, e7, Nat.le_of_ble_eq_true e8, ?_⟩
  cases hs : am_sta j with
  | true =>
    rw [hs] at e9
    simp only [cond_true, Bool.and_eq_true] at e9
    exact Or.inl ⟨rfl, am_at.wl e9.1, Nat.le_of_ble_eq_true e9.2⟩
  | false =>
    rw [hs] at e9
    simp only [cond_false, Bool.and_eq_true] at e9
    exact Or.inr ⟨rfl, am_at.wl e9.1.1.1, am_at.wl e9.1.1.2, Nat.le_of_ble_eq_true e9.1.2, am_blt e9.2⟩
theorem am_lv_args {ad : Nat → Nat} : ∀ (as : List Value) (i k : Nat) (v : Value), as.all am_one = true → as[k]? = some v → (i + k, am_v ad v) ∈ lv_args i (as.map (am_v ad)) := by
  intro as
  induction as with
  | nil => intro i k v _ h; simp at h
  | cons a r ih =>
    intro i k v hall h
    simp only [List.all_cons, Bool.and_eq_true] at hall
    simp only [List.map_cons, lv_args]
    rw [if_neg (by rw [am_one_cat hall.1]; decide)]
    cases k with
    | zero =>
      simp only [List.getElem?_cons_zero, Option.some.injEq] at h
      subst h
      exact List.mem_cons_self
    | succ k =>
      rw [List.getElem?_cons_succ] at h
      have h2 := ih (i + 1) k v hall.2 h
      rw [show i + 1 + k = i + (k + 1) by omega] at h2
      exact List.mem_cons_of_mem _ h2
theorem am_lg_len {ad : Nat → Nat} : ∀ (as : List Value), as.all am_one = true → (lg_sl (as.map (am_v ad))).length = as.length := by
  intro as
  induction as with
  | nil => intro _; rfl
  | cons a r ih =>
    intro hall
    simp only [List.all_cons, Bool.and_eq_true] at hall
    have h2 := ih hall.2
    unfold lg_sl at h2 ⊢
    simp only [List.map_cons, List.flatMap_cons]
    rw [if_neg (by rw [am_one_cat hall.1]; decide), List.length_append, h2]
    simp only [List.length_cons, List.length_nil]
    omega
theorem am_lv_ent {ad : Nat → Nat} {as : List Value} {n : Nat} (hall : as.all am_one = true) (hn : as.length ≤ n) {ls : Array Slot} (h : lv_has ls n (lv_args 0 (as.map (am_v ad)))) : am_lv ad n ls (as ++ List.replicate (n - as.length) Value.null) := by
  refine ⟨by simp; omega, h.1, h.2.1, fun q hq => ?_⟩
  obtain ⟨k, v, hk, h1, rfl⟩ := am_ll_inv hq
  have hl : k < as.length := by
    rcases Nat.lt_or_ge k as.length with z | z
    · exact z
    · rw [List.getElem?_append_right z] at hk
      have := List.mem_of_getElem? hk
      rw [List.eq_of_mem_replicate this] at h1
      cases h1
  rw [List.getElem?_append_left hl] at hk
  have h2 := am_lv_args (ad := ad) as 0 k v hall hk
  rw [Nat.zero_add] at h2
  exact h.2.2 _ h2
theorem am_blind {D : va_G} {cA : ClassId} {ad : Nat → Nat} {A : Nat → Prop} {M : am_Mem} {av : List Value} : FrameBlind (va_Pc av (am_B D cA ad A M)) := fun a U g mk h =>
  ⟨h.1, h.2.1, va_K.moved (u := U) (U := U.calling g mk a) (Vm.Alike.refl U.vm) h.2.2.1, h.2.2.2.1.same (s := U) (U := U.calling g mk a) rfl, am_T.moved (u := U) (U := U.calling g mk a) (Vm.Alike.refl U.vm) h.2.2.2.2⟩
theorem am_cat4 {ad : Nat → Nat} (r : List Value) (h : r.length ≤ 4) : ((r.map (am_v ad)).map fun v => v.category).sum ≤ 8 := by
  have key : ∀ r : List Value, ((r.map (am_v ad)).map fun v => v.category).sum ≤ 2 * r.length := by
    intro r
    induction r with
    | nil => exact Nat.le_refl _
    | cons v r ih =>
      have := lv_cat (am_v ad v)
      simp only [List.map_cons, List.sum_cons, List.length_cons]
      omega
  have := key r
  omega
/-- what a call is -/
theorem am_calI {mi pc ix : Nat} {ls st : List Value} {M : am_Mem} {sta : Bool} {j : Nat} {as : List Value} {S : am_St} (h : am_cal1 mi pc ls st M ix sta = some (.inr (.inr (j, as, S)))) :
    ∃ kd q : Nat, am_cal (am_cl mi) ix = some (j, kd, q) ∧ am_hg j < am_hg mi ∧ am_sta j = sta ∧ j < 160 ∧ (st.take (am_np j)).all am_one = true ∧ am_np j ≤ st.length ∧
      ((sta = true ∧ (st.drop (am_np j)).length ≤ 4 ∧ as = (st.take (am_np j)).reverse ∧ S = (pc + 3, ls, st.drop (am_np j), M)) ∨
       (sta = false ∧ ∃ (b : Nat) (r : List Value), st.drop (am_np j) = .ref b :: r ∧ am_cls b = some (am_cl j) ∧ r.length ≤ 4 ∧ as = .ref b :: (st.take (am_np j)).reverse ∧ S = (pc + 3, ls, r, M))) := by
  unfold am_cal1 at h
  split at h
  · next j2 kd q hc =>
    obtain ⟨h1, h⟩ := am_bifS h
    simp only [Bool.and_eq_true, beq_iff_eq] at h1
    cases hj : Nat.blt j2 160 with
    | false =>
      rw [hj] at h
      simp only [cond_false] at h
      obtain ⟨-, h⟩ := am_bifS h
      exfalso
      split at h
      · unfold am_ja at h
        split at h
        · obtain ⟨-, h⟩ := am_bifS h; cases h
        · cases h
      · unfold am_jm at h
        split at h
        · obtain ⟨-, h⟩ := am_bifS h; cases h
        · cases h
    | true =>
      rw [hj] at h
      simp only [cond_true] at h
      cases sta with
      | true =>
        simp only [cond_true] at h
        obtain ⟨h2, h⟩ := am_bifS h
        cases h
        simp only [Bool.and_eq_true] at h2
        exact ⟨kd, q, hc, am_blt h1.1, h1.2, am_blt hj, h2.2, Nat.le_of_ble_eq_true h2.1.1, Or.inl ⟨rfl, Nat.le_of_ble_eq_true h2.1.2, rfl, rfl⟩⟩
      | false =>
        simp only [cond_false] at h
        split at h
        · next b r hdr =>
          obtain ⟨h2, h⟩ := am_bifS h
          cases h
          simp only [Bool.and_eq_true, beq_iff_eq] at h2
          have hle : am_np j ≤ st.length := by
            rcases Nat.lt_or_ge st.length (am_np j) with z | z
            · rw [List.drop_eq_nil_of_le (by omega)] at hdr; cases hdr
            · exact z
          exact ⟨kd, q, hc, am_blt h1.1, h1.2, am_blt hj, h2.2, hle, Or.inr ⟨rfl, b, r, hdr, h2.1.1, Nat.le_of_ble_eq_true h2.1.2, rfl, rfl⟩⟩
        · cases h
  · cases h
theorem am_calR (mi pc : Nat) (ls st : List Value) (M : am_Mem) (ix : Nat) (sta : Bool) (x : Option Value × am_Mem) : ¬ am_cal1 mi pc ls st M ix sta = some (.inr (.inl x)) := by
  intro h
  unfold am_cal1 at h
  split at h
  · next j2 kd q hc =>
    obtain ⟨h1, h⟩ := am_bifS h
    rcases am_bif2 h with h | h
    · rcases am_bif2 h with h | h
      · obtain ⟨-, h⟩ := am_bifS h; cases h
      · split at h
        · obtain ⟨-, h⟩ := am_bifS h; cases h
        · cases h
    · obtain ⟨-, h⟩ := am_bifS h
      split at h
      · unfold am_ja at h
        split at h
        · obtain ⟨-, h⟩ := am_bifS h; cases h
        · cases h
      · unfold am_jm at h
        split at h
        · obtain ⟨-, h⟩ := am_bifS h; cases h
        · cases h
  · cases h
section AMC
variable {p : Program} {l : Launch} {e : Env} {s : State} {m : MethodId} {args : Array Value} {below : List Frame} {meth : Method} {c : Code} {D : va_G} {cA : ClassId} {ad : Nat → Nat} {A : Nat → Prop} {mi : Nat} {Q : State → Prop}
/-- behind a call -/
theorem am_back {pc : Nat} {ls : Array Slot} {st0 rest : List Value} {a : Array Value} {H : Heap} {locs : List Loc} {L : List Value} {rr : List Value} {r : Option Value} {M2 : am_Mem} (hr2 : r = none ∨ ∃ v : Int32, r = some (.int v)) (hr : va_Run p l e (am_rm mi) s m args below meth c H locs 0 0 0 0 (F0 m pc ls st0) rest (am_Q D cA ad A r M2 a) A) (hrest : rest = rr.map (am_v ad)) (hS : va_S A s.heap H locs) (hL : am_lv ad (am_ml mi) ls L) (kk : am_W p l e s m args below meth c D cA ad A mi Q (pc + 3, L, r.toList ++ rr, M2)) : W p l e (am_rm mi) s m args below meth c H locs 0 0 Q (F0 m pc ls st0) := by
  subst hrest
  rcases hr2 with rfl | ⟨v, rfl⟩
  · refine va_callv (a := a) (S := Unit) (post := fun _ => True) (B := fun _ t => am_B D cA ad A M2 t) hr hS (fun q _ h => h) (fun q h => h) (fun u t H1 locs1 ht hvm hp hB hz hk hS1 => ?_)
    subst ht
    exact kk _ _ _ hB.1 hS1 hL
  · refine va_calli (a := a) (S := Unit) (post := fun x _ => x = v) (B := fun _ t => am_B D cA ad A M2 t) hr hS (fun q _ h => h) (fun q h => h) (fun x u t H1 locs1 ht hvm hp hB hz hk hS1 => ?_)
    subst ht
    subst hp
    exact kk _ _ _ hB.1 hS1 hL
set_option maxHeartbeats 4000000 in
theorem am_callW (hDD : am_D ad A) (C : am_cx p s m args meth c D cA ad A mi) {S S2 : am_St} {j : Nat} {as : List Value} {r : Option Value} {M2 : am_Mem} (hr2 : r = none ∨ ∃ v : Int32, r = some (.int v)) (h : am_nx mi S = some (.inr (.inr (j, as, S2))))
    (hM : Met l (am_nam j) (am_ws j) (am_rm j) (va_Pc (as.map (am_v ad)) (am_B D cA ad A S2.2.2.2)) (am_Q D cA ad A r M2) 0 0 A) (kk : am_W p l e s m args below meth c D cA ad A mi Q (S2.1, S2.2.1, r.toList ++ S2.2.2.1, M2)) : am_W p l e s m args below meth c D cA ad A mi Q S := by
  obtain ⟨hx, hb, hr, hml, hown, hts, hlocks, hK, hN, hT⟩ := C
  obtain ⟨pc, L, st, M⟩ := S
  intro H locs ls hP hS hL
  unfold am_nx at h
  dsimp only at h hP hL ⊢
  cases hcod : am_cod mi pc with
  | none => rw [hcod] at h; cases h
  | some q =>
    obtain ⟨i, len⟩ := q
    rw [hcod] at h
    dsimp only at h
    obtain ⟨hd, hlit⟩ := am_code hcod
    have main : ∀ (ix : Nat) (sta : Bool), len = 3 → decode (am_byt mi) pc = .ok (bif sta then .invokestatic ix else .invokevirtual ix, 3) → am_cal1 mi pc L st M ix sta = some (.inr (.inr (j, as, S2))) → W p l e (am_rm mi) s m args below meth c H locs 0 0 Q (F0 m pc ls (st.map (am_v ad))) := by
      intro ix sta _ hd h
      obtain ⟨kd, q, hc, hhg, hsta, hj, hone, hnp, hh⟩ := am_calI h
      obtain ⟨o1, o2, o3, o4, o5, o6, o7⟩ := am_okm_at hj
      obtain ⟨q1, q2⟩ := am_cal_lt hc
      have e := List.all_eq_true.mp (List.all_eq_true.mp am_okc_all (am_cl mi) (List.mem_range.mpr q1)) ix (List.mem_range.mpr q2)
      unfold am_okc at e
      rw [hc] at e
      simp only [Bool.and_eq_true] at e
      have e3 := e.2
      have hcw := am_cwm o1
      have hws : ∀ w ∈ am_ws j, w ∈ am_wl := fun w hw => by
        rcases List.mem_cons.mp hw with rfl | hw
        · exact hcw
        · exact hw
      have hR : (am_rm j).frames + 1 ≤ (am_rm mi).frames ∧ 8 + (am_ml j + 11) + (am_rm j).locals ≤ (am_rm mi).locals := by
        show am_hg j + 1 ≤ am_hg mi ∧ 8 + (am_ml j + 11) + 30 * am_hg j ≤ 30 * am_hg mi
        omega
      have hlen : ((st.take (am_np j)).reverse.map (am_v ad)).length = am_np j := by simp; omega
      rcases hh with ⟨rfl, hr4, rfl, rfl⟩ | ⟨rfl, b, r2, hdr, hcb, hr4, rfl, rfl⟩
      · have hst : st.map (am_v ad) = ((st.take (am_np j)).reverse.map (am_v ad)).reverse ++ (st.drop (am_np j)).map (am_v ad) := by
          rw [← List.map_reverse, List.reverse_reverse, ← List.map_append, List.take_append_drop]
        have hPre : PreS s H (va_Pc ((st.take (am_np j)).reverse.map (am_v ad)) (am_B D cA ad A M)) ((st.take (am_np j)).reverse.map (am_v ad)) := ⟨am_blind, fun U hU hW => ⟨rfl, am_B.at hP hK hN hT hS hU hW⟩⟩
        rcases o7 with ⟨-, o8, -⟩ | ⟨o8, -⟩
        · match kd, e3 with
          | 0, e3 =>
            exact am_back hr2 (va_runS ⟨hx, hb, hml, hown, hts⟩ hM (va_cwS (am_np j) hts (am_good (fun w hw => by
              unfold va_wsS at hw
              rcases List.mem_append.mp hw with hw | hw
              · simp only [List.mem_cons, List.not_mem_nil, or_false] at hw
                rcases hw with rfl | rfl | rfl
                · exact am_at.wl e3
                · exact o8
                · exact o2
              · exact hws w hw)) rfl rfl rfl o4 hR) hPre rfl hlen hL.2.1 hst (lv_room (am_cat4 _ hr4)) hd ⟨Nat.zero_le _, Nat.zero_le _⟩) rfl hS hL kk
          | 1, e3 =>
            simp only [Bool.and_eq_true, decide_eq_true_eq] at e3
            exact am_back hr2 (va_runSN ⟨hx, hb, hml, hown, hts⟩ hM ⟨va_cnB (am_np j) hts (am_good hws) rfl rfl rfl (hN.1 _ _ _ _ (List.mem_of_getElem? e3.2)) (hts _ o2) o4 hR, hts _ o8, trivial⟩ hPre rfl hlen hL.2.1 hst (lv_room (am_cat4 _ hr4)) hd ⟨Nat.zero_le _, Nat.zero_le _⟩) rfl hS hL kk
          | n + 2, e3 => cases e3
        · rw [hsta] at o8; cases o8
      · have hst : st.map (am_v ad) = ((st.take (am_np j)).reverse.map (am_v ad)).reverse ++ .ref (ad b) :: r2.map (am_v ad) := by
          rw [← List.map_reverse, List.reverse_reverse]
          have h2 : st.map (am_v ad) = (st.take (am_np j)).map (am_v ad) ++ (st.drop (am_np j)).map (am_v ad) := by rw [← List.map_append, List.take_append_drop]
          rw [h2, hdr]
          rfl
        rcases o7 with ⟨o8, -⟩ | ⟨-, o8, o9, -, o10⟩
        · rw [hsta] at o8; cases o8
        have hrecv := va_recv hK hP (am_hc o10) (am_w_obj ad cA M hcb)
        have hPre : PreV s H (am_nam j).cls (ad b) (va_Pc ((Value.ref b :: (st.take (am_np j)).reverse).map (am_v ad)) (am_B D cA ad A M)) ((st.take (am_np j)).reverse.map (am_v ad)) := ⟨am_blind, by rw [o3]; exact hrecv, fun U hU hW => ⟨rfl, am_B.at hP hK hN hT hS hU hW⟩⟩
        match kd, e3 with
        | 0, e3 =>
          exact am_back hr2 (va_runV ⟨hx, hb, hml, hown, hts⟩ hM (cwV (am_np j) hts (am_good (fun w hw => by
            unfold wsV at hw
            rcases List.mem_append.mp hw with hw | hw
            · simp only [List.mem_cons, List.not_mem_nil, or_false] at hw
              rcases hw with rfl | rfl | rfl | rfl
              · exact am_at.wl e3
              · exact o8
              · exact o9
              · exact o2
            · exact hws w hw)) rfl rfl rfl ⟨rfl, o4⟩ hR) hPre rfl hlen hL.2.1 hst (lv_room (am_cat4 _ hr4)) hd ⟨Nat.zero_le _, Nat.zero_le _⟩) rfl hS hL kk
        | 1, e3 =>
          simp only [Bool.and_eq_true, hsta] at e3
          cases e3.1
        | n + 2, e3 => cases e3
    cases i
    case invokevirtual ix =>
      have e := am_kI hlit; subst e
      exact main ix false rfl hd h
    case invokestatic ix =>
      have e := am_kI hlit; subst e
      exact main ix true rfl hd h
    all_goals first
      | exact absurd (show (none : Option am_Nx) = some (.inr (.inr (j, as, S2))) from h) (fun z => by cases z)
      | (exfalso; simp only [am_stp, am_ld, am_lda, am_sto, am_inc, am_cs, am_op2, am_dv, am_ng, am_du, am_d2, am_ic, am_ii, am_br, am_ts, am_lk, am_gf, am_pf, am_gs, am_al, am_ia, am_iS, am_vr, am_iret] at h; (repeat' split at h) <;> first | (cases h; done) | (obtain ⟨-, h⟩ := am_bifS h; cases h; done) | (obtain ⟨-, h⟩ := am_bifS h; split at h <;> cases h; done))
set_option maxHeartbeats 4000000 in
theorem am_fin (hDD : am_D ad A) (C : am_cx p s m args meth c D cA ad A mi) {S : am_St} {r : Option Value} {M2 : am_Mem} (h : am_nx mi S = some (.inr (.inl (r, M2)))) : am_W p l e s m args below meth c D cA ad A mi (MQ below (am_Q D cA ad A r M2) args s 0 0 A) S := by
  obtain ⟨hx, hb, hr, hml, hown, hts, hlocks, hK, hN, hT⟩ := C
  obtain ⟨pc, L, st, M⟩ := S
  intro H locs ls hP hS hL
  unfold am_nx at h
  dsimp only at h hP hL ⊢
  cases hcod : am_cod mi pc with
  | none => rw [hcod] at h; cases h
  | some q =>
    obtain ⟨i, len⟩ := q
    rw [hcod] at h
    dsimp only at h
    obtain ⟨hd, hlit⟩ := am_code hcod
    cases i
    case ireturn =>
      have e := am_kI hlit; subst e
      change am_iret mi st M = some (.inr (.inl (r, M2))) at h
      unfold am_iret at h
      split at h
      · next v =>
        split at h
        · next hk =>
          cases h
          rw [hk] at hr
          exact W.iret (v := v) hx hb hr (fun t ht hW => ⟨⟨v, (), rfl, rfl, am_B.at hP hK hN hT hS ht hW⟩, hS.F ht⟩) hS.2.2 hd
        · next hk =>
          rw [hk] at hr
          by_cases hv : v = am_b true ∨ v = am_b false
          · rw [if_pos hv] at h
            cases h
            refine W.zret (v := v) (ty := .boolean) hx hb hr ?_ (fun t ht hW => ⟨⟨v, (), rfl, rfl, am_B.at hP hK hN hT hS ht hW⟩, hS.F ht⟩) hS.2.2 hd
            rcases hv with rfl | rfl
            · decide +kernel
            · decide +kernel
          · rw [if_neg hv] at h
            cases h
        · cases h
      · cases h
    case return_ =>
      have e := am_kI hlit; subst e
      change am_vr mi st M = some (.inr (.inl (r, M2))) at h
      unfold am_vr at h
      split at h
      · split at h
        · next hk =>
          cases h
          rw [hk] at hr
          exact W.vret hx hb hr (fun t ht hW => ⟨⟨(), rfl, trivial, am_B.at hP hK hN hT hS ht hW⟩, hS.F ht⟩) hS.2.2 hd
        · cases h
      · cases h
    case invokevirtual ix => exact absurd h (am_calR mi pc L st M ix false _)
    case invokestatic ix => exact absurd h (am_calR mi pc L st M ix true _)
    all_goals first
      | exact absurd (show (none : Option am_Nx) = some (.inr (.inl (r, M2))) from h) (fun z => by cases z)
      | (exfalso; simp only [am_stp, am_ld, am_lda, am_sto, am_inc, am_cs, am_op2, am_dv, am_ng, am_du, am_d2, am_ic, am_ii, am_br, am_ts, am_lk, am_gf, am_pf, am_gs, am_al, am_ia, am_iS] at h; (repeat' split at h) <;> first | (cases h; done) | (obtain ⟨-, h⟩ := am_bifS h; cases h; done) | (obtain ⟨-, h⟩ := am_bifS h; split at h <;> cases h; done))
end AMC
/-- a run of the abstract machine is one of the machine -/
theorem am_shape : ∀ (n mi : Nat) (S : am_St) (r : Option Value) (M2 : am_Mem) (j : Nat) (as : List Value) (S2 : am_St), am_nx mi S = some (.inr (.inr (j, as, S2))) → am_ex (n + 1) mi S = some (r, M2) → ∃ (r1 : Option Value) (M1 : am_Mem), (r1 = none ∨ ∃ v : Int32, r1 = some (.int v)) ∧ am_ex n j (am_ent j as S2.2.2.2) = some (r1, M1) ∧ am_ex n mi (S2.1, S2.2.1, r1.toList ++ S2.2.2.1, M1) = some (r, M2) := by
  intro n mi S r M2 j as S2 h1 h
  rw [am_ex, h1] at h
  dsimp only at h
  split at h
  · next v M1 hc => exact ⟨some (.int v), M1, Or.inr ⟨v, rfl⟩, hc, h⟩
  · next M1 hc => exact ⟨none, M1, Or.inl rfl, hc, h⟩
  · cases h
/-- what the arguments of a call are -/
theorem am_callA {mi j : Nat} {S S2 : am_St} {as : List Value} (h : am_nx mi S = some (.inr (.inr (j, as, S2)))) : j < 160 ∧ as.all am_one = true ∧ as.length ≤ am_ml j := by
  obtain ⟨pc, L, st, M⟩ := S
  unfold am_nx at h
  dsimp only at h
  cases hcod : am_cod mi pc with
  | none => rw [hcod] at h; cases h
  | some q =>
    obtain ⟨i, len⟩ := q
    rw [hcod] at h
    dsimp only at h
    have main : ∀ (ix : Nat) (sta : Bool), am_cal1 mi pc L st M ix sta = some (.inr (.inr (j, as, S2))) → j < 160 ∧ as.all am_one = true ∧ as.length ≤ am_ml j := by
      intro ix sta h
      obtain ⟨kd, q, hc, hhg, hsta, hj, hone, hnp, hh⟩ := am_calI h
      obtain ⟨o1, o2, o3, o4, o5, o6, o7⟩ := am_okm_at hj
      rcases hh with ⟨rfl, hr4, rfl, rfl⟩ | ⟨rfl, b, r2, hdr, hcb, hr4, rfl, rfl⟩
      · rcases o7 with ⟨-, -, o8⟩ | ⟨o8, -⟩
        · exact ⟨hj, by rw [List.all_reverse]; exact hone, by simp; omega⟩
        · rw [hsta] at o8; cases o8
      · rcases o7 with ⟨o8, -⟩ | ⟨-, -, -, o8, -⟩
        · rw [hsta] at o8; cases o8
        · exact ⟨hj, by rw [List.all_cons, List.all_reverse, hone]; rfl, by simp; omega⟩
    cases i
    case invokevirtual ix => exact main ix false h
    case invokestatic ix => exact main ix true h
    all_goals first
      | exact absurd (show (none : Option am_Nx) = some (.inr (.inr (j, as, S2))) from h) (fun z => by cases z)
      | (exfalso; simp only [am_stp, am_ld, am_lda, am_sto, am_inc, am_cs, am_op2, am_dv, am_ng, am_du, am_d2, am_ic, am_ii, am_br, am_ts, am_lk, am_gf, am_pf, am_gs, am_al, am_ia, am_iS, am_vr, am_iret] at h; (repeat' split at h) <;> first | (cases h; done) | (obtain ⟨-, h⟩ := am_bifS h; cases h; done) | (obtain ⟨-, h⟩ := am_bifS h; split at h <;> cases h; done))
theorem am_metW {l : Launch} {D : va_G} {cA : ClassId} {ad : Nat → Nat} {A : Nat → Prop} {j : Nat} {as : List Value} {M : am_Mem} {r : Option Value} {M2 : am_Mem} (hj : j < 160) (hone : as.all am_one = true) (hlen : as.length ≤ am_ml j)
    (h : ∀ {p : Program} {e : Env} {s : State} {m : MethodId} {args : Array Value} {below : List Frame} {meth : Method} {c : Code}, am_cx p s m args meth c D cA ad A j → am_W p l e s m args below meth c D cA ad A j (MQ below (am_Q D cA ad A r M2) args s 0 0 A) (am_ent j as M)) :
    Met l (am_nam j) (am_ws j) (am_rm j) (va_Pc (as.map (am_v ad)) (am_B D cA ad A M)) (am_Q D cA ad A r M2) 0 0 A := by
  obtain ⟨o1, o2, o3, o4, o5, o6, o7⟩ := am_okm_at hj
  refine Met.ofW (cc := am_byt j) (maxL := am_ml j) (ret := am_rt (am_rk j)) o5 rfl ?_
  intro p e s m args below meth c s₁ B hml hv
  obtain ⟨rfl, hB⟩ := hv
  have hts := atoms_spec (ws := am_ws j) B.pre
  have hown : s.vm.findClass (am_nam j).cls = some m.cls := findClass_of_methodNamed B.named
  rw [o3] at hown
  have hl := lv_entry (as.map (am_v ad)) (n := am_ml j) (by rw [am_lg_len as hone]; exact hlen)
  rw [lg_entry_eq]
  exact h ⟨B.exec, B.bytes, B.returns, hml, hown, fun w hw => hts w (List.mem_cons_of_mem _ hw), B.notSynchronized, hB.2.1, hB.2.2.1, hB.2.2.2⟩ s.heap [] _ hB.1 va_S.rf (am_lv_ent hone hlen hl)
theorem am_sound (l : Launch) {D : va_G} {cA : ClassId} {ad : Nat → Nat} {A : Nat → Prop} (hDD : am_D ad A) : ∀ (n mi : Nat) (S : am_St) (r : Option Value) (M2 : am_Mem), am_ex n mi S = some (r, M2) → ∀ {p : Program} {e : Env} {s : State} {m : MethodId} {args : Array Value} {below : List Frame} {meth : Method} {c : Code}, am_cx p s m args meth c D cA ad A mi → am_W p l e s m args below meth c D cA ad A mi (MQ below (am_Q D cA ad A r M2) args s 0 0 A) S := by
  intro n
  induction n with
  | zero => intro mi S r M2 h; cases h
  | succ n ih =>
    intro mi S r M2 h p e s m args below meth c C
    cases hn : am_nx mi S with
    | none => rw [am_ex, hn] at h; cases h
    | some y =>
      rcases y with S2 | ⟨r1, M1⟩ | ⟨j, as, S2⟩
      · rw [am_ex, hn] at h
        exact am_step hDD C hn (ih _ _ _ _ h C)
      · rw [am_ex, hn] at h
        cases h
        exact am_fin hDD C hn
      · obtain ⟨r1, M1, hr1, h1, h2⟩ := am_shape _ _ _ _ _ _ _ _ hn h
        obtain ⟨a1, a2, a3⟩ := am_callA hn
        exact am_callW hDD C hr1 hn (am_metW a1 a2 a3 (fun C2 => ih _ _ _ _ h1 C2)) (ih _ _ _ _ h2 C)
/-- THE CONTRACT OF A METHOD out of a run -/
theorem am_met (l : Launch) {D : va_G} {cA : ClassId} {ad : Nat → Nat} {A : Nat → Prop} (hDD : am_D ad A) {n j : Nat} {as : List Value} {M : am_Mem} {r : Option Value} {M2 : am_Mem} (hj : j < 160) (hone : as.all am_one = true) (hlen : as.length ≤ am_ml j) (h : am_ex n j (am_ent j as M) = some (r, M2)) :
    Met l (am_nam j) (am_ws j) (am_rm j) (va_Pc (as.map (am_v ad)) (am_B D cA ad A M)) (am_Q D cA ad A r M2) 0 0 A := am_metW hj hone hlen (fun C => am_sound l hDD n j _ r M2 h C)
