/-! the constructors -/
theorem am_u0 : ∀ w ∈ u_ws RX0 TX0 7, w ∈ am_wl := am_uin (c := 0) (by decide)
theorem am_u1 : ∀ w ∈ u_ws RX1 TX1 7, w ∈ am_wl := am_uin (c := 1) (by decide)
theorem am_u2 : ∀ w ∈ u_ws RX2 TX2 3, w ∈ am_wl := am_uin (c := 2) (by decide)
theorem am_u3 : ∀ w ∈ u_ws RX3 TX3 10, w ∈ am_wl := am_uin (c := 3) (by decide)
theorem am_u4 : ∀ w ∈ u_ws RX4 TX4 27, w ∈ am_wl := am_uin (c := 4) (by decide)
theorem am_one_cA {D : va_G} {cl : List vw_C} {cA cB : ClassId} {U : State} (h : va_K D cl ([(cA, .int)] ++ [(cB, .int)]) U) : cB = cA := by
  have h1 : U.vm.findClass ("[" ++ FieldType.int.toString) = some cA := (h.2 0 (cA, .int) rfl).2
  have h2 : U.vm.findClass ("[" ++ FieldType.int.toString) = some cB := (h.2 1 (cB, .int) rfl).2
  exact Option.some.inj (h2.symm.trans h1)
section AMN
variable {p : Program} {l : Launch} {e : Env} {R : Room} {s : State} {m : MethodId} {args : Array Value} {below : List Frame} {meth : Method} {c : Code} {cc : ByteArray} {H0 H : Heap} {locs : List Loc} {cells slots : Nat} {Q : State → Prop} {pc : Nat} {ls : Array Slot} {rest : List Value}
/-- a new row of ints, all of whose class is one -/
theorem am_newa {D : va_G} {cA : ClassId} {A : Nat → Prop} {ws : va_W} (hx : p.tables.exec = Jvm.exec) (hb : c.code = cc) (harr : (Cond.arrayClass .int).before args s = true) (hK : va_K D vwCl [(cA, .int)] s) (hP : va_P D vwCl ws H) (hD : va_D A ws) (hS : va_S A H0 H locs) (hA : ∀ q, H0.size ≤ q → A q) {n : Int32} (N : Nat) (hn : ¬ n < 0) (hN : n.toNatClampNeg = N) (hy : N * 4 ≤ 536870912) (hcells : cells + 1 ≤ R.cells) (hslots : slots + N ≤ R.slots) (hdg : decode cc pc = .ok (.newarray .int, 2))
    (kk : ∀ (q : Nat) (H1 : Heap), va_P D vwCl (ws ++ [(q, .inl (cA, (N, .inl (fun _ => 0))))]) H1 → va_D A (ws ++ [(q, .inl (cA, (N, .inl (fun _ => 0))))]) → va_S A H0 H1 locs → W p l e R s m args below meth c H1 locs (cells + 1) (slots + N) Q (F0 m (pc + 2) ls (.ref q :: rest))) : W p l e R s m args below meth c H locs cells slots Q (F0 m pc ls (.int n :: rest)) :=
  va_newa (atype := .int) (ty := .int) (a0 := (N, .inl (fun _ => 0))) hx hb harr rfl hK hP hD hS hA (fun _ => rfl) hn hN hy hcells hslots hdg (fun q cB H1 hK1 hP1 hD1 hS1 => by
    have e9 := am_one_cA hK1
    subst e9
    exact kk q H1 hP1 hD1 hS1)
end AMN

theorem dX0_init_0 : decode cX0_init 0 = .ok (.aload_n 0, 1) := by decide +kernel
theorem dX0_init_1 : decode cX0_init 1 = .ok (.invokespecial 3, 3) := by decide +kernel
theorem dX0_init_4 : decode cX0_init 4 = .ok (.aload_n 0, 1) := by decide +kernel
theorem dX0_init_5 : decode cX0_init 5 = .ok (.iconst 3, 1) := by decide +kernel
theorem dX0_init_6 : decode cX0_init 6 = .ok (.putfield 9, 3) := by decide +kernel
theorem dX0_init_9 : decode cX0_init 9 = .ok (.aload_n 0, 1) := by decide +kernel
theorem dX0_init_10 : decode cX0_init 10 = .ok (.iconst 0, 1) := by decide +kernel
theorem dX0_init_11 : decode cX0_init 11 = .ok (.putfield 15, 3) := by decide +kernel
theorem dX0_init_14 : decode cX0_init 14 = .ok (.aload_n 0, 1) := by decide +kernel
theorem dX0_init_15 : decode cX0_init 15 = .ok (.iconst 0, 1) := by decide +kernel
theorem dX0_init_16 : decode cX0_init 16 = .ok (.putfield 18, 3) := by decide +kernel
theorem dX0_init_19 : decode cX0_init 19 = .ok (.aload_n 0, 1) := by decide +kernel
theorem dX0_init_20 : decode cX0_init 20 = .ok (.iconst 0, 1) := by decide +kernel
theorem dX0_init_21 : decode cX0_init 21 = .ok (.putfield 21, 3) := by decide +kernel
theorem dX0_init_24 : decode cX0_init 24 = .ok (.aload_n 0, 1) := by decide +kernel
theorem dX0_init_25 : decode cX0_init 25 = .ok (.ldc 24, 2) := by decide +kernel
theorem dX0_init_27 : decode cX0_init 27 = .ok (.putfield 25, 3) := by decide +kernel
theorem dX0_init_30 : decode cX0_init 30 = .ok (.aload_n 0, 1) := by decide +kernel
theorem dX0_init_31 : decode cX0_init 31 = .ok (.iconst 4, 1) := by decide +kernel
theorem dX0_init_32 : decode cX0_init 32 = .ok (.newarray .int, 2) := by decide +kernel
theorem dX0_init_34 : decode cX0_init 34 = .ok (.putfield 28, 3) := by decide +kernel
theorem dX0_init_37 : decode cX0_init 37 = .ok (.aload_n 0, 1) := by decide +kernel
theorem dX0_init_38 : decode cX0_init 38 = .ok (.bipush 8, 2) := by decide +kernel
theorem dX0_init_40 : decode cX0_init 40 = .ok (.newarray .int, 2) := by decide +kernel
theorem dX0_init_42 : decode cX0_init 42 = .ok (.putfield 32, 3) := by decide +kernel
theorem dX0_init_45 : decode cX0_init 45 = .ok (.return_, 1) := by decide +kernel
theorem dX1_init_0 : decode cX1_init 0 = .ok (.aload_n 0, 1) := by decide +kernel
theorem dX1_init_1 : decode cX1_init 1 = .ok (.invokespecial 3, 3) := by decide +kernel
theorem dX1_init_4 : decode cX1_init 4 = .ok (.aload_n 0, 1) := by decide +kernel
theorem dX1_init_5 : decode cX1_init 5 = .ok (.bipush 64, 2) := by decide +kernel
theorem dX1_init_7 : decode cX1_init 7 = .ok (.newarray .int, 2) := by decide +kernel
theorem dX1_init_9 : decode cX1_init 9 = .ok (.putfield 9, 3) := by decide +kernel
theorem dX1_init_12 : decode cX1_init 12 = .ok (.aload_n 0, 1) := by decide +kernel
theorem dX1_init_13 : decode cX1_init 13 = .ok (.iconst 0, 1) := by decide +kernel
theorem dX1_init_14 : decode cX1_init 14 = .ok (.putfield 15, 3) := by decide +kernel
theorem dX1_init_17 : decode cX1_init 17 = .ok (.aload_n 0, 1) := by decide +kernel
theorem dX1_init_18 : decode cX1_init 18 = .ok (.iconst 0, 1) := by decide +kernel
theorem dX1_init_19 : decode cX1_init 19 = .ok (.putfield 19, 3) := by decide +kernel
theorem dX1_init_22 : decode cX1_init 22 = .ok (.aload_n 0, 1) := by decide +kernel
theorem dX1_init_23 : decode cX1_init 23 = .ok (.iconst 0, 1) := by decide +kernel
theorem dX1_init_24 : decode cX1_init 24 = .ok (.putfield 22, 3) := by decide +kernel
theorem dX1_init_27 : decode cX1_init 27 = .ok (.aload_n 0, 1) := by decide +kernel
theorem dX1_init_28 : decode cX1_init 28 = .ok (.iconst 0, 1) := by decide +kernel
theorem dX1_init_29 : decode cX1_init 29 = .ok (.putfield 25, 3) := by decide +kernel
theorem dX1_init_32 : decode cX1_init 32 = .ok (.aload_n 0, 1) := by decide +kernel
theorem dX1_init_33 : decode cX1_init 33 = .ok (.iconst 0, 1) := by decide +kernel
theorem dX1_init_34 : decode cX1_init 34 = .ok (.putfield 28, 3) := by decide +kernel
theorem dX1_init_37 : decode cX1_init 37 = .ok (.aload_n 0, 1) := by decide +kernel
theorem dX1_init_38 : decode cX1_init 38 = .ok (.iconst 0, 1) := by decide +kernel
theorem dX1_init_39 : decode cX1_init 39 = .ok (.putfield 31, 3) := by decide +kernel
theorem dX1_init_42 : decode cX1_init 42 = .ok (.return_, 1) := by decide +kernel
theorem dX2_init_0 : decode cX2_init 0 = .ok (.aload_n 0, 1) := by decide +kernel
theorem dX2_init_1 : decode cX2_init 1 = .ok (.invokespecial 3, 3) := by decide +kernel
theorem dX2_init_4 : decode cX2_init 4 = .ok (.aload_n 0, 1) := by decide +kernel
theorem dX2_init_5 : decode cX2_init 5 = .ok (.sipush 144, 3) := by decide +kernel
theorem dX2_init_8 : decode cX2_init 8 = .ok (.newarray .int, 2) := by decide +kernel
theorem dX2_init_10 : decode cX2_init 10 = .ok (.putfield 9, 3) := by decide +kernel
theorem dX2_init_13 : decode cX2_init 13 = .ok (.aload_n 0, 1) := by decide +kernel
theorem dX2_init_14 : decode cX2_init 14 = .ok (.sipush 144, 3) := by decide +kernel
theorem dX2_init_17 : decode cX2_init 17 = .ok (.newarray .int, 2) := by decide +kernel
theorem dX2_init_19 : decode cX2_init 19 = .ok (.putfield 15, 3) := by decide +kernel
theorem dX2_init_22 : decode cX2_init 22 = .ok (.aload_n 0, 1) := by decide +kernel
theorem dX2_init_23 : decode cX2_init 23 = .ok (.iconst 0, 1) := by decide +kernel
theorem dX2_init_24 : decode cX2_init 24 = .ok (.putfield 18, 3) := by decide +kernel
theorem dX2_init_27 : decode cX2_init 27 = .ok (.return_, 1) := by decide +kernel
theorem dX3_init_0 : decode cX3_init 0 = .ok (.aload_n 0, 1) := by decide +kernel
theorem dX3_init_1 : decode cX3_init 1 = .ok (.invokespecial 3, 3) := by decide +kernel
theorem dX3_init_4 : decode cX3_init 4 = .ok (.aload_n 0, 1) := by decide +kernel
theorem dX3_init_5 : decode cX3_init 5 = .ok (.new 9, 3) := by decide +kernel
theorem dX3_init_8 : decode cX3_init 8 = .ok (.dup, 1) := by decide +kernel
theorem dX3_init_9 : decode cX3_init 9 = .ok (.invokespecial 11, 3) := by decide +kernel
theorem dX3_init_12 : decode cX3_init 12 = .ok (.putfield 12, 3) := by decide +kernel
theorem dX3_init_15 : decode cX3_init 15 = .ok (.aload_n 0, 1) := by decide +kernel
theorem dX3_init_16 : decode cX3_init 16 = .ok (.new 9, 3) := by decide +kernel
theorem dX3_init_19 : decode cX3_init 19 = .ok (.dup, 1) := by decide +kernel
theorem dX3_init_20 : decode cX3_init 20 = .ok (.invokespecial 11, 3) := by decide +kernel
theorem dX3_init_23 : decode cX3_init 23 = .ok (.putfield 16, 3) := by decide +kernel
theorem dX3_init_26 : decode cX3_init 26 = .ok (.aload_n 0, 1) := by decide +kernel
theorem dX3_init_27 : decode cX3_init 27 = .ok (.new 9, 3) := by decide +kernel
theorem dX3_init_30 : decode cX3_init 30 = .ok (.dup, 1) := by decide +kernel
theorem dX3_init_31 : decode cX3_init 31 = .ok (.invokespecial 11, 3) := by decide +kernel
theorem dX3_init_34 : decode cX3_init 34 = .ok (.putfield 19, 3) := by decide +kernel
theorem dX3_init_37 : decode cX3_init 37 = .ok (.aload_n 0, 1) := by decide +kernel
theorem dX3_init_38 : decode cX3_init 38 = .ok (.iconst 0, 1) := by decide +kernel
theorem dX3_init_39 : decode cX3_init 39 = .ok (.putfield 22, 3) := by decide +kernel
theorem dX3_init_42 : decode cX3_init 42 = .ok (.aload_n 0, 1) := by decide +kernel
theorem dX3_init_43 : decode cX3_init 43 = .ok (.new 26, 3) := by decide +kernel
theorem dX3_init_46 : decode cX3_init 46 = .ok (.dup, 1) := by decide +kernel
theorem dX3_init_47 : decode cX3_init 47 = .ok (.invokespecial 28, 3) := by decide +kernel
theorem dX3_init_50 : decode cX3_init 50 = .ok (.putfield 29, 3) := by decide +kernel
theorem dX3_init_53 : decode cX3_init 53 = .ok (.aload_n 0, 1) := by decide +kernel
theorem dX3_init_54 : decode cX3_init 54 = .ok (.new 33, 3) := by decide +kernel
theorem dX3_init_57 : decode cX3_init 57 = .ok (.dup, 1) := by decide +kernel
theorem dX3_init_58 : decode cX3_init 58 = .ok (.invokespecial 35, 3) := by decide +kernel
theorem dX3_init_61 : decode cX3_init 61 = .ok (.putfield 36, 3) := by decide +kernel
theorem dX3_init_64 : decode cX3_init 64 = .ok (.aload_n 0, 1) := by decide +kernel
theorem dX3_init_65 : decode cX3_init 65 = .ok (.bipush 16, 2) := by decide +kernel
theorem dX3_init_67 : decode cX3_init 67 = .ok (.newarray .int, 2) := by decide +kernel
theorem dX3_init_69 : decode cX3_init 69 = .ok (.putfield 40, 3) := by decide +kernel
theorem dX3_init_72 : decode cX3_init 72 = .ok (.aload_n 0, 1) := by decide +kernel
theorem dX3_init_73 : decode cX3_init 73 = .ok (.iconst 0, 1) := by decide +kernel
theorem dX3_init_74 : decode cX3_init 74 = .ok (.putfield 44, 3) := by decide +kernel
theorem dX3_init_77 : decode cX3_init 77 = .ok (.aload_n 0, 1) := by decide +kernel
theorem dX3_init_78 : decode cX3_init 78 = .ok (.bipush 7, 2) := by decide +kernel
theorem dX3_init_80 : decode cX3_init 80 = .ok (.newarray .int, 2) := by decide +kernel
theorem dX3_init_82 : decode cX3_init 82 = .ok (.putfield 48, 3) := by decide +kernel
theorem dX3_init_85 : decode cX3_init 85 = .ok (.aload_n 0, 1) := by decide +kernel
theorem dX3_init_86 : decode cX3_init 86 = .ok (.iconst 0, 1) := by decide +kernel
theorem dX3_init_87 : decode cX3_init 87 = .ok (.putfield 51, 3) := by decide +kernel
theorem dX3_init_90 : decode cX3_init 90 = .ok (.return_, 1) := by decide +kernel
theorem dX4_init_0 : decode cX4_init 0 = .ok (.aload_n 0, 1) := by decide +kernel
theorem dX4_init_1 : decode cX4_init 1 = .ok (.invokespecial 1, 3) := by decide +kernel
theorem dX4_init_4 : decode cX4_init 4 = .ok (.aload_n 0, 1) := by decide +kernel
theorem dX4_init_5 : decode cX4_init 5 = .ok (.bipush 7, 2) := by decide +kernel
theorem dX4_init_7 : decode cX4_init 7 = .ok (.newarray .int, 2) := by decide +kernel
theorem dX4_init_9 : decode cX4_init 9 = .ok (.putfield 7, 3) := by decide +kernel
theorem dX4_init_12 : decode cX4_init 12 = .ok (.aload_n 0, 1) := by decide +kernel
theorem dX4_init_13 : decode cX4_init 13 = .ok (.iconst 4, 1) := by decide +kernel
theorem dX4_init_14 : decode cX4_init 14 = .ok (.newarray .int, 2) := by decide +kernel
theorem dX4_init_16 : decode cX4_init 16 = .ok (.putfield 13, 3) := by decide +kernel
theorem dX4_init_19 : decode cX4_init 19 = .ok (.aload_n 0, 1) := by decide +kernel
theorem dX4_init_20 : decode cX4_init 20 = .ok (.bipush 8, 2) := by decide +kernel
theorem dX4_init_22 : decode cX4_init 22 = .ok (.newarray .int, 2) := by decide +kernel
theorem dX4_init_24 : decode cX4_init 24 = .ok (.putfield 16, 3) := by decide +kernel
theorem dX4_init_27 : decode cX4_init 27 = .ok (.aload_n 0, 1) := by decide +kernel
theorem dX4_init_28 : decode cX4_init 28 = .ok (.iconst 3, 1) := by decide +kernel
theorem dX4_init_29 : decode cX4_init 29 = .ok (.putfield 19, 3) := by decide +kernel
theorem dX4_init_32 : decode cX4_init 32 = .ok (.aload_n 0, 1) := by decide +kernel
theorem dX4_init_33 : decode cX4_init 33 = .ok (.ldc 23, 2) := by decide +kernel
theorem dX4_init_35 : decode cX4_init 35 = .ok (.putfield 24, 3) := by decide +kernel
theorem dX4_init_38 : decode cX4_init 38 = .ok (.aload_n 0, 1) := by decide +kernel
theorem dX4_init_39 : decode cX4_init 39 = .ok (.bipush 64, 2) := by decide +kernel
theorem dX4_init_41 : decode cX4_init 41 = .ok (.newarray .int, 2) := by decide +kernel
theorem dX4_init_43 : decode cX4_init 43 = .ok (.putfield 27, 3) := by decide +kernel
theorem dX4_init_46 : decode cX4_init 46 = .ok (.aload_n 0, 1) := by decide +kernel
theorem dX4_init_47 : decode cX4_init 47 = .ok (.bipush 32, 2) := by decide +kernel
theorem dX4_init_49 : decode cX4_init 49 = .ok (.newarray .int, 2) := by decide +kernel
theorem dX4_init_51 : decode cX4_init 51 = .ok (.putfield 30, 3) := by decide +kernel
theorem dX4_init_54 : decode cX4_init 54 = .ok (.aload_n 0, 1) := by decide +kernel
theorem dX4_init_55 : decode cX4_init 55 = .ok (.bipush 32, 2) := by decide +kernel
theorem dX4_init_57 : decode cX4_init 57 = .ok (.newarray .int, 2) := by decide +kernel
theorem dX4_init_59 : decode cX4_init 59 = .ok (.putfield 33, 3) := by decide +kernel
theorem dX4_init_62 : decode cX4_init 62 = .ok (.aload_n 0, 1) := by decide +kernel
theorem dX4_init_63 : decode cX4_init 63 = .ok (.bipush 96, 2) := by decide +kernel
theorem dX4_init_65 : decode cX4_init 65 = .ok (.newarray .int, 2) := by decide +kernel
theorem dX4_init_67 : decode cX4_init 67 = .ok (.putfield 36, 3) := by decide +kernel
theorem dX4_init_70 : decode cX4_init 70 = .ok (.aload_n 0, 1) := by decide +kernel
theorem dX4_init_71 : decode cX4_init 71 = .ok (.bipush 40, 2) := by decide +kernel
theorem dX4_init_73 : decode cX4_init 73 = .ok (.newarray .int, 2) := by decide +kernel
theorem dX4_init_75 : decode cX4_init 75 = .ok (.putfield 39, 3) := by decide +kernel
theorem dX4_init_78 : decode cX4_init 78 = .ok (.aload_n 0, 1) := by decide +kernel
theorem dX4_init_79 : decode cX4_init 79 = .ok (.sipush 144, 3) := by decide +kernel
theorem dX4_init_82 : decode cX4_init 82 = .ok (.newarray .int, 2) := by decide +kernel
theorem dX4_init_84 : decode cX4_init 84 = .ok (.putfield 42, 3) := by decide +kernel
theorem dX4_init_87 : decode cX4_init 87 = .ok (.aload_n 0, 1) := by decide +kernel
theorem dX4_init_88 : decode cX4_init 88 = .ok (.sipush 144, 3) := by decide +kernel
theorem dX4_init_91 : decode cX4_init 91 = .ok (.newarray .int, 2) := by decide +kernel
theorem dX4_init_93 : decode cX4_init 93 = .ok (.putfield 45, 3) := by decide +kernel
theorem dX4_init_96 : decode cX4_init 96 = .ok (.aload_n 0, 1) := by decide +kernel
theorem dX4_init_97 : decode cX4_init 97 = .ok (.bipush 16, 2) := by decide +kernel
theorem dX4_init_99 : decode cX4_init 99 = .ok (.newarray .int, 2) := by decide +kernel
theorem dX4_init_101 : decode cX4_init 101 = .ok (.putfield 48, 3) := by decide +kernel
theorem dX4_init_104 : decode cX4_init 104 = .ok (.aload_n 0, 1) := by decide +kernel
theorem dX4_init_105 : decode cX4_init 105 = .ok (.bipush 8, 2) := by decide +kernel
theorem dX4_init_107 : decode cX4_init 107 = .ok (.newarray .int, 2) := by decide +kernel
theorem dX4_init_109 : decode cX4_init 109 = .ok (.putfield 51, 3) := by decide +kernel
theorem dX4_init_112 : decode cX4_init 112 = .ok (.return_, 1) := by decide +kernel
theorem am_df0 : ∀ j, j < 7 → defaultValue (tyX0 j) = vp_V [.int 0, .int 0, .int 0, .int 0, .int 0, .null, .null] j := by decide +kernel
theorem am_df1 : ∀ j, j < 7 → defaultValue (tyX1 j) = vp_V [.null, .int 0, .int 0, .int 0, .int 0, .int 0, .int 0] j := by decide +kernel
theorem am_df2 : ∀ j, j < 3 → defaultValue (tyX2 j) = vp_V [.null, .null, .int 0] j := by decide +kernel
theorem am_df3 : ∀ j, j < 10 → defaultValue (tyX3 j) = vp_V [.null, .null, .null, .int 0, .null, .null, .null, .int 0, .null, .int 0] j := by decide +kernel
theorem am_df4 : ∀ j, j < 27 → defaultValue (tyX4 j) = vp_V [.null, .null, .null, .int 0, .int 0, .int 0, .int 0, .int 0, .null, .null, .null, .null, .int 0, .int 0, .int 0, .null, .int 0, .int 0, .int 0, .null, .null, .int 0, .null, .null, .int 0, .int 0, .int 0] j := by decide +kernel
theorem am_ib {D : va_G} {cA : ClassId} {h0 sz : Nat} {ws : va_W} : FrameBlind (va_Pc [.ref h0] (fun U => U.heap.size = sz ∧ va_P D vwCl ws U.heap ∧ va_K D vwCl [(cA, .int)] U ∧ va_D (fun _ => True) ws)) := fun a U g mk h => ⟨h.1, h.2.1, h.2.2.1, va_K.moved (u := U) (U := U.calling g mk a) (Vm.Alike.refl U.vm) h.2.2.2.1, h.2.2.2.2⟩
theorem am_ib3 {D : va_G} {cA : ClassId} {h0 sz : Nat} {ws : va_W} : FrameBlind (va_Pc [.ref h0] (fun U => U.heap.size = sz ∧ va_P D vwCl ws U.heap ∧ va_K D vwCl [(cA, .int)] U ∧ va_D (fun _ => True) ws ∧ am_nw U)) := fun a U g mk h => ⟨h.1, h.2.1, h.2.2.1, va_K.moved (u := U) (U := U.calling g mk a) (Vm.Alike.refl U.vm) h.2.2.2.1, h.2.2.2.2.1, h.2.2.2.2.2.same (s := U) (U := U.calling g mk a) rfl⟩

abbrev am_at0 (D : va_G) (cA : ClassId) (A : Nat → Prop) (h0 : Nat) (u : Nat × Nat) (t : State) : Prop := match u with
  | (u0, u1) => va_P D vwCl [(h0, .inr (0, [.int 3, .int 0, .int 0, .int 0, .int 16777215, .ref u0, .ref u1])), (u0, .inl (cA, (4, .inl (fun _ => 0)))), (u1, .inl (cA, (8, .inl (fun _ => 0))))] t.heap ∧ va_K D vwCl [(cA, .int)] t ∧ va_D A [(h0, .inr (0, [.int 3, .int 0, .int 0, .int 0, .int 16777215, .ref u0, .ref u1])), (u0, .inl (cA, (4, .inl (fun _ => 0)))), (u1, .inl (cA, (8, .inl (fun _ => 0))))]
def am_iws0 : List Cond := .code yX0_init cX0_init 1 none :: am_wl
theorem am_iw0 : ∀ w ∈ am_iws0, w ∈ am_wl := fun w hw => by
  rcases List.mem_cons.mp hw with rfl | hw
  · exact am_at.wl (p := 67) (by decide +kernel)
  · exact hw
set_option maxHeartbeats 4000000 in
set_option maxRecDepth 100000 in
theorem c_init0 (l : Launch) (D : va_G) (cA : ClassId) (h0 : Nat) (sz : Nat) : Met l yX0_init am_iws0 ({ frames := 1, cells := 2, slots := 12, locals := 12 }) (va_Pc [.ref h0] (fun U => U.heap.size = sz ∧ va_P D vwCl [(h0, .inr (0, [.int 0, .int 0, .int 0, .int 0, .int 0, .null, .null]))] U.heap ∧ va_K D vwCl [(cA, .int)] U ∧ va_D (fun _ => True) [(h0, .inr (0, [.int 0, .int 0, .int 0, .int 0, .int 0, .null, .null]))])) (va_Qv (fun _ : Nat × Nat => True) (am_at0 D cA (va_A [(h0, .inr (0, [.int 0, .int 0, .int 0, .int 0, .int 0, .null, .null]))] sz) h0) (va_A [(h0, .inr (0, [.int 0, .int 0, .int 0, .int 0, .int 0, .null, .null]))] sz)) 2 12 (va_A [(h0, .inr (0, [.int 0, .int 0, .int 0, .int 0, .int 0, .null, .null]))] sz) := by
  refine Met.ofW (cc := cX0_init) (maxL := 1) (ret := none) (by decide) rfl ?_
  intro p e s m args below meth c s₁ B hml hv
  obtain ⟨rfl, hsz, hP, hK, hD0⟩ := hv
  have hx := B.exec
  have hb := B.bytes
  have hr := B.returns
  have hts := atoms_spec (ws := am_iws0) B.pre
  have hw : ∀ w ∈ am_wl, w.before #[.ref h0] s = true := fun w h => hts w (List.mem_cons_of_mem _ h)
  have hown : s.vm.findClass RX0 = some m.cls := findClass_of_methodNamed B.named
  have hlocks := B.notSynchronized
  have hin : meth.name = "<init>" := (name_of_methodNamed B.named B.method).1
  subst hsz
  have hD := hD0.self (sz := s.heap.size)
  generalize hAe : va_A [(h0, .inr (0, [.int 0, .int 0, .int 0, .int 0, .int 0, .null, .null]))] s.heap.size = A at hD ⊢
  have hA : ∀ q : Nat, s.heap.size ≤ q → A q := fun q h => by rw [← hAe]; exact Or.inr h
  have hS : va_S A s.heap s.heap [] := va_S.rf
  have hP : va_P D vwCl [(h0, .inr (0, [.int 0, .int 0, .int 0, .int 0, .int 0, .null, .null]))] s.heap := hP
  have hl := lv_entry ([.ref h0]) (n := 1) (Nat.le_of_ble_eq_true rfl)
  rw [lg_entry_eq]
  generalize (lg_sl ([.ref h0]) ++ List.replicate (1 - (lg_sl ([.ref h0])).length) Slot.unset).toArray = ls at hl ⊢
  have hl : lv_has ls 1 [(0, .ref h0)] := hl
  refine lv_aload_n hx hb dX0_init_0 rfl (lv_at hl 0 rfl) ?_
  refine W.objInit hx hb hown (hw (.methodLink RX0 3 objectInit) (am_at.wl (p := 68) (by decide +kernel))) (hw (.instanceMethod objectInit) (am_at.wl (p := 61) (by decide +kernel))) (hw (.code objectInit ⟨#[0xb1]⟩ 1 none) (am_at.wl (p := 62) (by decide +kernel))) rfl (by rw [hml]; exact hl.1) rfl dX0_init_1 (Nat.le_of_ble_eq_true rfl) (Nat.le_of_ble_eq_true rfl) ?_
  refine W.eq (g2 := F0 m 4 ls []) rfl ?_
  refine lv_aload_n hx hb dX0_init_4 rfl (lv_at hl 0 rfl) ?_
  refine lv_iconst (v := 3) hx hb dX0_init_5 (by decide +kernel) ?_
  refine va_put (D := D) (ci := 0) (v := .int 3) (ty := .int) (C := RX0) (T := TX0) (N := 7) hx hb hw am_u0 tyX0 tyX0_ok nmX0 hown hK hP hD hS 0 rfl rfl 0 (by decide) (hw (.fieldLink RX0 9 (TX0 0).1 (TX0 0).2.1 (TX0 0).2.2.1) (am_at.wl (p := 70) (by decide +kernel))) (fun _ h9 => h9) rfl (by decide +kernel) rfl rfl (Nat.le_of_ble_eq_true rfl) dX0_init_6 (fun H locs hP hD hS => ?_)
  have hP : va_P D vwCl [(h0, .inr (0, [.int 3, .int 0, .int 0, .int 0, .int 0, .null, .null]))] H := hP
  have hD : va_D A [(h0, .inr (0, [.int 3, .int 0, .int 0, .int 0, .int 0, .null, .null]))] := hD
  refine lv_aload_n hx hb dX0_init_9 rfl (lv_at hl 0 rfl) ?_
  refine lv_iconst (v := 0) hx hb dX0_init_10 (by decide +kernel) ?_
  refine va_put (D := D) (ci := 0) (v := .int 0) (ty := .int) (C := RX0) (T := TX0) (N := 7) hx hb hw am_u0 tyX0 tyX0_ok nmX0 hown hK hP hD hS 0 rfl rfl 1 (by decide) (hw (.fieldLink RX0 15 (TX0 1).1 (TX0 1).2.1 (TX0 1).2.2.1) (am_at.wl (p := 73) (by decide +kernel))) (fun _ h9 => h9) rfl (by decide +kernel) rfl rfl (Nat.le_of_ble_eq_true rfl) dX0_init_11 (fun H locs hP hD hS => ?_)
  have hP : va_P D vwCl [(h0, .inr (0, [.int 3, .int 0, .int 0, .int 0, .int 0, .null, .null]))] H := hP
  have hD : va_D A [(h0, .inr (0, [.int 3, .int 0, .int 0, .int 0, .int 0, .null, .null]))] := hD
  refine lv_aload_n hx hb dX0_init_14 rfl (lv_at hl 0 rfl) ?_
  refine lv_iconst (v := 0) hx hb dX0_init_15 (by decide +kernel) ?_
  refine va_put (D := D) (ci := 0) (v := .int 0) (ty := .int) (C := RX0) (T := TX0) (N := 7) hx hb hw am_u0 tyX0 tyX0_ok nmX0 hown hK hP hD hS 0 rfl rfl 2 (by decide) (hw (.fieldLink RX0 18 (TX0 2).1 (TX0 2).2.1 (TX0 2).2.2.1) (am_at.wl (p := 75) (by decide +kernel))) (fun _ h9 => h9) rfl (by decide +kernel) rfl rfl (Nat.le_of_ble_eq_true rfl) dX0_init_16 (fun H locs hP hD hS => ?_)
  have hP : va_P D vwCl [(h0, .inr (0, [.int 3, .int 0, .int 0, .int 0, .int 0, .null, .null]))] H := hP
  have hD : va_D A [(h0, .inr (0, [.int 3, .int 0, .int 0, .int 0, .int 0, .null, .null]))] := hD
  refine lv_aload_n hx hb dX0_init_19 rfl (lv_at hl 0 rfl) ?_
  refine lv_iconst (v := 0) hx hb dX0_init_20 (by decide +kernel) ?_
  refine va_put (D := D) (ci := 0) (v := .int 0) (ty := .int) (C := RX0) (T := TX0) (N := 7) hx hb hw am_u0 tyX0 tyX0_ok nmX0 hown hK hP hD hS 0 rfl rfl 3 (by decide) (hw (.fieldLink RX0 21 (TX0 3).1 (TX0 3).2.1 (TX0 3).2.2.1) (am_at.wl (p := 77) (by decide +kernel))) (fun _ h9 => h9) rfl (by decide +kernel) rfl rfl (Nat.le_of_ble_eq_true rfl) dX0_init_21 (fun H locs hP hD hS => ?_)
  have hP : va_P D vwCl [(h0, .inr (0, [.int 3, .int 0, .int 0, .int 0, .int 0, .null, .null]))] H := hP
  have hD : va_D A [(h0, .inr (0, [.int 3, .int 0, .int 0, .int 0, .int 0, .null, .null]))] := hD
  refine lv_aload_n hx hb dX0_init_24 rfl (lv_at hl 0 rfl) ?_
  refine lv_ldc (v := 16777215) hx hb hown (hw (.constant RX0 24 16777215) (am_at.wl (p := 69) (by decide +kernel))) dX0_init_25 ?_
  refine va_put (D := D) (ci := 0) (v := .int 16777215) (ty := .int) (C := RX0) (T := TX0) (N := 7) hx hb hw am_u0 tyX0 tyX0_ok nmX0 hown hK hP hD hS 0 rfl rfl 4 (by decide) (hw (.fieldLink RX0 25 (TX0 4).1 (TX0 4).2.1 (TX0 4).2.2.1) (am_at.wl (p := 79) (by decide +kernel))) (fun _ h9 => h9) rfl (by decide +kernel) rfl rfl (Nat.le_of_ble_eq_true rfl) dX0_init_27 (fun H locs hP hD hS => ?_)
  have hP : va_P D vwCl [(h0, .inr (0, [.int 3, .int 0, .int 0, .int 0, .int 16777215, .null, .null]))] H := hP
  have hD : va_D A [(h0, .inr (0, [.int 3, .int 0, .int 0, .int 0, .int 16777215, .null, .null]))] := hD
  refine lv_aload_n hx hb dX0_init_30 rfl (lv_at hl 0 rfl) ?_
  refine lv_iconst (v := 4) hx hb dX0_init_31 (by decide +kernel) ?_
  have h_1 : 0 + 1 ≤ 2 := by decide
  have h_2 : 0 + 4 ≤ 12 := by decide
  refine am_newa (n := 4) hx hb (hw (.arrayClass .int) (am_at.wl (p := 99) (by decide +kernel))) hK hP hD hS hA 4 (by decide +kernel) (by decide +kernel) (by decide) h_1 h_2 dX0_init_32 (fun q32 H hP hD hS => ?_)
  have hP : va_P D vwCl [(h0, .inr (0, [.int 3, .int 0, .int 0, .int 0, .int 16777215, .null, .null])), (q32, .inl (cA, (4, .inl (fun _ => 0))))] H := hP
  have hD : va_D A [(h0, .inr (0, [.int 3, .int 0, .int 0, .int 0, .int 16777215, .null, .null])), (q32, .inl (cA, (4, .inl (fun _ => 0))))] := hD
  refine W.widen (k := 1) (n := 4) (by decide) (by decide) ?_
  refine va_putF (D := D) (ci := 0) (v := .ref q32) (ty := .array .int) (C := RX0) (T := TX0) (N := 7) hx hb hw am_u0 tyX0 tyX0_ok nmX0 hown hK hP hD hS 0 rfl rfl 5 (by decide) (hw (.fieldLink RX0 28 (TX0 5).1 (TX0 5).2.1 (TX0 5).2.2.1) (am_at.wl (p := 81) (by decide +kernel))) (fun _ h9 => h9) rfl hin rfl (by decide +kernel) rfl rfl (Nat.le_of_ble_eq_true rfl) dX0_init_34 (fun H locs hP hD hS => ?_)
  have hP : va_P D vwCl [(h0, .inr (0, [.int 3, .int 0, .int 0, .int 0, .int 16777215, .ref q32, .null])), (q32, .inl (cA, (4, .inl (fun _ => 0))))] H := hP
  have hD : va_D A [(h0, .inr (0, [.int 3, .int 0, .int 0, .int 0, .int 16777215, .ref q32, .null])), (q32, .inl (cA, (4, .inl (fun _ => 0))))] := hD
  refine lv_aload_n hx hb dX0_init_37 rfl (lv_at hl 0 rfl) ?_
  refine lv_bipush (v := 8) hx hb dX0_init_38 (by decide +kernel) ?_
  have h_1 : 1 + 1 ≤ 2 := by decide
  have h_2 : 4 + 8 ≤ 12 := by decide
  refine am_newa (n := 8) hx hb (hw (.arrayClass .int) (am_at.wl (p := 99) (by decide +kernel))) hK hP hD hS hA 8 (by decide +kernel) (by decide +kernel) (by decide) h_1 h_2 dX0_init_40 (fun q40 H hP hD hS => ?_)
  have hP : va_P D vwCl [(h0, .inr (0, [.int 3, .int 0, .int 0, .int 0, .int 16777215, .ref q32, .null])), (q32, .inl (cA, (4, .inl (fun _ => 0)))), (q40, .inl (cA, (8, .inl (fun _ => 0))))] H := hP
  have hD : va_D A [(h0, .inr (0, [.int 3, .int 0, .int 0, .int 0, .int 16777215, .ref q32, .null])), (q32, .inl (cA, (4, .inl (fun _ => 0)))), (q40, .inl (cA, (8, .inl (fun _ => 0))))] := hD
  refine W.widen (k := 2) (n := 12) (by decide) (by decide) ?_
  refine va_putF (D := D) (ci := 0) (v := .ref q40) (ty := .array .int) (C := RX0) (T := TX0) (N := 7) hx hb hw am_u0 tyX0 tyX0_ok nmX0 hown hK hP hD hS 0 rfl rfl 6 (by decide) (hw (.fieldLink RX0 32 (TX0 6).1 (TX0 6).2.1 (TX0 6).2.2.1) (am_at.wl (p := 82) (by decide +kernel))) (fun _ h9 => h9) rfl hin rfl (by decide +kernel) rfl rfl (Nat.le_of_ble_eq_true rfl) dX0_init_42 (fun H locs hP hD hS => ?_)
  have hP : va_P D vwCl [(h0, .inr (0, [.int 3, .int 0, .int 0, .int 0, .int 16777215, .ref q32, .ref q40])), (q32, .inl (cA, (4, .inl (fun _ => 0)))), (q40, .inl (cA, (8, .inl (fun _ => 0))))] H := hP
  have hD : va_D A [(h0, .inr (0, [.int 3, .int 0, .int 0, .int 0, .int 16777215, .ref q32, .ref q40])), (q32, .inl (cA, (4, .inl (fun _ => 0)))), (q40, .inl (cA, (8, .inl (fun _ => 0))))] := hD
  exact W.vret hx hb hr (fun t ht hW => ⟨⟨(q32, q40), rfl, trivial, by rw [ht]; exact hP, va_K.moved hW.alike hK, hD⟩, hS.F ht⟩) hS.2.2 dX0_init_45

abbrev am_at1 (D : va_G) (cA : ClassId) (A : Nat → Prop) (h0 : Nat) (u : Nat) (t : State) : Prop := match u with
  | u0 => va_P D vwCl [(h0, .inr (1, [.ref u0, .int 0, .int 0, .int 0, .int 0, .int 0, .int 0])), (u0, .inl (cA, (64, .inl (fun _ => 0))))] t.heap ∧ va_K D vwCl [(cA, .int)] t ∧ va_D A [(h0, .inr (1, [.ref u0, .int 0, .int 0, .int 0, .int 0, .int 0, .int 0])), (u0, .inl (cA, (64, .inl (fun _ => 0))))]
def am_iws1 : List Cond := .code yX1_init cX1_init 1 none :: am_wl
theorem am_iw1 : ∀ w ∈ am_iws1, w ∈ am_wl := fun w hw => by
  rcases List.mem_cons.mp hw with rfl | hw
  · exact am_at.wl (p := 120) (by decide +kernel)
  · exact hw
set_option maxHeartbeats 4000000 in
set_option maxRecDepth 100000 in
theorem c_init1 (l : Launch) (D : va_G) (cA : ClassId) (h0 : Nat) (sz : Nat) : Met l yX1_init am_iws1 ({ frames := 1, cells := 1, slots := 64, locals := 12 }) (va_Pc [.ref h0] (fun U => U.heap.size = sz ∧ va_P D vwCl [(h0, .inr (1, [.null, .int 0, .int 0, .int 0, .int 0, .int 0, .int 0]))] U.heap ∧ va_K D vwCl [(cA, .int)] U ∧ va_D (fun _ => True) [(h0, .inr (1, [.null, .int 0, .int 0, .int 0, .int 0, .int 0, .int 0]))])) (va_Qv (fun _ : Nat => True) (am_at1 D cA (va_A [(h0, .inr (1, [.null, .int 0, .int 0, .int 0, .int 0, .int 0, .int 0]))] sz) h0) (va_A [(h0, .inr (1, [.null, .int 0, .int 0, .int 0, .int 0, .int 0, .int 0]))] sz)) 1 64 (va_A [(h0, .inr (1, [.null, .int 0, .int 0, .int 0, .int 0, .int 0, .int 0]))] sz) := by
  refine Met.ofW (cc := cX1_init) (maxL := 1) (ret := none) (by decide) rfl ?_
  intro p e s m args below meth c s₁ B hml hv
  obtain ⟨rfl, hsz, hP, hK, hD0⟩ := hv
  have hx := B.exec
  have hb := B.bytes
  have hr := B.returns
  have hts := atoms_spec (ws := am_iws1) B.pre
  have hw : ∀ w ∈ am_wl, w.before #[.ref h0] s = true := fun w h => hts w (List.mem_cons_of_mem _ h)
  have hown : s.vm.findClass RX1 = some m.cls := findClass_of_methodNamed B.named
  have hlocks := B.notSynchronized
  have hin : meth.name = "<init>" := (name_of_methodNamed B.named B.method).1
  subst hsz
  have hD := hD0.self (sz := s.heap.size)
  generalize hAe : va_A [(h0, .inr (1, [.null, .int 0, .int 0, .int 0, .int 0, .int 0, .int 0]))] s.heap.size = A at hD ⊢
  have hA : ∀ q : Nat, s.heap.size ≤ q → A q := fun q h => by rw [← hAe]; exact Or.inr h
  have hS : va_S A s.heap s.heap [] := va_S.rf
  have hP : va_P D vwCl [(h0, .inr (1, [.null, .int 0, .int 0, .int 0, .int 0, .int 0, .int 0]))] s.heap := hP
  have hl := lv_entry ([.ref h0]) (n := 1) (Nat.le_of_ble_eq_true rfl)
  rw [lg_entry_eq]
  generalize (lg_sl ([.ref h0]) ++ List.replicate (1 - (lg_sl ([.ref h0])).length) Slot.unset).toArray = ls at hl ⊢
  have hl : lv_has ls 1 [(0, .ref h0)] := hl
  refine lv_aload_n hx hb dX1_init_0 rfl (lv_at hl 0 rfl) ?_
  refine W.objInit hx hb hown (hw (.methodLink RX1 3 objectInit) (am_at.wl (p := 121) (by decide +kernel))) (hw (.instanceMethod objectInit) (am_at.wl (p := 61) (by decide +kernel))) (hw (.code objectInit ⟨#[0xb1]⟩ 1 none) (am_at.wl (p := 62) (by decide +kernel))) rfl (by rw [hml]; exact hl.1) rfl dX1_init_1 (Nat.le_of_ble_eq_true rfl) (Nat.le_of_ble_eq_true rfl) ?_
  refine W.eq (g2 := F0 m 4 ls []) rfl ?_
  refine lv_aload_n hx hb dX1_init_4 rfl (lv_at hl 0 rfl) ?_
  refine lv_bipush (v := 64) hx hb dX1_init_5 (by decide +kernel) ?_
  have h_1 : 0 + 1 ≤ 1 := by decide
  have h_2 : 0 + 64 ≤ 64 := by decide
  refine am_newa (n := 64) hx hb (hw (.arrayClass .int) (am_at.wl (p := 99) (by decide +kernel))) hK hP hD hS hA 64 (by decide +kernel) (by decide +kernel) (by decide) h_1 h_2 dX1_init_7 (fun q7 H hP hD hS => ?_)
  have hP : va_P D vwCl [(h0, .inr (1, [.null, .int 0, .int 0, .int 0, .int 0, .int 0, .int 0])), (q7, .inl (cA, (64, .inl (fun _ => 0))))] H := hP
  have hD : va_D A [(h0, .inr (1, [.null, .int 0, .int 0, .int 0, .int 0, .int 0, .int 0])), (q7, .inl (cA, (64, .inl (fun _ => 0))))] := hD
  refine W.widen (k := 1) (n := 64) (by decide) (by decide) ?_
  refine va_putF (D := D) (ci := 1) (v := .ref q7) (ty := .array .int) (C := RX1) (T := TX1) (N := 7) hx hb hw am_u1 tyX1 tyX1_ok nmX1 hown hK hP hD hS 0 rfl rfl 0 (by decide) (hw (.fieldLink RX1 9 (TX1 0).1 (TX1 0).2.1 (TX1 0).2.2.1) (am_at.wl (p := 122) (by decide +kernel))) (fun _ h9 => h9) rfl hin rfl (by decide +kernel) rfl rfl (Nat.le_of_ble_eq_true rfl) dX1_init_9 (fun H locs hP hD hS => ?_)
  have hP : va_P D vwCl [(h0, .inr (1, [.ref q7, .int 0, .int 0, .int 0, .int 0, .int 0, .int 0])), (q7, .inl (cA, (64, .inl (fun _ => 0))))] H := hP
  have hD : va_D A [(h0, .inr (1, [.ref q7, .int 0, .int 0, .int 0, .int 0, .int 0, .int 0])), (q7, .inl (cA, (64, .inl (fun _ => 0))))] := hD
  refine lv_aload_n hx hb dX1_init_12 rfl (lv_at hl 0 rfl) ?_
  refine lv_iconst (v := 0) hx hb dX1_init_13 (by decide +kernel) ?_
  refine va_put (D := D) (ci := 1) (v := .int 0) (ty := .int) (C := RX1) (T := TX1) (N := 7) hx hb hw am_u1 tyX1 tyX1_ok nmX1 hown hK hP hD hS 0 rfl rfl 1 (by decide) (hw (.fieldLink RX1 15 (TX1 1).1 (TX1 1).2.1 (TX1 1).2.2.1) (am_at.wl (p := 123) (by decide +kernel))) (fun _ h9 => h9) rfl (by decide +kernel) rfl rfl (Nat.le_of_ble_eq_true rfl) dX1_init_14 (fun H locs hP hD hS => ?_)
  have hP : va_P D vwCl [(h0, .inr (1, [.ref q7, .int 0, .int 0, .int 0, .int 0, .int 0, .int 0])), (q7, .inl (cA, (64, .inl (fun _ => 0))))] H := hP
  have hD : va_D A [(h0, .inr (1, [.ref q7, .int 0, .int 0, .int 0, .int 0, .int 0, .int 0])), (q7, .inl (cA, (64, .inl (fun _ => 0))))] := hD
  refine lv_aload_n hx hb dX1_init_17 rfl (lv_at hl 0 rfl) ?_
  refine lv_iconst (v := 0) hx hb dX1_init_18 (by decide +kernel) ?_
  refine va_put (D := D) (ci := 1) (v := .int 0) (ty := .int) (C := RX1) (T := TX1) (N := 7) hx hb hw am_u1 tyX1 tyX1_ok nmX1 hown hK hP hD hS 0 rfl rfl 2 (by decide) (hw (.fieldLink RX1 19 (TX1 2).1 (TX1 2).2.1 (TX1 2).2.2.1) (am_at.wl (p := 125) (by decide +kernel))) (fun _ h9 => h9) rfl (by decide +kernel) rfl rfl (Nat.le_of_ble_eq_true rfl) dX1_init_19 (fun H locs hP hD hS => ?_)
  have hP : va_P D vwCl [(h0, .inr (1, [.ref q7, .int 0, .int 0, .int 0, .int 0, .int 0, .int 0])), (q7, .inl (cA, (64, .inl (fun _ => 0))))] H := hP
  have hD : va_D A [(h0, .inr (1, [.ref q7, .int 0, .int 0, .int 0, .int 0, .int 0, .int 0])), (q7, .inl (cA, (64, .inl (fun _ => 0))))] := hD
  refine lv_aload_n hx hb dX1_init_22 rfl (lv_at hl 0 rfl) ?_
  refine lv_iconst (v := 0) hx hb dX1_init_23 (by decide +kernel) ?_
  refine va_put (D := D) (ci := 1) (v := .int 0) (ty := .int) (C := RX1) (T := TX1) (N := 7) hx hb hw am_u1 tyX1 tyX1_ok nmX1 hown hK hP hD hS 0 rfl rfl 3 (by decide) (hw (.fieldLink RX1 22 (TX1 3).1 (TX1 3).2.1 (TX1 3).2.2.1) (am_at.wl (p := 126) (by decide +kernel))) (fun _ h9 => h9) rfl (by decide +kernel) rfl rfl (Nat.le_of_ble_eq_true rfl) dX1_init_24 (fun H locs hP hD hS => ?_)
  have hP : va_P D vwCl [(h0, .inr (1, [.ref q7, .int 0, .int 0, .int 0, .int 0, .int 0, .int 0])), (q7, .inl (cA, (64, .inl (fun _ => 0))))] H := hP
  have hD : va_D A [(h0, .inr (1, [.ref q7, .int 0, .int 0, .int 0, .int 0, .int 0, .int 0])), (q7, .inl (cA, (64, .inl (fun _ => 0))))] := hD
  refine lv_aload_n hx hb dX1_init_27 rfl (lv_at hl 0 rfl) ?_
  refine lv_iconst (v := 0) hx hb dX1_init_28 (by decide +kernel) ?_
  refine va_put (D := D) (ci := 1) (v := .int 0) (ty := .int) (C := RX1) (T := TX1) (N := 7) hx hb hw am_u1 tyX1 tyX1_ok nmX1 hown hK hP hD hS 0 rfl rfl 4 (by decide) (hw (.fieldLink RX1 25 (TX1 4).1 (TX1 4).2.1 (TX1 4).2.2.1) (am_at.wl (p := 127) (by decide +kernel))) (fun _ h9 => h9) rfl (by decide +kernel) rfl rfl (Nat.le_of_ble_eq_true rfl) dX1_init_29 (fun H locs hP hD hS => ?_)
  have hP : va_P D vwCl [(h0, .inr (1, [.ref q7, .int 0, .int 0, .int 0, .int 0, .int 0, .int 0])), (q7, .inl (cA, (64, .inl (fun _ => 0))))] H := hP
  have hD : va_D A [(h0, .inr (1, [.ref q7, .int 0, .int 0, .int 0, .int 0, .int 0, .int 0])), (q7, .inl (cA, (64, .inl (fun _ => 0))))] := hD
  refine lv_aload_n hx hb dX1_init_32 rfl (lv_at hl 0 rfl) ?_
  refine lv_iconst (v := 0) hx hb dX1_init_33 (by decide +kernel) ?_
  refine va_put (D := D) (ci := 1) (v := .int 0) (ty := .int) (C := RX1) (T := TX1) (N := 7) hx hb hw am_u1 tyX1 tyX1_ok nmX1 hown hK hP hD hS 0 rfl rfl 5 (by decide) (hw (.fieldLink RX1 28 (TX1 5).1 (TX1 5).2.1 (TX1 5).2.2.1) (am_at.wl (p := 128) (by decide +kernel))) (fun _ h9 => h9) rfl (by decide +kernel) rfl rfl (Nat.le_of_ble_eq_true rfl) dX1_init_34 (fun H locs hP hD hS => ?_)
  have hP : va_P D vwCl [(h0, .inr (1, [.ref q7, .int 0, .int 0, .int 0, .int 0, .int 0, .int 0])), (q7, .inl (cA, (64, .inl (fun _ => 0))))] H := hP
  have hD : va_D A [(h0, .inr (1, [.ref q7, .int 0, .int 0, .int 0, .int 0, .int 0, .int 0])), (q7, .inl (cA, (64, .inl (fun _ => 0))))] := hD
  refine lv_aload_n hx hb dX1_init_37 rfl (lv_at hl 0 rfl) ?_
  refine lv_iconst (v := 0) hx hb dX1_init_38 (by decide +kernel) ?_
  refine va_put (D := D) (ci := 1) (v := .int 0) (ty := .int) (C := RX1) (T := TX1) (N := 7) hx hb hw am_u1 tyX1 tyX1_ok nmX1 hown hK hP hD hS 0 rfl rfl 6 (by decide) (hw (.fieldLink RX1 31 (TX1 6).1 (TX1 6).2.1 (TX1 6).2.2.1) (am_at.wl (p := 129) (by decide +kernel))) (fun _ h9 => h9) rfl (by decide +kernel) rfl rfl (Nat.le_of_ble_eq_true rfl) dX1_init_39 (fun H locs hP hD hS => ?_)
  have hP : va_P D vwCl [(h0, .inr (1, [.ref q7, .int 0, .int 0, .int 0, .int 0, .int 0, .int 0])), (q7, .inl (cA, (64, .inl (fun _ => 0))))] H := hP
  have hD : va_D A [(h0, .inr (1, [.ref q7, .int 0, .int 0, .int 0, .int 0, .int 0, .int 0])), (q7, .inl (cA, (64, .inl (fun _ => 0))))] := hD
  exact W.vret hx hb hr (fun t ht hW => ⟨⟨q7, rfl, trivial, by rw [ht]; exact hP, va_K.moved hW.alike hK, hD⟩, hS.F ht⟩) hS.2.2 dX1_init_42

abbrev am_at2 (D : va_G) (cA : ClassId) (A : Nat → Prop) (h0 : Nat) (u : Nat × Nat) (t : State) : Prop := match u with
  | (u0, u1) => va_P D vwCl [(h0, .inr (2, [.ref u0, .ref u1, .int 0])), (u0, .inl (cA, (144, .inl (fun _ => 0)))), (u1, .inl (cA, (144, .inl (fun _ => 0))))] t.heap ∧ va_K D vwCl [(cA, .int)] t ∧ va_D A [(h0, .inr (2, [.ref u0, .ref u1, .int 0])), (u0, .inl (cA, (144, .inl (fun _ => 0)))), (u1, .inl (cA, (144, .inl (fun _ => 0))))]
def am_iws2 : List Cond := .code yX2_init cX2_init 1 none :: am_wl
theorem am_iw2 : ∀ w ∈ am_iws2, w ∈ am_wl := fun w hw => by
  rcases List.mem_cons.mp hw with rfl | hw
  · exact am_at.wl (p := 104) (by decide +kernel)
  · exact hw
set_option maxHeartbeats 4000000 in
set_option maxRecDepth 100000 in
theorem c_init2 (l : Launch) (D : va_G) (cA : ClassId) (h0 : Nat) (sz : Nat) : Met l yX2_init am_iws2 ({ frames := 1, cells := 2, slots := 288, locals := 12 }) (va_Pc [.ref h0] (fun U => U.heap.size = sz ∧ va_P D vwCl [(h0, .inr (2, [.null, .null, .int 0]))] U.heap ∧ va_K D vwCl [(cA, .int)] U ∧ va_D (fun _ => True) [(h0, .inr (2, [.null, .null, .int 0]))])) (va_Qv (fun _ : Nat × Nat => True) (am_at2 D cA (va_A [(h0, .inr (2, [.null, .null, .int 0]))] sz) h0) (va_A [(h0, .inr (2, [.null, .null, .int 0]))] sz)) 2 288 (va_A [(h0, .inr (2, [.null, .null, .int 0]))] sz) := by
  refine Met.ofW (cc := cX2_init) (maxL := 1) (ret := none) (by decide) rfl ?_
  intro p e s m args below meth c s₁ B hml hv
  obtain ⟨rfl, hsz, hP, hK, hD0⟩ := hv
  have hx := B.exec
  have hb := B.bytes
  have hr := B.returns
  have hts := atoms_spec (ws := am_iws2) B.pre
  have hw : ∀ w ∈ am_wl, w.before #[.ref h0] s = true := fun w h => hts w (List.mem_cons_of_mem _ h)
  have hown : s.vm.findClass RX2 = some m.cls := findClass_of_methodNamed B.named
  have hlocks := B.notSynchronized
  have hin : meth.name = "<init>" := (name_of_methodNamed B.named B.method).1
  subst hsz
  have hD := hD0.self (sz := s.heap.size)
  generalize hAe : va_A [(h0, .inr (2, [.null, .null, .int 0]))] s.heap.size = A at hD ⊢
  have hA : ∀ q : Nat, s.heap.size ≤ q → A q := fun q h => by rw [← hAe]; exact Or.inr h
  have hS : va_S A s.heap s.heap [] := va_S.rf
  have hP : va_P D vwCl [(h0, .inr (2, [.null, .null, .int 0]))] s.heap := hP
  have hl := lv_entry ([.ref h0]) (n := 1) (Nat.le_of_ble_eq_true rfl)
  rw [lg_entry_eq]
  generalize (lg_sl ([.ref h0]) ++ List.replicate (1 - (lg_sl ([.ref h0])).length) Slot.unset).toArray = ls at hl ⊢
  have hl : lv_has ls 1 [(0, .ref h0)] := hl
  refine lv_aload_n hx hb dX2_init_0 rfl (lv_at hl 0 rfl) ?_
  refine W.objInit hx hb hown (hw (.methodLink RX2 3 objectInit) (am_at.wl (p := 105) (by decide +kernel))) (hw (.instanceMethod objectInit) (am_at.wl (p := 61) (by decide +kernel))) (hw (.code objectInit ⟨#[0xb1]⟩ 1 none) (am_at.wl (p := 62) (by decide +kernel))) rfl (by rw [hml]; exact hl.1) rfl dX2_init_1 (Nat.le_of_ble_eq_true rfl) (Nat.le_of_ble_eq_true rfl) ?_
  refine W.eq (g2 := F0 m 4 ls []) rfl ?_
  refine lv_aload_n hx hb dX2_init_4 rfl (lv_at hl 0 rfl) ?_
  refine lv_sipush (v := 144) hx hb dX2_init_5 (by decide +kernel) ?_
  have h_1 : 0 + 1 ≤ 2 := by decide
  have h_2 : 0 + 144 ≤ 288 := by decide
  refine am_newa (n := 144) hx hb (hw (.arrayClass .int) (am_at.wl (p := 99) (by decide +kernel))) hK hP hD hS hA 144 (by decide +kernel) (by decide +kernel) (by decide) h_1 h_2 dX2_init_8 (fun q8 H hP hD hS => ?_)
  have hP : va_P D vwCl [(h0, .inr (2, [.null, .null, .int 0])), (q8, .inl (cA, (144, .inl (fun _ => 0))))] H := hP
  have hD : va_D A [(h0, .inr (2, [.null, .null, .int 0])), (q8, .inl (cA, (144, .inl (fun _ => 0))))] := hD
  refine W.widen (k := 1) (n := 144) (by decide) (by decide) ?_
  refine va_putF (D := D) (ci := 2) (v := .ref q8) (ty := .array .int) (C := RX2) (T := TX2) (N := 3) hx hb hw am_u2 tyX2 tyX2_ok nmX2 hown hK hP hD hS 0 rfl rfl 0 (by decide) (hw (.fieldLink RX2 9 (TX2 0).1 (TX2 0).2.1 (TX2 0).2.2.1) (am_at.wl (p := 106) (by decide +kernel))) (fun _ h9 => h9) rfl hin rfl (by decide +kernel) rfl rfl (Nat.le_of_ble_eq_true rfl) dX2_init_10 (fun H locs hP hD hS => ?_)
  have hP : va_P D vwCl [(h0, .inr (2, [.ref q8, .null, .int 0])), (q8, .inl (cA, (144, .inl (fun _ => 0))))] H := hP
  have hD : va_D A [(h0, .inr (2, [.ref q8, .null, .int 0])), (q8, .inl (cA, (144, .inl (fun _ => 0))))] := hD
  refine lv_aload_n hx hb dX2_init_13 rfl (lv_at hl 0 rfl) ?_
  refine lv_sipush (v := 144) hx hb dX2_init_14 (by decide +kernel) ?_
  have h_1 : 1 + 1 ≤ 2 := by decide
  have h_2 : 144 + 144 ≤ 288 := by decide
  refine am_newa (n := 144) hx hb (hw (.arrayClass .int) (am_at.wl (p := 99) (by decide +kernel))) hK hP hD hS hA 144 (by decide +kernel) (by decide +kernel) (by decide) h_1 h_2 dX2_init_17 (fun q17 H hP hD hS => ?_)
  have hP : va_P D vwCl [(h0, .inr (2, [.ref q8, .null, .int 0])), (q8, .inl (cA, (144, .inl (fun _ => 0)))), (q17, .inl (cA, (144, .inl (fun _ => 0))))] H := hP
  have hD : va_D A [(h0, .inr (2, [.ref q8, .null, .int 0])), (q8, .inl (cA, (144, .inl (fun _ => 0)))), (q17, .inl (cA, (144, .inl (fun _ => 0))))] := hD
  refine W.widen (k := 2) (n := 288) (by decide) (by decide) ?_
  refine va_putF (D := D) (ci := 2) (v := .ref q17) (ty := .array .int) (C := RX2) (T := TX2) (N := 3) hx hb hw am_u2 tyX2 tyX2_ok nmX2 hown hK hP hD hS 0 rfl rfl 1 (by decide) (hw (.fieldLink RX2 15 (TX2 1).1 (TX2 1).2.1 (TX2 1).2.2.1) (am_at.wl (p := 107) (by decide +kernel))) (fun _ h9 => h9) rfl hin rfl (by decide +kernel) rfl rfl (Nat.le_of_ble_eq_true rfl) dX2_init_19 (fun H locs hP hD hS => ?_)
  have hP : va_P D vwCl [(h0, .inr (2, [.ref q8, .ref q17, .int 0])), (q8, .inl (cA, (144, .inl (fun _ => 0)))), (q17, .inl (cA, (144, .inl (fun _ => 0))))] H := hP
  have hD : va_D A [(h0, .inr (2, [.ref q8, .ref q17, .int 0])), (q8, .inl (cA, (144, .inl (fun _ => 0)))), (q17, .inl (cA, (144, .inl (fun _ => 0))))] := hD
  refine lv_aload_n hx hb dX2_init_22 rfl (lv_at hl 0 rfl) ?_
  refine lv_iconst (v := 0) hx hb dX2_init_23 (by decide +kernel) ?_
  refine va_put (D := D) (ci := 2) (v := .int 0) (ty := .int) (C := RX2) (T := TX2) (N := 3) hx hb hw am_u2 tyX2 tyX2_ok nmX2 hown hK hP hD hS 0 rfl rfl 2 (by decide) (hw (.fieldLink RX2 18 (TX2 2).1 (TX2 2).2.1 (TX2 2).2.2.1) (am_at.wl (p := 108) (by decide +kernel))) (fun _ h9 => h9) rfl (by decide +kernel) rfl rfl (Nat.le_of_ble_eq_true rfl) dX2_init_24 (fun H locs hP hD hS => ?_)
  have hP : va_P D vwCl [(h0, .inr (2, [.ref q8, .ref q17, .int 0])), (q8, .inl (cA, (144, .inl (fun _ => 0)))), (q17, .inl (cA, (144, .inl (fun _ => 0))))] H := hP
  have hD : va_D A [(h0, .inr (2, [.ref q8, .ref q17, .int 0])), (q8, .inl (cA, (144, .inl (fun _ => 0)))), (q17, .inl (cA, (144, .inl (fun _ => 0))))] := hD
  exact W.vret hx hb hr (fun t ht hW => ⟨⟨(q8, q17), rfl, trivial, by rw [ht]; exact hP, va_K.moved hW.alike hK, hD⟩, hS.F ht⟩) hS.2.2 dX2_init_27

abbrev am_at3 (D : va_G) (cA : ClassId) (A : Nat → Prop) (h0 : Nat) (u : Nat × Nat × Nat × Nat × Nat × Nat × Nat × Nat × Nat × Nat × Nat × Nat × Nat × Nat × Nat × Nat) (t : State) : Prop := match u with
  | (u0, u1, u2, u3, u4, u5, u6, u7, u8, u9, u10, u11, u12, u13, u14, u15) => va_P D vwCl [(h0, .inr (3, [.ref u0, .ref u3, .ref u6, .int 0, .ref u9, .ref u12, .ref u14, .int 0, .ref u15, .int 0])), (u0, .inr (0, [.int 3, .int 0, .int 0, .int 0, .int 16777215, .ref u1, .ref u2])), (u1, .inl (cA, (4, .inl (fun _ => 0)))), (u2, .inl (cA, (8, .inl (fun _ => 0)))), (u3, .inr (0, [.int 3, .int 0, .int 0, .int 0, .int 16777215, .ref u4, .ref u5])), (u4, .inl (cA, (4, .inl (fun _ => 0)))), (u5, .inl (cA, (8, .inl (fun _ => 0)))), (u6, .inr (0, [.int 3, .int 0, .int 0, .int 0, .int 16777215, .ref u7, .ref u8])), (u7, .inl (cA, (4, .inl (fun _ => 0)))), (u8, .inl (cA, (8, .inl (fun _ => 0)))), (u9, .inr (2, [.ref u10, .ref u11, .int 0])), (u10, .inl (cA, (144, .inl (fun _ => 0)))), (u11, .inl (cA, (144, .inl (fun _ => 0)))), (u12, .inr (1, [.ref u13, .int 0, .int 0, .int 0, .int 0, .int 0, .int 0])), (u13, .inl (cA, (64, .inl (fun _ => 0)))), (u14, .inl (cA, (16, .inl (fun _ => 0)))), (u15, .inl (cA, (7, .inl (fun _ => 0))))] t.heap ∧ va_K D vwCl [(cA, .int)] t ∧ va_D A [(h0, .inr (3, [.ref u0, .ref u3, .ref u6, .int 0, .ref u9, .ref u12, .ref u14, .int 0, .ref u15, .int 0])), (u0, .inr (0, [.int 3, .int 0, .int 0, .int 0, .int 16777215, .ref u1, .ref u2])), (u1, .inl (cA, (4, .inl (fun _ => 0)))), (u2, .inl (cA, (8, .inl (fun _ => 0)))), (u3, .inr (0, [.int 3, .int 0, .int 0, .int 0, .int 16777215, .ref u4, .ref u5])), (u4, .inl (cA, (4, .inl (fun _ => 0)))), (u5, .inl (cA, (8, .inl (fun _ => 0)))), (u6, .inr (0, [.int 3, .int 0, .int 0, .int 0, .int 16777215, .ref u7, .ref u8])), (u7, .inl (cA, (4, .inl (fun _ => 0)))), (u8, .inl (cA, (8, .inl (fun _ => 0)))), (u9, .inr (2, [.ref u10, .ref u11, .int 0])), (u10, .inl (cA, (144, .inl (fun _ => 0)))), (u11, .inl (cA, (144, .inl (fun _ => 0)))), (u12, .inr (1, [.ref u13, .int 0, .int 0, .int 0, .int 0, .int 0, .int 0])), (u13, .inl (cA, (64, .inl (fun _ => 0)))), (u14, .inl (cA, (16, .inl (fun _ => 0)))), (u15, .inl (cA, (7, .inl (fun _ => 0))))]
def am_iws3 : List Cond := .code yX3_init cX3_init 1 none :: am_wl
theorem am_iw3 : ∀ w ∈ am_iws3, w ∈ am_wl := fun w hw => by
  rcases List.mem_cons.mp hw with rfl | hw
  · exact am_at.wl (p := 59) (by decide +kernel)
  · exact hw
set_option maxHeartbeats 4000000 in
set_option maxRecDepth 100000 in
theorem c_init3 (l : Launch) (D : va_G) (cA : ClassId) (h0 : Nat) (sz : Nat) : Met l yX3_init am_iws3 ({ frames := 2, cells := 16, slots := 442, locals := 32 }) (va_Pc [.ref h0] (fun U => U.heap.size = sz ∧ va_P D vwCl [(h0, .inr (3, [.null, .null, .null, .int 0, .null, .null, .null, .int 0, .null, .int 0]))] U.heap ∧ va_K D vwCl [(cA, .int)] U ∧ va_D (fun _ => True) [(h0, .inr (3, [.null, .null, .null, .int 0, .null, .null, .null, .int 0, .null, .int 0]))] ∧ am_nw U)) (va_Qv (fun _ : Nat × Nat × Nat × Nat × Nat × Nat × Nat × Nat × Nat × Nat × Nat × Nat × Nat × Nat × Nat × Nat => True) (am_at3 D cA (va_A [(h0, .inr (3, [.null, .null, .null, .int 0, .null, .null, .null, .int 0, .null, .int 0]))] sz) h0) (va_A [(h0, .inr (3, [.null, .null, .null, .int 0, .null, .null, .null, .int 0, .null, .int 0]))] sz)) 16 442 (va_A [(h0, .inr (3, [.null, .null, .null, .int 0, .null, .null, .null, .int 0, .null, .int 0]))] sz) := by
  refine Met.ofW (cc := cX3_init) (maxL := 1) (ret := none) (by decide) rfl ?_
  intro p e s m args below meth c s₁ B hml hv
  obtain ⟨rfl, hsz, hP, hK, hD0, hN⟩ := hv
  have hx := B.exec
  have hb := B.bytes
  have hr := B.returns
  have hts := atoms_spec (ws := am_iws3) B.pre
  have hw : ∀ w ∈ am_wl, w.before #[.ref h0] s = true := fun w h => hts w (List.mem_cons_of_mem _ h)
  have hown : s.vm.findClass RX3 = some m.cls := findClass_of_methodNamed B.named
  have hlocks := B.notSynchronized
  have hin : meth.name = "<init>" := (name_of_methodNamed B.named B.method).1
  subst hsz
  have hD := hD0.self (sz := s.heap.size)
  generalize hAe : va_A [(h0, .inr (3, [.null, .null, .null, .int 0, .null, .null, .null, .int 0, .null, .int 0]))] s.heap.size = A at hD ⊢
  have hA : ∀ q : Nat, s.heap.size ≤ q → A q := fun q h => by rw [← hAe]; exact Or.inr h
  have hS : va_S A s.heap s.heap [] := va_S.rf
  have hP : va_P D vwCl [(h0, .inr (3, [.null, .null, .null, .int 0, .null, .null, .null, .int 0, .null, .int 0]))] s.heap := hP
  have hl := lv_entry ([.ref h0]) (n := 1) (Nat.le_of_ble_eq_true rfl)
  rw [lg_entry_eq]
  generalize (lg_sl ([.ref h0]) ++ List.replicate (1 - (lg_sl ([.ref h0])).length) Slot.unset).toArray = ls at hl ⊢
  have hl : lv_has ls 1 [(0, .ref h0)] := hl
  refine lv_aload_n hx hb dX3_init_0 rfl (lv_at hl 0 rfl) ?_
  refine W.objInit hx hb hown (hw (.methodLink RX3 3 objectInit) (am_at.wl (p := 60) (by decide +kernel))) (hw (.instanceMethod objectInit) (am_at.wl (p := 61) (by decide +kernel))) (hw (.code objectInit ⟨#[0xb1]⟩ 1 none) (am_at.wl (p := 62) (by decide +kernel))) rfl (by rw [hml]; exact hl.1) rfl dX3_init_1 (Nat.le_of_ble_eq_true rfl) (Nat.le_of_ble_eq_true rfl) ?_
  refine W.eq (g2 := F0 m 4 ls []) rfl ?_
  refine lv_aload_n hx hb dX3_init_4 rfl (lv_at hl 0 rfl) ?_
  have h_1 : 0 + 1 ≤ 16 := by decide
  have h_2 : 0 + 7 ≤ 442 := by decide
  refine va_new (ci := 0) (fs := [.int 0, .int 0, .int 0, .int 0, .int 0, .null, .null]) (C := RX0) (T := TX0) (N := 7) hx hb hw am_u0 tyX0 tyX0_ok hown (hw (.classLink RX3 9 RX0) (am_at.wl (p := 63) (by decide +kernel))) (hw (.instantiable RX0 7) (am_at.wl (p := 64) (by decide +kernel))) (hw (.initialized RX0) (am_at.wl (p := 49) (by decide +kernel))) hK hP hD hS hA rfl (fun j hj => am_df0 j hj) h_1 h_2 dX3_init_5 (fun q5 H hP hD hS => ?_)
  have hP : va_P D vwCl [(h0, .inr (3, [.null, .null, .null, .int 0, .null, .null, .null, .int 0, .null, .int 0])), (q5, .inr (0, [.int 0, .int 0, .int 0, .int 0, .int 0, .null, .null]))] H := hP
  have hD : va_D A [(h0, .inr (3, [.null, .null, .null, .int 0, .null, .null, .null, .int 0, .null, .int 0])), (q5, .inr (0, [.int 0, .int 0, .int 0, .int 0, .int 0, .null, .null]))] := hD
  refine W.widen (k := 1) (n := 7) (by decide) (by decide) ?_
  refine lv_dup hx hb dX3_init_8 rfl ?_
  have hPc := hP.sub (ws' := [(q5, .inr (0, [.int 0, .int 0, .int 0, .int 0, .int 0, .null, .null]))]) [1] rfl
  have hDc := hD.sub (ws' := [(q5, .inr (0, [.int 0, .int 0, .int 0, .int 0, .int 0, .null, .null]))]) [1] (by decide) rfl
  have hFc := va_free (wc := [(q5, .inr (0, [.int 0, .int 0, .int 0, .int 0, .int 0, .null, .null]))]) hD hS hA [1] rfl
  have hkc : 1 + 2 ≤ 16 := by decide
  have hks : 7 + 12 ≤ 442 := by decide
  refine va_callv (va_runIN (As := []) (rest := [.ref q5, .ref h0]) ⟨hx, hb, hml, hown, hw⟩ (c_init0 l D cA q5 H.size) ⟨va_cnB (host := RX3) 0 hw (am_good (fun w hw9 => am_iw0 w hw9)) rfl rfl rfl (hN.1 RX3 11 yX0_init RX3 (List.mem_of_getElem? (i := 65) (by decide +kernel))) (hw (.initialized RX0) (am_at.wl (p := 49) (by decide +kernel))) (by decide +kernel) ⟨Nat.le_of_ble_eq_true rfl, Nat.le_of_ble_eq_true rfl⟩, rfl, (hw (.instanceMethod yX0_init) (am_at.wl (p := 66) (by decide +kernel)))⟩ ⟨am_ib, fun U hU hW => ⟨rfl, by rw [hU], by rw [hU]; exact hPc, va_K.moved hW.alike hK, hDc.weaken (fun _ _ _ _ => trivial)⟩⟩ rfl rfl hl.1 rfl (lv_room (Nat.le_of_ble_eq_true rfl)) dX3_init_9 ⟨hkc, hks⟩) hS (fun q _ h => hFc q h) hFc (fun u t H1 locs ht hvm hw9 hB hz1 hk1 hS => ?_)
  obtain ⟨q5a, q5b⟩ := u
  obtain ⟨hP1, hK1, hD1⟩ := hB
  rw [ht] at hP1
  obtain ⟨hP, hD⟩ := va_join (wr := [(h0, .inr (3, [.null, .null, .null, .int 0, .null, .null, .null, .int 0, .null, .int 0]))]) (w1 := [(q5, .inr (0, [.int 3, .int 0, .int 0, .int 0, .int 16777215, .ref q5a, .ref q5b])), (q5a, .inl (cA, (4, .inl (fun _ => 0)))), (q5b, .inl (cA, (8, .inl (fun _ => 0))))]) hP hD [1] [0] rfl rfl (by decide) (by decide) hk1 hFc hP1 hD1
  generalize H1 = H at hP hS ⊢
  have hP : va_P D vwCl [(h0, .inr (3, [.null, .null, .null, .int 0, .null, .null, .null, .int 0, .null, .int 0])), (q5, .inr (0, [.int 3, .int 0, .int 0, .int 0, .int 16777215, .ref q5a, .ref q5b])), (q5a, .inl (cA, (4, .inl (fun _ => 0)))), (q5b, .inl (cA, (8, .inl (fun _ => 0))))] H := hP
  have hD : va_D A [(h0, .inr (3, [.null, .null, .null, .int 0, .null, .null, .null, .int 0, .null, .int 0])), (q5, .inr (0, [.int 3, .int 0, .int 0, .int 0, .int 16777215, .ref q5a, .ref q5b])), (q5a, .inl (cA, (4, .inl (fun _ => 0)))), (q5b, .inl (cA, (8, .inl (fun _ => 0))))] := hD
  refine W.widen (k := 3) (n := 19) (by decide) (by decide) ?_
  refine va_putF (D := D) (ci := 3) (v := .ref q5) (ty := .object "ArmsAlongBeam$Stand") (C := RX3) (T := TX3) (N := 10) hx hb hw am_u3 tyX3 tyX3_ok nmX3 hown hK hP hD hS 0 rfl rfl 0 (by decide) (hw (.fieldLink RX3 12 (TX3 0).1 (TX3 0).2.1 (TX3 0).2.2.1) (am_at.wl (p := 145) (by decide +kernel))) (fun _ h9 => h9) rfl hin rfl (by decide +kernel) rfl rfl (Nat.le_of_ble_eq_true rfl) dX3_init_12 (fun H locs hP hD hS => ?_)
  have hP : va_P D vwCl [(h0, .inr (3, [.ref q5, .null, .null, .int 0, .null, .null, .null, .int 0, .null, .int 0])), (q5, .inr (0, [.int 3, .int 0, .int 0, .int 0, .int 16777215, .ref q5a, .ref q5b])), (q5a, .inl (cA, (4, .inl (fun _ => 0)))), (q5b, .inl (cA, (8, .inl (fun _ => 0))))] H := hP
  have hD : va_D A [(h0, .inr (3, [.ref q5, .null, .null, .int 0, .null, .null, .null, .int 0, .null, .int 0])), (q5, .inr (0, [.int 3, .int 0, .int 0, .int 0, .int 16777215, .ref q5a, .ref q5b])), (q5a, .inl (cA, (4, .inl (fun _ => 0)))), (q5b, .inl (cA, (8, .inl (fun _ => 0))))] := hD
  refine lv_aload_n hx hb dX3_init_15 rfl (lv_at hl 0 rfl) ?_
  have h_1 : 3 + 1 ≤ 16 := by decide
  have h_2 : 19 + 7 ≤ 442 := by decide
  refine va_new (ci := 0) (fs := [.int 0, .int 0, .int 0, .int 0, .int 0, .null, .null]) (C := RX0) (T := TX0) (N := 7) hx hb hw am_u0 tyX0 tyX0_ok hown (hw (.classLink RX3 9 RX0) (am_at.wl (p := 63) (by decide +kernel))) (hw (.instantiable RX0 7) (am_at.wl (p := 64) (by decide +kernel))) (hw (.initialized RX0) (am_at.wl (p := 49) (by decide +kernel))) hK hP hD hS hA rfl (fun j hj => am_df0 j hj) h_1 h_2 dX3_init_16 (fun q16 H hP hD hS => ?_)
  have hP : va_P D vwCl [(h0, .inr (3, [.ref q5, .null, .null, .int 0, .null, .null, .null, .int 0, .null, .int 0])), (q5, .inr (0, [.int 3, .int 0, .int 0, .int 0, .int 16777215, .ref q5a, .ref q5b])), (q5a, .inl (cA, (4, .inl (fun _ => 0)))), (q5b, .inl (cA, (8, .inl (fun _ => 0)))), (q16, .inr (0, [.int 0, .int 0, .int 0, .int 0, .int 0, .null, .null]))] H := hP
  have hD : va_D A [(h0, .inr (3, [.ref q5, .null, .null, .int 0, .null, .null, .null, .int 0, .null, .int 0])), (q5, .inr (0, [.int 3, .int 0, .int 0, .int 0, .int 16777215, .ref q5a, .ref q5b])), (q5a, .inl (cA, (4, .inl (fun _ => 0)))), (q5b, .inl (cA, (8, .inl (fun _ => 0)))), (q16, .inr (0, [.int 0, .int 0, .int 0, .int 0, .int 0, .null, .null]))] := hD
  refine W.widen (k := 4) (n := 26) (by decide) (by decide) ?_
  refine lv_dup hx hb dX3_init_19 rfl ?_
  have hPc := hP.sub (ws' := [(q16, .inr (0, [.int 0, .int 0, .int 0, .int 0, .int 0, .null, .null]))]) [4] rfl
  have hDc := hD.sub (ws' := [(q16, .inr (0, [.int 0, .int 0, .int 0, .int 0, .int 0, .null, .null]))]) [4] (by decide) rfl
  have hFc := va_free (wc := [(q16, .inr (0, [.int 0, .int 0, .int 0, .int 0, .int 0, .null, .null]))]) hD hS hA [4] rfl
  have hkc : 4 + 2 ≤ 16 := by decide
  have hks : 26 + 12 ≤ 442 := by decide
  refine va_callv (va_runIN (As := []) (rest := [.ref q16, .ref h0]) ⟨hx, hb, hml, hown, hw⟩ (c_init0 l D cA q16 H.size) ⟨va_cnB (host := RX3) 0 hw (am_good (fun w hw9 => am_iw0 w hw9)) rfl rfl rfl (hN.1 RX3 11 yX0_init RX3 (List.mem_of_getElem? (i := 65) (by decide +kernel))) (hw (.initialized RX0) (am_at.wl (p := 49) (by decide +kernel))) (by decide +kernel) ⟨Nat.le_of_ble_eq_true rfl, Nat.le_of_ble_eq_true rfl⟩, rfl, (hw (.instanceMethod yX0_init) (am_at.wl (p := 66) (by decide +kernel)))⟩ ⟨am_ib, fun U hU hW => ⟨rfl, by rw [hU], by rw [hU]; exact hPc, va_K.moved hW.alike hK, hDc.weaken (fun _ _ _ _ => trivial)⟩⟩ rfl rfl hl.1 rfl (lv_room (Nat.le_of_ble_eq_true rfl)) dX3_init_20 ⟨hkc, hks⟩) hS (fun q _ h => hFc q h) hFc (fun u t H1 locs ht hvm hw9 hB hz1 hk1 hS => ?_)
  obtain ⟨q16a, q16b⟩ := u
  obtain ⟨hP1, hK1, hD1⟩ := hB
  rw [ht] at hP1
  obtain ⟨hP, hD⟩ := va_join (wr := [(h0, .inr (3, [.ref q5, .null, .null, .int 0, .null, .null, .null, .int 0, .null, .int 0])), (q5, .inr (0, [.int 3, .int 0, .int 0, .int 0, .int 16777215, .ref q5a, .ref q5b])), (q5a, .inl (cA, (4, .inl (fun _ => 0)))), (q5b, .inl (cA, (8, .inl (fun _ => 0))))]) (w1 := [(q16, .inr (0, [.int 3, .int 0, .int 0, .int 0, .int 16777215, .ref q16a, .ref q16b])), (q16a, .inl (cA, (4, .inl (fun _ => 0)))), (q16b, .inl (cA, (8, .inl (fun _ => 0))))]) hP hD [4] [0, 1, 2, 3] rfl rfl (by decide) (by decide) hk1 hFc hP1 hD1
  generalize H1 = H at hP hS ⊢
  have hP : va_P D vwCl [(h0, .inr (3, [.ref q5, .null, .null, .int 0, .null, .null, .null, .int 0, .null, .int 0])), (q5, .inr (0, [.int 3, .int 0, .int 0, .int 0, .int 16777215, .ref q5a, .ref q5b])), (q5a, .inl (cA, (4, .inl (fun _ => 0)))), (q5b, .inl (cA, (8, .inl (fun _ => 0)))), (q16, .inr (0, [.int 3, .int 0, .int 0, .int 0, .int 16777215, .ref q16a, .ref q16b])), (q16a, .inl (cA, (4, .inl (fun _ => 0)))), (q16b, .inl (cA, (8, .inl (fun _ => 0))))] H := hP
  have hD : va_D A [(h0, .inr (3, [.ref q5, .null, .null, .int 0, .null, .null, .null, .int 0, .null, .int 0])), (q5, .inr (0, [.int 3, .int 0, .int 0, .int 0, .int 16777215, .ref q5a, .ref q5b])), (q5a, .inl (cA, (4, .inl (fun _ => 0)))), (q5b, .inl (cA, (8, .inl (fun _ => 0)))), (q16, .inr (0, [.int 3, .int 0, .int 0, .int 0, .int 16777215, .ref q16a, .ref q16b])), (q16a, .inl (cA, (4, .inl (fun _ => 0)))), (q16b, .inl (cA, (8, .inl (fun _ => 0))))] := hD
  refine W.widen (k := 6) (n := 38) (by decide) (by decide) ?_
  refine va_putF (D := D) (ci := 3) (v := .ref q16) (ty := .object "ArmsAlongBeam$Stand") (C := RX3) (T := TX3) (N := 10) hx hb hw am_u3 tyX3 tyX3_ok nmX3 hown hK hP hD hS 0 rfl rfl 1 (by decide) (hw (.fieldLink RX3 16 (TX3 1).1 (TX3 1).2.1 (TX3 1).2.2.1) (am_at.wl (p := 146) (by decide +kernel))) (fun _ h9 => h9) rfl hin rfl (by decide +kernel) rfl rfl (Nat.le_of_ble_eq_true rfl) dX3_init_23 (fun H locs hP hD hS => ?_)
  have hP : va_P D vwCl [(h0, .inr (3, [.ref q5, .ref q16, .null, .int 0, .null, .null, .null, .int 0, .null, .int 0])), (q5, .inr (0, [.int 3, .int 0, .int 0, .int 0, .int 16777215, .ref q5a, .ref q5b])), (q5a, .inl (cA, (4, .inl (fun _ => 0)))), (q5b, .inl (cA, (8, .inl (fun _ => 0)))), (q16, .inr (0, [.int 3, .int 0, .int 0, .int 0, .int 16777215, .ref q16a, .ref q16b])), (q16a, .inl (cA, (4, .inl (fun _ => 0)))), (q16b, .inl (cA, (8, .inl (fun _ => 0))))] H := hP
  have hD : va_D A [(h0, .inr (3, [.ref q5, .ref q16, .null, .int 0, .null, .null, .null, .int 0, .null, .int 0])), (q5, .inr (0, [.int 3, .int 0, .int 0, .int 0, .int 16777215, .ref q5a, .ref q5b])), (q5a, .inl (cA, (4, .inl (fun _ => 0)))), (q5b, .inl (cA, (8, .inl (fun _ => 0)))), (q16, .inr (0, [.int 3, .int 0, .int 0, .int 0, .int 16777215, .ref q16a, .ref q16b])), (q16a, .inl (cA, (4, .inl (fun _ => 0)))), (q16b, .inl (cA, (8, .inl (fun _ => 0))))] := hD
  refine lv_aload_n hx hb dX3_init_26 rfl (lv_at hl 0 rfl) ?_
  have h_1 : 6 + 1 ≤ 16 := by decide
  have h_2 : 38 + 7 ≤ 442 := by decide
  refine va_new (ci := 0) (fs := [.int 0, .int 0, .int 0, .int 0, .int 0, .null, .null]) (C := RX0) (T := TX0) (N := 7) hx hb hw am_u0 tyX0 tyX0_ok hown (hw (.classLink RX3 9 RX0) (am_at.wl (p := 63) (by decide +kernel))) (hw (.instantiable RX0 7) (am_at.wl (p := 64) (by decide +kernel))) (hw (.initialized RX0) (am_at.wl (p := 49) (by decide +kernel))) hK hP hD hS hA rfl (fun j hj => am_df0 j hj) h_1 h_2 dX3_init_27 (fun q27 H hP hD hS => ?_)
  have hP : va_P D vwCl [(h0, .inr (3, [.ref q5, .ref q16, .null, .int 0, .null, .null, .null, .int 0, .null, .int 0])), (q5, .inr (0, [.int 3, .int 0, .int 0, .int 0, .int 16777215, .ref q5a, .ref q5b])), (q5a, .inl (cA, (4, .inl (fun _ => 0)))), (q5b, .inl (cA, (8, .inl (fun _ => 0)))), (q16, .inr (0, [.int 3, .int 0, .int 0, .int 0, .int 16777215, .ref q16a, .ref q16b])), (q16a, .inl (cA, (4, .inl (fun _ => 0)))), (q16b, .inl (cA, (8, .inl (fun _ => 0)))), (q27, .inr (0, [.int 0, .int 0, .int 0, .int 0, .int 0, .null, .null]))] H := hP
  have hD : va_D A [(h0, .inr (3, [.ref q5, .ref q16, .null, .int 0, .null, .null, .null, .int 0, .null, .int 0])), (q5, .inr (0, [.int 3, .int 0, .int 0, .int 0, .int 16777215, .ref q5a, .ref q5b])), (q5a, .inl (cA, (4, .inl (fun _ => 0)))), (q5b, .inl (cA, (8, .inl (fun _ => 0)))), (q16, .inr (0, [.int 3, .int 0, .int 0, .int 0, .int 16777215, .ref q16a, .ref q16b])), (q16a, .inl (cA, (4, .inl (fun _ => 0)))), (q16b, .inl (cA, (8, .inl (fun _ => 0)))), (q27, .inr (0, [.int 0, .int 0, .int 0, .int 0, .int 0, .null, .null]))] := hD
  refine W.widen (k := 7) (n := 45) (by decide) (by decide) ?_
  refine lv_dup hx hb dX3_init_30 rfl ?_
  have hPc := hP.sub (ws' := [(q27, .inr (0, [.int 0, .int 0, .int 0, .int 0, .int 0, .null, .null]))]) [7] rfl
  have hDc := hD.sub (ws' := [(q27, .inr (0, [.int 0, .int 0, .int 0, .int 0, .int 0, .null, .null]))]) [7] (by decide) rfl
  have hFc := va_free (wc := [(q27, .inr (0, [.int 0, .int 0, .int 0, .int 0, .int 0, .null, .null]))]) hD hS hA [7] rfl
  have hkc : 7 + 2 ≤ 16 := by decide
  have hks : 45 + 12 ≤ 442 := by decide
  refine va_callv (va_runIN (As := []) (rest := [.ref q27, .ref h0]) ⟨hx, hb, hml, hown, hw⟩ (c_init0 l D cA q27 H.size) ⟨va_cnB (host := RX3) 0 hw (am_good (fun w hw9 => am_iw0 w hw9)) rfl rfl rfl (hN.1 RX3 11 yX0_init RX3 (List.mem_of_getElem? (i := 65) (by decide +kernel))) (hw (.initialized RX0) (am_at.wl (p := 49) (by decide +kernel))) (by decide +kernel) ⟨Nat.le_of_ble_eq_true rfl, Nat.le_of_ble_eq_true rfl⟩, rfl, (hw (.instanceMethod yX0_init) (am_at.wl (p := 66) (by decide +kernel)))⟩ ⟨am_ib, fun U hU hW => ⟨rfl, by rw [hU], by rw [hU]; exact hPc, va_K.moved hW.alike hK, hDc.weaken (fun _ _ _ _ => trivial)⟩⟩ rfl rfl hl.1 rfl (lv_room (Nat.le_of_ble_eq_true rfl)) dX3_init_31 ⟨hkc, hks⟩) hS (fun q _ h => hFc q h) hFc (fun u t H1 locs ht hvm hw9 hB hz1 hk1 hS => ?_)
  obtain ⟨q27a, q27b⟩ := u
  obtain ⟨hP1, hK1, hD1⟩ := hB
  rw [ht] at hP1
  obtain ⟨hP, hD⟩ := va_join (wr := [(h0, .inr (3, [.ref q5, .ref q16, .null, .int 0, .null, .null, .null, .int 0, .null, .int 0])), (q5, .inr (0, [.int 3, .int 0, .int 0, .int 0, .int 16777215, .ref q5a, .ref q5b])), (q5a, .inl (cA, (4, .inl (fun _ => 0)))), (q5b, .inl (cA, (8, .inl (fun _ => 0)))), (q16, .inr (0, [.int 3, .int 0, .int 0, .int 0, .int 16777215, .ref q16a, .ref q16b])), (q16a, .inl (cA, (4, .inl (fun _ => 0)))), (q16b, .inl (cA, (8, .inl (fun _ => 0))))]) (w1 := [(q27, .inr (0, [.int 3, .int 0, .int 0, .int 0, .int 16777215, .ref q27a, .ref q27b])), (q27a, .inl (cA, (4, .inl (fun _ => 0)))), (q27b, .inl (cA, (8, .inl (fun _ => 0))))]) hP hD [7] [0, 1, 2, 3, 4, 5, 6] rfl rfl (by decide) (by decide) hk1 hFc hP1 hD1
  generalize H1 = H at hP hS ⊢
  have hP : va_P D vwCl [(h0, .inr (3, [.ref q5, .ref q16, .null, .int 0, .null, .null, .null, .int 0, .null, .int 0])), (q5, .inr (0, [.int 3, .int 0, .int 0, .int 0, .int 16777215, .ref q5a, .ref q5b])), (q5a, .inl (cA, (4, .inl (fun _ => 0)))), (q5b, .inl (cA, (8, .inl (fun _ => 0)))), (q16, .inr (0, [.int 3, .int 0, .int 0, .int 0, .int 16777215, .ref q16a, .ref q16b])), (q16a, .inl (cA, (4, .inl (fun _ => 0)))), (q16b, .inl (cA, (8, .inl (fun _ => 0)))), (q27, .inr (0, [.int 3, .int 0, .int 0, .int 0, .int 16777215, .ref q27a, .ref q27b])), (q27a, .inl (cA, (4, .inl (fun _ => 0)))), (q27b, .inl (cA, (8, .inl (fun _ => 0))))] H := hP
  have hD : va_D A [(h0, .inr (3, [.ref q5, .ref q16, .null, .int 0, .null, .null, .null, .int 0, .null, .int 0])), (q5, .inr (0, [.int 3, .int 0, .int 0, .int 0, .int 16777215, .ref q5a, .ref q5b])), (q5a, .inl (cA, (4, .inl (fun _ => 0)))), (q5b, .inl (cA, (8, .inl (fun _ => 0)))), (q16, .inr (0, [.int 3, .int 0, .int 0, .int 0, .int 16777215, .ref q16a, .ref q16b])), (q16a, .inl (cA, (4, .inl (fun _ => 0)))), (q16b, .inl (cA, (8, .inl (fun _ => 0)))), (q27, .inr (0, [.int 3, .int 0, .int 0, .int 0, .int 16777215, .ref q27a, .ref q27b])), (q27a, .inl (cA, (4, .inl (fun _ => 0)))), (q27b, .inl (cA, (8, .inl (fun _ => 0))))] := hD
  refine W.widen (k := 9) (n := 57) (by decide) (by decide) ?_
  refine va_putF (D := D) (ci := 3) (v := .ref q27) (ty := .object "ArmsAlongBeam$Stand") (C := RX3) (T := TX3) (N := 10) hx hb hw am_u3 tyX3 tyX3_ok nmX3 hown hK hP hD hS 0 rfl rfl 2 (by decide) (hw (.fieldLink RX3 19 (TX3 2).1 (TX3 2).2.1 (TX3 2).2.2.1) (am_at.wl (p := 147) (by decide +kernel))) (fun _ h9 => h9) rfl hin rfl (by decide +kernel) rfl rfl (Nat.le_of_ble_eq_true rfl) dX3_init_34 (fun H locs hP hD hS => ?_)
  have hP : va_P D vwCl [(h0, .inr (3, [.ref q5, .ref q16, .ref q27, .int 0, .null, .null, .null, .int 0, .null, .int 0])), (q5, .inr (0, [.int 3, .int 0, .int 0, .int 0, .int 16777215, .ref q5a, .ref q5b])), (q5a, .inl (cA, (4, .inl (fun _ => 0)))), (q5b, .inl (cA, (8, .inl (fun _ => 0)))), (q16, .inr (0, [.int 3, .int 0, .int 0, .int 0, .int 16777215, .ref q16a, .ref q16b])), (q16a, .inl (cA, (4, .inl (fun _ => 0)))), (q16b, .inl (cA, (8, .inl (fun _ => 0)))), (q27, .inr (0, [.int 3, .int 0, .int 0, .int 0, .int 16777215, .ref q27a, .ref q27b])), (q27a, .inl (cA, (4, .inl (fun _ => 0)))), (q27b, .inl (cA, (8, .inl (fun _ => 0))))] H := hP
  have hD : va_D A [(h0, .inr (3, [.ref q5, .ref q16, .ref q27, .int 0, .null, .null, .null, .int 0, .null, .int 0])), (q5, .inr (0, [.int 3, .int 0, .int 0, .int 0, .int 16777215, .ref q5a, .ref q5b])), (q5a, .inl (cA, (4, .inl (fun _ => 0)))), (q5b, .inl (cA, (8, .inl (fun _ => 0)))), (q16, .inr (0, [.int 3, .int 0, .int 0, .int 0, .int 16777215, .ref q16a, .ref q16b])), (q16a, .inl (cA, (4, .inl (fun _ => 0)))), (q16b, .inl (cA, (8, .inl (fun _ => 0)))), (q27, .inr (0, [.int 3, .int 0, .int 0, .int 0, .int 16777215, .ref q27a, .ref q27b])), (q27a, .inl (cA, (4, .inl (fun _ => 0)))), (q27b, .inl (cA, (8, .inl (fun _ => 0))))] := hD
  refine lv_aload_n hx hb dX3_init_37 rfl (lv_at hl 0 rfl) ?_
  refine lv_iconst (v := 0) hx hb dX3_init_38 (by decide +kernel) ?_
  refine va_put (D := D) (ci := 3) (v := .int 0) (ty := .boolean) (C := RX3) (T := TX3) (N := 10) hx hb hw am_u3 tyX3 tyX3_ok nmX3 hown hK hP hD hS 0 rfl rfl 3 (by decide) (hw (.fieldLink RX3 22 (TX3 3).1 (TX3 3).2.1 (TX3 3).2.2.1) (am_at.wl (p := 148) (by decide +kernel))) (fun _ h9 => h9) rfl (by decide +kernel) rfl rfl (Nat.le_of_ble_eq_true rfl) dX3_init_39 (fun H locs hP hD hS => ?_)
  have hP : va_P D vwCl [(h0, .inr (3, [.ref q5, .ref q16, .ref q27, .int 0, .null, .null, .null, .int 0, .null, .int 0])), (q5, .inr (0, [.int 3, .int 0, .int 0, .int 0, .int 16777215, .ref q5a, .ref q5b])), (q5a, .inl (cA, (4, .inl (fun _ => 0)))), (q5b, .inl (cA, (8, .inl (fun _ => 0)))), (q16, .inr (0, [.int 3, .int 0, .int 0, .int 0, .int 16777215, .ref q16a, .ref q16b])), (q16a, .inl (cA, (4, .inl (fun _ => 0)))), (q16b, .inl (cA, (8, .inl (fun _ => 0)))), (q27, .inr (0, [.int 3, .int 0, .int 0, .int 0, .int 16777215, .ref q27a, .ref q27b])), (q27a, .inl (cA, (4, .inl (fun _ => 0)))), (q27b, .inl (cA, (8, .inl (fun _ => 0))))] H := hP
  have hD : va_D A [(h0, .inr (3, [.ref q5, .ref q16, .ref q27, .int 0, .null, .null, .null, .int 0, .null, .int 0])), (q5, .inr (0, [.int 3, .int 0, .int 0, .int 0, .int 16777215, .ref q5a, .ref q5b])), (q5a, .inl (cA, (4, .inl (fun _ => 0)))), (q5b, .inl (cA, (8, .inl (fun _ => 0)))), (q16, .inr (0, [.int 3, .int 0, .int 0, .int 0, .int 16777215, .ref q16a, .ref q16b])), (q16a, .inl (cA, (4, .inl (fun _ => 0)))), (q16b, .inl (cA, (8, .inl (fun _ => 0)))), (q27, .inr (0, [.int 3, .int 0, .int 0, .int 0, .int 16777215, .ref q27a, .ref q27b])), (q27a, .inl (cA, (4, .inl (fun _ => 0)))), (q27b, .inl (cA, (8, .inl (fun _ => 0))))] := hD
  refine lv_aload_n hx hb dX3_init_42 rfl (lv_at hl 0 rfl) ?_
  have h_1 : 9 + 1 ≤ 16 := by decide
  have h_2 : 57 + 3 ≤ 442 := by decide
  refine va_new (ci := 2) (fs := [.null, .null, .int 0]) (C := RX2) (T := TX2) (N := 3) hx hb hw am_u2 tyX2 tyX2_ok hown (hw (.classLink RX3 26 RX2) (am_at.wl (p := 100) (by decide +kernel))) (hw (.instantiable RX2 3) (am_at.wl (p := 101) (by decide +kernel))) (hw (.initialized RX2) (am_at.wl (p := 50) (by decide +kernel))) hK hP hD hS hA rfl (fun j hj => am_df2 j hj) h_1 h_2 dX3_init_43 (fun q43 H hP hD hS => ?_)
  have hP : va_P D vwCl [(h0, .inr (3, [.ref q5, .ref q16, .ref q27, .int 0, .null, .null, .null, .int 0, .null, .int 0])), (q5, .inr (0, [.int 3, .int 0, .int 0, .int 0, .int 16777215, .ref q5a, .ref q5b])), (q5a, .inl (cA, (4, .inl (fun _ => 0)))), (q5b, .inl (cA, (8, .inl (fun _ => 0)))), (q16, .inr (0, [.int 3, .int 0, .int 0, .int 0, .int 16777215, .ref q16a, .ref q16b])), (q16a, .inl (cA, (4, .inl (fun _ => 0)))), (q16b, .inl (cA, (8, .inl (fun _ => 0)))), (q27, .inr (0, [.int 3, .int 0, .int 0, .int 0, .int 16777215, .ref q27a, .ref q27b])), (q27a, .inl (cA, (4, .inl (fun _ => 0)))), (q27b, .inl (cA, (8, .inl (fun _ => 0)))), (q43, .inr (2, [.null, .null, .int 0]))] H := hP
  have hD : va_D A [(h0, .inr (3, [.ref q5, .ref q16, .ref q27, .int 0, .null, .null, .null, .int 0, .null, .int 0])), (q5, .inr (0, [.int 3, .int 0, .int 0, .int 0, .int 16777215, .ref q5a, .ref q5b])), (q5a, .inl (cA, (4, .inl (fun _ => 0)))), (q5b, .inl (cA, (8, .inl (fun _ => 0)))), (q16, .inr (0, [.int 3, .int 0, .int 0, .int 0, .int 16777215, .ref q16a, .ref q16b])), (q16a, .inl (cA, (4, .inl (fun _ => 0)))), (q16b, .inl (cA, (8, .inl (fun _ => 0)))), (q27, .inr (0, [.int 3, .int 0, .int 0, .int 0, .int 16777215, .ref q27a, .ref q27b])), (q27a, .inl (cA, (4, .inl (fun _ => 0)))), (q27b, .inl (cA, (8, .inl (fun _ => 0)))), (q43, .inr (2, [.null, .null, .int 0]))] := hD
  refine W.widen (k := 10) (n := 60) (by decide) (by decide) ?_
  refine lv_dup hx hb dX3_init_46 rfl ?_
  have hPc := hP.sub (ws' := [(q43, .inr (2, [.null, .null, .int 0]))]) [10] rfl
  have hDc := hD.sub (ws' := [(q43, .inr (2, [.null, .null, .int 0]))]) [10] (by decide) rfl
  have hFc := va_free (wc := [(q43, .inr (2, [.null, .null, .int 0]))]) hD hS hA [10] rfl
  have hkc : 10 + 2 ≤ 16 := by decide
  have hks : 60 + 288 ≤ 442 := by decide
  refine va_callv (va_runIN (As := []) (rest := [.ref q43, .ref h0]) ⟨hx, hb, hml, hown, hw⟩ (c_init2 l D cA q43 H.size) ⟨va_cnB (host := RX3) 0 hw (am_good (fun w hw9 => am_iw2 w hw9)) rfl rfl rfl (hN.1 RX3 28 yX2_init RX3 (List.mem_of_getElem? (i := 102) (by decide +kernel))) (hw (.initialized RX2) (am_at.wl (p := 50) (by decide +kernel))) (by decide +kernel) ⟨Nat.le_of_ble_eq_true rfl, Nat.le_of_ble_eq_true rfl⟩, rfl, (hw (.instanceMethod yX2_init) (am_at.wl (p := 103) (by decide +kernel)))⟩ ⟨am_ib, fun U hU hW => ⟨rfl, by rw [hU], by rw [hU]; exact hPc, va_K.moved hW.alike hK, hDc.weaken (fun _ _ _ _ => trivial)⟩⟩ rfl rfl hl.1 rfl (lv_room (Nat.le_of_ble_eq_true rfl)) dX3_init_47 ⟨hkc, hks⟩) hS (fun q _ h => hFc q h) hFc (fun u t H1 locs ht hvm hw9 hB hz1 hk1 hS => ?_)
  obtain ⟨q43a, q43b⟩ := u
  obtain ⟨hP1, hK1, hD1⟩ := hB
  rw [ht] at hP1
  obtain ⟨hP, hD⟩ := va_join (wr := [(h0, .inr (3, [.ref q5, .ref q16, .ref q27, .int 0, .null, .null, .null, .int 0, .null, .int 0])), (q5, .inr (0, [.int 3, .int 0, .int 0, .int 0, .int 16777215, .ref q5a, .ref q5b])), (q5a, .inl (cA, (4, .inl (fun _ => 0)))), (q5b, .inl (cA, (8, .inl (fun _ => 0)))), (q16, .inr (0, [.int 3, .int 0, .int 0, .int 0, .int 16777215, .ref q16a, .ref q16b])), (q16a, .inl (cA, (4, .inl (fun _ => 0)))), (q16b, .inl (cA, (8, .inl (fun _ => 0)))), (q27, .inr (0, [.int 3, .int 0, .int 0, .int 0, .int 16777215, .ref q27a, .ref q27b])), (q27a, .inl (cA, (4, .inl (fun _ => 0)))), (q27b, .inl (cA, (8, .inl (fun _ => 0))))]) (w1 := [(q43, .inr (2, [.ref q43a, .ref q43b, .int 0])), (q43a, .inl (cA, (144, .inl (fun _ => 0)))), (q43b, .inl (cA, (144, .inl (fun _ => 0))))]) hP hD [10] [0, 1, 2, 3, 4, 5, 6, 7, 8, 9] rfl rfl (by decide) (by decide) hk1 hFc hP1 hD1
  generalize H1 = H at hP hS ⊢
  have hP : va_P D vwCl [(h0, .inr (3, [.ref q5, .ref q16, .ref q27, .int 0, .null, .null, .null, .int 0, .null, .int 0])), (q5, .inr (0, [.int 3, .int 0, .int 0, .int 0, .int 16777215, .ref q5a, .ref q5b])), (q5a, .inl (cA, (4, .inl (fun _ => 0)))), (q5b, .inl (cA, (8, .inl (fun _ => 0)))), (q16, .inr (0, [.int 3, .int 0, .int 0, .int 0, .int 16777215, .ref q16a, .ref q16b])), (q16a, .inl (cA, (4, .inl (fun _ => 0)))), (q16b, .inl (cA, (8, .inl (fun _ => 0)))), (q27, .inr (0, [.int 3, .int 0, .int 0, .int 0, .int 16777215, .ref q27a, .ref q27b])), (q27a, .inl (cA, (4, .inl (fun _ => 0)))), (q27b, .inl (cA, (8, .inl (fun _ => 0)))), (q43, .inr (2, [.ref q43a, .ref q43b, .int 0])), (q43a, .inl (cA, (144, .inl (fun _ => 0)))), (q43b, .inl (cA, (144, .inl (fun _ => 0))))] H := hP
  have hD : va_D A [(h0, .inr (3, [.ref q5, .ref q16, .ref q27, .int 0, .null, .null, .null, .int 0, .null, .int 0])), (q5, .inr (0, [.int 3, .int 0, .int 0, .int 0, .int 16777215, .ref q5a, .ref q5b])), (q5a, .inl (cA, (4, .inl (fun _ => 0)))), (q5b, .inl (cA, (8, .inl (fun _ => 0)))), (q16, .inr (0, [.int 3, .int 0, .int 0, .int 0, .int 16777215, .ref q16a, .ref q16b])), (q16a, .inl (cA, (4, .inl (fun _ => 0)))), (q16b, .inl (cA, (8, .inl (fun _ => 0)))), (q27, .inr (0, [.int 3, .int 0, .int 0, .int 0, .int 16777215, .ref q27a, .ref q27b])), (q27a, .inl (cA, (4, .inl (fun _ => 0)))), (q27b, .inl (cA, (8, .inl (fun _ => 0)))), (q43, .inr (2, [.ref q43a, .ref q43b, .int 0])), (q43a, .inl (cA, (144, .inl (fun _ => 0)))), (q43b, .inl (cA, (144, .inl (fun _ => 0))))] := hD
  refine W.widen (k := 12) (n := 348) (by decide) (by decide) ?_
  refine va_putF (D := D) (ci := 3) (v := .ref q43) (ty := .object "ArmsAlongBeam$Walks") (C := RX3) (T := TX3) (N := 10) hx hb hw am_u3 tyX3 tyX3_ok nmX3 hown hK hP hD hS 0 rfl rfl 4 (by decide) (hw (.fieldLink RX3 29 (TX3 4).1 (TX3 4).2.1 (TX3 4).2.2.1) (am_at.wl (p := 149) (by decide +kernel))) (fun _ h9 => h9) rfl hin rfl (by decide +kernel) rfl rfl (Nat.le_of_ble_eq_true rfl) dX3_init_50 (fun H locs hP hD hS => ?_)
  have hP : va_P D vwCl [(h0, .inr (3, [.ref q5, .ref q16, .ref q27, .int 0, .ref q43, .null, .null, .int 0, .null, .int 0])), (q5, .inr (0, [.int 3, .int 0, .int 0, .int 0, .int 16777215, .ref q5a, .ref q5b])), (q5a, .inl (cA, (4, .inl (fun _ => 0)))), (q5b, .inl (cA, (8, .inl (fun _ => 0)))), (q16, .inr (0, [.int 3, .int 0, .int 0, .int 0, .int 16777215, .ref q16a, .ref q16b])), (q16a, .inl (cA, (4, .inl (fun _ => 0)))), (q16b, .inl (cA, (8, .inl (fun _ => 0)))), (q27, .inr (0, [.int 3, .int 0, .int 0, .int 0, .int 16777215, .ref q27a, .ref q27b])), (q27a, .inl (cA, (4, .inl (fun _ => 0)))), (q27b, .inl (cA, (8, .inl (fun _ => 0)))), (q43, .inr (2, [.ref q43a, .ref q43b, .int 0])), (q43a, .inl (cA, (144, .inl (fun _ => 0)))), (q43b, .inl (cA, (144, .inl (fun _ => 0))))] H := hP
  have hD : va_D A [(h0, .inr (3, [.ref q5, .ref q16, .ref q27, .int 0, .ref q43, .null, .null, .int 0, .null, .int 0])), (q5, .inr (0, [.int 3, .int 0, .int 0, .int 0, .int 16777215, .ref q5a, .ref q5b])), (q5a, .inl (cA, (4, .inl (fun _ => 0)))), (q5b, .inl (cA, (8, .inl (fun _ => 0)))), (q16, .inr (0, [.int 3, .int 0, .int 0, .int 0, .int 16777215, .ref q16a, .ref q16b])), (q16a, .inl (cA, (4, .inl (fun _ => 0)))), (q16b, .inl (cA, (8, .inl (fun _ => 0)))), (q27, .inr (0, [.int 3, .int 0, .int 0, .int 0, .int 16777215, .ref q27a, .ref q27b])), (q27a, .inl (cA, (4, .inl (fun _ => 0)))), (q27b, .inl (cA, (8, .inl (fun _ => 0)))), (q43, .inr (2, [.ref q43a, .ref q43b, .int 0])), (q43a, .inl (cA, (144, .inl (fun _ => 0)))), (q43b, .inl (cA, (144, .inl (fun _ => 0))))] := hD
  refine lv_aload_n hx hb dX3_init_53 rfl (lv_at hl 0 rfl) ?_
  have h_1 : 12 + 1 ≤ 16 := by decide
  have h_2 : 348 + 7 ≤ 442 := by decide
  refine va_new (ci := 1) (fs := [.null, .int 0, .int 0, .int 0, .int 0, .int 0, .int 0]) (C := RX1) (T := TX1) (N := 7) hx hb hw am_u1 tyX1 tyX1_ok hown (hw (.classLink RX3 33 RX1) (am_at.wl (p := 116) (by decide +kernel))) (hw (.instantiable RX1 7) (am_at.wl (p := 117) (by decide +kernel))) (hw (.initialized RX1) (am_at.wl (p := 51) (by decide +kernel))) hK hP hD hS hA rfl (fun j hj => am_df1 j hj) h_1 h_2 dX3_init_54 (fun q54 H hP hD hS => ?_)
  have hP : va_P D vwCl [(h0, .inr (3, [.ref q5, .ref q16, .ref q27, .int 0, .ref q43, .null, .null, .int 0, .null, .int 0])), (q5, .inr (0, [.int 3, .int 0, .int 0, .int 0, .int 16777215, .ref q5a, .ref q5b])), (q5a, .inl (cA, (4, .inl (fun _ => 0)))), (q5b, .inl (cA, (8, .inl (fun _ => 0)))), (q16, .inr (0, [.int 3, .int 0, .int 0, .int 0, .int 16777215, .ref q16a, .ref q16b])), (q16a, .inl (cA, (4, .inl (fun _ => 0)))), (q16b, .inl (cA, (8, .inl (fun _ => 0)))), (q27, .inr (0, [.int 3, .int 0, .int 0, .int 0, .int 16777215, .ref q27a, .ref q27b])), (q27a, .inl (cA, (4, .inl (fun _ => 0)))), (q27b, .inl (cA, (8, .inl (fun _ => 0)))), (q43, .inr (2, [.ref q43a, .ref q43b, .int 0])), (q43a, .inl (cA, (144, .inl (fun _ => 0)))), (q43b, .inl (cA, (144, .inl (fun _ => 0)))), (q54, .inr (1, [.null, .int 0, .int 0, .int 0, .int 0, .int 0, .int 0]))] H := hP
  have hD : va_D A [(h0, .inr (3, [.ref q5, .ref q16, .ref q27, .int 0, .ref q43, .null, .null, .int 0, .null, .int 0])), (q5, .inr (0, [.int 3, .int 0, .int 0, .int 0, .int 16777215, .ref q5a, .ref q5b])), (q5a, .inl (cA, (4, .inl (fun _ => 0)))), (q5b, .inl (cA, (8, .inl (fun _ => 0)))), (q16, .inr (0, [.int 3, .int 0, .int 0, .int 0, .int 16777215, .ref q16a, .ref q16b])), (q16a, .inl (cA, (4, .inl (fun _ => 0)))), (q16b, .inl (cA, (8, .inl (fun _ => 0)))), (q27, .inr (0, [.int 3, .int 0, .int 0, .int 0, .int 16777215, .ref q27a, .ref q27b])), (q27a, .inl (cA, (4, .inl (fun _ => 0)))), (q27b, .inl (cA, (8, .inl (fun _ => 0)))), (q43, .inr (2, [.ref q43a, .ref q43b, .int 0])), (q43a, .inl (cA, (144, .inl (fun _ => 0)))), (q43b, .inl (cA, (144, .inl (fun _ => 0)))), (q54, .inr (1, [.null, .int 0, .int 0, .int 0, .int 0, .int 0, .int 0]))] := hD
  refine W.widen (k := 13) (n := 355) (by decide) (by decide) ?_
  refine lv_dup hx hb dX3_init_57 rfl ?_
  have hPc := hP.sub (ws' := [(q54, .inr (1, [.null, .int 0, .int 0, .int 0, .int 0, .int 0, .int 0]))]) [13] rfl
  have hDc := hD.sub (ws' := [(q54, .inr (1, [.null, .int 0, .int 0, .int 0, .int 0, .int 0, .int 0]))]) [13] (by decide) rfl
  have hFc := va_free (wc := [(q54, .inr (1, [.null, .int 0, .int 0, .int 0, .int 0, .int 0, .int 0]))]) hD hS hA [13] rfl
  have hkc : 13 + 1 ≤ 16 := by decide
  have hks : 355 + 64 ≤ 442 := by decide
  refine va_callv (va_runIN (As := []) (rest := [.ref q54, .ref h0]) ⟨hx, hb, hml, hown, hw⟩ (c_init1 l D cA q54 H.size) ⟨va_cnB (host := RX3) 0 hw (am_good (fun w hw9 => am_iw1 w hw9)) rfl rfl rfl (hN.1 RX3 35 yX1_init RX3 (List.mem_of_getElem? (i := 118) (by decide +kernel))) (hw (.initialized RX1) (am_at.wl (p := 51) (by decide +kernel))) (by decide +kernel) ⟨Nat.le_of_ble_eq_true rfl, Nat.le_of_ble_eq_true rfl⟩, rfl, (hw (.instanceMethod yX1_init) (am_at.wl (p := 119) (by decide +kernel)))⟩ ⟨am_ib, fun U hU hW => ⟨rfl, by rw [hU], by rw [hU]; exact hPc, va_K.moved hW.alike hK, hDc.weaken (fun _ _ _ _ => trivial)⟩⟩ rfl rfl hl.1 rfl (lv_room (Nat.le_of_ble_eq_true rfl)) dX3_init_58 ⟨hkc, hks⟩) hS (fun q _ h => hFc q h) hFc (fun u t H1 locs ht hvm hw9 hB hz1 hk1 hS => ?_)
  obtain ⟨q54a, rfl⟩ : ∃ z, z = u := ⟨_, rfl⟩
  obtain ⟨hP1, hK1, hD1⟩ := hB
  rw [ht] at hP1
  obtain ⟨hP, hD⟩ := va_join (wr := [(h0, .inr (3, [.ref q5, .ref q16, .ref q27, .int 0, .ref q43, .null, .null, .int 0, .null, .int 0])), (q5, .inr (0, [.int 3, .int 0, .int 0, .int 0, .int 16777215, .ref q5a, .ref q5b])), (q5a, .inl (cA, (4, .inl (fun _ => 0)))), (q5b, .inl (cA, (8, .inl (fun _ => 0)))), (q16, .inr (0, [.int 3, .int 0, .int 0, .int 0, .int 16777215, .ref q16a, .ref q16b])), (q16a, .inl (cA, (4, .inl (fun _ => 0)))), (q16b, .inl (cA, (8, .inl (fun _ => 0)))), (q27, .inr (0, [.int 3, .int 0, .int 0, .int 0, .int 16777215, .ref q27a, .ref q27b])), (q27a, .inl (cA, (4, .inl (fun _ => 0)))), (q27b, .inl (cA, (8, .inl (fun _ => 0)))), (q43, .inr (2, [.ref q43a, .ref q43b, .int 0])), (q43a, .inl (cA, (144, .inl (fun _ => 0)))), (q43b, .inl (cA, (144, .inl (fun _ => 0))))]) (w1 := [(q54, .inr (1, [.ref q54a, .int 0, .int 0, .int 0, .int 0, .int 0, .int 0])), (q54a, .inl (cA, (64, .inl (fun _ => 0))))]) hP hD [13] [0, 1, 2, 3, 4, 5, 6, 7, 8, 9, 10, 11, 12] rfl rfl (by decide) (by decide) hk1 hFc hP1 hD1
  generalize H1 = H at hP hS ⊢
  have hP : va_P D vwCl [(h0, .inr (3, [.ref q5, .ref q16, .ref q27, .int 0, .ref q43, .null, .null, .int 0, .null, .int 0])), (q5, .inr (0, [.int 3, .int 0, .int 0, .int 0, .int 16777215, .ref q5a, .ref q5b])), (q5a, .inl (cA, (4, .inl (fun _ => 0)))), (q5b, .inl (cA, (8, .inl (fun _ => 0)))), (q16, .inr (0, [.int 3, .int 0, .int 0, .int 0, .int 16777215, .ref q16a, .ref q16b])), (q16a, .inl (cA, (4, .inl (fun _ => 0)))), (q16b, .inl (cA, (8, .inl (fun _ => 0)))), (q27, .inr (0, [.int 3, .int 0, .int 0, .int 0, .int 16777215, .ref q27a, .ref q27b])), (q27a, .inl (cA, (4, .inl (fun _ => 0)))), (q27b, .inl (cA, (8, .inl (fun _ => 0)))), (q43, .inr (2, [.ref q43a, .ref q43b, .int 0])), (q43a, .inl (cA, (144, .inl (fun _ => 0)))), (q43b, .inl (cA, (144, .inl (fun _ => 0)))), (q54, .inr (1, [.ref q54a, .int 0, .int 0, .int 0, .int 0, .int 0, .int 0])), (q54a, .inl (cA, (64, .inl (fun _ => 0))))] H := hP
  have hD : va_D A [(h0, .inr (3, [.ref q5, .ref q16, .ref q27, .int 0, .ref q43, .null, .null, .int 0, .null, .int 0])), (q5, .inr (0, [.int 3, .int 0, .int 0, .int 0, .int 16777215, .ref q5a, .ref q5b])), (q5a, .inl (cA, (4, .inl (fun _ => 0)))), (q5b, .inl (cA, (8, .inl (fun _ => 0)))), (q16, .inr (0, [.int 3, .int 0, .int 0, .int 0, .int 16777215, .ref q16a, .ref q16b])), (q16a, .inl (cA, (4, .inl (fun _ => 0)))), (q16b, .inl (cA, (8, .inl (fun _ => 0)))), (q27, .inr (0, [.int 3, .int 0, .int 0, .int 0, .int 16777215, .ref q27a, .ref q27b])), (q27a, .inl (cA, (4, .inl (fun _ => 0)))), (q27b, .inl (cA, (8, .inl (fun _ => 0)))), (q43, .inr (2, [.ref q43a, .ref q43b, .int 0])), (q43a, .inl (cA, (144, .inl (fun _ => 0)))), (q43b, .inl (cA, (144, .inl (fun _ => 0)))), (q54, .inr (1, [.ref q54a, .int 0, .int 0, .int 0, .int 0, .int 0, .int 0])), (q54a, .inl (cA, (64, .inl (fun _ => 0))))] := hD
  refine W.widen (k := 14) (n := 419) (by decide) (by decide) ?_
  refine va_putF (D := D) (ci := 3) (v := .ref q54) (ty := .object "ArmsAlongBeam$Text") (C := RX3) (T := TX3) (N := 10) hx hb hw am_u3 tyX3 tyX3_ok nmX3 hown hK hP hD hS 0 rfl rfl 5 (by decide) (hw (.fieldLink RX3 36 (TX3 5).1 (TX3 5).2.1 (TX3 5).2.2.1) (am_at.wl (p := 150) (by decide +kernel))) (fun _ h9 => h9) rfl hin rfl (by decide +kernel) rfl rfl (Nat.le_of_ble_eq_true rfl) dX3_init_61 (fun H locs hP hD hS => ?_)
  have hP : va_P D vwCl [(h0, .inr (3, [.ref q5, .ref q16, .ref q27, .int 0, .ref q43, .ref q54, .null, .int 0, .null, .int 0])), (q5, .inr (0, [.int 3, .int 0, .int 0, .int 0, .int 16777215, .ref q5a, .ref q5b])), (q5a, .inl (cA, (4, .inl (fun _ => 0)))), (q5b, .inl (cA, (8, .inl (fun _ => 0)))), (q16, .inr (0, [.int 3, .int 0, .int 0, .int 0, .int 16777215, .ref q16a, .ref q16b])), (q16a, .inl (cA, (4, .inl (fun _ => 0)))), (q16b, .inl (cA, (8, .inl (fun _ => 0)))), (q27, .inr (0, [.int 3, .int 0, .int 0, .int 0, .int 16777215, .ref q27a, .ref q27b])), (q27a, .inl (cA, (4, .inl (fun _ => 0)))), (q27b, .inl (cA, (8, .inl (fun _ => 0)))), (q43, .inr (2, [.ref q43a, .ref q43b, .int 0])), (q43a, .inl (cA, (144, .inl (fun _ => 0)))), (q43b, .inl (cA, (144, .inl (fun _ => 0)))), (q54, .inr (1, [.ref q54a, .int 0, .int 0, .int 0, .int 0, .int 0, .int 0])), (q54a, .inl (cA, (64, .inl (fun _ => 0))))] H := hP
  have hD : va_D A [(h0, .inr (3, [.ref q5, .ref q16, .ref q27, .int 0, .ref q43, .ref q54, .null, .int 0, .null, .int 0])), (q5, .inr (0, [.int 3, .int 0, .int 0, .int 0, .int 16777215, .ref q5a, .ref q5b])), (q5a, .inl (cA, (4, .inl (fun _ => 0)))), (q5b, .inl (cA, (8, .inl (fun _ => 0)))), (q16, .inr (0, [.int 3, .int 0, .int 0, .int 0, .int 16777215, .ref q16a, .ref q16b])), (q16a, .inl (cA, (4, .inl (fun _ => 0)))), (q16b, .inl (cA, (8, .inl (fun _ => 0)))), (q27, .inr (0, [.int 3, .int 0, .int 0, .int 0, .int 16777215, .ref q27a, .ref q27b])), (q27a, .inl (cA, (4, .inl (fun _ => 0)))), (q27b, .inl (cA, (8, .inl (fun _ => 0)))), (q43, .inr (2, [.ref q43a, .ref q43b, .int 0])), (q43a, .inl (cA, (144, .inl (fun _ => 0)))), (q43b, .inl (cA, (144, .inl (fun _ => 0)))), (q54, .inr (1, [.ref q54a, .int 0, .int 0, .int 0, .int 0, .int 0, .int 0])), (q54a, .inl (cA, (64, .inl (fun _ => 0))))] := hD
  refine lv_aload_n hx hb dX3_init_64 rfl (lv_at hl 0 rfl) ?_
  refine lv_bipush (v := 16) hx hb dX3_init_65 (by decide +kernel) ?_
  have h_1 : 14 + 1 ≤ 16 := by decide
  have h_2 : 419 + 16 ≤ 442 := by decide
  refine am_newa (n := 16) hx hb (hw (.arrayClass .int) (am_at.wl (p := 99) (by decide +kernel))) hK hP hD hS hA 16 (by decide +kernel) (by decide +kernel) (by decide) h_1 h_2 dX3_init_67 (fun q67 H hP hD hS => ?_)
  have hP : va_P D vwCl [(h0, .inr (3, [.ref q5, .ref q16, .ref q27, .int 0, .ref q43, .ref q54, .null, .int 0, .null, .int 0])), (q5, .inr (0, [.int 3, .int 0, .int 0, .int 0, .int 16777215, .ref q5a, .ref q5b])), (q5a, .inl (cA, (4, .inl (fun _ => 0)))), (q5b, .inl (cA, (8, .inl (fun _ => 0)))), (q16, .inr (0, [.int 3, .int 0, .int 0, .int 0, .int 16777215, .ref q16a, .ref q16b])), (q16a, .inl (cA, (4, .inl (fun _ => 0)))), (q16b, .inl (cA, (8, .inl (fun _ => 0)))), (q27, .inr (0, [.int 3, .int 0, .int 0, .int 0, .int 16777215, .ref q27a, .ref q27b])), (q27a, .inl (cA, (4, .inl (fun _ => 0)))), (q27b, .inl (cA, (8, .inl (fun _ => 0)))), (q43, .inr (2, [.ref q43a, .ref q43b, .int 0])), (q43a, .inl (cA, (144, .inl (fun _ => 0)))), (q43b, .inl (cA, (144, .inl (fun _ => 0)))), (q54, .inr (1, [.ref q54a, .int 0, .int 0, .int 0, .int 0, .int 0, .int 0])), (q54a, .inl (cA, (64, .inl (fun _ => 0)))), (q67, .inl (cA, (16, .inl (fun _ => 0))))] H := hP
  have hD : va_D A [(h0, .inr (3, [.ref q5, .ref q16, .ref q27, .int 0, .ref q43, .ref q54, .null, .int 0, .null, .int 0])), (q5, .inr (0, [.int 3, .int 0, .int 0, .int 0, .int 16777215, .ref q5a, .ref q5b])), (q5a, .inl (cA, (4, .inl (fun _ => 0)))), (q5b, .inl (cA, (8, .inl (fun _ => 0)))), (q16, .inr (0, [.int 3, .int 0, .int 0, .int 0, .int 16777215, .ref q16a, .ref q16b])), (q16a, .inl (cA, (4, .inl (fun _ => 0)))), (q16b, .inl (cA, (8, .inl (fun _ => 0)))), (q27, .inr (0, [.int 3, .int 0, .int 0, .int 0, .int 16777215, .ref q27a, .ref q27b])), (q27a, .inl (cA, (4, .inl (fun _ => 0)))), (q27b, .inl (cA, (8, .inl (fun _ => 0)))), (q43, .inr (2, [.ref q43a, .ref q43b, .int 0])), (q43a, .inl (cA, (144, .inl (fun _ => 0)))), (q43b, .inl (cA, (144, .inl (fun _ => 0)))), (q54, .inr (1, [.ref q54a, .int 0, .int 0, .int 0, .int 0, .int 0, .int 0])), (q54a, .inl (cA, (64, .inl (fun _ => 0)))), (q67, .inl (cA, (16, .inl (fun _ => 0))))] := hD
  refine W.widen (k := 15) (n := 435) (by decide) (by decide) ?_
  refine va_putF (D := D) (ci := 3) (v := .ref q67) (ty := .array .int) (C := RX3) (T := TX3) (N := 10) hx hb hw am_u3 tyX3 tyX3_ok nmX3 hown hK hP hD hS 0 rfl rfl 6 (by decide) (hw (.fieldLink RX3 40 (TX3 6).1 (TX3 6).2.1 (TX3 6).2.2.1) (am_at.wl (p := 151) (by decide +kernel))) (fun _ h9 => h9) rfl hin rfl (by decide +kernel) rfl rfl (Nat.le_of_ble_eq_true rfl) dX3_init_69 (fun H locs hP hD hS => ?_)
  have hP : va_P D vwCl [(h0, .inr (3, [.ref q5, .ref q16, .ref q27, .int 0, .ref q43, .ref q54, .ref q67, .int 0, .null, .int 0])), (q5, .inr (0, [.int 3, .int 0, .int 0, .int 0, .int 16777215, .ref q5a, .ref q5b])), (q5a, .inl (cA, (4, .inl (fun _ => 0)))), (q5b, .inl (cA, (8, .inl (fun _ => 0)))), (q16, .inr (0, [.int 3, .int 0, .int 0, .int 0, .int 16777215, .ref q16a, .ref q16b])), (q16a, .inl (cA, (4, .inl (fun _ => 0)))), (q16b, .inl (cA, (8, .inl (fun _ => 0)))), (q27, .inr (0, [.int 3, .int 0, .int 0, .int 0, .int 16777215, .ref q27a, .ref q27b])), (q27a, .inl (cA, (4, .inl (fun _ => 0)))), (q27b, .inl (cA, (8, .inl (fun _ => 0)))), (q43, .inr (2, [.ref q43a, .ref q43b, .int 0])), (q43a, .inl (cA, (144, .inl (fun _ => 0)))), (q43b, .inl (cA, (144, .inl (fun _ => 0)))), (q54, .inr (1, [.ref q54a, .int 0, .int 0, .int 0, .int 0, .int 0, .int 0])), (q54a, .inl (cA, (64, .inl (fun _ => 0)))), (q67, .inl (cA, (16, .inl (fun _ => 0))))] H := hP
  have hD : va_D A [(h0, .inr (3, [.ref q5, .ref q16, .ref q27, .int 0, .ref q43, .ref q54, .ref q67, .int 0, .null, .int 0])), (q5, .inr (0, [.int 3, .int 0, .int 0, .int 0, .int 16777215, .ref q5a, .ref q5b])), (q5a, .inl (cA, (4, .inl (fun _ => 0)))), (q5b, .inl (cA, (8, .inl (fun _ => 0)))), (q16, .inr (0, [.int 3, .int 0, .int 0, .int 0, .int 16777215, .ref q16a, .ref q16b])), (q16a, .inl (cA, (4, .inl (fun _ => 0)))), (q16b, .inl (cA, (8, .inl (fun _ => 0)))), (q27, .inr (0, [.int 3, .int 0, .int 0, .int 0, .int 16777215, .ref q27a, .ref q27b])), (q27a, .inl (cA, (4, .inl (fun _ => 0)))), (q27b, .inl (cA, (8, .inl (fun _ => 0)))), (q43, .inr (2, [.ref q43a, .ref q43b, .int 0])), (q43a, .inl (cA, (144, .inl (fun _ => 0)))), (q43b, .inl (cA, (144, .inl (fun _ => 0)))), (q54, .inr (1, [.ref q54a, .int 0, .int 0, .int 0, .int 0, .int 0, .int 0])), (q54a, .inl (cA, (64, .inl (fun _ => 0)))), (q67, .inl (cA, (16, .inl (fun _ => 0))))] := hD
  refine lv_aload_n hx hb dX3_init_72 rfl (lv_at hl 0 rfl) ?_
  refine lv_iconst (v := 0) hx hb dX3_init_73 (by decide +kernel) ?_
  refine va_put (D := D) (ci := 3) (v := .int 0) (ty := .int) (C := RX3) (T := TX3) (N := 10) hx hb hw am_u3 tyX3 tyX3_ok nmX3 hown hK hP hD hS 0 rfl rfl 7 (by decide) (hw (.fieldLink RX3 44 (TX3 7).1 (TX3 7).2.1 (TX3 7).2.2.1) (am_at.wl (p := 152) (by decide +kernel))) (fun _ h9 => h9) rfl (by decide +kernel) rfl rfl (Nat.le_of_ble_eq_true rfl) dX3_init_74 (fun H locs hP hD hS => ?_)
  have hP : va_P D vwCl [(h0, .inr (3, [.ref q5, .ref q16, .ref q27, .int 0, .ref q43, .ref q54, .ref q67, .int 0, .null, .int 0])), (q5, .inr (0, [.int 3, .int 0, .int 0, .int 0, .int 16777215, .ref q5a, .ref q5b])), (q5a, .inl (cA, (4, .inl (fun _ => 0)))), (q5b, .inl (cA, (8, .inl (fun _ => 0)))), (q16, .inr (0, [.int 3, .int 0, .int 0, .int 0, .int 16777215, .ref q16a, .ref q16b])), (q16a, .inl (cA, (4, .inl (fun _ => 0)))), (q16b, .inl (cA, (8, .inl (fun _ => 0)))), (q27, .inr (0, [.int 3, .int 0, .int 0, .int 0, .int 16777215, .ref q27a, .ref q27b])), (q27a, .inl (cA, (4, .inl (fun _ => 0)))), (q27b, .inl (cA, (8, .inl (fun _ => 0)))), (q43, .inr (2, [.ref q43a, .ref q43b, .int 0])), (q43a, .inl (cA, (144, .inl (fun _ => 0)))), (q43b, .inl (cA, (144, .inl (fun _ => 0)))), (q54, .inr (1, [.ref q54a, .int 0, .int 0, .int 0, .int 0, .int 0, .int 0])), (q54a, .inl (cA, (64, .inl (fun _ => 0)))), (q67, .inl (cA, (16, .inl (fun _ => 0))))] H := hP
  have hD : va_D A [(h0, .inr (3, [.ref q5, .ref q16, .ref q27, .int 0, .ref q43, .ref q54, .ref q67, .int 0, .null, .int 0])), (q5, .inr (0, [.int 3, .int 0, .int 0, .int 0, .int 16777215, .ref q5a, .ref q5b])), (q5a, .inl (cA, (4, .inl (fun _ => 0)))), (q5b, .inl (cA, (8, .inl (fun _ => 0)))), (q16, .inr (0, [.int 3, .int 0, .int 0, .int 0, .int 16777215, .ref q16a, .ref q16b])), (q16a, .inl (cA, (4, .inl (fun _ => 0)))), (q16b, .inl (cA, (8, .inl (fun _ => 0)))), (q27, .inr (0, [.int 3, .int 0, .int 0, .int 0, .int 16777215, .ref q27a, .ref q27b])), (q27a, .inl (cA, (4, .inl (fun _ => 0)))), (q27b, .inl (cA, (8, .inl (fun _ => 0)))), (q43, .inr (2, [.ref q43a, .ref q43b, .int 0])), (q43a, .inl (cA, (144, .inl (fun _ => 0)))), (q43b, .inl (cA, (144, .inl (fun _ => 0)))), (q54, .inr (1, [.ref q54a, .int 0, .int 0, .int 0, .int 0, .int 0, .int 0])), (q54a, .inl (cA, (64, .inl (fun _ => 0)))), (q67, .inl (cA, (16, .inl (fun _ => 0))))] := hD
  refine lv_aload_n hx hb dX3_init_77 rfl (lv_at hl 0 rfl) ?_
  refine lv_bipush (v := 7) hx hb dX3_init_78 (by decide +kernel) ?_
  have h_1 : 15 + 1 ≤ 16 := by decide
  have h_2 : 435 + 7 ≤ 442 := by decide
  refine am_newa (n := 7) hx hb (hw (.arrayClass .int) (am_at.wl (p := 99) (by decide +kernel))) hK hP hD hS hA 7 (by decide +kernel) (by decide +kernel) (by decide) h_1 h_2 dX3_init_80 (fun q80 H hP hD hS => ?_)
  have hP : va_P D vwCl [(h0, .inr (3, [.ref q5, .ref q16, .ref q27, .int 0, .ref q43, .ref q54, .ref q67, .int 0, .null, .int 0])), (q5, .inr (0, [.int 3, .int 0, .int 0, .int 0, .int 16777215, .ref q5a, .ref q5b])), (q5a, .inl (cA, (4, .inl (fun _ => 0)))), (q5b, .inl (cA, (8, .inl (fun _ => 0)))), (q16, .inr (0, [.int 3, .int 0, .int 0, .int 0, .int 16777215, .ref q16a, .ref q16b])), (q16a, .inl (cA, (4, .inl (fun _ => 0)))), (q16b, .inl (cA, (8, .inl (fun _ => 0)))), (q27, .inr (0, [.int 3, .int 0, .int 0, .int 0, .int 16777215, .ref q27a, .ref q27b])), (q27a, .inl (cA, (4, .inl (fun _ => 0)))), (q27b, .inl (cA, (8, .inl (fun _ => 0)))), (q43, .inr (2, [.ref q43a, .ref q43b, .int 0])), (q43a, .inl (cA, (144, .inl (fun _ => 0)))), (q43b, .inl (cA, (144, .inl (fun _ => 0)))), (q54, .inr (1, [.ref q54a, .int 0, .int 0, .int 0, .int 0, .int 0, .int 0])), (q54a, .inl (cA, (64, .inl (fun _ => 0)))), (q67, .inl (cA, (16, .inl (fun _ => 0)))), (q80, .inl (cA, (7, .inl (fun _ => 0))))] H := hP
  have hD : va_D A [(h0, .inr (3, [.ref q5, .ref q16, .ref q27, .int 0, .ref q43, .ref q54, .ref q67, .int 0, .null, .int 0])), (q5, .inr (0, [.int 3, .int 0, .int 0, .int 0, .int 16777215, .ref q5a, .ref q5b])), (q5a, .inl (cA, (4, .inl (fun _ => 0)))), (q5b, .inl (cA, (8, .inl (fun _ => 0)))), (q16, .inr (0, [.int 3, .int 0, .int 0, .int 0, .int 16777215, .ref q16a, .ref q16b])), (q16a, .inl (cA, (4, .inl (fun _ => 0)))), (q16b, .inl (cA, (8, .inl (fun _ => 0)))), (q27, .inr (0, [.int 3, .int 0, .int 0, .int 0, .int 16777215, .ref q27a, .ref q27b])), (q27a, .inl (cA, (4, .inl (fun _ => 0)))), (q27b, .inl (cA, (8, .inl (fun _ => 0)))), (q43, .inr (2, [.ref q43a, .ref q43b, .int 0])), (q43a, .inl (cA, (144, .inl (fun _ => 0)))), (q43b, .inl (cA, (144, .inl (fun _ => 0)))), (q54, .inr (1, [.ref q54a, .int 0, .int 0, .int 0, .int 0, .int 0, .int 0])), (q54a, .inl (cA, (64, .inl (fun _ => 0)))), (q67, .inl (cA, (16, .inl (fun _ => 0)))), (q80, .inl (cA, (7, .inl (fun _ => 0))))] := hD
  refine W.widen (k := 16) (n := 442) (by decide) (by decide) ?_
  refine va_putF (D := D) (ci := 3) (v := .ref q80) (ty := .array .int) (C := RX3) (T := TX3) (N := 10) hx hb hw am_u3 tyX3 tyX3_ok nmX3 hown hK hP hD hS 0 rfl rfl 8 (by decide) (hw (.fieldLink RX3 48 (TX3 8).1 (TX3 8).2.1 (TX3 8).2.2.1) (am_at.wl (p := 153) (by decide +kernel))) (fun _ h9 => h9) rfl hin rfl (by decide +kernel) rfl rfl (Nat.le_of_ble_eq_true rfl) dX3_init_82 (fun H locs hP hD hS => ?_)
  have hP : va_P D vwCl [(h0, .inr (3, [.ref q5, .ref q16, .ref q27, .int 0, .ref q43, .ref q54, .ref q67, .int 0, .ref q80, .int 0])), (q5, .inr (0, [.int 3, .int 0, .int 0, .int 0, .int 16777215, .ref q5a, .ref q5b])), (q5a, .inl (cA, (4, .inl (fun _ => 0)))), (q5b, .inl (cA, (8, .inl (fun _ => 0)))), (q16, .inr (0, [.int 3, .int 0, .int 0, .int 0, .int 16777215, .ref q16a, .ref q16b])), (q16a, .inl (cA, (4, .inl (fun _ => 0)))), (q16b, .inl (cA, (8, .inl (fun _ => 0)))), (q27, .inr (0, [.int 3, .int 0, .int 0, .int 0, .int 16777215, .ref q27a, .ref q27b])), (q27a, .inl (cA, (4, .inl (fun _ => 0)))), (q27b, .inl (cA, (8, .inl (fun _ => 0)))), (q43, .inr (2, [.ref q43a, .ref q43b, .int 0])), (q43a, .inl (cA, (144, .inl (fun _ => 0)))), (q43b, .inl (cA, (144, .inl (fun _ => 0)))), (q54, .inr (1, [.ref q54a, .int 0, .int 0, .int 0, .int 0, .int 0, .int 0])), (q54a, .inl (cA, (64, .inl (fun _ => 0)))), (q67, .inl (cA, (16, .inl (fun _ => 0)))), (q80, .inl (cA, (7, .inl (fun _ => 0))))] H := hP
  have hD : va_D A [(h0, .inr (3, [.ref q5, .ref q16, .ref q27, .int 0, .ref q43, .ref q54, .ref q67, .int 0, .ref q80, .int 0])), (q5, .inr (0, [.int 3, .int 0, .int 0, .int 0, .int 16777215, .ref q5a, .ref q5b])), (q5a, .inl (cA, (4, .inl (fun _ => 0)))), (q5b, .inl (cA, (8, .inl (fun _ => 0)))), (q16, .inr (0, [.int 3, .int 0, .int 0, .int 0, .int 16777215, .ref q16a, .ref q16b])), (q16a, .inl (cA, (4, .inl (fun _ => 0)))), (q16b, .inl (cA, (8, .inl (fun _ => 0)))), (q27, .inr (0, [.int 3, .int 0, .int 0, .int 0, .int 16777215, .ref q27a, .ref q27b])), (q27a, .inl (cA, (4, .inl (fun _ => 0)))), (q27b, .inl (cA, (8, .inl (fun _ => 0)))), (q43, .inr (2, [.ref q43a, .ref q43b, .int 0])), (q43a, .inl (cA, (144, .inl (fun _ => 0)))), (q43b, .inl (cA, (144, .inl (fun _ => 0)))), (q54, .inr (1, [.ref q54a, .int 0, .int 0, .int 0, .int 0, .int 0, .int 0])), (q54a, .inl (cA, (64, .inl (fun _ => 0)))), (q67, .inl (cA, (16, .inl (fun _ => 0)))), (q80, .inl (cA, (7, .inl (fun _ => 0))))] := hD
  refine lv_aload_n hx hb dX3_init_85 rfl (lv_at hl 0 rfl) ?_
  refine lv_iconst (v := 0) hx hb dX3_init_86 (by decide +kernel) ?_
  refine va_put (D := D) (ci := 3) (v := .int 0) (ty := .int) (C := RX3) (T := TX3) (N := 10) hx hb hw am_u3 tyX3 tyX3_ok nmX3 hown hK hP hD hS 0 rfl rfl 9 (by decide) (hw (.fieldLink RX3 51 (TX3 9).1 (TX3 9).2.1 (TX3 9).2.2.1) (am_at.wl (p := 154) (by decide +kernel))) (fun _ h9 => h9) rfl (by decide +kernel) rfl rfl (Nat.le_of_ble_eq_true rfl) dX3_init_87 (fun H locs hP hD hS => ?_)
  have hP : va_P D vwCl [(h0, .inr (3, [.ref q5, .ref q16, .ref q27, .int 0, .ref q43, .ref q54, .ref q67, .int 0, .ref q80, .int 0])), (q5, .inr (0, [.int 3, .int 0, .int 0, .int 0, .int 16777215, .ref q5a, .ref q5b])), (q5a, .inl (cA, (4, .inl (fun _ => 0)))), (q5b, .inl (cA, (8, .inl (fun _ => 0)))), (q16, .inr (0, [.int 3, .int 0, .int 0, .int 0, .int 16777215, .ref q16a, .ref q16b])), (q16a, .inl (cA, (4, .inl (fun _ => 0)))), (q16b, .inl (cA, (8, .inl (fun _ => 0)))), (q27, .inr (0, [.int 3, .int 0, .int 0, .int 0, .int 16777215, .ref q27a, .ref q27b])), (q27a, .inl (cA, (4, .inl (fun _ => 0)))), (q27b, .inl (cA, (8, .inl (fun _ => 0)))), (q43, .inr (2, [.ref q43a, .ref q43b, .int 0])), (q43a, .inl (cA, (144, .inl (fun _ => 0)))), (q43b, .inl (cA, (144, .inl (fun _ => 0)))), (q54, .inr (1, [.ref q54a, .int 0, .int 0, .int 0, .int 0, .int 0, .int 0])), (q54a, .inl (cA, (64, .inl (fun _ => 0)))), (q67, .inl (cA, (16, .inl (fun _ => 0)))), (q80, .inl (cA, (7, .inl (fun _ => 0))))] H := hP
  have hD : va_D A [(h0, .inr (3, [.ref q5, .ref q16, .ref q27, .int 0, .ref q43, .ref q54, .ref q67, .int 0, .ref q80, .int 0])), (q5, .inr (0, [.int 3, .int 0, .int 0, .int 0, .int 16777215, .ref q5a, .ref q5b])), (q5a, .inl (cA, (4, .inl (fun _ => 0)))), (q5b, .inl (cA, (8, .inl (fun _ => 0)))), (q16, .inr (0, [.int 3, .int 0, .int 0, .int 0, .int 16777215, .ref q16a, .ref q16b])), (q16a, .inl (cA, (4, .inl (fun _ => 0)))), (q16b, .inl (cA, (8, .inl (fun _ => 0)))), (q27, .inr (0, [.int 3, .int 0, .int 0, .int 0, .int 16777215, .ref q27a, .ref q27b])), (q27a, .inl (cA, (4, .inl (fun _ => 0)))), (q27b, .inl (cA, (8, .inl (fun _ => 0)))), (q43, .inr (2, [.ref q43a, .ref q43b, .int 0])), (q43a, .inl (cA, (144, .inl (fun _ => 0)))), (q43b, .inl (cA, (144, .inl (fun _ => 0)))), (q54, .inr (1, [.ref q54a, .int 0, .int 0, .int 0, .int 0, .int 0, .int 0])), (q54a, .inl (cA, (64, .inl (fun _ => 0)))), (q67, .inl (cA, (16, .inl (fun _ => 0)))), (q80, .inl (cA, (7, .inl (fun _ => 0))))] := hD
  exact W.vret hx hb hr (fun t ht hW => ⟨⟨(q5, q5a, q5b, q16, q16a, q16b, q27, q27a, q27b, q43, q43a, q43b, q54, q54a, q67, q80), rfl, trivial, by rw [ht]; exact hP, va_K.moved hW.alike hK, hD⟩, hS.F ht⟩) hS.2.2 dX3_init_90

abbrev am_at4 (D : va_G) (cA : ClassId) (A : Nat → Prop) (h0 : Nat) (u : Nat × Nat × Nat × Nat × Nat × Nat × Nat × Nat × Nat × Nat × Nat × Nat) (t : State) : Prop := match u with
  | (u0, u1, u2, u3, u4, u5, u6, u7, u8, u9, u10, u11) => va_P D vwCl [(h0, .inr (4, [.ref u0, .ref u1, .ref u2, .int 0, .int 3, .int 0, .int 0, .int 16777215, .ref u3, .ref u4, .ref u5, .ref u6, .int 0, .int 0, .int 0, .ref u7, .int 0, .int 0, .int 0, .ref u8, .ref u9, .int 0, .ref u10, .ref u11, .int 0, .int 0, .int 0])), (u0, .inl (cA, (7, .inl (fun _ => 0)))), (u1, .inl (cA, (4, .inl (fun _ => 0)))), (u2, .inl (cA, (8, .inl (fun _ => 0)))), (u3, .inl (cA, (64, .inl (fun _ => 0)))), (u4, .inl (cA, (32, .inl (fun _ => 0)))), (u5, .inl (cA, (32, .inl (fun _ => 0)))), (u6, .inl (cA, (96, .inl (fun _ => 0)))), (u7, .inl (cA, (40, .inl (fun _ => 0)))), (u8, .inl (cA, (144, .inl (fun _ => 0)))), (u9, .inl (cA, (144, .inl (fun _ => 0)))), (u10, .inl (cA, (16, .inl (fun _ => 0)))), (u11, .inl (cA, (8, .inl (fun _ => 0))))] t.heap ∧ va_K D vwCl [(cA, .int)] t ∧ va_D A [(h0, .inr (4, [.ref u0, .ref u1, .ref u2, .int 0, .int 3, .int 0, .int 0, .int 16777215, .ref u3, .ref u4, .ref u5, .ref u6, .int 0, .int 0, .int 0, .ref u7, .int 0, .int 0, .int 0, .ref u8, .ref u9, .int 0, .ref u10, .ref u11, .int 0, .int 0, .int 0])), (u0, .inl (cA, (7, .inl (fun _ => 0)))), (u1, .inl (cA, (4, .inl (fun _ => 0)))), (u2, .inl (cA, (8, .inl (fun _ => 0)))), (u3, .inl (cA, (64, .inl (fun _ => 0)))), (u4, .inl (cA, (32, .inl (fun _ => 0)))), (u5, .inl (cA, (32, .inl (fun _ => 0)))), (u6, .inl (cA, (96, .inl (fun _ => 0)))), (u7, .inl (cA, (40, .inl (fun _ => 0)))), (u8, .inl (cA, (144, .inl (fun _ => 0)))), (u9, .inl (cA, (144, .inl (fun _ => 0)))), (u10, .inl (cA, (16, .inl (fun _ => 0)))), (u11, .inl (cA, (8, .inl (fun _ => 0))))]
def am_iws4 : List Cond := .code yX4_init cX4_init 1 none :: am_wl
theorem am_iw4 : ∀ w ∈ am_iws4, w ∈ am_wl := fun w hw => by
  rcases List.mem_cons.mp hw with rfl | hw
  · exact am_at.wl (p := 578) (by decide +kernel)
  · exact hw
set_option maxHeartbeats 4000000 in
set_option maxRecDepth 100000 in
theorem c_init4 (l : Launch) (D : va_G) (cA : ClassId) (h0 : Nat) (sz : Nat) : Met l yX4_init am_iws4 ({ frames := 1, cells := 12, slots := 595, locals := 12 }) (va_Pc [.ref h0] (fun U => U.heap.size = sz ∧ va_P D vwCl [(h0, .inr (4, [.null, .null, .null, .int 0, .int 0, .int 0, .int 0, .int 0, .null, .null, .null, .null, .int 0, .int 0, .int 0, .null, .int 0, .int 0, .int 0, .null, .null, .int 0, .null, .null, .int 0, .int 0, .int 0]))] U.heap ∧ va_K D vwCl [(cA, .int)] U ∧ va_D (fun _ => True) [(h0, .inr (4, [.null, .null, .null, .int 0, .int 0, .int 0, .int 0, .int 0, .null, .null, .null, .null, .int 0, .int 0, .int 0, .null, .int 0, .int 0, .int 0, .null, .null, .int 0, .null, .null, .int 0, .int 0, .int 0]))])) (va_Qv (fun _ : Nat × Nat × Nat × Nat × Nat × Nat × Nat × Nat × Nat × Nat × Nat × Nat => True) (am_at4 D cA (va_A [(h0, .inr (4, [.null, .null, .null, .int 0, .int 0, .int 0, .int 0, .int 0, .null, .null, .null, .null, .int 0, .int 0, .int 0, .null, .int 0, .int 0, .int 0, .null, .null, .int 0, .null, .null, .int 0, .int 0, .int 0]))] sz) h0) (va_A [(h0, .inr (4, [.null, .null, .null, .int 0, .int 0, .int 0, .int 0, .int 0, .null, .null, .null, .null, .int 0, .int 0, .int 0, .null, .int 0, .int 0, .int 0, .null, .null, .int 0, .null, .null, .int 0, .int 0, .int 0]))] sz)) 12 595 (va_A [(h0, .inr (4, [.null, .null, .null, .int 0, .int 0, .int 0, .int 0, .int 0, .null, .null, .null, .null, .int 0, .int 0, .int 0, .null, .int 0, .int 0, .int 0, .null, .null, .int 0, .null, .null, .int 0, .int 0, .int 0]))] sz) := by
  refine Met.ofW (cc := cX4_init) (maxL := 1) (ret := none) (by decide) rfl ?_
  intro p e s m args below meth c s₁ B hml hv
  obtain ⟨rfl, hsz, hP, hK, hD0⟩ := hv
  have hx := B.exec
  have hb := B.bytes
  have hr := B.returns
  have hts := atoms_spec (ws := am_iws4) B.pre
  have hw : ∀ w ∈ am_wl, w.before #[.ref h0] s = true := fun w h => hts w (List.mem_cons_of_mem _ h)
  have hown : s.vm.findClass RX4 = some m.cls := findClass_of_methodNamed B.named
  have hlocks := B.notSynchronized
  have hin : meth.name = "<init>" := (name_of_methodNamed B.named B.method).1
  subst hsz
  have hD := hD0.self (sz := s.heap.size)
  generalize hAe : va_A [(h0, .inr (4, [.null, .null, .null, .int 0, .int 0, .int 0, .int 0, .int 0, .null, .null, .null, .null, .int 0, .int 0, .int 0, .null, .int 0, .int 0, .int 0, .null, .null, .int 0, .null, .null, .int 0, .int 0, .int 0]))] s.heap.size = A at hD ⊢
  have hA : ∀ q : Nat, s.heap.size ≤ q → A q := fun q h => by rw [← hAe]; exact Or.inr h
  have hS : va_S A s.heap s.heap [] := va_S.rf
  have hP : va_P D vwCl [(h0, .inr (4, [.null, .null, .null, .int 0, .int 0, .int 0, .int 0, .int 0, .null, .null, .null, .null, .int 0, .int 0, .int 0, .null, .int 0, .int 0, .int 0, .null, .null, .int 0, .null, .null, .int 0, .int 0, .int 0]))] s.heap := hP
  have hl := lv_entry ([.ref h0]) (n := 1) (Nat.le_of_ble_eq_true rfl)
  rw [lg_entry_eq]
  generalize (lg_sl ([.ref h0]) ++ List.replicate (1 - (lg_sl ([.ref h0])).length) Slot.unset).toArray = ls at hl ⊢
  have hl : lv_has ls 1 [(0, .ref h0)] := hl
  refine lv_aload_n hx hb dX4_init_0 rfl (lv_at hl 0 rfl) ?_
  refine W.objInit hx hb hown (hw (.methodLink RX4 1 objectInit) (am_at.wl (p := 579) (by decide +kernel))) (hw (.instanceMethod objectInit) (am_at.wl (p := 61) (by decide +kernel))) (hw (.code objectInit ⟨#[0xb1]⟩ 1 none) (am_at.wl (p := 62) (by decide +kernel))) rfl (by rw [hml]; exact hl.1) rfl dX4_init_1 (Nat.le_of_ble_eq_true rfl) (Nat.le_of_ble_eq_true rfl) ?_
  refine W.eq (g2 := F0 m 4 ls []) rfl ?_
  refine lv_aload_n hx hb dX4_init_4 rfl (lv_at hl 0 rfl) ?_
  refine lv_bipush (v := 7) hx hb dX4_init_5 (by decide +kernel) ?_
  have h_1 : 0 + 1 ≤ 12 := by decide
  have h_2 : 0 + 7 ≤ 595 := by decide
  refine am_newa (n := 7) hx hb (hw (.arrayClass .int) (am_at.wl (p := 99) (by decide +kernel))) hK hP hD hS hA 7 (by decide +kernel) (by decide +kernel) (by decide) h_1 h_2 dX4_init_7 (fun q7 H hP hD hS => ?_)
  have hP : va_P D vwCl [(h0, .inr (4, [.null, .null, .null, .int 0, .int 0, .int 0, .int 0, .int 0, .null, .null, .null, .null, .int 0, .int 0, .int 0, .null, .int 0, .int 0, .int 0, .null, .null, .int 0, .null, .null, .int 0, .int 0, .int 0])), (q7, .inl (cA, (7, .inl (fun _ => 0))))] H := hP
  have hD : va_D A [(h0, .inr (4, [.null, .null, .null, .int 0, .int 0, .int 0, .int 0, .int 0, .null, .null, .null, .null, .int 0, .int 0, .int 0, .null, .int 0, .int 0, .int 0, .null, .null, .int 0, .null, .null, .int 0, .int 0, .int 0])), (q7, .inl (cA, (7, .inl (fun _ => 0))))] := hD
  refine W.widen (k := 1) (n := 7) (by decide) (by decide) ?_
  refine va_putF (D := D) (ci := 4) (v := .ref q7) (ty := .array .int) (C := RX4) (T := TX4) (N := 27) hx hb hw am_u4 tyX4 tyX4_ok nmX4 hown hK hP hD hS 0 rfl rfl 0 (by decide) (hw (.fieldLink RX4 7 (TX4 0).1 (TX4 0).2.1 (TX4 0).2.2.1) (am_at.wl (p := 581) (by decide +kernel))) (fun _ h9 => h9) rfl hin rfl (by decide +kernel) rfl rfl (Nat.le_of_ble_eq_true rfl) dX4_init_9 (fun H locs hP hD hS => ?_)
  have hP : va_P D vwCl [(h0, .inr (4, [.ref q7, .null, .null, .int 0, .int 0, .int 0, .int 0, .int 0, .null, .null, .null, .null, .int 0, .int 0, .int 0, .null, .int 0, .int 0, .int 0, .null, .null, .int 0, .null, .null, .int 0, .int 0, .int 0])), (q7, .inl (cA, (7, .inl (fun _ => 0))))] H := hP
  have hD : va_D A [(h0, .inr (4, [.ref q7, .null, .null, .int 0, .int 0, .int 0, .int 0, .int 0, .null, .null, .null, .null, .int 0, .int 0, .int 0, .null, .int 0, .int 0, .int 0, .null, .null, .int 0, .null, .null, .int 0, .int 0, .int 0])), (q7, .inl (cA, (7, .inl (fun _ => 0))))] := hD
  refine lv_aload_n hx hb dX4_init_12 rfl (lv_at hl 0 rfl) ?_
  refine lv_iconst (v := 4) hx hb dX4_init_13 (by decide +kernel) ?_
  have h_1 : 1 + 1 ≤ 12 := by decide
  have h_2 : 7 + 4 ≤ 595 := by decide
  refine am_newa (n := 4) hx hb (hw (.arrayClass .int) (am_at.wl (p := 99) (by decide +kernel))) hK hP hD hS hA 4 (by decide +kernel) (by decide +kernel) (by decide) h_1 h_2 dX4_init_14 (fun q14 H hP hD hS => ?_)
  have hP : va_P D vwCl [(h0, .inr (4, [.ref q7, .null, .null, .int 0, .int 0, .int 0, .int 0, .int 0, .null, .null, .null, .null, .int 0, .int 0, .int 0, .null, .int 0, .int 0, .int 0, .null, .null, .int 0, .null, .null, .int 0, .int 0, .int 0])), (q7, .inl (cA, (7, .inl (fun _ => 0)))), (q14, .inl (cA, (4, .inl (fun _ => 0))))] H := hP
  have hD : va_D A [(h0, .inr (4, [.ref q7, .null, .null, .int 0, .int 0, .int 0, .int 0, .int 0, .null, .null, .null, .null, .int 0, .int 0, .int 0, .null, .int 0, .int 0, .int 0, .null, .null, .int 0, .null, .null, .int 0, .int 0, .int 0])), (q7, .inl (cA, (7, .inl (fun _ => 0)))), (q14, .inl (cA, (4, .inl (fun _ => 0))))] := hD
  refine W.widen (k := 2) (n := 11) (by decide) (by decide) ?_
  refine va_putF (D := D) (ci := 4) (v := .ref q14) (ty := .array .int) (C := RX4) (T := TX4) (N := 27) hx hb hw am_u4 tyX4 tyX4_ok nmX4 hown hK hP hD hS 0 rfl rfl 1 (by decide) (hw (.fieldLink RX4 13 (TX4 1).1 (TX4 1).2.1 (TX4 1).2.2.1) (am_at.wl (p := 582) (by decide +kernel))) (fun _ h9 => h9) rfl hin rfl (by decide +kernel) rfl rfl (Nat.le_of_ble_eq_true rfl) dX4_init_16 (fun H locs hP hD hS => ?_)
  have hP : va_P D vwCl [(h0, .inr (4, [.ref q7, .ref q14, .null, .int 0, .int 0, .int 0, .int 0, .int 0, .null, .null, .null, .null, .int 0, .int 0, .int 0, .null, .int 0, .int 0, .int 0, .null, .null, .int 0, .null, .null, .int 0, .int 0, .int 0])), (q7, .inl (cA, (7, .inl (fun _ => 0)))), (q14, .inl (cA, (4, .inl (fun _ => 0))))] H := hP
  have hD : va_D A [(h0, .inr (4, [.ref q7, .ref q14, .null, .int 0, .int 0, .int 0, .int 0, .int 0, .null, .null, .null, .null, .int 0, .int 0, .int 0, .null, .int 0, .int 0, .int 0, .null, .null, .int 0, .null, .null, .int 0, .int 0, .int 0])), (q7, .inl (cA, (7, .inl (fun _ => 0)))), (q14, .inl (cA, (4, .inl (fun _ => 0))))] := hD
  refine lv_aload_n hx hb dX4_init_19 rfl (lv_at hl 0 rfl) ?_
  refine lv_bipush (v := 8) hx hb dX4_init_20 (by decide +kernel) ?_
  have h_1 : 2 + 1 ≤ 12 := by decide
  have h_2 : 11 + 8 ≤ 595 := by decide
  refine am_newa (n := 8) hx hb (hw (.arrayClass .int) (am_at.wl (p := 99) (by decide +kernel))) hK hP hD hS hA 8 (by decide +kernel) (by decide +kernel) (by decide) h_1 h_2 dX4_init_22 (fun q22 H hP hD hS => ?_)
  have hP : va_P D vwCl [(h0, .inr (4, [.ref q7, .ref q14, .null, .int 0, .int 0, .int 0, .int 0, .int 0, .null, .null, .null, .null, .int 0, .int 0, .int 0, .null, .int 0, .int 0, .int 0, .null, .null, .int 0, .null, .null, .int 0, .int 0, .int 0])), (q7, .inl (cA, (7, .inl (fun _ => 0)))), (q14, .inl (cA, (4, .inl (fun _ => 0)))), (q22, .inl (cA, (8, .inl (fun _ => 0))))] H := hP
  have hD : va_D A [(h0, .inr (4, [.ref q7, .ref q14, .null, .int 0, .int 0, .int 0, .int 0, .int 0, .null, .null, .null, .null, .int 0, .int 0, .int 0, .null, .int 0, .int 0, .int 0, .null, .null, .int 0, .null, .null, .int 0, .int 0, .int 0])), (q7, .inl (cA, (7, .inl (fun _ => 0)))), (q14, .inl (cA, (4, .inl (fun _ => 0)))), (q22, .inl (cA, (8, .inl (fun _ => 0))))] := hD
  refine W.widen (k := 3) (n := 19) (by decide) (by decide) ?_
  refine va_putF (D := D) (ci := 4) (v := .ref q22) (ty := .array .int) (C := RX4) (T := TX4) (N := 27) hx hb hw am_u4 tyX4 tyX4_ok nmX4 hown hK hP hD hS 0 rfl rfl 2 (by decide) (hw (.fieldLink RX4 16 (TX4 2).1 (TX4 2).2.1 (TX4 2).2.2.1) (am_at.wl (p := 583) (by decide +kernel))) (fun _ h9 => h9) rfl hin rfl (by decide +kernel) rfl rfl (Nat.le_of_ble_eq_true rfl) dX4_init_24 (fun H locs hP hD hS => ?_)
  have hP : va_P D vwCl [(h0, .inr (4, [.ref q7, .ref q14, .ref q22, .int 0, .int 0, .int 0, .int 0, .int 0, .null, .null, .null, .null, .int 0, .int 0, .int 0, .null, .int 0, .int 0, .int 0, .null, .null, .int 0, .null, .null, .int 0, .int 0, .int 0])), (q7, .inl (cA, (7, .inl (fun _ => 0)))), (q14, .inl (cA, (4, .inl (fun _ => 0)))), (q22, .inl (cA, (8, .inl (fun _ => 0))))] H := hP
  have hD : va_D A [(h0, .inr (4, [.ref q7, .ref q14, .ref q22, .int 0, .int 0, .int 0, .int 0, .int 0, .null, .null, .null, .null, .int 0, .int 0, .int 0, .null, .int 0, .int 0, .int 0, .null, .null, .int 0, .null, .null, .int 0, .int 0, .int 0])), (q7, .inl (cA, (7, .inl (fun _ => 0)))), (q14, .inl (cA, (4, .inl (fun _ => 0)))), (q22, .inl (cA, (8, .inl (fun _ => 0))))] := hD
  refine lv_aload_n hx hb dX4_init_27 rfl (lv_at hl 0 rfl) ?_
  refine lv_iconst (v := 3) hx hb dX4_init_28 (by decide +kernel) ?_
  refine va_put (D := D) (ci := 4) (v := .int 3) (ty := .int) (C := RX4) (T := TX4) (N := 27) hx hb hw am_u4 tyX4 tyX4_ok nmX4 hown hK hP hD hS 0 rfl rfl 4 (by decide) (hw (.fieldLink RX4 19 (TX4 4).1 (TX4 4).2.1 (TX4 4).2.2.1) (am_at.wl (p := 585) (by decide +kernel))) (fun _ h9 => h9) rfl (by decide +kernel) rfl rfl (Nat.le_of_ble_eq_true rfl) dX4_init_29 (fun H locs hP hD hS => ?_)
  have hP : va_P D vwCl [(h0, .inr (4, [.ref q7, .ref q14, .ref q22, .int 0, .int 3, .int 0, .int 0, .int 0, .null, .null, .null, .null, .int 0, .int 0, .int 0, .null, .int 0, .int 0, .int 0, .null, .null, .int 0, .null, .null, .int 0, .int 0, .int 0])), (q7, .inl (cA, (7, .inl (fun _ => 0)))), (q14, .inl (cA, (4, .inl (fun _ => 0)))), (q22, .inl (cA, (8, .inl (fun _ => 0))))] H := hP
  have hD : va_D A [(h0, .inr (4, [.ref q7, .ref q14, .ref q22, .int 0, .int 3, .int 0, .int 0, .int 0, .null, .null, .null, .null, .int 0, .int 0, .int 0, .null, .int 0, .int 0, .int 0, .null, .null, .int 0, .null, .null, .int 0, .int 0, .int 0])), (q7, .inl (cA, (7, .inl (fun _ => 0)))), (q14, .inl (cA, (4, .inl (fun _ => 0)))), (q22, .inl (cA, (8, .inl (fun _ => 0))))] := hD
  refine lv_aload_n hx hb dX4_init_32 rfl (lv_at hl 0 rfl) ?_
  refine lv_ldc (v := 16777215) hx hb hown (hw (.constant RX4 23 16777215) (am_at.wl (p := 580) (by decide +kernel))) dX4_init_33 ?_
  refine va_put (D := D) (ci := 4) (v := .int 16777215) (ty := .int) (C := RX4) (T := TX4) (N := 27) hx hb hw am_u4 tyX4 tyX4_ok nmX4 hown hK hP hD hS 0 rfl rfl 7 (by decide) (hw (.fieldLink RX4 24 (TX4 7).1 (TX4 7).2.1 (TX4 7).2.2.1) (am_at.wl (p := 588) (by decide +kernel))) (fun _ h9 => h9) rfl (by decide +kernel) rfl rfl (Nat.le_of_ble_eq_true rfl) dX4_init_35 (fun H locs hP hD hS => ?_)
  have hP : va_P D vwCl [(h0, .inr (4, [.ref q7, .ref q14, .ref q22, .int 0, .int 3, .int 0, .int 0, .int 16777215, .null, .null, .null, .null, .int 0, .int 0, .int 0, .null, .int 0, .int 0, .int 0, .null, .null, .int 0, .null, .null, .int 0, .int 0, .int 0])), (q7, .inl (cA, (7, .inl (fun _ => 0)))), (q14, .inl (cA, (4, .inl (fun _ => 0)))), (q22, .inl (cA, (8, .inl (fun _ => 0))))] H := hP
  have hD : va_D A [(h0, .inr (4, [.ref q7, .ref q14, .ref q22, .int 0, .int 3, .int 0, .int 0, .int 16777215, .null, .null, .null, .null, .int 0, .int 0, .int 0, .null, .int 0, .int 0, .int 0, .null, .null, .int 0, .null, .null, .int 0, .int 0, .int 0])), (q7, .inl (cA, (7, .inl (fun _ => 0)))), (q14, .inl (cA, (4, .inl (fun _ => 0)))), (q22, .inl (cA, (8, .inl (fun _ => 0))))] := hD
  refine lv_aload_n hx hb dX4_init_38 rfl (lv_at hl 0 rfl) ?_
  refine lv_bipush (v := 64) hx hb dX4_init_39 (by decide +kernel) ?_
  have h_1 : 3 + 1 ≤ 12 := by decide
  have h_2 : 19 + 64 ≤ 595 := by decide
  refine am_newa (n := 64) hx hb (hw (.arrayClass .int) (am_at.wl (p := 99) (by decide +kernel))) hK hP hD hS hA 64 (by decide +kernel) (by decide +kernel) (by decide) h_1 h_2 dX4_init_41 (fun q41 H hP hD hS => ?_)
  have hP : va_P D vwCl [(h0, .inr (4, [.ref q7, .ref q14, .ref q22, .int 0, .int 3, .int 0, .int 0, .int 16777215, .null, .null, .null, .null, .int 0, .int 0, .int 0, .null, .int 0, .int 0, .int 0, .null, .null, .int 0, .null, .null, .int 0, .int 0, .int 0])), (q7, .inl (cA, (7, .inl (fun _ => 0)))), (q14, .inl (cA, (4, .inl (fun _ => 0)))), (q22, .inl (cA, (8, .inl (fun _ => 0)))), (q41, .inl (cA, (64, .inl (fun _ => 0))))] H := hP
  have hD : va_D A [(h0, .inr (4, [.ref q7, .ref q14, .ref q22, .int 0, .int 3, .int 0, .int 0, .int 16777215, .null, .null, .null, .null, .int 0, .int 0, .int 0, .null, .int 0, .int 0, .int 0, .null, .null, .int 0, .null, .null, .int 0, .int 0, .int 0])), (q7, .inl (cA, (7, .inl (fun _ => 0)))), (q14, .inl (cA, (4, .inl (fun _ => 0)))), (q22, .inl (cA, (8, .inl (fun _ => 0)))), (q41, .inl (cA, (64, .inl (fun _ => 0))))] := hD
  refine W.widen (k := 4) (n := 83) (by decide) (by decide) ?_
  refine va_putF (D := D) (ci := 4) (v := .ref q41) (ty := .array .int) (C := RX4) (T := TX4) (N := 27) hx hb hw am_u4 tyX4 tyX4_ok nmX4 hown hK hP hD hS 0 rfl rfl 8 (by decide) (hw (.fieldLink RX4 27 (TX4 8).1 (TX4 8).2.1 (TX4 8).2.2.1) (am_at.wl (p := 589) (by decide +kernel))) (fun _ h9 => h9) rfl hin rfl (by decide +kernel) rfl rfl (Nat.le_of_ble_eq_true rfl) dX4_init_43 (fun H locs hP hD hS => ?_)
  have hP : va_P D vwCl [(h0, .inr (4, [.ref q7, .ref q14, .ref q22, .int 0, .int 3, .int 0, .int 0, .int 16777215, .ref q41, .null, .null, .null, .int 0, .int 0, .int 0, .null, .int 0, .int 0, .int 0, .null, .null, .int 0, .null, .null, .int 0, .int 0, .int 0])), (q7, .inl (cA, (7, .inl (fun _ => 0)))), (q14, .inl (cA, (4, .inl (fun _ => 0)))), (q22, .inl (cA, (8, .inl (fun _ => 0)))), (q41, .inl (cA, (64, .inl (fun _ => 0))))] H := hP
  have hD : va_D A [(h0, .inr (4, [.ref q7, .ref q14, .ref q22, .int 0, .int 3, .int 0, .int 0, .int 16777215, .ref q41, .null, .null, .null, .int 0, .int 0, .int 0, .null, .int 0, .int 0, .int 0, .null, .null, .int 0, .null, .null, .int 0, .int 0, .int 0])), (q7, .inl (cA, (7, .inl (fun _ => 0)))), (q14, .inl (cA, (4, .inl (fun _ => 0)))), (q22, .inl (cA, (8, .inl (fun _ => 0)))), (q41, .inl (cA, (64, .inl (fun _ => 0))))] := hD
  refine lv_aload_n hx hb dX4_init_46 rfl (lv_at hl 0 rfl) ?_
  refine lv_bipush (v := 32) hx hb dX4_init_47 (by decide +kernel) ?_
  have h_1 : 4 + 1 ≤ 12 := by decide
  have h_2 : 83 + 32 ≤ 595 := by decide
  refine am_newa (n := 32) hx hb (hw (.arrayClass .int) (am_at.wl (p := 99) (by decide +kernel))) hK hP hD hS hA 32 (by decide +kernel) (by decide +kernel) (by decide) h_1 h_2 dX4_init_49 (fun q49 H hP hD hS => ?_)
  have hP : va_P D vwCl [(h0, .inr (4, [.ref q7, .ref q14, .ref q22, .int 0, .int 3, .int 0, .int 0, .int 16777215, .ref q41, .null, .null, .null, .int 0, .int 0, .int 0, .null, .int 0, .int 0, .int 0, .null, .null, .int 0, .null, .null, .int 0, .int 0, .int 0])), (q7, .inl (cA, (7, .inl (fun _ => 0)))), (q14, .inl (cA, (4, .inl (fun _ => 0)))), (q22, .inl (cA, (8, .inl (fun _ => 0)))), (q41, .inl (cA, (64, .inl (fun _ => 0)))), (q49, .inl (cA, (32, .inl (fun _ => 0))))] H := hP
  have hD : va_D A [(h0, .inr (4, [.ref q7, .ref q14, .ref q22, .int 0, .int 3, .int 0, .int 0, .int 16777215, .ref q41, .null, .null, .null, .int 0, .int 0, .int 0, .null, .int 0, .int 0, .int 0, .null, .null, .int 0, .null, .null, .int 0, .int 0, .int 0])), (q7, .inl (cA, (7, .inl (fun _ => 0)))), (q14, .inl (cA, (4, .inl (fun _ => 0)))), (q22, .inl (cA, (8, .inl (fun _ => 0)))), (q41, .inl (cA, (64, .inl (fun _ => 0)))), (q49, .inl (cA, (32, .inl (fun _ => 0))))] := hD
  refine W.widen (k := 5) (n := 115) (by decide) (by decide) ?_
  refine va_putF (D := D) (ci := 4) (v := .ref q49) (ty := .array .int) (C := RX4) (T := TX4) (N := 27) hx hb hw am_u4 tyX4 tyX4_ok nmX4 hown hK hP hD hS 0 rfl rfl 9 (by decide) (hw (.fieldLink RX4 30 (TX4 9).1 (TX4 9).2.1 (TX4 9).2.2.1) (am_at.wl (p := 590) (by decide +kernel))) (fun _ h9 => h9) rfl hin rfl (by decide +kernel) rfl rfl (Nat.le_of_ble_eq_true rfl) dX4_init_51 (fun H locs hP hD hS => ?_)
  have hP : va_P D vwCl [(h0, .inr (4, [.ref q7, .ref q14, .ref q22, .int 0, .int 3, .int 0, .int 0, .int 16777215, .ref q41, .ref q49, .null, .null, .int 0, .int 0, .int 0, .null, .int 0, .int 0, .int 0, .null, .null, .int 0, .null, .null, .int 0, .int 0, .int 0])), (q7, .inl (cA, (7, .inl (fun _ => 0)))), (q14, .inl (cA, (4, .inl (fun _ => 0)))), (q22, .inl (cA, (8, .inl (fun _ => 0)))), (q41, .inl (cA, (64, .inl (fun _ => 0)))), (q49, .inl (cA, (32, .inl (fun _ => 0))))] H := hP
  have hD : va_D A [(h0, .inr (4, [.ref q7, .ref q14, .ref q22, .int 0, .int 3, .int 0, .int 0, .int 16777215, .ref q41, .ref q49, .null, .null, .int 0, .int 0, .int 0, .null, .int 0, .int 0, .int 0, .null, .null, .int 0, .null, .null, .int 0, .int 0, .int 0])), (q7, .inl (cA, (7, .inl (fun _ => 0)))), (q14, .inl (cA, (4, .inl (fun _ => 0)))), (q22, .inl (cA, (8, .inl (fun _ => 0)))), (q41, .inl (cA, (64, .inl (fun _ => 0)))), (q49, .inl (cA, (32, .inl (fun _ => 0))))] := hD
  refine lv_aload_n hx hb dX4_init_54 rfl (lv_at hl 0 rfl) ?_
  refine lv_bipush (v := 32) hx hb dX4_init_55 (by decide +kernel) ?_
  have h_1 : 5 + 1 ≤ 12 := by decide
  have h_2 : 115 + 32 ≤ 595 := by decide
  refine am_newa (n := 32) hx hb (hw (.arrayClass .int) (am_at.wl (p := 99) (by decide +kernel))) hK hP hD hS hA 32 (by decide +kernel) (by decide +kernel) (by decide) h_1 h_2 dX4_init_57 (fun q57 H hP hD hS => ?_)
  have hP : va_P D vwCl [(h0, .inr (4, [.ref q7, .ref q14, .ref q22, .int 0, .int 3, .int 0, .int 0, .int 16777215, .ref q41, .ref q49, .null, .null, .int 0, .int 0, .int 0, .null, .int 0, .int 0, .int 0, .null, .null, .int 0, .null, .null, .int 0, .int 0, .int 0])), (q7, .inl (cA, (7, .inl (fun _ => 0)))), (q14, .inl (cA, (4, .inl (fun _ => 0)))), (q22, .inl (cA, (8, .inl (fun _ => 0)))), (q41, .inl (cA, (64, .inl (fun _ => 0)))), (q49, .inl (cA, (32, .inl (fun _ => 0)))), (q57, .inl (cA, (32, .inl (fun _ => 0))))] H := hP
  have hD : va_D A [(h0, .inr (4, [.ref q7, .ref q14, .ref q22, .int 0, .int 3, .int 0, .int 0, .int 16777215, .ref q41, .ref q49, .null, .null, .int 0, .int 0, .int 0, .null, .int 0, .int 0, .int 0, .null, .null, .int 0, .null, .null, .int 0, .int 0, .int 0])), (q7, .inl (cA, (7, .inl (fun _ => 0)))), (q14, .inl (cA, (4, .inl (fun _ => 0)))), (q22, .inl (cA, (8, .inl (fun _ => 0)))), (q41, .inl (cA, (64, .inl (fun _ => 0)))), (q49, .inl (cA, (32, .inl (fun _ => 0)))), (q57, .inl (cA, (32, .inl (fun _ => 0))))] := hD
  refine W.widen (k := 6) (n := 147) (by decide) (by decide) ?_
  refine va_putF (D := D) (ci := 4) (v := .ref q57) (ty := .array .int) (C := RX4) (T := TX4) (N := 27) hx hb hw am_u4 tyX4 tyX4_ok nmX4 hown hK hP hD hS 0 rfl rfl 10 (by decide) (hw (.fieldLink RX4 33 (TX4 10).1 (TX4 10).2.1 (TX4 10).2.2.1) (am_at.wl (p := 591) (by decide +kernel))) (fun _ h9 => h9) rfl hin rfl (by decide +kernel) rfl rfl (Nat.le_of_ble_eq_true rfl) dX4_init_59 (fun H locs hP hD hS => ?_)
  have hP : va_P D vwCl [(h0, .inr (4, [.ref q7, .ref q14, .ref q22, .int 0, .int 3, .int 0, .int 0, .int 16777215, .ref q41, .ref q49, .ref q57, .null, .int 0, .int 0, .int 0, .null, .int 0, .int 0, .int 0, .null, .null, .int 0, .null, .null, .int 0, .int 0, .int 0])), (q7, .inl (cA, (7, .inl (fun _ => 0)))), (q14, .inl (cA, (4, .inl (fun _ => 0)))), (q22, .inl (cA, (8, .inl (fun _ => 0)))), (q41, .inl (cA, (64, .inl (fun _ => 0)))), (q49, .inl (cA, (32, .inl (fun _ => 0)))), (q57, .inl (cA, (32, .inl (fun _ => 0))))] H := hP
  have hD : va_D A [(h0, .inr (4, [.ref q7, .ref q14, .ref q22, .int 0, .int 3, .int 0, .int 0, .int 16777215, .ref q41, .ref q49, .ref q57, .null, .int 0, .int 0, .int 0, .null, .int 0, .int 0, .int 0, .null, .null, .int 0, .null, .null, .int 0, .int 0, .int 0])), (q7, .inl (cA, (7, .inl (fun _ => 0)))), (q14, .inl (cA, (4, .inl (fun _ => 0)))), (q22, .inl (cA, (8, .inl (fun _ => 0)))), (q41, .inl (cA, (64, .inl (fun _ => 0)))), (q49, .inl (cA, (32, .inl (fun _ => 0)))), (q57, .inl (cA, (32, .inl (fun _ => 0))))] := hD
  refine lv_aload_n hx hb dX4_init_62 rfl (lv_at hl 0 rfl) ?_
  refine lv_bipush (v := 96) hx hb dX4_init_63 (by decide +kernel) ?_
  have h_1 : 6 + 1 ≤ 12 := by decide
  have h_2 : 147 + 96 ≤ 595 := by decide
  refine am_newa (n := 96) hx hb (hw (.arrayClass .int) (am_at.wl (p := 99) (by decide +kernel))) hK hP hD hS hA 96 (by decide +kernel) (by decide +kernel) (by decide) h_1 h_2 dX4_init_65 (fun q65 H hP hD hS => ?_)
  have hP : va_P D vwCl [(h0, .inr (4, [.ref q7, .ref q14, .ref q22, .int 0, .int 3, .int 0, .int 0, .int 16777215, .ref q41, .ref q49, .ref q57, .null, .int 0, .int 0, .int 0, .null, .int 0, .int 0, .int 0, .null, .null, .int 0, .null, .null, .int 0, .int 0, .int 0])), (q7, .inl (cA, (7, .inl (fun _ => 0)))), (q14, .inl (cA, (4, .inl (fun _ => 0)))), (q22, .inl (cA, (8, .inl (fun _ => 0)))), (q41, .inl (cA, (64, .inl (fun _ => 0)))), (q49, .inl (cA, (32, .inl (fun _ => 0)))), (q57, .inl (cA, (32, .inl (fun _ => 0)))), (q65, .inl (cA, (96, .inl (fun _ => 0))))] H := hP
  have hD : va_D A [(h0, .inr (4, [.ref q7, .ref q14, .ref q22, .int 0, .int 3, .int 0, .int 0, .int 16777215, .ref q41, .ref q49, .ref q57, .null, .int 0, .int 0, .int 0, .null, .int 0, .int 0, .int 0, .null, .null, .int 0, .null, .null, .int 0, .int 0, .int 0])), (q7, .inl (cA, (7, .inl (fun _ => 0)))), (q14, .inl (cA, (4, .inl (fun _ => 0)))), (q22, .inl (cA, (8, .inl (fun _ => 0)))), (q41, .inl (cA, (64, .inl (fun _ => 0)))), (q49, .inl (cA, (32, .inl (fun _ => 0)))), (q57, .inl (cA, (32, .inl (fun _ => 0)))), (q65, .inl (cA, (96, .inl (fun _ => 0))))] := hD
  refine W.widen (k := 7) (n := 243) (by decide) (by decide) ?_
  refine va_putF (D := D) (ci := 4) (v := .ref q65) (ty := .array .int) (C := RX4) (T := TX4) (N := 27) hx hb hw am_u4 tyX4 tyX4_ok nmX4 hown hK hP hD hS 0 rfl rfl 11 (by decide) (hw (.fieldLink RX4 36 (TX4 11).1 (TX4 11).2.1 (TX4 11).2.2.1) (am_at.wl (p := 592) (by decide +kernel))) (fun _ h9 => h9) rfl hin rfl (by decide +kernel) rfl rfl (Nat.le_of_ble_eq_true rfl) dX4_init_67 (fun H locs hP hD hS => ?_)
  have hP : va_P D vwCl [(h0, .inr (4, [.ref q7, .ref q14, .ref q22, .int 0, .int 3, .int 0, .int 0, .int 16777215, .ref q41, .ref q49, .ref q57, .ref q65, .int 0, .int 0, .int 0, .null, .int 0, .int 0, .int 0, .null, .null, .int 0, .null, .null, .int 0, .int 0, .int 0])), (q7, .inl (cA, (7, .inl (fun _ => 0)))), (q14, .inl (cA, (4, .inl (fun _ => 0)))), (q22, .inl (cA, (8, .inl (fun _ => 0)))), (q41, .inl (cA, (64, .inl (fun _ => 0)))), (q49, .inl (cA, (32, .inl (fun _ => 0)))), (q57, .inl (cA, (32, .inl (fun _ => 0)))), (q65, .inl (cA, (96, .inl (fun _ => 0))))] H := hP
  have hD : va_D A [(h0, .inr (4, [.ref q7, .ref q14, .ref q22, .int 0, .int 3, .int 0, .int 0, .int 16777215, .ref q41, .ref q49, .ref q57, .ref q65, .int 0, .int 0, .int 0, .null, .int 0, .int 0, .int 0, .null, .null, .int 0, .null, .null, .int 0, .int 0, .int 0])), (q7, .inl (cA, (7, .inl (fun _ => 0)))), (q14, .inl (cA, (4, .inl (fun _ => 0)))), (q22, .inl (cA, (8, .inl (fun _ => 0)))), (q41, .inl (cA, (64, .inl (fun _ => 0)))), (q49, .inl (cA, (32, .inl (fun _ => 0)))), (q57, .inl (cA, (32, .inl (fun _ => 0)))), (q65, .inl (cA, (96, .inl (fun _ => 0))))] := hD
  refine lv_aload_n hx hb dX4_init_70 rfl (lv_at hl 0 rfl) ?_
  refine lv_bipush (v := 40) hx hb dX4_init_71 (by decide +kernel) ?_
  have h_1 : 7 + 1 ≤ 12 := by decide
  have h_2 : 243 + 40 ≤ 595 := by decide
  refine am_newa (n := 40) hx hb (hw (.arrayClass .int) (am_at.wl (p := 99) (by decide +kernel))) hK hP hD hS hA 40 (by decide +kernel) (by decide +kernel) (by decide) h_1 h_2 dX4_init_73 (fun q73 H hP hD hS => ?_)
  have hP : va_P D vwCl [(h0, .inr (4, [.ref q7, .ref q14, .ref q22, .int 0, .int 3, .int 0, .int 0, .int 16777215, .ref q41, .ref q49, .ref q57, .ref q65, .int 0, .int 0, .int 0, .null, .int 0, .int 0, .int 0, .null, .null, .int 0, .null, .null, .int 0, .int 0, .int 0])), (q7, .inl (cA, (7, .inl (fun _ => 0)))), (q14, .inl (cA, (4, .inl (fun _ => 0)))), (q22, .inl (cA, (8, .inl (fun _ => 0)))), (q41, .inl (cA, (64, .inl (fun _ => 0)))), (q49, .inl (cA, (32, .inl (fun _ => 0)))), (q57, .inl (cA, (32, .inl (fun _ => 0)))), (q65, .inl (cA, (96, .inl (fun _ => 0)))), (q73, .inl (cA, (40, .inl (fun _ => 0))))] H := hP
  have hD : va_D A [(h0, .inr (4, [.ref q7, .ref q14, .ref q22, .int 0, .int 3, .int 0, .int 0, .int 16777215, .ref q41, .ref q49, .ref q57, .ref q65, .int 0, .int 0, .int 0, .null, .int 0, .int 0, .int 0, .null, .null, .int 0, .null, .null, .int 0, .int 0, .int 0])), (q7, .inl (cA, (7, .inl (fun _ => 0)))), (q14, .inl (cA, (4, .inl (fun _ => 0)))), (q22, .inl (cA, (8, .inl (fun _ => 0)))), (q41, .inl (cA, (64, .inl (fun _ => 0)))), (q49, .inl (cA, (32, .inl (fun _ => 0)))), (q57, .inl (cA, (32, .inl (fun _ => 0)))), (q65, .inl (cA, (96, .inl (fun _ => 0)))), (q73, .inl (cA, (40, .inl (fun _ => 0))))] := hD
  refine W.widen (k := 8) (n := 283) (by decide) (by decide) ?_
  refine va_putF (D := D) (ci := 4) (v := .ref q73) (ty := .array .int) (C := RX4) (T := TX4) (N := 27) hx hb hw am_u4 tyX4 tyX4_ok nmX4 hown hK hP hD hS 0 rfl rfl 15 (by decide) (hw (.fieldLink RX4 39 (TX4 15).1 (TX4 15).2.1 (TX4 15).2.2.1) (am_at.wl (p := 596) (by decide +kernel))) (fun _ h9 => h9) rfl hin rfl (by decide +kernel) rfl rfl (Nat.le_of_ble_eq_true rfl) dX4_init_75 (fun H locs hP hD hS => ?_)
  have hP : va_P D vwCl [(h0, .inr (4, [.ref q7, .ref q14, .ref q22, .int 0, .int 3, .int 0, .int 0, .int 16777215, .ref q41, .ref q49, .ref q57, .ref q65, .int 0, .int 0, .int 0, .ref q73, .int 0, .int 0, .int 0, .null, .null, .int 0, .null, .null, .int 0, .int 0, .int 0])), (q7, .inl (cA, (7, .inl (fun _ => 0)))), (q14, .inl (cA, (4, .inl (fun _ => 0)))), (q22, .inl (cA, (8, .inl (fun _ => 0)))), (q41, .inl (cA, (64, .inl (fun _ => 0)))), (q49, .inl (cA, (32, .inl (fun _ => 0)))), (q57, .inl (cA, (32, .inl (fun _ => 0)))), (q65, .inl (cA, (96, .inl (fun _ => 0)))), (q73, .inl (cA, (40, .inl (fun _ => 0))))] H := hP
  have hD : va_D A [(h0, .inr (4, [.ref q7, .ref q14, .ref q22, .int 0, .int 3, .int 0, .int 0, .int 16777215, .ref q41, .ref q49, .ref q57, .ref q65, .int 0, .int 0, .int 0, .ref q73, .int 0, .int 0, .int 0, .null, .null, .int 0, .null, .null, .int 0, .int 0, .int 0])), (q7, .inl (cA, (7, .inl (fun _ => 0)))), (q14, .inl (cA, (4, .inl (fun _ => 0)))), (q22, .inl (cA, (8, .inl (fun _ => 0)))), (q41, .inl (cA, (64, .inl (fun _ => 0)))), (q49, .inl (cA, (32, .inl (fun _ => 0)))), (q57, .inl (cA, (32, .inl (fun _ => 0)))), (q65, .inl (cA, (96, .inl (fun _ => 0)))), (q73, .inl (cA, (40, .inl (fun _ => 0))))] := hD
  refine lv_aload_n hx hb dX4_init_78 rfl (lv_at hl 0 rfl) ?_
  refine lv_sipush (v := 144) hx hb dX4_init_79 (by decide +kernel) ?_
  have h_1 : 8 + 1 ≤ 12 := by decide
  have h_2 : 283 + 144 ≤ 595 := by decide
  refine am_newa (n := 144) hx hb (hw (.arrayClass .int) (am_at.wl (p := 99) (by decide +kernel))) hK hP hD hS hA 144 (by decide +kernel) (by decide +kernel) (by decide) h_1 h_2 dX4_init_82 (fun q82 H hP hD hS => ?_)
  have hP : va_P D vwCl [(h0, .inr (4, [.ref q7, .ref q14, .ref q22, .int 0, .int 3, .int 0, .int 0, .int 16777215, .ref q41, .ref q49, .ref q57, .ref q65, .int 0, .int 0, .int 0, .ref q73, .int 0, .int 0, .int 0, .null, .null, .int 0, .null, .null, .int 0, .int 0, .int 0])), (q7, .inl (cA, (7, .inl (fun _ => 0)))), (q14, .inl (cA, (4, .inl (fun _ => 0)))), (q22, .inl (cA, (8, .inl (fun _ => 0)))), (q41, .inl (cA, (64, .inl (fun _ => 0)))), (q49, .inl (cA, (32, .inl (fun _ => 0)))), (q57, .inl (cA, (32, .inl (fun _ => 0)))), (q65, .inl (cA, (96, .inl (fun _ => 0)))), (q73, .inl (cA, (40, .inl (fun _ => 0)))), (q82, .inl (cA, (144, .inl (fun _ => 0))))] H := hP
  have hD : va_D A [(h0, .inr (4, [.ref q7, .ref q14, .ref q22, .int 0, .int 3, .int 0, .int 0, .int 16777215, .ref q41, .ref q49, .ref q57, .ref q65, .int 0, .int 0, .int 0, .ref q73, .int 0, .int 0, .int 0, .null, .null, .int 0, .null, .null, .int 0, .int 0, .int 0])), (q7, .inl (cA, (7, .inl (fun _ => 0)))), (q14, .inl (cA, (4, .inl (fun _ => 0)))), (q22, .inl (cA, (8, .inl (fun _ => 0)))), (q41, .inl (cA, (64, .inl (fun _ => 0)))), (q49, .inl (cA, (32, .inl (fun _ => 0)))), (q57, .inl (cA, (32, .inl (fun _ => 0)))), (q65, .inl (cA, (96, .inl (fun _ => 0)))), (q73, .inl (cA, (40, .inl (fun _ => 0)))), (q82, .inl (cA, (144, .inl (fun _ => 0))))] := hD
  refine W.widen (k := 9) (n := 427) (by decide) (by decide) ?_
  refine va_putF (D := D) (ci := 4) (v := .ref q82) (ty := .array .int) (C := RX4) (T := TX4) (N := 27) hx hb hw am_u4 tyX4 tyX4_ok nmX4 hown hK hP hD hS 0 rfl rfl 19 (by decide) (hw (.fieldLink RX4 42 (TX4 19).1 (TX4 19).2.1 (TX4 19).2.2.1) (am_at.wl (p := 600) (by decide +kernel))) (fun _ h9 => h9) rfl hin rfl (by decide +kernel) rfl rfl (Nat.le_of_ble_eq_true rfl) dX4_init_84 (fun H locs hP hD hS => ?_)
  have hP : va_P D vwCl [(h0, .inr (4, [.ref q7, .ref q14, .ref q22, .int 0, .int 3, .int 0, .int 0, .int 16777215, .ref q41, .ref q49, .ref q57, .ref q65, .int 0, .int 0, .int 0, .ref q73, .int 0, .int 0, .int 0, .ref q82, .null, .int 0, .null, .null, .int 0, .int 0, .int 0])), (q7, .inl (cA, (7, .inl (fun _ => 0)))), (q14, .inl (cA, (4, .inl (fun _ => 0)))), (q22, .inl (cA, (8, .inl (fun _ => 0)))), (q41, .inl (cA, (64, .inl (fun _ => 0)))), (q49, .inl (cA, (32, .inl (fun _ => 0)))), (q57, .inl (cA, (32, .inl (fun _ => 0)))), (q65, .inl (cA, (96, .inl (fun _ => 0)))), (q73, .inl (cA, (40, .inl (fun _ => 0)))), (q82, .inl (cA, (144, .inl (fun _ => 0))))] H := hP
  have hD : va_D A [(h0, .inr (4, [.ref q7, .ref q14, .ref q22, .int 0, .int 3, .int 0, .int 0, .int 16777215, .ref q41, .ref q49, .ref q57, .ref q65, .int 0, .int 0, .int 0, .ref q73, .int 0, .int 0, .int 0, .ref q82, .null, .int 0, .null, .null, .int 0, .int 0, .int 0])), (q7, .inl (cA, (7, .inl (fun _ => 0)))), (q14, .inl (cA, (4, .inl (fun _ => 0)))), (q22, .inl (cA, (8, .inl (fun _ => 0)))), (q41, .inl (cA, (64, .inl (fun _ => 0)))), (q49, .inl (cA, (32, .inl (fun _ => 0)))), (q57, .inl (cA, (32, .inl (fun _ => 0)))), (q65, .inl (cA, (96, .inl (fun _ => 0)))), (q73, .inl (cA, (40, .inl (fun _ => 0)))), (q82, .inl (cA, (144, .inl (fun _ => 0))))] := hD
  refine lv_aload_n hx hb dX4_init_87 rfl (lv_at hl 0 rfl) ?_
  refine lv_sipush (v := 144) hx hb dX4_init_88 (by decide +kernel) ?_
  have h_1 : 9 + 1 ≤ 12 := by decide
  have h_2 : 427 + 144 ≤ 595 := by decide
  refine am_newa (n := 144) hx hb (hw (.arrayClass .int) (am_at.wl (p := 99) (by decide +kernel))) hK hP hD hS hA 144 (by decide +kernel) (by decide +kernel) (by decide) h_1 h_2 dX4_init_91 (fun q91 H hP hD hS => ?_)
  have hP : va_P D vwCl [(h0, .inr (4, [.ref q7, .ref q14, .ref q22, .int 0, .int 3, .int 0, .int 0, .int 16777215, .ref q41, .ref q49, .ref q57, .ref q65, .int 0, .int 0, .int 0, .ref q73, .int 0, .int 0, .int 0, .ref q82, .null, .int 0, .null, .null, .int 0, .int 0, .int 0])), (q7, .inl (cA, (7, .inl (fun _ => 0)))), (q14, .inl (cA, (4, .inl (fun _ => 0)))), (q22, .inl (cA, (8, .inl (fun _ => 0)))), (q41, .inl (cA, (64, .inl (fun _ => 0)))), (q49, .inl (cA, (32, .inl (fun _ => 0)))), (q57, .inl (cA, (32, .inl (fun _ => 0)))), (q65, .inl (cA, (96, .inl (fun _ => 0)))), (q73, .inl (cA, (40, .inl (fun _ => 0)))), (q82, .inl (cA, (144, .inl (fun _ => 0)))), (q91, .inl (cA, (144, .inl (fun _ => 0))))] H := hP
  have hD : va_D A [(h0, .inr (4, [.ref q7, .ref q14, .ref q22, .int 0, .int 3, .int 0, .int 0, .int 16777215, .ref q41, .ref q49, .ref q57, .ref q65, .int 0, .int 0, .int 0, .ref q73, .int 0, .int 0, .int 0, .ref q82, .null, .int 0, .null, .null, .int 0, .int 0, .int 0])), (q7, .inl (cA, (7, .inl (fun _ => 0)))), (q14, .inl (cA, (4, .inl (fun _ => 0)))), (q22, .inl (cA, (8, .inl (fun _ => 0)))), (q41, .inl (cA, (64, .inl (fun _ => 0)))), (q49, .inl (cA, (32, .inl (fun _ => 0)))), (q57, .inl (cA, (32, .inl (fun _ => 0)))), (q65, .inl (cA, (96, .inl (fun _ => 0)))), (q73, .inl (cA, (40, .inl (fun _ => 0)))), (q82, .inl (cA, (144, .inl (fun _ => 0)))), (q91, .inl (cA, (144, .inl (fun _ => 0))))] := hD
  refine W.widen (k := 10) (n := 571) (by decide) (by decide) ?_
  refine va_putF (D := D) (ci := 4) (v := .ref q91) (ty := .array .int) (C := RX4) (T := TX4) (N := 27) hx hb hw am_u4 tyX4 tyX4_ok nmX4 hown hK hP hD hS 0 rfl rfl 20 (by decide) (hw (.fieldLink RX4 45 (TX4 20).1 (TX4 20).2.1 (TX4 20).2.2.1) (am_at.wl (p := 601) (by decide +kernel))) (fun _ h9 => h9) rfl hin rfl (by decide +kernel) rfl rfl (Nat.le_of_ble_eq_true rfl) dX4_init_93 (fun H locs hP hD hS => ?_)
  have hP : va_P D vwCl [(h0, .inr (4, [.ref q7, .ref q14, .ref q22, .int 0, .int 3, .int 0, .int 0, .int 16777215, .ref q41, .ref q49, .ref q57, .ref q65, .int 0, .int 0, .int 0, .ref q73, .int 0, .int 0, .int 0, .ref q82, .ref q91, .int 0, .null, .null, .int 0, .int 0, .int 0])), (q7, .inl (cA, (7, .inl (fun _ => 0)))), (q14, .inl (cA, (4, .inl (fun _ => 0)))), (q22, .inl (cA, (8, .inl (fun _ => 0)))), (q41, .inl (cA, (64, .inl (fun _ => 0)))), (q49, .inl (cA, (32, .inl (fun _ => 0)))), (q57, .inl (cA, (32, .inl (fun _ => 0)))), (q65, .inl (cA, (96, .inl (fun _ => 0)))), (q73, .inl (cA, (40, .inl (fun _ => 0)))), (q82, .inl (cA, (144, .inl (fun _ => 0)))), (q91, .inl (cA, (144, .inl (fun _ => 0))))] H := hP
  have hD : va_D A [(h0, .inr (4, [.ref q7, .ref q14, .ref q22, .int 0, .int 3, .int 0, .int 0, .int 16777215, .ref q41, .ref q49, .ref q57, .ref q65, .int 0, .int 0, .int 0, .ref q73, .int 0, .int 0, .int 0, .ref q82, .ref q91, .int 0, .null, .null, .int 0, .int 0, .int 0])), (q7, .inl (cA, (7, .inl (fun _ => 0)))), (q14, .inl (cA, (4, .inl (fun _ => 0)))), (q22, .inl (cA, (8, .inl (fun _ => 0)))), (q41, .inl (cA, (64, .inl (fun _ => 0)))), (q49, .inl (cA, (32, .inl (fun _ => 0)))), (q57, .inl (cA, (32, .inl (fun _ => 0)))), (q65, .inl (cA, (96, .inl (fun _ => 0)))), (q73, .inl (cA, (40, .inl (fun _ => 0)))), (q82, .inl (cA, (144, .inl (fun _ => 0)))), (q91, .inl (cA, (144, .inl (fun _ => 0))))] := hD
  refine lv_aload_n hx hb dX4_init_96 rfl (lv_at hl 0 rfl) ?_
  refine lv_bipush (v := 16) hx hb dX4_init_97 (by decide +kernel) ?_
  have h_1 : 10 + 1 ≤ 12 := by decide
  have h_2 : 571 + 16 ≤ 595 := by decide
  refine am_newa (n := 16) hx hb (hw (.arrayClass .int) (am_at.wl (p := 99) (by decide +kernel))) hK hP hD hS hA 16 (by decide +kernel) (by decide +kernel) (by decide) h_1 h_2 dX4_init_99 (fun q99 H hP hD hS => ?_)
  have hP : va_P D vwCl [(h0, .inr (4, [.ref q7, .ref q14, .ref q22, .int 0, .int 3, .int 0, .int 0, .int 16777215, .ref q41, .ref q49, .ref q57, .ref q65, .int 0, .int 0, .int 0, .ref q73, .int 0, .int 0, .int 0, .ref q82, .ref q91, .int 0, .null, .null, .int 0, .int 0, .int 0])), (q7, .inl (cA, (7, .inl (fun _ => 0)))), (q14, .inl (cA, (4, .inl (fun _ => 0)))), (q22, .inl (cA, (8, .inl (fun _ => 0)))), (q41, .inl (cA, (64, .inl (fun _ => 0)))), (q49, .inl (cA, (32, .inl (fun _ => 0)))), (q57, .inl (cA, (32, .inl (fun _ => 0)))), (q65, .inl (cA, (96, .inl (fun _ => 0)))), (q73, .inl (cA, (40, .inl (fun _ => 0)))), (q82, .inl (cA, (144, .inl (fun _ => 0)))), (q91, .inl (cA, (144, .inl (fun _ => 0)))), (q99, .inl (cA, (16, .inl (fun _ => 0))))] H := hP
  have hD : va_D A [(h0, .inr (4, [.ref q7, .ref q14, .ref q22, .int 0, .int 3, .int 0, .int 0, .int 16777215, .ref q41, .ref q49, .ref q57, .ref q65, .int 0, .int 0, .int 0, .ref q73, .int 0, .int 0, .int 0, .ref q82, .ref q91, .int 0, .null, .null, .int 0, .int 0, .int 0])), (q7, .inl (cA, (7, .inl (fun _ => 0)))), (q14, .inl (cA, (4, .inl (fun _ => 0)))), (q22, .inl (cA, (8, .inl (fun _ => 0)))), (q41, .inl (cA, (64, .inl (fun _ => 0)))), (q49, .inl (cA, (32, .inl (fun _ => 0)))), (q57, .inl (cA, (32, .inl (fun _ => 0)))), (q65, .inl (cA, (96, .inl (fun _ => 0)))), (q73, .inl (cA, (40, .inl (fun _ => 0)))), (q82, .inl (cA, (144, .inl (fun _ => 0)))), (q91, .inl (cA, (144, .inl (fun _ => 0)))), (q99, .inl (cA, (16, .inl (fun _ => 0))))] := hD
  refine W.widen (k := 11) (n := 587) (by decide) (by decide) ?_
  refine va_putF (D := D) (ci := 4) (v := .ref q99) (ty := .array .int) (C := RX4) (T := TX4) (N := 27) hx hb hw am_u4 tyX4 tyX4_ok nmX4 hown hK hP hD hS 0 rfl rfl 22 (by decide) (hw (.fieldLink RX4 48 (TX4 22).1 (TX4 22).2.1 (TX4 22).2.2.1) (am_at.wl (p := 603) (by decide +kernel))) (fun _ h9 => h9) rfl hin rfl (by decide +kernel) rfl rfl (Nat.le_of_ble_eq_true rfl) dX4_init_101 (fun H locs hP hD hS => ?_)
  have hP : va_P D vwCl [(h0, .inr (4, [.ref q7, .ref q14, .ref q22, .int 0, .int 3, .int 0, .int 0, .int 16777215, .ref q41, .ref q49, .ref q57, .ref q65, .int 0, .int 0, .int 0, .ref q73, .int 0, .int 0, .int 0, .ref q82, .ref q91, .int 0, .ref q99, .null, .int 0, .int 0, .int 0])), (q7, .inl (cA, (7, .inl (fun _ => 0)))), (q14, .inl (cA, (4, .inl (fun _ => 0)))), (q22, .inl (cA, (8, .inl (fun _ => 0)))), (q41, .inl (cA, (64, .inl (fun _ => 0)))), (q49, .inl (cA, (32, .inl (fun _ => 0)))), (q57, .inl (cA, (32, .inl (fun _ => 0)))), (q65, .inl (cA, (96, .inl (fun _ => 0)))), (q73, .inl (cA, (40, .inl (fun _ => 0)))), (q82, .inl (cA, (144, .inl (fun _ => 0)))), (q91, .inl (cA, (144, .inl (fun _ => 0)))), (q99, .inl (cA, (16, .inl (fun _ => 0))))] H := hP
  have hD : va_D A [(h0, .inr (4, [.ref q7, .ref q14, .ref q22, .int 0, .int 3, .int 0, .int 0, .int 16777215, .ref q41, .ref q49, .ref q57, .ref q65, .int 0, .int 0, .int 0, .ref q73, .int 0, .int 0, .int 0, .ref q82, .ref q91, .int 0, .ref q99, .null, .int 0, .int 0, .int 0])), (q7, .inl (cA, (7, .inl (fun _ => 0)))), (q14, .inl (cA, (4, .inl (fun _ => 0)))), (q22, .inl (cA, (8, .inl (fun _ => 0)))), (q41, .inl (cA, (64, .inl (fun _ => 0)))), (q49, .inl (cA, (32, .inl (fun _ => 0)))), (q57, .inl (cA, (32, .inl (fun _ => 0)))), (q65, .inl (cA, (96, .inl (fun _ => 0)))), (q73, .inl (cA, (40, .inl (fun _ => 0)))), (q82, .inl (cA, (144, .inl (fun _ => 0)))), (q91, .inl (cA, (144, .inl (fun _ => 0)))), (q99, .inl (cA, (16, .inl (fun _ => 0))))] := hD
  refine lv_aload_n hx hb dX4_init_104 rfl (lv_at hl 0 rfl) ?_
  refine lv_bipush (v := 8) hx hb dX4_init_105 (by decide +kernel) ?_
  have h_1 : 11 + 1 ≤ 12 := by decide
  have h_2 : 587 + 8 ≤ 595 := by decide
  refine am_newa (n := 8) hx hb (hw (.arrayClass .int) (am_at.wl (p := 99) (by decide +kernel))) hK hP hD hS hA 8 (by decide +kernel) (by decide +kernel) (by decide) h_1 h_2 dX4_init_107 (fun q107 H hP hD hS => ?_)
  have hP : va_P D vwCl [(h0, .inr (4, [.ref q7, .ref q14, .ref q22, .int 0, .int 3, .int 0, .int 0, .int 16777215, .ref q41, .ref q49, .ref q57, .ref q65, .int 0, .int 0, .int 0, .ref q73, .int 0, .int 0, .int 0, .ref q82, .ref q91, .int 0, .ref q99, .null, .int 0, .int 0, .int 0])), (q7, .inl (cA, (7, .inl (fun _ => 0)))), (q14, .inl (cA, (4, .inl (fun _ => 0)))), (q22, .inl (cA, (8, .inl (fun _ => 0)))), (q41, .inl (cA, (64, .inl (fun _ => 0)))), (q49, .inl (cA, (32, .inl (fun _ => 0)))), (q57, .inl (cA, (32, .inl (fun _ => 0)))), (q65, .inl (cA, (96, .inl (fun _ => 0)))), (q73, .inl (cA, (40, .inl (fun _ => 0)))), (q82, .inl (cA, (144, .inl (fun _ => 0)))), (q91, .inl (cA, (144, .inl (fun _ => 0)))), (q99, .inl (cA, (16, .inl (fun _ => 0)))), (q107, .inl (cA, (8, .inl (fun _ => 0))))] H := hP
  have hD : va_D A [(h0, .inr (4, [.ref q7, .ref q14, .ref q22, .int 0, .int 3, .int 0, .int 0, .int 16777215, .ref q41, .ref q49, .ref q57, .ref q65, .int 0, .int 0, .int 0, .ref q73, .int 0, .int 0, .int 0, .ref q82, .ref q91, .int 0, .ref q99, .null, .int 0, .int 0, .int 0])), (q7, .inl (cA, (7, .inl (fun _ => 0)))), (q14, .inl (cA, (4, .inl (fun _ => 0)))), (q22, .inl (cA, (8, .inl (fun _ => 0)))), (q41, .inl (cA, (64, .inl (fun _ => 0)))), (q49, .inl (cA, (32, .inl (fun _ => 0)))), (q57, .inl (cA, (32, .inl (fun _ => 0)))), (q65, .inl (cA, (96, .inl (fun _ => 0)))), (q73, .inl (cA, (40, .inl (fun _ => 0)))), (q82, .inl (cA, (144, .inl (fun _ => 0)))), (q91, .inl (cA, (144, .inl (fun _ => 0)))), (q99, .inl (cA, (16, .inl (fun _ => 0)))), (q107, .inl (cA, (8, .inl (fun _ => 0))))] := hD
  refine W.widen (k := 12) (n := 595) (by decide) (by decide) ?_
  refine va_putF (D := D) (ci := 4) (v := .ref q107) (ty := .array .int) (C := RX4) (T := TX4) (N := 27) hx hb hw am_u4 tyX4 tyX4_ok nmX4 hown hK hP hD hS 0 rfl rfl 23 (by decide) (hw (.fieldLink RX4 51 (TX4 23).1 (TX4 23).2.1 (TX4 23).2.2.1) (am_at.wl (p := 604) (by decide +kernel))) (fun _ h9 => h9) rfl hin rfl (by decide +kernel) rfl rfl (Nat.le_of_ble_eq_true rfl) dX4_init_109 (fun H locs hP hD hS => ?_)
  have hP : va_P D vwCl [(h0, .inr (4, [.ref q7, .ref q14, .ref q22, .int 0, .int 3, .int 0, .int 0, .int 16777215, .ref q41, .ref q49, .ref q57, .ref q65, .int 0, .int 0, .int 0, .ref q73, .int 0, .int 0, .int 0, .ref q82, .ref q91, .int 0, .ref q99, .ref q107, .int 0, .int 0, .int 0])), (q7, .inl (cA, (7, .inl (fun _ => 0)))), (q14, .inl (cA, (4, .inl (fun _ => 0)))), (q22, .inl (cA, (8, .inl (fun _ => 0)))), (q41, .inl (cA, (64, .inl (fun _ => 0)))), (q49, .inl (cA, (32, .inl (fun _ => 0)))), (q57, .inl (cA, (32, .inl (fun _ => 0)))), (q65, .inl (cA, (96, .inl (fun _ => 0)))), (q73, .inl (cA, (40, .inl (fun _ => 0)))), (q82, .inl (cA, (144, .inl (fun _ => 0)))), (q91, .inl (cA, (144, .inl (fun _ => 0)))), (q99, .inl (cA, (16, .inl (fun _ => 0)))), (q107, .inl (cA, (8, .inl (fun _ => 0))))] H := hP
  have hD : va_D A [(h0, .inr (4, [.ref q7, .ref q14, .ref q22, .int 0, .int 3, .int 0, .int 0, .int 16777215, .ref q41, .ref q49, .ref q57, .ref q65, .int 0, .int 0, .int 0, .ref q73, .int 0, .int 0, .int 0, .ref q82, .ref q91, .int 0, .ref q99, .ref q107, .int 0, .int 0, .int 0])), (q7, .inl (cA, (7, .inl (fun _ => 0)))), (q14, .inl (cA, (4, .inl (fun _ => 0)))), (q22, .inl (cA, (8, .inl (fun _ => 0)))), (q41, .inl (cA, (64, .inl (fun _ => 0)))), (q49, .inl (cA, (32, .inl (fun _ => 0)))), (q57, .inl (cA, (32, .inl (fun _ => 0)))), (q65, .inl (cA, (96, .inl (fun _ => 0)))), (q73, .inl (cA, (40, .inl (fun _ => 0)))), (q82, .inl (cA, (144, .inl (fun _ => 0)))), (q91, .inl (cA, (144, .inl (fun _ => 0)))), (q99, .inl (cA, (16, .inl (fun _ => 0)))), (q107, .inl (cA, (8, .inl (fun _ => 0))))] := hD
  exact W.vret hx hb hr (fun t ht hW => ⟨⟨(q7, q14, q22, q41, q49, q57, q65, q73, q82, q91, q99, q107), rfl, trivial, by rw [ht]; exact hP, va_K.moved hW.alike hK, hD⟩, hS.F ht⟩) hS.2.2 dX4_init_112

