/-! the law's run -/
/-! THE CLAIM OUT OF ONE WALK OF THE LAW'S BODY. Your part is whole_start (and what it stands on); all else here is the same for every law, but numbers. -/
def R_law : String := "ArmsAlongBeamLaw"
def lw_P (b : Addr) (xs : List Int32) (args : Array Value) (s : State) : Prop := args = #[.ref b] ∧ s.IntsAt b xs ∧ xs.length ≤ 2048 ∧ (Jvm.Cond.and given_1 narrow_1).before args s = true
def lw_Q (_ : Array Value) (s : State) (o : Outcome) (t : State) : Prop := o = .returned (some (.int 1)) ∧ Framed s o t [] 30 1074
def lw_Z (below : List Frame) (a : Array Value) (s : State) : State → Prop := fun t => ∃ o, t.status = .running ∧ Ended t below o ∧ lw_Q a s o t
/-- the law's own end, with 1 on the stack, nothing written that was there before, its room as the claim has it -/
theorem lw_ret {p : Program} {l : Launch} {e : Env} {s : State} {m : MethodId} {below : List Frame} {meth : Method} {c : Code} {b : Nat} (hx : p.tables.exec = Jvm.exec) (hb : c.code = code) (hr : meth.sig.returnType = ret) (hlocks : meth.locks = false) {pc : Nat} {H : Heap} {ls : Array Slot} (hdg : decode code pc = .ok (.ireturn, 1)) : W p l e room_1 s m #[Value.ref b] below meth c H [] 30 1074 (lw_Z below #[Value.ref b] s) (F0 m pc ls [.int 1]) := by
  intro T hT X
  obtain ⟨fs, hret, hrun, hended, hW, hframe⟩ := X.leave (v := some (.int 1)) (hlocks := hlocks) (fun h => by rw [hr] at h; cases h)
  have hmeth' : T.vm.method? m = some meth := X.method'
  refine ⟨T.setFrames fs, ?_, .returned (some (.int 1)), hrun, hended, rfl, ⟨_, rfl⟩, hW, hframe⟩
  jvm_step X.here [X.here.top, hx, hb, hdg, hmeth', hr, ret, narrow_b1]
  (try refine ⟨rfl, ?_⟩); (try refine ⟨rfl, ?_⟩)
  first | (intro acts; rw [hret _ acts rfl rfl rfl]) | rw [hret _ _ rfl rfl rfl]
  exact Steps.refl _
/-- what holds at the law's entry: the machine, the code, the tables' words (any of lw_tbl by 'hts w (by decide +kernel)'), the script of L ints xs at the cell b, what the Statement gives of the start (any of its parts by flat_of_before) -/
def lw_At (p : Program) (s : State) (m : MethodId) (meth : Method) (c : Code) (b L : Nat) (xs : Nat → Int32) : Prop :=
  p.tables.exec = Jvm.exec ∧ c.code = code ∧ meth.sig.returnType = ret ∧ c.maxLocals = 4 ∧ s.vm.findClass R_law = some m.cls ∧ (∀ w ∈ lw_tbl, w.before #[Value.ref b] s = true) ∧ va_X b L xs s s.heap ∧ b < s.heap.size ∧ meth.locks = false ∧ (Jvm.Cond.and given_1 narrow_1).before #[Value.ref b] s = true
/-! the law's instructions -/
theorem am_lDg {α : Type} {P : α → Prop} [DecidablePred P] {T : List α} (h : (T.all fun q => decide (P q)) = true) {k : Nat} {q : α} (hk : T[k]? = some q) : P q := of_decide_eq_true (List.all_eq_true.mp h q (List.mem_of_getElem? hk))
theorem am_lD {T : List (Nat × Instr × Nat)} (h : (T.all fun q => decide (decode code q.1 = .ok (q.2.1, q.2.2))) = true) (k : Nat) {pc len : Nat} {i : Instr} (hk : T[k]? = some (pc, i, len)) : decode code pc = .ok (i, len) := by
  have e := am_lDg (P := fun q : Nat × Instr × Nat => decode code q.1 = .ok (q.2.1, q.2.2)) h hk
  dsimp only at e
  exact e
def am_lTH : List (Nat × Instr × Nat) := [(0, .new 7, 3), (3, .dup, 1), (4, .invokespecial 9, 3), (7, .astore_n 1, 1), (8, .new 10, 3), (11, .dup, 1), (12, .invokespecial 12, 3), (15, .astore_n 2, 1), (16, .iconst 0, 1), (17, .istore_n 3, 1), (18, .iload_n 3, 1), (19, .aload_n 0, 1), (20, .arraylength, 1), (21, .iconst 4, 1), (22, .isub, 1), (23, .if_icmp .gt 847, 3), (26, .aload_n 0, 1), (27, .iload_n 3, 1), (28, .iaload, 1), (29, .bipush 31, 2), (31, .iand, 1), (32, .tableswitch 832 0 27 #[128, 151, 164, 197, 220, 263, 296, 329, 352, 385, 398, 421, 444, 477, 500, 543, 576, 619, 642, 665, 688, 701, 714, 727, 750, 783, 796, 809], 128), (864, .iinc 3 4, 3), (867, .goto (-849), 3), (870, .iconst 1, 1), (871, .ireturn, 1)]
theorem am_lkH : (am_lTH.all fun q => decide (decode code q.1 = .ok (q.2.1, q.2.2))) = true := by decide +kernel
def am_lT0 : List (Nat × Instr × Nat) := [(160, .aload_n 1, 1), (161, .aload_n 0, 1), (162, .iload_n 3, 1), (163, .iconst 1, 1), (164, .iadd, 1), (165, .iaload, 1), (166, .invokevirtual 13, 3), (169, .aload_n 2, 1), (170, .aload_n 0, 1), (171, .iload_n 3, 1), (172, .iconst 1, 1), (173, .iadd, 1), (174, .iaload, 1), (175, .invokevirtual 17, 3), (178, .if_icmp .eq 686, 3), (181, .iconst 0, 1), (182, .ireturn, 1)]
theorem am_lk0 : (am_lT0.all fun q => decide (decode code q.1 = .ok (q.2.1, q.2.2))) = true := by decide +kernel
def am_lT1 : List (Nat × Instr × Nat) := [(183, .aload_n 1, 1), (184, .invokevirtual 18, 3), (187, .aload_n 2, 1), (188, .invokevirtual 22, 3), (191, .if_icmp .eq 673, 3), (194, .iconst 0, 1), (195, .ireturn, 1)]
theorem am_lk1 : (am_lT1.all fun q => decide (decode code q.1 = .ok (q.2.1, q.2.2))) = true := by decide +kernel
def am_lT2 : List (Nat × Instr × Nat) := [(196, .aload_n 1, 1), (197, .aload_n 0, 1), (198, .iload_n 3, 1), (199, .iconst 1, 1), (200, .iadd, 1), (201, .iaload, 1), (202, .aload_n 0, 1), (203, .iload_n 3, 1), (204, .iconst 2, 1), (205, .iadd, 1), (206, .iaload, 1), (207, .invokevirtual 23, 3), (210, .aload_n 2, 1), (211, .aload_n 0, 1), (212, .iload_n 3, 1), (213, .iconst 1, 1), (214, .iadd, 1), (215, .iaload, 1), (216, .aload_n 0, 1), (217, .iload_n 3, 1), (218, .iconst 2, 1), (219, .iadd, 1), (220, .iaload, 1), (221, .invokevirtual 27, 3), (224, .if_icmp .eq 640, 3), (227, .iconst 0, 1), (228, .ireturn, 1)]
theorem am_lk2 : (am_lT2.all fun q => decide (decode code q.1 = .ok (q.2.1, q.2.2))) = true := by decide +kernel
def am_lT3 : List (Nat × Instr × Nat) := [(229, .aload_n 1, 1), (230, .aload_n 0, 1), (231, .iload_n 3, 1), (232, .iconst 1, 1), (233, .iadd, 1), (234, .iaload, 1), (235, .invokevirtual 28, 3), (238, .aload_n 2, 1), (239, .aload_n 0, 1), (240, .iload_n 3, 1), (241, .iconst 1, 1), (242, .iadd, 1), (243, .iaload, 1), (244, .invokevirtual 31, 3), (247, .if_icmp .eq 617, 3), (250, .iconst 0, 1), (251, .ireturn, 1)]
theorem am_lk3 : (am_lT3.all fun q => decide (decode code q.1 = .ok (q.2.1, q.2.2))) = true := by decide +kernel
def am_lT4 : List (Nat × Instr × Nat) := [(252, .aload_n 1, 1), (253, .aload_n 0, 1), (254, .iload_n 3, 1), (255, .iconst 1, 1), (256, .iadd, 1), (257, .iaload, 1), (258, .aload_n 0, 1), (259, .iload_n 3, 1), (260, .iconst 2, 1), (261, .iadd, 1), (262, .iaload, 1), (263, .aload_n 0, 1), (264, .iload_n 3, 1), (265, .iconst 3, 1), (266, .iadd, 1), (267, .iaload, 1), (268, .invokevirtual 32, 3), (271, .aload_n 2, 1), (272, .aload_n 0, 1), (273, .iload_n 3, 1), (274, .iconst 1, 1), (275, .iadd, 1), (276, .iaload, 1), (277, .aload_n 0, 1), (278, .iload_n 3, 1), (279, .iconst 2, 1), (280, .iadd, 1), (281, .iaload, 1), (282, .aload_n 0, 1), (283, .iload_n 3, 1), (284, .iconst 3, 1), (285, .iadd, 1), (286, .iaload, 1), (287, .invokevirtual 36, 3), (290, .if_icmp .eq 574, 3), (293, .iconst 0, 1), (294, .ireturn, 1)]
theorem am_lk4 : (am_lT4.all fun q => decide (decode code q.1 = .ok (q.2.1, q.2.2))) = true := by decide +kernel
def am_lT5 : List (Nat × Instr × Nat) := [(295, .aload_n 1, 1), (296, .aload_n 0, 1), (297, .iload_n 3, 1), (298, .iconst 1, 1), (299, .iadd, 1), (300, .iaload, 1), (301, .aload_n 0, 1), (302, .iload_n 3, 1), (303, .iconst 2, 1), (304, .iadd, 1), (305, .iaload, 1), (306, .invokevirtual 37, 3), (309, .aload_n 2, 1), (310, .aload_n 0, 1), (311, .iload_n 3, 1), (312, .iconst 1, 1), (313, .iadd, 1), (314, .iaload, 1), (315, .aload_n 0, 1), (316, .iload_n 3, 1), (317, .iconst 2, 1), (318, .iadd, 1), (319, .iaload, 1), (320, .invokevirtual 40, 3), (323, .if_icmp .eq 541, 3), (326, .iconst 0, 1), (327, .ireturn, 1)]
theorem am_lk5 : (am_lT5.all fun q => decide (decode code q.1 = .ok (q.2.1, q.2.2))) = true := by decide +kernel
def am_lT6 : List (Nat × Instr × Nat) := [(328, .aload_n 1, 1), (329, .aload_n 0, 1), (330, .iload_n 3, 1), (331, .iconst 1, 1), (332, .iadd, 1), (333, .iaload, 1), (334, .aload_n 0, 1), (335, .iload_n 3, 1), (336, .iconst 2, 1), (337, .iadd, 1), (338, .iaload, 1), (339, .invokevirtual 41, 3), (342, .aload_n 2, 1), (343, .aload_n 0, 1), (344, .iload_n 3, 1), (345, .iconst 1, 1), (346, .iadd, 1), (347, .iaload, 1), (348, .aload_n 0, 1), (349, .iload_n 3, 1), (350, .iconst 2, 1), (351, .iadd, 1), (352, .iaload, 1), (353, .invokevirtual 44, 3), (356, .if_icmp .eq 508, 3), (359, .iconst 0, 1), (360, .ireturn, 1)]
theorem am_lk6 : (am_lT6.all fun q => decide (decode code q.1 = .ok (q.2.1, q.2.2))) = true := by decide +kernel
def am_lT7 : List (Nat × Instr × Nat) := [(361, .aload_n 1, 1), (362, .aload_n 0, 1), (363, .iload_n 3, 1), (364, .iconst 1, 1), (365, .iadd, 1), (366, .iaload, 1), (367, .invokevirtual 45, 3), (370, .aload_n 2, 1), (371, .aload_n 0, 1), (372, .iload_n 3, 1), (373, .iconst 1, 1), (374, .iadd, 1), (375, .iaload, 1), (376, .invokevirtual 48, 3), (379, .if_icmp .eq 485, 3), (382, .iconst 0, 1), (383, .ireturn, 1)]
theorem am_lk7 : (am_lT7.all fun q => decide (decode code q.1 = .ok (q.2.1, q.2.2))) = true := by decide +kernel
def am_lT8 : List (Nat × Instr × Nat) := [(384, .aload_n 1, 1), (385, .aload_n 0, 1), (386, .iload_n 3, 1), (387, .iconst 1, 1), (388, .iadd, 1), (389, .iaload, 1), (390, .aload_n 0, 1), (391, .iload_n 3, 1), (392, .iconst 2, 1), (393, .iadd, 1), (394, .iaload, 1), (395, .invokevirtual 49, 3), (398, .aload_n 2, 1), (399, .aload_n 0, 1), (400, .iload_n 3, 1), (401, .iconst 1, 1), (402, .iadd, 1), (403, .iaload, 1), (404, .aload_n 0, 1), (405, .iload_n 3, 1), (406, .iconst 2, 1), (407, .iadd, 1), (408, .iaload, 1), (409, .invokevirtual 52, 3), (412, .if_icmp .eq 452, 3), (415, .iconst 0, 1), (416, .ireturn, 1)]
theorem am_lk8 : (am_lT8.all fun q => decide (decode code q.1 = .ok (q.2.1, q.2.2))) = true := by decide +kernel
def am_lT9 : List (Nat × Instr × Nat) := [(417, .aload_n 1, 1), (418, .invokevirtual 53, 3), (421, .aload_n 2, 1), (422, .invokevirtual 56, 3), (425, .if_icmp .eq 439, 3), (428, .iconst 0, 1), (429, .ireturn, 1)]
theorem am_lk9 : (am_lT9.all fun q => decide (decode code q.1 = .ok (q.2.1, q.2.2))) = true := by decide +kernel
def am_lT10 : List (Nat × Instr × Nat) := [(430, .aload_n 1, 1), (431, .aload_n 0, 1), (432, .iload_n 3, 1), (433, .iconst 1, 1), (434, .iadd, 1), (435, .iaload, 1), (436, .invokevirtual 57, 3), (439, .aload_n 2, 1), (440, .aload_n 0, 1), (441, .iload_n 3, 1), (442, .iconst 1, 1), (443, .iadd, 1), (444, .iaload, 1), (445, .invokevirtual 60, 3), (448, .if_icmp .eq 416, 3), (451, .iconst 0, 1), (452, .ireturn, 1)]
theorem am_lk10 : (am_lT10.all fun q => decide (decode code q.1 = .ok (q.2.1, q.2.2))) = true := by decide +kernel
def am_lT11 : List (Nat × Instr × Nat) := [(453, .aload_n 1, 1), (454, .aload_n 0, 1), (455, .iload_n 3, 1), (456, .iconst 1, 1), (457, .iadd, 1), (458, .iaload, 1), (459, .invokevirtual 61, 3), (462, .aload_n 2, 1), (463, .aload_n 0, 1), (464, .iload_n 3, 1), (465, .iconst 1, 1), (466, .iadd, 1), (467, .iaload, 1), (468, .invokevirtual 64, 3), (471, .if_icmp .eq 393, 3), (474, .iconst 0, 1), (475, .ireturn, 1)]
theorem am_lk11 : (am_lT11.all fun q => decide (decode code q.1 = .ok (q.2.1, q.2.2))) = true := by decide +kernel
def am_lT12 : List (Nat × Instr × Nat) := [(476, .aload_n 1, 1), (477, .aload_n 0, 1), (478, .iload_n 3, 1), (479, .iconst 1, 1), (480, .iadd, 1), (481, .iaload, 1), (482, .aload_n 0, 1), (483, .iload_n 3, 1), (484, .iconst 2, 1), (485, .iadd, 1), (486, .iaload, 1), (487, .invokevirtual 65, 3), (490, .aload_n 2, 1), (491, .aload_n 0, 1), (492, .iload_n 3, 1), (493, .iconst 1, 1), (494, .iadd, 1), (495, .iaload, 1), (496, .aload_n 0, 1), (497, .iload_n 3, 1), (498, .iconst 2, 1), (499, .iadd, 1), (500, .iaload, 1), (501, .invokevirtual 68, 3), (504, .if_icmp .eq 360, 3), (507, .iconst 0, 1), (508, .ireturn, 1)]
theorem am_lk12 : (am_lT12.all fun q => decide (decode code q.1 = .ok (q.2.1, q.2.2))) = true := by decide +kernel
def am_lT13 : List (Nat × Instr × Nat) := [(509, .aload_n 1, 1), (510, .aload_n 0, 1), (511, .iload_n 3, 1), (512, .iconst 1, 1), (513, .iadd, 1), (514, .iaload, 1), (515, .invokevirtual 69, 3), (518, .aload_n 2, 1), (519, .aload_n 0, 1), (520, .iload_n 3, 1), (521, .iconst 1, 1), (522, .iadd, 1), (523, .iaload, 1), (524, .invokevirtual 72, 3), (527, .if_icmp .eq 337, 3), (530, .iconst 0, 1), (531, .ireturn, 1)]
theorem am_lk13 : (am_lT13.all fun q => decide (decode code q.1 = .ok (q.2.1, q.2.2))) = true := by decide +kernel
def am_lT14 : List (Nat × Instr × Nat) := [(532, .aload_n 1, 1), (533, .aload_n 0, 1), (534, .iload_n 3, 1), (535, .iconst 1, 1), (536, .iadd, 1), (537, .iaload, 1), (538, .aload_n 0, 1), (539, .iload_n 3, 1), (540, .iconst 2, 1), (541, .iadd, 1), (542, .iaload, 1), (543, .aload_n 0, 1), (544, .iload_n 3, 1), (545, .iconst 3, 1), (546, .iadd, 1), (547, .iaload, 1), (548, .invokevirtual 73, 3), (551, .aload_n 2, 1), (552, .aload_n 0, 1), (553, .iload_n 3, 1), (554, .iconst 1, 1), (555, .iadd, 1), (556, .iaload, 1), (557, .aload_n 0, 1), (558, .iload_n 3, 1), (559, .iconst 2, 1), (560, .iadd, 1), (561, .iaload, 1), (562, .aload_n 0, 1), (563, .iload_n 3, 1), (564, .iconst 3, 1), (565, .iadd, 1), (566, .iaload, 1), (567, .invokevirtual 76, 3), (570, .if_icmp .eq 294, 3), (573, .iconst 0, 1), (574, .ireturn, 1)]
theorem am_lk14 : (am_lT14.all fun q => decide (decode code q.1 = .ok (q.2.1, q.2.2))) = true := by decide +kernel
def am_lT15 : List (Nat × Instr × Nat) := [(575, .aload_n 1, 1), (576, .aload_n 0, 1), (577, .iload_n 3, 1), (578, .iconst 1, 1), (579, .iadd, 1), (580, .iaload, 1), (581, .aload_n 0, 1), (582, .iload_n 3, 1), (583, .iconst 2, 1), (584, .iadd, 1), (585, .iaload, 1), (586, .invokevirtual 77, 3), (589, .aload_n 2, 1), (590, .aload_n 0, 1), (591, .iload_n 3, 1), (592, .iconst 1, 1), (593, .iadd, 1), (594, .iaload, 1), (595, .aload_n 0, 1), (596, .iload_n 3, 1), (597, .iconst 2, 1), (598, .iadd, 1), (599, .iaload, 1), (600, .invokevirtual 80, 3), (603, .if_icmp .eq 261, 3), (606, .iconst 0, 1), (607, .ireturn, 1)]
theorem am_lk15 : (am_lT15.all fun q => decide (decode code q.1 = .ok (q.2.1, q.2.2))) = true := by decide +kernel
def am_lT16 : List (Nat × Instr × Nat) := [(608, .aload_n 1, 1), (609, .aload_n 0, 1), (610, .iload_n 3, 1), (611, .iconst 1, 1), (612, .iadd, 1), (613, .iaload, 1), (614, .aload_n 0, 1), (615, .iload_n 3, 1), (616, .iconst 2, 1), (617, .iadd, 1), (618, .iaload, 1), (619, .aload_n 0, 1), (620, .iload_n 3, 1), (621, .iconst 3, 1), (622, .iadd, 1), (623, .iaload, 1), (624, .invokevirtual 81, 3), (627, .aload_n 2, 1), (628, .aload_n 0, 1), (629, .iload_n 3, 1), (630, .iconst 1, 1), (631, .iadd, 1), (632, .iaload, 1), (633, .aload_n 0, 1), (634, .iload_n 3, 1), (635, .iconst 2, 1), (636, .iadd, 1), (637, .iaload, 1), (638, .aload_n 0, 1), (639, .iload_n 3, 1), (640, .iconst 3, 1), (641, .iadd, 1), (642, .iaload, 1), (643, .invokevirtual 84, 3), (646, .if_icmp .eq 218, 3), (649, .iconst 0, 1), (650, .ireturn, 1)]
theorem am_lk16 : (am_lT16.all fun q => decide (decode code q.1 = .ok (q.2.1, q.2.2))) = true := by decide +kernel
def am_lT17 : List (Nat × Instr × Nat) := [(651, .aload_n 1, 1), (652, .aload_n 0, 1), (653, .iload_n 3, 1), (654, .iconst 1, 1), (655, .iadd, 1), (656, .iaload, 1), (657, .invokevirtual 85, 3), (660, .aload_n 2, 1), (661, .aload_n 0, 1), (662, .iload_n 3, 1), (663, .iconst 1, 1), (664, .iadd, 1), (665, .iaload, 1), (666, .invokevirtual 88, 3), (669, .if_icmp .eq 195, 3), (672, .iconst 0, 1), (673, .ireturn, 1)]
theorem am_lk17 : (am_lT17.all fun q => decide (decode code q.1 = .ok (q.2.1, q.2.2))) = true := by decide +kernel
def am_lT18 : List (Nat × Instr × Nat) := [(674, .aload_n 1, 1), (675, .aload_n 0, 1), (676, .iload_n 3, 1), (677, .iconst 1, 1), (678, .iadd, 1), (679, .iaload, 1), (680, .invokevirtual 89, 3), (683, .aload_n 2, 1), (684, .aload_n 0, 1), (685, .iload_n 3, 1), (686, .iconst 1, 1), (687, .iadd, 1), (688, .iaload, 1), (689, .invokevirtual 92, 3), (692, .if_icmp .eq 172, 3), (695, .iconst 0, 1), (696, .ireturn, 1)]
theorem am_lk18 : (am_lT18.all fun q => decide (decode code q.1 = .ok (q.2.1, q.2.2))) = true := by decide +kernel
def am_lT19 : List (Nat × Instr × Nat) := [(697, .aload_n 1, 1), (698, .aload_n 0, 1), (699, .iload_n 3, 1), (700, .iconst 1, 1), (701, .iadd, 1), (702, .iaload, 1), (703, .invokevirtual 93, 3), (706, .aload_n 2, 1), (707, .aload_n 0, 1), (708, .iload_n 3, 1), (709, .iconst 1, 1), (710, .iadd, 1), (711, .iaload, 1), (712, .invokevirtual 96, 3), (715, .if_icmp .eq 149, 3), (718, .iconst 0, 1), (719, .ireturn, 1)]
theorem am_lk19 : (am_lT19.all fun q => decide (decode code q.1 = .ok (q.2.1, q.2.2))) = true := by decide +kernel
def am_lT20 : List (Nat × Instr × Nat) := [(720, .aload_n 1, 1), (721, .invokevirtual 97, 3), (724, .aload_n 2, 1), (725, .invokevirtual 100, 3), (728, .if_icmp .eq 136, 3), (731, .iconst 0, 1), (732, .ireturn, 1)]
theorem am_lk20 : (am_lT20.all fun q => decide (decode code q.1 = .ok (q.2.1, q.2.2))) = true := by decide +kernel
def am_lT21 : List (Nat × Instr × Nat) := [(733, .aload_n 1, 1), (734, .invokevirtual 101, 3), (737, .aload_n 2, 1), (738, .invokevirtual 104, 3), (741, .if_icmp .eq 123, 3), (744, .iconst 0, 1), (745, .ireturn, 1)]
theorem am_lk21 : (am_lT21.all fun q => decide (decode code q.1 = .ok (q.2.1, q.2.2))) = true := by decide +kernel
def am_lT22 : List (Nat × Instr × Nat) := [(746, .aload_n 1, 1), (747, .invokevirtual 105, 3), (750, .aload_n 2, 1), (751, .invokevirtual 108, 3), (754, .if_icmp .eq 110, 3), (757, .iconst 0, 1), (758, .ireturn, 1)]
theorem am_lk22 : (am_lT22.all fun q => decide (decode code q.1 = .ok (q.2.1, q.2.2))) = true := by decide +kernel
def am_lT23 : List (Nat × Instr × Nat) := [(759, .aload_n 1, 1), (760, .aload_n 0, 1), (761, .iload_n 3, 1), (762, .iconst 1, 1), (763, .iadd, 1), (764, .iaload, 1), (765, .invokevirtual 109, 3), (768, .aload_n 2, 1), (769, .aload_n 0, 1), (770, .iload_n 3, 1), (771, .iconst 1, 1), (772, .iadd, 1), (773, .iaload, 1), (774, .invokevirtual 112, 3), (777, .if_icmp .eq 87, 3), (780, .iconst 0, 1), (781, .ireturn, 1)]
theorem am_lk23 : (am_lT23.all fun q => decide (decode code q.1 = .ok (q.2.1, q.2.2))) = true := by decide +kernel
def am_lT24 : List (Nat × Instr × Nat) := [(782, .aload_n 1, 1), (783, .aload_n 0, 1), (784, .iload_n 3, 1), (785, .iconst 1, 1), (786, .iadd, 1), (787, .iaload, 1), (788, .aload_n 0, 1), (789, .iload_n 3, 1), (790, .iconst 2, 1), (791, .iadd, 1), (792, .iaload, 1), (793, .invokevirtual 113, 3), (796, .aload_n 2, 1), (797, .aload_n 0, 1), (798, .iload_n 3, 1), (799, .iconst 1, 1), (800, .iadd, 1), (801, .iaload, 1), (802, .aload_n 0, 1), (803, .iload_n 3, 1), (804, .iconst 2, 1), (805, .iadd, 1), (806, .iaload, 1), (807, .invokevirtual 116, 3), (810, .if_icmp .eq 54, 3), (813, .iconst 0, 1), (814, .ireturn, 1)]
theorem am_lk24 : (am_lT24.all fun q => decide (decode code q.1 = .ok (q.2.1, q.2.2))) = true := by decide +kernel
def am_lT25 : List (Nat × Instr × Nat) := [(815, .aload_n 1, 1), (816, .invokevirtual 117, 3), (819, .aload_n 2, 1), (820, .invokevirtual 120, 3), (823, .if_icmp .eq 41, 3), (826, .iconst 0, 1), (827, .ireturn, 1)]
theorem am_lk25 : (am_lT25.all fun q => decide (decode code q.1 = .ok (q.2.1, q.2.2))) = true := by decide +kernel
def am_lT26 : List (Nat × Instr × Nat) := [(828, .aload_n 1, 1), (829, .invokevirtual 121, 3), (832, .aload_n 2, 1), (833, .invokevirtual 124, 3), (836, .if_icmp .eq 28, 3), (839, .iconst 0, 1), (840, .ireturn, 1)]
theorem am_lk26 : (am_lT26.all fun q => decide (decode code q.1 = .ok (q.2.1, q.2.2))) = true := by decide +kernel
def am_lT27 : List (Nat × Instr × Nat) := [(841, .aload_n 1, 1), (842, .aload_n 0, 1), (843, .iload_n 3, 1), (844, .iconst 1, 1), (845, .iadd, 1), (846, .iaload, 1), (847, .invokevirtual 125, 3), (850, .aload_n 2, 1), (851, .aload_n 0, 1), (852, .iload_n 3, 1), (853, .iconst 1, 1), (854, .iadd, 1), (855, .iaload, 1), (856, .invokevirtual 128, 3), (859, .if_icmp .eq 5, 3), (862, .iconst 0, 1), (863, .ireturn, 1)]
theorem am_lk27 : (am_lT27.all fun q => decide (decode code q.1 = .ok (q.2.1, q.2.2))) = true := by decide +kernel
/-! what holds all through the law's run -/
def am_LX (p : Program) (s : State) (m : MethodId) (args : Array Value) (c : Code) (D : va_G) (cA : ClassId) (ad : Nat → Nat) (A : Nat → Prop) (b L : Nat) (xs : Nat → Int32) : Prop :=
  p.tables.exec = Jvm.exec ∧ c.code = code ∧ c.maxLocals = 4 ∧ s.vm.findClass R_law = some m.cls ∧ (∀ w ∈ am_wl, w.before args s = true) ∧ am_D ad A ∧ va_K D vwCl [(cA, .int)] s ∧ am_nw s ∧ am_T ad A s s.heap ∧ va_X b L xs s s.heap ∧ b < s.heap.size ∧ ¬ A b ∧ L ≤ 2048
theorem am_low5 (x : Int32) : ∃ k : Nat, k < 32 ∧ x &&& 31 = nI k := ⟨x.toBitVec.toNat % 2 ^ 5, Nat.mod_lt _ (by decide), pk_and x 5 (by decide)⟩
theorem am_lexit {i L : Nat} (hL : L ≤ 2048) (hi : i < 3000) (h : ¬ nI L - nI 4 < nI i) : i + 4 ≤ L := by
  rw [Int32.lt_iff_toInt_lt, pk_sub_toInt (by omega) (by omega), nI_toInt (by omega)] at h
  omega
theorem am_oneI : ∀ is : List Int32, (is.map Value.int).all am_one = true := by
  intro is
  induction is with
  | nil => rfl
  | cons x is ih => rw [List.map_cons, List.all_cons, ih]; rfl
theorem am_vI {ad : Nat → Nat} : ∀ is : List Int32, (is.map Value.int).map (am_v ad) = is.map Value.int := by
  intro is
  induction is with
  | nil => rfl
  | cons x is ih => rw [List.map_cons, List.map_cons, ih]; rfl
section AML
variable {p : Program} {l : Launch} {e : Env} {s : State} {m : MethodId} {args : Array Value} {below : List Frame} {meth : Method} {c : Code} {D : va_G} {cA : ClassId} {ad : Nat → Nat} {A : Nat → Prop} {b L : Nat} {xs : Nat → Int32} {Q : State → Prop} {H : Heap} {locs : List Loc} {ls : Array Slot} {pc i : Nat}
set_option maxHeartbeats 4000000 in
/-- a call of the law, by a run of the abstract machine -/
theorem am_lcall (C : am_LX p s m args c D cA ad A b L xs) {M : am_Mem} {P : Int32 → am_Mem → Prop} (j k : Nat) (is : List Int32) (rest : List Value) (hgo : am_go j (am_ent j (.ref k :: is.map Value.int) M) (am_ri P)) (hj : j < 160) (hk : am_cls k = some (am_cl j)) (hsta : am_sta j = false) (hnp : am_np j = is.length) (hhg : Nat.ble (am_hg j) 8 = true) {ix q : Nat} (hlink : am_at q (.methodLink R_law ix (am_nam j)) = true) (hd : decode code pc = .ok (.invokevirtual ix, 3)) (hls : ls.size = 4) (hrest : (rest.map fun v => v.category).sum ≤ 8) (hP : va_P D vwCl (am_w ad cA M) H) (hS : va_S A s.heap H locs)
    (kk : ∀ (x : Int32) (M2 : am_Mem) (H1 : Heap) (locs1 : List Loc), P x M2 → va_P D vwCl (am_w ad cA M2) H1 → va_S A s.heap H1 locs1 → W p l e room_1 s m args below meth c H1 locs1 30 1074 Q (F0 m (pc + 3) ls (.int x :: rest))) : W p l e room_1 s m args below meth c H locs 30 1074 Q (F0 m pc ls ((is.map Value.int).reverse ++ .ref (ad k) :: rest)) := by
  obtain ⟨hx, hb, hml, hown, hts, hDD, hK, hN, hT, -, -, -, -⟩ := C
  obtain ⟨n, r, M2, he, x, rfl, hp⟩ := hgo
  obtain ⟨o1, o2, o3, o4, o5, o6, o7⟩ := am_okm_at hj
  rcases o7 with ⟨o8, -⟩ | ⟨-, o8, o9, o11, o10⟩
  · rw [hsta] at o8; cases o8
  have hone : (Value.ref k :: is.map Value.int).all am_one = true := by rw [List.all_cons, am_oneI]; rfl
  have hlen : (Value.ref k :: is.map Value.int).length ≤ am_ml j := by rw [List.length_cons, List.length_map]; omega
  have hM := am_met l (D := D) (cA := cA) hDD hj hone hlen he
  have hcw := am_cwm o1
  have hws : ∀ w ∈ am_ws j, w ∈ am_wl := fun w hw => by
    rcases List.mem_cons.mp hw with rfl | hw
    · exact hcw
    · exact hw
  have hg8 := Nat.le_of_ble_eq_true hhg
  have hR : (am_rm j).frames + 1 ≤ room_1.frames ∧ 8 + (am_ml j + 11) + (am_rm j).locals ≤ room_1.locals := by
    show am_hg j + 1 ≤ 9 ∧ 8 + (am_ml j + 11) + 30 * am_hg j ≤ 326
    omega
  have hrecv := va_recv hK hP (am_hc o10) (am_w_obj ad cA M hk)
  have hPre : PreV s H (am_nam j).cls (ad k) (va_Pc ((Value.ref k :: is.map Value.int).map (am_v ad)) (am_B D cA ad A M)) (is.map Value.int) := ⟨am_blind, by rw [o3]; exact hrecv, fun U hU hW => ⟨by rw [List.map_cons, am_vI]; rfl, am_B.at hP hK hN hT hS hU hW⟩⟩
  refine va_calli (S := Unit) (post := fun y _ => y = x) (B := fun _ t => am_B D cA ad A M2 t) (va_runV ⟨hx, hb, hml, hown, hts⟩ hM (cwV (am_np j) hts (am_good (fun w hw => by
    unfold wsV at hw
    rcases List.mem_append.mp hw with hw | hw
    · simp only [List.mem_cons, List.not_mem_nil, or_false] at hw
      rcases hw with rfl | rfl | rfl | rfl
      · exact am_at.wl hlink
      · exact o8
      · exact o9
      · exact o2
    · exact hws w hw)) rfl rfl rfl ⟨rfl, o4⟩ hR) hPre rfl (by rw [List.length_map, hnp]) hls rfl (lv_room hrest) hd ⟨Nat.le_refl _, Nat.le_refl _⟩) hS (fun q _ h => h) (fun q h => h) (fun y u t H1 locs1 ht hvm hp9 hB hz hk9 hS1 => ?_)
  subst ht
  subst hp9
  exact kk _ _ _ _ hp hB.1 hS1
/-- the law's own locals -/
abbrev am_LL (b i : Nat) (ad : Nat → Nat) : List (Nat × Value) := [(3, .int (nI i)), (2, .ref (ad 17)), (1, .ref (ad 0)), (0, .ref b)]
theorem am_larg (C : am_LX p s m args c D cA ad A b L xs) (hl : lv_has ls 4 (am_LL b i ad)) (hS : va_S A s.heap H locs) (a : Nat) {z : Int} {st : List Value} (hz : Int32.ofInt z = nI a) (hin : i + a < L) (d0 : decode code pc = .ok (.aload_n 0, 1)) (d1 : decode code (pc + 1) = .ok (.iload_n 3, 1)) (d2 : decode code (pc + 1 + 1) = .ok (.iconst z, 1)) (d3 : decode code (pc + 1 + 1 + 1) = .ok (.iadd, 1)) (d4 : decode code (pc + 1 + 1 + 1 + 1) = .ok (.iaload, 1))
    (kk : W p l e room_1 s m args below meth c H locs 30 1074 Q (F0 m (pc + 1 + 1 + 1 + 1 + 1) ls (.int (xs (nI (i + a)).toNatClampNeg) :: st))) : W p l e room_1 s m args below meth c H locs 30 1074 Q (F0 m pc ls st) := by
  obtain ⟨hx, hb, hml, hown, hts, hDD, hK, hN, hT, hX, hbl, hbA, hL⟩ := C
  refine lv_aload_n hx hb d0 rfl (lv_at hl 3 rfl) ?_
  refine lv_iload_n hx hb d1 rfl (lv_at hl 0 rfl) ?_
  refine lv_iconst (v := nI a) hx hb d2 hz ?_
  refine lv_iadd hx hb d3 ?_
  rw [nI_add]
  exact va_sld hx hb hX hbl hbA hS (vp_in_nI hin (by omega)) d4 kk

set_option maxHeartbeats 4000000 in
theorem am_case0 (C : am_LX p s m args c D cA ad A b L xs) (hl : lv_has ls 4 (am_LL b i ad)) (hi : i + 4 ≤ L) {M : am_Mem} (hI : sp_Inv M) (hP : va_P D vwCl (am_w ad cA M) H) (hS : va_S A s.heap H locs) (kk : ∀ (M2 : am_Mem) (H1 : Heap) (locs1 : List Loc), sp_Inv M2 → va_P D vwCl (am_w ad cA M2) H1 → va_S A s.heap H1 locs1 → W p l e room_1 s m args below meth c H1 locs1 30 1074 Q (F0 m 864 ls [])) : W p l e room_1 s m args below meth c H locs 30 1074 Q (F0 m 160 ls []) := by
  obtain ⟨hx, hb, hml, hown, hts, hDD, hK, hN, hT, hX, hbl, hbA, hL⟩ := id C
  refine lv_aload_n hx hb (am_lD am_lk0 0 rfl) rfl (lv_at hl 2 rfl) ?_
  refine am_larg C hl hS 1 (by decide) (by omega) (am_lD am_lk0 1 rfl) (am_lD am_lk0 2 rfl) (am_lD am_lk0 3 rfl) (am_lD am_lk0 4 rfl) (am_lD am_lk0 5 rfl) ?_
  refine am_lcall C 54 0 [(xs (nI (i + 1)).toNatClampNeg)] [] (pp_letter hI (xs (nI (i + 1)).toNatClampNeg)) (by decide) rfl rfl rfl (by decide) (q := 176) (by decide +kernel) (am_lD am_lk0 6 rfl) hl.1 (Nat.le_of_ble_eq_true rfl) hP hS (fun x M2 H1 locs1 hp hP hS => ?_)
  refine lv_aload_n hx hb (am_lD am_lk0 7 rfl) rfl (lv_at hl 1 rfl) ?_
  refine am_larg C hl hS 1 (by decide) (by omega) (am_lD am_lk0 8 rfl) (am_lD am_lk0 9 rfl) (am_lD am_lk0 10 rfl) (am_lD am_lk0 11 rfl) (am_lD am_lk0 12 rfl) ?_
  refine am_lcall C 101 17 [(xs (nI (i + 1)).toNatClampNeg)] [.int x] hp (by decide) rfl rfl rfl (by decide) (q := 663) (by decide +kernel) (am_lD am_lk0 13 rfl) hl.1 (Nat.le_of_ble_eq_true rfl) hP hS (fun y M3 H2 locs2 hp2 hP hS => ?_)
  exact lv_icmp_eq (tgt := 864) hx hb (am_lD am_lk0 14 rfl) (by decide) (fun c9 => kk M3 H2 locs2 hp2.2 hP hS) (fun c9 => absurd hp2.1 c9)
set_option maxHeartbeats 4000000 in
theorem am_case1 (C : am_LX p s m args c D cA ad A b L xs) (hl : lv_has ls 4 (am_LL b i ad)) (hi : i + 4 ≤ L) {M : am_Mem} (hI : sp_Inv M) (hP : va_P D vwCl (am_w ad cA M) H) (hS : va_S A s.heap H locs) (kk : ∀ (M2 : am_Mem) (H1 : Heap) (locs1 : List Loc), sp_Inv M2 → va_P D vwCl (am_w ad cA M2) H1 → va_S A s.heap H1 locs1 → W p l e room_1 s m args below meth c H1 locs1 30 1074 Q (F0 m 864 ls [])) : W p l e room_1 s m args below meth c H locs 30 1074 Q (F0 m 183 ls []) := by
  obtain ⟨hx, hb, hml, hown, hts, hDD, hK, hN, hT, hX, hbl, hbA, hL⟩ := id C
  refine lv_aload_n hx hb (am_lD am_lk1 0 rfl) rfl (lv_at hl 2 rfl) ?_
  refine am_lcall C 55 0 [] [] (pp_beam hI) (by decide) rfl rfl rfl (by decide) (q := 192) (by decide +kernel) (am_lD am_lk1 1 rfl) hl.1 (Nat.le_of_ble_eq_true rfl) hP hS (fun x M2 H1 locs1 hp hP hS => ?_)
  refine lv_aload_n hx hb (am_lD am_lk1 2 rfl) rfl (lv_at hl 1 rfl) ?_
  refine am_lcall C 110 17 [] [.int x] hp (by decide) rfl rfl rfl (by decide) (q := 674) (by decide +kernel) (am_lD am_lk1 3 rfl) hl.1 (Nat.le_of_ble_eq_true rfl) hP hS (fun y M3 H2 locs2 hp2 hP hS => ?_)
  exact lv_icmp_eq (tgt := 864) hx hb (am_lD am_lk1 4 rfl) (by decide) (fun c9 => kk M3 H2 locs2 hp2.2 hP hS) (fun c9 => absurd hp2.1 c9)
set_option maxHeartbeats 4000000 in
theorem am_case2 (C : am_LX p s m args c D cA ad A b L xs) (hl : lv_has ls 4 (am_LL b i ad)) (hi : i + 4 ≤ L) {M : am_Mem} (hI : sp_Inv M) (hP : va_P D vwCl (am_w ad cA M) H) (hS : va_S A s.heap H locs) (kk : ∀ (M2 : am_Mem) (H1 : Heap) (locs1 : List Loc), sp_Inv M2 → va_P D vwCl (am_w ad cA M2) H1 → va_S A s.heap H1 locs1 → W p l e room_1 s m args below meth c H1 locs1 30 1074 Q (F0 m 864 ls [])) : W p l e room_1 s m args below meth c H locs 30 1074 Q (F0 m 196 ls []) := by
  obtain ⟨hx, hb, hml, hown, hts, hDD, hK, hN, hT, hX, hbl, hbA, hL⟩ := id C
  refine lv_aload_n hx hb (am_lD am_lk2 0 rfl) rfl (lv_at hl 2 rfl) ?_
  refine am_larg C hl hS 1 (by decide) (by omega) (am_lD am_lk2 1 rfl) (am_lD am_lk2 2 rfl) (am_lD am_lk2 3 rfl) (am_lD am_lk2 4 rfl) (am_lD am_lk2 5 rfl) ?_
  refine am_larg C hl hS 2 (by decide) (by omega) (am_lD am_lk2 6 rfl) (am_lD am_lk2 7 rfl) (am_lD am_lk2 8 rfl) (am_lD am_lk2 9 rfl) (am_lD am_lk2 10 rfl) ?_
  refine am_lcall C 56 0 [(xs (nI (i + 1)).toNatClampNeg), (xs (nI (i + 2)).toNatClampNeg)] [] (pp_arm hI (xs (nI (i + 1)).toNatClampNeg) (xs (nI (i + 2)).toNatClampNeg)) (by decide) rfl rfl rfl (by decide) (q := 291) (by decide +kernel) (am_lD am_lk2 11 rfl) hl.1 (Nat.le_of_ble_eq_true rfl) hP hS (fun x M2 H1 locs1 hp hP hS => ?_)
  refine lv_aload_n hx hb (am_lD am_lk2 12 rfl) rfl (lv_at hl 1 rfl) ?_
  refine am_larg C hl hS 1 (by decide) (by omega) (am_lD am_lk2 13 rfl) (am_lD am_lk2 14 rfl) (am_lD am_lk2 15 rfl) (am_lD am_lk2 16 rfl) (am_lD am_lk2 17 rfl) ?_
  refine am_larg C hl hS 2 (by decide) (by omega) (am_lD am_lk2 18 rfl) (am_lD am_lk2 19 rfl) (am_lD am_lk2 20 rfl) (am_lD am_lk2 21 rfl) (am_lD am_lk2 22 rfl) ?_
  refine am_lcall C 119 17 [(xs (nI (i + 1)).toNatClampNeg), (xs (nI (i + 2)).toNatClampNeg)] [.int x] hp (by decide) rfl rfl rfl (by decide) (q := 749) (by decide +kernel) (am_lD am_lk2 23 rfl) hl.1 (Nat.le_of_ble_eq_true rfl) hP hS (fun y M3 H2 locs2 hp2 hP hS => ?_)
  exact lv_icmp_eq (tgt := 864) hx hb (am_lD am_lk2 24 rfl) (by decide) (fun c9 => kk M3 H2 locs2 hp2.2 hP hS) (fun c9 => absurd hp2.1 c9)
set_option maxHeartbeats 4000000 in
theorem am_case3 (C : am_LX p s m args c D cA ad A b L xs) (hl : lv_has ls 4 (am_LL b i ad)) (hi : i + 4 ≤ L) {M : am_Mem} (hI : sp_Inv M) (hP : va_P D vwCl (am_w ad cA M) H) (hS : va_S A s.heap H locs) (kk : ∀ (M2 : am_Mem) (H1 : Heap) (locs1 : List Loc), sp_Inv M2 → va_P D vwCl (am_w ad cA M2) H1 → va_S A s.heap H1 locs1 → W p l e room_1 s m args below meth c H1 locs1 30 1074 Q (F0 m 864 ls [])) : W p l e room_1 s m args below meth c H locs 30 1074 Q (F0 m 229 ls []) := by
  obtain ⟨hx, hb, hml, hown, hts, hDD, hK, hN, hT, hX, hbl, hbA, hL⟩ := id C
  refine lv_aload_n hx hb (am_lD am_lk3 0 rfl) rfl (lv_at hl 2 rfl) ?_
  refine am_larg C hl hS 1 (by decide) (by omega) (am_lD am_lk3 1 rfl) (am_lD am_lk3 2 rfl) (am_lD am_lk3 3 rfl) (am_lD am_lk3 4 rfl) (am_lD am_lk3 5 rfl) ?_
  refine am_lcall C 57 0 [(xs (nI (i + 1)).toNatClampNeg)] [] (pp_joint hI (xs (nI (i + 1)).toNatClampNeg)) (by decide) rfl rfl rfl (by decide) (q := 319) (by decide +kernel) (am_lD am_lk3 6 rfl) hl.1 (Nat.le_of_ble_eq_true rfl) hP hS (fun x M2 H1 locs1 hp hP hS => ?_)
  refine lv_aload_n hx hb (am_lD am_lk3 7 rfl) rfl (lv_at hl 1 rfl) ?_
  refine am_larg C hl hS 1 (by decide) (by omega) (am_lD am_lk3 8 rfl) (am_lD am_lk3 9 rfl) (am_lD am_lk3 10 rfl) (am_lD am_lk3 11 rfl) (am_lD am_lk3 12 rfl) ?_
  refine am_lcall C 120 17 [(xs (nI (i + 1)).toNatClampNeg)] [.int x] hp (by decide) rfl rfl rfl (by decide) (q := 761) (by decide +kernel) (am_lD am_lk3 13 rfl) hl.1 (Nat.le_of_ble_eq_true rfl) hP hS (fun y M3 H2 locs2 hp2 hP hS => ?_)
  exact lv_icmp_eq (tgt := 864) hx hb (am_lD am_lk3 14 rfl) (by decide) (fun c9 => kk M3 H2 locs2 hp2.2 hP hS) (fun c9 => absurd hp2.1 c9)
set_option maxHeartbeats 4000000 in
theorem am_case4 (C : am_LX p s m args c D cA ad A b L xs) (hl : lv_has ls 4 (am_LL b i ad)) (hi : i + 4 ≤ L) {M : am_Mem} (hI : sp_Inv M) (hP : va_P D vwCl (am_w ad cA M) H) (hS : va_S A s.heap H locs) (kk : ∀ (M2 : am_Mem) (H1 : Heap) (locs1 : List Loc), sp_Inv M2 → va_P D vwCl (am_w ad cA M2) H1 → va_S A s.heap H1 locs1 → W p l e room_1 s m args below meth c H1 locs1 30 1074 Q (F0 m 864 ls [])) : W p l e room_1 s m args below meth c H locs 30 1074 Q (F0 m 252 ls []) := by
  obtain ⟨hx, hb, hml, hown, hts, hDD, hK, hN, hT, hX, hbl, hbA, hL⟩ := id C
  refine lv_aload_n hx hb (am_lD am_lk4 0 rfl) rfl (lv_at hl 2 rfl) ?_
  refine am_larg C hl hS 1 (by decide) (by omega) (am_lD am_lk4 1 rfl) (am_lD am_lk4 2 rfl) (am_lD am_lk4 3 rfl) (am_lD am_lk4 4 rfl) (am_lD am_lk4 5 rfl) ?_
  refine am_larg C hl hS 2 (by decide) (by omega) (am_lD am_lk4 6 rfl) (am_lD am_lk4 7 rfl) (am_lD am_lk4 8 rfl) (am_lD am_lk4 9 rfl) (am_lD am_lk4 10 rfl) ?_
  refine am_larg C hl hS 3 (by decide) (by omega) (am_lD am_lk4 11 rfl) (am_lD am_lk4 12 rfl) (am_lD am_lk4 13 rfl) (am_lD am_lk4 14 rfl) (am_lD am_lk4 15 rfl) ?_
  refine am_lcall C 58 0 [(xs (nI (i + 1)).toNatClampNeg), (xs (nI (i + 2)).toNatClampNeg), (xs (nI (i + 3)).toNatClampNeg)] [] (pp_step hI (xs (nI (i + 1)).toNatClampNeg) (xs (nI (i + 2)).toNatClampNeg) (xs (nI (i + 3)).toNatClampNeg)) (by decide) rfl rfl rfl (by decide) (q := 326) (by decide +kernel) (am_lD am_lk4 16 rfl) hl.1 (Nat.le_of_ble_eq_true rfl) hP hS (fun x M2 H1 locs1 hp hP hS => ?_)
  refine lv_aload_n hx hb (am_lD am_lk4 17 rfl) rfl (lv_at hl 1 rfl) ?_
  refine am_larg C hl hS 1 (by decide) (by omega) (am_lD am_lk4 18 rfl) (am_lD am_lk4 19 rfl) (am_lD am_lk4 20 rfl) (am_lD am_lk4 21 rfl) (am_lD am_lk4 22 rfl) ?_
  refine am_larg C hl hS 2 (by decide) (by omega) (am_lD am_lk4 23 rfl) (am_lD am_lk4 24 rfl) (am_lD am_lk4 25 rfl) (am_lD am_lk4 26 rfl) (am_lD am_lk4 27 rfl) ?_
  refine am_larg C hl hS 3 (by decide) (by omega) (am_lD am_lk4 28 rfl) (am_lD am_lk4 29 rfl) (am_lD am_lk4 30 rfl) (am_lD am_lk4 31 rfl) (am_lD am_lk4 32 rfl) ?_
  refine am_lcall C 122 17 [(xs (nI (i + 1)).toNatClampNeg), (xs (nI (i + 2)).toNatClampNeg), (xs (nI (i + 3)).toNatClampNeg)] [.int x] hp (by decide) rfl rfl rfl (by decide) (q := 765) (by decide +kernel) (am_lD am_lk4 33 rfl) hl.1 (Nat.le_of_ble_eq_true rfl) hP hS (fun y M3 H2 locs2 hp2 hP hS => ?_)
  exact lv_icmp_eq (tgt := 864) hx hb (am_lD am_lk4 34 rfl) (by decide) (fun c9 => kk M3 H2 locs2 hp2.2 hP hS) (fun c9 => absurd hp2.1 c9)
set_option maxHeartbeats 4000000 in
theorem am_case5 (C : am_LX p s m args c D cA ad A b L xs) (hl : lv_has ls 4 (am_LL b i ad)) (hi : i + 4 ≤ L) {M : am_Mem} (hI : sp_Inv M) (hP : va_P D vwCl (am_w ad cA M) H) (hS : va_S A s.heap H locs) (kk : ∀ (M2 : am_Mem) (H1 : Heap) (locs1 : List Loc), sp_Inv M2 → va_P D vwCl (am_w ad cA M2) H1 → va_S A s.heap H1 locs1 → W p l e room_1 s m args below meth c H1 locs1 30 1074 Q (F0 m 864 ls [])) : W p l e room_1 s m args below meth c H locs 30 1074 Q (F0 m 295 ls []) := by
  obtain ⟨hx, hb, hml, hown, hts, hDD, hK, hN, hT, hX, hbl, hbA, hL⟩ := id C
  refine lv_aload_n hx hb (am_lD am_lk5 0 rfl) rfl (lv_at hl 2 rfl) ?_
  refine am_larg C hl hS 1 (by decide) (by omega) (am_lD am_lk5 1 rfl) (am_lD am_lk5 2 rfl) (am_lD am_lk5 3 rfl) (am_lD am_lk5 4 rfl) (am_lD am_lk5 5 rfl) ?_
  refine am_larg C hl hS 2 (by decide) (by omega) (am_lD am_lk5 6 rfl) (am_lD am_lk5 7 rfl) (am_lD am_lk5 8 rfl) (am_lD am_lk5 9 rfl) (am_lD am_lk5 10 rfl) ?_
  refine am_lcall C 59 0 [(xs (nI (i + 1)).toNatClampNeg), (xs (nI (i + 2)).toNatClampNeg)] [] (pp_fix hI (xs (nI (i + 1)).toNatClampNeg) (xs (nI (i + 2)).toNatClampNeg)) (by decide) rfl rfl rfl (by decide) (q := 363) (by decide +kernel) (am_lD am_lk5 11 rfl) hl.1 (Nat.le_of_ble_eq_true rfl) hP hS (fun x M2 H1 locs1 hp hP hS => ?_)
  refine lv_aload_n hx hb (am_lD am_lk5 12 rfl) rfl (lv_at hl 1 rfl) ?_
  refine am_larg C hl hS 1 (by decide) (by omega) (am_lD am_lk5 13 rfl) (am_lD am_lk5 14 rfl) (am_lD am_lk5 15 rfl) (am_lD am_lk5 16 rfl) (am_lD am_lk5 17 rfl) ?_
  refine am_larg C hl hS 2 (by decide) (by omega) (am_lD am_lk5 18 rfl) (am_lD am_lk5 19 rfl) (am_lD am_lk5 20 rfl) (am_lD am_lk5 21 rfl) (am_lD am_lk5 22 rfl) ?_
  refine am_lcall C 124 17 [(xs (nI (i + 1)).toNatClampNeg), (xs (nI (i + 2)).toNatClampNeg)] [.int x] hp (by decide) rfl rfl rfl (by decide) (q := 789) (by decide +kernel) (am_lD am_lk5 23 rfl) hl.1 (Nat.le_of_ble_eq_true rfl) hP hS (fun y M3 H2 locs2 hp2 hP hS => ?_)
  exact lv_icmp_eq (tgt := 864) hx hb (am_lD am_lk5 24 rfl) (by decide) (fun c9 => kk M3 H2 locs2 hp2.2 hP hS) (fun c9 => absurd hp2.1 c9)
set_option maxHeartbeats 4000000 in
theorem am_case6 (C : am_LX p s m args c D cA ad A b L xs) (hl : lv_has ls 4 (am_LL b i ad)) (hi : i + 4 ≤ L) {M : am_Mem} (hI : sp_Inv M) (hP : va_P D vwCl (am_w ad cA M) H) (hS : va_S A s.heap H locs) (kk : ∀ (M2 : am_Mem) (H1 : Heap) (locs1 : List Loc), sp_Inv M2 → va_P D vwCl (am_w ad cA M2) H1 → va_S A s.heap H1 locs1 → W p l e room_1 s m args below meth c H1 locs1 30 1074 Q (F0 m 864 ls [])) : W p l e room_1 s m args below meth c H locs 30 1074 Q (F0 m 328 ls []) := by
  obtain ⟨hx, hb, hml, hown, hts, hDD, hK, hN, hT, hX, hbl, hbA, hL⟩ := id C
  refine lv_aload_n hx hb (am_lD am_lk6 0 rfl) rfl (lv_at hl 2 rfl) ?_
  refine am_larg C hl hS 1 (by decide) (by omega) (am_lD am_lk6 1 rfl) (am_lD am_lk6 2 rfl) (am_lD am_lk6 3 rfl) (am_lD am_lk6 4 rfl) (am_lD am_lk6 5 rfl) ?_
  refine am_larg C hl hS 2 (by decide) (by omega) (am_lD am_lk6 6 rfl) (am_lD am_lk6 7 rfl) (am_lD am_lk6 8 rfl) (am_lD am_lk6 9 rfl) (am_lD am_lk6 10 rfl) ?_
  refine am_lcall C 60 0 [(xs (nI (i + 1)).toNatClampNeg), (xs (nI (i + 2)).toNatClampNeg)] [] (pp_unfix hI (xs (nI (i + 1)).toNatClampNeg) (xs (nI (i + 2)).toNatClampNeg)) (by decide) rfl rfl rfl (by decide) (q := 379) (by decide +kernel) (am_lD am_lk6 11 rfl) hl.1 (Nat.le_of_ble_eq_true rfl) hP hS (fun x M2 H1 locs1 hp hP hS => ?_)
  refine lv_aload_n hx hb (am_lD am_lk6 12 rfl) rfl (lv_at hl 1 rfl) ?_
  refine am_larg C hl hS 1 (by decide) (by omega) (am_lD am_lk6 13 rfl) (am_lD am_lk6 14 rfl) (am_lD am_lk6 15 rfl) (am_lD am_lk6 16 rfl) (am_lD am_lk6 17 rfl) ?_
  refine am_larg C hl hS 2 (by decide) (by omega) (am_lD am_lk6 18 rfl) (am_lD am_lk6 19 rfl) (am_lD am_lk6 20 rfl) (am_lD am_lk6 21 rfl) (am_lD am_lk6 22 rfl) ?_
  refine am_lcall C 125 17 [(xs (nI (i + 1)).toNatClampNeg), (xs (nI (i + 2)).toNatClampNeg)] [.int x] hp (by decide) rfl rfl rfl (by decide) (q := 797) (by decide +kernel) (am_lD am_lk6 23 rfl) hl.1 (Nat.le_of_ble_eq_true rfl) hP hS (fun y M3 H2 locs2 hp2 hP hS => ?_)
  exact lv_icmp_eq (tgt := 864) hx hb (am_lD am_lk6 24 rfl) (by decide) (fun c9 => kk M3 H2 locs2 hp2.2 hP hS) (fun c9 => absurd hp2.1 c9)
set_option maxHeartbeats 4000000 in
theorem am_case7 (C : am_LX p s m args c D cA ad A b L xs) (hl : lv_has ls 4 (am_LL b i ad)) (hi : i + 4 ≤ L) {M : am_Mem} (hI : sp_Inv M) (hP : va_P D vwCl (am_w ad cA M) H) (hS : va_S A s.heap H locs) (kk : ∀ (M2 : am_Mem) (H1 : Heap) (locs1 : List Loc), sp_Inv M2 → va_P D vwCl (am_w ad cA M2) H1 → va_S A s.heap H1 locs1 → W p l e room_1 s m args below meth c H1 locs1 30 1074 Q (F0 m 864 ls [])) : W p l e room_1 s m args below meth c H locs 30 1074 Q (F0 m 361 ls []) := by
  obtain ⟨hx, hb, hml, hown, hts, hDD, hK, hN, hT, hX, hbl, hbA, hL⟩ := id C
  refine lv_aload_n hx hb (am_lD am_lk7 0 rfl) rfl (lv_at hl 2 rfl) ?_
  refine am_larg C hl hS 1 (by decide) (by omega) (am_lD am_lk7 1 rfl) (am_lD am_lk7 2 rfl) (am_lD am_lk7 3 rfl) (am_lD am_lk7 4 rfl) (am_lD am_lk7 5 rfl) ?_
  refine am_lcall C 62 0 [(xs (nI (i + 1)).toNatClampNeg)] [] (pp_pass hI (xs (nI (i + 1)).toNatClampNeg)) (by decide) rfl rfl rfl (by decide) (q := 387) (by decide +kernel) (am_lD am_lk7 6 rfl) hl.1 (Nat.le_of_ble_eq_true rfl) hP hS (fun x M2 H1 locs1 hp hP hS => ?_)
  refine lv_aload_n hx hb (am_lD am_lk7 7 rfl) rfl (lv_at hl 1 rfl) ?_
  refine am_larg C hl hS 1 (by decide) (by omega) (am_lD am_lk7 8 rfl) (am_lD am_lk7 9 rfl) (am_lD am_lk7 10 rfl) (am_lD am_lk7 11 rfl) (am_lD am_lk7 12 rfl) ?_
  refine am_lcall C 126 17 [(xs (nI (i + 1)).toNatClampNeg)] [.int x] hp (by decide) rfl rfl rfl (by decide) (q := 801) (by decide +kernel) (am_lD am_lk7 13 rfl) hl.1 (Nat.le_of_ble_eq_true rfl) hP hS (fun y M3 H2 locs2 hp2 hP hS => ?_)
  exact lv_icmp_eq (tgt := 864) hx hb (am_lD am_lk7 14 rfl) (by decide) (fun c9 => kk M3 H2 locs2 hp2.2 hP hS) (fun c9 => absurd hp2.1 c9)
set_option maxHeartbeats 4000000 in
theorem am_case8 (C : am_LX p s m args c D cA ad A b L xs) (hl : lv_has ls 4 (am_LL b i ad)) (hi : i + 4 ≤ L) {M : am_Mem} (hI : sp_Inv M) (hP : va_P D vwCl (am_w ad cA M) H) (hS : va_S A s.heap H locs) (kk : ∀ (M2 : am_Mem) (H1 : Heap) (locs1 : List Loc), sp_Inv M2 → va_P D vwCl (am_w ad cA M2) H1 → va_S A s.heap H1 locs1 → W p l e room_1 s m args below meth c H1 locs1 30 1074 Q (F0 m 864 ls [])) : W p l e room_1 s m args below meth c H locs 30 1074 Q (F0 m 384 ls []) := by
  obtain ⟨hx, hb, hml, hown, hts, hDD, hK, hN, hT, hX, hbl, hbA, hL⟩ := id C
  refine lv_aload_n hx hb (am_lD am_lk8 0 rfl) rfl (lv_at hl 2 rfl) ?_
  refine am_larg C hl hS 1 (by decide) (by omega) (am_lD am_lk8 1 rfl) (am_lD am_lk8 2 rfl) (am_lD am_lk8 3 rfl) (am_lD am_lk8 4 rfl) (am_lD am_lk8 5 rfl) ?_
  refine am_larg C hl hS 2 (by decide) (by omega) (am_lD am_lk8 6 rfl) (am_lD am_lk8 7 rfl) (am_lD am_lk8 8 rfl) (am_lD am_lk8 9 rfl) (am_lD am_lk8 10 rfl) ?_
  refine am_lcall C 63 0 [(xs (nI (i + 1)).toNatClampNeg), (xs (nI (i + 2)).toNatClampNeg)] [] (pp_may hI (xs (nI (i + 1)).toNatClampNeg) (xs (nI (i + 2)).toNatClampNeg)) (by decide) rfl rfl rfl (by decide) (q := 391) (by decide +kernel) (am_lD am_lk8 11 rfl) hl.1 (Nat.le_of_ble_eq_true rfl) hP hS (fun x M2 H1 locs1 hp hP hS => ?_)
  refine lv_aload_n hx hb (am_lD am_lk8 12 rfl) rfl (lv_at hl 1 rfl) ?_
  refine am_larg C hl hS 1 (by decide) (by omega) (am_lD am_lk8 13 rfl) (am_lD am_lk8 14 rfl) (am_lD am_lk8 15 rfl) (am_lD am_lk8 16 rfl) (am_lD am_lk8 17 rfl) ?_
  refine am_larg C hl hS 2 (by decide) (by omega) (am_lD am_lk8 18 rfl) (am_lD am_lk8 19 rfl) (am_lD am_lk8 20 rfl) (am_lD am_lk8 21 rfl) (am_lD am_lk8 22 rfl) ?_
  refine am_lcall C 127 17 [(xs (nI (i + 1)).toNatClampNeg), (xs (nI (i + 2)).toNatClampNeg)] [.int x] hp (by decide) rfl rfl rfl (by decide) (q := 805) (by decide +kernel) (am_lD am_lk8 23 rfl) hl.1 (Nat.le_of_ble_eq_true rfl) hP hS (fun y M3 H2 locs2 hp2 hP hS => ?_)
  exact lv_icmp_eq (tgt := 864) hx hb (am_lD am_lk8 24 rfl) (by decide) (fun c9 => kk M3 H2 locs2 hp2.2 hP hS) (fun c9 => absurd hp2.1 c9)
set_option maxHeartbeats 4000000 in
theorem am_case9 (C : am_LX p s m args c D cA ad A b L xs) (hl : lv_has ls 4 (am_LL b i ad)) (hi : i + 4 ≤ L) {M : am_Mem} (hI : sp_Inv M) (hP : va_P D vwCl (am_w ad cA M) H) (hS : va_S A s.heap H locs) (kk : ∀ (M2 : am_Mem) (H1 : Heap) (locs1 : List Loc), sp_Inv M2 → va_P D vwCl (am_w ad cA M2) H1 → va_S A s.heap H1 locs1 → W p l e room_1 s m args below meth c H1 locs1 30 1074 Q (F0 m 864 ls [])) : W p l e room_1 s m args below meth c H locs 30 1074 Q (F0 m 417 ls []) := by
  obtain ⟨hx, hb, hml, hown, hts, hDD, hK, hN, hT, hX, hbl, hbA, hL⟩ := id C
  refine lv_aload_n hx hb (am_lD am_lk9 0 rfl) rfl (lv_at hl 2 rfl) ?_
  refine am_lcall C 64 0 [] [] (pp_blocked hI) (by decide) rfl rfl rfl (by decide) (q := 396) (by decide +kernel) (am_lD am_lk9 1 rfl) hl.1 (Nat.le_of_ble_eq_true rfl) hP hS (fun x M2 H1 locs1 hp hP hS => ?_)
  refine lv_aload_n hx hb (am_lD am_lk9 2 rfl) rfl (lv_at hl 1 rfl) ?_
  refine am_lcall C 131 17 [] [.int x] hp (by decide) rfl rfl rfl (by decide) (q := 809) (by decide +kernel) (am_lD am_lk9 3 rfl) hl.1 (Nat.le_of_ble_eq_true rfl) hP hS (fun y M3 H2 locs2 hp2 hP hS => ?_)
  exact lv_icmp_eq (tgt := 864) hx hb (am_lD am_lk9 4 rfl) (by decide) (fun c9 => kk M3 H2 locs2 hp2.2 hP hS) (fun c9 => absurd hp2.1 c9)
set_option maxHeartbeats 4000000 in
theorem am_case10 (C : am_LX p s m args c D cA ad A b L xs) (hl : lv_has ls 4 (am_LL b i ad)) (hi : i + 4 ≤ L) {M : am_Mem} (hI : sp_Inv M) (hP : va_P D vwCl (am_w ad cA M) H) (hS : va_S A s.heap H locs) (kk : ∀ (M2 : am_Mem) (H1 : Heap) (locs1 : List Loc), sp_Inv M2 → va_P D vwCl (am_w ad cA M2) H1 → va_S A s.heap H1 locs1 → W p l e room_1 s m args below meth c H1 locs1 30 1074 Q (F0 m 864 ls [])) : W p l e room_1 s m args below meth c H locs 30 1074 Q (F0 m 430 ls []) := by
  obtain ⟨hx, hb, hml, hown, hts, hDD, hK, hN, hT, hX, hbl, hbA, hL⟩ := id C
  refine lv_aload_n hx hb (am_lD am_lk10 0 rfl) rfl (lv_at hl 2 rfl) ?_
  refine am_larg C hl hS 1 (by decide) (by omega) (am_lD am_lk10 1 rfl) (am_lD am_lk10 2 rfl) (am_lD am_lk10 3 rfl) (am_lD am_lk10 4 rfl) (am_lD am_lk10 5 rfl) ?_
  refine am_lcall C 65 0 [(xs (nI (i + 1)).toNatClampNeg)] [] (pp_by hI (xs (nI (i + 1)).toNatClampNeg)) (by decide) rfl rfl rfl (by decide) (q := 408) (by decide +kernel) (am_lD am_lk10 6 rfl) hl.1 (Nat.le_of_ble_eq_true rfl) hP hS (fun x M2 H1 locs1 hp hP hS => ?_)
  refine lv_aload_n hx hb (am_lD am_lk10 7 rfl) rfl (lv_at hl 1 rfl) ?_
  refine am_larg C hl hS 1 (by decide) (by omega) (am_lD am_lk10 8 rfl) (am_lD am_lk10 9 rfl) (am_lD am_lk10 10 rfl) (am_lD am_lk10 11 rfl) (am_lD am_lk10 12 rfl) ?_
  refine am_lcall C 132 17 [(xs (nI (i + 1)).toNatClampNeg)] [.int x] hp (by decide) rfl rfl rfl (by decide) (q := 821) (by decide +kernel) (am_lD am_lk10 13 rfl) hl.1 (Nat.le_of_ble_eq_true rfl) hP hS (fun y M3 H2 locs2 hp2 hP hS => ?_)
  exact lv_icmp_eq (tgt := 864) hx hb (am_lD am_lk10 14 rfl) (by decide) (fun c9 => kk M3 H2 locs2 hp2.2 hP hS) (fun c9 => absurd hp2.1 c9)
set_option maxHeartbeats 4000000 in
theorem am_case11 (C : am_LX p s m args c D cA ad A b L xs) (hl : lv_has ls 4 (am_LL b i ad)) (hi : i + 4 ≤ L) {M : am_Mem} (hI : sp_Inv M) (hP : va_P D vwCl (am_w ad cA M) H) (hS : va_S A s.heap H locs) (kk : ∀ (M2 : am_Mem) (H1 : Heap) (locs1 : List Loc), sp_Inv M2 → va_P D vwCl (am_w ad cA M2) H1 → va_S A s.heap H1 locs1 → W p l e room_1 s m args below meth c H1 locs1 30 1074 Q (F0 m 864 ls [])) : W p l e room_1 s m args below meth c H locs 30 1074 Q (F0 m 453 ls []) := by
  obtain ⟨hx, hb, hml, hown, hts, hDD, hK, hN, hT, hX, hbl, hbA, hL⟩ := id C
  refine lv_aload_n hx hb (am_lD am_lk11 0 rfl) rfl (lv_at hl 2 rfl) ?_
  refine am_larg C hl hS 1 (by decide) (by omega) (am_lD am_lk11 1 rfl) (am_lD am_lk11 2 rfl) (am_lD am_lk11 3 rfl) (am_lD am_lk11 4 rfl) (am_lD am_lk11 5 rfl) ?_
  refine am_lcall C 66 0 [(xs (nI (i + 1)).toNatClampNeg)] [] (pp_closedIn hI (xs (nI (i + 1)).toNatClampNeg)) (by decide) rfl rfl rfl (by decide) (q := 416) (by decide +kernel) (am_lD am_lk11 6 rfl) hl.1 (Nat.le_of_ble_eq_true rfl) hP hS (fun x M2 H1 locs1 hp hP hS => ?_)
  refine lv_aload_n hx hb (am_lD am_lk11 7 rfl) rfl (lv_at hl 1 rfl) ?_
  refine am_larg C hl hS 1 (by decide) (by omega) (am_lD am_lk11 8 rfl) (am_lD am_lk11 9 rfl) (am_lD am_lk11 10 rfl) (am_lD am_lk11 11 rfl) (am_lD am_lk11 12 rfl) ?_
  refine am_lcall C 133 17 [(xs (nI (i + 1)).toNatClampNeg)] [.int x] hp (by decide) rfl rfl rfl (by decide) (q := 829) (by decide +kernel) (am_lD am_lk11 13 rfl) hl.1 (Nat.le_of_ble_eq_true rfl) hP hS (fun y M3 H2 locs2 hp2 hP hS => ?_)
  exact lv_icmp_eq (tgt := 864) hx hb (am_lD am_lk11 14 rfl) (by decide) (fun c9 => kk M3 H2 locs2 hp2.2 hP hS) (fun c9 => absurd hp2.1 c9)
set_option maxHeartbeats 4000000 in
theorem am_case12 (C : am_LX p s m args c D cA ad A b L xs) (hl : lv_has ls 4 (am_LL b i ad)) (hi : i + 4 ≤ L) {M : am_Mem} (hI : sp_Inv M) (hP : va_P D vwCl (am_w ad cA M) H) (hS : va_S A s.heap H locs) (kk : ∀ (M2 : am_Mem) (H1 : Heap) (locs1 : List Loc), sp_Inv M2 → va_P D vwCl (am_w ad cA M2) H1 → va_S A s.heap H1 locs1 → W p l e room_1 s m args below meth c H1 locs1 30 1074 Q (F0 m 864 ls [])) : W p l e room_1 s m args below meth c H locs 30 1074 Q (F0 m 476 ls []) := by
  obtain ⟨hx, hb, hml, hown, hts, hDD, hK, hN, hT, hX, hbl, hbA, hL⟩ := id C
  refine lv_aload_n hx hb (am_lD am_lk12 0 rfl) rfl (lv_at hl 2 rfl) ?_
  refine am_larg C hl hS 1 (by decide) (by omega) (am_lD am_lk12 1 rfl) (am_lD am_lk12 2 rfl) (am_lD am_lk12 3 rfl) (am_lD am_lk12 4 rfl) (am_lD am_lk12 5 rfl) ?_
  refine am_larg C hl hS 2 (by decide) (by omega) (am_lD am_lk12 6 rfl) (am_lD am_lk12 7 rfl) (am_lD am_lk12 8 rfl) (am_lD am_lk12 9 rfl) (am_lD am_lk12 10 rfl) ?_
  refine am_lcall C 67 0 [(xs (nI (i + 1)).toNatClampNeg), (xs (nI (i + 2)).toNatClampNeg)] [] (pp_way hI (xs (nI (i + 1)).toNatClampNeg) (xs (nI (i + 2)).toNatClampNeg)) (by decide) rfl rfl rfl (by decide) (q := 425) (by decide +kernel) (am_lD am_lk12 11 rfl) hl.1 (Nat.le_of_ble_eq_true rfl) hP hS (fun x M2 H1 locs1 hp hP hS => ?_)
  refine lv_aload_n hx hb (am_lD am_lk12 12 rfl) rfl (lv_at hl 1 rfl) ?_
  refine am_larg C hl hS 1 (by decide) (by omega) (am_lD am_lk12 13 rfl) (am_lD am_lk12 14 rfl) (am_lD am_lk12 15 rfl) (am_lD am_lk12 16 rfl) (am_lD am_lk12 17 rfl) ?_
  refine am_larg C hl hS 2 (by decide) (by omega) (am_lD am_lk12 18 rfl) (am_lD am_lk12 19 rfl) (am_lD am_lk12 20 rfl) (am_lD am_lk12 21 rfl) (am_lD am_lk12 22 rfl) ?_
  refine am_lcall C 137 17 [(xs (nI (i + 1)).toNatClampNeg), (xs (nI (i + 2)).toNatClampNeg)] [.int x] hp (by decide) rfl rfl rfl (by decide) (q := 833) (by decide +kernel) (am_lD am_lk12 23 rfl) hl.1 (Nat.le_of_ble_eq_true rfl) hP hS (fun y M3 H2 locs2 hp2 hP hS => ?_)
  exact lv_icmp_eq (tgt := 864) hx hb (am_lD am_lk12 24 rfl) (by decide) (fun c9 => kk M3 H2 locs2 hp2.2 hP hS) (fun c9 => absurd hp2.1 c9)
set_option maxHeartbeats 4000000 in
theorem am_case13 (C : am_LX p s m args c D cA ad A b L xs) (hl : lv_has ls 4 (am_LL b i ad)) (hi : i + 4 ≤ L) {M : am_Mem} (hI : sp_Inv M) (hP : va_P D vwCl (am_w ad cA M) H) (hS : va_S A s.heap H locs) (kk : ∀ (M2 : am_Mem) (H1 : Heap) (locs1 : List Loc), sp_Inv M2 → va_P D vwCl (am_w ad cA M2) H1 → va_S A s.heap H1 locs1 → W p l e room_1 s m args below meth c H1 locs1 30 1074 Q (F0 m 864 ls [])) : W p l e room_1 s m args below meth c H locs 30 1074 Q (F0 m 509 ls []) := by
  obtain ⟨hx, hb, hml, hown, hts, hDD, hK, hN, hT, hX, hbl, hbA, hL⟩ := id C
  refine lv_aload_n hx hb (am_lD am_lk13 0 rfl) rfl (lv_at hl 2 rfl) ?_
  refine am_larg C hl hS 1 (by decide) (by omega) (am_lD am_lk13 1 rfl) (am_lD am_lk13 2 rfl) (am_lD am_lk13 3 rfl) (am_lD am_lk13 4 rfl) (am_lD am_lk13 5 rfl) ?_
  refine am_lcall C 68 0 [(xs (nI (i + 1)).toNatClampNeg)] [] (pp_come hI (xs (nI (i + 1)).toNatClampNeg)) (by decide) rfl rfl rfl (by decide) (q := 461) (by decide +kernel) (am_lD am_lk13 6 rfl) hl.1 (Nat.le_of_ble_eq_true rfl) hP hS (fun x M2 H1 locs1 hp hP hS => ?_)
  refine lv_aload_n hx hb (am_lD am_lk13 7 rfl) rfl (lv_at hl 1 rfl) ?_
  refine am_larg C hl hS 1 (by decide) (by omega) (am_lD am_lk13 8 rfl) (am_lD am_lk13 9 rfl) (am_lD am_lk13 10 rfl) (am_lD am_lk13 11 rfl) (am_lD am_lk13 12 rfl) ?_
  refine am_lcall C 138 17 [(xs (nI (i + 1)).toNatClampNeg)] [.int x] hp (by decide) rfl rfl rfl (by decide) (q := 849) (by decide +kernel) (am_lD am_lk13 13 rfl) hl.1 (Nat.le_of_ble_eq_true rfl) hP hS (fun y M3 H2 locs2 hp2 hP hS => ?_)
  exact lv_icmp_eq (tgt := 864) hx hb (am_lD am_lk13 14 rfl) (by decide) (fun c9 => kk M3 H2 locs2 hp2.2 hP hS) (fun c9 => absurd hp2.1 c9)
set_option maxHeartbeats 4000000 in
theorem am_case14 (C : am_LX p s m args c D cA ad A b L xs) (hl : lv_has ls 4 (am_LL b i ad)) (hi : i + 4 ≤ L) {M : am_Mem} (hI : sp_Inv M) (hP : va_P D vwCl (am_w ad cA M) H) (hS : va_S A s.heap H locs) (kk : ∀ (M2 : am_Mem) (H1 : Heap) (locs1 : List Loc), sp_Inv M2 → va_P D vwCl (am_w ad cA M2) H1 → va_S A s.heap H1 locs1 → W p l e room_1 s m args below meth c H1 locs1 30 1074 Q (F0 m 864 ls [])) : W p l e room_1 s m args below meth c H locs 30 1074 Q (F0 m 532 ls []) := by
  obtain ⟨hx, hb, hml, hown, hts, hDD, hK, hN, hT, hX, hbl, hbA, hL⟩ := id C
  refine lv_aload_n hx hb (am_lD am_lk14 0 rfl) rfl (lv_at hl 2 rfl) ?_
  refine am_larg C hl hS 1 (by decide) (by omega) (am_lD am_lk14 1 rfl) (am_lD am_lk14 2 rfl) (am_lD am_lk14 3 rfl) (am_lD am_lk14 4 rfl) (am_lD am_lk14 5 rfl) ?_
  refine am_larg C hl hS 2 (by decide) (by omega) (am_lD am_lk14 6 rfl) (am_lD am_lk14 7 rfl) (am_lD am_lk14 8 rfl) (am_lD am_lk14 9 rfl) (am_lD am_lk14 10 rfl) ?_
  refine am_larg C hl hS 3 (by decide) (by omega) (am_lD am_lk14 11 rfl) (am_lD am_lk14 12 rfl) (am_lD am_lk14 13 rfl) (am_lD am_lk14 14 rfl) (am_lD am_lk14 15 rfl) ?_
  refine am_lcall C 69 0 [(xs (nI (i + 1)).toNatClampNeg), (xs (nI (i + 2)).toNatClampNeg), (xs (nI (i + 3)).toNatClampNeg)] [] (pp_last hI (xs (nI (i + 1)).toNatClampNeg) (xs (nI (i + 2)).toNatClampNeg) (xs (nI (i + 3)).toNatClampNeg)) (by decide) rfl rfl rfl (by decide) (q := 465) (by decide +kernel) (am_lD am_lk14 16 rfl) hl.1 (Nat.le_of_ble_eq_true rfl) hP hS (fun x M2 H1 locs1 hp hP hS => ?_)
  refine lv_aload_n hx hb (am_lD am_lk14 17 rfl) rfl (lv_at hl 1 rfl) ?_
  refine am_larg C hl hS 1 (by decide) (by omega) (am_lD am_lk14 18 rfl) (am_lD am_lk14 19 rfl) (am_lD am_lk14 20 rfl) (am_lD am_lk14 21 rfl) (am_lD am_lk14 22 rfl) ?_
  refine am_larg C hl hS 2 (by decide) (by omega) (am_lD am_lk14 23 rfl) (am_lD am_lk14 24 rfl) (am_lD am_lk14 25 rfl) (am_lD am_lk14 26 rfl) (am_lD am_lk14 27 rfl) ?_
  refine am_larg C hl hS 3 (by decide) (by omega) (am_lD am_lk14 28 rfl) (am_lD am_lk14 29 rfl) (am_lD am_lk14 30 rfl) (am_lD am_lk14 31 rfl) (am_lD am_lk14 32 rfl) ?_
  refine am_lcall C 139 17 [(xs (nI (i + 1)).toNatClampNeg), (xs (nI (i + 2)).toNatClampNeg), (xs (nI (i + 3)).toNatClampNeg)] [.int x] hp (by decide) rfl rfl rfl (by decide) (q := 853) (by decide +kernel) (am_lD am_lk14 33 rfl) hl.1 (Nat.le_of_ble_eq_true rfl) hP hS (fun y M3 H2 locs2 hp2 hP hS => ?_)
  exact lv_icmp_eq (tgt := 864) hx hb (am_lD am_lk14 34 rfl) (by decide) (fun c9 => kk M3 H2 locs2 hp2.2 hP hS) (fun c9 => absurd hp2.1 c9)
set_option maxHeartbeats 4000000 in
theorem am_case15 (C : am_LX p s m args c D cA ad A b L xs) (hl : lv_has ls 4 (am_LL b i ad)) (hi : i + 4 ≤ L) {M : am_Mem} (hI : sp_Inv M) (hP : va_P D vwCl (am_w ad cA M) H) (hS : va_S A s.heap H locs) (kk : ∀ (M2 : am_Mem) (H1 : Heap) (locs1 : List Loc), sp_Inv M2 → va_P D vwCl (am_w ad cA M2) H1 → va_S A s.heap H1 locs1 → W p l e room_1 s m args below meth c H1 locs1 30 1074 Q (F0 m 864 ls [])) : W p l e room_1 s m args below meth c H locs 30 1074 Q (F0 m 575 ls []) := by
  obtain ⟨hx, hb, hml, hown, hts, hDD, hK, hN, hT, hX, hbl, hbA, hL⟩ := id C
  refine lv_aload_n hx hb (am_lD am_lk15 0 rfl) rfl (lv_at hl 2 rfl) ?_
  refine am_larg C hl hS 1 (by decide) (by omega) (am_lD am_lk15 1 rfl) (am_lD am_lk15 2 rfl) (am_lD am_lk15 3 rfl) (am_lD am_lk15 4 rfl) (am_lD am_lk15 5 rfl) ?_
  refine am_larg C hl hS 2 (by decide) (by omega) (am_lD am_lk15 6 rfl) (am_lD am_lk15 7 rfl) (am_lD am_lk15 8 rfl) (am_lD am_lk15 9 rfl) (am_lD am_lk15 10 rfl) ?_
  refine am_lcall C 70 0 [(xs (nI (i + 1)).toNatClampNeg), (xs (nI (i + 2)).toNatClampNeg)] [] (pp_handing hI (xs (nI (i + 1)).toNatClampNeg) (xs (nI (i + 2)).toNatClampNeg)) (by decide) rfl rfl rfl (by decide) (q := 470) (by decide +kernel) (am_lD am_lk15 11 rfl) hl.1 (Nat.le_of_ble_eq_true rfl) hP hS (fun x M2 H1 locs1 hp hP hS => ?_)
  refine lv_aload_n hx hb (am_lD am_lk15 12 rfl) rfl (lv_at hl 1 rfl) ?_
  refine am_larg C hl hS 1 (by decide) (by omega) (am_lD am_lk15 13 rfl) (am_lD am_lk15 14 rfl) (am_lD am_lk15 15 rfl) (am_lD am_lk15 16 rfl) (am_lD am_lk15 17 rfl) ?_
  refine am_larg C hl hS 2 (by decide) (by omega) (am_lD am_lk15 18 rfl) (am_lD am_lk15 19 rfl) (am_lD am_lk15 20 rfl) (am_lD am_lk15 21 rfl) (am_lD am_lk15 22 rfl) ?_
  refine am_lcall C 143 17 [(xs (nI (i + 1)).toNatClampNeg), (xs (nI (i + 2)).toNatClampNeg)] [.int x] hp (by decide) rfl rfl rfl (by decide) (q := 857) (by decide +kernel) (am_lD am_lk15 23 rfl) hl.1 (Nat.le_of_ble_eq_true rfl) hP hS (fun y M3 H2 locs2 hp2 hP hS => ?_)
  exact lv_icmp_eq (tgt := 864) hx hb (am_lD am_lk15 24 rfl) (by decide) (fun c9 => kk M3 H2 locs2 hp2.2 hP hS) (fun c9 => absurd hp2.1 c9)
set_option maxHeartbeats 4000000 in
theorem am_case16 (C : am_LX p s m args c D cA ad A b L xs) (hl : lv_has ls 4 (am_LL b i ad)) (hi : i + 4 ≤ L) {M : am_Mem} (hI : sp_Inv M) (hP : va_P D vwCl (am_w ad cA M) H) (hS : va_S A s.heap H locs) (kk : ∀ (M2 : am_Mem) (H1 : Heap) (locs1 : List Loc), sp_Inv M2 → va_P D vwCl (am_w ad cA M2) H1 → va_S A s.heap H1 locs1 → W p l e room_1 s m args below meth c H1 locs1 30 1074 Q (F0 m 864 ls [])) : W p l e room_1 s m args below meth c H locs 30 1074 Q (F0 m 608 ls []) := by
  obtain ⟨hx, hb, hml, hown, hts, hDD, hK, hN, hT, hX, hbl, hbA, hL⟩ := id C
  refine lv_aload_n hx hb (am_lD am_lk16 0 rfl) rfl (lv_at hl 2 rfl) ?_
  refine am_larg C hl hS 1 (by decide) (by omega) (am_lD am_lk16 1 rfl) (am_lD am_lk16 2 rfl) (am_lD am_lk16 3 rfl) (am_lD am_lk16 4 rfl) (am_lD am_lk16 5 rfl) ?_
  refine am_larg C hl hS 2 (by decide) (by omega) (am_lD am_lk16 6 rfl) (am_lD am_lk16 7 rfl) (am_lD am_lk16 8 rfl) (am_lD am_lk16 9 rfl) (am_lD am_lk16 10 rfl) ?_
  refine am_larg C hl hS 3 (by decide) (by omega) (am_lD am_lk16 11 rfl) (am_lD am_lk16 12 rfl) (am_lD am_lk16 13 rfl) (am_lD am_lk16 14 rfl) (am_lD am_lk16 15 rfl) ?_
  refine am_lcall C 71 0 [(xs (nI (i + 1)).toNatClampNeg), (xs (nI (i + 2)).toNatClampNeg), (xs (nI (i + 3)).toNatClampNeg)] [] (pp_without hI (xs (nI (i + 1)).toNatClampNeg) (xs (nI (i + 2)).toNatClampNeg) (xs (nI (i + 3)).toNatClampNeg)) (by decide) rfl rfl rfl (by decide) (q := 494) (by decide +kernel) (am_lD am_lk16 16 rfl) hl.1 (Nat.le_of_ble_eq_true rfl) hP hS (fun x M2 H1 locs1 hp hP hS => ?_)
  refine lv_aload_n hx hb (am_lD am_lk16 17 rfl) rfl (lv_at hl 1 rfl) ?_
  refine am_larg C hl hS 1 (by decide) (by omega) (am_lD am_lk16 18 rfl) (am_lD am_lk16 19 rfl) (am_lD am_lk16 20 rfl) (am_lD am_lk16 21 rfl) (am_lD am_lk16 22 rfl) ?_
  refine am_larg C hl hS 2 (by decide) (by omega) (am_lD am_lk16 23 rfl) (am_lD am_lk16 24 rfl) (am_lD am_lk16 25 rfl) (am_lD am_lk16 26 rfl) (am_lD am_lk16 27 rfl) ?_
  refine am_larg C hl hS 3 (by decide) (by omega) (am_lD am_lk16 28 rfl) (am_lD am_lk16 29 rfl) (am_lD am_lk16 30 rfl) (am_lD am_lk16 31 rfl) (am_lD am_lk16 32 rfl) ?_
  refine am_lcall C 144 17 [(xs (nI (i + 1)).toNatClampNeg), (xs (nI (i + 2)).toNatClampNeg), (xs (nI (i + 3)).toNatClampNeg)] [.int x] hp (by decide) rfl rfl rfl (by decide) (q := 873) (by decide +kernel) (am_lD am_lk16 33 rfl) hl.1 (Nat.le_of_ble_eq_true rfl) hP hS (fun y M3 H2 locs2 hp2 hP hS => ?_)
  exact lv_icmp_eq (tgt := 864) hx hb (am_lD am_lk16 34 rfl) (by decide) (fun c9 => kk M3 H2 locs2 hp2.2 hP hS) (fun c9 => absurd hp2.1 c9)
set_option maxHeartbeats 4000000 in
theorem am_case17 (C : am_LX p s m args c D cA ad A b L xs) (hl : lv_has ls 4 (am_LL b i ad)) (hi : i + 4 ≤ L) {M : am_Mem} (hI : sp_Inv M) (hP : va_P D vwCl (am_w ad cA M) H) (hS : va_S A s.heap H locs) (kk : ∀ (M2 : am_Mem) (H1 : Heap) (locs1 : List Loc), sp_Inv M2 → va_P D vwCl (am_w ad cA M2) H1 → va_S A s.heap H1 locs1 → W p l e room_1 s m args below meth c H1 locs1 30 1074 Q (F0 m 864 ls [])) : W p l e room_1 s m args below meth c H locs 30 1074 Q (F0 m 651 ls []) := by
  obtain ⟨hx, hb, hml, hown, hts, hDD, hK, hN, hT, hX, hbl, hbA, hL⟩ := id C
  refine lv_aload_n hx hb (am_lD am_lk17 0 rfl) rfl (lv_at hl 2 rfl) ?_
  refine am_larg C hl hS 1 (by decide) (by omega) (am_lD am_lk17 1 rfl) (am_lD am_lk17 2 rfl) (am_lD am_lk17 3 rfl) (am_lD am_lk17 4 rfl) (am_lD am_lk17 5 rfl) ?_
  refine am_lcall C 72 0 [(xs (nI (i + 1)).toNatClampNeg)] [] (pp_falls hI (xs (nI (i + 1)).toNatClampNeg)) (by decide) rfl rfl rfl (by decide) (q := 498) (by decide +kernel) (am_lD am_lk17 6 rfl) hl.1 (Nat.le_of_ble_eq_true rfl) hP hS (fun x M2 H1 locs1 hp hP hS => ?_)
  refine lv_aload_n hx hb (am_lD am_lk17 7 rfl) rfl (lv_at hl 1 rfl) ?_
  refine am_larg C hl hS 1 (by decide) (by omega) (am_lD am_lk17 8 rfl) (am_lD am_lk17 9 rfl) (am_lD am_lk17 10 rfl) (am_lD am_lk17 11 rfl) (am_lD am_lk17 12 rfl) ?_
  refine am_lcall C 145 17 [(xs (nI (i + 1)).toNatClampNeg)] [.int x] hp (by decide) rfl rfl rfl (by decide) (q := 877) (by decide +kernel) (am_lD am_lk17 13 rfl) hl.1 (Nat.le_of_ble_eq_true rfl) hP hS (fun y M3 H2 locs2 hp2 hP hS => ?_)
  exact lv_icmp_eq (tgt := 864) hx hb (am_lD am_lk17 14 rfl) (by decide) (fun c9 => kk M3 H2 locs2 hp2.2 hP hS) (fun c9 => absurd hp2.1 c9)
set_option maxHeartbeats 4000000 in
theorem am_case18 (C : am_LX p s m args c D cA ad A b L xs) (hl : lv_has ls 4 (am_LL b i ad)) (hi : i + 4 ≤ L) {M : am_Mem} (hI : sp_Inv M) (hP : va_P D vwCl (am_w ad cA M) H) (hS : va_S A s.heap H locs) (kk : ∀ (M2 : am_Mem) (H1 : Heap) (locs1 : List Loc), sp_Inv M2 → va_P D vwCl (am_w ad cA M2) H1 → va_S A s.heap H1 locs1 → W p l e room_1 s m args below meth c H1 locs1 30 1074 Q (F0 m 864 ls [])) : W p l e room_1 s m args below meth c H locs 30 1074 Q (F0 m 674 ls []) := by
  obtain ⟨hx, hb, hml, hown, hts, hDD, hK, hN, hT, hX, hbl, hbA, hL⟩ := id C
  refine lv_aload_n hx hb (am_lD am_lk18 0 rfl) rfl (lv_at hl 2 rfl) ?_
  refine am_larg C hl hS 1 (by decide) (by omega) (am_lD am_lk18 1 rfl) (am_lD am_lk18 2 rfl) (am_lD am_lk18 3 rfl) (am_lD am_lk18 4 rfl) (am_lD am_lk18 5 rfl) ?_
  refine am_lcall C 73 0 [(xs (nI (i + 1)).toNatClampNeg)] [] (pp_row hI (xs (nI (i + 1)).toNatClampNeg)) (by decide) rfl rfl rfl (by decide) (q := 503) (by decide +kernel) (am_lD am_lk18 6 rfl) hl.1 (Nat.le_of_ble_eq_true rfl) hP hS (fun x M2 H1 locs1 hp hP hS => ?_)
  refine lv_aload_n hx hb (am_lD am_lk18 7 rfl) rfl (lv_at hl 1 rfl) ?_
  refine am_larg C hl hS 1 (by decide) (by omega) (am_lD am_lk18 8 rfl) (am_lD am_lk18 9 rfl) (am_lD am_lk18 10 rfl) (am_lD am_lk18 11 rfl) (am_lD am_lk18 12 rfl) ?_
  refine am_lcall C 146 17 [(xs (nI (i + 1)).toNatClampNeg)] [.int x] hp (by decide) rfl rfl rfl (by decide) (q := 881) (by decide +kernel) (am_lD am_lk18 13 rfl) hl.1 (Nat.le_of_ble_eq_true rfl) hP hS (fun y M3 H2 locs2 hp2 hP hS => ?_)
  exact lv_icmp_eq (tgt := 864) hx hb (am_lD am_lk18 14 rfl) (by decide) (fun c9 => kk M3 H2 locs2 hp2.2 hP hS) (fun c9 => absurd hp2.1 c9)
set_option maxHeartbeats 4000000 in
theorem am_case19 (C : am_LX p s m args c D cA ad A b L xs) (hl : lv_has ls 4 (am_LL b i ad)) (hi : i + 4 ≤ L) {M : am_Mem} (hI : sp_Inv M) (hP : va_P D vwCl (am_w ad cA M) H) (hS : va_S A s.heap H locs) (kk : ∀ (M2 : am_Mem) (H1 : Heap) (locs1 : List Loc), sp_Inv M2 → va_P D vwCl (am_w ad cA M2) H1 → va_S A s.heap H1 locs1 → W p l e room_1 s m args below meth c H1 locs1 30 1074 Q (F0 m 864 ls [])) : W p l e room_1 s m args below meth c H locs 30 1074 Q (F0 m 697 ls []) := by
  obtain ⟨hx, hb, hml, hown, hts, hDD, hK, hN, hT, hX, hbl, hbA, hL⟩ := id C
  refine lv_aload_n hx hb (am_lD am_lk19 0 rfl) rfl (lv_at hl 2 rfl) ?_
  refine am_larg C hl hS 1 (by decide) (by omega) (am_lD am_lk19 1 rfl) (am_lD am_lk19 2 rfl) (am_lD am_lk19 3 rfl) (am_lD am_lk19 4 rfl) (am_lD am_lk19 5 rfl) ?_
  refine am_lcall C 74 0 [(xs (nI (i + 1)).toNatClampNeg)] [] (pp_stood hI (xs (nI (i + 1)).toNatClampNeg)) (by decide) rfl rfl rfl (by decide) (q := 507) (by decide +kernel) (am_lD am_lk19 6 rfl) hl.1 (Nat.le_of_ble_eq_true rfl) hP hS (fun x M2 H1 locs1 hp hP hS => ?_)
  refine lv_aload_n hx hb (am_lD am_lk19 7 rfl) rfl (lv_at hl 1 rfl) ?_
  refine am_larg C hl hS 1 (by decide) (by omega) (am_lD am_lk19 8 rfl) (am_lD am_lk19 9 rfl) (am_lD am_lk19 10 rfl) (am_lD am_lk19 11 rfl) (am_lD am_lk19 12 rfl) ?_
  refine am_lcall C 149 17 [(xs (nI (i + 1)).toNatClampNeg)] [.int x] hp (by decide) rfl rfl rfl (by decide) (q := 889) (by decide +kernel) (am_lD am_lk19 13 rfl) hl.1 (Nat.le_of_ble_eq_true rfl) hP hS (fun y M3 H2 locs2 hp2 hP hS => ?_)
  exact lv_icmp_eq (tgt := 864) hx hb (am_lD am_lk19 14 rfl) (by decide) (fun c9 => kk M3 H2 locs2 hp2.2 hP hS) (fun c9 => absurd hp2.1 c9)
set_option maxHeartbeats 4000000 in
theorem am_case20 (C : am_LX p s m args c D cA ad A b L xs) (hl : lv_has ls 4 (am_LL b i ad)) (hi : i + 4 ≤ L) {M : am_Mem} (hI : sp_Inv M) (hP : va_P D vwCl (am_w ad cA M) H) (hS : va_S A s.heap H locs) (kk : ∀ (M2 : am_Mem) (H1 : Heap) (locs1 : List Loc), sp_Inv M2 → va_P D vwCl (am_w ad cA M2) H1 → va_S A s.heap H1 locs1 → W p l e room_1 s m args below meth c H1 locs1 30 1074 Q (F0 m 864 ls [])) : W p l e room_1 s m args below meth c H locs 30 1074 Q (F0 m 720 ls []) := by
  obtain ⟨hx, hb, hml, hown, hts, hDD, hK, hN, hT, hX, hbl, hbA, hL⟩ := id C
  refine lv_aload_n hx hb (am_lD am_lk20 0 rfl) rfl (lv_at hl 2 rfl) ?_
  refine am_lcall C 75 0 [] [] (pp_back hI) (by decide) rfl rfl rfl (by decide) (q := 515) (by decide +kernel) (am_lD am_lk20 1 rfl) hl.1 (Nat.le_of_ble_eq_true rfl) hP hS (fun x M2 H1 locs1 hp hP hS => ?_)
  refine lv_aload_n hx hb (am_lD am_lk20 2 rfl) rfl (lv_at hl 1 rfl) ?_
  refine am_lcall C 151 17 [] [.int x] hp (by decide) rfl rfl rfl (by decide) (q := 897) (by decide +kernel) (am_lD am_lk20 3 rfl) hl.1 (Nat.le_of_ble_eq_true rfl) hP hS (fun y M3 H2 locs2 hp2 hP hS => ?_)
  exact lv_icmp_eq (tgt := 864) hx hb (am_lD am_lk20 4 rfl) (by decide) (fun c9 => kk M3 H2 locs2 hp2.2 hP hS) (fun c9 => absurd hp2.1 c9)
set_option maxHeartbeats 4000000 in
theorem am_case21 (C : am_LX p s m args c D cA ad A b L xs) (hl : lv_has ls 4 (am_LL b i ad)) (hi : i + 4 ≤ L) {M : am_Mem} (hI : sp_Inv M) (hP : va_P D vwCl (am_w ad cA M) H) (hS : va_S A s.heap H locs) (kk : ∀ (M2 : am_Mem) (H1 : Heap) (locs1 : List Loc), sp_Inv M2 → va_P D vwCl (am_w ad cA M2) H1 → va_S A s.heap H1 locs1 → W p l e room_1 s m args below meth c H1 locs1 30 1074 Q (F0 m 864 ls [])) : W p l e room_1 s m args below meth c H locs 30 1074 Q (F0 m 733 ls []) := by
  obtain ⟨hx, hb, hml, hown, hts, hDD, hK, hN, hT, hX, hbl, hbA, hL⟩ := id C
  refine lv_aload_n hx hb (am_lD am_lk21 0 rfl) rfl (lv_at hl 2 rfl) ?_
  refine am_lcall C 76 0 [] [] (pp_judge hI) (by decide) rfl rfl rfl (by decide) (q := 523) (by decide +kernel) (am_lD am_lk21 1 rfl) hl.1 (Nat.le_of_ble_eq_true rfl) hP hS (fun x M2 H1 locs1 hp hP hS => ?_)
  refine lv_aload_n hx hb (am_lD am_lk21 2 rfl) rfl (lv_at hl 1 rfl) ?_
  refine am_lcall C 153 17 [] [.int x] hp (by decide) rfl rfl rfl (by decide) (q := 905) (by decide +kernel) (am_lD am_lk21 3 rfl) hl.1 (Nat.le_of_ble_eq_true rfl) hP hS (fun y M3 H2 locs2 hp2 hP hS => ?_)
  exact lv_icmp_eq (tgt := 864) hx hb (am_lD am_lk21 4 rfl) (by decide) (fun c9 => kk M3 H2 locs2 hp2.2 hP hS) (fun c9 => absurd hp2.1 c9)
set_option maxHeartbeats 4000000 in
theorem am_case22 (C : am_LX p s m args c D cA ad A b L xs) (hl : lv_has ls 4 (am_LL b i ad)) (hi : i + 4 ≤ L) {M : am_Mem} (hI : sp_Inv M) (hP : va_P D vwCl (am_w ad cA M) H) (hS : va_S A s.heap H locs) (kk : ∀ (M2 : am_Mem) (H1 : Heap) (locs1 : List Loc), sp_Inv M2 → va_P D vwCl (am_w ad cA M2) H1 → va_S A s.heap H1 locs1 → W p l e room_1 s m args below meth c H1 locs1 30 1074 Q (F0 m 864 ls [])) : W p l e room_1 s m args below meth c H locs 30 1074 Q (F0 m 746 ls []) := by
  obtain ⟨hx, hb, hml, hown, hts, hDD, hK, hN, hT, hX, hbl, hbA, hL⟩ := id C
  refine lv_aload_n hx hb (am_lD am_lk22 0 rfl) rfl (lv_at hl 2 rfl) ?_
  refine am_lcall C 77 0 [] [] (pp_clear hI) (by decide) rfl rfl rfl (by decide) (q := 532) (by decide +kernel) (am_lD am_lk22 1 rfl) hl.1 (Nat.le_of_ble_eq_true rfl) hP hS (fun x M2 H1 locs1 hp hP hS => ?_)
  refine lv_aload_n hx hb (am_lD am_lk22 2 rfl) rfl (lv_at hl 1 rfl) ?_
  refine am_lcall C 147 17 [] [.int x] hp (by decide) rfl rfl rfl (by decide) (q := 885) (by decide +kernel) (am_lD am_lk22 3 rfl) hl.1 (Nat.le_of_ble_eq_true rfl) hP hS (fun y M3 H2 locs2 hp2 hP hS => ?_)
  exact lv_icmp_eq (tgt := 864) hx hb (am_lD am_lk22 4 rfl) (by decide) (fun c9 => kk M3 H2 locs2 hp2.2 hP hS) (fun c9 => absurd hp2.1 c9)
set_option maxHeartbeats 4000000 in
theorem am_case23 (C : am_LX p s m args c D cA ad A b L xs) (hl : lv_has ls 4 (am_LL b i ad)) (hi : i + 4 ≤ L) {M : am_Mem} (hI : sp_Inv M) (hP : va_P D vwCl (am_w ad cA M) H) (hS : va_S A s.heap H locs) (kk : ∀ (M2 : am_Mem) (H1 : Heap) (locs1 : List Loc), sp_Inv M2 → va_P D vwCl (am_w ad cA M2) H1 → va_S A s.heap H1 locs1 → W p l e room_1 s m args below meth c H1 locs1 30 1074 Q (F0 m 864 ls [])) : W p l e room_1 s m args below meth c H locs 30 1074 Q (F0 m 759 ls []) := by
  obtain ⟨hx, hb, hml, hown, hts, hDD, hK, hN, hT, hX, hbl, hbA, hL⟩ := id C
  refine lv_aload_n hx hb (am_lD am_lk23 0 rfl) rfl (lv_at hl 2 rfl) ?_
  refine am_larg C hl hS 1 (by decide) (by omega) (am_lD am_lk23 1 rfl) (am_lD am_lk23 2 rfl) (am_lD am_lk23 3 rfl) (am_lD am_lk23 4 rfl) (am_lD am_lk23 5 rfl) ?_
  refine am_lcall C 78 0 [(xs (nI (i + 1)).toNatClampNeg)] [] (pp_rest hI (xs (nI (i + 1)).toNatClampNeg)) (by decide) rfl rfl rfl (by decide) (q := 536) (by decide +kernel) (am_lD am_lk23 6 rfl) hl.1 (Nat.le_of_ble_eq_true rfl) hP hS (fun x M2 H1 locs1 hp hP hS => ?_)
  refine lv_aload_n hx hb (am_lD am_lk23 7 rfl) rfl (lv_at hl 1 rfl) ?_
  refine am_larg C hl hS 1 (by decide) (by omega) (am_lD am_lk23 8 rfl) (am_lD am_lk23 9 rfl) (am_lD am_lk23 10 rfl) (am_lD am_lk23 11 rfl) (am_lD am_lk23 12 rfl) ?_
  refine am_lcall C 154 17 [(xs (nI (i + 1)).toNatClampNeg)] [.int x] hp (by decide) rfl rfl rfl (by decide) (q := 913) (by decide +kernel) (am_lD am_lk23 13 rfl) hl.1 (Nat.le_of_ble_eq_true rfl) hP hS (fun y M3 H2 locs2 hp2 hP hS => ?_)
  exact lv_icmp_eq (tgt := 864) hx hb (am_lD am_lk23 14 rfl) (by decide) (fun c9 => kk M3 H2 locs2 hp2.2 hP hS) (fun c9 => absurd hp2.1 c9)
set_option maxHeartbeats 4000000 in
theorem am_case24 (C : am_LX p s m args c D cA ad A b L xs) (hl : lv_has ls 4 (am_LL b i ad)) (hi : i + 4 ≤ L) {M : am_Mem} (hI : sp_Inv M) (hP : va_P D vwCl (am_w ad cA M) H) (hS : va_S A s.heap H locs) (kk : ∀ (M2 : am_Mem) (H1 : Heap) (locs1 : List Loc), sp_Inv M2 → va_P D vwCl (am_w ad cA M2) H1 → va_S A s.heap H1 locs1 → W p l e room_1 s m args below meth c H1 locs1 30 1074 Q (F0 m 864 ls [])) : W p l e room_1 s m args below meth c H locs 30 1074 Q (F0 m 782 ls []) := by
  obtain ⟨hx, hb, hml, hown, hts, hDD, hK, hN, hT, hX, hbl, hbA, hL⟩ := id C
  refine lv_aload_n hx hb (am_lD am_lk24 0 rfl) rfl (lv_at hl 2 rfl) ?_
  refine am_larg C hl hS 1 (by decide) (by omega) (am_lD am_lk24 1 rfl) (am_lD am_lk24 2 rfl) (am_lD am_lk24 3 rfl) (am_lD am_lk24 4 rfl) (am_lD am_lk24 5 rfl) ?_
  refine am_larg C hl hS 2 (by decide) (by omega) (am_lD am_lk24 6 rfl) (am_lD am_lk24 7 rfl) (am_lD am_lk24 8 rfl) (am_lD am_lk24 9 rfl) (am_lD am_lk24 10 rfl) ?_
  refine am_lcall C 79 0 [(xs (nI (i + 1)).toNatClampNeg), (xs (nI (i + 2)).toNatClampNeg)] [] (pp_seeds hI (xs (nI (i + 1)).toNatClampNeg) (xs (nI (i + 2)).toNatClampNeg)) (by decide) rfl rfl rfl (by decide) (q := 541) (by decide +kernel) (am_lD am_lk24 11 rfl) hl.1 (Nat.le_of_ble_eq_true rfl) hP hS (fun x M2 H1 locs1 hp hP hS => ?_)
  refine lv_aload_n hx hb (am_lD am_lk24 12 rfl) rfl (lv_at hl 1 rfl) ?_
  refine am_larg C hl hS 1 (by decide) (by omega) (am_lD am_lk24 13 rfl) (am_lD am_lk24 14 rfl) (am_lD am_lk24 15 rfl) (am_lD am_lk24 16 rfl) (am_lD am_lk24 17 rfl) ?_
  refine am_larg C hl hS 2 (by decide) (by omega) (am_lD am_lk24 18 rfl) (am_lD am_lk24 19 rfl) (am_lD am_lk24 20 rfl) (am_lD am_lk24 21 rfl) (am_lD am_lk24 22 rfl) ?_
  refine am_lcall C 156 17 [(xs (nI (i + 1)).toNatClampNeg), (xs (nI (i + 2)).toNatClampNeg)] [.int x] hp (by decide) rfl rfl rfl (by decide) (q := 917) (by decide +kernel) (am_lD am_lk24 23 rfl) hl.1 (Nat.le_of_ble_eq_true rfl) hP hS (fun y M3 H2 locs2 hp2 hP hS => ?_)
  exact lv_icmp_eq (tgt := 864) hx hb (am_lD am_lk24 24 rfl) (by decide) (fun c9 => kk M3 H2 locs2 hp2.2 hP hS) (fun c9 => absurd hp2.1 c9)
set_option maxHeartbeats 4000000 in
theorem am_case25 (C : am_LX p s m args c D cA ad A b L xs) (hl : lv_has ls 4 (am_LL b i ad)) (hi : i + 4 ≤ L) {M : am_Mem} (hI : sp_Inv M) (hP : va_P D vwCl (am_w ad cA M) H) (hS : va_S A s.heap H locs) (kk : ∀ (M2 : am_Mem) (H1 : Heap) (locs1 : List Loc), sp_Inv M2 → va_P D vwCl (am_w ad cA M2) H1 → va_S A s.heap H1 locs1 → W p l e room_1 s m args below meth c H1 locs1 30 1074 Q (F0 m 864 ls [])) : W p l e room_1 s m args below meth c H locs 30 1074 Q (F0 m 815 ls []) := by
  obtain ⟨hx, hb, hml, hown, hts, hDD, hK, hN, hT, hX, hbl, hbA, hL⟩ := id C
  refine lv_aload_n hx hb (am_lD am_lk25 0 rfl) rfl (lv_at hl 2 rfl) ?_
  refine am_lcall C 81 0 [] [] (pp_image hI) (by decide) rfl rfl rfl (by decide) (q := 552) (by decide +kernel) (am_lD am_lk25 1 rfl) hl.1 (Nat.le_of_ble_eq_true rfl) hP hS (fun x M2 H1 locs1 hp hP hS => ?_)
  refine lv_aload_n hx hb (am_lD am_lk25 2 rfl) rfl (lv_at hl 1 rfl) ?_
  refine am_lcall C 114 17 [] [.int x] hp (by decide) rfl rfl rfl (by decide) (q := 741) (by decide +kernel) (am_lD am_lk25 3 rfl) hl.1 (Nat.le_of_ble_eq_true rfl) hP hS (fun y M3 H2 locs2 hp2 hP hS => ?_)
  exact lv_icmp_eq (tgt := 864) hx hb (am_lD am_lk25 4 rfl) (by decide) (fun c9 => kk M3 H2 locs2 hp2.2 hP hS) (fun c9 => absurd hp2.1 c9)
set_option maxHeartbeats 4000000 in
theorem am_case26 (C : am_LX p s m args c D cA ad A b L xs) (hl : lv_has ls 4 (am_LL b i ad)) (hi : i + 4 ≤ L) {M : am_Mem} (hI : sp_Inv M) (hP : va_P D vwCl (am_w ad cA M) H) (hS : va_S A s.heap H locs) (kk : ∀ (M2 : am_Mem) (H1 : Heap) (locs1 : List Loc), sp_Inv M2 → va_P D vwCl (am_w ad cA M2) H1 → va_S A s.heap H1 locs1 → W p l e room_1 s m args below meth c H1 locs1 30 1074 Q (F0 m 864 ls [])) : W p l e room_1 s m args below meth c H locs 30 1074 Q (F0 m 828 ls []) := by
  obtain ⟨hx, hb, hml, hown, hts, hDD, hK, hN, hT, hX, hbl, hbA, hL⟩ := id C
  refine lv_aload_n hx hb (am_lD am_lk26 0 rfl) rfl (lv_at hl 2 rfl) ?_
  refine am_lcall C 82 0 [] [] (pp_on hI) (by decide) rfl rfl rfl (by decide) (q := 556) (by decide +kernel) (am_lD am_lk26 1 rfl) hl.1 (Nat.le_of_ble_eq_true rfl) hP hS (fun x M2 H1 locs1 hp hP hS => ?_)
  refine lv_aload_n hx hb (am_lD am_lk26 2 rfl) rfl (lv_at hl 1 rfl) ?_
  refine am_lcall C 115 17 [] [.int x] hp (by decide) rfl rfl rfl (by decide) (q := 745) (by decide +kernel) (am_lD am_lk26 3 rfl) hl.1 (Nat.le_of_ble_eq_true rfl) hP hS (fun y M3 H2 locs2 hp2 hP hS => ?_)
  exact lv_icmp_eq (tgt := 864) hx hb (am_lD am_lk26 4 rfl) (by decide) (fun c9 => kk M3 H2 locs2 hp2.2 hP hS) (fun c9 => absurd hp2.1 c9)
set_option maxHeartbeats 4000000 in
theorem am_case27 (C : am_LX p s m args c D cA ad A b L xs) (hl : lv_has ls 4 (am_LL b i ad)) (hi : i + 4 ≤ L) {M : am_Mem} (hI : sp_Inv M) (hP : va_P D vwCl (am_w ad cA M) H) (hS : va_S A s.heap H locs) (kk : ∀ (M2 : am_Mem) (H1 : Heap) (locs1 : List Loc), sp_Inv M2 → va_P D vwCl (am_w ad cA M2) H1 → va_S A s.heap H1 locs1 → W p l e room_1 s m args below meth c H1 locs1 30 1074 Q (F0 m 864 ls [])) : W p l e room_1 s m args below meth c H locs 30 1074 Q (F0 m 841 ls []) := by
  obtain ⟨hx, hb, hml, hown, hts, hDD, hK, hN, hT, hX, hbl, hbA, hL⟩ := id C
  refine lv_aload_n hx hb (am_lD am_lk27 0 rfl) rfl (lv_at hl 2 rfl) ?_
  refine am_larg C hl hS 1 (by decide) (by omega) (am_lD am_lk27 1 rfl) (am_lD am_lk27 2 rfl) (am_lD am_lk27 3 rfl) (am_lD am_lk27 4 rfl) (am_lD am_lk27 5 rfl) ?_
  refine am_lcall C 83 0 [(xs (nI (i + 1)).toNatClampNeg)] [] (pp_count hI (xs (nI (i + 1)).toNatClampNeg)) (by decide) rfl rfl rfl (by decide) (q := 560) (by decide +kernel) (am_lD am_lk27 6 rfl) hl.1 (Nat.le_of_ble_eq_true rfl) hP hS (fun x M2 H1 locs1 hp hP hS => ?_)
  refine lv_aload_n hx hb (am_lD am_lk27 7 rfl) rfl (lv_at hl 1 rfl) ?_
  refine am_larg C hl hS 1 (by decide) (by omega) (am_lD am_lk27 8 rfl) (am_lD am_lk27 9 rfl) (am_lD am_lk27 10 rfl) (am_lD am_lk27 11 rfl) (am_lD am_lk27 12 rfl) ?_
  refine am_lcall C 158 17 [(xs (nI (i + 1)).toNatClampNeg)] [.int x] hp (by decide) rfl rfl rfl (by decide) (q := 928) (by decide +kernel) (am_lD am_lk27 13 rfl) hl.1 (Nat.le_of_ble_eq_true rfl) hP hS (fun y M3 H2 locs2 hp2 hP hS => ?_)
  exact lv_icmp_eq (tgt := 864) hx hb (am_lD am_lk27 14 rfl) (by decide) (fun c9 => kk M3 H2 locs2 hp2.2 hP hS) (fun c9 => absurd hp2.1 c9)
end AML
set_option maxHeartbeats 4000000 in
theorem am_lloop {p : Program} {l : Launch} {e : Env} {s : State} {m : MethodId} {below : List Frame} {meth : Method} {c : Code} {D : va_G} {cA : ClassId} {ad : Nat → Nat} {b L : Nat} {xs : Nat → Int32} (C : am_LX p s m #[Value.ref b] c D cA ad (fun q => s.heap.size ≤ q) b L xs) (hr : meth.sig.returnType = ret) (hlocks : meth.locks = false) : ∀ (n i : Nat) (M : am_Mem) (H : Heap) (locs : List Loc) (ls : Array Slot), L < i + n + 4 → i ≤ L → sp_Inv M → va_P D vwCl (am_w ad cA M) H → va_S (fun q => s.heap.size ≤ q) s.heap H locs → lv_has ls 4 (am_LL b i ad) → W p l e room_1 s m #[Value.ref b] below meth c H locs 30 1074 (lw_Z below #[Value.ref b] s) (F0 m 18 ls []) := by
  intro n
  induction n with
  | zero =>
    intro i M H locs ls hn hi hI hP hS hl
    obtain ⟨hx, hb, hml, hown, hts, hDD, hK, hN, hT, hX, hbl, hbA, hL⟩ := id C
    refine lv_iload_n hx hb (am_lD am_lkH 10 rfl) rfl (lv_at hl 0 rfl) ?_
    refine lv_aload_n hx hb (am_lD am_lkH 11 rfl) rfl (lv_at hl 3 rfl) ?_
    refine va_slen hx hb hX hbl hbA hS (am_lD am_lkH 12 rfl) ?_
    refine lv_iconst (v := nI 4) hx hb (am_lD am_lkH 13 rfl) (by decide) ?_
    refine lv_isub hx hb (am_lD am_lkH 14 rfl) ?_
    refine lv_icmp_gt (tgt := 870) hx hb (am_lD am_lkH 15 rfl) (by decide) (fun c9 => ?_) (fun c9 => ?_)
    · refine lv_iconst (v := 1) hx hb (am_lD am_lkH 24 rfl) (by decide) ?_
      exact va_forget (fun q hq => hS.2.2 q hq) (lw_ret hx hb hr hlocks (am_lD am_lkH 25 rfl))
    · have := am_lexit hL (by omega) c9
      omega
  | succ n ih =>
    intro i M H locs ls hn hi hI hP hS hl
    obtain ⟨hx, hb, hml, hown, hts, hDD, hK, hN, hT, hX, hbl, hbA, hL⟩ := id C
    refine lv_iload_n hx hb (am_lD am_lkH 10 rfl) rfl (lv_at hl 0 rfl) ?_
    refine lv_aload_n hx hb (am_lD am_lkH 11 rfl) rfl (lv_at hl 3 rfl) ?_
    refine va_slen hx hb hX hbl hbA hS (am_lD am_lkH 12 rfl) ?_
    refine lv_iconst (v := nI 4) hx hb (am_lD am_lkH 13 rfl) (by decide) ?_
    refine lv_isub hx hb (am_lD am_lkH 14 rfl) ?_
    refine lv_icmp_gt (tgt := 870) hx hb (am_lD am_lkH 15 rfl) (by decide) (fun c9 => ?_) (fun c9 => ?_)
    · refine lv_iconst (v := 1) hx hb (am_lD am_lkH 24 rfl) (by decide) ?_
      exact va_forget (fun q hq => hS.2.2 q hq) (lw_ret hx hb hr hlocks (am_lD am_lkH 25 rfl))
    · have hi4 := am_lexit hL (by omega) c9
      have kk9 : ∀ (M2 : am_Mem) (H1 : Heap) (locs1 : List Loc), sp_Inv M2 → va_P D vwCl (am_w ad cA M2) H1 → va_S (fun q => s.heap.size ≤ q) s.heap H1 locs1 → W p l e room_1 s m #[Value.ref b] below meth c H1 locs1 30 1074 (lw_Z below #[Value.ref b] s) (F0 m 864 ls []) := by
        intro M2 H1 locs1 hI2 hP2 hS2
        refine lv_iinc (v := nI (i + 4)) (lv' := am_LL b (i + 4) ad) hx hb (am_lD am_lkH 22 rfl) hl (k := 0) rfl (nI_add i 4) (by decide) rfl (fun ls hl => ?_)
        refine lv_goto (tgt := 18) hx hb (am_lD am_lkH 23 rfl) (by decide) ?_
        exact ih (i + 4) M2 H1 locs1 ls (by omega) hi4 hI2 hP2 hS2 hl
      refine lv_aload_n hx hb (am_lD am_lkH 16 rfl) rfl (lv_at hl 3 rfl) ?_
      refine lv_iload_n hx hb (am_lD am_lkH 17 rfl) rfl (lv_at hl 0 rfl) ?_
      refine va_sld hx hb hX hbl hbA hS (vp_in_nI (show i < L by omega) (by omega)) (am_lD am_lkH 18 rfl) ?_
      refine lv_bipush (v := 31) hx hb (am_lD am_lkH 19 rfl) (by decide) ?_
      refine lv_iand hx hb (am_lD am_lkH 20 rfl) ?_
      obtain ⟨k, hk, ek⟩ := am_low5 (xs (nI i).toNatClampNeg)
      rw [ek]
      match k, hk with
      | 0, hk => exact lv_tableIn (off := 128) (tgt := 160) C.1 C.2.1 (am_lD am_lkH 21 rfl) (by decide +kernel) (by decide +kernel) (by decide +kernel) (by decide) (am_case0 C hl hi4 hI hP hS kk9)
      | 1, hk => exact lv_tableIn (off := 151) (tgt := 183) C.1 C.2.1 (am_lD am_lkH 21 rfl) (by decide +kernel) (by decide +kernel) (by decide +kernel) (by decide) (am_case1 C hl hi4 hI hP hS kk9)
      | 2, hk => exact lv_tableIn (off := 164) (tgt := 196) C.1 C.2.1 (am_lD am_lkH 21 rfl) (by decide +kernel) (by decide +kernel) (by decide +kernel) (by decide) (am_case2 C hl hi4 hI hP hS kk9)
      | 3, hk => exact lv_tableIn (off := 197) (tgt := 229) C.1 C.2.1 (am_lD am_lkH 21 rfl) (by decide +kernel) (by decide +kernel) (by decide +kernel) (by decide) (am_case3 C hl hi4 hI hP hS kk9)
      | 4, hk => exact lv_tableIn (off := 220) (tgt := 252) C.1 C.2.1 (am_lD am_lkH 21 rfl) (by decide +kernel) (by decide +kernel) (by decide +kernel) (by decide) (am_case4 C hl hi4 hI hP hS kk9)
      | 5, hk => exact lv_tableIn (off := 263) (tgt := 295) C.1 C.2.1 (am_lD am_lkH 21 rfl) (by decide +kernel) (by decide +kernel) (by decide +kernel) (by decide) (am_case5 C hl hi4 hI hP hS kk9)
      | 6, hk => exact lv_tableIn (off := 296) (tgt := 328) C.1 C.2.1 (am_lD am_lkH 21 rfl) (by decide +kernel) (by decide +kernel) (by decide +kernel) (by decide) (am_case6 C hl hi4 hI hP hS kk9)
      | 7, hk => exact lv_tableIn (off := 329) (tgt := 361) C.1 C.2.1 (am_lD am_lkH 21 rfl) (by decide +kernel) (by decide +kernel) (by decide +kernel) (by decide) (am_case7 C hl hi4 hI hP hS kk9)
      | 8, hk => exact lv_tableIn (off := 352) (tgt := 384) C.1 C.2.1 (am_lD am_lkH 21 rfl) (by decide +kernel) (by decide +kernel) (by decide +kernel) (by decide) (am_case8 C hl hi4 hI hP hS kk9)
      | 9, hk => exact lv_tableIn (off := 385) (tgt := 417) C.1 C.2.1 (am_lD am_lkH 21 rfl) (by decide +kernel) (by decide +kernel) (by decide +kernel) (by decide) (am_case9 C hl hi4 hI hP hS kk9)
      | 10, hk => exact lv_tableIn (off := 398) (tgt := 430) C.1 C.2.1 (am_lD am_lkH 21 rfl) (by decide +kernel) (by decide +kernel) (by decide +kernel) (by decide) (am_case10 C hl hi4 hI hP hS kk9)
      | 11, hk => exact lv_tableIn (off := 421) (tgt := 453) C.1 C.2.1 (am_lD am_lkH 21 rfl) (by decide +kernel) (by decide +kernel) (by decide +kernel) (by decide) (am_case11 C hl hi4 hI hP hS kk9)
      | 12, hk => exact lv_tableIn (off := 444) (tgt := 476) C.1 C.2.1 (am_lD am_lkH 21 rfl) (by decide +kernel) (by decide +kernel) (by decide +kernel) (by decide) (am_case12 C hl hi4 hI hP hS kk9)
      | 13, hk => exact lv_tableIn (off := 477) (tgt := 509) C.1 C.2.1 (am_lD am_lkH 21 rfl) (by decide +kernel) (by decide +kernel) (by decide +kernel) (by decide) (am_case13 C hl hi4 hI hP hS kk9)
      | 14, hk => exact lv_tableIn (off := 500) (tgt := 532) C.1 C.2.1 (am_lD am_lkH 21 rfl) (by decide +kernel) (by decide +kernel) (by decide +kernel) (by decide) (am_case14 C hl hi4 hI hP hS kk9)
      | 15, hk => exact lv_tableIn (off := 543) (tgt := 575) C.1 C.2.1 (am_lD am_lkH 21 rfl) (by decide +kernel) (by decide +kernel) (by decide +kernel) (by decide) (am_case15 C hl hi4 hI hP hS kk9)
      | 16, hk => exact lv_tableIn (off := 576) (tgt := 608) C.1 C.2.1 (am_lD am_lkH 21 rfl) (by decide +kernel) (by decide +kernel) (by decide +kernel) (by decide) (am_case16 C hl hi4 hI hP hS kk9)
      | 17, hk => exact lv_tableIn (off := 619) (tgt := 651) C.1 C.2.1 (am_lD am_lkH 21 rfl) (by decide +kernel) (by decide +kernel) (by decide +kernel) (by decide) (am_case17 C hl hi4 hI hP hS kk9)
      | 18, hk => exact lv_tableIn (off := 642) (tgt := 674) C.1 C.2.1 (am_lD am_lkH 21 rfl) (by decide +kernel) (by decide +kernel) (by decide +kernel) (by decide) (am_case18 C hl hi4 hI hP hS kk9)
      | 19, hk => exact lv_tableIn (off := 665) (tgt := 697) C.1 C.2.1 (am_lD am_lkH 21 rfl) (by decide +kernel) (by decide +kernel) (by decide +kernel) (by decide) (am_case19 C hl hi4 hI hP hS kk9)
      | 20, hk => exact lv_tableIn (off := 688) (tgt := 720) C.1 C.2.1 (am_lD am_lkH 21 rfl) (by decide +kernel) (by decide +kernel) (by decide +kernel) (by decide) (am_case20 C hl hi4 hI hP hS kk9)
      | 21, hk => exact lv_tableIn (off := 701) (tgt := 733) C.1 C.2.1 (am_lD am_lkH 21 rfl) (by decide +kernel) (by decide +kernel) (by decide +kernel) (by decide) (am_case21 C hl hi4 hI hP hS kk9)
      | 22, hk => exact lv_tableIn (off := 714) (tgt := 746) C.1 C.2.1 (am_lD am_lkH 21 rfl) (by decide +kernel) (by decide +kernel) (by decide +kernel) (by decide) (am_case22 C hl hi4 hI hP hS kk9)
      | 23, hk => exact lv_tableIn (off := 727) (tgt := 759) C.1 C.2.1 (am_lD am_lkH 21 rfl) (by decide +kernel) (by decide +kernel) (by decide +kernel) (by decide) (am_case23 C hl hi4 hI hP hS kk9)
      | 24, hk => exact lv_tableIn (off := 750) (tgt := 782) C.1 C.2.1 (am_lD am_lkH 21 rfl) (by decide +kernel) (by decide +kernel) (by decide +kernel) (by decide) (am_case24 C hl hi4 hI hP hS kk9)
      | 25, hk => exact lv_tableIn (off := 783) (tgt := 815) C.1 C.2.1 (am_lD am_lkH 21 rfl) (by decide +kernel) (by decide +kernel) (by decide +kernel) (by decide) (am_case25 C hl hi4 hI hP hS kk9)
      | 26, hk => exact lv_tableIn (off := 796) (tgt := 828) C.1 C.2.1 (am_lD am_lkH 21 rfl) (by decide +kernel) (by decide +kernel) (by decide +kernel) (by decide) (am_case26 C hl hi4 hI hP hS kk9)
      | 27, hk => exact lv_tableIn (off := 809) (tgt := 841) C.1 C.2.1 (am_lD am_lkH 21 rfl) (by decide +kernel) (by decide +kernel) (by decide +kernel) (by decide) (am_case27 C hl hi4 hI hP hS kk9)
      | k9 + 28, hk => exact lv_tableOut (tgt := 864) hx hb (am_lD am_lkH 21 rfl) (Or.inr ((show ∀ z : Nat, z < 4 → (27 : Int) < (nI (z + 28)).toInt by decide +kernel) k9 (by omega))) (by decide) (kk9 M H locs hI hP hS)

