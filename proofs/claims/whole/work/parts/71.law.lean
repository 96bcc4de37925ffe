/-! 71: the law: names, links (the head is the skeleton of the kit, for pasting) -/
def R_law : String := "SisterCourtsLaw"
def lw_P (b : Addr) (xs : List Int32) (args : Array Value) (s : State) : Prop := args = #[.ref b] ∧ s.IntsAt b xs ∧ xs.length ≤ 3072 ∧ (Jvm.Cond.and given_1 narrow_1).before args s = true
/-- what a walk over the start with the record d0 says of its end, said of the start itself -/
theorem lw_closed {s t : State} {o : Outcome} {d0 : Drawn} {L : List Loc} {k n : Nat} (hd0 : s.drawn.sameBut d0 lw_cs) (hv : ∃ v, o = .returned v) (hW : (s.setDrawn d0).WarmedH t.vm) (hs : (s.setDrawn d0).sameButNew ({ t with vm := s.vm } : State) L k n) : State.butDraws s t lw_cs (fun t1 => Framed s o t1 L k n) := by
  have h2 : t.drawn = d0 := congrArg State.drawn hs.1
  refine ⟨⟨hv, hW, State.sameButNew.setDrawn hs s.drawn⟩, ?_, by decide⟩
  rw [h2]
  exact hd0
def lw_Q (_ : Array Value) (s : State) (o : Outcome) (t : State) : Prop := o = .returned (some (.int 1)) ∧ State.butDraws s t lw_cs (fun t1 => Framed s o t1 [] 601024 7293034)
def lw_Z (below : List Frame) (a : Array Value) (s : State) : State → Prop := fun t => ∃ o, t.status = .running ∧ Ended t below o ∧ lw_Q a s o t
/-- the law's own end, with 1 on the stack, nothing written that was there before, its room as the claim has it; d0: the record of draws at this point (at the entry s.drawn: begin with 'refine W.base ?_' and 'have hd0 := Drawn.sameBut.refl s.drawn lw_cs') -/
theorem lw_ret {p : Program} {l : Launch} {e : Env} {s : State} {m : MethodId} {below : List Frame} {meth : Method} {c : Code} {b : Nat} {d0 : Drawn} (hd0 : s.drawn.sameBut d0 lw_cs) (hx : p.tables.exec = Jvm.exec) (hb : c.code = code) (hr : meth.sig.returnType = ret) (hlocks : meth.locks = false) {pc : Nat} {H : Heap} {ls : Array Slot} (hdg : decode code pc = .ok (.ireturn, 1)) : W p l e room_1 (s.setDrawn d0) m #[Value.ref b] below meth c H [] 601024 7293034 (lw_Z below #[Value.ref b] s) (F0 m pc ls [.int 1]) := by
  intro T hT X
  obtain ⟨fs, hret, hrun, hended, hW, hframe⟩ := X.leave (v := some (.int 1)) (hlocks := hlocks) (fun h => by rw [hr] at h; cases h)
  have hmeth' : T.vm.method? m = some meth := X.method'
  refine ⟨T.setFrames fs, ?_, .returned (some (.int 1)), hrun, hended, rfl, lw_closed hd0 ⟨_, rfl⟩ hW hframe⟩
  jvm_step X.here [X.here.top, hx, hb, hdg, hmeth', hr, ret, narrow_b1]
  (try refine ⟨rfl, ?_⟩); (try refine ⟨rfl, ?_⟩)
  first | (intro acts; rw [hret _ acts rfl rfl rfl]) | rw [hret _ _ rfl rfl rfl]
  exact Steps.refl _
/-- what holds at the law's entry: the machine, the code, the tables' words (any of lw_tbl by 'hts w (by decide +kernel)'), the script of L ints xs at the cell b, what the Statement gives of the start (any of its parts by flat_of_before) -/
def lw_At (p : Program) (s : State) (m : MethodId) (meth : Method) (c : Code) (b L : Nat) (xs : Nat → Int32) : Prop :=
  p.tables.exec = Jvm.exec ∧ c.code = code ∧ meth.sig.returnType = ret ∧ c.maxLocals = 7 ∧ s.vm.findClass R_law = some m.cls ∧ (∀ w ∈ lw_tbl, w.before #[Value.ref b] s = true) ∧ va_X b L xs s s.heap ∧ b < s.heap.size ∧ meth.locks = false ∧ (Jvm.Cond.and given_1 narrow_1).before #[Value.ref b] s = true
def lr0 : List (Nat × Instr × Nat) := [(0, .new 8, 3), (3, .dup, 1), (4, .invokespecial 22, 3), (7, .astore_n 1, 1), (8, .new 23, 3), (11, .dup, 1), (12, .invokespecial 25, 3), (15, .astore_n 2, 1), (16, .iconst 1, 1), (17, .newarray .long, 2), (19, .astore_n 3, 1), (20, .iconst 0, 1), (21, .istore 4, 2)]
theorem okL0 : ∀ q ∈ lr0, decode code q.1 = .ok (q.2.1, q.2.2) := by decide +kernel
def lr1 : List (Nat × Instr × Nat) := [(23, .iload 4, 2), (25, .aload_n 0, 1), (26, .arraylength, 1), (27, .bipush 6, 2), (29, .isub, 1), (30, .if_icmp .gt 1171, 3), (33, .aload_n 0, 1), (34, .iload 4, 2), (36, .iaload, 1), (37, .bipush 31, 2), (39, .iand, 1), (40, .tableswitch 1155 0 27 #[128, 201, 226, 263, 331, 399, 448, 497, 522, 559, 596, 633, 670, 720, 769, 806, 831, 856, 881, 906, 943, 999, 1012, 1037, 1051, 1064, 1077, 1130], 128)]
theorem okL1 : ∀ q ∈ lr1, decode code q.1 = .ok (q.2.1, q.2.2) := by decide +kernel
def lr2 : List (Nat × Instr × Nat) := [(168, .aload_n 1, 1), (169, .aload_n 0, 1), (170, .iload 4, 2), (172, .iconst 1, 1), (173, .iadd, 1), (174, .iaload, 1), (175, .aload_n 0, 1), (176, .iload 4, 2), (178, .iconst 2, 1), (179, .iadd, 1), (180, .iaload, 1), (181, .aload_n 0, 1), (182, .iload 4, 2), (184, .iconst 3, 1), (185, .iadd, 1), (186, .iaload, 1), (187, .aload_n 0, 1), (188, .iload 4, 2), (190, .iconst 4, 1), (191, .iadd, 1), (192, .iaload, 1), (193, .aload_n 0, 1), (194, .iload 4, 2), (196, .iconst 5, 1), (197, .iadd, 1), (198, .iaload, 1), (199, .invokevirtual 26, 3), (202, .aload_n 2, 1), (203, .aload_n 0, 1), (204, .iload 4, 2), (206, .iconst 1, 1), (207, .iadd, 1), (208, .iaload, 1), (209, .aload_n 0, 1), (210, .iload 4, 2), (212, .iconst 2, 1), (213, .iadd, 1), (214, .iaload, 1), (215, .aload_n 0, 1), (216, .iload 4, 2), (218, .iconst 3, 1), (219, .iadd, 1), (220, .iaload, 1), (221, .aload_n 0, 1), (222, .iload 4, 2), (224, .iconst 4, 1), (225, .iadd, 1), (226, .iaload, 1), (227, .aload_n 0, 1), (228, .iload 4, 2), (230, .iconst 5, 1), (231, .iadd, 1), (232, .iaload, 1), (233, .invokevirtual 30, 3), (236, .if_icmp .eq 959, 3), (239, .iconst 0, 1), (240, .ireturn, 1)]
theorem okL2 : ∀ q ∈ lr2, decode code q.1 = .ok (q.2.1, q.2.2) := by decide +kernel
def lr3 : List (Nat × Instr × Nat) := [(241, .aload_n 1, 1), (242, .aload_n 0, 1), (243, .iload 4, 2), (245, .iconst 1, 1), (246, .iadd, 1), (247, .iaload, 1), (248, .invokevirtual 31, 3), (251, .aload_n 2, 1), (252, .aload_n 0, 1), (253, .iload 4, 2), (255, .iconst 1, 1), (256, .iadd, 1), (257, .iaload, 1), (258, .invokevirtual 34, 3), (261, .if_icmp .eq 934, 3), (264, .iconst 0, 1), (265, .ireturn, 1)]
theorem okL3 : ∀ q ∈ lr3, decode code q.1 = .ok (q.2.1, q.2.2) := by decide +kernel
def lr4 : List (Nat × Instr × Nat) := [(266, .aload_n 1, 1), (267, .aload_n 0, 1), (268, .iload 4, 2), (270, .iconst 1, 1), (271, .iadd, 1), (272, .iaload, 1), (273, .aload_n 0, 1), (274, .iload 4, 2), (276, .iconst 2, 1), (277, .iadd, 1), (278, .iaload, 1), (279, .invokevirtual 35, 3), (282, .aload_n 2, 1), (283, .aload_n 0, 1), (284, .iload 4, 2), (286, .iconst 1, 1), (287, .iadd, 1), (288, .iaload, 1), (289, .aload_n 0, 1), (290, .iload 4, 2), (292, .iconst 2, 1), (293, .iadd, 1), (294, .iaload, 1), (295, .invokevirtual 38, 3), (298, .if_icmp .eq 897, 3), (301, .iconst 0, 1), (302, .ireturn, 1)]
theorem okL4 : ∀ q ∈ lr4, decode code q.1 = .ok (q.2.1, q.2.2) := by decide +kernel
def lr5 : List (Nat × Instr × Nat) := [(303, .aload_n 1, 1), (304, .aload_n 0, 1), (305, .iload 4, 2), (307, .iconst 1, 1), (308, .iadd, 1), (309, .iaload, 1), (310, .aload_n 0, 1), (311, .iload 4, 2), (313, .iconst 2, 1), (314, .iadd, 1), (315, .iaload, 1), (316, .aload_n 3, 1), (317, .invokestatic 39, 3), (320, .istore 5, 2), (322, .aload_n 2, 1), (323, .aload_n 0, 1), (324, .iload 4, 2), (326, .iconst 1, 1), (327, .iadd, 1), (328, .iaload, 1), (329, .aload_n 0, 1), (330, .iload 4, 2), (332, .iconst 2, 1), (333, .iadd, 1), (334, .iaload, 1), (335, .invokevirtual 44, 3), (338, .istore 6, 2), (340, .aload_n 2, 1), (341, .invokevirtual 45, 3), (344, .iload 5, 2), (346, .if_icmp .eq 5, 3), (349, .iconst 0, 1), (350, .ireturn, 1), (351, .iload 5, 2), (353, .ifCond .ne 15, 3), (356, .aload_n 3, 1), (357, .iconst 0, 1), (358, .laload, 1), (359, .iload 6, 2), (361, .i2l, 1), (362, .lcmp, 1), (363, .ifCond .eq 5, 3), (366, .iconst 0, 1), (367, .ireturn, 1), (368, .goto 827, 3)]
theorem okL5 : ∀ q ∈ lr5, decode code q.1 = .ok (q.2.1, q.2.2) := by decide +kernel
def lr6 : List (Nat × Instr × Nat) := [(371, .aload_n 1, 1), (372, .aload_n 0, 1), (373, .iload 4, 2), (375, .iconst 1, 1), (376, .iadd, 1), (377, .iaload, 1), (378, .aload_n 0, 1), (379, .iload 4, 2), (381, .iconst 2, 1), (382, .iadd, 1), (383, .iaload, 1), (384, .aload_n 3, 1), (385, .invokestatic 49, 3), (388, .istore 5, 2), (390, .aload_n 2, 1), (391, .aload_n 0, 1), (392, .iload 4, 2), (394, .iconst 1, 1), (395, .iadd, 1), (396, .iaload, 1), (397, .aload_n 0, 1), (398, .iload 4, 2), (400, .iconst 2, 1), (401, .iadd, 1), (402, .iaload, 1), (403, .invokevirtual 51, 3), (406, .istore 6, 2), (408, .aload_n 2, 1), (409, .invokevirtual 45, 3), (412, .iload 5, 2), (414, .if_icmp .eq 5, 3), (417, .iconst 0, 1), (418, .ireturn, 1), (419, .iload 5, 2), (421, .ifCond .ne 15, 3), (424, .aload_n 3, 1), (425, .iconst 0, 1), (426, .laload, 1), (427, .iload 6, 2), (429, .i2l, 1), (430, .lcmp, 1), (431, .ifCond .eq 5, 3), (434, .iconst 0, 1), (435, .ireturn, 1), (436, .goto 759, 3)]
theorem okL6 : ∀ q ∈ lr6, decode code q.1 = .ok (q.2.1, q.2.2) := by decide +kernel
def lr7 : List (Nat × Instr × Nat) := [(439, .aload_n 1, 1), (440, .aload_n 0, 1), (441, .iload 4, 2), (443, .iconst 1, 1), (444, .iadd, 1), (445, .iaload, 1), (446, .aload_n 0, 1), (447, .iload 4, 2), (449, .iconst 2, 1), (450, .iadd, 1), (451, .iaload, 1), (452, .aload_n 0, 1), (453, .iload 4, 2), (455, .iconst 3, 1), (456, .iadd, 1), (457, .iaload, 1), (458, .invokevirtual 52, 3), (461, .aload_n 2, 1), (462, .aload_n 0, 1), (463, .iload 4, 2), (465, .iconst 1, 1), (466, .iadd, 1), (467, .iaload, 1), (468, .aload_n 0, 1), (469, .iload 4, 2), (471, .iconst 2, 1), (472, .iadd, 1), (473, .iaload, 1), (474, .aload_n 0, 1), (475, .iload 4, 2), (477, .iconst 3, 1), (478, .iadd, 1), (479, .iaload, 1), (480, .invokevirtual 56, 3), (483, .if_icmp .eq 712, 3), (486, .iconst 0, 1), (487, .ireturn, 1)]
theorem okL7 : ∀ q ∈ lr7, decode code q.1 = .ok (q.2.1, q.2.2) := by decide +kernel
def lr8 : List (Nat × Instr × Nat) := [(488, .aload_n 1, 1), (489, .aload_n 0, 1), (490, .iload 4, 2), (492, .iconst 1, 1), (493, .iadd, 1), (494, .iaload, 1), (495, .aload_n 0, 1), (496, .iload 4, 2), (498, .iconst 2, 1), (499, .iadd, 1), (500, .iaload, 1), (501, .aload_n 0, 1), (502, .iload 4, 2), (504, .iconst 3, 1), (505, .iadd, 1), (506, .iaload, 1), (507, .invokevirtual 57, 3), (510, .aload_n 2, 1), (511, .aload_n 0, 1), (512, .iload 4, 2), (514, .iconst 1, 1), (515, .iadd, 1), (516, .iaload, 1), (517, .aload_n 0, 1), (518, .iload 4, 2), (520, .iconst 2, 1), (521, .iadd, 1), (522, .iaload, 1), (523, .aload_n 0, 1), (524, .iload 4, 2), (526, .iconst 3, 1), (527, .iadd, 1), (528, .iaload, 1), (529, .invokevirtual 61, 3), (532, .if_icmp .eq 663, 3), (535, .iconst 0, 1), (536, .ireturn, 1)]
theorem okL8 : ∀ q ∈ lr8, decode code q.1 = .ok (q.2.1, q.2.2) := by decide +kernel
def lr9 : List (Nat × Instr × Nat) := [(537, .aload_n 1, 1), (538, .aload_n 0, 1), (539, .iload 4, 2), (541, .iconst 1, 1), (542, .iadd, 1), (543, .iaload, 1), (544, .invokevirtual 62, 3), (547, .aload_n 2, 1), (548, .aload_n 0, 1), (549, .iload 4, 2), (551, .iconst 1, 1), (552, .iadd, 1), (553, .iaload, 1), (554, .invokevirtual 65, 3), (557, .if_icmp .eq 638, 3), (560, .iconst 0, 1), (561, .ireturn, 1)]
theorem okL9 : ∀ q ∈ lr9, decode code q.1 = .ok (q.2.1, q.2.2) := by decide +kernel
def lr10 : List (Nat × Instr × Nat) := [(562, .aload_n 1, 1), (563, .aload_n 0, 1), (564, .iload 4, 2), (566, .iconst 1, 1), (567, .iadd, 1), (568, .iaload, 1), (569, .aload_n 0, 1), (570, .iload 4, 2), (572, .iconst 2, 1), (573, .iadd, 1), (574, .iaload, 1), (575, .invokevirtual 66, 3), (578, .aload_n 2, 1), (579, .aload_n 0, 1), (580, .iload 4, 2), (582, .iconst 1, 1), (583, .iadd, 1), (584, .iaload, 1), (585, .aload_n 0, 1), (586, .iload 4, 2), (588, .iconst 2, 1), (589, .iadd, 1), (590, .iaload, 1), (591, .invokevirtual 69, 3), (594, .if_icmp .eq 601, 3), (597, .iconst 0, 1), (598, .ireturn, 1)]
theorem okL10 : ∀ q ∈ lr10, decode code q.1 = .ok (q.2.1, q.2.2) := by decide +kernel
def lr11 : List (Nat × Instr × Nat) := [(599, .aload_n 1, 1), (600, .aload_n 0, 1), (601, .iload 4, 2), (603, .iconst 1, 1), (604, .iadd, 1), (605, .iaload, 1), (606, .aload_n 0, 1), (607, .iload 4, 2), (609, .iconst 2, 1), (610, .iadd, 1), (611, .iaload, 1), (612, .invokevirtual 70, 3), (615, .aload_n 2, 1), (616, .aload_n 0, 1), (617, .iload 4, 2), (619, .iconst 1, 1), (620, .iadd, 1), (621, .iaload, 1), (622, .aload_n 0, 1), (623, .iload 4, 2), (625, .iconst 2, 1), (626, .iadd, 1), (627, .iaload, 1), (628, .invokevirtual 73, 3), (631, .if_icmp .eq 564, 3), (634, .iconst 0, 1), (635, .ireturn, 1)]
theorem okL11 : ∀ q ∈ lr11, decode code q.1 = .ok (q.2.1, q.2.2) := by decide +kernel
def lr12 : List (Nat × Instr × Nat) := [(636, .aload_n 1, 1), (637, .aload_n 0, 1), (638, .iload 4, 2), (640, .iconst 1, 1), (641, .iadd, 1), (642, .iaload, 1), (643, .aload_n 0, 1), (644, .iload 4, 2), (646, .iconst 2, 1), (647, .iadd, 1), (648, .iaload, 1), (649, .invokevirtual 74, 3), (652, .aload_n 2, 1), (653, .aload_n 0, 1), (654, .iload 4, 2), (656, .iconst 1, 1), (657, .iadd, 1), (658, .iaload, 1), (659, .aload_n 0, 1), (660, .iload 4, 2), (662, .iconst 2, 1), (663, .iadd, 1), (664, .iaload, 1), (665, .invokevirtual 77, 3), (668, .if_icmp .eq 527, 3), (671, .iconst 0, 1), (672, .ireturn, 1)]
theorem okL12 : ∀ q ∈ lr12, decode code q.1 = .ok (q.2.1, q.2.2) := by decide +kernel
def lr13 : List (Nat × Instr × Nat) := [(673, .aload_n 1, 1), (674, .aload_n 0, 1), (675, .iload 4, 2), (677, .iconst 1, 1), (678, .iadd, 1), (679, .iaload, 1), (680, .aload_n 0, 1), (681, .iload 4, 2), (683, .iconst 2, 1), (684, .iadd, 1), (685, .iaload, 1), (686, .invokevirtual 78, 3), (689, .aload_n 2, 1), (690, .aload_n 0, 1), (691, .iload 4, 2), (693, .iconst 1, 1), (694, .iadd, 1), (695, .iaload, 1), (696, .aload_n 0, 1), (697, .iload 4, 2), (699, .iconst 2, 1), (700, .iadd, 1), (701, .iaload, 1), (702, .invokevirtual 81, 3), (705, .if_icmp .eq 490, 3), (708, .iconst 0, 1), (709, .ireturn, 1)]
theorem okL13 : ∀ q ∈ lr13, decode code q.1 = .ok (q.2.1, q.2.2) := by decide +kernel
def lr14 : List (Nat × Instr × Nat) := [(710, .aload_n 1, 1), (711, .aload_n 0, 1), (712, .iload 4, 2), (714, .iconst 1, 1), (715, .iadd, 1), (716, .iaload, 1), (717, .aload_n 0, 1), (718, .iload 4, 2), (720, .iconst 2, 1), (721, .iadd, 1), (722, .iaload, 1), (723, .aload_n 0, 1), (724, .iload 4, 2), (726, .iconst 3, 1), (727, .iadd, 1), (728, .iaload, 1), (729, .invokevirtual 82, 3), (732, .aload_n 2, 1), (733, .aload_n 0, 1), (734, .iload 4, 2), (736, .iconst 1, 1), (737, .iadd, 1), (738, .iaload, 1), (739, .aload_n 0, 1), (740, .iload 4, 2), (742, .iconst 2, 1), (743, .iadd, 1), (744, .iaload, 1), (745, .aload_n 0, 1), (746, .iload 4, 2), (748, .iconst 3, 1), (749, .iadd, 1), (750, .iaload, 1), (751, .invokevirtual 86, 3), (754, .lcmp, 1), (755, .ifCond .eq 440, 3), (758, .iconst 0, 1), (759, .ireturn, 1)]
theorem okL14 : ∀ q ∈ lr14, decode code q.1 = .ok (q.2.1, q.2.2) := by decide +kernel
def lr15 : List (Nat × Instr × Nat) := [(760, .aload_n 1, 1), (761, .aload_n 0, 1), (762, .iload 4, 2), (764, .iconst 1, 1), (765, .iadd, 1), (766, .iaload, 1), (767, .aload_n 0, 1), (768, .iload 4, 2), (770, .iconst 2, 1), (771, .iadd, 1), (772, .iaload, 1), (773, .aload_n 0, 1), (774, .iload 4, 2), (776, .iconst 3, 1), (777, .iadd, 1), (778, .iaload, 1), (779, .invokevirtual 87, 3), (782, .aload_n 2, 1), (783, .aload_n 0, 1), (784, .iload 4, 2), (786, .iconst 1, 1), (787, .iadd, 1), (788, .iaload, 1), (789, .aload_n 0, 1), (790, .iload 4, 2), (792, .iconst 2, 1), (793, .iadd, 1), (794, .iaload, 1), (795, .aload_n 0, 1), (796, .iload 4, 2), (798, .iconst 3, 1), (799, .iadd, 1), (800, .iaload, 1), (801, .invokevirtual 90, 3), (804, .if_icmp .eq 391, 3), (807, .iconst 0, 1), (808, .ireturn, 1)]
theorem okL15 : ∀ q ∈ lr15, decode code q.1 = .ok (q.2.1, q.2.2) := by decide +kernel
def lr16 : List (Nat × Instr × Nat) := [(809, .aload_n 1, 1), (810, .aload_n 0, 1), (811, .iload 4, 2), (813, .iconst 1, 1), (814, .iadd, 1), (815, .iaload, 1), (816, .aload_n 0, 1), (817, .iload 4, 2), (819, .iconst 2, 1), (820, .iadd, 1), (821, .iaload, 1), (822, .invokevirtual 91, 3), (825, .aload_n 2, 1), (826, .aload_n 0, 1), (827, .iload 4, 2), (829, .iconst 1, 1), (830, .iadd, 1), (831, .iaload, 1), (832, .aload_n 0, 1), (833, .iload 4, 2), (835, .iconst 2, 1), (836, .iadd, 1), (837, .iaload, 1), (838, .invokevirtual 94, 3), (841, .if_icmp .eq 354, 3), (844, .iconst 0, 1), (845, .ireturn, 1)]
theorem okL16 : ∀ q ∈ lr16, decode code q.1 = .ok (q.2.1, q.2.2) := by decide +kernel
def lr17 : List (Nat × Instr × Nat) := [(846, .aload_n 1, 1), (847, .aload_n 0, 1), (848, .iload 4, 2), (850, .iconst 1, 1), (851, .iadd, 1), (852, .iaload, 1), (853, .invokevirtual 95, 3), (856, .aload_n 2, 1), (857, .aload_n 0, 1), (858, .iload 4, 2), (860, .iconst 1, 1), (861, .iadd, 1), (862, .iaload, 1), (863, .invokevirtual 98, 3), (866, .if_icmp .eq 329, 3), (869, .iconst 0, 1), (870, .ireturn, 1)]
theorem okL17 : ∀ q ∈ lr17, decode code q.1 = .ok (q.2.1, q.2.2) := by decide +kernel
def lr18 : List (Nat × Instr × Nat) := [(871, .aload_n 1, 1), (872, .aload_n 0, 1), (873, .iload 4, 2), (875, .iconst 1, 1), (876, .iadd, 1), (877, .iaload, 1), (878, .invokevirtual 99, 3), (881, .aload_n 2, 1), (882, .aload_n 0, 1), (883, .iload 4, 2), (885, .iconst 1, 1), (886, .iadd, 1), (887, .iaload, 1), (888, .invokevirtual 102, 3), (891, .if_icmp .eq 304, 3), (894, .iconst 0, 1), (895, .ireturn, 1)]
theorem okL18 : ∀ q ∈ lr18, decode code q.1 = .ok (q.2.1, q.2.2) := by decide +kernel
def lr19 : List (Nat × Instr × Nat) := [(896, .aload_n 1, 1), (897, .aload_n 0, 1), (898, .iload 4, 2), (900, .iconst 1, 1), (901, .iadd, 1), (902, .iaload, 1), (903, .invokevirtual 103, 3), (906, .aload_n 2, 1), (907, .aload_n 0, 1), (908, .iload 4, 2), (910, .iconst 1, 1), (911, .iadd, 1), (912, .iaload, 1), (913, .invokevirtual 106, 3), (916, .if_icmp .eq 279, 3), (919, .iconst 0, 1), (920, .ireturn, 1)]
theorem okL19 : ∀ q ∈ lr19, decode code q.1 = .ok (q.2.1, q.2.2) := by decide +kernel
def lr20 : List (Nat × Instr × Nat) := [(921, .aload_n 1, 1), (922, .aload_n 0, 1), (923, .iload 4, 2), (925, .iconst 1, 1), (926, .iadd, 1), (927, .iaload, 1), (928, .invokevirtual 107, 3), (931, .aload_n 2, 1), (932, .aload_n 0, 1), (933, .iload 4, 2), (935, .iconst 1, 1), (936, .iadd, 1), (937, .iaload, 1), (938, .invokevirtual 110, 3), (941, .if_icmp .eq 254, 3), (944, .iconst 0, 1), (945, .ireturn, 1)]
theorem okL20 : ∀ q ∈ lr20, decode code q.1 = .ok (q.2.1, q.2.2) := by decide +kernel
def lr21 : List (Nat × Instr × Nat) := [(946, .aload_n 1, 1), (947, .aload_n 0, 1), (948, .iload 4, 2), (950, .iconst 1, 1), (951, .iadd, 1), (952, .iaload, 1), (953, .aload_n 0, 1), (954, .iload 4, 2), (956, .iconst 2, 1), (957, .iadd, 1), (958, .iaload, 1), (959, .invokevirtual 111, 3), (962, .aload_n 2, 1), (963, .aload_n 0, 1), (964, .iload 4, 2), (966, .iconst 1, 1), (967, .iadd, 1), (968, .iaload, 1), (969, .aload_n 0, 1), (970, .iload 4, 2), (972, .iconst 2, 1), (973, .iadd, 1), (974, .iaload, 1), (975, .invokevirtual 114, 3), (978, .if_icmp .eq 217, 3), (981, .iconst 0, 1), (982, .ireturn, 1)]
theorem okL21 : ∀ q ∈ lr21, decode code q.1 = .ok (q.2.1, q.2.2) := by decide +kernel
def lr22 : List (Nat × Instr × Nat) := [(983, .aload_n 1, 1), (984, .aload_n 0, 1), (985, .iload 4, 2), (987, .iconst 1, 1), (988, .iadd, 1), (989, .iaload, 1), (990, .aload_n 3, 1), (991, .invokestatic 115, 3), (994, .istore 5, 2), (996, .aload_n 2, 1), (997, .aload_n 0, 1), (998, .iload 4, 2), (1000, .iconst 1, 1), (1001, .iadd, 1), (1002, .iaload, 1), (1003, .invokevirtual 118, 3), (1006, .istore 6, 2), (1008, .aload_n 2, 1), (1009, .invokevirtual 45, 3), (1012, .iload 5, 2), (1014, .if_icmp .eq 5, 3), (1017, .iconst 0, 1), (1018, .ireturn, 1), (1019, .iload 5, 2), (1021, .ifCond .ne 15, 3), (1024, .aload_n 3, 1), (1025, .iconst 0, 1), (1026, .laload, 1), (1027, .iload 6, 2), (1029, .i2l, 1), (1030, .lcmp, 1), (1031, .ifCond .eq 5, 3), (1034, .iconst 0, 1), (1035, .ireturn, 1), (1036, .goto 159, 3)]
theorem okL22 : ∀ q ∈ lr22, decode code q.1 = .ok (q.2.1, q.2.2) := by decide +kernel
def lr23 : List (Nat × Instr × Nat) := [(1039, .aload_n 1, 1), (1040, .invokevirtual 119, 3), (1043, .aload_n 2, 1), (1044, .invokevirtual 122, 3), (1047, .if_icmp .eq 148, 3), (1050, .iconst 0, 1), (1051, .ireturn, 1)]
theorem okL23 : ∀ q ∈ lr23, decode code q.1 = .ok (q.2.1, q.2.2) := by decide +kernel
def lr24 : List (Nat × Instr × Nat) := [(1052, .aload_n 1, 1), (1053, .aload_n 0, 1), (1054, .iload 4, 2), (1056, .iconst 1, 1), (1057, .iadd, 1), (1058, .iaload, 1), (1059, .invokevirtual 123, 3), (1062, .aload_n 2, 1), (1063, .aload_n 0, 1), (1064, .iload 4, 2), (1066, .iconst 1, 1), (1067, .iadd, 1), (1068, .iaload, 1), (1069, .invokevirtual 126, 3), (1072, .if_icmp .eq 123, 3), (1075, .iconst 0, 1), (1076, .ireturn, 1)]
theorem okL24 : ∀ q ∈ lr24, decode code q.1 = .ok (q.2.1, q.2.2) := by decide +kernel
def lr25 : List (Nat × Instr × Nat) := [(1077, .aload_n 1, 1), (1078, .invokevirtual 127, 3), (1081, .aload_n 2, 1), (1082, .invokevirtual 131, 3), (1085, .lcmp, 1), (1086, .ifCond .eq 109, 3), (1089, .iconst 0, 1), (1090, .ireturn, 1)]
theorem okL25 : ∀ q ∈ lr25, decode code q.1 = .ok (q.2.1, q.2.2) := by decide +kernel
def lr26 : List (Nat × Instr × Nat) := [(1091, .aload_n 1, 1), (1092, .invokevirtual 132, 3), (1095, .aload_n 2, 1), (1096, .invokevirtual 135, 3), (1099, .if_icmp .eq 96, 3), (1102, .iconst 0, 1), (1103, .ireturn, 1)]
theorem okL26 : ∀ q ∈ lr26, decode code q.1 = .ok (q.2.1, q.2.2) := by decide +kernel
def lr27 : List (Nat × Instr × Nat) := [(1104, .aload_n 1, 1), (1105, .invokevirtual 136, 3), (1108, .aload_n 2, 1), (1109, .invokevirtual 139, 3), (1112, .if_icmp .eq 83, 3), (1115, .iconst 0, 1), (1116, .ireturn, 1)]
theorem okL27 : ∀ q ∈ lr27, decode code q.1 = .ok (q.2.1, q.2.2) := by decide +kernel
def lr28 : List (Nat × Instr × Nat) := [(1117, .aload_n 1, 1), (1118, .aload_n 0, 1), (1119, .iload 4, 2), (1121, .iconst 1, 1), (1122, .iadd, 1), (1123, .iaload, 1), (1124, .aload_n 0, 1), (1125, .iload 4, 2), (1127, .iconst 2, 1), (1128, .iadd, 1), (1129, .iaload, 1), (1130, .ifCond .eq 7, 3), (1133, .iconst 1, 1), (1134, .goto 4, 3), (1137, .iconst 0, 1), (1138, .invokevirtual 140, 3), (1141, .aload_n 2, 1), (1142, .aload_n 0, 1), (1143, .iload 4, 2), (1145, .iconst 1, 1), (1146, .iadd, 1), (1147, .iaload, 1), (1148, .aload_n 0, 1), (1149, .iload 4, 2), (1151, .iconst 2, 1), (1152, .iadd, 1), (1153, .iaload, 1), (1154, .ifCond .eq 7, 3), (1157, .iconst 1, 1), (1158, .goto 4, 3), (1161, .iconst 0, 1), (1162, .invokevirtual 144, 3), (1165, .if_icmp .eq 30, 3), (1168, .iconst 0, 1), (1169, .ireturn, 1)]
theorem okL28 : ∀ q ∈ lr28, decode code q.1 = .ok (q.2.1, q.2.2) := by decide +kernel
def lr29 : List (Nat × Instr × Nat) := [(1170, .aload_n 1, 1), (1171, .aload_n 0, 1), (1172, .iload 4, 2), (1174, .iconst 1, 1), (1175, .iadd, 1), (1176, .iaload, 1), (1177, .invokevirtual 145, 3), (1180, .aload_n 2, 1), (1181, .aload_n 0, 1), (1182, .iload 4, 2), (1184, .iconst 1, 1), (1185, .iadd, 1), (1186, .iaload, 1), (1187, .invokevirtual 148, 3), (1190, .if_icmp .eq 5, 3), (1193, .iconst 0, 1), (1194, .ireturn, 1)]
theorem okL29 : ∀ q ∈ lr29, decode code q.1 = .ok (q.2.1, q.2.2) := by decide +kernel
def lr30 : List (Nat × Instr × Nat) := [(1195, .iinc 4 6, 3), (1198, .goto (-1175), 3), (1201, .iconst 1, 1), (1202, .ireturn, 1)]
theorem okL30 : ∀ q ∈ lr30, decode code q.1 = .ok (q.2.1, q.2.2) := by decide +kernel
def mL : Mth := ("SisterCourtsLaw", x, code, 7, ret, lr0 ++ (lr1 ++ (lr2 ++ (lr3 ++ (lr4 ++ (lr5 ++ (lr6 ++ (lr7 ++ (lr8 ++ (lr9 ++ (lr10 ++ (lr11 ++ (lr12 ++ (lr13 ++ (lr14 ++ (lr15 ++ (lr16 ++ (lr17 ++ (lr18 ++ (lr19 ++ (lr20 ++ (lr21 ++ (lr22 ++ (lr23 ++ (lr24 ++ (lr25 ++ (lr26 ++ (lr27 ++ (lr28 ++ (lr29 ++ (lr30)))))))))))))))))))))))))))))))
theorem okL : ∀ q ∈ mL.2.2.2.2.2, decode mL.2.2.1 q.1 = .ok (q.2.1, q.2.2) := by
  intro q hq
  have hq : q ∈ lr0 ++ (lr1 ++ (lr2 ++ (lr3 ++ (lr4 ++ (lr5 ++ (lr6 ++ (lr7 ++ (lr8 ++ (lr9 ++ (lr10 ++ (lr11 ++ (lr12 ++ (lr13 ++ (lr14 ++ (lr15 ++ (lr16 ++ (lr17 ++ (lr18 ++ (lr19 ++ (lr20 ++ (lr21 ++ (lr22 ++ (lr23 ++ (lr24 ++ (lr25 ++ (lr26 ++ (lr27 ++ (lr28 ++ (lr29 ++ (lr30)))))))))))))))))))))))))))))) := hq
  rcases List.mem_append.mp hq with hq | hq
  · exact okL0 q hq
  rcases List.mem_append.mp hq with hq | hq
  · exact okL1 q hq
  rcases List.mem_append.mp hq with hq | hq
  · exact okL2 q hq
  rcases List.mem_append.mp hq with hq | hq
  · exact okL3 q hq
  rcases List.mem_append.mp hq with hq | hq
  · exact okL4 q hq
  rcases List.mem_append.mp hq with hq | hq
  · exact okL5 q hq
  rcases List.mem_append.mp hq with hq | hq
  · exact okL6 q hq
  rcases List.mem_append.mp hq with hq | hq
  · exact okL7 q hq
  rcases List.mem_append.mp hq with hq | hq
  · exact okL8 q hq
  rcases List.mem_append.mp hq with hq | hq
  · exact okL9 q hq
  rcases List.mem_append.mp hq with hq | hq
  · exact okL10 q hq
  rcases List.mem_append.mp hq with hq | hq
  · exact okL11 q hq
  rcases List.mem_append.mp hq with hq | hq
  · exact okL12 q hq
  rcases List.mem_append.mp hq with hq | hq
  · exact okL13 q hq
  rcases List.mem_append.mp hq with hq | hq
  · exact okL14 q hq
  rcases List.mem_append.mp hq with hq | hq
  · exact okL15 q hq
  rcases List.mem_append.mp hq with hq | hq
  · exact okL16 q hq
  rcases List.mem_append.mp hq with hq | hq
  · exact okL17 q hq
  rcases List.mem_append.mp hq with hq | hq
  · exact okL18 q hq
  rcases List.mem_append.mp hq with hq | hq
  · exact okL19 q hq
  rcases List.mem_append.mp hq with hq | hq
  · exact okL20 q hq
  rcases List.mem_append.mp hq with hq | hq
  · exact okL21 q hq
  rcases List.mem_append.mp hq with hq | hq
  · exact okL22 q hq
  rcases List.mem_append.mp hq with hq | hq
  · exact okL23 q hq
  rcases List.mem_append.mp hq with hq | hq
  · exact okL24 q hq
  rcases List.mem_append.mp hq with hq | hq
  · exact okL25 q hq
  rcases List.mem_append.mp hq with hq | hq
  · exact okL26 q hq
  rcases List.mem_append.mp hq with hq | hq
  · exact okL27 q hq
  rcases List.mem_append.mp hq with hq | hq
  · exact okL28 q hq
  rcases List.mem_append.mp hq with hq | hq
  · exact okL29 q hq
  exact okL30 q hq
theorem lkr {α : Type} {a b : List α} {n j : Nat} {q : α} (hn : a.length = n) (h : b[j]? = some q) : (a ++ b)[n + j]? = some q := by
  rw [List.getElem?_append_right (by omega), ← hn, Nat.add_sub_cancel_left]; exact h
theorem lkl {α : Type} {a b : List α} {j : Nat} {q : α} (h : a[j]? = some q) : (a ++ b)[j]? = some q := by
  rw [List.getElem?_append_left (List.getElem?_eq_some_iff.mp h).1]; exact h
theorem lk0 (j : Nat) {q : Nat × Instr × Nat} (h : lr0[j]? = some q) : mL.2.2.2.2.2[j]? = some q := (lkl h)
theorem lk1 (j : Nat) {q : Nat × Instr × Nat} (h : lr1[j]? = some q) : mL.2.2.2.2.2[13 + (j)]? = some q := (lkr rfl (lkl h))
theorem lk2 (j : Nat) {q : Nat × Instr × Nat} (h : lr2[j]? = some q) : mL.2.2.2.2.2[13 + (12 + (j))]? = some q := (lkr rfl (lkr rfl (lkl h)))
theorem lk3 (j : Nat) {q : Nat × Instr × Nat} (h : lr3[j]? = some q) : mL.2.2.2.2.2[13 + (12 + (57 + (j)))]? = some q := (lkr rfl (lkr rfl (lkr rfl (lkl h))))
theorem lk4 (j : Nat) {q : Nat × Instr × Nat} (h : lr4[j]? = some q) : mL.2.2.2.2.2[13 + (12 + (57 + (17 + (j))))]? = some q := (lkr rfl (lkr rfl (lkr rfl (lkr rfl (lkl h)))))
theorem lk5 (j : Nat) {q : Nat × Instr × Nat} (h : lr5[j]? = some q) : mL.2.2.2.2.2[13 + (12 + (57 + (17 + (27 + (j)))))]? = some q := (lkr rfl (lkr rfl (lkr rfl (lkr rfl (lkr rfl (lkl h))))))
theorem lk6 (j : Nat) {q : Nat × Instr × Nat} (h : lr6[j]? = some q) : mL.2.2.2.2.2[13 + (12 + (57 + (17 + (27 + (45 + (j))))))]? = some q := (lkr rfl (lkr rfl (lkr rfl (lkr rfl (lkr rfl (lkr rfl (lkl h)))))))
theorem lk7 (j : Nat) {q : Nat × Instr × Nat} (h : lr7[j]? = some q) : mL.2.2.2.2.2[13 + (12 + (57 + (17 + (27 + (45 + (45 + (j)))))))]? = some q := (lkr rfl (lkr rfl (lkr rfl (lkr rfl (lkr rfl (lkr rfl (lkr rfl (lkl h))))))))
theorem lk8 (j : Nat) {q : Nat × Instr × Nat} (h : lr8[j]? = some q) : mL.2.2.2.2.2[13 + (12 + (57 + (17 + (27 + (45 + (45 + (37 + (j))))))))]? = some q := (lkr rfl (lkr rfl (lkr rfl (lkr rfl (lkr rfl (lkr rfl (lkr rfl (lkr rfl (lkl h)))))))))
theorem lk9 (j : Nat) {q : Nat × Instr × Nat} (h : lr9[j]? = some q) : mL.2.2.2.2.2[13 + (12 + (57 + (17 + (27 + (45 + (45 + (37 + (37 + (j)))))))))]? = some q := (lkr rfl (lkr rfl (lkr rfl (lkr rfl (lkr rfl (lkr rfl (lkr rfl (lkr rfl (lkr rfl (lkl h))))))))))
theorem lk10 (j : Nat) {q : Nat × Instr × Nat} (h : lr10[j]? = some q) : mL.2.2.2.2.2[13 + (12 + (57 + (17 + (27 + (45 + (45 + (37 + (37 + (17 + (j))))))))))]? = some q := (lkr rfl (lkr rfl (lkr rfl (lkr rfl (lkr rfl (lkr rfl (lkr rfl (lkr rfl (lkr rfl (lkr rfl (lkl h)))))))))))
theorem lk11 (j : Nat) {q : Nat × Instr × Nat} (h : lr11[j]? = some q) : mL.2.2.2.2.2[13 + (12 + (57 + (17 + (27 + (45 + (45 + (37 + (37 + (17 + (27 + (j)))))))))))]? = some q := (lkr rfl (lkr rfl (lkr rfl (lkr rfl (lkr rfl (lkr rfl (lkr rfl (lkr rfl (lkr rfl (lkr rfl (lkr rfl (lkl h))))))))))))
theorem lk12 (j : Nat) {q : Nat × Instr × Nat} (h : lr12[j]? = some q) : mL.2.2.2.2.2[13 + (12 + (57 + (17 + (27 + (45 + (45 + (37 + (37 + (17 + (27 + (27 + (j))))))))))))]? = some q := (lkr rfl (lkr rfl (lkr rfl (lkr rfl (lkr rfl (lkr rfl (lkr rfl (lkr rfl (lkr rfl (lkr rfl (lkr rfl (lkr rfl (lkl h)))))))))))))
theorem lk13 (j : Nat) {q : Nat × Instr × Nat} (h : lr13[j]? = some q) : mL.2.2.2.2.2[13 + (12 + (57 + (17 + (27 + (45 + (45 + (37 + (37 + (17 + (27 + (27 + (27 + (j)))))))))))))]? = some q := (lkr rfl (lkr rfl (lkr rfl (lkr rfl (lkr rfl (lkr rfl (lkr rfl (lkr rfl (lkr rfl (lkr rfl (lkr rfl (lkr rfl (lkr rfl (lkl h))))))))))))))
theorem lk14 (j : Nat) {q : Nat × Instr × Nat} (h : lr14[j]? = some q) : mL.2.2.2.2.2[13 + (12 + (57 + (17 + (27 + (45 + (45 + (37 + (37 + (17 + (27 + (27 + (27 + (27 + (j))))))))))))))]? = some q := (lkr rfl (lkr rfl (lkr rfl (lkr rfl (lkr rfl (lkr rfl (lkr rfl (lkr rfl (lkr rfl (lkr rfl (lkr rfl (lkr rfl (lkr rfl (lkr rfl (lkl h)))))))))))))))
theorem lk15 (j : Nat) {q : Nat × Instr × Nat} (h : lr15[j]? = some q) : mL.2.2.2.2.2[13 + (12 + (57 + (17 + (27 + (45 + (45 + (37 + (37 + (17 + (27 + (27 + (27 + (27 + (38 + (j)))))))))))))))]? = some q := (lkr rfl (lkr rfl (lkr rfl (lkr rfl (lkr rfl (lkr rfl (lkr rfl (lkr rfl (lkr rfl (lkr rfl (lkr rfl (lkr rfl (lkr rfl (lkr rfl (lkr rfl (lkl h))))))))))))))))
theorem lk16 (j : Nat) {q : Nat × Instr × Nat} (h : lr16[j]? = some q) : mL.2.2.2.2.2[13 + (12 + (57 + (17 + (27 + (45 + (45 + (37 + (37 + (17 + (27 + (27 + (27 + (27 + (38 + (37 + (j))))))))))))))))]? = some q := (lkr rfl (lkr rfl (lkr rfl (lkr rfl (lkr rfl (lkr rfl (lkr rfl (lkr rfl (lkr rfl (lkr rfl (lkr rfl (lkr rfl (lkr rfl (lkr rfl (lkr rfl (lkr rfl (lkl h)))))))))))))))))
theorem lk17 (j : Nat) {q : Nat × Instr × Nat} (h : lr17[j]? = some q) : mL.2.2.2.2.2[13 + (12 + (57 + (17 + (27 + (45 + (45 + (37 + (37 + (17 + (27 + (27 + (27 + (27 + (38 + (37 + (27 + (j)))))))))))))))))]? = some q := (lkr rfl (lkr rfl (lkr rfl (lkr rfl (lkr rfl (lkr rfl (lkr rfl (lkr rfl (lkr rfl (lkr rfl (lkr rfl (lkr rfl (lkr rfl (lkr rfl (lkr rfl (lkr rfl (lkr rfl (lkl h))))))))))))))))))
theorem lk18 (j : Nat) {q : Nat × Instr × Nat} (h : lr18[j]? = some q) : mL.2.2.2.2.2[13 + (12 + (57 + (17 + (27 + (45 + (45 + (37 + (37 + (17 + (27 + (27 + (27 + (27 + (38 + (37 + (27 + (17 + (j))))))))))))))))))]? = some q := (lkr rfl (lkr rfl (lkr rfl (lkr rfl (lkr rfl (lkr rfl (lkr rfl (lkr rfl (lkr rfl (lkr rfl (lkr rfl (lkr rfl (lkr rfl (lkr rfl (lkr rfl (lkr rfl (lkr rfl (lkr rfl (lkl h)))))))))))))))))))
theorem lk19 (j : Nat) {q : Nat × Instr × Nat} (h : lr19[j]? = some q) : mL.2.2.2.2.2[13 + (12 + (57 + (17 + (27 + (45 + (45 + (37 + (37 + (17 + (27 + (27 + (27 + (27 + (38 + (37 + (27 + (17 + (17 + (j)))))))))))))))))))]? = some q := (lkr rfl (lkr rfl (lkr rfl (lkr rfl (lkr rfl (lkr rfl (lkr rfl (lkr rfl (lkr rfl (lkr rfl (lkr rfl (lkr rfl (lkr rfl (lkr rfl (lkr rfl (lkr rfl (lkr rfl (lkr rfl (lkr rfl (lkl h))))))))))))))))))))
theorem lk20 (j : Nat) {q : Nat × Instr × Nat} (h : lr20[j]? = some q) : mL.2.2.2.2.2[13 + (12 + (57 + (17 + (27 + (45 + (45 + (37 + (37 + (17 + (27 + (27 + (27 + (27 + (38 + (37 + (27 + (17 + (17 + (17 + (j))))))))))))))))))))]? = some q := (lkr rfl (lkr rfl (lkr rfl (lkr rfl (lkr rfl (lkr rfl (lkr rfl (lkr rfl (lkr rfl (lkr rfl (lkr rfl (lkr rfl (lkr rfl (lkr rfl (lkr rfl (lkr rfl (lkr rfl (lkr rfl (lkr rfl (lkr rfl (lkl h)))))))))))))))))))))
theorem lk21 (j : Nat) {q : Nat × Instr × Nat} (h : lr21[j]? = some q) : mL.2.2.2.2.2[13 + (12 + (57 + (17 + (27 + (45 + (45 + (37 + (37 + (17 + (27 + (27 + (27 + (27 + (38 + (37 + (27 + (17 + (17 + (17 + (17 + (j)))))))))))))))))))))]? = some q := (lkr rfl (lkr rfl (lkr rfl (lkr rfl (lkr rfl (lkr rfl (lkr rfl (lkr rfl (lkr rfl (lkr rfl (lkr rfl (lkr rfl (lkr rfl (lkr rfl (lkr rfl (lkr rfl (lkr rfl (lkr rfl (lkr rfl (lkr rfl (lkr rfl (lkl h))))))))))))))))))))))
theorem lk22 (j : Nat) {q : Nat × Instr × Nat} (h : lr22[j]? = some q) : mL.2.2.2.2.2[13 + (12 + (57 + (17 + (27 + (45 + (45 + (37 + (37 + (17 + (27 + (27 + (27 + (27 + (38 + (37 + (27 + (17 + (17 + (17 + (17 + (27 + (j))))))))))))))))))))))]? = some q := (lkr rfl (lkr rfl (lkr rfl (lkr rfl (lkr rfl (lkr rfl (lkr rfl (lkr rfl (lkr rfl (lkr rfl (lkr rfl (lkr rfl (lkr rfl (lkr rfl (lkr rfl (lkr rfl (lkr rfl (lkr rfl (lkr rfl (lkr rfl (lkr rfl (lkr rfl (lkl h)))))))))))))))))))))))
theorem lk23 (j : Nat) {q : Nat × Instr × Nat} (h : lr23[j]? = some q) : mL.2.2.2.2.2[13 + (12 + (57 + (17 + (27 + (45 + (45 + (37 + (37 + (17 + (27 + (27 + (27 + (27 + (38 + (37 + (27 + (17 + (17 + (17 + (17 + (27 + (35 + (j)))))))))))))))))))))))]? = some q := (lkr rfl (lkr rfl (lkr rfl (lkr rfl (lkr rfl (lkr rfl (lkr rfl (lkr rfl (lkr rfl (lkr rfl (lkr rfl (lkr rfl (lkr rfl (lkr rfl (lkr rfl (lkr rfl (lkr rfl (lkr rfl (lkr rfl (lkr rfl (lkr rfl (lkr rfl (lkr rfl (lkl h))))))))))))))))))))))))
theorem lk24 (j : Nat) {q : Nat × Instr × Nat} (h : lr24[j]? = some q) : mL.2.2.2.2.2[13 + (12 + (57 + (17 + (27 + (45 + (45 + (37 + (37 + (17 + (27 + (27 + (27 + (27 + (38 + (37 + (27 + (17 + (17 + (17 + (17 + (27 + (35 + (7 + (j))))))))))))))))))))))))]? = some q := (lkr rfl (lkr rfl (lkr rfl (lkr rfl (lkr rfl (lkr rfl (lkr rfl (lkr rfl (lkr rfl (lkr rfl (lkr rfl (lkr rfl (lkr rfl (lkr rfl (lkr rfl (lkr rfl (lkr rfl (lkr rfl (lkr rfl (lkr rfl (lkr rfl (lkr rfl (lkr rfl (lkr rfl (lkl h)))))))))))))))))))))))))
theorem lk25 (j : Nat) {q : Nat × Instr × Nat} (h : lr25[j]? = some q) : mL.2.2.2.2.2[13 + (12 + (57 + (17 + (27 + (45 + (45 + (37 + (37 + (17 + (27 + (27 + (27 + (27 + (38 + (37 + (27 + (17 + (17 + (17 + (17 + (27 + (35 + (7 + (17 + (j)))))))))))))))))))))))))]? = some q := (lkr rfl (lkr rfl (lkr rfl (lkr rfl (lkr rfl (lkr rfl (lkr rfl (lkr rfl (lkr rfl (lkr rfl (lkr rfl (lkr rfl (lkr rfl (lkr rfl (lkr rfl (lkr rfl (lkr rfl (lkr rfl (lkr rfl (lkr rfl (lkr rfl (lkr rfl (lkr rfl (lkr rfl (lkr rfl (lkl h))))))))))))))))))))))))))
theorem lk26 (j : Nat) {q : Nat × Instr × Nat} (h : lr26[j]? = some q) : mL.2.2.2.2.2[13 + (12 + (57 + (17 + (27 + (45 + (45 + (37 + (37 + (17 + (27 + (27 + (27 + (27 + (38 + (37 + (27 + (17 + (17 + (17 + (17 + (27 + (35 + (7 + (17 + (8 + (j))))))))))))))))))))))))))]? = some q := (lkr rfl (lkr rfl (lkr rfl (lkr rfl (lkr rfl (lkr rfl (lkr rfl (lkr rfl (lkr rfl (lkr rfl (lkr rfl (lkr rfl (lkr rfl (lkr rfl (lkr rfl (lkr rfl (lkr rfl (lkr rfl (lkr rfl (lkr rfl (lkr rfl (lkr rfl (lkr rfl (lkr rfl (lkr rfl (lkr rfl (lkl h)))))))))))))))))))))))))))
theorem lk27 (j : Nat) {q : Nat × Instr × Nat} (h : lr27[j]? = some q) : mL.2.2.2.2.2[13 + (12 + (57 + (17 + (27 + (45 + (45 + (37 + (37 + (17 + (27 + (27 + (27 + (27 + (38 + (37 + (27 + (17 + (17 + (17 + (17 + (27 + (35 + (7 + (17 + (8 + (7 + (j)))))))))))))))))))))))))))]? = some q := (lkr rfl (lkr rfl (lkr rfl (lkr rfl (lkr rfl (lkr rfl (lkr rfl (lkr rfl (lkr rfl (lkr rfl (lkr rfl (lkr rfl (lkr rfl (lkr rfl (lkr rfl (lkr rfl (lkr rfl (lkr rfl (lkr rfl (lkr rfl (lkr rfl (lkr rfl (lkr rfl (lkr rfl (lkr rfl (lkr rfl (lkr rfl (lkl h))))))))))))))))))))))))))))
theorem lk28 (j : Nat) {q : Nat × Instr × Nat} (h : lr28[j]? = some q) : mL.2.2.2.2.2[13 + (12 + (57 + (17 + (27 + (45 + (45 + (37 + (37 + (17 + (27 + (27 + (27 + (27 + (38 + (37 + (27 + (17 + (17 + (17 + (17 + (27 + (35 + (7 + (17 + (8 + (7 + (7 + (j))))))))))))))))))))))))))))]? = some q := (lkr rfl (lkr rfl (lkr rfl (lkr rfl (lkr rfl (lkr rfl (lkr rfl (lkr rfl (lkr rfl (lkr rfl (lkr rfl (lkr rfl (lkr rfl (lkr rfl (lkr rfl (lkr rfl (lkr rfl (lkr rfl (lkr rfl (lkr rfl (lkr rfl (lkr rfl (lkr rfl (lkr rfl (lkr rfl (lkr rfl (lkr rfl (lkr rfl (lkl h)))))))))))))))))))))))))))))
theorem lk29 (j : Nat) {q : Nat × Instr × Nat} (h : lr29[j]? = some q) : mL.2.2.2.2.2[13 + (12 + (57 + (17 + (27 + (45 + (45 + (37 + (37 + (17 + (27 + (27 + (27 + (27 + (38 + (37 + (27 + (17 + (17 + (17 + (17 + (27 + (35 + (7 + (17 + (8 + (7 + (7 + (35 + (j)))))))))))))))))))))))))))))]? = some q := (lkr rfl (lkr rfl (lkr rfl (lkr rfl (lkr rfl (lkr rfl (lkr rfl (lkr rfl (lkr rfl (lkr rfl (lkr rfl (lkr rfl (lkr rfl (lkr rfl (lkr rfl (lkr rfl (lkr rfl (lkr rfl (lkr rfl (lkr rfl (lkr rfl (lkr rfl (lkr rfl (lkr rfl (lkr rfl (lkr rfl (lkr rfl (lkr rfl (lkr rfl (lkl h))))))))))))))))))))))))))))))
theorem lk30 (j : Nat) {q : Nat × Instr × Nat} (h : lr30[j]? = some q) : mL.2.2.2.2.2[13 + (12 + (57 + (17 + (27 + (45 + (45 + (37 + (37 + (17 + (27 + (27 + (27 + (27 + (38 + (37 + (27 + (17 + (17 + (17 + (17 + (27 + (35 + (7 + (17 + (8 + (7 + (7 + (35 + (17 + (j))))))))))))))))))))))))))))))]? = some q := (lkr rfl (lkr rfl (lkr rfl (lkr rfl (lkr rfl (lkr rfl (lkr rfl (lkr rfl (lkr rfl (lkr rfl (lkr rfl (lkr rfl (lkr rfl (lkr rfl (lkr rfl (lkr rfl (lkr rfl (lkr rfl (lkr rfl (lkr rfl (lkr rfl (lkr rfl (lkr rfl (lkr rfl (lkr rfl (lkr rfl (lkr rfl (lkr rfl (lkr rfl (lkr rfl h))))))))))))))))))))))))))))))
theorem cvL_26 : CV "SisterCourtsLaw" 26 mX11_feed 11 5 := ⟨mkX11_feed, ⟨TX11, _, rfl⟩, tb_mem 470 (by decide +kernel) (by decide +kernel), tb_mem 471 (by decide +kernel) (by decide +kernel), tb_mem 472 (by decide +kernel) (by decide +kernel), (by decide +kernel)⟩
theorem cvL_31 : CV "SisterCourtsLaw" 31 mX11_courts 11 1 := ⟨mkX11_courts, ⟨TX11, _, rfl⟩, tb_mem 478 (by decide +kernel) (by decide +kernel), tb_mem 479 (by decide +kernel) (by decide +kernel), tb_mem 480 (by decide +kernel) (by decide +kernel), (by decide +kernel)⟩
theorem cvL_35 : CV "SisterCourtsLaw" 35 mX11_travel 11 2 := ⟨mkX11_travel, ⟨TX11, _, rfl⟩, tb_mem 651 (by decide +kernel) (by decide +kernel), tb_mem 652 (by decide +kernel) (by decide +kernel), tb_mem 653 (by decide +kernel) (by decide +kernel), (by decide +kernel)⟩
theorem cvL_52 : CV "SisterCourtsLaw" 52 mX11_why 11 3 := ⟨mkX11_why, ⟨TX11, _, rfl⟩, tb_mem 660 (by decide +kernel) (by decide +kernel), tb_mem 661 (by decide +kernel) (by decide +kernel), tb_mem 662 (by decide +kernel) (by decide +kernel), (by decide +kernel)⟩
theorem cvL_57 : CV "SisterCourtsLaw" 57 mX11_set 11 3 := ⟨mkX11_set, ⟨TX11, _, rfl⟩, tb_mem 699 (by decide +kernel) (by decide +kernel), tb_mem 700 (by decide +kernel) (by decide +kernel), tb_mem 701 (by decide +kernel) (by decide +kernel), (by decide +kernel)⟩
theorem cvL_62 : CV "SisterCourtsLaw" 62 mX11_clear 11 1 := ⟨mkX11_clear, ⟨TX11, _, rfl⟩, tb_mem 717 (by decide +kernel) (by decide +kernel), tb_mem 718 (by decide +kernel) (by decide +kernel), tb_mem 719 (by decide +kernel) (by decide +kernel), (by decide +kernel)⟩
theorem cvL_66 : CV "SisterCourtsLaw" 66 mX11_sits 11 2 := ⟨mkX11_sits, ⟨TX11, _, rfl⟩, tb_mem 723 (by decide +kernel) (by decide +kernel), tb_mem 724 (by decide +kernel) (by decide +kernel), tb_mem 725 (by decide +kernel) (by decide +kernel), (by decide +kernel)⟩
theorem cvL_70 : CV "SisterCourtsLaw" 70 mX11_minutes 11 2 := ⟨mkX11_minutes, ⟨TX11, _, rfl⟩, tb_mem 731 (by decide +kernel) (by decide +kernel), tb_mem 732 (by decide +kernel) (by decide +kernel), tb_mem 733 (by decide +kernel) (by decide +kernel), (by decide +kernel)⟩
theorem cvL_74 : CV "SisterCourtsLaw" 74 mX11_open 11 2 := ⟨mkX11_open, ⟨TX11, _, rfl⟩, tb_mem 736 (by decide +kernel) (by decide +kernel), tb_mem 737 (by decide +kernel) (by decide +kernel), tb_mem 738 (by decide +kernel) (by decide +kernel), (by decide +kernel)⟩
theorem cvL_78 : CV "SisterCourtsLaw" 78 mX11_go 11 2 := ⟨mkX11_go, ⟨TX11, _, rfl⟩, tb_mem 744 (by decide +kernel) (by decide +kernel), tb_mem 745 (by decide +kernel) (by decide +kernel), tb_mem 746 (by decide +kernel) (by decide +kernel), (by decide +kernel)⟩
theorem cvL_82 : CV "SisterCourtsLaw" 82 mX11_best 11 3 := ⟨mkX11_best, ⟨TX11, _, rfl⟩, tb_mem 770 (by decide +kernel) (by decide +kernel), tb_mem 771 (by decide +kernel) (by decide +kernel), tb_mem 772 (by decide +kernel) (by decide +kernel), (by decide +kernel)⟩
theorem cvL_87 : CV "SisterCourtsLaw" 87 mX11_bestOf 11 3 := ⟨mkX11_bestOf, ⟨TX11, _, rfl⟩, tb_mem 821 (by decide +kernel) (by decide +kernel), tb_mem 822 (by decide +kernel) (by decide +kernel), tb_mem 823 (by decide +kernel) (by decide +kernel), (by decide +kernel)⟩
theorem cvL_91 : CV "SisterCourtsLaw" 91 mX11_take 11 2 := ⟨mkX11_take, ⟨TX11, _, rfl⟩, tb_mem 825 (by decide +kernel) (by decide +kernel), tb_mem 826 (by decide +kernel) (by decide +kernel), tb_mem 827 (by decide +kernel) (by decide +kernel), (by decide +kernel)⟩
theorem cvL_95 : CV "SisterCourtsLaw" 95 mX11_load 11 1 := ⟨mkX11_load, ⟨TX11, _, rfl⟩, tb_mem 833 (by decide +kernel) (by decide +kernel), tb_mem 834 (by decide +kernel) (by decide +kernel), tb_mem 835 (by decide +kernel) (by decide +kernel), (by decide +kernel)⟩
theorem cvL_99 : CV "SisterCourtsLaw" 99 mX11_ranked 11 1 := ⟨mkX11_ranked, ⟨TX11, _, rfl⟩, tb_mem 838 (by decide +kernel) (by decide +kernel), tb_mem 839 (by decide +kernel) (by decide +kernel), tb_mem 840 (by decide +kernel) (by decide +kernel), (by decide +kernel)⟩
theorem cvL_103 : CV "SisterCourtsLaw" 103 mX11_fairer 11 1 := ⟨mkX11_fairer, ⟨TX11, _, rfl⟩, tb_mem 846 (by decide +kernel) (by decide +kernel), tb_mem 847 (by decide +kernel) (by decide +kernel), tb_mem 848 (by decide +kernel) (by decide +kernel), (by decide +kernel)⟩
theorem cvL_107 : CV "SisterCourtsLaw" 107 mX11_even 11 1 := ⟨mkX11_even, ⟨TX11, _, rfl⟩, tb_mem 873 (by decide +kernel) (by decide +kernel), tb_mem 874 (by decide +kernel) (by decide +kernel), tb_mem 875 (by decide +kernel) (by decide +kernel), (by decide +kernel)⟩
theorem cvL_111 : CV "SisterCourtsLaw" 111 mX11_lent 11 2 := ⟨mkX11_lent, ⟨TX11, _, rfl⟩, tb_mem 877 (by decide +kernel) (by decide +kernel), tb_mem 878 (by decide +kernel) (by decide +kernel), tb_mem 879 (by decide +kernel) (by decide +kernel), (by decide +kernel)⟩
theorem cvL_119 : CV "SisterCourtsLaw" 119 mX11_payments 11 0 := ⟨mkX11_payments, ⟨TX11, _, rfl⟩, tb_mem 886 (by decide +kernel) (by decide +kernel), tb_mem 887 (by decide +kernel) (by decide +kernel), tb_mem 888 (by decide +kernel) (by decide +kernel), (by decide +kernel)⟩
theorem cvL_123 : CV "SisterCourtsLaw" 123 mX11_share 11 1 := ⟨mkX11_share, ⟨TX11, _, rfl⟩, tb_mem 906 (by decide +kernel) (by decide +kernel), tb_mem 907 (by decide +kernel) (by decide +kernel), tb_mem 908 (by decide +kernel) (by decide +kernel), (by decide +kernel)⟩
theorem cvL_127 : CV "SisterCourtsLaw" 127 mX11_spread 11 0 := ⟨mkX11_spread, ⟨TX11, _, rfl⟩, tb_mem 920 (by decide +kernel) (by decide +kernel), tb_mem 921 (by decide +kernel) (by decide +kernel), tb_mem 922 (by decide +kernel) (by decide +kernel), (by decide +kernel)⟩
theorem cvL_132 : CV "SisterCourtsLaw" 132 mX11_waited 11 0 := ⟨mkX11_waited, ⟨TX11, _, rfl⟩, tb_mem 930 (by decide +kernel) (by decide +kernel), tb_mem 931 (by decide +kernel) (by decide +kernel), tb_mem 932 (by decide +kernel) (by decide +kernel), (by decide +kernel)⟩
theorem cvL_136 : CV "SisterCourtsLaw" 136 mX11_undo 11 0 := ⟨mkX11_undo, ⟨TX11, _, rfl⟩, tb_mem 943 (by decide +kernel) (by decide +kernel), tb_mem 944 (by decide +kernel) (by decide +kernel), tb_mem 945 (by decide +kernel) (by decide +kernel), (by decide +kernel)⟩
theorem cvL_140 : CV "SisterCourtsLaw" 140 mX11_keep 11 2 := ⟨mkX11_keep, ⟨TX11, _, rfl⟩, tb_mem 955 (by decide +kernel) (by decide +kernel), tb_mem 956 (by decide +kernel) (by decide +kernel), tb_mem 957 (by decide +kernel) (by decide +kernel), (by decide +kernel)⟩
theorem cvL_145 : CV "SisterCourtsLaw" 145 mX11_count 11 1 := ⟨mkX11_count, ⟨TX11, _, rfl⟩, tb_mem 967 (by decide +kernel) (by decide +kernel), tb_mem 968 (by decide +kernel) (by decide +kernel), tb_mem 969 (by decide +kernel) (by decide +kernel), (by decide +kernel)⟩
theorem cvL_7 : CV "SisterCourtsLaw" 7 mX11_judge 11 2 := ⟨mkX11_judge, ⟨TX11, _, rfl⟩, tb_mem 975 (by decide +kernel) (by decide +kernel), tb_mem 976 (by decide +kernel) (by decide +kernel), tb_mem 977 (by decide +kernel) (by decide +kernel), (by decide +kernel)⟩
theorem cvL_15 : CV "SisterCourtsLaw" 15 mX11_file 11 2 := ⟨mkX11_file, ⟨TX11, _, rfl⟩, tb_mem 1048 (by decide +kernel) (by decide +kernel), tb_mem 1049 (by decide +kernel) (by decide +kernel), tb_mem 1050 (by decide +kernel) (by decide +kernel), (by decide +kernel)⟩
theorem cvL_18 : CV "SisterCourtsLaw" 18 mX11_owed 11 1 := ⟨mkX11_owed, ⟨TX11, _, rfl⟩, tb_mem 1057 (by decide +kernel) (by decide +kernel), tb_mem 1058 (by decide +kernel) (by decide +kernel), tb_mem 1059 (by decide +kernel) (by decide +kernel), (by decide +kernel)⟩
theorem cvL_45 : CV "SisterCourtsLaw" 45 mX12_thrown 12 0 := ⟨mkX12_thrown, ⟨TX12, _, rfl⟩, tb_mem 1215 (by decide +kernel) (by decide +kernel), tb_mem 1216 (by decide +kernel) (by decide +kernel), tb_mem 1217 (by decide +kernel) (by decide +kernel), (by decide +kernel)⟩
theorem cvL_30 : CV "SisterCourtsLaw" 30 mX12_feed 12 5 := ⟨mkX12_feed, ⟨TX12, _, rfl⟩, tb_mem 1219 (by decide +kernel) (by decide +kernel), tb_mem 1220 (by decide +kernel) (by decide +kernel), tb_mem 1221 (by decide +kernel) (by decide +kernel), (by decide +kernel)⟩
theorem cvL_34 : CV "SisterCourtsLaw" 34 mX12_courts 12 1 := ⟨mkX12_courts, ⟨TX12, _, rfl⟩, tb_mem 1227 (by decide +kernel) (by decide +kernel), tb_mem 1228 (by decide +kernel) (by decide +kernel), tb_mem 1229 (by decide +kernel) (by decide +kernel), (by decide +kernel)⟩
theorem cvL_38 : CV "SisterCourtsLaw" 38 mX12_travel 12 2 := ⟨mkX12_travel, ⟨TX12, _, rfl⟩, tb_mem 1381 (by decide +kernel) (by decide +kernel), tb_mem 1382 (by decide +kernel) (by decide +kernel), tb_mem 1383 (by decide +kernel) (by decide +kernel), (by decide +kernel)⟩
theorem cvL_44 : CV "SisterCourtsLaw" 44 mX12_judge 12 2 := ⟨mkX12_judge, ⟨TX12, _, rfl⟩, tb_mem 1389 (by decide +kernel) (by decide +kernel), tb_mem 1390 (by decide +kernel) (by decide +kernel), tb_mem 1391 (by decide +kernel) (by decide +kernel), (by decide +kernel)⟩
theorem cvL_51 : CV "SisterCourtsLaw" 51 mX12_file 12 2 := ⟨mkX12_file, ⟨TX12, _, rfl⟩, tb_mem 1398 (by decide +kernel) (by decide +kernel), tb_mem 1399 (by decide +kernel) (by decide +kernel), tb_mem 1400 (by decide +kernel) (by decide +kernel), (by decide +kernel)⟩
theorem cvL_56 : CV "SisterCourtsLaw" 56 mX12_why 12 3 := ⟨mkX12_why, ⟨TX12, _, rfl⟩, tb_mem 1407 (by decide +kernel) (by decide +kernel), tb_mem 1408 (by decide +kernel) (by decide +kernel), tb_mem 1409 (by decide +kernel) (by decide +kernel), (by decide +kernel)⟩
theorem cvL_61 : CV "SisterCourtsLaw" 61 mX12_set 12 3 := ⟨mkX12_set, ⟨TX12, _, rfl⟩, tb_mem 1431 (by decide +kernel) (by decide +kernel), tb_mem 1432 (by decide +kernel) (by decide +kernel), tb_mem 1433 (by decide +kernel) (by decide +kernel), (by decide +kernel)⟩
theorem cvL_65 : CV "SisterCourtsLaw" 65 mX12_clear 12 1 := ⟨mkX12_clear, ⟨TX12, _, rfl⟩, tb_mem 1443 (by decide +kernel) (by decide +kernel), tb_mem 1444 (by decide +kernel) (by decide +kernel), tb_mem 1445 (by decide +kernel) (by decide +kernel), (by decide +kernel)⟩
theorem cvL_69 : CV "SisterCourtsLaw" 69 mX12_sits 12 2 := ⟨mkX12_sits, ⟨TX12, _, rfl⟩, tb_mem 1447 (by decide +kernel) (by decide +kernel), tb_mem 1448 (by decide +kernel) (by decide +kernel), tb_mem 1449 (by decide +kernel) (by decide +kernel), (by decide +kernel)⟩
theorem cvL_73 : CV "SisterCourtsLaw" 73 mX12_minutes 12 2 := ⟨mkX12_minutes, ⟨TX12, _, rfl⟩, tb_mem 1451 (by decide +kernel) (by decide +kernel), tb_mem 1452 (by decide +kernel) (by decide +kernel), tb_mem 1453 (by decide +kernel) (by decide +kernel), (by decide +kernel)⟩
theorem cvL_77 : CV "SisterCourtsLaw" 77 mX12_open 12 2 := ⟨mkX12_open, ⟨TX12, _, rfl⟩, tb_mem 1455 (by decide +kernel) (by decide +kernel), tb_mem 1456 (by decide +kernel) (by decide +kernel), tb_mem 1457 (by decide +kernel) (by decide +kernel), (by decide +kernel)⟩
theorem cvL_81 : CV "SisterCourtsLaw" 81 mX12_go 12 2 := ⟨mkX12_go, ⟨TX12, _, rfl⟩, tb_mem 1463 (by decide +kernel) (by decide +kernel), tb_mem 1464 (by decide +kernel) (by decide +kernel), tb_mem 1465 (by decide +kernel) (by decide +kernel), (by decide +kernel)⟩
theorem cvL_86 : CV "SisterCourtsLaw" 86 mX12_best 12 3 := ⟨mkX12_best, ⟨TX12, _, rfl⟩, tb_mem 1479 (by decide +kernel) (by decide +kernel), tb_mem 1480 (by decide +kernel) (by decide +kernel), tb_mem 1481 (by decide +kernel) (by decide +kernel), (by decide +kernel)⟩
theorem cvL_90 : CV "SisterCourtsLaw" 90 mX12_bestOf 12 3 := ⟨mkX12_bestOf, ⟨TX12, _, rfl⟩, tb_mem 1506 (by decide +kernel) (by decide +kernel), tb_mem 1507 (by decide +kernel) (by decide +kernel), tb_mem 1508 (by decide +kernel) (by decide +kernel), (by decide +kernel)⟩
theorem cvL_94 : CV "SisterCourtsLaw" 94 mX12_take 12 2 := ⟨mkX12_take, ⟨TX12, _, rfl⟩, tb_mem 1510 (by decide +kernel) (by decide +kernel), tb_mem 1511 (by decide +kernel) (by decide +kernel), tb_mem 1512 (by decide +kernel) (by decide +kernel), (by decide +kernel)⟩
theorem cvL_98 : CV "SisterCourtsLaw" 98 mX12_load 12 1 := ⟨mkX12_load, ⟨TX12, _, rfl⟩, tb_mem 1514 (by decide +kernel) (by decide +kernel), tb_mem 1515 (by decide +kernel) (by decide +kernel), tb_mem 1516 (by decide +kernel) (by decide +kernel), (by decide +kernel)⟩
theorem cvL_102 : CV "SisterCourtsLaw" 102 mX12_ranked 12 1 := ⟨mkX12_ranked, ⟨TX12, _, rfl⟩, tb_mem 1518 (by decide +kernel) (by decide +kernel), tb_mem 1519 (by decide +kernel) (by decide +kernel), tb_mem 1520 (by decide +kernel) (by decide +kernel), (by decide +kernel)⟩
theorem cvL_106 : CV "SisterCourtsLaw" 106 mX12_fairer 12 1 := ⟨mkX12_fairer, ⟨TX12, _, rfl⟩, tb_mem 1522 (by decide +kernel) (by decide +kernel), tb_mem 1523 (by decide +kernel) (by decide +kernel), tb_mem 1524 (by decide +kernel) (by decide +kernel), (by decide +kernel)⟩
theorem cvL_110 : CV "SisterCourtsLaw" 110 mX12_even 12 1 := ⟨mkX12_even, ⟨TX12, _, rfl⟩, tb_mem 1530 (by decide +kernel) (by decide +kernel), tb_mem 1531 (by decide +kernel) (by decide +kernel), tb_mem 1532 (by decide +kernel) (by decide +kernel), (by decide +kernel)⟩
theorem cvL_114 : CV "SisterCourtsLaw" 114 mX12_lent 12 2 := ⟨mkX12_lent, ⟨TX12, _, rfl⟩, tb_mem 1535 (by decide +kernel) (by decide +kernel), tb_mem 1536 (by decide +kernel) (by decide +kernel), tb_mem 1537 (by decide +kernel) (by decide +kernel), (by decide +kernel)⟩
theorem cvL_118 : CV "SisterCourtsLaw" 118 mX12_owed 12 1 := ⟨mkX12_owed, ⟨TX12, _, rfl⟩, tb_mem 1543 (by decide +kernel) (by decide +kernel), tb_mem 1544 (by decide +kernel) (by decide +kernel), tb_mem 1545 (by decide +kernel) (by decide +kernel), (by decide +kernel)⟩
theorem cvL_122 : CV "SisterCourtsLaw" 122 mX12_payments 12 0 := ⟨mkX12_payments, ⟨TX12, _, rfl⟩, tb_mem 1551 (by decide +kernel) (by decide +kernel), tb_mem 1552 (by decide +kernel) (by decide +kernel), tb_mem 1553 (by decide +kernel) (by decide +kernel), (by decide +kernel)⟩
theorem cvL_126 : CV "SisterCourtsLaw" 126 mX12_share 12 1 := ⟨mkX12_share, ⟨TX12, _, rfl⟩, tb_mem 1556 (by decide +kernel) (by decide +kernel), tb_mem 1557 (by decide +kernel) (by decide +kernel), tb_mem 1558 (by decide +kernel) (by decide +kernel), (by decide +kernel)⟩
theorem cvL_131 : CV "SisterCourtsLaw" 131 mX12_spread 12 0 := ⟨mkX12_spread, ⟨TX12, _, rfl⟩, tb_mem 1576 (by decide +kernel) (by decide +kernel), tb_mem 1577 (by decide +kernel) (by decide +kernel), tb_mem 1578 (by decide +kernel) (by decide +kernel), (by decide +kernel)⟩
theorem cvL_135 : CV "SisterCourtsLaw" 135 mX12_waited 12 0 := ⟨mkX12_waited, ⟨TX12, _, rfl⟩, tb_mem 1591 (by decide +kernel) (by decide +kernel), tb_mem 1592 (by decide +kernel) (by decide +kernel), tb_mem 1593 (by decide +kernel) (by decide +kernel), (by decide +kernel)⟩
theorem cvL_139 : CV "SisterCourtsLaw" 139 mX12_undo 12 0 := ⟨mkX12_undo, ⟨TX12, _, rfl⟩, tb_mem 1596 (by decide +kernel) (by decide +kernel), tb_mem 1597 (by decide +kernel) (by decide +kernel), tb_mem 1598 (by decide +kernel) (by decide +kernel), (by decide +kernel)⟩
theorem cvL_144 : CV "SisterCourtsLaw" 144 mX12_keep 12 2 := ⟨mkX12_keep, ⟨TX12, _, rfl⟩, tb_mem 1600 (by decide +kernel) (by decide +kernel), tb_mem 1601 (by decide +kernel) (by decide +kernel), tb_mem 1602 (by decide +kernel) (by decide +kernel), (by decide +kernel)⟩
theorem cvL_148 : CV "SisterCourtsLaw" 148 mX12_count 12 1 := ⟨mkX12_count, ⟨TX12, _, rfl⟩, tb_mem 1604 (by decide +kernel) (by decide +kernel), tb_mem 1605 (by decide +kernel) (by decide +kernel), tb_mem 1606 (by decide +kernel) (by decide +kernel), (by decide +kernel)⟩
def AL : State → Nat → Prop := fun s q => s.heap.size ≤ q
def XL (b L : Nat) (xs : Nat → Int32) : UX := (room_1, fun below args s => lw_Z below args s, AL, fun _ _ s _ args _ meth _ => args = #[Value.ref b] ∧ va_X b L xs s s.heap ∧ b < s.heap.size ∧ meth.sig.returnType = ret)
theorem kzL (G : Gt) : Kz G AL := fun s U H locs hK hw hS => hK.warm hw (fun a ha _ => hS.2.1 a ha (Nat.not_le.mpr ha))
section LRules
variable {G : Gt} {b L : Nat} {xs : Nat → Int32} {nc ns d : Nat} {pc : Nat} {ls : List (Option Value)} {st : List Value} {M : Mem}
theorem u_sld {z : Nat} (hG : ga G 140 = b) (i : Nat) (hd : mL.2.2.2.2.2[i]? = some (pc, .iaload, 1)) (hz : z < L ∧ L ≤ 3072) (n : U G (XL b L xs) nc ns mL (pc + 1) ls (.int (J (xs z).toInt) :: st) M) : U G (XL b L xs) nc ns mL pc ls (.int (J (z : Int)) :: .ref 140 :: st) M := by
  intro p e s m args below meth c C E9 F9 H locs hW hS lsR hl
  obtain ⟨hx, hb, hml, hr, hlk, hown, hts, hK, hdc⟩ := id C
  have hdg := hdc _ (List.mem_of_getElem? hd)
  obtain ⟨rfl, hX, hbl, hrt⟩ := id E9
  have n9 := n p e s m _ below meth c C E9 F9 H locs hW hS lsR hl
  have ez : (J (z : Int)).toNatClampNeg = z := by rw [J_clamp (by omega)]; rfl
  show W p (gl G) e room_1 s m _ below meth c H locs nc ns _ (F0 m pc lsR (.int (J (z : Int)) :: .ref (ga G 140) :: st.map (rv (ga G))))
  rw [hG]
  have n8 : W p (gl G) e room_1 s m _ below meth c H locs nc ns _ (F0 m (pc + 1) lsR (.int (J (xs z).toInt) :: st.map (rv (ga G)))) := n9
  rw [J_of] at n8
  refine va_sld hx hb hX hbl (A := AL s) (Nat.not_le.mpr hbl) hS (J_in (by omega)) hdg ?_
  rw [ez]
  exact n8
theorem u_slen (hG : ga G 140 = b) (i : Nat) (hd : mL.2.2.2.2.2[i]? = some (pc, .arraylength, 1)) (n : U G (XL b L xs) nc ns mL (pc + 1) ls (.int (J (L : Int)) :: st) M) : U G (XL b L xs) nc ns mL pc ls (.ref 140 :: st) M := by
  intro p e s m args below meth c C E9 F9 H locs hW hS lsR hl
  obtain ⟨hx, hb, hml, hr, hlk, hown, hts, hK, hdc⟩ := id C
  have hdg := hdc _ (List.mem_of_getElem? hd)
  obtain ⟨rfl, hX, hbl, hrt⟩ := id E9
  have n9 := n p e s m _ below meth c C E9 F9 H locs hW hS lsR hl
  show W p (gl G) e room_1 s m _ below meth c H locs nc ns _ (F0 m pc lsR (.ref (ga G 140) :: st.map (rv (ga G))))
  rw [hG]
  have n8 : W p (gl G) e room_1 s m _ below meth c H locs nc ns _ (F0 m (pc + 1) lsR (.int (J (L : Int)) :: st.map (rv (ga G)))) := n9
  rw [J_nat] at n8
  exact va_slen hx hb hX hbl (A := AL s) (Nat.not_le.mpr hbl) hS hdg n8
theorem u_icEq {X : UX} {k : Mth} {y : Int32} {off : Int} (i tgt : Nat) (hd : k.2.2.2.2.2[i]? = some (pc, .if_icmp .eq off, 3)) (ht : (pc : Int) + off = (tgt : Int)) (n : U G X nc ns k tgt ls st M) : U G X nc ns k pc ls (.int y :: .int y :: st) M := by
  intro p e s m args below meth c C E9 F9 H locs hW hS lsR hl
  obtain ⟨hx, hb, hml, hr, hlk, hown, hts, hK, hdc⟩ := id C
  have hdg := hdc _ (List.mem_of_getElem? hd)
  have n9 := n p e s m args below meth c C E9 F9 H locs hW hS lsR hl
  exact lv_icmp_eq hx hb hdg ht (fun _ => n9) (fun h => absurd rfl h)
theorem u_lcEq {X : UX} {k : Mth} {y : Int64} (i : Nat) (hd : k.2.2.2.2.2[i]? = some (pc, .lcmp, 1)) (n : U G X nc ns k (pc + 1) ls (.int (J 0) :: st) M) : U G X nc ns k pc ls (.long y :: .long y :: st) M := by
  intro p e s m args below meth c C E9 F9 H locs hW hS lsR hl
  obtain ⟨hx, hb, hml, hr, hlk, hown, hts, hK, hdc⟩ := id C
  have hdg := hdc _ (List.mem_of_getElem? hd)
  have n9 := n p e s m args below meth c C E9 F9 H locs hW hS lsR hl
  have e9 : lg_cmp y y = J 0 := by
    unfold lg_cmp
    simp
    try decide
  rw [← e9] at n9
  exact W.lcmp hx hb hdg n9
/-- the law's end -/
theorem u_end (i : Nat) (hd : mL.2.2.2.2.2[i]? = some (pc, .ireturn, 1)) (h1 : nc ≤ 601024) (h2 : ns ≤ 7293034) : U G (XL b L xs) nc ns mL pc ls [.int (J 1)] M := by
  intro p e s m args below meth c C E9 F9 H locs hW hS lsR hl
  obtain ⟨hx, hb, hml, hr, hlk, hown, hts, hK, hdc⟩ := id C
  have hdg := hdc _ (List.mem_of_getElem? hd)
  obtain ⟨rfl, hX, hbl, hrt⟩ := id E9
  refine va_forget (fun q hq => hS.2.2 q hq) ?_
  refine W.widen h1 h2 ?_
  have hd0 := Drawn.sameBut.refl s.drawn lw_cs
  refine W.base ?_
  exact lw_ret hd0 hx hb hrt hlk hdg
end LRules
