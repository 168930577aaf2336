section
variable {l : Launch} {G : gp_G} {d : Nat} {w : Nat → Nat → Int32} {u : Int64 × (Nat → Int64)} {q : Nat → Nat} {K : Option Value → gp_H → Prop}
/-! ===== the law's cases: written by wip/whole/gen/gen7.py ===== -/
def tl_b : List (Nat × Instr × Nat) := [(0, .new 7, 3), (3, .dup, 1), (4, .invokespecial 9, 3), (7, .astore_n 1, 1), (8, .new 10, 3), (11, .dup, 1), (12, .invokespecial 12, 3), (15, .astore_n 2, 1), (16, .iconst 0, 1), (17, .istore_n 3, 1)]
theorem otl_b : tl_b.all (fun q => decide (decode code q.1 = .ok q.2)) = true := by decide +kernel
def tl_h : List (Nat × Instr × Nat) := [(18, .iload_n 3, 1), (19, .aload_n 0, 1), (20, .arraylength, 1), (21, .bipush 6, 2), (23, .isub, 1), (24, .if_icmp .gt 1150, 3), (27, .aload_n 0, 1), (28, .iload_n 3, 1), (29, .iaload, 1), (30, .bipush 31, 2), (32, .iand, 1), (33, .tableswitch 1135 0 29 #[135, 198, 241, 274, 297, 330, 353, 416, 439, 462, 485, 518, 551, 584, 617, 650, 683, 726, 779, 822, 855, 878, 911, 944, 987, 1010, 1043, 1066, 1089, 1112], 135)]
theorem otl_h : tl_h.all (fun q => decide (decode code q.1 = .ok q.2)) = true := by decide +kernel
def tl_n : List (Nat × Instr × Nat) := [(1168, .iinc 3 6, 3), (1171, .goto (-1153), 3)]
theorem otl_n : tl_n.all (fun q => decide (decode code q.1 = .ok q.2)) = true := by decide +kernel
def tl_e : List (Nat × Instr × Nat) := [(1174, .iconst 1, 1), (1175, .ireturn, 1)]
theorem otl_e : tl_e.all (fun q => decide (decode code q.1 = .ok q.2)) = true := by decide +kernel
def tl_0 : List (Nat × Instr × Nat) := [(168, .aload_n 1, 1), (169, .aload_n 0, 1), (170, .iload_n 3, 1), (171, .iconst 1, 1), (172, .iadd, 1), (173, .iaload, 1), (174, .aload_n 0, 1), (175, .iload_n 3, 1), (176, .iconst 2, 1), (177, .iadd, 1), (178, .iaload, 1), (179, .aload_n 0, 1), (180, .iload_n 3, 1), (181, .iconst 3, 1), (182, .iadd, 1), (183, .iaload, 1), (184, .aload_n 0, 1), (185, .iload_n 3, 1), (186, .iconst 4, 1), (187, .iadd, 1), (188, .iaload, 1), (189, .aload_n 0, 1), (190, .iload_n 3, 1), (191, .iconst 5, 1), (192, .iadd, 1), (193, .iaload, 1), (194, .invokevirtual 13, 3), (197, .aload_n 2, 1), (198, .aload_n 0, 1), (199, .iload_n 3, 1), (200, .iconst 1, 1), (201, .iadd, 1), (202, .iaload, 1), (203, .aload_n 0, 1), (204, .iload_n 3, 1), (205, .iconst 2, 1), (206, .iadd, 1), (207, .iaload, 1), (208, .aload_n 0, 1), (209, .iload_n 3, 1), (210, .iconst 3, 1), (211, .iadd, 1), (212, .iaload, 1), (213, .aload_n 0, 1), (214, .iload_n 3, 1), (215, .iconst 4, 1), (216, .iadd, 1), (217, .iaload, 1), (218, .aload_n 0, 1), (219, .iload_n 3, 1), (220, .iconst 5, 1), (221, .iadd, 1), (222, .iaload, 1), (223, .invokevirtual 17, 3), (226, .if_icmp .eq 942, 3), (229, .iconst 0, 1), (230, .ireturn, 1)]
theorem otl_0 : tl_0.all (fun q => decide (decode code q.1 = .ok q.2)) = true := by decide +kernel
set_option maxRecDepth 100000 in
theorem lc_0 {b L i : Nat} {xs : Nat → Int32} (hi : i + 6 ≤ L) (hL : L ≤ 3072) (I : gI w u q) (nx : ∀ w u q, gI w u q → gl_Go l G b L xs 1168 [some (.retAddr 3000), some (.ref 0), some (.ref 95), some (.int (nI i))] [] (gv w u q) 141 18742) : gl_Go l G b L xs 168 [some (.retAddr 3000), some (.ref 0), some (.ref 95), some (.int (nI i))] [] (gv w u q) 141 18742 := by
  repeat refine gl_gc otl_0 rfl ?_
  refine And.intro (gl_ix hi hL (by decide)) ?_
  repeat refine gl_gc otl_0 rfl ?_
  refine And.intro (gl_ix hi hL (by decide)) ?_
  repeat refine gl_gc otl_0 rfl ?_
  refine And.intro (gl_ix hi hL (by decide)) ?_
  repeat refine gl_gc otl_0 rfl ?_
  refine And.intro (gl_ix hi hL (by decide)) ?_
  repeat refine gl_gc otl_0 rfl ?_
  refine And.intro (gl_ix hi hL (by decide)) ?_
  repeat refine gl_gc otl_0 rfl ?_
  refine gp_Cal.mono (st_mark (d := 40) I) ?_
  intro r V hh
  obtain ⟨a, er, h2⟩ := hh
  have e1 : r = some (.int a) := congrArg Prod.fst er
  have e2 : gl_c V 95 = some 12 := congrArg Prod.snd er
  subst e1
  repeat refine gl_gc otl_0 rfl ?_
  refine And.intro (gl_ix hi hL (by decide)) ?_
  repeat refine gl_gc otl_0 rfl ?_
  refine And.intro (gl_ix hi hL (by decide)) ?_
  repeat refine gl_gc otl_0 rfl ?_
  refine And.intro (gl_ix hi hL (by decide)) ?_
  repeat refine gl_gc otl_0 rfl ?_
  refine And.intro (gl_ix hi hL (by decide)) ?_
  repeat refine gl_gc otl_0 rfl ?_
  refine And.intro (gl_ix hi hL (by decide)) ?_
  repeat refine gl_gc otl_0 rfl ?_
  refine gl_inv e2 rfl rfl rfl rfl rfl ?_
  refine gp_Cal.mono h2 ?_
  rintro r' V' ⟨rfl, w', u', q', rfl, I'⟩
  repeat refine gl_gc otl_0 rfl ?_
  exact And.intro (fun _ => nx w' u' q' I') (fun c => absurd rfl c)
def tl_1 : List (Nat × Instr × Nat) := [(231, .aload_n 1, 1), (232, .aload_n 0, 1), (233, .iload_n 3, 1), (234, .iconst 1, 1), (235, .iadd, 1), (236, .iaload, 1), (237, .aload_n 0, 1), (238, .iload_n 3, 1), (239, .iconst 2, 1), (240, .iadd, 1), (241, .iaload, 1), (242, .aload_n 0, 1), (243, .iload_n 3, 1), (244, .iconst 3, 1), (245, .iadd, 1), (246, .iaload, 1), (247, .invokevirtual 18, 3), (250, .aload_n 2, 1), (251, .aload_n 0, 1), (252, .iload_n 3, 1), (253, .iconst 1, 1), (254, .iadd, 1), (255, .iaload, 1), (256, .aload_n 0, 1), (257, .iload_n 3, 1), (258, .iconst 2, 1), (259, .iadd, 1), (260, .iaload, 1), (261, .aload_n 0, 1), (262, .iload_n 3, 1), (263, .iconst 3, 1), (264, .iadd, 1), (265, .iaload, 1), (266, .invokevirtual 22, 3), (269, .if_icmp .eq 899, 3), (272, .iconst 0, 1), (273, .ireturn, 1)]
theorem otl_1 : tl_1.all (fun q => decide (decode code q.1 = .ok q.2)) = true := by decide +kernel
set_option maxRecDepth 100000 in
theorem lc_1 {b L i : Nat} {xs : Nat → Int32} (hi : i + 6 ≤ L) (hL : L ≤ 3072) (I : gI w u q) (nx : ∀ w u q, gI w u q → gl_Go l G b L xs 1168 [some (.retAddr 3000), some (.ref 0), some (.ref 95), some (.int (nI i))] [] (gv w u q) 141 18742) : gl_Go l G b L xs 231 [some (.retAddr 3000), some (.ref 0), some (.ref 95), some (.int (nI i))] [] (gv w u q) 141 18742 := by
  repeat refine gl_gc otl_1 rfl ?_
  refine And.intro (gl_ix hi hL (by decide)) ?_
  repeat refine gl_gc otl_1 rfl ?_
  refine And.intro (gl_ix hi hL (by decide)) ?_
  repeat refine gl_gc otl_1 rfl ?_
  refine And.intro (gl_ix hi hL (by decide)) ?_
  repeat refine gl_gc otl_1 rfl ?_
  refine gp_Cal.mono (st_tell (d := 40) I) ?_
  intro r V hh
  obtain ⟨a, er, h2⟩ := hh
  have e1 : r = some (.int a) := congrArg Prod.fst er
  have e2 : gl_c V 95 = some 12 := congrArg Prod.snd er
  subst e1
  repeat refine gl_gc otl_1 rfl ?_
  refine And.intro (gl_ix hi hL (by decide)) ?_
  repeat refine gl_gc otl_1 rfl ?_
  refine And.intro (gl_ix hi hL (by decide)) ?_
  repeat refine gl_gc otl_1 rfl ?_
  refine And.intro (gl_ix hi hL (by decide)) ?_
  repeat refine gl_gc otl_1 rfl ?_
  refine gl_inv e2 rfl rfl rfl rfl rfl ?_
  refine gp_Cal.mono h2 ?_
  rintro r' V' ⟨rfl, w', u', q', rfl, I'⟩
  repeat refine gl_gc otl_1 rfl ?_
  exact And.intro (fun _ => nx w' u' q' I') (fun c => absurd rfl c)
def tl_2 : List (Nat × Instr × Nat) := [(274, .aload_n 1, 1), (275, .aload_n 0, 1), (276, .iload_n 3, 1), (277, .iconst 1, 1), (278, .iadd, 1), (279, .iaload, 1), (280, .aload_n 0, 1), (281, .iload_n 3, 1), (282, .iconst 2, 1), (283, .iadd, 1), (284, .iaload, 1), (285, .invokevirtual 23, 3), (288, .aload_n 2, 1), (289, .aload_n 0, 1), (290, .iload_n 3, 1), (291, .iconst 1, 1), (292, .iadd, 1), (293, .iaload, 1), (294, .aload_n 0, 1), (295, .iload_n 3, 1), (296, .iconst 2, 1), (297, .iadd, 1), (298, .iaload, 1), (299, .invokevirtual 27, 3), (302, .if_icmp .eq 866, 3), (305, .iconst 0, 1), (306, .ireturn, 1)]
theorem otl_2 : tl_2.all (fun q => decide (decode code q.1 = .ok q.2)) = true := by decide +kernel
set_option maxRecDepth 100000 in
theorem lc_2 {b L i : Nat} {xs : Nat → Int32} (hi : i + 6 ≤ L) (hL : L ≤ 3072) (I : gI w u q) (nx : ∀ w u q, gI w u q → gl_Go l G b L xs 1168 [some (.retAddr 3000), some (.ref 0), some (.ref 95), some (.int (nI i))] [] (gv w u q) 141 18742) : gl_Go l G b L xs 274 [some (.retAddr 3000), some (.ref 0), some (.ref 95), some (.int (nI i))] [] (gv w u q) 141 18742 := by
  repeat refine gl_gc otl_2 rfl ?_
  refine And.intro (gl_ix hi hL (by decide)) ?_
  repeat refine gl_gc otl_2 rfl ?_
  refine And.intro (gl_ix hi hL (by decide)) ?_
  repeat refine gl_gc otl_2 rfl ?_
  refine gp_Cal.mono (st_hard (d := 40) I) ?_
  intro r V hh
  obtain ⟨a, er, h2⟩ := hh
  have e1 : r = some (.int a) := congrArg Prod.fst er
  have e2 : gl_c V 95 = some 12 := congrArg Prod.snd er
  subst e1
  repeat refine gl_gc otl_2 rfl ?_
  refine And.intro (gl_ix hi hL (by decide)) ?_
  repeat refine gl_gc otl_2 rfl ?_
  refine And.intro (gl_ix hi hL (by decide)) ?_
  repeat refine gl_gc otl_2 rfl ?_
  refine gl_inv e2 rfl rfl rfl rfl rfl ?_
  refine gp_Cal.mono h2 ?_
  rintro r' V' ⟨rfl, w', u', q', rfl, I'⟩
  repeat refine gl_gc otl_2 rfl ?_
  exact And.intro (fun _ => nx w' u' q' I') (fun c => absurd rfl c)
def tl_3 : List (Nat × Instr × Nat) := [(307, .aload_n 1, 1), (308, .aload_n 0, 1), (309, .iload_n 3, 1), (310, .iconst 1, 1), (311, .iadd, 1), (312, .iaload, 1), (313, .invokevirtual 28, 3), (316, .aload_n 2, 1), (317, .aload_n 0, 1), (318, .iload_n 3, 1), (319, .iconst 1, 1), (320, .iadd, 1), (321, .iaload, 1), (322, .invokevirtual 32, 3), (325, .if_icmp .eq 843, 3), (328, .iconst 0, 1), (329, .ireturn, 1)]
theorem otl_3 : tl_3.all (fun q => decide (decode code q.1 = .ok q.2)) = true := by decide +kernel
set_option maxRecDepth 100000 in
theorem lc_3 {b L i : Nat} {xs : Nat → Int32} (hi : i + 6 ≤ L) (hL : L ≤ 3072) (I : gI w u q) (nx : ∀ w u q, gI w u q → gl_Go l G b L xs 1168 [some (.retAddr 3000), some (.ref 0), some (.ref 95), some (.int (nI i))] [] (gv w u q) 141 18742) : gl_Go l G b L xs 307 [some (.retAddr 3000), some (.ref 0), some (.ref 95), some (.int (nI i))] [] (gv w u q) 141 18742 := by
  repeat refine gl_gc otl_3 rfl ?_
  refine And.intro (gl_ix hi hL (by decide)) ?_
  repeat refine gl_gc otl_3 rfl ?_
  refine gp_Cal.mono (st_year (d := 40) I) ?_
  intro r V hh
  obtain ⟨a, er, h2⟩ := hh
  have e1 : r = some (.int a) := congrArg Prod.fst er
  have e2 : gl_c V 95 = some 12 := congrArg Prod.snd er
  subst e1
  repeat refine gl_gc otl_3 rfl ?_
  refine And.intro (gl_ix hi hL (by decide)) ?_
  repeat refine gl_gc otl_3 rfl ?_
  refine gl_inv e2 rfl rfl rfl rfl rfl ?_
  refine gp_Cal.mono h2 ?_
  rintro r' V' ⟨rfl, w', u', q', rfl, I'⟩
  repeat refine gl_gc otl_3 rfl ?_
  exact And.intro (fun _ => nx w' u' q' I') (fun c => absurd rfl c)
def tl_4 : List (Nat × Instr × Nat) := [(330, .aload_n 1, 1), (331, .aload_n 0, 1), (332, .iload_n 3, 1), (333, .iconst 1, 1), (334, .iadd, 1), (335, .iaload, 1), (336, .aload_n 0, 1), (337, .iload_n 3, 1), (338, .iconst 2, 1), (339, .iadd, 1), (340, .iaload, 1), (341, .invokevirtual 33, 3), (344, .aload_n 2, 1), (345, .aload_n 0, 1), (346, .iload_n 3, 1), (347, .iconst 1, 1), (348, .iadd, 1), (349, .iaload, 1), (350, .aload_n 0, 1), (351, .iload_n 3, 1), (352, .iconst 2, 1), (353, .iadd, 1), (354, .iaload, 1), (355, .invokevirtual 37, 3), (358, .if_icmp .eq 810, 3), (361, .iconst 0, 1), (362, .ireturn, 1)]
theorem otl_4 : tl_4.all (fun q => decide (decode code q.1 = .ok q.2)) = true := by decide +kernel
set_option maxRecDepth 100000 in
theorem lc_4 {b L i : Nat} {xs : Nat → Int32} (hi : i + 6 ≤ L) (hL : L ≤ 3072) (I : gI w u q) (nx : ∀ w u q, gI w u q → gl_Go l G b L xs 1168 [some (.retAddr 3000), some (.ref 0), some (.ref 95), some (.int (nI i))] [] (gv w u q) 141 18742) : gl_Go l G b L xs 330 [some (.retAddr 3000), some (.ref 0), some (.ref 95), some (.int (nI i))] [] (gv w u q) 141 18742 := by
  repeat refine gl_gc otl_4 rfl ?_
  refine And.intro (gl_ix hi hL (by decide)) ?_
  repeat refine gl_gc otl_4 rfl ?_
  refine And.intro (gl_ix hi hL (by decide)) ?_
  repeat refine gl_gc otl_4 rfl ?_
  refine gp_Cal.mono (st_of (d := 40) I) ?_
  intro r V hh
  obtain ⟨a, er, h2⟩ := hh
  have e1 : r = some (.int a) := congrArg Prod.fst er
  have e2 : gl_c V 95 = some 12 := congrArg Prod.snd er
  subst e1
  repeat refine gl_gc otl_4 rfl ?_
  refine And.intro (gl_ix hi hL (by decide)) ?_
  repeat refine gl_gc otl_4 rfl ?_
  refine And.intro (gl_ix hi hL (by decide)) ?_
  repeat refine gl_gc otl_4 rfl ?_
  refine gl_inv e2 rfl rfl rfl rfl rfl ?_
  refine gp_Cal.mono h2 ?_
  rintro r' V' ⟨rfl, w', u', q', rfl, I'⟩
  repeat refine gl_gc otl_4 rfl ?_
  exact And.intro (fun _ => nx w' u' q' I') (fun c => absurd rfl c)
def tl_5 : List (Nat × Instr × Nat) := [(363, .aload_n 1, 1), (364, .aload_n 0, 1), (365, .iload_n 3, 1), (366, .iconst 1, 1), (367, .iadd, 1), (368, .iaload, 1), (369, .invokevirtual 38, 3), (372, .aload_n 2, 1), (373, .aload_n 0, 1), (374, .iload_n 3, 1), (375, .iconst 1, 1), (376, .iadd, 1), (377, .iaload, 1), (378, .invokevirtual 42, 3), (381, .if_icmp .eq 787, 3), (384, .iconst 0, 1), (385, .ireturn, 1)]
theorem otl_5 : tl_5.all (fun q => decide (decode code q.1 = .ok q.2)) = true := by decide +kernel
set_option maxRecDepth 100000 in
theorem lc_5 {b L i : Nat} {xs : Nat → Int32} (hi : i + 6 ≤ L) (hL : L ≤ 3072) (I : gI w u q) (nx : ∀ w u q, gI w u q → gl_Go l G b L xs 1168 [some (.retAddr 3000), some (.ref 0), some (.ref 95), some (.int (nI i))] [] (gv w u q) 141 18742) : gl_Go l G b L xs 363 [some (.retAddr 3000), some (.ref 0), some (.ref 95), some (.int (nI i))] [] (gv w u q) 141 18742 := by
  repeat refine gl_gc otl_5 rfl ?_
  refine And.intro (gl_ix hi hL (by decide)) ?_
  repeat refine gl_gc otl_5 rfl ?_
  refine gp_Cal.mono (st_put (d := 40) I) ?_
  intro r V hh
  obtain ⟨a, er, h2⟩ := hh
  have e1 : r = some (.int a) := congrArg Prod.fst er
  have e2 : gl_c V 95 = some 12 := congrArg Prod.snd er
  subst e1
  repeat refine gl_gc otl_5 rfl ?_
  refine And.intro (gl_ix hi hL (by decide)) ?_
  repeat refine gl_gc otl_5 rfl ?_
  refine gl_inv e2 rfl rfl rfl rfl rfl ?_
  refine gp_Cal.mono h2 ?_
  rintro r' V' ⟨rfl, w', u', q', rfl, I'⟩
  repeat refine gl_gc otl_5 rfl ?_
  exact And.intro (fun _ => nx w' u' q' I') (fun c => absurd rfl c)
def tl_6 : List (Nat × Instr × Nat) := [(386, .aload_n 1, 1), (387, .aload_n 0, 1), (388, .iload_n 3, 1), (389, .iconst 1, 1), (390, .iadd, 1), (391, .iaload, 1), (392, .aload_n 0, 1), (393, .iload_n 3, 1), (394, .iconst 2, 1), (395, .iadd, 1), (396, .iaload, 1), (397, .aload_n 0, 1), (398, .iload_n 3, 1), (399, .iconst 3, 1), (400, .iadd, 1), (401, .iaload, 1), (402, .aload_n 0, 1), (403, .iload_n 3, 1), (404, .iconst 4, 1), (405, .iadd, 1), (406, .iaload, 1), (407, .aload_n 0, 1), (408, .iload_n 3, 1), (409, .iconst 5, 1), (410, .iadd, 1), (411, .iaload, 1), (412, .invokevirtual 43, 3), (415, .aload_n 2, 1), (416, .aload_n 0, 1), (417, .iload_n 3, 1), (418, .iconst 1, 1), (419, .iadd, 1), (420, .iaload, 1), (421, .aload_n 0, 1), (422, .iload_n 3, 1), (423, .iconst 2, 1), (424, .iadd, 1), (425, .iaload, 1), (426, .aload_n 0, 1), (427, .iload_n 3, 1), (428, .iconst 3, 1), (429, .iadd, 1), (430, .iaload, 1), (431, .aload_n 0, 1), (432, .iload_n 3, 1), (433, .iconst 4, 1), (434, .iadd, 1), (435, .iaload, 1), (436, .aload_n 0, 1), (437, .iload_n 3, 1), (438, .iconst 5, 1), (439, .iadd, 1), (440, .iaload, 1), (441, .invokevirtual 46, 3), (444, .if_icmp .eq 724, 3), (447, .iconst 0, 1), (448, .ireturn, 1)]
theorem otl_6 : tl_6.all (fun q => decide (decode code q.1 = .ok q.2)) = true := by decide +kernel
set_option maxRecDepth 100000 in
theorem lc_6 {b L i : Nat} {xs : Nat → Int32} (hi : i + 6 ≤ L) (hL : L ≤ 3072) (I : gI w u q) (nx : ∀ w u q, gI w u q → gl_Go l G b L xs 1168 [some (.retAddr 3000), some (.ref 0), some (.ref 95), some (.int (nI i))] [] (gv w u q) 141 18742) : gl_Go l G b L xs 386 [some (.retAddr 3000), some (.ref 0), some (.ref 95), some (.int (nI i))] [] (gv w u q) 141 18742 := by
  repeat refine gl_gc otl_6 rfl ?_
  refine And.intro (gl_ix hi hL (by decide)) ?_
  repeat refine gl_gc otl_6 rfl ?_
  refine And.intro (gl_ix hi hL (by decide)) ?_
  repeat refine gl_gc otl_6 rfl ?_
  refine And.intro (gl_ix hi hL (by decide)) ?_
  repeat refine gl_gc otl_6 rfl ?_
  refine And.intro (gl_ix hi hL (by decide)) ?_
  repeat refine gl_gc otl_6 rfl ?_
  refine And.intro (gl_ix hi hL (by decide)) ?_
  repeat refine gl_gc otl_6 rfl ?_
  refine gp_Cal.mono (st_feed (d := 40) I) ?_
  intro r V hh
  obtain ⟨a, er, h2⟩ := hh
  have e1 : r = some (.int a) := congrArg Prod.fst er
  have e2 : gl_c V 95 = some 12 := congrArg Prod.snd er
  subst e1
  repeat refine gl_gc otl_6 rfl ?_
  refine And.intro (gl_ix hi hL (by decide)) ?_
  repeat refine gl_gc otl_6 rfl ?_
  refine And.intro (gl_ix hi hL (by decide)) ?_
  repeat refine gl_gc otl_6 rfl ?_
  refine And.intro (gl_ix hi hL (by decide)) ?_
  repeat refine gl_gc otl_6 rfl ?_
  refine And.intro (gl_ix hi hL (by decide)) ?_
  repeat refine gl_gc otl_6 rfl ?_
  refine And.intro (gl_ix hi hL (by decide)) ?_
  repeat refine gl_gc otl_6 rfl ?_
  refine gl_inv e2 rfl rfl rfl rfl rfl ?_
  refine gp_Cal.mono h2 ?_
  rintro r' V' ⟨rfl, w', u', q', rfl, I'⟩
  repeat refine gl_gc otl_6 rfl ?_
  exact And.intro (fun _ => nx w' u' q' I') (fun c => absurd rfl c)
def tl_7 : List (Nat × Instr × Nat) := [(449, .aload_n 1, 1), (450, .aload_n 0, 1), (451, .iload_n 3, 1), (452, .iconst 1, 1), (453, .iadd, 1), (454, .iaload, 1), (455, .invokevirtual 47, 3), (458, .aload_n 2, 1), (459, .aload_n 0, 1), (460, .iload_n 3, 1), (461, .iconst 1, 1), (462, .iadd, 1), (463, .iaload, 1), (464, .invokevirtual 50, 3), (467, .if_icmp .eq 701, 3), (470, .iconst 0, 1), (471, .ireturn, 1)]
theorem otl_7 : tl_7.all (fun q => decide (decode code q.1 = .ok q.2)) = true := by decide +kernel
set_option maxRecDepth 100000 in
theorem lc_7 {b L i : Nat} {xs : Nat → Int32} (hi : i + 6 ≤ L) (hL : L ≤ 3072) (I : gI w u q) (nx : ∀ w u q, gI w u q → gl_Go l G b L xs 1168 [some (.retAddr 3000), some (.ref 0), some (.ref 95), some (.int (nI i))] [] (gv w u q) 141 18742) : gl_Go l G b L xs 449 [some (.retAddr 3000), some (.ref 0), some (.ref 95), some (.int (nI i))] [] (gv w u q) 141 18742 := by
  repeat refine gl_gc otl_7 rfl ?_
  refine And.intro (gl_ix hi hL (by decide)) ?_
  repeat refine gl_gc otl_7 rfl ?_
  refine gp_Cal.mono (st_end (d := 40) I) ?_
  intro r V hh
  obtain ⟨a, er, h2⟩ := hh
  have e1 : r = some (.int a) := congrArg Prod.fst er
  have e2 : gl_c V 95 = some 12 := congrArg Prod.snd er
  subst e1
  repeat refine gl_gc otl_7 rfl ?_
  refine And.intro (gl_ix hi hL (by decide)) ?_
  repeat refine gl_gc otl_7 rfl ?_
  refine gl_inv e2 rfl rfl rfl rfl rfl ?_
  refine gp_Cal.mono h2 ?_
  rintro r' V' ⟨rfl, w', u', q', rfl, I'⟩
  repeat refine gl_gc otl_7 rfl ?_
  exact And.intro (fun _ => nx w' u' q' I') (fun c => absurd rfl c)
def tl_8 : List (Nat × Instr × Nat) := [(472, .aload_n 1, 1), (473, .aload_n 0, 1), (474, .iload_n 3, 1), (475, .iconst 1, 1), (476, .iadd, 1), (477, .iaload, 1), (478, .invokevirtual 51, 3), (481, .aload_n 2, 1), (482, .aload_n 0, 1), (483, .iload_n 3, 1), (484, .iconst 1, 1), (485, .iadd, 1), (486, .iaload, 1), (487, .invokevirtual 54, 3), (490, .if_icmp .eq 678, 3), (493, .iconst 0, 1), (494, .ireturn, 1)]
theorem otl_8 : tl_8.all (fun q => decide (decode code q.1 = .ok q.2)) = true := by decide +kernel
set_option maxRecDepth 100000 in
theorem lc_8 {b L i : Nat} {xs : Nat → Int32} (hi : i + 6 ≤ L) (hL : L ≤ 3072) (I : gI w u q) (nx : ∀ w u q, gI w u q → gl_Go l G b L xs 1168 [some (.retAddr 3000), some (.ref 0), some (.ref 95), some (.int (nI i))] [] (gv w u q) 141 18742) : gl_Go l G b L xs 472 [some (.retAddr 3000), some (.ref 0), some (.ref 95), some (.int (nI i))] [] (gv w u q) 141 18742 := by
  repeat refine gl_gc otl_8 rfl ?_
  refine And.intro (gl_ix hi hL (by decide)) ?_
  repeat refine gl_gc otl_8 rfl ?_
  refine gp_Cal.mono (st_mind (d := 40) I) ?_
  intro r V hh
  obtain ⟨a, er, h2⟩ := hh
  have e1 : r = some (.int a) := congrArg Prod.fst er
  have e2 : gl_c V 95 = some 12 := congrArg Prod.snd er
  subst e1
  repeat refine gl_gc otl_8 rfl ?_
  refine And.intro (gl_ix hi hL (by decide)) ?_
  repeat refine gl_gc otl_8 rfl ?_
  refine gl_inv e2 rfl rfl rfl rfl rfl ?_
  refine gp_Cal.mono h2 ?_
  rintro r' V' ⟨rfl, w', u', q', rfl, I'⟩
  repeat refine gl_gc otl_8 rfl ?_
  exact And.intro (fun _ => nx w' u' q' I') (fun c => absurd rfl c)
def tl_9 : List (Nat × Instr × Nat) := [(495, .aload_n 1, 1), (496, .aload_n 0, 1), (497, .iload_n 3, 1), (498, .iconst 1, 1), (499, .iadd, 1), (500, .iaload, 1), (501, .invokevirtual 55, 3), (504, .aload_n 2, 1), (505, .aload_n 0, 1), (506, .iload_n 3, 1), (507, .iconst 1, 1), (508, .iadd, 1), (509, .iaload, 1), (510, .invokevirtual 58, 3), (513, .if_icmp .eq 655, 3), (516, .iconst 0, 1), (517, .ireturn, 1)]
theorem otl_9 : tl_9.all (fun q => decide (decode code q.1 = .ok q.2)) = true := by decide +kernel
set_option maxRecDepth 100000 in
theorem lc_9 {b L i : Nat} {xs : Nat → Int32} (hi : i + 6 ≤ L) (hL : L ≤ 3072) (I : gI w u q) (nx : ∀ w u q, gI w u q → gl_Go l G b L xs 1168 [some (.retAddr 3000), some (.ref 0), some (.ref 95), some (.int (nI i))] [] (gv w u q) 141 18742) : gl_Go l G b L xs 495 [some (.retAddr 3000), some (.ref 0), some (.ref 95), some (.int (nI i))] [] (gv w u q) 141 18742 := by
  repeat refine gl_gc otl_9 rfl ?_
  refine And.intro (gl_ix hi hL (by decide)) ?_
  repeat refine gl_gc otl_9 rfl ?_
  refine gp_Cal.mono (st_fault (d := 40) I) ?_
  intro r V hh
  obtain ⟨a, er, h2⟩ := hh
  have e1 : r = some (.int a) := congrArg Prod.fst er
  have e2 : gl_c V 95 = some 12 := congrArg Prod.snd er
  subst e1
  repeat refine gl_gc otl_9 rfl ?_
  refine And.intro (gl_ix hi hL (by decide)) ?_
  repeat refine gl_gc otl_9 rfl ?_
  refine gl_inv e2 rfl rfl rfl rfl rfl ?_
  refine gp_Cal.mono h2 ?_
  rintro r' V' ⟨rfl, w', u', q', rfl, I'⟩
  repeat refine gl_gc otl_9 rfl ?_
  exact And.intro (fun _ => nx w' u' q' I') (fun c => absurd rfl c)
def tl_10 : List (Nat × Instr × Nat) := [(518, .aload_n 1, 1), (519, .aload_n 0, 1), (520, .iload_n 3, 1), (521, .iconst 1, 1), (522, .iadd, 1), (523, .iaload, 1), (524, .aload_n 0, 1), (525, .iload_n 3, 1), (526, .iconst 2, 1), (527, .iadd, 1), (528, .iaload, 1), (529, .invokevirtual 59, 3), (532, .aload_n 2, 1), (533, .aload_n 0, 1), (534, .iload_n 3, 1), (535, .iconst 1, 1), (536, .iadd, 1), (537, .iaload, 1), (538, .aload_n 0, 1), (539, .iload_n 3, 1), (540, .iconst 2, 1), (541, .iadd, 1), (542, .iaload, 1), (543, .invokevirtual 62, 3), (546, .if_icmp .eq 622, 3), (549, .iconst 0, 1), (550, .ireturn, 1)]
theorem otl_10 : tl_10.all (fun q => decide (decode code q.1 = .ok q.2)) = true := by decide +kernel
set_option maxRecDepth 100000 in
theorem lc_10 {b L i : Nat} {xs : Nat → Int32} (hi : i + 6 ≤ L) (hL : L ≤ 3072) (I : gI w u q) (nx : ∀ w u q, gI w u q → gl_Go l G b L xs 1168 [some (.retAddr 3000), some (.ref 0), some (.ref 95), some (.int (nI i))] [] (gv w u q) 141 18742) : gl_Go l G b L xs 518 [some (.retAddr 3000), some (.ref 0), some (.ref 95), some (.int (nI i))] [] (gv w u q) 141 18742 := by
  repeat refine gl_gc otl_10 rfl ?_
  refine And.intro (gl_ix hi hL (by decide)) ?_
  repeat refine gl_gc otl_10 rfl ?_
  refine And.intro (gl_ix hi hL (by decide)) ?_
  repeat refine gl_gc otl_10 rfl ?_
  refine gp_Cal.mono (st_readings (d := 40) I) ?_
  intro r V hh
  obtain ⟨a, er, h2⟩ := hh
  have e1 : r = some (.int a) := congrArg Prod.fst er
  have e2 : gl_c V 95 = some 12 := congrArg Prod.snd er
  subst e1
  repeat refine gl_gc otl_10 rfl ?_
  refine And.intro (gl_ix hi hL (by decide)) ?_
  repeat refine gl_gc otl_10 rfl ?_
  refine And.intro (gl_ix hi hL (by decide)) ?_
  repeat refine gl_gc otl_10 rfl ?_
  refine gl_inv e2 rfl rfl rfl rfl rfl ?_
  refine gp_Cal.mono h2 ?_
  rintro r' V' ⟨rfl, w', u', q', rfl, I'⟩
  repeat refine gl_gc otl_10 rfl ?_
  exact And.intro (fun _ => nx w' u' q' I') (fun c => absurd rfl c)
def tl_11 : List (Nat × Instr × Nat) := [(551, .aload_n 1, 1), (552, .aload_n 0, 1), (553, .iload_n 3, 1), (554, .iconst 1, 1), (555, .iadd, 1), (556, .iaload, 1), (557, .aload_n 0, 1), (558, .iload_n 3, 1), (559, .iconst 2, 1), (560, .iadd, 1), (561, .iaload, 1), (562, .invokevirtual 63, 3), (565, .aload_n 2, 1), (566, .aload_n 0, 1), (567, .iload_n 3, 1), (568, .iconst 1, 1), (569, .iadd, 1), (570, .iaload, 1), (571, .aload_n 0, 1), (572, .iload_n 3, 1), (573, .iconst 2, 1), (574, .iadd, 1), (575, .iaload, 1), (576, .invokevirtual 66, 3), (579, .if_icmp .eq 589, 3), (582, .iconst 0, 1), (583, .ireturn, 1)]
theorem otl_11 : tl_11.all (fun q => decide (decode code q.1 = .ok q.2)) = true := by decide +kernel
set_option maxRecDepth 100000 in
theorem lc_11 {b L i : Nat} {xs : Nat → Int32} (hi : i + 6 ≤ L) (hL : L ≤ 3072) (I : gI w u q) (nx : ∀ w u q, gI w u q → gl_Go l G b L xs 1168 [some (.retAddr 3000), some (.ref 0), some (.ref 95), some (.int (nI i))] [] (gv w u q) 141 18742) : gl_Go l G b L xs 551 [some (.retAddr 3000), some (.ref 0), some (.ref 95), some (.int (nI i))] [] (gv w u q) 141 18742 := by
  repeat refine gl_gc otl_11 rfl ?_
  refine And.intro (gl_ix hi hL (by decide)) ?_
  repeat refine gl_gc otl_11 rfl ?_
  refine And.intro (gl_ix hi hL (by decide)) ?_
  repeat refine gl_gc otl_11 rfl ?_
  refine gp_Cal.mono (st_cheapest (d := 40) I) ?_
  intro r V hh
  obtain ⟨a, er, h2⟩ := hh
  have e1 : r = some (.int a) := congrArg Prod.fst er
  have e2 : gl_c V 95 = some 12 := congrArg Prod.snd er
  subst e1
  repeat refine gl_gc otl_11 rfl ?_
  refine And.intro (gl_ix hi hL (by decide)) ?_
  repeat refine gl_gc otl_11 rfl ?_
  refine And.intro (gl_ix hi hL (by decide)) ?_
  repeat refine gl_gc otl_11 rfl ?_
  refine gl_inv e2 rfl rfl rfl rfl rfl ?_
  refine gp_Cal.mono h2 ?_
  rintro r' V' ⟨rfl, w', u', q', rfl, I'⟩
  repeat refine gl_gc otl_11 rfl ?_
  exact And.intro (fun _ => nx w' u' q' I') (fun c => absurd rfl c)
def tl_12 : List (Nat × Instr × Nat) := [(584, .aload_n 1, 1), (585, .aload_n 0, 1), (586, .iload_n 3, 1), (587, .iconst 1, 1), (588, .iadd, 1), (589, .iaload, 1), (590, .aload_n 0, 1), (591, .iload_n 3, 1), (592, .iconst 2, 1), (593, .iadd, 1), (594, .iaload, 1), (595, .invokevirtual 67, 3), (598, .aload_n 2, 1), (599, .aload_n 0, 1), (600, .iload_n 3, 1), (601, .iconst 1, 1), (602, .iadd, 1), (603, .iaload, 1), (604, .aload_n 0, 1), (605, .iload_n 3, 1), (606, .iconst 2, 1), (607, .iadd, 1), (608, .iaload, 1), (609, .invokevirtual 70, 3), (612, .if_icmp .eq 556, 3), (615, .iconst 0, 1), (616, .ireturn, 1)]
theorem otl_12 : tl_12.all (fun q => decide (decode code q.1 = .ok q.2)) = true := by decide +kernel
set_option maxRecDepth 100000 in
theorem lc_12 {b L i : Nat} {xs : Nat → Int32} (hi : i + 6 ≤ L) (hL : L ≤ 3072) (I : gI w u q) (nx : ∀ w u q, gI w u q → gl_Go l G b L xs 1168 [some (.retAddr 3000), some (.ref 0), some (.ref 95), some (.int (nI i))] [] (gv w u q) 141 18742) : gl_Go l G b L xs 584 [some (.retAddr 3000), some (.ref 0), some (.ref 95), some (.int (nI i))] [] (gv w u q) 141 18742 := by
  repeat refine gl_gc otl_12 rfl ?_
  refine And.intro (gl_ix hi hL (by decide)) ?_
  repeat refine gl_gc otl_12 rfl ?_
  refine And.intro (gl_ix hi hL (by decide)) ?_
  repeat refine gl_gc otl_12 rfl ?_
  refine gp_Cal.mono (st_alone (d := 40) I) ?_
  intro r V hh
  obtain ⟨a, er, h2⟩ := hh
  have e1 : r = some (.int a) := congrArg Prod.fst er
  have e2 : gl_c V 95 = some 12 := congrArg Prod.snd er
  subst e1
  repeat refine gl_gc otl_12 rfl ?_
  refine And.intro (gl_ix hi hL (by decide)) ?_
  repeat refine gl_gc otl_12 rfl ?_
  refine And.intro (gl_ix hi hL (by decide)) ?_
  repeat refine gl_gc otl_12 rfl ?_
  refine gl_inv e2 rfl rfl rfl rfl rfl ?_
  refine gp_Cal.mono h2 ?_
  rintro r' V' ⟨rfl, w', u', q', rfl, I'⟩
  repeat refine gl_gc otl_12 rfl ?_
  exact And.intro (fun _ => nx w' u' q' I') (fun c => absurd rfl c)
def tl_13 : List (Nat × Instr × Nat) := [(617, .aload_n 1, 1), (618, .aload_n 0, 1), (619, .iload_n 3, 1), (620, .iconst 1, 1), (621, .iadd, 1), (622, .iaload, 1), (623, .aload_n 0, 1), (624, .iload_n 3, 1), (625, .iconst 2, 1), (626, .iadd, 1), (627, .iaload, 1), (628, .invokevirtual 71, 3), (631, .aload_n 2, 1), (632, .aload_n 0, 1), (633, .iload_n 3, 1), (634, .iconst 1, 1), (635, .iadd, 1), (636, .iaload, 1), (637, .aload_n 0, 1), (638, .iload_n 3, 1), (639, .iconst 2, 1), (640, .iadd, 1), (641, .iaload, 1), (642, .invokevirtual 74, 3), (645, .if_icmp .eq 523, 3), (648, .iconst 0, 1), (649, .ireturn, 1)]
theorem otl_13 : tl_13.all (fun q => decide (decode code q.1 = .ok q.2)) = true := by decide +kernel
set_option maxRecDepth 100000 in
theorem lc_13 {b L i : Nat} {xs : Nat → Int32} (hi : i + 6 ≤ L) (hL : L ≤ 3072) (I : gI w u q) (nx : ∀ w u q, gI w u q → gl_Go l G b L xs 1168 [some (.retAddr 3000), some (.ref 0), some (.ref 95), some (.int (nI i))] [] (gv w u q) 141 18742) : gl_Go l G b L xs 617 [some (.retAddr 3000), some (.ref 0), some (.ref 95), some (.int (nI i))] [] (gv w u q) 141 18742 := by
  repeat refine gl_gc otl_13 rfl ?_
  refine And.intro (gl_ix hi hL (by decide)) ?_
  repeat refine gl_gc otl_13 rfl ?_
  refine And.intro (gl_ix hi hL (by decide)) ?_
  repeat refine gl_gc otl_13 rfl ?_
  refine gp_Cal.mono (st_bits (d := 40) I) ?_
  intro r V hh
  obtain ⟨a, er, h2⟩ := hh
  have e1 : r = some (.int a) := congrArg Prod.fst er
  have e2 : gl_c V 95 = some 12 := congrArg Prod.snd er
  subst e1
  repeat refine gl_gc otl_13 rfl ?_
  refine And.intro (gl_ix hi hL (by decide)) ?_
  repeat refine gl_gc otl_13 rfl ?_
  refine And.intro (gl_ix hi hL (by decide)) ?_
  repeat refine gl_gc otl_13 rfl ?_
  refine gl_inv e2 rfl rfl rfl rfl rfl ?_
  refine gp_Cal.mono h2 ?_
  rintro r' V' ⟨rfl, w', u', q', rfl, I'⟩
  repeat refine gl_gc otl_13 rfl ?_
  exact And.intro (fun _ => nx w' u' q' I') (fun c => absurd rfl c)
def tl_14 : List (Nat × Instr × Nat) := [(650, .aload_n 1, 1), (651, .aload_n 0, 1), (652, .iload_n 3, 1), (653, .iconst 1, 1), (654, .iadd, 1), (655, .iaload, 1), (656, .aload_n 0, 1), (657, .iload_n 3, 1), (658, .iconst 2, 1), (659, .iadd, 1), (660, .iaload, 1), (661, .invokevirtual 75, 3), (664, .aload_n 2, 1), (665, .aload_n 0, 1), (666, .iload_n 3, 1), (667, .iconst 1, 1), (668, .iadd, 1), (669, .iaload, 1), (670, .aload_n 0, 1), (671, .iload_n 3, 1), (672, .iconst 2, 1), (673, .iadd, 1), (674, .iaload, 1), (675, .invokevirtual 78, 3), (678, .if_icmp .eq 490, 3), (681, .iconst 0, 1), (682, .ireturn, 1)]
theorem otl_14 : tl_14.all (fun q => decide (decode code q.1 = .ok q.2)) = true := by decide +kernel
set_option maxRecDepth 100000 in
theorem lc_14 {b L i : Nat} {xs : Nat → Int32} (hi : i + 6 ≤ L) (hL : L ≤ 3072) (I : gI w u q) (nx : ∀ w u q, gI w u q → gl_Go l G b L xs 1168 [some (.retAddr 3000), some (.ref 0), some (.ref 95), some (.int (nI i))] [] (gv w u q) 141 18742) : gl_Go l G b L xs 650 [some (.retAddr 3000), some (.ref 0), some (.ref 95), some (.int (nI i))] [] (gv w u q) 141 18742 := by
  repeat refine gl_gc otl_14 rfl ?_
  refine And.intro (gl_ix hi hL (by decide)) ?_
  repeat refine gl_gc otl_14 rfl ?_
  refine And.intro (gl_ix hi hL (by decide)) ?_
  repeat refine gl_gc otl_14 rfl ?_
  refine gp_Cal.mono (st_grid (d := 40) I) ?_
  intro r V hh
  obtain ⟨a, er, h2⟩ := hh
  have e1 : r = some (.int a) := congrArg Prod.fst er
  have e2 : gl_c V 95 = some 12 := congrArg Prod.snd er
  subst e1
  repeat refine gl_gc otl_14 rfl ?_
  refine And.intro (gl_ix hi hL (by decide)) ?_
  repeat refine gl_gc otl_14 rfl ?_
  refine And.intro (gl_ix hi hL (by decide)) ?_
  repeat refine gl_gc otl_14 rfl ?_
  refine gl_inv e2 rfl rfl rfl rfl rfl ?_
  refine gp_Cal.mono h2 ?_
  rintro r' V' ⟨rfl, w', u', q', rfl, I'⟩
  repeat refine gl_gc otl_14 rfl ?_
  exact And.intro (fun _ => nx w' u' q' I') (fun c => absurd rfl c)
def tl_15 : List (Nat × Instr × Nat) := [(683, .aload_n 1, 1), (684, .aload_n 0, 1), (685, .iload_n 3, 1), (686, .iconst 1, 1), (687, .iadd, 1), (688, .iaload, 1), (689, .aload_n 0, 1), (690, .iload_n 3, 1), (691, .iconst 2, 1), (692, .iadd, 1), (693, .iaload, 1), (694, .invokevirtual 79, 3), (697, .aload_n 2, 1), (698, .aload_n 0, 1), (699, .iload_n 3, 1), (700, .iconst 1, 1), (701, .iadd, 1), (702, .iaload, 1), (703, .aload_n 0, 1), (704, .iload_n 3, 1), (705, .iconst 2, 1), (706, .iadd, 1), (707, .iaload, 1), (708, .invokevirtual 82, 3), (711, .if_icmp .eq 457, 3), (714, .iconst 0, 1), (715, .ireturn, 1)]
theorem otl_15 : tl_15.all (fun q => decide (decode code q.1 = .ok q.2)) = true := by decide +kernel
set_option maxRecDepth 100000 in
theorem lc_15 {b L i : Nat} {xs : Nat → Int32} (hi : i + 6 ≤ L) (hL : L ≤ 3072) (I : gI w u q) (nx : ∀ w u q, gI w u q → gl_Go l G b L xs 1168 [some (.retAddr 3000), some (.ref 0), some (.ref 95), some (.int (nI i))] [] (gv w u q) 141 18742) : gl_Go l G b L xs 683 [some (.retAddr 3000), some (.ref 0), some (.ref 95), some (.int (nI i))] [] (gv w u q) 141 18742 := by
  repeat refine gl_gc otl_15 rfl ?_
  refine And.intro (gl_ix hi hL (by decide)) ?_
  repeat refine gl_gc otl_15 rfl ?_
  refine And.intro (gl_ix hi hL (by decide)) ?_
  repeat refine gl_gc otl_15 rfl ?_
  refine gp_Cal.mono (st_widths (d := 40) I) ?_
  intro r V hh
  obtain ⟨a, er, h2⟩ := hh
  have e1 : r = some (.int a) := congrArg Prod.fst er
  have e2 : gl_c V 95 = some 12 := congrArg Prod.snd er
  subst e1
  repeat refine gl_gc otl_15 rfl ?_
  refine And.intro (gl_ix hi hL (by decide)) ?_
  repeat refine gl_gc otl_15 rfl ?_
  refine And.intro (gl_ix hi hL (by decide)) ?_
  repeat refine gl_gc otl_15 rfl ?_
  refine gl_inv e2 rfl rfl rfl rfl rfl ?_
  refine gp_Cal.mono h2 ?_
  rintro r' V' ⟨rfl, w', u', q', rfl, I'⟩
  repeat refine gl_gc otl_15 rfl ?_
  exact And.intro (fun _ => nx w' u' q' I') (fun c => absurd rfl c)
def tl_16 : List (Nat × Instr × Nat) := [(716, .aload_n 1, 1), (717, .aload_n 0, 1), (718, .iload_n 3, 1), (719, .iconst 1, 1), (720, .iadd, 1), (721, .iaload, 1), (722, .aload_n 0, 1), (723, .iload_n 3, 1), (724, .iconst 2, 1), (725, .iadd, 1), (726, .iaload, 1), (727, .aload_n 0, 1), (728, .iload_n 3, 1), (729, .iconst 3, 1), (730, .iadd, 1), (731, .iaload, 1), (732, .invokevirtual 83, 3), (735, .aload_n 2, 1), (736, .aload_n 0, 1), (737, .iload_n 3, 1), (738, .iconst 1, 1), (739, .iadd, 1), (740, .iaload, 1), (741, .aload_n 0, 1), (742, .iload_n 3, 1), (743, .iconst 2, 1), (744, .iadd, 1), (745, .iaload, 1), (746, .aload_n 0, 1), (747, .iload_n 3, 1), (748, .iconst 3, 1), (749, .iadd, 1), (750, .iaload, 1), (751, .invokevirtual 87, 3), (754, .if_icmp .eq 414, 3), (757, .iconst 0, 1), (758, .ireturn, 1)]
theorem otl_16 : tl_16.all (fun q => decide (decode code q.1 = .ok q.2)) = true := by decide +kernel
set_option maxRecDepth 100000 in
theorem lc_16 {b L i : Nat} {xs : Nat → Int32} (hi : i + 6 ≤ L) (hL : L ≤ 3072) (I : gI w u q) (nx : ∀ w u q, gI w u q → gl_Go l G b L xs 1168 [some (.retAddr 3000), some (.ref 0), some (.ref 95), some (.int (nI i))] [] (gv w u q) 141 18742) : gl_Go l G b L xs 716 [some (.retAddr 3000), some (.ref 0), some (.ref 95), some (.int (nI i))] [] (gv w u q) 141 18742 := by
  repeat refine gl_gc otl_16 rfl ?_
  refine And.intro (gl_ix hi hL (by decide)) ?_
  repeat refine gl_gc otl_16 rfl ?_
  refine And.intro (gl_ix hi hL (by decide)) ?_
  repeat refine gl_gc otl_16 rfl ?_
  refine And.intro (gl_ix hi hL (by decide)) ?_
  repeat refine gl_gc otl_16 rfl ?_
  refine gp_Cal.mono (st_laid (d := 40) I) ?_
  intro r V hh
  obtain ⟨a, er, h2⟩ := hh
  have e1 : r = some (.int a) := congrArg Prod.fst er
  have e2 : gl_c V 95 = some 12 := congrArg Prod.snd er
  subst e1
  repeat refine gl_gc otl_16 rfl ?_
  refine And.intro (gl_ix hi hL (by decide)) ?_
  repeat refine gl_gc otl_16 rfl ?_
  refine And.intro (gl_ix hi hL (by decide)) ?_
  repeat refine gl_gc otl_16 rfl ?_
  refine And.intro (gl_ix hi hL (by decide)) ?_
  repeat refine gl_gc otl_16 rfl ?_
  refine gl_inv e2 rfl rfl rfl rfl rfl ?_
  refine gp_Cal.mono h2 ?_
  rintro r' V' ⟨rfl, w', u', q', rfl, I'⟩
  repeat refine gl_gc otl_16 rfl ?_
  exact And.intro (fun _ => nx w' u' q' I') (fun c => absurd rfl c)
def tl_17 : List (Nat × Instr × Nat) := [(759, .aload_n 1, 1), (760, .aload_n 0, 1), (761, .iload_n 3, 1), (762, .iconst 1, 1), (763, .iadd, 1), (764, .iaload, 1), (765, .aload_n 0, 1), (766, .iload_n 3, 1), (767, .iconst 2, 1), (768, .iadd, 1), (769, .iaload, 1), (770, .aload_n 0, 1), (771, .iload_n 3, 1), (772, .iconst 3, 1), (773, .iadd, 1), (774, .iaload, 1), (775, .aload_n 0, 1), (776, .iload_n 3, 1), (777, .iconst 4, 1), (778, .iadd, 1), (779, .iaload, 1), (780, .invokevirtual 88, 3), (783, .aload_n 2, 1), (784, .aload_n 0, 1), (785, .iload_n 3, 1), (786, .iconst 1, 1), (787, .iadd, 1), (788, .iaload, 1), (789, .aload_n 0, 1), (790, .iload_n 3, 1), (791, .iconst 2, 1), (792, .iadd, 1), (793, .iaload, 1), (794, .aload_n 0, 1), (795, .iload_n 3, 1), (796, .iconst 3, 1), (797, .iadd, 1), (798, .iaload, 1), (799, .aload_n 0, 1), (800, .iload_n 3, 1), (801, .iconst 4, 1), (802, .iadd, 1), (803, .iaload, 1), (804, .invokevirtual 92, 3), (807, .if_icmp .eq 361, 3), (810, .iconst 0, 1), (811, .ireturn, 1)]
theorem otl_17 : tl_17.all (fun q => decide (decode code q.1 = .ok q.2)) = true := by decide +kernel
set_option maxRecDepth 100000 in
theorem lc_17 {b L i : Nat} {xs : Nat → Int32} (hi : i + 6 ≤ L) (hL : L ≤ 3072) (I : gI w u q) (nx : ∀ w u q, gI w u q → gl_Go l G b L xs 1168 [some (.retAddr 3000), some (.ref 0), some (.ref 95), some (.int (nI i))] [] (gv w u q) 141 18742) : gl_Go l G b L xs 759 [some (.retAddr 3000), some (.ref 0), some (.ref 95), some (.int (nI i))] [] (gv w u q) 141 18742 := by
  repeat refine gl_gc otl_17 rfl ?_
  refine And.intro (gl_ix hi hL (by decide)) ?_
  repeat refine gl_gc otl_17 rfl ?_
  refine And.intro (gl_ix hi hL (by decide)) ?_
  repeat refine gl_gc otl_17 rfl ?_
  refine And.intro (gl_ix hi hL (by decide)) ?_
  repeat refine gl_gc otl_17 rfl ?_
  refine And.intro (gl_ix hi hL (by decide)) ?_
  repeat refine gl_gc otl_17 rfl ?_
  refine gp_Cal.mono (st_beat (d := 40) I) ?_
  intro r V hh
  obtain ⟨a, er, h2⟩ := hh
  have e1 : r = some (.int a) := congrArg Prod.fst er
  have e2 : gl_c V 95 = some 12 := congrArg Prod.snd er
  subst e1
  repeat refine gl_gc otl_17 rfl ?_
  refine And.intro (gl_ix hi hL (by decide)) ?_
  repeat refine gl_gc otl_17 rfl ?_
  refine And.intro (gl_ix hi hL (by decide)) ?_
  repeat refine gl_gc otl_17 rfl ?_
  refine And.intro (gl_ix hi hL (by decide)) ?_
  repeat refine gl_gc otl_17 rfl ?_
  refine And.intro (gl_ix hi hL (by decide)) ?_
  repeat refine gl_gc otl_17 rfl ?_
  refine gl_inv e2 rfl rfl rfl rfl rfl ?_
  refine gp_Cal.mono h2 ?_
  rintro r' V' ⟨rfl, w', u', q', rfl, I'⟩
  repeat refine gl_gc otl_17 rfl ?_
  exact And.intro (fun _ => nx w' u' q' I') (fun c => absurd rfl c)
def tl_18 : List (Nat × Instr × Nat) := [(812, .aload_n 1, 1), (813, .aload_n 0, 1), (814, .iload_n 3, 1), (815, .iconst 1, 1), (816, .iadd, 1), (817, .iaload, 1), (818, .aload_n 0, 1), (819, .iload_n 3, 1), (820, .iconst 2, 1), (821, .iadd, 1), (822, .iaload, 1), (823, .aload_n 0, 1), (824, .iload_n 3, 1), (825, .iconst 3, 1), (826, .iadd, 1), (827, .iaload, 1), (828, .invokevirtual 93, 3), (831, .aload_n 2, 1), (832, .aload_n 0, 1), (833, .iload_n 3, 1), (834, .iconst 1, 1), (835, .iadd, 1), (836, .iaload, 1), (837, .aload_n 0, 1), (838, .iload_n 3, 1), (839, .iconst 2, 1), (840, .iadd, 1), (841, .iaload, 1), (842, .aload_n 0, 1), (843, .iload_n 3, 1), (844, .iconst 3, 1), (845, .iadd, 1), (846, .iaload, 1), (847, .invokevirtual 96, 3), (850, .if_icmp .eq 318, 3), (853, .iconst 0, 1), (854, .ireturn, 1)]
theorem otl_18 : tl_18.all (fun q => decide (decode code q.1 = .ok q.2)) = true := by decide +kernel
set_option maxRecDepth 100000 in
theorem lc_18 {b L i : Nat} {xs : Nat → Int32} (hi : i + 6 ≤ L) (hL : L ≤ 3072) (I : gI w u q) (nx : ∀ w u q, gI w u q → gl_Go l G b L xs 1168 [some (.retAddr 3000), some (.ref 0), some (.ref 95), some (.int (nI i))] [] (gv w u q) 141 18742) : gl_Go l G b L xs 812 [some (.retAddr 3000), some (.ref 0), some (.ref 95), some (.int (nI i))] [] (gv w u q) 141 18742 := by
  repeat refine gl_gc otl_18 rfl ?_
  refine And.intro (gl_ix hi hL (by decide)) ?_
  repeat refine gl_gc otl_18 rfl ?_
  refine And.intro (gl_ix hi hL (by decide)) ?_
  repeat refine gl_gc otl_18 rfl ?_
  refine And.intro (gl_ix hi hL (by decide)) ?_
  repeat refine gl_gc otl_18 rfl ?_
  refine gp_Cal.mono (st_found (d := 40) I) ?_
  intro r V hh
  obtain ⟨a, er, h2⟩ := hh
  have e1 : r = some (.int a) := congrArg Prod.fst er
  have e2 : gl_c V 95 = some 12 := congrArg Prod.snd er
  subst e1
  repeat refine gl_gc otl_18 rfl ?_
  refine And.intro (gl_ix hi hL (by decide)) ?_
  repeat refine gl_gc otl_18 rfl ?_
  refine And.intro (gl_ix hi hL (by decide)) ?_
  repeat refine gl_gc otl_18 rfl ?_
  refine And.intro (gl_ix hi hL (by decide)) ?_
  repeat refine gl_gc otl_18 rfl ?_
  refine gl_inv e2 rfl rfl rfl rfl rfl ?_
  refine gp_Cal.mono h2 ?_
  rintro r' V' ⟨rfl, w', u', q', rfl, I'⟩
  repeat refine gl_gc otl_18 rfl ?_
  exact And.intro (fun _ => nx w' u' q' I') (fun c => absurd rfl c)
def tl_19 : List (Nat × Instr × Nat) := [(855, .aload_n 1, 1), (856, .aload_n 0, 1), (857, .iload_n 3, 1), (858, .iconst 1, 1), (859, .iadd, 1), (860, .iaload, 1), (861, .aload_n 0, 1), (862, .iload_n 3, 1), (863, .iconst 2, 1), (864, .iadd, 1), (865, .iaload, 1), (866, .invokevirtual 97, 3), (869, .aload_n 2, 1), (870, .aload_n 0, 1), (871, .iload_n 3, 1), (872, .iconst 1, 1), (873, .iadd, 1), (874, .iaload, 1), (875, .aload_n 0, 1), (876, .iload_n 3, 1), (877, .iconst 2, 1), (878, .iadd, 1), (879, .iaload, 1), (880, .invokevirtual 100, 3), (883, .if_icmp .eq 285, 3), (886, .iconst 0, 1), (887, .ireturn, 1)]
theorem otl_19 : tl_19.all (fun q => decide (decode code q.1 = .ok q.2)) = true := by decide +kernel
set_option maxRecDepth 100000 in
theorem lc_19 {b L i : Nat} {xs : Nat → Int32} (hi : i + 6 ≤ L) (hL : L ≤ 3072) (I : gI w u q) (nx : ∀ w u q, gI w u q → gl_Go l G b L xs 1168 [some (.retAddr 3000), some (.ref 0), some (.ref 95), some (.int (nI i))] [] (gv w u q) 141 18742) : gl_Go l G b L xs 855 [some (.retAddr 3000), some (.ref 0), some (.ref 95), some (.int (nI i))] [] (gv w u q) 141 18742 := by
  repeat refine gl_gc otl_19 rfl ?_
  refine And.intro (gl_ix hi hL (by decide)) ?_
  repeat refine gl_gc otl_19 rfl ?_
  refine And.intro (gl_ix hi hL (by decide)) ?_
  repeat refine gl_gc otl_19 rfl ?_
  refine gp_Cal.mono (st_far (d := 40) I) ?_
  intro r V hh
  obtain ⟨a, er, h2⟩ := hh
  have e1 : r = some (.int a) := congrArg Prod.fst er
  have e2 : gl_c V 95 = some 12 := congrArg Prod.snd er
  subst e1
  repeat refine gl_gc otl_19 rfl ?_
  refine And.intro (gl_ix hi hL (by decide)) ?_
  repeat refine gl_gc otl_19 rfl ?_
  refine And.intro (gl_ix hi hL (by decide)) ?_
  repeat refine gl_gc otl_19 rfl ?_
  refine gl_inv e2 rfl rfl rfl rfl rfl ?_
  refine gp_Cal.mono h2 ?_
  rintro r' V' ⟨rfl, w', u', q', rfl, I'⟩
  repeat refine gl_gc otl_19 rfl ?_
  exact And.intro (fun _ => nx w' u' q' I') (fun c => absurd rfl c)
def tl_20 : List (Nat × Instr × Nat) := [(888, .aload_n 1, 1), (889, .aload_n 0, 1), (890, .iload_n 3, 1), (891, .iconst 1, 1), (892, .iadd, 1), (893, .iaload, 1), (894, .invokevirtual 101, 3), (897, .aload_n 2, 1), (898, .aload_n 0, 1), (899, .iload_n 3, 1), (900, .iconst 1, 1), (901, .iadd, 1), (902, .iaload, 1), (903, .invokevirtual 104, 3), (906, .if_icmp .eq 262, 3), (909, .iconst 0, 1), (910, .ireturn, 1)]
theorem otl_20 : tl_20.all (fun q => decide (decode code q.1 = .ok q.2)) = true := by decide +kernel
set_option maxRecDepth 100000 in
theorem lc_20 {b L i : Nat} {xs : Nat → Int32} (hi : i + 6 ≤ L) (hL : L ≤ 3072) (I : gI w u q) (nx : ∀ w u q, gI w u q → gl_Go l G b L xs 1168 [some (.retAddr 3000), some (.ref 0), some (.ref 95), some (.int (nI i))] [] (gv w u q) 141 18742) : gl_Go l G b L xs 888 [some (.retAddr 3000), some (.ref 0), some (.ref 95), some (.int (nI i))] [] (gv w u q) 141 18742 := by
  repeat refine gl_gc otl_20 rfl ?_
  refine And.intro (gl_ix hi hL (by decide)) ?_
  repeat refine gl_gc otl_20 rfl ?_
  refine gp_Cal.mono (st_years (d := 40) I) ?_
  intro r V hh
  obtain ⟨a, er, h2⟩ := hh
  have e1 : r = some (.int a) := congrArg Prod.fst er
  have e2 : gl_c V 95 = some 12 := congrArg Prod.snd er
  subst e1
  repeat refine gl_gc otl_20 rfl ?_
  refine And.intro (gl_ix hi hL (by decide)) ?_
  repeat refine gl_gc otl_20 rfl ?_
  refine gl_inv e2 rfl rfl rfl rfl rfl ?_
  refine gp_Cal.mono h2 ?_
  rintro r' V' ⟨rfl, w', u', q', rfl, I'⟩
  repeat refine gl_gc otl_20 rfl ?_
  exact And.intro (fun _ => nx w' u' q' I') (fun c => absurd rfl c)
def tl_21 : List (Nat × Instr × Nat) := [(911, .aload_n 1, 1), (912, .aload_n 0, 1), (913, .iload_n 3, 1), (914, .iconst 1, 1), (915, .iadd, 1), (916, .iaload, 1), (917, .aload_n 0, 1), (918, .iload_n 3, 1), (919, .iconst 2, 1), (920, .iadd, 1), (921, .iaload, 1), (922, .invokevirtual 105, 3), (925, .aload_n 2, 1), (926, .aload_n 0, 1), (927, .iload_n 3, 1), (928, .iconst 1, 1), (929, .iadd, 1), (930, .iaload, 1), (931, .aload_n 0, 1), (932, .iload_n 3, 1), (933, .iconst 2, 1), (934, .iadd, 1), (935, .iaload, 1), (936, .invokevirtual 108, 3), (939, .if_icmp .eq 229, 3), (942, .iconst 0, 1), (943, .ireturn, 1)]
theorem otl_21 : tl_21.all (fun q => decide (decode code q.1 = .ok q.2)) = true := by decide +kernel
set_option maxRecDepth 100000 in
theorem lc_21 {b L i : Nat} {xs : Nat → Int32} (hi : i + 6 ≤ L) (hL : L ≤ 3072) (I : gI w u q) (nx : ∀ w u q, gI w u q → gl_Go l G b L xs 1168 [some (.retAddr 3000), some (.ref 0), some (.ref 95), some (.int (nI i))] [] (gv w u q) 141 18742) : gl_Go l G b L xs 911 [some (.retAddr 3000), some (.ref 0), some (.ref 95), some (.int (nI i))] [] (gv w u q) 141 18742 := by
  repeat refine gl_gc otl_21 rfl ?_
  refine And.intro (gl_ix hi hL (by decide)) ?_
  repeat refine gl_gc otl_21 rfl ?_
  refine And.intro (gl_ix hi hL (by decide)) ?_
  repeat refine gl_gc otl_21 rfl ?_
  refine gp_Cal.mono (st_places (d := 40) I) ?_
  intro r V hh
  obtain ⟨a, er, h2⟩ := hh
  have e1 : r = some (.int a) := congrArg Prod.fst er
  have e2 : gl_c V 95 = some 12 := congrArg Prod.snd er
  subst e1
  repeat refine gl_gc otl_21 rfl ?_
  refine And.intro (gl_ix hi hL (by decide)) ?_
  repeat refine gl_gc otl_21 rfl ?_
  refine And.intro (gl_ix hi hL (by decide)) ?_
  repeat refine gl_gc otl_21 rfl ?_
  refine gl_inv e2 rfl rfl rfl rfl rfl ?_
  refine gp_Cal.mono h2 ?_
  rintro r' V' ⟨rfl, w', u', q', rfl, I'⟩
  repeat refine gl_gc otl_21 rfl ?_
  exact And.intro (fun _ => nx w' u' q' I') (fun c => absurd rfl c)
def tl_22 : List (Nat × Instr × Nat) := [(944, .aload_n 1, 1), (945, .aload_n 0, 1), (946, .iload_n 3, 1), (947, .iconst 1, 1), (948, .iadd, 1), (949, .iaload, 1), (950, .aload_n 0, 1), (951, .iload_n 3, 1), (952, .iconst 2, 1), (953, .iadd, 1), (954, .iaload, 1), (955, .invokevirtual 109, 3), (958, .aload_n 2, 1), (959, .aload_n 0, 1), (960, .iload_n 3, 1), (961, .iconst 1, 1), (962, .iadd, 1), (963, .iaload, 1), (964, .aload_n 0, 1), (965, .iload_n 3, 1), (966, .iconst 2, 1), (967, .iadd, 1), (968, .iaload, 1), (969, .invokevirtual 112, 3), (972, .if_icmp .eq 196, 3), (975, .iconst 0, 1), (976, .ireturn, 1)]
theorem otl_22 : tl_22.all (fun q => decide (decode code q.1 = .ok q.2)) = true := by decide +kernel
set_option maxRecDepth 100000 in
theorem lc_22 {b L i : Nat} {xs : Nat → Int32} (hi : i + 6 ≤ L) (hL : L ≤ 3072) (I : gI w u q) (nx : ∀ w u q, gI w u q → gl_Go l G b L xs 1168 [some (.retAddr 3000), some (.ref 0), some (.ref 95), some (.int (nI i))] [] (gv w u q) 141 18742) : gl_Go l G b L xs 944 [some (.retAddr 3000), some (.ref 0), some (.ref 95), some (.int (nI i))] [] (gv w u q) 141 18742 := by
  repeat refine gl_gc otl_22 rfl ?_
  refine And.intro (gl_ix hi hL (by decide)) ?_
  repeat refine gl_gc otl_22 rfl ?_
  refine And.intro (gl_ix hi hL (by decide)) ?_
  repeat refine gl_gc otl_22 rfl ?_
  refine gp_Cal.mono (st_told (d := 40) I) ?_
  intro r V hh
  obtain ⟨a, er, h2⟩ := hh
  have e1 : r = some (.int a) := congrArg Prod.fst er
  have e2 : gl_c V 95 = some 12 := congrArg Prod.snd er
  subst e1
  repeat refine gl_gc otl_22 rfl ?_
  refine And.intro (gl_ix hi hL (by decide)) ?_
  repeat refine gl_gc otl_22 rfl ?_
  refine And.intro (gl_ix hi hL (by decide)) ?_
  repeat refine gl_gc otl_22 rfl ?_
  refine gl_inv e2 rfl rfl rfl rfl rfl ?_
  refine gp_Cal.mono h2 ?_
  rintro r' V' ⟨rfl, w', u', q', rfl, I'⟩
  repeat refine gl_gc otl_22 rfl ?_
  exact And.intro (fun _ => nx w' u' q' I') (fun c => absurd rfl c)
def tl_23 : List (Nat × Instr × Nat) := [(977, .aload_n 1, 1), (978, .aload_n 0, 1), (979, .iload_n 3, 1), (980, .iconst 1, 1), (981, .iadd, 1), (982, .iaload, 1), (983, .aload_n 0, 1), (984, .iload_n 3, 1), (985, .iconst 2, 1), (986, .iadd, 1), (987, .iaload, 1), (988, .aload_n 0, 1), (989, .iload_n 3, 1), (990, .iconst 3, 1), (991, .iadd, 1), (992, .iaload, 1), (993, .invokevirtual 113, 3), (996, .aload_n 2, 1), (997, .aload_n 0, 1), (998, .iload_n 3, 1), (999, .iconst 1, 1), (1000, .iadd, 1), (1001, .iaload, 1), (1002, .aload_n 0, 1), (1003, .iload_n 3, 1), (1004, .iconst 2, 1), (1005, .iadd, 1), (1006, .iaload, 1), (1007, .aload_n 0, 1), (1008, .iload_n 3, 1), (1009, .iconst 3, 1), (1010, .iadd, 1), (1011, .iaload, 1), (1012, .invokevirtual 116, 3), (1015, .if_icmp .eq 153, 3), (1018, .iconst 0, 1), (1019, .ireturn, 1)]
theorem otl_23 : tl_23.all (fun q => decide (decode code q.1 = .ok q.2)) = true := by decide +kernel
set_option maxRecDepth 100000 in
theorem lc_23 {b L i : Nat} {xs : Nat → Int32} (hi : i + 6 ≤ L) (hL : L ≤ 3072) (I : gI w u q) (nx : ∀ w u q, gI w u q → gl_Go l G b L xs 1168 [some (.retAddr 3000), some (.ref 0), some (.ref 95), some (.int (nI i))] [] (gv w u q) 141 18742) : gl_Go l G b L xs 977 [some (.retAddr 3000), some (.ref 0), some (.ref 95), some (.int (nI i))] [] (gv w u q) 141 18742 := by
  repeat refine gl_gc otl_23 rfl ?_
  refine And.intro (gl_ix hi hL (by decide)) ?_
  repeat refine gl_gc otl_23 rfl ?_
  refine And.intro (gl_ix hi hL (by decide)) ?_
  repeat refine gl_gc otl_23 rfl ?_
  refine And.intro (gl_ix hi hL (by decide)) ?_
  repeat refine gl_gc otl_23 rfl ?_
  refine gp_Cal.mono (st_best (d := 40) I) ?_
  intro r V hh
  obtain ⟨a, er, h2⟩ := hh
  have e1 : r = some (.int a) := congrArg Prod.fst er
  have e2 : gl_c V 95 = some 12 := congrArg Prod.snd er
  subst e1
  repeat refine gl_gc otl_23 rfl ?_
  refine And.intro (gl_ix hi hL (by decide)) ?_
  repeat refine gl_gc otl_23 rfl ?_
  refine And.intro (gl_ix hi hL (by decide)) ?_
  repeat refine gl_gc otl_23 rfl ?_
  refine And.intro (gl_ix hi hL (by decide)) ?_
  repeat refine gl_gc otl_23 rfl ?_
  refine gl_inv e2 rfl rfl rfl rfl rfl ?_
  refine gp_Cal.mono h2 ?_
  rintro r' V' ⟨rfl, w', u', q', rfl, I'⟩
  repeat refine gl_gc otl_23 rfl ?_
  exact And.intro (fun _ => nx w' u' q' I') (fun c => absurd rfl c)
def tl_24 : List (Nat × Instr × Nat) := [(1020, .aload_n 1, 1), (1021, .aload_n 0, 1), (1022, .iload_n 3, 1), (1023, .iconst 1, 1), (1024, .iadd, 1), (1025, .iaload, 1), (1026, .invokevirtual 117, 3), (1029, .aload_n 2, 1), (1030, .aload_n 0, 1), (1031, .iload_n 3, 1), (1032, .iconst 1, 1), (1033, .iadd, 1), (1034, .iaload, 1), (1035, .invokevirtual 120, 3), (1038, .if_icmp .eq 130, 3), (1041, .iconst 0, 1), (1042, .ireturn, 1)]
theorem otl_24 : tl_24.all (fun q => decide (decode code q.1 = .ok q.2)) = true := by decide +kernel
set_option maxRecDepth 100000 in
theorem lc_24 {b L i : Nat} {xs : Nat → Int32} (hi : i + 6 ≤ L) (hL : L ≤ 3072) (I : gI w u q) (nx : ∀ w u q, gI w u q → gl_Go l G b L xs 1168 [some (.retAddr 3000), some (.ref 0), some (.ref 95), some (.int (nI i))] [] (gv w u q) 141 18742) : gl_Go l G b L xs 1020 [some (.retAddr 3000), some (.ref 0), some (.ref 95), some (.int (nI i))] [] (gv w u q) 141 18742 := by
  repeat refine gl_gc otl_24 rfl ?_
  refine And.intro (gl_ix hi hL (by decide)) ?_
  repeat refine gl_gc otl_24 rfl ?_
  refine gp_Cal.mono (st_never (d := 40) I) ?_
  intro r V hh
  obtain ⟨a, er, h2⟩ := hh
  have e1 : r = some (.int a) := congrArg Prod.fst er
  have e2 : gl_c V 95 = some 12 := congrArg Prod.snd er
  subst e1
  repeat refine gl_gc otl_24 rfl ?_
  refine And.intro (gl_ix hi hL (by decide)) ?_
  repeat refine gl_gc otl_24 rfl ?_
  refine gl_inv e2 rfl rfl rfl rfl rfl ?_
  refine gp_Cal.mono h2 ?_
  rintro r' V' ⟨rfl, w', u', q', rfl, I'⟩
  repeat refine gl_gc otl_24 rfl ?_
  exact And.intro (fun _ => nx w' u' q' I') (fun c => absurd rfl c)
def tl_25 : List (Nat × Instr × Nat) := [(1043, .aload_n 1, 1), (1044, .aload_n 0, 1), (1045, .iload_n 3, 1), (1046, .iconst 1, 1), (1047, .iadd, 1), (1048, .iaload, 1), (1049, .aload_n 0, 1), (1050, .iload_n 3, 1), (1051, .iconst 2, 1), (1052, .iadd, 1), (1053, .iaload, 1), (1054, .invokevirtual 121, 3), (1057, .aload_n 2, 1), (1058, .aload_n 0, 1), (1059, .iload_n 3, 1), (1060, .iconst 1, 1), (1061, .iadd, 1), (1062, .iaload, 1), (1063, .aload_n 0, 1), (1064, .iload_n 3, 1), (1065, .iconst 2, 1), (1066, .iadd, 1), (1067, .iaload, 1), (1068, .invokevirtual 124, 3), (1071, .if_icmp .eq 97, 3), (1074, .iconst 0, 1), (1075, .ireturn, 1)]
theorem otl_25 : tl_25.all (fun q => decide (decode code q.1 = .ok q.2)) = true := by decide +kernel
set_option maxRecDepth 100000 in
theorem lc_25 {b L i : Nat} {xs : Nat → Int32} (hi : i + 6 ≤ L) (hL : L ≤ 3072) (I : gI w u q) (nx : ∀ w u q, gI w u q → gl_Go l G b L xs 1168 [some (.retAddr 3000), some (.ref 0), some (.ref 95), some (.int (nI i))] [] (gv w u q) 141 18742) : gl_Go l G b L xs 1043 [some (.retAddr 3000), some (.ref 0), some (.ref 95), some (.int (nI i))] [] (gv w u q) 141 18742 := by
  repeat refine gl_gc otl_25 rfl ?_
  refine And.intro (gl_ix hi hL (by decide)) ?_
  repeat refine gl_gc otl_25 rfl ?_
  refine And.intro (gl_ix hi hL (by decide)) ?_
  repeat refine gl_gc otl_25 rfl ?_
  refine gp_Cal.mono (st_deeper (d := 40) I) ?_
  intro r V hh
  obtain ⟨a, er, h2⟩ := hh
  have e1 : r = some (.int a) := congrArg Prod.fst er
  have e2 : gl_c V 95 = some 12 := congrArg Prod.snd er
  subst e1
  repeat refine gl_gc otl_25 rfl ?_
  refine And.intro (gl_ix hi hL (by decide)) ?_
  repeat refine gl_gc otl_25 rfl ?_
  refine And.intro (gl_ix hi hL (by decide)) ?_
  repeat refine gl_gc otl_25 rfl ?_
  refine gl_inv e2 rfl rfl rfl rfl rfl ?_
  refine gp_Cal.mono h2 ?_
  rintro r' V' ⟨rfl, w', u', q', rfl, I'⟩
  repeat refine gl_gc otl_25 rfl ?_
  exact And.intro (fun _ => nx w' u' q' I') (fun c => absurd rfl c)
def tl_26 : List (Nat × Instr × Nat) := [(1076, .aload_n 1, 1), (1077, .aload_n 0, 1), (1078, .iload_n 3, 1), (1079, .iconst 1, 1), (1080, .iadd, 1), (1081, .iaload, 1), (1082, .invokevirtual 125, 3), (1085, .aload_n 2, 1), (1086, .aload_n 0, 1), (1087, .iload_n 3, 1), (1088, .iconst 1, 1), (1089, .iadd, 1), (1090, .iaload, 1), (1091, .invokevirtual 128, 3), (1094, .if_icmp .eq 74, 3), (1097, .iconst 0, 1), (1098, .ireturn, 1)]
theorem otl_26 : tl_26.all (fun q => decide (decode code q.1 = .ok q.2)) = true := by decide +kernel
set_option maxRecDepth 100000 in
theorem lc_26 {b L i : Nat} {xs : Nat → Int32} (hi : i + 6 ≤ L) (hL : L ≤ 3072) (I : gI w u q) (nx : ∀ w u q, gI w u q → gl_Go l G b L xs 1168 [some (.retAddr 3000), some (.ref 0), some (.ref 95), some (.int (nI i))] [] (gv w u q) 141 18742) : gl_Go l G b L xs 1076 [some (.retAddr 3000), some (.ref 0), some (.ref 95), some (.int (nI i))] [] (gv w u q) 141 18742 := by
  repeat refine gl_gc otl_26 rfl ?_
  refine And.intro (gl_ix hi hL (by decide)) ?_
  repeat refine gl_gc otl_26 rfl ?_
  refine gp_Cal.mono (st_trial (d := 40) I) ?_
  intro r V hh
  obtain ⟨a, er, h2⟩ := hh
  have e1 : r = some (.int a) := congrArg Prod.fst er
  have e2 : gl_c V 95 = some 12 := congrArg Prod.snd er
  subst e1
  repeat refine gl_gc otl_26 rfl ?_
  refine And.intro (gl_ix hi hL (by decide)) ?_
  repeat refine gl_gc otl_26 rfl ?_
  refine gl_inv e2 rfl rfl rfl rfl rfl ?_
  refine gp_Cal.mono h2 ?_
  rintro r' V' ⟨rfl, w', u', q', rfl, I'⟩
  repeat refine gl_gc otl_26 rfl ?_
  exact And.intro (fun _ => nx w' u' q' I') (fun c => absurd rfl c)
def tl_27 : List (Nat × Instr × Nat) := [(1099, .aload_n 1, 1), (1100, .aload_n 0, 1), (1101, .iload_n 3, 1), (1102, .iconst 1, 1), (1103, .iadd, 1), (1104, .iaload, 1), (1105, .invokevirtual 129, 3), (1108, .aload_n 2, 1), (1109, .aload_n 0, 1), (1110, .iload_n 3, 1), (1111, .iconst 1, 1), (1112, .iadd, 1), (1113, .iaload, 1), (1114, .invokevirtual 132, 3), (1117, .if_icmp .eq 51, 3), (1120, .iconst 0, 1), (1121, .ireturn, 1)]
theorem otl_27 : tl_27.all (fun q => decide (decode code q.1 = .ok q.2)) = true := by decide +kernel
set_option maxRecDepth 100000 in
theorem lc_27 {b L i : Nat} {xs : Nat → Int32} (hi : i + 6 ≤ L) (hL : L ≤ 3072) (I : gI w u q) (nx : ∀ w u q, gI w u q → gl_Go l G b L xs 1168 [some (.retAddr 3000), some (.ref 0), some (.ref 95), some (.int (nI i))] [] (gv w u q) 141 18742) : gl_Go l G b L xs 1099 [some (.retAddr 3000), some (.ref 0), some (.ref 95), some (.int (nI i))] [] (gv w u q) 141 18742 := by
  repeat refine gl_gc otl_27 rfl ?_
  refine And.intro (gl_ix hi hL (by decide)) ?_
  repeat refine gl_gc otl_27 rfl ?_
  refine gp_Cal.mono (st_agrees (d := 40) I) ?_
  intro r V hh
  obtain ⟨a, er, h2⟩ := hh
  have e1 : r = some (.int a) := congrArg Prod.fst er
  have e2 : gl_c V 95 = some 12 := congrArg Prod.snd er
  subst e1
  repeat refine gl_gc otl_27 rfl ?_
  refine And.intro (gl_ix hi hL (by decide)) ?_
  repeat refine gl_gc otl_27 rfl ?_
  refine gl_inv e2 rfl rfl rfl rfl rfl ?_
  refine gp_Cal.mono h2 ?_
  rintro r' V' ⟨rfl, w', u', q', rfl, I'⟩
  repeat refine gl_gc otl_27 rfl ?_
  exact And.intro (fun _ => nx w' u' q' I') (fun c => absurd rfl c)
def tl_28 : List (Nat × Instr × Nat) := [(1122, .aload_n 1, 1), (1123, .aload_n 0, 1), (1124, .iload_n 3, 1), (1125, .iconst 1, 1), (1126, .iadd, 1), (1127, .iaload, 1), (1128, .invokevirtual 133, 3), (1131, .aload_n 2, 1), (1132, .aload_n 0, 1), (1133, .iload_n 3, 1), (1134, .iconst 1, 1), (1135, .iadd, 1), (1136, .iaload, 1), (1137, .invokevirtual 136, 3), (1140, .if_icmp .eq 28, 3), (1143, .iconst 0, 1), (1144, .ireturn, 1)]
theorem otl_28 : tl_28.all (fun q => decide (decode code q.1 = .ok q.2)) = true := by decide +kernel
set_option maxRecDepth 100000 in
theorem lc_28 {b L i : Nat} {xs : Nat → Int32} (hi : i + 6 ≤ L) (hL : L ≤ 3072) (I : gI w u q) (nx : ∀ w u q, gI w u q → gl_Go l G b L xs 1168 [some (.retAddr 3000), some (.ref 0), some (.ref 95), some (.int (nI i))] [] (gv w u q) 141 18742) : gl_Go l G b L xs 1122 [some (.retAddr 3000), some (.ref 0), some (.ref 95), some (.int (nI i))] [] (gv w u q) 141 18742 := by
  repeat refine gl_gc otl_28 rfl ?_
  refine And.intro (gl_ix hi hL (by decide)) ?_
  repeat refine gl_gc otl_28 rfl ?_
  refine gp_Cal.mono (st_ours (d := 40) I) ?_
  intro r V hh
  obtain ⟨a, er, h2⟩ := hh
  have e1 : r = some (.int a) := congrArg Prod.fst er
  have e2 : gl_c V 95 = some 12 := congrArg Prod.snd er
  subst e1
  repeat refine gl_gc otl_28 rfl ?_
  refine And.intro (gl_ix hi hL (by decide)) ?_
  repeat refine gl_gc otl_28 rfl ?_
  refine gl_inv e2 rfl rfl rfl rfl rfl ?_
  refine gp_Cal.mono h2 ?_
  rintro r' V' ⟨rfl, w', u', q', rfl, I'⟩
  repeat refine gl_gc otl_28 rfl ?_
  exact And.intro (fun _ => nx w' u' q' I') (fun c => absurd rfl c)
def tl_29 : List (Nat × Instr × Nat) := [(1145, .aload_n 1, 1), (1146, .aload_n 0, 1), (1147, .iload_n 3, 1), (1148, .iconst 1, 1), (1149, .iadd, 1), (1150, .iaload, 1), (1151, .invokevirtual 137, 3), (1154, .aload_n 2, 1), (1155, .aload_n 0, 1), (1156, .iload_n 3, 1), (1157, .iconst 1, 1), (1158, .iadd, 1), (1159, .iaload, 1), (1160, .invokevirtual 140, 3), (1163, .if_icmp .eq 5, 3), (1166, .iconst 0, 1), (1167, .ireturn, 1)]
theorem otl_29 : tl_29.all (fun q => decide (decode code q.1 = .ok q.2)) = true := by decide +kernel
set_option maxRecDepth 100000 in
theorem lc_29 {b L i : Nat} {xs : Nat → Int32} (hi : i + 6 ≤ L) (hL : L ≤ 3072) (I : gI w u q) (nx : ∀ w u q, gI w u q → gl_Go l G b L xs 1168 [some (.retAddr 3000), some (.ref 0), some (.ref 95), some (.int (nI i))] [] (gv w u q) 141 18742) : gl_Go l G b L xs 1145 [some (.retAddr 3000), some (.ref 0), some (.ref 95), some (.int (nI i))] [] (gv w u q) 141 18742 := by
  repeat refine gl_gc otl_29 rfl ?_
  refine And.intro (gl_ix hi hL (by decide)) ?_
  repeat refine gl_gc otl_29 rfl ?_
  refine gp_Cal.mono (st_look (d := 40) I) ?_
  intro r V hh
  obtain ⟨a, er, h2⟩ := hh
  have e1 : r = some (.int a) := congrArg Prod.fst er
  have e2 : gl_c V 95 = some 12 := congrArg Prod.snd er
  subst e1
  repeat refine gl_gc otl_29 rfl ?_
  refine And.intro (gl_ix hi hL (by decide)) ?_
  repeat refine gl_gc otl_29 rfl ?_
  refine gl_inv e2 rfl rfl rfl rfl rfl ?_
  refine gp_Cal.mono h2 ?_
  rintro r' V' ⟨rfl, w', u', q', rfl, I'⟩
  repeat refine gl_gc otl_29 rfl ?_
  exact And.intro (fun _ => nx w' u' q' I') (fun c => absurd rfl c)

end
