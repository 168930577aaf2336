section
variable {l : Launch} {G : gp_G} {d : Nat} {w : Nat → Nat → Int32} {u : Int64 × (Nat → Int64)} {q : Nat → Nat} {K : Option Value → gp_H → Prop}
/-! ===== what the Statement gives at the start: written by wip/whole/gen/gen5.py ===== -/
theorem gi_m1 {w : Cond} {i : Nat} (h : tables_1_1[i]? = some w) : w ∈ lw_tbl := List.mem_append_right _ (List.mem_append_left _ (List.mem_of_getElem? h))
theorem gi_m2 {w : Cond} {i : Nat} (h : tables_1_2[i]? = some w) : w ∈ lw_tbl := List.mem_append_right _ (List.mem_append_right _ (List.mem_append_left _ (List.mem_of_getElem? h)))
theorem gi_m3 {w : Cond} {i : Nat} (h : tables_1_3[i]? = some w) : w ∈ lw_tbl := List.mem_append_right _ (List.mem_append_right _ (List.mem_append_right _ (List.mem_append_left _ (List.mem_of_getElem? h))))
theorem gi_m4 {w : Cond} {i : Nat} (h : tables_1_4[i]? = some w) : w ∈ lw_tbl := List.mem_append_right _ (List.mem_append_right _ (List.mem_append_right _ (List.mem_append_right _ (List.mem_append_left _ (List.mem_of_getElem? h)))))
theorem gi_m5 {w : Cond} {i : Nat} (h : tables_1_5[i]? = some w) : w ∈ lw_tbl := List.mem_append_right _ (List.mem_append_right _ (List.mem_append_right _ (List.mem_append_right _ (List.mem_append_right _ (List.mem_append_left _ (List.mem_of_getElem? h))))))
theorem gi_m6 {w : Cond} {i : Nat} (h : tables_1_6[i]? = some w) : w ∈ lw_tbl := List.mem_append_right _ (List.mem_append_right _ (List.mem_append_right _ (List.mem_append_right _ (List.mem_append_right _ (List.mem_append_right _ (List.mem_append_left _ (List.mem_of_getElem? h)))))))
theorem gi_m7 {w : Cond} {i : Nat} (h : tables_1_7[i]? = some w) : w ∈ lw_tbl := List.mem_append_right _ (List.mem_append_right _ (List.mem_append_right _ (List.mem_append_right _ (List.mem_append_right _ (List.mem_append_right _ (List.mem_append_right _ (List.mem_append_left _ (List.mem_of_getElem? h))))))))
theorem gi_m8 {w : Cond} {i : Nat} (h : tables_1_8[i]? = some w) : w ∈ lw_tbl := List.mem_append_right _ (List.mem_append_right _ (List.mem_append_right _ (List.mem_append_right _ (List.mem_append_right _ (List.mem_append_right _ (List.mem_append_right _ (List.mem_append_right _ (List.mem_of_getElem? h))))))))
def gi_T : Jvm.Cond := Jvm.Cond.and given_1 narrow_1
def gi_F : List Jvm.Cond := flatC gi_T
def gi_tm (i : Nat) : Term := match gp_sr[i]? with
  | some q => .string q.1 q.2.1
  | none => .string "" 0
def gi_ps : List Nat := [132, 9, 55, 280, 300, 321, 343, 366, 391, 417, 444, 471, 500, 531, 562, 594, 148, 160, 172, 185, 200, 214, 230, 245, 262]
def gi_np : List (List Nat) := [[0, 146, 147, 290, 310, 331, 353, 377, 402, 428, 454, 482, 512, 542, 573, 603, 159, 170, 182, 196, 209, 224, 238, 254, 271], [146, 0, 131, 288, 308, 329, 351, 375, 400, 426, 452, 480, 510, 540, 571, 601, 157, 168, 180, 194, 207, 222, 236, 252, 269], [147, 131, 0, 289, 309, 330, 352, 376, 401, 427, 453, 481, 511, 541, 572, 602, 158, 169, 181, 195, 208, 223, 237, 253, 270], [290, 288, 289, 0, 320, 341, 363, 387, 412, 438, 464, 492, 522, 552, 583, 613, 291, 292, 293, 294, 295, 296, 297, 298, 299], [310, 308, 309, 320, 0, 342, 364, 388, 413, 439, 465, 493, 523, 553, 584, 614, 311, 312, 313, 314, 315, 316, 317, 318, 319], [331, 329, 330, 341, 342, 0, 365, 389, 414, 440, 466, 494, 524, 554, 585, 615, 332, 333, 334, 335, 336, 337, 338, 339, 340], [353, 351, 352, 363, 364, 365, 0, 390, 415, 441, 467, 495, 525, 555, 586, 616, 354, 355, 356, 357, 358, 359, 360, 361, 362], [377, 375, 376, 387, 388, 389, 390, 0, 416, 442, 468, 496, 526, 556, 587, 617, 378, 379, 380, 381, 382, 383, 384, 385, 386], [402, 400, 401, 412, 413, 414, 415, 416, 0, 443, 469, 497, 527, 557, 588, 618, 403, 404, 405, 406, 407, 408, 409, 410, 411], [428, 426, 427, 438, 439, 440, 441, 442, 443, 0, 470, 498, 528, 558, 589, 619, 429, 430, 431, 432, 433, 434, 435, 436, 437], [454, 452, 453, 464, 465, 466, 467, 468, 469, 470, 0, 499, 529, 559, 590, 620, 455, 456, 457, 458, 459, 460, 461, 462, 463], [482, 480, 481, 492, 493, 494, 495, 496, 497, 498, 499, 0, 530, 560, 591, 621, 483, 484, 485, 486, 487, 488, 489, 490, 491], [512, 510, 511, 522, 523, 524, 525, 526, 527, 528, 529, 530, 0, 561, 592, 622, 513, 514, 515, 516, 517, 518, 519, 520, 521], [542, 540, 541, 552, 553, 554, 555, 556, 557, 558, 559, 560, 561, 0, 593, 623, 543, 544, 545, 546, 547, 548, 549, 550, 551], [573, 571, 572, 583, 584, 585, 586, 587, 588, 589, 590, 591, 592, 593, 0, 624, 574, 575, 576, 577, 578, 579, 580, 581, 582], [603, 601, 602, 613, 614, 615, 616, 617, 618, 619, 620, 621, 622, 623, 624, 0, 604, 605, 606, 607, 608, 609, 610, 611, 612], [159, 157, 158, 291, 311, 332, 354, 378, 403, 429, 455, 483, 513, 543, 574, 604, 0, 171, 183, 197, 210, 225, 239, 255, 272], [170, 168, 169, 292, 312, 333, 355, 379, 404, 430, 456, 484, 514, 544, 575, 605, 171, 0, 184, 198, 211, 226, 240, 256, 273], [182, 180, 181, 293, 313, 334, 356, 380, 405, 431, 457, 485, 515, 545, 576, 606, 183, 184, 0, 199, 212, 227, 241, 257, 274], [196, 194, 195, 294, 314, 335, 357, 381, 406, 432, 458, 486, 516, 546, 577, 607, 197, 198, 199, 0, 213, 228, 242, 258, 275], [209, 207, 208, 295, 315, 336, 358, 382, 407, 433, 459, 487, 517, 547, 578, 608, 210, 211, 212, 213, 0, 229, 243, 259, 276], [224, 222, 223, 296, 316, 337, 359, 383, 408, 434, 460, 488, 518, 548, 579, 609, 225, 226, 227, 228, 229, 0, 244, 260, 277], [238, 236, 237, 297, 317, 338, 360, 384, 409, 435, 461, 489, 519, 549, 580, 610, 239, 240, 241, 242, 243, 244, 0, 261, 278], [254, 252, 253, 298, 318, 339, 361, 385, 410, 436, 462, 490, 520, 550, 581, 611, 255, 256, 257, 258, 259, 260, 261, 0, 279], [271, 269, 270, 299, 319, 340, 362, 386, 411, 437, 463, 491, 521, 551, 582, 612, 272, 273, 274, 275, 276, 277, 278, 279, 0]]
theorem gi_len : ∀ i : Nat, i < 25 → gp_sn.getD i 0 < 2 ^ 31 := by decide +kernel
theorem gi_e1 : ∀ i : Nat, i < 25 → gi_F[gi_ps.getD i 0]? = some (Cond.exactly (gi_tm i) "java/lang/String") := by decide +kernel
theorem gi_e2 : ∀ i : Nat, i < 25 → gi_F[gi_ps.getD i 0 + 1]? = some (Cond.eq (.field (gi_tm i) "java/lang/String" "coder" "B") (.int 0)) := by decide +kernel
theorem gi_e3 : ∀ i : Nat, i < 25 → gi_F[gi_ps.getD i 0 + 2]? = some (Cond.arrayOf (.field (gi_tm i) "java/lang/String" "value" "[B") .byte) := by decide +kernel
theorem gi_e4 : ∀ i : Nat, i < 25 → gi_F[gi_ps.getD i 0 + 3]? = some (Cond.eq (.length (.field (gi_tm i) "java/lang/String" "value" "[B")) (.int (Int32.ofNat (gp_sn.getD i 0)))) := by decide +kernel
theorem gi_e5 : ∀ i : Nat, i < 25 → ∀ j : Nat, j < gp_sn.getD i 0 → gi_F[gi_ps.getD i 0 + 4 + j]? = some (Cond.eq (.elem (.field (gi_tm i) "java/lang/String" "value" "[B") (.int (Int32.ofNat j))) (.int ((gp_sb.getD i []).getD j 0))) := by decide +kernel
theorem gi_e6 : ∀ i : Nat, i < 25 → ∀ j : Nat, j < 25 → i ≠ j → (gi_F[(gi_np.getD i []).getD j 0]? = some (Cond.not (Cond.eq (gi_tm i) (gi_tm j))) ∨ gi_F[(gi_np.getD i []).getD j 0]? = some (Cond.not (Cond.eq (gi_tm j) (gi_tm i)))) := by decide +kernel
theorem gi_e7 : gi_F[4]? = some (Cond.eq (.static "java/lang/String" "COMPACT_STRINGS" "Z") (.int 1)) := by decide +kernel
theorem gi_e8 : gi_F[5]? = some (Cond.isRef (.static "jdk/internal/util/Preconditions" "SIOOBE_FORMATTER" "Ljava/util/function/BiFunction;")) := by decide +kernel
theorem gi_nw : ∀ q ∈ gp_nw, Cond.methodLinkNest q.1 q.2.1 q.2.2.1 q.2.2.2 ∈ lw_tbl := List.forall_mem_cons.mpr ⟨gi_m1 (i := 116) rfl, List.forall_mem_cons.mpr ⟨gi_m1 (i := 184) rfl, List.forall_mem_cons.mpr ⟨gi_m1 (i := 202) rfl, List.forall_mem_cons.mpr ⟨gi_m2 (i := 97) rfl, List.forall_mem_cons.mpr ⟨gi_m2 (i := 113) rfl, List.forall_mem_cons.mpr ⟨gi_m2 (i := 131) rfl, List.forall_mem_cons.mpr ⟨gi_m2 (i := 186) rfl, List.forall_mem_cons.mpr ⟨gi_m1 (i := 207) rfl, List.forall_mem_cons.mpr ⟨gi_m1 (i := 38) rfl, List.forall_mem_cons.mpr ⟨gi_m4 (i := 77) rfl, List.forall_mem_cons.mpr ⟨gi_m5 (i := 155) rfl, fun _ h => absurd h List.not_mem_nil⟩⟩⟩⟩⟩⟩⟩⟩⟩⟩⟩
theorem gi_sr : ∀ q ∈ gp_sr, Cond.stringRef q.1 q.2.1 q.2.2 ∈ lw_tbl := List.forall_mem_cons.mpr ⟨gi_m3 (i := 189) rfl, List.forall_mem_cons.mpr ⟨gi_m3 (i := 123) rfl, List.forall_mem_cons.mpr ⟨gi_m3 (i := 180) rfl, List.forall_mem_cons.mpr ⟨gi_m7 (i := 2) rfl, List.forall_mem_cons.mpr ⟨gi_m7 (i := 3) rfl, List.forall_mem_cons.mpr ⟨gi_m7 (i := 4) rfl, List.forall_mem_cons.mpr ⟨gi_m7 (i := 5) rfl, List.forall_mem_cons.mpr ⟨gi_m7 (i := 6) rfl, List.forall_mem_cons.mpr ⟨gi_m7 (i := 7) rfl, List.forall_mem_cons.mpr ⟨gi_m7 (i := 8) rfl, List.forall_mem_cons.mpr ⟨gi_m7 (i := 9) rfl, List.forall_mem_cons.mpr ⟨gi_m7 (i := 10) rfl, List.forall_mem_cons.mpr ⟨gi_m7 (i := 11) rfl, List.forall_mem_cons.mpr ⟨gi_m7 (i := 12) rfl, List.forall_mem_cons.mpr ⟨gi_m7 (i := 13) rfl, List.forall_mem_cons.mpr ⟨gi_m7 (i := 14) rfl, List.forall_mem_cons.mpr ⟨gi_m6 (i := 223) rfl, List.forall_mem_cons.mpr ⟨gi_m6 (i := 230) rfl, List.forall_mem_cons.mpr ⟨gi_m6 (i := 231) rfl, List.forall_mem_cons.mpr ⟨gi_m6 (i := 232) rfl, List.forall_mem_cons.mpr ⟨gi_m6 (i := 233) rfl, List.forall_mem_cons.mpr ⟨gi_m6 (i := 234) rfl, List.forall_mem_cons.mpr ⟨gi_m6 (i := 235) rfl, List.forall_mem_cons.mpr ⟨gi_m6 (i := 236) rfl, List.forall_mem_cons.mpr ⟨gi_m6 (i := 237) rfl, fun _ h => absurd h List.not_mem_nil⟩⟩⟩⟩⟩⟩⟩⟩⟩⟩⟩⟩⟩⟩⟩⟩⟩⟩⟩⟩⟩⟩⟩⟩⟩
theorem gi_in : ∀ q ∈ gp_cl, Cond.instantiable q.1 q.2.2 ∈ lw_tbl := List.forall_mem_cons.mpr ⟨gi_m2 (i := 96) rfl, List.forall_mem_cons.mpr ⟨gi_m2 (i := 51) rfl, List.forall_mem_cons.mpr ⟨gi_m1 (i := 37) rfl, List.forall_mem_cons.mpr ⟨gi_m1 (i := 115) rfl, List.forall_mem_cons.mpr ⟨gi_m1 (i := 201) rfl, List.forall_mem_cons.mpr ⟨gi_m1 (i := 30) rfl, List.forall_mem_cons.mpr ⟨gi_m2 (i := 4) rfl, List.forall_mem_cons.mpr ⟨gi_m2 (i := 130) rfl, List.forall_mem_cons.mpr ⟨gi_m1 (i := 183) rfl, List.forall_mem_cons.mpr ⟨gi_m2 (i := 185) rfl, List.forall_mem_cons.mpr ⟨gi_m2 (i := 112) rfl, List.forall_mem_cons.mpr ⟨gi_m1 (i := 22) rfl, List.forall_mem_cons.mpr ⟨gi_m5 (i := 168) rfl, fun _ h => absurd h List.not_mem_nil⟩⟩⟩⟩⟩⟩⟩⟩⟩⟩⟩⟩⟩
theorem gi_ao4 : Cond.arrayOver (.object "GoldPlate$Mark") ∈ lw_tbl := gi_m1 (i := 36) rfl
theorem gi_ao5 : Cond.arrayOver (.object "GoldPlate$Mind") ∈ lw_tbl := gi_m1 (i := 114) rfl
theorem gi_l0 : Cond.laysStatic "java/lang/String" "COMPACT_STRINGS" "Z" ∈ lw_tbl := gi_m3 (i := 137) rfl
theorem gi_l1 : Cond.laysStatic "jdk/internal/util/Preconditions" "SIOOBE_FORMATTER" "Ljava/util/function/BiFunction;" ∈ lw_tbl := gi_m3 (i := 153) rfl
theorem gi_i0 : Cond.initialized "java/lang/String" ∈ lw_tbl := gi_m1 (i := 15) rfl
theorem gi_i1 : Cond.initialized "jdk/internal/util/Preconditions" ∈ lw_tbl := gi_m1 (i := 17) rfl
theorem gi_ar0 : Cond.arrayClass .int ∈ lw_tbl := gi_m1 (i := 88) rfl
theorem gi_ar1 : Cond.arrayClass .byte ∈ lw_tbl := gi_m2 (i := 110) rfl
theorem gi_ar2 : Cond.arrayClass .boolean ∈ lw_tbl := gi_m6 (i := 143) rfl
theorem gi_ar3 : Cond.arrayClass .long ∈ lw_tbl := gi_m2 (i := 207) rfl
theorem gi_arrP {args : Array Value} {s : State} {ty : FieldType} (hp : ∀ C, ty ≠ .object C) (h : (Cond.arrayClass ty).before args s = true) : ∃ cA : ClassId, ArrOfT s cA ty ∧ va_RA s cA ty := by
  obtain ⟨c, k, comp, h1, h2, h3⟩ := Cond.arrayClass_spec h
  refine ⟨c, fun n z => ⟨fun k h => (by cases h), k, h2, comp, h3⟩, ?_⟩
  cases ty with
  | object C => exact absurd rfl (hp C)
  | _ => exact h1
theorem gi_arrO {args : Array Value} {s : State} {C : String} (h : (Cond.arrayOver (.object C)).before args s = true) : ∃ cA : ClassId, ArrOfT s cA (.object C) ∧ va_RA s cA (.object C) := by
  obtain ⟨comp, c, k, h1, h2, h3, h4, h5⟩ := Cond.arrayOver_spec h
  exact ⟨c, fun n z => ⟨fun k h => (by cases h), k, h3, comp, h4⟩, k, comp, h3, h4, h1, h5⟩
/-- what the Statement's start gives: classes, array classes, String constants, two statics -/
theorem gi_start {s : State} {b : Nat} (hts : ∀ w ∈ lw_tbl, w.before #[Value.ref b] s = true) (hgv : (Jvm.Cond.and given_1 narrow_1).before #[Value.ref b] s = true) : ∃ G : gp_G, G.1 = s.heap.size ∧ G.2.2.2 3000 = b ∧ va_K G.2.1 gp_cl (gp_tl G) s ∧ gp_N G s s.heap := by
  have hs : ∀ c ∈ gi_F, c.before #[Value.ref b] s = true := flat_of_before _ hgv
  have hA : ∀ a : Nat, a < s.heap.size → ¬ (fun q : Nat => s.heap.size ≤ q) a := fun a h => Nat.not_le.mpr h
  obtain ⟨adK, adV, hS, hev⟩ := vk_Sof (args := #[Value.ref b]) (s := s) (N := 25) (tm := gi_tm) (len := gp_sn) (byt := gp_sb) (A := fun q : Nat => s.heap.size ≤ q) gi_len (fun i hi => hs _ (List.mem_of_getElem? (gi_e1 i hi))) (fun i hi => hs _ (List.mem_of_getElem? (gi_e2 i hi))) (fun i hi => hs _ (List.mem_of_getElem? (gi_e3 i hi))) (fun i hi => hs _ (List.mem_of_getElem? (gi_e4 i hi))) (fun i hi j hj => hs _ (List.mem_of_getElem? (gi_e5 i hi j hj))) (fun i j hi hj hij => (gi_e6 i hi j hj hij).imp (fun h => hs _ (List.mem_of_getElem? h)) (fun h => hs _ (List.mem_of_getElem? h))) hA
  have hz0 : va_Z "java/lang/String" "COMPACT_STRINGS" "Z" (.int 1) (fun q : Nat => s.heap.size ≤ q) s s.heap := va_Zof (hts _ gi_l0) (hts _ gi_i0) (va_eqi (hs _ (List.mem_of_getElem? gi_e7))) hA
  obtain ⟨vF, hF1, hF2⟩ := Cond.isRef_spec (hs _ (List.mem_of_getElem? gi_e8))
  have hz1 : va_Z "jdk/internal/util/Preconditions" "SIOOBE_FORMATTER" "Ljava/util/function/BiFunction;" vF (fun q : Nat => s.heap.size ≤ q) s s.heap := va_Zof (hts _ gi_l1) (hts _ gi_i1) hF1 hA
  obtain ⟨aF, hF⟩ : ∃ aF : Nat, vF = .null ∨ vF = .ref aF := by
    cases vF with
    | null => exact ⟨0, Or.inl rfl⟩
    | ref a => exact ⟨a, Or.inr rfl⟩
    | _ => simp [Value.isRef] at hF2
  obtain ⟨c0, k0⟩ := gi_arrP (ty := .int) (fun _ h => (by cases h)) (hts _ gi_ar0)
  obtain ⟨c1, k1⟩ := gi_arrP (ty := .byte) (fun _ h => (by cases h)) (hts _ gi_ar1)
  obtain ⟨c2, k2⟩ := gi_arrP (ty := .boolean) (fun _ h => (by cases h)) (hts _ gi_ar2)
  obtain ⟨c3, k3⟩ := gi_arrP (ty := .long) (fun _ h => (by cases h)) (hts _ gi_ar3)
  obtain ⟨c4, k4⟩ := gi_arrO (hts _ gi_ao4)
  obtain ⟨c5, k5⟩ := gi_arrO (hts _ gi_ao5)
  have hcl : ∀ k : Nat, ∃ y : ClassId × (Nat → Nat), ∀ q : vw_C, gp_cl[k]? = some q → u_Kn s q.1 q.2.1 q.2.2 y.1 y.2 := by
    intro k
    cases hq : gp_cl[k]? with
    | none => exact ⟨(c0, fun _ => 0), fun q h => by cases h⟩
    | some q =>
      obtain ⟨C, T, N⟩ := q
      obtain ⟨ty, z0, z1, z2⟩ := gp_cA _ _ hq
      obtain ⟨cC, iS, hk⟩ := u_known (C := C) (T := T) (N := N) (n := N) hts (fun w hw => (List.mem_filter.mp (z1 w hw)).1) (hts _ (gi_in _ (List.mem_of_getElem? hq)))
      exact ⟨(cC, iS), fun q h => by cases h; exact hk⟩
  obtain ⟨dd, hd⟩ := Classical.axiomOfChoice hcl
  refine ⟨(s.heap.size, (fun k => (dd k).1, fun k => (dd k).2), (fun t => match t with
    | 0 => c0
    | 1 => c1
    | 2 => c2
    | 3 => c3
    | 4 => c4
    | _ => c5), fun i => if i < 1000 then adK i else if i < 2000 then adV (i - 1000) else if i < 3000 then aF else b), rfl, rfl, ⟨fun c q hq => hd c q hq, fun k q hq => ?_⟩, ?_⟩
  · match k, hq with
    | 0, hq => cases hq; exact k0
    | 1, hq => cases hq; exact k1
    | 2, hq => cases hq; exact k2
    | 3, hq => cases hq; exact k3
    | 4, hq => cases hq; exact k4
    | 5, hq => cases hq; exact k5
    | k + 6, hq => simp [gp_tl] at hq
  · refine ⟨fun q hq => va_Nw.of rfl (hts _ (gi_nw q hq)), va_AO.of (hts _ gi_ao4), va_AO.of (hts _ gi_ao5), fun i q hq => ?_, ⟨fun i hi => ?_, fun i j hi hj hij => ?_⟩, hz0, ?_⟩
    · have hi : i < 25 := (List.getElem?_eq_some_iff.mp hq).1
      have e1 : gi_tm i = .string q.1 q.2.1 := by
        unfold gi_tm
        rw [hq]
      have e2 := hev i hi
      rw [e1] at e2
      show vk_R q.1 q.2.1 q.2.2 (if i < 1000 then adK i else if i < 2000 then adV (i - 1000) else if i < 3000 then aF else b) s
      rw [if_pos (by omega)]
      exact vk_R.of (hts _ (gi_sr q (List.mem_of_getElem? hq))) e2
    · have h := hS.1 i hi
      have e1 : (if i < 1000 then adK i else if i < 2000 then adV (i - 1000) else if i < 3000 then aF else b) = adK i := if_pos (by omega)
      have e2 : (if 1000 + i < 1000 then adK (1000 + i) else if 1000 + i < 2000 then adV (1000 + i - 1000) else if 1000 + i < 3000 then aF else b) = adV i := by
        rw [if_neg (by omega), if_pos (by omega), Nat.add_sub_cancel_left]
      show va_O "java/lang/String" (if i < 1000 then adK i else if i < 2000 then adV (i - 1000) else if i < 3000 then aF else b) (fun q : Nat => s.heap.size ≤ q) s s.heap ∧ va_OF "java/lang/String" "coder" "B" (.int 0) (if i < 1000 then adK i else if i < 2000 then adV (i - 1000) else if i < 3000 then aF else b) (fun q : Nat => s.heap.size ≤ q) s s.heap ∧ va_OF "java/lang/String" "value" "[B" (.ref (if 1000 + i < 1000 then adK (1000 + i) else if 1000 + i < 2000 then adV (1000 + i - 1000) else if 1000 + i < 3000 then aF else b)) (if i < 1000 then adK i else if i < 2000 then adV (i - 1000) else if i < 3000 then aF else b) (fun q : Nat => s.heap.size ≤ q) s s.heap ∧ va_T .byte (if 1000 + i < 1000 then adK (1000 + i) else if 1000 + i < 2000 then adV (1000 + i - 1000) else if 1000 + i < 3000 then aF else b) (gp_sn.getD i 0) (fun j => .int ((gp_sb.getD i []).getD j 0)) (fun q : Nat => s.heap.size ≤ q) s s.heap
      rw [e1, e2]
      exact h
    · have e1 : ∀ i : Nat, i < 25 → (if i < 1000 then adK i else if i < 2000 then adV (i - 1000) else if i < 3000 then aF else b) = adK i := fun i hi => if_pos (by omega)
      have hij : (if i < 1000 then adK i else if i < 2000 then adV (i - 1000) else if i < 3000 then aF else b) = (if j < 1000 then adK j else if j < 2000 then adV (j - 1000) else if j < 3000 then aF else b) := hij
      rw [e1 i hi, e1 j hj] at hij
      exact hS.2 i j hi hj hij
    · rcases hF with rfl | rfl
      · exact Or.inl hz1
      · exact Or.inr hz1


end
