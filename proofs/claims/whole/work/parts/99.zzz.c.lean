section
variable {l : Launch} {G : gp_G} {d : Nat} {w : Nat → Nat → Int32} {u : Int64 × (Nat → Int64)} {q : Nat → Nat} {K : Option Value → gp_H → Prop}
/-! ===== the reference's constructor: written by wip/whole/gen/gen6.py ===== -/
/-- how the world begins -/
def gi_wm (k : Nat) : Int32 := bif (Nat.beq k 7 || Nat.beq k 8) then Int32.ofInt (-1) else 0
def gi_wp (k : Nat) : Int32 := bif Nat.beq k 8 then Int32.ofInt (-1) else 0
def gi_wr (k : Nat) : Int32 := bif (Nat.beq k 13 || Nat.beq k 42) then Int32.ofInt (-1) else 0
def gi_w0 (a : Nat) : Nat → Int32 := bif (Nat.ble 5 a && Nat.ble a 20) then gi_wm else bif Nat.beq a 55 then gi_wp else bif Nat.beq a 95 then gi_wr else fun _ => 0
def gi_u0 : Int64 × (Nat → Int64) := (0, fun _ => 0)
def gi_C : gp_H := [gc_0 gi_w0 gi_u0 id, gc_1 gi_w0 gi_u0 id, gc_2 gi_w0 gi_u0 id, gc_3 gi_w0 gi_u0 id, gc_4 gi_w0 gi_u0 id, gc_5 gi_w0 gi_u0 id, gc_6 gi_w0 gi_u0 id, gc_7 gi_w0 gi_u0 id, gc_8 gi_w0 gi_u0 id, gc_9 gi_w0 gi_u0 id, gc_10 gi_w0 gi_u0 id, gc_11 gi_w0 gi_u0 id, gc_12 gi_w0 gi_u0 id, gc_13 gi_w0 gi_u0 id, gc_14 gi_w0 gi_u0 id, gc_15 gi_w0 gi_u0 id, gc_16 gi_w0 gi_u0 id, gc_17 gi_w0 gi_u0 id, gc_18 gi_w0 gi_u0 id, gc_19 gi_w0 gi_u0 id, gc_20 gi_w0 gi_u0 id, gc_21 gi_w0 gi_u0 id, gc_22 gi_w0 gi_u0 id, gc_23 gi_w0 gi_u0 id, gc_24 gi_w0 gi_u0 id, gc_25 gi_w0 gi_u0 id, gc_26 gi_w0 gi_u0 id, gc_27 gi_w0 gi_u0 id, gc_28 gi_w0 gi_u0 id, gc_29 gi_w0 gi_u0 id, gc_30 gi_w0 gi_u0 id, gc_31 gi_w0 gi_u0 id, gc_32 gi_w0 gi_u0 id, gc_33 gi_w0 gi_u0 id, gc_34 gi_w0 gi_u0 id, gc_35 gi_w0 gi_u0 id, gc_36 gi_w0 gi_u0 id, gc_37 gi_w0 gi_u0 id, gc_38 gi_w0 gi_u0 id, gc_39 gi_w0 gi_u0 id, gc_40 gi_w0 gi_u0 id, gc_41 gi_w0 gi_u0 id, gc_42 gi_w0 gi_u0 id, gc_43 gi_w0 gi_u0 id, gc_44 gi_w0 gi_u0 id, gc_45 gi_w0 gi_u0 id, gc_46 gi_w0 gi_u0 id, gc_47 gi_w0 gi_u0 id, gc_48 gi_w0 gi_u0 id, gc_49 gi_w0 gi_u0 id, gc_50 gi_w0 gi_u0 id, gc_51 gi_w0 gi_u0 id, gc_52 gi_w0 gi_u0 id, gc_53 gi_w0 gi_u0 id, gc_54 gi_w0 gi_u0 id, gc_55 gi_w0 gi_u0 id, gc_56 gi_w0 gi_u0 id, gc_57 gi_w0 gi_u0 id, gc_58 gi_w0 gi_u0 id, gc_59 gi_w0 gi_u0 id, gc_60 gi_w0 gi_u0 id, gc_61 gi_w0 gi_u0 id, gc_62 gi_w0 gi_u0 id, gc_63 gi_w0 gi_u0 id, gc_64 gi_w0 gi_u0 id, gc_65 gi_w0 gi_u0 id, gc_66 gi_w0 gi_u0 id, gc_67 gi_w0 gi_u0 id, gc_68 gi_w0 gi_u0 id, gc_69 gi_w0 gi_u0 id, gc_70 gi_w0 gi_u0 id, gc_71 gi_w0 gi_u0 id, gc_72 gi_w0 gi_u0 id, gc_73 gi_w0 gi_u0 id, gc_74 gi_w0 gi_u0 id, gc_75 gi_w0 gi_u0 id, gc_76 gi_w0 gi_u0 id, gc_77 gi_w0 gi_u0 id, gc_78 gi_w0 gi_u0 id, gc_79 gi_w0 gi_u0 id, gc_80 gi_w0 gi_u0 id, gc_81 gi_w0 gi_u0 id, gc_82 gi_w0 gi_u0 id, gc_83 gi_w0 gi_u0 id, gc_84 gi_w0 gi_u0 id, gc_85 gi_w0 gi_u0 id, gc_86 gi_w0 gi_u0 id, gc_87 gi_w0 gi_u0 id, gc_88 gi_w0 gi_u0 id, gc_89 gi_w0 gi_u0 id, gc_90 gi_w0 gi_u0 id, gc_91 gi_w0 gi_u0 id, gc_92 gi_w0 gi_u0 id, gc_93 gi_w0 gi_u0 id, gc_94 gi_w0 gi_u0 id]
def gi_R : gp_H := [gc_95 gi_w0 gi_u0 id, gc_96 gi_w0 gi_u0 id, gc_97 gi_w0 gi_u0 id, gc_98 gi_w0 gi_u0 id, gc_99 gi_w0 gi_u0 id, gc_100 gi_w0 gi_u0 id, gc_101 gi_w0 gi_u0 id, gc_102 gi_w0 gi_u0 id, gc_103 gi_w0 gi_u0 id, gc_104 gi_w0 gi_u0 id, gc_105 gi_w0 gi_u0 id, gc_106 gi_w0 gi_u0 id, gc_107 gi_w0 gi_u0 id, gc_108 gi_w0 gi_u0 id, gc_109 gi_w0 gi_u0 id, gc_110 gi_w0 gi_u0 id, gc_111 gi_w0 gi_u0 id, gc_112 gi_w0 gi_u0 id, gc_113 gi_w0 gi_u0 id, gc_114 gi_w0 gi_u0 id, gc_115 gi_w0 gi_u0 id, gc_116 gi_w0 gi_u0 id, gc_117 gi_w0 gi_u0 id, gc_118 gi_w0 gi_u0 id, gc_119 gi_w0 gi_u0 id, gc_120 gi_w0 gi_u0 id, gc_121 gi_w0 gi_u0 id, gc_122 gi_w0 gi_u0 id, gc_123 gi_w0 gi_u0 id, gc_124 gi_w0 gi_u0 id, gc_125 gi_w0 gi_u0 id, gc_126 gi_w0 gi_u0 id, gc_127 gi_w0 gi_u0 id, gc_128 gi_w0 gi_u0 id, gc_129 gi_w0 gi_u0 id, gc_130 gi_w0 gi_u0 id, gc_131 gi_w0 gi_u0 id, gc_132 gi_w0 gi_u0 id, gc_133 gi_w0 gi_u0 id, gc_134 gi_w0 gi_u0 id, gc_135 gi_w0 gi_u0 id, gc_136 gi_w0 gi_u0 id, gc_137 gi_w0 gi_u0 id, gc_138 gi_w0 gi_u0 id, gc_139 gi_w0 gi_u0 id, gc_140 gi_w0 gi_u0 id]
set_option maxRecDepth 100000 in
theorem gi_CR : gi_C ++ gi_R = gv gi_w0 gi_u0 id := rfl
set_option maxRecDepth 100000 in
set_option maxHeartbeats 4000000 in
theorem sp_Rf_init {P : gp_H} (hP : P.length = 95) (h : K none (P ++ gi_R)) : gp_Cal l G (d + 1) m_Rf_init [.ref P.length] (P ++ [.inr (12, gp_df 12)]) K := by
  refine gp_enter od_Rf_init rfl ?_
  (repeat refine gp_gc [] od_Rf_init rfl rfl ?_)
  refine gn_new_int (N := 16) (by decide) (by decide) (by decide) (by decide) (by decide) ?_
  (repeat refine gp_gc [] od_Rf_init rfl rfl ?_)
  refine gn_put rfl rfl rfl rfl ?_
  (repeat refine gp_gc [] od_Rf_init rfl rfl ?_)
  refine gn_new_int (N := 16) (by decide) (by decide) (by decide) (by decide) (by decide) ?_
  (repeat refine gp_gc [] od_Rf_init rfl rfl ?_)
  refine gn_put rfl rfl rfl rfl ?_
  (repeat refine gp_gc [] od_Rf_init rfl rfl ?_)
  refine gn_new_int (N := 16) (by decide) (by decide) (by decide) (by decide) (by decide) ?_
  (repeat refine gp_gc [] od_Rf_init rfl rfl ?_)
  refine gn_put rfl rfl rfl rfl ?_
  (repeat refine gp_gc [] od_Rf_init rfl rfl ?_)
  refine gn_new_int (N := 16) (by decide) (by decide) (by decide) (by decide) (by decide) ?_
  (repeat refine gp_gc [] od_Rf_init rfl rfl ?_)
  refine gn_put rfl rfl rfl rfl ?_
  (repeat refine gp_gc [] od_Rf_init rfl rfl ?_)
  refine gn_new_int (N := 16) (by decide) (by decide) (by decide) (by decide) (by decide) ?_
  (repeat refine gp_gc [] od_Rf_init rfl rfl ?_)
  refine gn_put rfl rfl rfl rfl ?_
  (repeat refine gp_gc [] od_Rf_init rfl rfl ?_)
  refine gn_new_int (N := 16) (by decide) (by decide) (by decide) (by decide) (by decide) ?_
  (repeat refine gp_gc [] od_Rf_init rfl rfl ?_)
  refine gn_put rfl rfl rfl rfl ?_
  (repeat refine gp_gc [] od_Rf_init rfl rfl ?_)
  refine gn_new_int (N := 16) (by decide) (by decide) (by decide) (by decide) (by decide) ?_
  (repeat refine gp_gc [] od_Rf_init rfl rfl ?_)
  refine gn_put rfl rfl rfl rfl ?_
  (repeat refine gp_gc [] od_Rf_init rfl rfl ?_)
  refine gn_new_int (N := 32) (by decide) (by decide) (by decide) (by decide) (by decide) ?_
  (repeat refine gp_gc [] od_Rf_init rfl rfl ?_)
  refine gn_put rfl rfl rfl rfl ?_
  (repeat refine gp_gc [] od_Rf_init rfl rfl ?_)
  refine gn_new_int (N := 7) (by decide) (by decide) (by decide) (by decide) (by decide) ?_
  (repeat refine gp_gc [] od_Rf_init rfl rfl ?_)
  refine gn_put rfl rfl rfl rfl ?_
  (repeat refine gp_gc [] od_Rf_init rfl rfl ?_)
  refine gn_new_int (N := 16) (by decide) (by decide) (by decide) (by decide) (by decide) ?_
  (repeat refine gp_gc [] od_Rf_init rfl rfl ?_)
  refine gn_put rfl rfl rfl rfl ?_
  (repeat refine gp_gc [] od_Rf_init rfl rfl ?_)
  refine gn_putI rfl rfl ?_
  (repeat refine gp_gc [] od_Rf_init rfl rfl ?_)
  refine gn_new_int (N := 16) (by decide) (by decide) (by decide) (by decide) (by decide) ?_
  (repeat refine gp_gc [] od_Rf_init rfl rfl ?_)
  refine gn_put rfl rfl rfl rfl ?_
  (repeat refine gp_gc [] od_Rf_init rfl rfl ?_)
  refine gn_new_int (N := 7) (by decide) (by decide) (by decide) (by decide) (by decide) ?_
  (repeat refine gp_gc [] od_Rf_init rfl rfl ?_)
  refine gn_put rfl rfl rfl rfl ?_
  (repeat refine gp_gc [] od_Rf_init rfl rfl ?_)
  refine gn_new_int (N := 7) (by decide) (by decide) (by decide) (by decide) (by decide) ?_
  (repeat refine gp_gc [] od_Rf_init rfl rfl ?_)
  refine gn_put rfl rfl rfl rfl ?_
  (repeat refine gp_gc [] od_Rf_init rfl rfl ?_)
  refine gn_new_int (N := 7) (by decide) (by decide) (by decide) (by decide) (by decide) ?_
  (repeat refine gp_gc [] od_Rf_init rfl rfl ?_)
  refine gn_put rfl rfl rfl rfl ?_
  (repeat refine gp_gc [] od_Rf_init rfl rfl ?_)
  refine gn_new_int (N := 7) (by decide) (by decide) (by decide) (by decide) (by decide) ?_
  (repeat refine gp_gc [] od_Rf_init rfl rfl ?_)
  refine gn_put rfl rfl rfl rfl ?_
  (repeat refine gp_gc [] od_Rf_init rfl rfl ?_)
  refine gn_new_int (N := 7) (by decide) (by decide) (by decide) (by decide) (by decide) ?_
  (repeat refine gp_gc [] od_Rf_init rfl rfl ?_)
  refine gn_put rfl rfl rfl rfl ?_
  (repeat refine gp_gc [] od_Rf_init rfl rfl ?_)
  refine gn_new_int (N := 7) (by decide) (by decide) (by decide) (by decide) (by decide) ?_
  (repeat refine gp_gc [] od_Rf_init rfl rfl ?_)
  refine gn_put rfl rfl rfl rfl ?_
  (repeat refine gp_gc [] od_Rf_init rfl rfl ?_)
  refine gn_new_int (N := 7) (by decide) (by decide) (by decide) (by decide) (by decide) ?_
  (repeat refine gp_gc [] od_Rf_init rfl rfl ?_)
  refine gn_put rfl rfl rfl rfl ?_
  (repeat refine gp_gc [] od_Rf_init rfl rfl ?_)
  refine gn_new_int (N := 112) (by decide) (by decide) (by decide) (by decide) (by decide) ?_
  (repeat refine gp_gc [] od_Rf_init rfl rfl ?_)
  refine gn_put rfl rfl rfl rfl ?_
  (repeat refine gp_gc [] od_Rf_init rfl rfl ?_)
  refine gn_new_int (N := 112) (by decide) (by decide) (by decide) (by decide) (by decide) ?_
  (repeat refine gp_gc [] od_Rf_init rfl rfl ?_)
  refine gn_put rfl rfl rfl rfl ?_
  (repeat refine gp_gc [] od_Rf_init rfl rfl ?_)
  refine gn_new_int (N := 112) (by decide) (by decide) (by decide) (by decide) (by decide) ?_
  (repeat refine gp_gc [] od_Rf_init rfl rfl ?_)
  refine gn_put rfl rfl rfl rfl ?_
  (repeat refine gp_gc [] od_Rf_init rfl rfl ?_)
  refine gn_new_int (N := 7140) (by decide) (by decide) (by decide) (by decide) (by decide) ?_
  (repeat refine gp_gc [] od_Rf_init rfl rfl ?_)
  refine gn_put rfl rfl rfl rfl ?_
  (repeat refine gp_gc [] od_Rf_init rfl rfl ?_)
  refine gn_new_int (N := 500) (by decide) (by decide) (by decide) (by decide) (by decide) ?_
  (repeat refine gp_gc [] od_Rf_init rfl rfl ?_)
  refine gn_put rfl rfl rfl rfl ?_
  (repeat refine gp_gc [] od_Rf_init rfl rfl ?_)
  refine gn_new_int (N := 520) (by decide) (by decide) (by decide) (by decide) (by decide) ?_
  (repeat refine gp_gc [] od_Rf_init rfl rfl ?_)
  refine gn_put rfl rfl rfl rfl ?_
  (repeat refine gp_gc [] od_Rf_init rfl rfl ?_)
  refine gn_new_int (N := 14) (by decide) (by decide) (by decide) (by decide) (by decide) ?_
  (repeat refine gp_gc [] od_Rf_init rfl rfl ?_)
  refine gn_put rfl rfl rfl rfl ?_
  (repeat refine gp_gc [] od_Rf_init rfl rfl ?_)
  refine gn_new_boolean (N := 7) (by decide) (by decide) (by decide) (by decide) (by decide) ?_
  (repeat refine gp_gc [] od_Rf_init rfl rfl ?_)
  refine gn_put rfl rfl rfl rfl ?_
  (repeat refine gp_gc [] od_Rf_init rfl rfl ?_)
  refine gn_new_boolean (N := 7) (by decide) (by decide) (by decide) (by decide) (by decide) ?_
  (repeat refine gp_gc [] od_Rf_init rfl rfl ?_)
  refine gn_put rfl rfl rfl rfl ?_
  (repeat refine gp_gc [] od_Rf_init rfl rfl ?_)
  refine gn_putI rfl rfl ?_
  (repeat refine gp_gc [] od_Rf_init rfl rfl ?_)
  refine gn_new_int (N := 80) (by decide) (by decide) (by decide) (by decide) (by decide) ?_
  (repeat refine gp_gc [] od_Rf_init rfl rfl ?_)
  refine gn_put rfl rfl rfl rfl ?_
  (repeat refine gp_gc [] od_Rf_init rfl rfl ?_)
  refine gn_new_int (N := 10) (by decide) (by decide) (by decide) (by decide) (by decide) ?_
  (repeat refine gp_gc [] od_Rf_init rfl rfl ?_)
  refine gn_put rfl rfl rfl rfl ?_
  (repeat refine gp_gc [] od_Rf_init rfl rfl ?_)
  refine gn_new_int (N := 10) (by decide) (by decide) (by decide) (by decide) (by decide) ?_
  (repeat refine gp_gc [] od_Rf_init rfl rfl ?_)
  refine gn_put rfl rfl rfl rfl ?_
  (repeat refine gp_gc [] od_Rf_init rfl rfl ?_)
  refine gn_new_int (N := 400) (by decide) (by decide) (by decide) (by decide) (by decide) ?_
  (repeat refine gp_gc [] od_Rf_init rfl rfl ?_)
  refine gn_put rfl rfl rfl rfl ?_
  (repeat refine gp_gc [] od_Rf_init rfl rfl ?_)
  refine gn_new_int (N := 400) (by decide) (by decide) (by decide) (by decide) (by decide) ?_
  (repeat refine gp_gc [] od_Rf_init rfl rfl ?_)
  refine gn_put rfl rfl rfl rfl ?_
  (repeat refine gp_gc [] od_Rf_init rfl rfl ?_)
  refine gn_new_int (N := 400) (by decide) (by decide) (by decide) (by decide) (by decide) ?_
  (repeat refine gp_gc [] od_Rf_init rfl rfl ?_)
  refine gn_put rfl rfl rfl rfl ?_
  (repeat refine gp_gc [] od_Rf_init rfl rfl ?_)
  refine gn_new_int (N := 400) (by decide) (by decide) (by decide) (by decide) (by decide) ?_
  (repeat refine gp_gc [] od_Rf_init rfl rfl ?_)
  refine gn_put rfl rfl rfl rfl ?_
  (repeat refine gp_gc [] od_Rf_init rfl rfl ?_)
  refine gn_new_int (N := 14) (by decide) (by decide) (by decide) (by decide) (by decide) ?_
  (repeat refine gp_gc [] od_Rf_init rfl rfl ?_)
  refine gn_put rfl rfl rfl rfl ?_
  (repeat refine gp_gc [] od_Rf_init rfl rfl ?_)
  refine gn_new_int (N := 14) (by decide) (by decide) (by decide) (by decide) (by decide) ?_
  (repeat refine gp_gc [] od_Rf_init rfl rfl ?_)
  refine gn_put rfl rfl rfl rfl ?_
  (repeat refine gp_gc [] od_Rf_init rfl rfl ?_)
  refine gn_new_int (N := 14) (by decide) (by decide) (by decide) (by decide) (by decide) ?_
  (repeat refine gp_gc [] od_Rf_init rfl rfl ?_)
  refine gn_put rfl rfl rfl rfl ?_
  (repeat refine gp_gc [] od_Rf_init rfl rfl ?_)
  refine gn_new_int (N := 14) (by decide) (by decide) (by decide) (by decide) (by decide) ?_
  (repeat refine gp_gc [] od_Rf_init rfl rfl ?_)
  refine gn_put rfl rfl rfl rfl ?_
  (repeat refine gp_gc [] od_Rf_init rfl rfl ?_)
  refine gn_new_int (N := 14) (by decide) (by decide) (by decide) (by decide) (by decide) ?_
  (repeat refine gp_gc [] od_Rf_init rfl rfl ?_)
  refine gn_put rfl rfl rfl rfl ?_
  (repeat refine gp_gc [] od_Rf_init rfl rfl ?_)
  refine gn_new_int (N := 14) (by decide) (by decide) (by decide) (by decide) (by decide) ?_
  (repeat refine gp_gc [] od_Rf_init rfl rfl ?_)
  refine gn_put rfl rfl rfl rfl ?_
  (repeat refine gp_gc [] od_Rf_init rfl rfl ?_)
  refine gn_new_int (N := 14) (by decide) (by decide) (by decide) (by decide) (by decide) ?_
  (repeat refine gp_gc [] od_Rf_init rfl rfl ?_)
  refine gn_put rfl rfl rfl rfl ?_
  (repeat refine gp_gc [] od_Rf_init rfl rfl ?_)
  refine gn_new_int (N := 40) (by decide) (by decide) (by decide) (by decide) (by decide) ?_
  (repeat refine gp_gc [] od_Rf_init rfl rfl ?_)
  refine gn_put rfl rfl rfl rfl ?_
  (repeat refine gp_gc [] od_Rf_init rfl rfl ?_)
  refine gn_new_int (N := 400) (by decide) (by decide) (by decide) (by decide) (by decide) ?_
  (repeat refine gp_gc [] od_Rf_init rfl rfl ?_)
  refine gn_put rfl rfl rfl rfl ?_
  (repeat refine gp_gc [] od_Rf_init rfl rfl ?_)
  refine gn_new_int (N := 40) (by decide) (by decide) (by decide) (by decide) (by decide) ?_
  (repeat refine gp_gc [] od_Rf_init rfl rfl ?_)
  refine gn_put rfl rfl rfl rfl ?_
  (repeat refine gp_gc [] od_Rf_init rfl rfl ?_)
  refine gn_new_int (N := 16) (by decide) (by decide) (by decide) (by decide) (by decide) ?_
  (repeat refine gp_gc [] od_Rf_init rfl rfl ?_)
  refine gn_put rfl rfl rfl rfl ?_
  (repeat refine gp_gc [] od_Rf_init rfl rfl ?_)
  rw [hP]
  exact h

end
