/-! ===== the world: written by wip/whole/gen/gen4.py: the class's cells, then the reference's; w: every int by cell and place; u: the longs; q: which mind stands where (6: the draft) ===== -/
def gp_ma : Nat → Nat := fun m => match m with
  | 0 => 22
  | 1 => 27
  | 2 => 32
  | 3 => 37
  | 4 => 42
  | 5 => 47
  | 6 => 60
  | _ => 0
def gc_0 (w : Nat → Nat → Int32) (u : Int64 × (Nat → Int64)) (q : Nat → Nat) : gp_E := .inr (11, [.ref 1, .ref 21, .ref 55, .ref 52, .ref 65, .ref 72, .ref 76, .ref 78, .ref 80, .ref 83, .ref 91, .long u.1, .int (w 0 12)])
def gc_1 (w : Nat → Nat → Int32) (u : Int64 × (Nat → Int64)) (q : Nat → Nat) : gp_E := .inr (5, [.ref 2, .ref 3, .ref 4, .int (w 1 3), .int (w 1 4)])
def gc_2 (w : Nat → Nat → Int32) (u : Int64 × (Nat → Int64)) (q : Nat → Nat) : gp_E := .inl (4, 16, .inr (.inr (.inr (.inr (fun j => some (5 + j))))))
def gc_3 (w : Nat → Nat → Int32) (u : Int64 × (Nat → Int64)) (q : Nat → Nat) : gp_E := .inl (0, 7, .inl (w 3))
def gc_4 (w : Nat → Nat → Int32) (u : Int64 × (Nat → Int64)) (q : Nat → Nat) : gp_E := .inl (0, 16, .inl (w 4))
def gc_5 (w : Nat → Nat → Int32) (u : Int64 × (Nat → Int64)) (q : Nat → Nat) : gp_E := .inr (2, [.int (w 5 0), .int (w 5 1), .int (w 5 2), .int (w 5 3), .int (w 5 4), .int (w 5 5), .int (w 5 6), .int (w 5 7), .int (w 5 8)])
def gc_6 (w : Nat → Nat → Int32) (u : Int64 × (Nat → Int64)) (q : Nat → Nat) : gp_E := .inr (2, [.int (w 6 0), .int (w 6 1), .int (w 6 2), .int (w 6 3), .int (w 6 4), .int (w 6 5), .int (w 6 6), .int (w 6 7), .int (w 6 8)])
def gc_7 (w : Nat → Nat → Int32) (u : Int64 × (Nat → Int64)) (q : Nat → Nat) : gp_E := .inr (2, [.int (w 7 0), .int (w 7 1), .int (w 7 2), .int (w 7 3), .int (w 7 4), .int (w 7 5), .int (w 7 6), .int (w 7 7), .int (w 7 8)])
def gc_8 (w : Nat → Nat → Int32) (u : Int64 × (Nat → Int64)) (q : Nat → Nat) : gp_E := .inr (2, [.int (w 8 0), .int (w 8 1), .int (w 8 2), .int (w 8 3), .int (w 8 4), .int (w 8 5), .int (w 8 6), .int (w 8 7), .int (w 8 8)])
def gc_9 (w : Nat → Nat → Int32) (u : Int64 × (Nat → Int64)) (q : Nat → Nat) : gp_E := .inr (2, [.int (w 9 0), .int (w 9 1), .int (w 9 2), .int (w 9 3), .int (w 9 4), .int (w 9 5), .int (w 9 6), .int (w 9 7), .int (w 9 8)])
def gc_10 (w : Nat → Nat → Int32) (u : Int64 × (Nat → Int64)) (q : Nat → Nat) : gp_E := .inr (2, [.int (w 10 0), .int (w 10 1), .int (w 10 2), .int (w 10 3), .int (w 10 4), .int (w 10 5), .int (w 10 6), .int (w 10 7), .int (w 10 8)])
def gc_11 (w : Nat → Nat → Int32) (u : Int64 × (Nat → Int64)) (q : Nat → Nat) : gp_E := .inr (2, [.int (w 11 0), .int (w 11 1), .int (w 11 2), .int (w 11 3), .int (w 11 4), .int (w 11 5), .int (w 11 6), .int (w 11 7), .int (w 11 8)])
def gc_12 (w : Nat → Nat → Int32) (u : Int64 × (Nat → Int64)) (q : Nat → Nat) : gp_E := .inr (2, [.int (w 12 0), .int (w 12 1), .int (w 12 2), .int (w 12 3), .int (w 12 4), .int (w 12 5), .int (w 12 6), .int (w 12 7), .int (w 12 8)])
def gc_13 (w : Nat → Nat → Int32) (u : Int64 × (Nat → Int64)) (q : Nat → Nat) : gp_E := .inr (2, [.int (w 13 0), .int (w 13 1), .int (w 13 2), .int (w 13 3), .int (w 13 4), .int (w 13 5), .int (w 13 6), .int (w 13 7), .int (w 13 8)])
def gc_14 (w : Nat → Nat → Int32) (u : Int64 × (Nat → Int64)) (q : Nat → Nat) : gp_E := .inr (2, [.int (w 14 0), .int (w 14 1), .int (w 14 2), .int (w 14 3), .int (w 14 4), .int (w 14 5), .int (w 14 6), .int (w 14 7), .int (w 14 8)])
def gc_15 (w : Nat → Nat → Int32) (u : Int64 × (Nat → Int64)) (q : Nat → Nat) : gp_E := .inr (2, [.int (w 15 0), .int (w 15 1), .int (w 15 2), .int (w 15 3), .int (w 15 4), .int (w 15 5), .int (w 15 6), .int (w 15 7), .int (w 15 8)])
def gc_16 (w : Nat → Nat → Int32) (u : Int64 × (Nat → Int64)) (q : Nat → Nat) : gp_E := .inr (2, [.int (w 16 0), .int (w 16 1), .int (w 16 2), .int (w 16 3), .int (w 16 4), .int (w 16 5), .int (w 16 6), .int (w 16 7), .int (w 16 8)])
def gc_17 (w : Nat → Nat → Int32) (u : Int64 × (Nat → Int64)) (q : Nat → Nat) : gp_E := .inr (2, [.int (w 17 0), .int (w 17 1), .int (w 17 2), .int (w 17 3), .int (w 17 4), .int (w 17 5), .int (w 17 6), .int (w 17 7), .int (w 17 8)])
def gc_18 (w : Nat → Nat → Int32) (u : Int64 × (Nat → Int64)) (q : Nat → Nat) : gp_E := .inr (2, [.int (w 18 0), .int (w 18 1), .int (w 18 2), .int (w 18 3), .int (w 18 4), .int (w 18 5), .int (w 18 6), .int (w 18 7), .int (w 18 8)])
def gc_19 (w : Nat → Nat → Int32) (u : Int64 × (Nat → Int64)) (q : Nat → Nat) : gp_E := .inr (2, [.int (w 19 0), .int (w 19 1), .int (w 19 2), .int (w 19 3), .int (w 19 4), .int (w 19 5), .int (w 19 6), .int (w 19 7), .int (w 19 8)])
def gc_20 (w : Nat → Nat → Int32) (u : Int64 × (Nat → Int64)) (q : Nat → Nat) : gp_E := .inr (2, [.int (w 20 0), .int (w 20 1), .int (w 20 2), .int (w 20 3), .int (w 20 4), .int (w 20 5), .int (w 20 6), .int (w 20 7), .int (w 20 8)])
def gc_21 (w : Nat → Nat → Int32) (u : Int64 × (Nat → Int64)) (q : Nat → Nat) : gp_E := .inl (5, 6, .inr (.inr (.inr (.inr (fun j => some (gp_ma (q j)))))))
def gc_22 (w : Nat → Nat → Int32) (u : Int64 × (Nat → Int64)) (q : Nat → Nat) : gp_E := .inr (3, [.ref 23, .ref 24, .ref 25, .ref 26, .int (w 22 4), .int (w 22 5), .int (w 22 6), .int (w 22 7), .int (w 22 8), .int (w 22 9), .int (w 22 10), .int (w 22 11), .int (w 22 12), .int (w 22 13)])
def gc_23 (w : Nat → Nat → Int32) (u : Int64 × (Nat → Int64)) (q : Nat → Nat) : gp_E := .inl (0, 500, .inl (w 23))
def gc_24 (w : Nat → Nat → Int32) (u : Int64 × (Nat → Int64)) (q : Nat → Nat) : gp_E := .inl (0, 16, .inl (w 24))
def gc_25 (w : Nat → Nat → Int32) (u : Int64 × (Nat → Int64)) (q : Nat → Nat) : gp_E := .inl (0, 16, .inl (w 25))
def gc_26 (w : Nat → Nat → Int32) (u : Int64 × (Nat → Int64)) (q : Nat → Nat) : gp_E := .inl (0, 16, .inl (w 26))
def gc_27 (w : Nat → Nat → Int32) (u : Int64 × (Nat → Int64)) (q : Nat → Nat) : gp_E := .inr (3, [.ref 28, .ref 29, .ref 30, .ref 31, .int (w 27 4), .int (w 27 5), .int (w 27 6), .int (w 27 7), .int (w 27 8), .int (w 27 9), .int (w 27 10), .int (w 27 11), .int (w 27 12), .int (w 27 13)])
def gc_28 (w : Nat → Nat → Int32) (u : Int64 × (Nat → Int64)) (q : Nat → Nat) : gp_E := .inl (0, 500, .inl (w 28))
def gc_29 (w : Nat → Nat → Int32) (u : Int64 × (Nat → Int64)) (q : Nat → Nat) : gp_E := .inl (0, 16, .inl (w 29))
def gc_30 (w : Nat → Nat → Int32) (u : Int64 × (Nat → Int64)) (q : Nat → Nat) : gp_E := .inl (0, 16, .inl (w 30))
def gc_31 (w : Nat → Nat → Int32) (u : Int64 × (Nat → Int64)) (q : Nat → Nat) : gp_E := .inl (0, 16, .inl (w 31))
def gc_32 (w : Nat → Nat → Int32) (u : Int64 × (Nat → Int64)) (q : Nat → Nat) : gp_E := .inr (3, [.ref 33, .ref 34, .ref 35, .ref 36, .int (w 32 4), .int (w 32 5), .int (w 32 6), .int (w 32 7), .int (w 32 8), .int (w 32 9), .int (w 32 10), .int (w 32 11), .int (w 32 12), .int (w 32 13)])
def gc_33 (w : Nat → Nat → Int32) (u : Int64 × (Nat → Int64)) (q : Nat → Nat) : gp_E := .inl (0, 500, .inl (w 33))
def gc_34 (w : Nat → Nat → Int32) (u : Int64 × (Nat → Int64)) (q : Nat → Nat) : gp_E := .inl (0, 16, .inl (w 34))
def gc_35 (w : Nat → Nat → Int32) (u : Int64 × (Nat → Int64)) (q : Nat → Nat) : gp_E := .inl (0, 16, .inl (w 35))
def gc_36 (w : Nat → Nat → Int32) (u : Int64 × (Nat → Int64)) (q : Nat → Nat) : gp_E := .inl (0, 16, .inl (w 36))
def gc_37 (w : Nat → Nat → Int32) (u : Int64 × (Nat → Int64)) (q : Nat → Nat) : gp_E := .inr (3, [.ref 38, .ref 39, .ref 40, .ref 41, .int (w 37 4), .int (w 37 5), .int (w 37 6), .int (w 37 7), .int (w 37 8), .int (w 37 9), .int (w 37 10), .int (w 37 11), .int (w 37 12), .int (w 37 13)])
def gc_38 (w : Nat → Nat → Int32) (u : Int64 × (Nat → Int64)) (q : Nat → Nat) : gp_E := .inl (0, 500, .inl (w 38))
def gc_39 (w : Nat → Nat → Int32) (u : Int64 × (Nat → Int64)) (q : Nat → Nat) : gp_E := .inl (0, 16, .inl (w 39))
def gc_40 (w : Nat → Nat → Int32) (u : Int64 × (Nat → Int64)) (q : Nat → Nat) : gp_E := .inl (0, 16, .inl (w 40))
def gc_41 (w : Nat → Nat → Int32) (u : Int64 × (Nat → Int64)) (q : Nat → Nat) : gp_E := .inl (0, 16, .inl (w 41))
def gc_42 (w : Nat → Nat → Int32) (u : Int64 × (Nat → Int64)) (q : Nat → Nat) : gp_E := .inr (3, [.ref 43, .ref 44, .ref 45, .ref 46, .int (w 42 4), .int (w 42 5), .int (w 42 6), .int (w 42 7), .int (w 42 8), .int (w 42 9), .int (w 42 10), .int (w 42 11), .int (w 42 12), .int (w 42 13)])
def gc_43 (w : Nat → Nat → Int32) (u : Int64 × (Nat → Int64)) (q : Nat → Nat) : gp_E := .inl (0, 500, .inl (w 43))
def gc_44 (w : Nat → Nat → Int32) (u : Int64 × (Nat → Int64)) (q : Nat → Nat) : gp_E := .inl (0, 16, .inl (w 44))
def gc_45 (w : Nat → Nat → Int32) (u : Int64 × (Nat → Int64)) (q : Nat → Nat) : gp_E := .inl (0, 16, .inl (w 45))
def gc_46 (w : Nat → Nat → Int32) (u : Int64 × (Nat → Int64)) (q : Nat → Nat) : gp_E := .inl (0, 16, .inl (w 46))
def gc_47 (w : Nat → Nat → Int32) (u : Int64 × (Nat → Int64)) (q : Nat → Nat) : gp_E := .inr (3, [.ref 48, .ref 49, .ref 50, .ref 51, .int (w 47 4), .int (w 47 5), .int (w 47 6), .int (w 47 7), .int (w 47 8), .int (w 47 9), .int (w 47 10), .int (w 47 11), .int (w 47 12), .int (w 47 13)])
def gc_48 (w : Nat → Nat → Int32) (u : Int64 × (Nat → Int64)) (q : Nat → Nat) : gp_E := .inl (0, 500, .inl (w 48))
def gc_49 (w : Nat → Nat → Int32) (u : Int64 × (Nat → Int64)) (q : Nat → Nat) : gp_E := .inl (0, 16, .inl (w 49))
def gc_50 (w : Nat → Nat → Int32) (u : Int64 × (Nat → Int64)) (q : Nat → Nat) : gp_E := .inl (0, 16, .inl (w 50))
def gc_51 (w : Nat → Nat → Int32) (u : Int64 × (Nat → Int64)) (q : Nat → Nat) : gp_E := .inl (0, 16, .inl (w 51))
def gc_52 (w : Nat → Nat → Int32) (u : Int64 × (Nat → Int64)) (q : Nat → Nat) : gp_E := .inr (8, [.ref 53, .ref 54, .int (w 52 2)])
def gc_53 (w : Nat → Nat → Int32) (u : Int64 × (Nat → Int64)) (q : Nat → Nat) : gp_E := .inl (0, 13, .inl (w 53))
def gc_54 (w : Nat → Nat → Int32) (u : Int64 × (Nat → Int64)) (q : Nat → Nat) : gp_E := .inl (0, 64, .inl (w 54))
def gc_55 (w : Nat → Nat → Int32) (u : Int64 × (Nat → Int64)) (q : Nat → Nat) : gp_E := .inr (4, [.ref 56, .ref 57, .ref 58, .ref 59, .int (w 55 4), .int (w 55 5), .int (w 55 6), .int (w 55 7), .int (w 55 8), .ref (gp_ma (q 6))])
def gc_56 (w : Nat → Nat → Int32) (u : Int64 × (Nat → Int64)) (q : Nat → Nat) : gp_E := .inl (0, 500, .inl (w 56))
def gc_57 (w : Nat → Nat → Int32) (u : Int64 × (Nat → Int64)) (q : Nat → Nat) : gp_E := .inl (0, 501, .inl (w 57))
def gc_58 (w : Nat → Nat → Int32) (u : Int64 × (Nat → Int64)) (q : Nat → Nat) : gp_E := .inl (0, 501, .inl (w 58))
def gc_59 (w : Nat → Nat → Int32) (u : Int64 × (Nat → Int64)) (q : Nat → Nat) : gp_E := .inl (0, 501, .inl (w 59))
def gc_60 (w : Nat → Nat → Int32) (u : Int64 × (Nat → Int64)) (q : Nat → Nat) : gp_E := .inr (3, [.ref 61, .ref 62, .ref 63, .ref 64, .int (w 60 4), .int (w 60 5), .int (w 60 6), .int (w 60 7), .int (w 60 8), .int (w 60 9), .int (w 60 10), .int (w 60 11), .int (w 60 12), .int (w 60 13)])
def gc_61 (w : Nat → Nat → Int32) (u : Int64 × (Nat → Int64)) (q : Nat → Nat) : gp_E := .inl (0, 500, .inl (w 61))
def gc_62 (w : Nat → Nat → Int32) (u : Int64 × (Nat → Int64)) (q : Nat → Nat) : gp_E := .inl (0, 16, .inl (w 62))
def gc_63 (w : Nat → Nat → Int32) (u : Int64 × (Nat → Int64)) (q : Nat → Nat) : gp_E := .inl (0, 16, .inl (w 63))
def gc_64 (w : Nat → Nat → Int32) (u : Int64 × (Nat → Int64)) (q : Nat → Nat) : gp_E := .inl (0, 16, .inl (w 64))
def gc_65 (w : Nat → Nat → Int32) (u : Int64 × (Nat → Int64)) (q : Nat → Nat) : gp_E := .inr (6, [.ref 1, .ref 52, .ref 66, .ref 67, .ref 68, .ref 69, .ref 70, .ref 71, .int (w 65 8), .int (w 65 9), .int (w 65 10), .int (w 65 11), .int (w 65 12)])
def gc_66 (w : Nat → Nat → Int32) (u : Int64 × (Nat → Int64)) (q : Nat → Nat) : gp_E := .inl (0, 10, .inl (w 66))
def gc_67 (w : Nat → Nat → Int32) (u : Int64 × (Nat → Int64)) (q : Nat → Nat) : gp_E := .inl (0, 10, .inl (w 67))
def gc_68 (w : Nat → Nat → Int32) (u : Int64 × (Nat → Int64)) (q : Nat → Nat) : gp_E := .inl (0, 60, .inl (w 68))
def gc_69 (w : Nat → Nat → Int32) (u : Int64 × (Nat → Int64)) (q : Nat → Nat) : gp_E := .inl (0, 11, .inl (w 69))
def gc_70 (w : Nat → Nat → Int32) (u : Int64 × (Nat → Int64)) (q : Nat → Nat) : gp_E := .inl (0, 10, .inl (w 70))
def gc_71 (w : Nat → Nat → Int32) (u : Int64 × (Nat → Int64)) (q : Nat → Nat) : gp_E := .inl (0, 10, .inl (w 71))
def gc_72 (w : Nat → Nat → Int32) (u : Int64 × (Nat → Int64)) (q : Nat → Nat) : gp_E := .inr (1, [.ref 1, .ref 21, .ref 73, .ref 74, .ref 75, .int (w 72 5), .int (w 72 6), .int (w 72 7), .int (w 72 8), .int (w 72 9), .int (w 72 10), .int (w 72 11)])
def gc_73 (w : Nat → Nat → Int32) (u : Int64 × (Nat → Int64)) (q : Nat → Nat) : gp_E := .inl (0, 6, .inl (w 73))
def gc_74 (w : Nat → Nat → Int32) (u : Int64 × (Nat → Int64)) (q : Nat → Nat) : gp_E := .inl (0, 78, .inl (w 74))
def gc_75 (w : Nat → Nat → Int32) (u : Int64 × (Nat → Int64)) (q : Nat → Nat) : gp_E := .inl (0, 78, .inl (w 75))
def gc_76 (w : Nat → Nat → Int32) (u : Int64 × (Nat → Int64)) (q : Nat → Nat) : gp_E := .inr (0, [.ref 77, .int (w 76 1)])
def gc_77 (w : Nat → Nat → Int32) (u : Int64 × (Nat → Int64)) (q : Nat → Nat) : gp_E := .inl (1, 400, .inl (w 77))
def gc_78 (w : Nat → Nat → Int32) (u : Int64 × (Nat → Int64)) (q : Nat → Nat) : gp_E := .inr (0, [.ref 79, .int (w 78 1)])
def gc_79 (w : Nat → Nat → Int32) (u : Int64 × (Nat → Int64)) (q : Nat → Nat) : gp_E := .inl (1, 400, .inl (w 79))
def gc_80 (w : Nat → Nat → Int32) (u : Int64 × (Nat → Int64)) (q : Nat → Nat) : gp_E := .inr (10, [.ref 81, .ref 82, .int (w 80 2)])
def gc_81 (w : Nat → Nat → Int32) (u : Int64 × (Nat → Int64)) (q : Nat → Nat) : gp_E := .inl (0, 24, .inl (w 81))
def gc_82 (w : Nat → Nat → Int32) (u : Int64 × (Nat → Int64)) (q : Nat → Nat) : gp_E := .inl (0, 24, .inl (w 82))
def gc_83 (w : Nat → Nat → Int32) (u : Int64 × (Nat → Int64)) (q : Nat → Nat) : gp_E := .inr (7, [.ref 84, .ref 85, .ref 86, .ref 87, .ref 88, .ref 89, .ref 90, .int (w 83 7), .int (w 83 8), .int (w 83 9), .int (w 83 10), .int (w 83 11), .int (w 83 12)])
def gc_84 (w : Nat → Nat → Int32) (u : Int64 × (Nat → Int64)) (q : Nat → Nat) : gp_E := .inl (0, 14, .inl (w 84))
def gc_85 (w : Nat → Nat → Int32) (u : Int64 × (Nat → Int64)) (q : Nat → Nat) : gp_E := .inl (0, 14, .inl (w 85))
def gc_86 (w : Nat → Nat → Int32) (u : Int64 × (Nat → Int64)) (q : Nat → Nat) : gp_E := .inl (0, 14, .inl (w 86))
def gc_87 (w : Nat → Nat → Int32) (u : Int64 × (Nat → Int64)) (q : Nat → Nat) : gp_E := .inl (0, 14, .inl (w 87))
def gc_88 (w : Nat → Nat → Int32) (u : Int64 × (Nat → Int64)) (q : Nat → Nat) : gp_E := .inl (0, 14, .inl (w 88))
def gc_89 (w : Nat → Nat → Int32) (u : Int64 × (Nat → Int64)) (q : Nat → Nat) : gp_E := .inl (0, 14, .inl (w 89))
def gc_90 (w : Nat → Nat → Int32) (u : Int64 × (Nat → Int64)) (q : Nat → Nat) : gp_E := .inl (0, 14, .inl (w 90))
def gc_91 (w : Nat → Nat → Int32) (u : Int64 × (Nat → Int64)) (q : Nat → Nat) : gp_E := .inr (9, [.ref 92, .ref 93, .ref 94, .int (w 91 3)])
def gc_92 (w : Nat → Nat → Int32) (u : Int64 × (Nat → Int64)) (q : Nat → Nat) : gp_E := .inl (3, 40, .inr (.inl u.2))
def gc_93 (w : Nat → Nat → Int32) (u : Int64 × (Nat → Int64)) (q : Nat → Nat) : gp_E := .inl (0, 40, .inl (w 93))
def gc_94 (w : Nat → Nat → Int32) (u : Int64 × (Nat → Int64)) (q : Nat → Nat) : gp_E := .inl (0, 40, .inl (w 94))
def gc_95 (w : Nat → Nat → Int32) (u : Int64 × (Nat → Int64)) (q : Nat → Nat) : gp_E := .inr (12, [.int (w 95 0), .int (w 95 1), .int (w 95 2), .ref 96, .ref 97, .ref 98, .ref 99, .ref 100, .ref 101, .ref 102, .ref 103, .ref 104, .ref 105, .int (w 95 13), .int (w 95 14), .ref 106, .ref 107, .ref 108, .ref 109, .ref 110, .ref 111, .ref 112, .ref 113, .ref 114, .ref 115, .ref 116, .ref 117, .ref 118, .ref 119, .ref 120, .ref 121, .ref 122, .int (w 95 32), .int (w 95 33), .int (w 95 34), .int (w 95 35), .int (w 95 36), .int (w 95 37), .int (w 95 38), .int (w 95 39), .int (w 95 40), .int (w 95 41), .int (w 95 42), .ref 123, .ref 124, .ref 125, .int (w 95 46), .int (w 95 47), .int (w 95 48), .int (w 95 49), .int (w 95 50), .int (w 95 51), .ref 126, .ref 127, .ref 128, .ref 129, .int (w 95 56), .int (w 95 57), .ref 130, .ref 131, .ref 132, .ref 133, .ref 134, .ref 135, .ref 136, .int (w 95 65), .ref 137, .ref 138, .ref 139, .ref 140])
def gc_96 (w : Nat → Nat → Int32) (u : Int64 × (Nat → Int64)) (q : Nat → Nat) : gp_E := .inl (0, 16, .inl (w 96))
def gc_97 (w : Nat → Nat → Int32) (u : Int64 × (Nat → Int64)) (q : Nat → Nat) : gp_E := .inl (0, 16, .inl (w 97))
def gc_98 (w : Nat → Nat → Int32) (u : Int64 × (Nat → Int64)) (q : Nat → Nat) : gp_E := .inl (0, 16, .inl (w 98))
def gc_99 (w : Nat → Nat → Int32) (u : Int64 × (Nat → Int64)) (q : Nat → Nat) : gp_E := .inl (0, 16, .inl (w 99))
def gc_100 (w : Nat → Nat → Int32) (u : Int64 × (Nat → Int64)) (q : Nat → Nat) : gp_E := .inl (0, 16, .inl (w 100))
def gc_101 (w : Nat → Nat → Int32) (u : Int64 × (Nat → Int64)) (q : Nat → Nat) : gp_E := .inl (0, 16, .inl (w 101))
def gc_102 (w : Nat → Nat → Int32) (u : Int64 × (Nat → Int64)) (q : Nat → Nat) : gp_E := .inl (0, 16, .inl (w 102))
def gc_103 (w : Nat → Nat → Int32) (u : Int64 × (Nat → Int64)) (q : Nat → Nat) : gp_E := .inl (0, 32, .inl (w 103))
def gc_104 (w : Nat → Nat → Int32) (u : Int64 × (Nat → Int64)) (q : Nat → Nat) : gp_E := .inl (0, 7, .inl (w 104))
def gc_105 (w : Nat → Nat → Int32) (u : Int64 × (Nat → Int64)) (q : Nat → Nat) : gp_E := .inl (0, 16, .inl (w 105))
def gc_106 (w : Nat → Nat → Int32) (u : Int64 × (Nat → Int64)) (q : Nat → Nat) : gp_E := .inl (0, 16, .inl (w 106))
def gc_107 (w : Nat → Nat → Int32) (u : Int64 × (Nat → Int64)) (q : Nat → Nat) : gp_E := .inl (0, 7, .inl (w 107))
def gc_108 (w : Nat → Nat → Int32) (u : Int64 × (Nat → Int64)) (q : Nat → Nat) : gp_E := .inl (0, 7, .inl (w 108))
def gc_109 (w : Nat → Nat → Int32) (u : Int64 × (Nat → Int64)) (q : Nat → Nat) : gp_E := .inl (0, 7, .inl (w 109))
def gc_110 (w : Nat → Nat → Int32) (u : Int64 × (Nat → Int64)) (q : Nat → Nat) : gp_E := .inl (0, 7, .inl (w 110))
def gc_111 (w : Nat → Nat → Int32) (u : Int64 × (Nat → Int64)) (q : Nat → Nat) : gp_E := .inl (0, 7, .inl (w 111))
def gc_112 (w : Nat → Nat → Int32) (u : Int64 × (Nat → Int64)) (q : Nat → Nat) : gp_E := .inl (0, 7, .inl (w 112))
def gc_113 (w : Nat → Nat → Int32) (u : Int64 × (Nat → Int64)) (q : Nat → Nat) : gp_E := .inl (0, 7, .inl (w 113))
def gc_114 (w : Nat → Nat → Int32) (u : Int64 × (Nat → Int64)) (q : Nat → Nat) : gp_E := .inl (0, 112, .inl (w 114))
def gc_115 (w : Nat → Nat → Int32) (u : Int64 × (Nat → Int64)) (q : Nat → Nat) : gp_E := .inl (0, 112, .inl (w 115))
def gc_116 (w : Nat → Nat → Int32) (u : Int64 × (Nat → Int64)) (q : Nat → Nat) : gp_E := .inl (0, 112, .inl (w 116))
def gc_117 (w : Nat → Nat → Int32) (u : Int64 × (Nat → Int64)) (q : Nat → Nat) : gp_E := .inl (0, 7140, .inl (w 117))
def gc_118 (w : Nat → Nat → Int32) (u : Int64 × (Nat → Int64)) (q : Nat → Nat) : gp_E := .inl (0, 500, .inl (w 118))
def gc_119 (w : Nat → Nat → Int32) (u : Int64 × (Nat → Int64)) (q : Nat → Nat) : gp_E := .inl (0, 520, .inl (w 119))
def gc_120 (w : Nat → Nat → Int32) (u : Int64 × (Nat → Int64)) (q : Nat → Nat) : gp_E := .inl (0, 14, .inl (w 120))
def gc_121 (w : Nat → Nat → Int32) (u : Int64 × (Nat → Int64)) (q : Nat → Nat) : gp_E := .inl (2, 7, .inl (w 121))
def gc_122 (w : Nat → Nat → Int32) (u : Int64 × (Nat → Int64)) (q : Nat → Nat) : gp_E := .inl (2, 7, .inl (w 122))
def gc_123 (w : Nat → Nat → Int32) (u : Int64 × (Nat → Int64)) (q : Nat → Nat) : gp_E := .inl (0, 80, .inl (w 123))
def gc_124 (w : Nat → Nat → Int32) (u : Int64 × (Nat → Int64)) (q : Nat → Nat) : gp_E := .inl (0, 10, .inl (w 124))
def gc_125 (w : Nat → Nat → Int32) (u : Int64 × (Nat → Int64)) (q : Nat → Nat) : gp_E := .inl (0, 10, .inl (w 125))
def gc_126 (w : Nat → Nat → Int32) (u : Int64 × (Nat → Int64)) (q : Nat → Nat) : gp_E := .inl (0, 400, .inl (w 126))
def gc_127 (w : Nat → Nat → Int32) (u : Int64 × (Nat → Int64)) (q : Nat → Nat) : gp_E := .inl (0, 400, .inl (w 127))
def gc_128 (w : Nat → Nat → Int32) (u : Int64 × (Nat → Int64)) (q : Nat → Nat) : gp_E := .inl (0, 400, .inl (w 128))
def gc_129 (w : Nat → Nat → Int32) (u : Int64 × (Nat → Int64)) (q : Nat → Nat) : gp_E := .inl (0, 400, .inl (w 129))
def gc_130 (w : Nat → Nat → Int32) (u : Int64 × (Nat → Int64)) (q : Nat → Nat) : gp_E := .inl (0, 14, .inl (w 130))
def gc_131 (w : Nat → Nat → Int32) (u : Int64 × (Nat → Int64)) (q : Nat → Nat) : gp_E := .inl (0, 14, .inl (w 131))
def gc_132 (w : Nat → Nat → Int32) (u : Int64 × (Nat → Int64)) (q : Nat → Nat) : gp_E := .inl (0, 14, .inl (w 132))
def gc_133 (w : Nat → Nat → Int32) (u : Int64 × (Nat → Int64)) (q : Nat → Nat) : gp_E := .inl (0, 14, .inl (w 133))
def gc_134 (w : Nat → Nat → Int32) (u : Int64 × (Nat → Int64)) (q : Nat → Nat) : gp_E := .inl (0, 14, .inl (w 134))
def gc_135 (w : Nat → Nat → Int32) (u : Int64 × (Nat → Int64)) (q : Nat → Nat) : gp_E := .inl (0, 14, .inl (w 135))
def gc_136 (w : Nat → Nat → Int32) (u : Int64 × (Nat → Int64)) (q : Nat → Nat) : gp_E := .inl (0, 14, .inl (w 136))
def gc_137 (w : Nat → Nat → Int32) (u : Int64 × (Nat → Int64)) (q : Nat → Nat) : gp_E := .inl (0, 40, .inl (w 137))
def gc_138 (w : Nat → Nat → Int32) (u : Int64 × (Nat → Int64)) (q : Nat → Nat) : gp_E := .inl (0, 400, .inl (w 138))
def gc_139 (w : Nat → Nat → Int32) (u : Int64 × (Nat → Int64)) (q : Nat → Nat) : gp_E := .inl (0, 40, .inl (w 139))
def gc_140 (w : Nat → Nat → Int32) (u : Int64 × (Nat → Int64)) (q : Nat → Nat) : gp_E := .inl (0, 16, .inl (w 140))
def gv (w : Nat → Nat → Int32) (u : Int64 × (Nat → Int64)) (q : Nat → Nat) : gp_H := [gc_0 w u q, gc_1 w u q, gc_2 w u q, gc_3 w u q, gc_4 w u q, gc_5 w u q, gc_6 w u q, gc_7 w u q, gc_8 w u q, gc_9 w u q, gc_10 w u q, gc_11 w u q, gc_12 w u q, gc_13 w u q, gc_14 w u q, gc_15 w u q, gc_16 w u q, gc_17 w u q, gc_18 w u q, gc_19 w u q, gc_20 w u q, gc_21 w u q, gc_22 w u q, gc_23 w u q, gc_24 w u q, gc_25 w u q, gc_26 w u q, gc_27 w u q, gc_28 w u q, gc_29 w u q, gc_30 w u q, gc_31 w u q, gc_32 w u q, gc_33 w u q, gc_34 w u q, gc_35 w u q, gc_36 w u q, gc_37 w u q, gc_38 w u q, gc_39 w u q, gc_40 w u q, gc_41 w u q, gc_42 w u q, gc_43 w u q, gc_44 w u q, gc_45 w u q, gc_46 w u q, gc_47 w u q, gc_48 w u q, gc_49 w u q, gc_50 w u q, gc_51 w u q, gc_52 w u q, gc_53 w u q, gc_54 w u q, gc_55 w u q, gc_56 w u q, gc_57 w u q, gc_58 w u q, gc_59 w u q, gc_60 w u q, gc_61 w u q, gc_62 w u q, gc_63 w u q, gc_64 w u q, gc_65 w u q, gc_66 w u q, gc_67 w u q, gc_68 w u q, gc_69 w u q, gc_70 w u q, gc_71 w u q, gc_72 w u q, gc_73 w u q, gc_74 w u q, gc_75 w u q, gc_76 w u q, gc_77 w u q, gc_78 w u q, gc_79 w u q, gc_80 w u q, gc_81 w u q, gc_82 w u q, gc_83 w u q, gc_84 w u q, gc_85 w u q, gc_86 w u q, gc_87 w u q, gc_88 w u q, gc_89 w u q, gc_90 w u q, gc_91 w u q, gc_92 w u q, gc_93 w u q, gc_94 w u q, gc_95 w u q, gc_96 w u q, gc_97 w u q, gc_98 w u q, gc_99 w u q, gc_100 w u q, gc_101 w u q, gc_102 w u q, gc_103 w u q, gc_104 w u q, gc_105 w u q, gc_106 w u q, gc_107 w u q, gc_108 w u q, gc_109 w u q, gc_110 w u q, gc_111 w u q, gc_112 w u q, gc_113 w u q, gc_114 w u q, gc_115 w u q, gc_116 w u q, gc_117 w u q, gc_118 w u q, gc_119 w u q, gc_120 w u q, gc_121 w u q, gc_122 w u q, gc_123 w u q, gc_124 w u q, gc_125 w u q, gc_126 w u q, gc_127 w u q, gc_128 w u q, gc_129 w u q, gc_130 w u q, gc_131 w u q, gc_132 w u q, gc_133 w u q, gc_134 w u q, gc_135 w u q, gc_136 w u q, gc_137 w u q, gc_138 w u q, gc_139 w u q, gc_140 w u q]
def gw (w : Nat → Nat → Int32) (a k : Nat) (x : Int32) : Nat → Nat → Int32 := fun b => if b = a then upd (w a) k x else w b
set_option maxRecDepth 100000 in
theorem gv_mark {w : Nat → Nat → Int32} {u : Int64 × (Nat → Int64)} {q : Nat → Nat} {i : Nat} (h : i < 16) : gp_nth (gv w u q) (5 + i) = some (.inr (2, [.int (w (5 + i) 0), .int (w (5 + i) 1), .int (w (5 + i) 2), .int (w (5 + i) 3), .int (w (5 + i) 4), .int (w (5 + i) 5), .int (w (5 + i) 6), .int (w (5 + i) 7), .int (w (5 + i) 8)])) := by
  rcases (show i = 0 ∨ i = 1 ∨ i = 2 ∨ i = 3 ∨ i = 4 ∨ i = 5 ∨ i = 6 ∨ i = 7 ∨ i = 8 ∨ i = 9 ∨ i = 10 ∨ i = 11 ∨ i = 12 ∨ i = 13 ∨ i = 14 ∨ i = 15 by omega) with rfl | rfl | rfl | rfl | rfl | rfl | rfl | rfl | rfl | rfl | rfl | rfl | rfl | rfl | rfl | rfl <;> rfl
set_option maxRecDepth 100000 in
theorem gv_mark_set {w : Nat → Nat → Int32} {u : Int64 × (Nat → Int64)} {q : Nat → Nat} {i k : Nat} {x : Int32} (h : i < 16) (hk : k < 9) : (gv w u q).set (5 + i) (.inr (2, [.int (w (5 + i) 0), .int (w (5 + i) 1), .int (w (5 + i) 2), .int (w (5 + i) 3), .int (w (5 + i) 4), .int (w (5 + i) 5), .int (w (5 + i) 6), .int (w (5 + i) 7), .int (w (5 + i) 8)].set k (.int x))) = gv (gw w (5 + i) k x) u q := by
  rcases (show k = 0 ∨ k = 1 ∨ k = 2 ∨ k = 3 ∨ k = 4 ∨ k = 5 ∨ k = 6 ∨ k = 7 ∨ k = 8 by omega) with rfl | rfl | rfl | rfl | rfl | rfl | rfl | rfl | rfl <;> rcases (show i = 0 ∨ i = 1 ∨ i = 2 ∨ i = 3 ∨ i = 4 ∨ i = 5 ∨ i = 6 ∨ i = 7 ∨ i = 8 ∨ i = 9 ∨ i = 10 ∨ i = 11 ∨ i = 12 ∨ i = 13 ∨ i = 14 ∨ i = 15 by omega) with rfl | rfl | rfl | rfl | rfl | rfl | rfl | rfl | rfl | rfl | rfl | rfl | rfl | rfl | rfl | rfl <;> rfl
set_option maxRecDepth 100000 in
theorem gv_mind {w : Nat → Nat → Int32} {u : Int64 × (Nat → Int64)} {q : Nat → Nat} {m : Nat} (h : m < 7) : gp_nth (gv w u q) (gp_ma m) = some (.inr (3, [.ref (gp_ma m + 1), .ref (gp_ma m + 2), .ref (gp_ma m + 3), .ref (gp_ma m + 4), .int (w (gp_ma m) 4), .int (w (gp_ma m) 5), .int (w (gp_ma m) 6), .int (w (gp_ma m) 7), .int (w (gp_ma m) 8), .int (w (gp_ma m) 9), .int (w (gp_ma m) 10), .int (w (gp_ma m) 11), .int (w (gp_ma m) 12), .int (w (gp_ma m) 13)])) := by
  rcases (show m = 0 ∨ m = 1 ∨ m = 2 ∨ m = 3 ∨ m = 4 ∨ m = 5 ∨ m = 6 by omega) with rfl | rfl | rfl | rfl | rfl | rfl | rfl <;> rfl
set_option maxRecDepth 100000 in
theorem gv_ma1 {w : Nat → Nat → Int32} {u : Int64 × (Nat → Int64)} {q : Nat → Nat} {m : Nat} (h : m < 7) : gp_nth (gv w u q) (gp_ma m + 1) = some (.inl (0, 500, .inl (w (gp_ma m + 1)))) := by
  rcases (show m = 0 ∨ m = 1 ∨ m = 2 ∨ m = 3 ∨ m = 4 ∨ m = 5 ∨ m = 6 by omega) with rfl | rfl | rfl | rfl | rfl | rfl | rfl <;> rfl
set_option maxRecDepth 100000 in
theorem gv_ma1_set {w : Nat → Nat → Int32} {u : Int64 × (Nat → Int64)} {q : Nat → Nat} {m j : Nat} {x : Int32} (h : m < 7) : (gv w u q).set (gp_ma m + 1) (.inl (0, 500, .inl (upd (w (gp_ma m + 1)) j x))) = gv (gw w (gp_ma m + 1) j x) u q := by
  rcases (show m = 0 ∨ m = 1 ∨ m = 2 ∨ m = 3 ∨ m = 4 ∨ m = 5 ∨ m = 6 by omega) with rfl | rfl | rfl | rfl | rfl | rfl | rfl <;> rfl
set_option maxRecDepth 100000 in
theorem gv_ma2 {w : Nat → Nat → Int32} {u : Int64 × (Nat → Int64)} {q : Nat → Nat} {m : Nat} (h : m < 7) : gp_nth (gv w u q) (gp_ma m + 2) = some (.inl (0, 16, .inl (w (gp_ma m + 2)))) := by
  rcases (show m = 0 ∨ m = 1 ∨ m = 2 ∨ m = 3 ∨ m = 4 ∨ m = 5 ∨ m = 6 by omega) with rfl | rfl | rfl | rfl | rfl | rfl | rfl <;> rfl
set_option maxRecDepth 100000 in
theorem gv_ma2_set {w : Nat → Nat → Int32} {u : Int64 × (Nat → Int64)} {q : Nat → Nat} {m j : Nat} {x : Int32} (h : m < 7) : (gv w u q).set (gp_ma m + 2) (.inl (0, 16, .inl (upd (w (gp_ma m + 2)) j x))) = gv (gw w (gp_ma m + 2) j x) u q := by
  rcases (show m = 0 ∨ m = 1 ∨ m = 2 ∨ m = 3 ∨ m = 4 ∨ m = 5 ∨ m = 6 by omega) with rfl | rfl | rfl | rfl | rfl | rfl | rfl <;> rfl
set_option maxRecDepth 100000 in
theorem gv_ma3 {w : Nat → Nat → Int32} {u : Int64 × (Nat → Int64)} {q : Nat → Nat} {m : Nat} (h : m < 7) : gp_nth (gv w u q) (gp_ma m + 3) = some (.inl (0, 16, .inl (w (gp_ma m + 3)))) := by
  rcases (show m = 0 ∨ m = 1 ∨ m = 2 ∨ m = 3 ∨ m = 4 ∨ m = 5 ∨ m = 6 by omega) with rfl | rfl | rfl | rfl | rfl | rfl | rfl <;> rfl
set_option maxRecDepth 100000 in
theorem gv_ma3_set {w : Nat → Nat → Int32} {u : Int64 × (Nat → Int64)} {q : Nat → Nat} {m j : Nat} {x : Int32} (h : m < 7) : (gv w u q).set (gp_ma m + 3) (.inl (0, 16, .inl (upd (w (gp_ma m + 3)) j x))) = gv (gw w (gp_ma m + 3) j x) u q := by
  rcases (show m = 0 ∨ m = 1 ∨ m = 2 ∨ m = 3 ∨ m = 4 ∨ m = 5 ∨ m = 6 by omega) with rfl | rfl | rfl | rfl | rfl | rfl | rfl <;> rfl
set_option maxRecDepth 100000 in
theorem gv_ma4 {w : Nat → Nat → Int32} {u : Int64 × (Nat → Int64)} {q : Nat → Nat} {m : Nat} (h : m < 7) : gp_nth (gv w u q) (gp_ma m + 4) = some (.inl (0, 16, .inl (w (gp_ma m + 4)))) := by
  rcases (show m = 0 ∨ m = 1 ∨ m = 2 ∨ m = 3 ∨ m = 4 ∨ m = 5 ∨ m = 6 by omega) with rfl | rfl | rfl | rfl | rfl | rfl | rfl <;> rfl
set_option maxRecDepth 100000 in
theorem gv_ma4_set {w : Nat → Nat → Int32} {u : Int64 × (Nat → Int64)} {q : Nat → Nat} {m j : Nat} {x : Int32} (h : m < 7) : (gv w u q).set (gp_ma m + 4) (.inl (0, 16, .inl (upd (w (gp_ma m + 4)) j x))) = gv (gw w (gp_ma m + 4) j x) u q := by
  rcases (show m = 0 ∨ m = 1 ∨ m = 2 ∨ m = 3 ∨ m = 4 ∨ m = 5 ∨ m = 6 by omega) with rfl | rfl | rfl | rfl | rfl | rfl | rfl <;> rfl
set_option maxRecDepth 100000 in
theorem gv_mind_set {w : Nat → Nat → Int32} {u : Int64 × (Nat → Int64)} {q : Nat → Nat} {m k : Nat} {x : Int32} (h : m < 7) (hk : 4 ≤ k ∧ k < 14) : (gv w u q).set (gp_ma m) (.inr (3, [.ref (gp_ma m + 1), .ref (gp_ma m + 2), .ref (gp_ma m + 3), .ref (gp_ma m + 4), .int (w (gp_ma m) 4), .int (w (gp_ma m) 5), .int (w (gp_ma m) 6), .int (w (gp_ma m) 7), .int (w (gp_ma m) 8), .int (w (gp_ma m) 9), .int (w (gp_ma m) 10), .int (w (gp_ma m) 11), .int (w (gp_ma m) 12), .int (w (gp_ma m) 13)].set k (.int x))) = gv (gw w (gp_ma m) k x) u q := by
  rcases (show k = 4 ∨ k = 5 ∨ k = 6 ∨ k = 7 ∨ k = 8 ∨ k = 9 ∨ k = 10 ∨ k = 11 ∨ k = 12 ∨ k = 13 by omega) with rfl | rfl | rfl | rfl | rfl | rfl | rfl | rfl | rfl | rfl <;> rcases (show m = 0 ∨ m = 1 ∨ m = 2 ∨ m = 3 ∨ m = 4 ∨ m = 5 ∨ m = 6 by omega) with rfl | rfl | rfl | rfl | rfl | rfl | rfl <;> rfl
