/-! a local that isn't needed any more -/
def gp_no : List (Option Value) → Nat → List (Option Value)
  | [], _ => []
  | _ :: t, 0 => none :: t
  | a :: t, n + 1 => a :: gp_no t n
theorem gp_no_e : ∀ {ls : List (Option Value)} {n i : Nat} {v : Value}, gp_gl (gp_no ls n) i = some v → gp_gl ls i = some v
  | [], _, _, _, h => by simp [gp_no, gp_gl] at h
  | _ :: t, 0, 0, v, h => by simp [gp_no, gp_gl] at h
  | _ :: t, 0, i + 1, v, h => h
  | a :: t, n + 1, 0, v, h => h
  | a :: t, n + 1, i + 1, v, h => gp_no_e (ls := t) (n := n) h
theorem gp_no_len : ∀ (ls : List (Option Value)) (n : Nat), (gp_no ls n).length = ls.length
  | [], _ => rfl
  | _ :: t, 0 => rfl
  | a :: t, n + 1 => by simp only [gp_no, List.length_cons, gp_no_len t n]
theorem gp_drop {l : Launch} {G : gp_G} {d : Nat} {M : gp_M} {K : Option Value → gp_H → Prop} {pc : Nat} {ls : List (Option Value)} {st : List Value} {V : gp_H} {cs ss : Nat} (n : Nat) (h : gp_Go l G d M K pc (gp_no ls n) st V cs ss) : gp_Go l G d M K pc ls st V cs ss := by
  intro p e s m args below meth c H locs la F D
  exact h p e s m args below meth c H locs la F (D.ls ⟨D.2.2.2.2.1.1, D.2.2.2.2.1.2.1, by rw [gp_no_len]; exact D.2.2.2.2.1.2.2.1, fun i v hv => D.2.2.2.2.1.2.2.2 i v (gp_no_e hv)⟩)
theorem gp_clamp {x : Int32} {i : Nat} (h : x = nI i) (hi : i < 2 ^ 31) : x.toNatClampNeg = i := by rw [h]; exact nI_clamp hi
/-- a counted loop whose counter and bound are ints of the machine -/
theorem gp_lt_nI {x y : Int32} {i n : Nat} (hx : x = nI i) (hy : y = nI n) (hi : i < 2 ^ 31) (hn : n < 2 ^ 31) : x < y ↔ i < n := by rw [hx, hy]; exact nI_ltI hi hn
theorem gp_le_nI {x y : Int32} {i n : Nat} (hx : x = nI i) (hy : y = nI n) (hi : i < 2 ^ 31) (hn : n < 2 ^ 31) : x ≤ y ↔ i ≤ n := by rw [hx, hy]; exact nI_leI hi hn
/-! branches that are decided -/
theorem gb_eq_t {x y : Int32} {A B : Prop} (h : x = y) (a : A) : gp_b2 .eq x y A B := ⟨fun _ => a, fun z => absurd h z⟩
theorem gb_eq_f {x y : Int32} {A B : Prop} (h : ¬ x = y) (b : B) : gp_b2 .eq x y A B := ⟨fun z => absurd z h, fun _ => b⟩
theorem gb_ne_t {x y : Int32} {A B : Prop} (h : ¬ x = y) (a : A) : gp_b2 .ne x y A B := ⟨fun _ => a, fun z => absurd z h⟩
theorem gb_ne_f {x y : Int32} {A B : Prop} (h : x = y) (b : B) : gp_b2 .ne x y A B := ⟨fun z => absurd h z, fun _ => b⟩
theorem gb_lt_t {x y : Int32} {A B : Prop} (h : x < y) (a : A) : gp_b2 .lt x y A B := ⟨fun _ => a, fun z => absurd h z⟩
theorem gb_lt_f {x y : Int32} {A B : Prop} (h : ¬ x < y) (b : B) : gp_b2 .lt x y A B := ⟨fun z => absurd z h, fun _ => b⟩
theorem gb_lt_t' {x y : Int32} {A B : Prop} (h : ¬ y ≤ x) (a : A) : gp_b2 .lt x y A B := gb_lt_t (Int32.not_le.mp h) a
theorem gb_lt_f' {x y : Int32} {A B : Prop} (h : y ≤ x) (b : B) : gp_b2 .lt x y A B := gb_lt_f (Int32.not_lt.mpr h) b
theorem gb_ge_t {x y : Int32} {A B : Prop} (h : y ≤ x) (a : A) : gp_b2 .ge x y A B := ⟨fun _ => a, fun z => absurd h z⟩
theorem gb_ge_f {x y : Int32} {A B : Prop} (h : ¬ y ≤ x) (b : B) : gp_b2 .ge x y A B := ⟨fun z => absurd z h, fun _ => b⟩
theorem gb_ge_t' {x y : Int32} {A B : Prop} (h : ¬ x < y) (a : A) : gp_b2 .ge x y A B := gb_ge_t (Int32.not_lt.mp h) a
theorem gb_ge_f' {x y : Int32} {A B : Prop} (h : x < y) (b : B) : gp_b2 .ge x y A B := gb_ge_f (Int32.not_le.mpr h) b
theorem gb_gt_t {x y : Int32} {A B : Prop} (h : y < x) (a : A) : gp_b2 .gt x y A B := ⟨fun _ => a, fun z => absurd h z⟩
theorem gb_gt_f {x y : Int32} {A B : Prop} (h : ¬ y < x) (b : B) : gp_b2 .gt x y A B := ⟨fun z => absurd z h, fun _ => b⟩
theorem gb_gt_t' {x y : Int32} {A B : Prop} (h : ¬ x ≤ y) (a : A) : gp_b2 .gt x y A B := gb_gt_t (Int32.not_le.mp h) a
theorem gb_gt_f' {x y : Int32} {A B : Prop} (h : x ≤ y) (b : B) : gp_b2 .gt x y A B := gb_gt_f (Int32.not_lt.mpr h) b
theorem gb_le_t {x y : Int32} {A B : Prop} (h : x ≤ y) (a : A) : gp_b2 .le x y A B := ⟨fun _ => a, fun z => absurd h z⟩
theorem gb_le_f {x y : Int32} {A B : Prop} (h : ¬ x ≤ y) (b : B) : gp_b2 .le x y A B := ⟨fun z => absurd z h, fun _ => b⟩
theorem gb_le_t' {x y : Int32} {A B : Prop} (h : ¬ y < x) (a : A) : gp_b2 .le x y A B := gb_le_t (Int32.not_lt.mp h) a
theorem gb_le_f' {x y : Int32} {A B : Prop} (h : y < x) (b : B) : gp_b2 .le x y A B := gb_le_f (Int32.not_le.mpr h) b
theorem gb1_eq_t {x : Int32} {A B : Prop} (h : x = 0) (a : A) : gp_b1 .eq x A B := ⟨fun _ => a, fun z => absurd h z⟩
theorem gb1_eq_f {x : Int32} {A B : Prop} (h : ¬ x = 0) (b : B) : gp_b1 .eq x A B := ⟨fun z => absurd z h, fun _ => b⟩
theorem gb1_ne_t {x : Int32} {A B : Prop} (h : ¬ x = 0) (a : A) : gp_b1 .ne x A B := ⟨fun _ => a, fun z => absurd z h⟩
theorem gb1_ne_f {x : Int32} {A B : Prop} (h : x = 0) (b : B) : gp_b1 .ne x A B := ⟨fun z => absurd h z, fun _ => b⟩
theorem gb1_lt_t {x : Int32} {A B : Prop} (h : x < 0) (a : A) : gp_b1 .lt x A B := ⟨fun _ => a, fun z => absurd h z⟩
theorem gb1_lt_f {x : Int32} {A B : Prop} (h : ¬ x < 0) (b : B) : gp_b1 .lt x A B := ⟨fun z => absurd z h, fun _ => b⟩
theorem gb1_lt_t' {x : Int32} {A B : Prop} (h : ¬ 0 ≤ x) (a : A) : gp_b1 .lt x A B := gb1_lt_t (Int32.not_le.mp h) a
theorem gb1_lt_f' {x : Int32} {A B : Prop} (h : 0 ≤ x) (b : B) : gp_b1 .lt x A B := gb1_lt_f (Int32.not_lt.mpr h) b
theorem gb1_ge_t {x : Int32} {A B : Prop} (h : 0 ≤ x) (a : A) : gp_b1 .ge x A B := ⟨fun _ => a, fun z => absurd h z⟩
theorem gb1_ge_f {x : Int32} {A B : Prop} (h : ¬ 0 ≤ x) (b : B) : gp_b1 .ge x A B := ⟨fun z => absurd z h, fun _ => b⟩
theorem gb1_ge_t' {x : Int32} {A B : Prop} (h : ¬ x < 0) (a : A) : gp_b1 .ge x A B := gb1_ge_t (Int32.not_lt.mp h) a
theorem gb1_ge_f' {x : Int32} {A B : Prop} (h : x < 0) (b : B) : gp_b1 .ge x A B := gb1_ge_f (Int32.not_le.mpr h) b
theorem gb1_gt_t {x : Int32} {A B : Prop} (h : 0 < x) (a : A) : gp_b1 .gt x A B := ⟨fun _ => a, fun z => absurd h z⟩
theorem gb1_gt_f {x : Int32} {A B : Prop} (h : ¬ 0 < x) (b : B) : gp_b1 .gt x A B := ⟨fun z => absurd z h, fun _ => b⟩
theorem gb1_gt_t' {x : Int32} {A B : Prop} (h : ¬ x ≤ 0) (a : A) : gp_b1 .gt x A B := gb1_gt_t (Int32.not_le.mp h) a
theorem gb1_gt_f' {x : Int32} {A B : Prop} (h : x ≤ 0) (b : B) : gp_b1 .gt x A B := gb1_gt_f (Int32.not_lt.mpr h) b
theorem gb1_le_t {x : Int32} {A B : Prop} (h : x ≤ 0) (a : A) : gp_b1 .le x A B := ⟨fun _ => a, fun z => absurd h z⟩
theorem gb1_le_f {x : Int32} {A B : Prop} (h : ¬ x ≤ 0) (b : B) : gp_b1 .le x A B := ⟨fun z => absurd z h, fun _ => b⟩
theorem gb1_le_t' {x : Int32} {A B : Prop} (h : ¬ 0 < x) (a : A) : gp_b1 .le x A B := gb1_le_t (Int32.not_lt.mp h) a
theorem gb1_le_f' {x : Int32} {A B : Prop} (h : 0 < x) (b : B) : gp_b1 .le x A B := gb1_le_f (Int32.not_le.mpr h) b
theorem gp_in57 {x : Int32} (h0 : 0 ≤ x) (h1 : x ≤ 5) : vp_in x 7 := by
  have := gp_in_of (n := 5) rfl h0 h1
  rw [vp_in_iff] at this ⊢
  omega
