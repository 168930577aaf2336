section
variable {l : Launch} {G : gp_G} {d : Nat} {w : Nat → Nat → Int32} {u : Int64 × (Nat → Int64)} {q : Nat → Nat} {K : Option Value → gp_H → Prop}
/-! ===== bits of an int ===== -/
def gb (x : Int32) (b : Nat) : Bool := x.toBitVec.getLsbD b
theorem gb_ext {x y : Int32} (h : ∀ b, b < 32 → gb x b = gb y b) : x = y :=
  Int32.toBitVec_inj.mp (BitVec.eq_of_getLsbD_eq (fun b hb => h b hb))
theorem gb_or (x y : Int32) (b : Nat) : gb (x ||| y) b = (gb x b || gb y b) := by
  unfold gb
  rw [Int32.toBitVec_or, BitVec.getLsbD_or]
theorem gb_and (x y : Int32) (b : Nat) : gb (x &&& y) b = (gb x b && gb y b) := by
  unfold gb
  rw [Int32.toBitVec_and, BitVec.getLsbD_and]
theorem gb_not (x : Int32) {b : Nat} (hb : b < 32) : gb (x ^^^ -1) b = !gb x b := by
  unfold gb
  rw [Int32.toBitVec_xor, show (-1 : Int32).toBitVec = BitVec.allOnes 32 from rfl, BitVec.getLsbD_xor, BitVec.getLsbD_allOnes]
  simp [hb]
theorem gb_0 (b : Nat) : gb 0 b = false := by
  unfold gb
  rw [show (0 : Int32).toBitVec = 0#32 from rfl, BitVec.getLsbD_zero]
theorem gb_p2 : ∀ m, m < 32 → ((1 : Int32) <<< (nI m &&& 31)).toBitVec = BitVec.twoPow 32 m := by decide +kernel
theorem gb_1 {m b : Nat} (hm : m < 32) (hb : b < 32) : gb (1 <<< (nI m &&& 31)) b = decide (b = m) := by
  unfold gb
  rw [gb_p2 m hm, BitVec.getLsbD_twoPow]
  by_cases e : b = m
  · subst e; simp [hb]
  · simp [e]
    intro _ z
    exact e z.symm
theorem gb_sm : ∀ m, m < 32 → ((nI m &&& 31).toBitVec.smod 32).toNat = m := by decide +kernel
theorem gb_shr (x : Int32) {k b : Nat} (h : k + b < 32) : gb (x >>> (nI k &&& 31)) b = gb x (k + b) := by
  unfold gb
  rw [Int32.toBitVec_shiftRight, BitVec.sshiftRight_eq', gb_sm k (by omega), BitVec.getLsbD_sshiftRight]
  rw [if_pos h]
  simp
  omega
theorem gb_one (b : Nat) (hb : b < 32) : gb 1 b = decide (b = 0) := by
  have := gb_1 (m := 0) (b := b) (by decide) hb
  rw [show ((1 : Int32) <<< (nI 0 &&& 31)) = 1 from rfl] at this
  exact this
/-- the test of one bit -/
theorem gb_t (x : Int32) {k : Nat} (h : k < 32) : (x >>> (nI k &&& 31)) &&& 1 = if gb x k then 1 else 0 := by
  refine gb_ext (fun b hb => ?_)
  rw [gb_and, gb_one b hb]
  by_cases e : b = 0
  · subst e
    rw [gb_shr x (by omega)]
    by_cases g : gb x k = true
    · rw [if_pos g, Nat.add_zero, g, gb_one 0 (by decide)]; rfl
    · rw [if_neg g, Nat.add_zero, gb_0]
      simp at g
      simp [g]
  · by_cases g : gb x k = true
    · rw [if_pos g, gb_one b hb]; simp [e]
    · rw [if_neg g, gb_0]; simp [e]
theorem gb_t1 (x : Int32) {k : Nat} (h : k < 32) : (x >>> (nI k &&& 31)) &&& 1 = 1 ↔ gb x k = true := by
  rw [gb_t x h]
  by_cases g : gb x k = true
  · simp [g]
  · simp [g]
theorem gb_t0 (x : Int32) {k : Nat} (h : k < 32) : (x >>> (nI k &&& 31)) &&& 1 = 0 ↔ gb x k = false := by
  rw [gb_t x h]
  by_cases g : gb x k = true
  · simp [g]
  · simp [g]
/-- a set holds another -/
theorem gb_sub (x y : Int32) : x &&& (y ^^^ -1) = 0 ↔ ∀ b, b < 32 → gb x b = true → gb y b = true := by
  constructor
  · intro h b hb hx
    have := congrArg (fun z => gb z b) h
    simp only [gb_and, gb_not y hb, gb_0, hx] at this
    simpa using this
  · intro h
    refine gb_ext (fun b hb => ?_)
    rw [gb_and, gb_not y hb, gb_0]
    cases hx : gb x b
    · rfl
    · rw [h b hb hx]; rfl
/-- a test with one bit of a set -/
theorem gb_and1 (x : Int32) {k : Nat} (h : k < 32) : x &&& 1 <<< (nI k &&& 31) = 0 ↔ gb x k = false := by
  constructor
  · intro e
    have := congrArg (fun z => gb z k) e
    simp only [gb_and, gb_1 h h, gb_0] at this
    simpa using this
  · intro e
    refine gb_ext (fun b hb => ?_)
    rw [gb_and, gb_1 h hb, gb_0]
    by_cases eb : b = k
    · subst eb; rw [e]; rfl
    · simp [eb]
/-- the marks of those places for which C says so -/
def gz_mkS (ms : Nat → Nat) (C : Nat → Bool) (i : Nat) (s : Int32) : Int32 := if C i then s ||| 1 <<< (nI (ms i) &&& 31) else s
def gz_mk (n : Nat) (ms : Nat → Nat) (C : Nat → Bool) : Int32 := gp_it (gz_mkS ms C) 0 n 0
theorem gz_mk_it {ms : Nat → Nat} {C : Nat → Bool} : ∀ (k a : Nat) (s : Int32) (b : Nat), b < 32 → (∀ i, a ≤ i → i < a + k → ms i < 32) → (gb (gp_it (gz_mkS ms C) a k s) b = true ↔ gb s b = true ∨ ∃ i, a ≤ i ∧ i < a + k ∧ C i = true ∧ ms i = b)
  | 0, a, s, b, hb, hm => by
    constructor
    · intro h; exact Or.inl h
    · rintro (h | ⟨i, h1, h2, _⟩)
      · exact h
      · omega
  | k + 1, a, s, b, hb, hm => by
    show gb (gp_it (gz_mkS ms C) (a + 1) k (gz_mkS ms C a s)) b = true ↔ _
    rw [gz_mk_it k (a + 1) _ b hb (fun i h1 h2 => hm i (by omega) (by omega))]
    have hs : gb (gz_mkS ms C a s) b = true ↔ gb s b = true ∨ (C a = true ∧ ms a = b) := by
      unfold gz_mkS
      by_cases c : C a = true
      · rw [if_pos c, gb_or, gb_1 (hm a (by omega) (by omega)) hb]
        simp only [c, Bool.or_eq_true, decide_eq_true_eq, true_and]
        exact or_congr Iff.rfl ⟨Eq.symm, Eq.symm⟩
      · rw [if_neg c]
        simp [c]
    rw [hs]
    constructor
    · rintro ((h | ⟨h1, h2⟩) | ⟨i, h1, h2, h3, h4⟩)
      · exact Or.inl h
      · exact Or.inr ⟨a, by omega, by omega, h1, h2⟩
      · exact Or.inr ⟨i, by omega, by omega, h3, h4⟩
    · rintro (h | ⟨i, h1, h2, h3, h4⟩)
      · exact Or.inl (Or.inl h)
      · by_cases e : i = a
        · subst e; exact Or.inl (Or.inr ⟨h3, h4⟩)
        · exact Or.inr ⟨i, by omega, by omega, h3, h4⟩
theorem gz_mk_b {n : Nat} {ms : Nat → Nat} {C : Nat → Bool} {b : Nat} (hb : b < 32) (hm : ∀ i, i < n → ms i < 32) : gb (gz_mk n ms C) b = true ↔ ∃ i, i < n ∧ C i = true ∧ ms i = b := by
  unfold gz_mk
  rw [gz_mk_it n 0 0 b hb (fun i _ h => hm i (by omega)), gb_0]
  constructor
  · rintro (h | ⟨i, _, h2, h3, h4⟩)
    · exact absurd h (by decide)
    · exact ⟨i, by omega, h3, h4⟩
  · rintro ⟨i, h2, h3, h4⟩
    exact Or.inr ⟨i, by omega, by omega, h3, h4⟩
theorem gb_eq {x y : Int32} (h : ∀ b, b < 32 → (gb x b = true ↔ gb y b = true)) : x = y := gb_ext (fun b hb => Bool.eq_iff_iff.mpr (h b hb))
theorem gz_mk_congr {n : Nat} {ms : Nat → Nat} {C D : Nat → Bool} (hm : ∀ i, i < n → ms i < 32) (h : ∀ i, i < n → C i = D i) : gz_mk n ms C = gz_mk n ms D := by
  refine gb_eq (fun b hb => ?_)
  rw [gz_mk_b hb hm, gz_mk_b hb hm]
  constructor
  · rintro ⟨i, h1, h2, h3⟩
    exact ⟨i, h1, by rw [← h i h1]; exact h2, h3⟩
  · rintro ⟨i, h1, h2, h3⟩
    exact ⟨i, h1, by rw [h i h1]; exact h2, h3⟩
theorem gz_mk_off {n : Nat} {ms : Nat → Nat} {C : Nat → Bool} {j : Nat} (hm : ∀ i, i < n → ms i < 32) (hd : ∀ i i', i < n → i' < n → ms i = ms i' → i = i') (hj : j < n) : gz_mk n ms C &&& ((1 <<< (nI (ms j) &&& 31)) ^^^ -1) = gz_mk n ms (fun i => C i && decide (i ≠ j)) := by
  refine gb_eq (fun b hb => ?_)
  rw [gb_and, gb_not _ hb, gb_1 (hm j hj) hb, Bool.and_eq_true, gz_mk_b hb hm, gz_mk_b hb hm]
  constructor
  · rintro ⟨⟨i, h1, h2, h3⟩, h4⟩
    refine ⟨i, h1, ?_, h3⟩
    have : i ≠ j := fun e => by subst e; simp [h3] at h4
    simp [h2, this]
  · rintro ⟨i, h1, h2, h3⟩
    simp at h2
    refine ⟨⟨i, h1, h2.1, h3⟩, ?_⟩
    have : ¬ b = ms j := fun e => h2.2 (hd i j h1 hj (by rw [h3, e]))
    simp [this]

end
