section
variable {l : Launch} {G : gp_G} {d : Nat} {w : Nat → Nat → Int32} {u : Int64 × (Nat → Int64)} {q : Nat → Nat} {K : Option Value → gp_H → Prop}
/-! Integer.bitCount -/
def gk_bc (x : Nat) : Nat :=
  let a := x - ((x >>> 1) &&& 1431655765)
  let b := (a &&& 858993459) + ((a >>> 2) &&& 858993459)
  let c := (b + (b >>> 4)) &&& 252645135
  let e := c + (c >>> 8)
  (e + (e >>> 16)) &&& 63
def gk_ct (x : Nat) : Nat → Nat
  | 0 => 0
  | k + 1 => gk_ct x k + (x >>> k) % 2
theorem gk_mix {h l M m : Nat} (hl : l < 256) (hm : m < 256) : (256 * h + l) &&& (256 * M + m) = 256 * (h &&& M) + (l &&& m) := by
  apply Nat.eq_of_testBit_eq
  intro j
  have a : l &&& m < 2 ^ 8 := Nat.lt_of_le_of_lt Nat.and_le_left hl
  have e1 := Nat.testBit_two_pow_mul_add h (i := 8) (b := l) hl j
  have e2 := Nat.testBit_two_pow_mul_add M (i := 8) (b := m) hm j
  have e3 := Nat.testBit_two_pow_mul_add (h &&& M) (i := 8) (b := l &&& m) a j
  rw [Nat.testBit_and]
  show ((2 ^ 8 * h + l).testBit j && (2 ^ 8 * M + m).testBit j) = (2 ^ 8 * (h &&& M) + (l &&& m)).testBit j
  rw [e1, e2, e3]
  by_cases c : j < 8
  · simp only [if_pos c]; rw [Nat.testBit_and]
  · simp only [if_neg c]; rw [Nat.testBit_and]
def gk_A (l : Nat) : Nat := l - (l / 2 &&& 85)
def gk_B (x : Nat) : Nat := (x &&& 51) + (x / 4 &&& 51)
theorem gk_d1 : ∀ h, h < 256 → h / 2 &&& 5592405 = h / 2 &&& 85 := by decide +kernel
theorem gk_d2 : ∀ p, p < 2 → ∀ l, l < 256 → (128 * p + l / 2) &&& 85 = l / 2 &&& 85 := by decide +kernel
theorem gk_d3 : ∀ x, x < 256 → x &&& 3355443 = x &&& 51 := by decide +kernel
theorem gk_d4 : ∀ p, p < 4 → ∀ x, x < 256 → (64 * p + x / 4) &&& 51 = x / 4 &&& 51 := by decide +kernel
theorem gk_d5 : ∀ x, x < 256 → gk_B (gk_A x) % 16 ≤ 4 ∧ gk_B (gk_A x) / 16 ≤ 4 := by decide +kernel
theorem gk_d6 : ∀ x, x < 256 → x &&& 986895 = x % 16 := by decide +kernel
theorem gk_d7 : ∀ x, x < 256 → (gk_B (gk_A x) + gk_B (gk_A x) / 16) % 16 = gk_ct x 8 ∧ gk_ct x 8 ≤ 8 := by decide +kernel
theorem gk_ct16 {h l : Nat} (hl : l < 256) : gk_ct (256 * h + l) 16 = gk_ct l 8 + gk_ct h 8 := by
  have lo : ∀ k, k < 8 → ((256 * h + l) >>> k) % 2 = (l >>> k) % 2 := by
    intro k hk
    rw [Nat.shiftRight_eq_div_pow, Nat.shiftRight_eq_div_pow]
    rcases (show k = 0 ∨ k = 1 ∨ k = 2 ∨ k = 3 ∨ k = 4 ∨ k = 5 ∨ k = 6 ∨ k = 7 by omega) with rfl | rfl | rfl | rfl | rfl | rfl | rfl | rfl <;> omega
  have hi : ∀ k, ((256 * h + l) >>> (8 + k)) = h >>> k := by
    intro k
    rw [Nat.shiftRight_add]
    congr 1
    rw [Nat.shiftRight_eq_div_pow]
    omega
  show gk_ct (256 * h + l) 8 + ((256 * h + l) >>> (8 + 0)) % 2 + ((256 * h + l) >>> (8 + 1)) % 2 + ((256 * h + l) >>> (8 + 2)) % 2 + ((256 * h + l) >>> (8 + 3)) % 2 + ((256 * h + l) >>> (8 + 4)) % 2 + ((256 * h + l) >>> (8 + 5)) % 2 + ((256 * h + l) >>> (8 + 6)) % 2 + ((256 * h + l) >>> (8 + 7)) % 2 = _
  simp only [hi]
  have e : gk_ct (256 * h + l) 8 = gk_ct l 8 := by
    simp only [gk_ct]
    rw [lo 0 (by decide), lo 1 (by decide), lo 2 (by decide), lo 3 (by decide), lo 4 (by decide), lo 5 (by decide), lo 6 (by decide), lo 7 (by decide)]
  rw [e]
  simp only [gk_ct]
  omega
theorem gk_bc_e {x : Nat} (hx : x < 65536) : gk_bc x = gk_ct x 16 := by
  obtain ⟨h, l, hh, hl, rfl⟩ : ∃ h l, h < 256 ∧ l < 256 ∧ x = 256 * h + l := ⟨x / 256, x % 256, by omega, by omega, by omega⟩
  rw [gk_ct16 hl]
  have a1 : (256 * h + l) - (((256 * h + l) >>> 1) &&& 1431655765) = 256 * gk_A h + gk_A l := by
    have e : (256 * h + l) >>> 1 = 256 * (h / 2) + (128 * (h % 2) + l / 2) := by rw [Nat.shiftRight_eq_div_pow]; omega
    rw [e, show (1431655765 : Nat) = 256 * 5592405 + 85 from rfl, gk_mix (by omega) (by decide), gk_d1 h hh, gk_d2 (h % 2) (by omega) l hl]
    have b1 : h / 2 &&& 85 ≤ h / 2 := Nat.and_le_left
    have b2 : l / 2 &&& 85 ≤ l / 2 := Nat.and_le_left
    unfold gk_A
    omega
  have hA : ∀ z, z < 256 → gk_A z < 256 := fun z hz => by unfold gk_A; omega
  have ah := hA h hh
  have al := hA l hl
  have a2 : ∀ A B, A < 256 → B < 256 → ((256 * A + B) &&& 858993459) + (((256 * A + B) >>> 2) &&& 858993459) = 256 * gk_B A + gk_B B := by
    intro A B hA hB
    have e : (256 * A + B) >>> 2 = 256 * (A / 4) + (64 * (A % 4) + B / 4) := by rw [Nat.shiftRight_eq_div_pow]; omega
    rw [e, show (858993459 : Nat) = 256 * 3355443 + 51 from rfl, gk_mix hB (by decide), gk_mix (by omega) (by decide), gk_d3 A hA, gk_d3 (A / 4) (by omega), gk_d4 (A % 4) (by omega) B hB]
    unfold gk_B
    omega
  have a3 : ∀ X Y, X % 16 ≤ 4 → X / 16 ≤ 4 → Y % 16 ≤ 4 → Y / 16 ≤ 4 → ((256 * X + Y) + ((256 * X + Y) >>> 4)) &&& 252645135 = 256 * ((X + X / 16) % 16) + (Y + Y / 16) % 16 := by
    intro X Y h1 h2 h3 h4
    have e : (256 * X + Y) + ((256 * X + Y) >>> 4) = 256 * (X + X / 16) + (Y + 16 * (X % 16) + Y / 16) := by rw [Nat.shiftRight_eq_div_pow]; omega
    have e2 : (Y + 16 * (X % 16) + Y / 16) &&& 15 = (Y + 16 * (X % 16) + Y / 16) % 16 := Nat.and_two_pow_sub_one_eq_mod _ 4
    rw [e, show (252645135 : Nat) = 256 * 986895 + 15 from rfl, gk_mix (by omega) (by decide), gk_d6 _ (by omega), e2]
    omega
  have c5 := gk_d5 h hh
  have c6 := gk_d5 l hl
  have c7 := gk_d7 h hh
  have c8 := gk_d7 l hl
  unfold gk_bc
  simp only [a1, a2 _ _ ah al, a3 _ _ c5.1 c5.2 c6.1 c6.2, c7.1, c8.1]
  have e3 : (256 * gk_ct h 8 + gk_ct l 8) >>> 8 = gk_ct h 8 := by rw [Nat.shiftRight_eq_div_pow]; omega
  rw [e3]
  have e4 : (256 * gk_ct h 8 + gk_ct l 8 + gk_ct h 8) >>> 16 = 0 := by rw [Nat.shiftRight_eq_div_pow]; omega
  rw [e4]
  have e5 : (256 * gk_ct h 8 + gk_ct l 8 + gk_ct h 8 + 0) &&& 63 = (256 * gk_ct h 8 + gk_ct l 8 + gk_ct h 8 + 0) % 64 := Nat.and_two_pow_sub_one_eq_mod _ 6
  rw [e5]
  omega
theorem gk_and {a b : Nat} (ha : a < 2 ^ 32) (hb : b < 2 ^ 32) : nI a &&& nI b = nI (a &&& b) := by
  apply Int32.toBitVec_inj.mp
  apply BitVec.eq_of_toNat_eq
  rw [Int32.toBitVec_and, BitVec.toNat_and, pk_tn ha, pk_tn hb, pk_tn (Nat.lt_of_le_of_lt Nat.and_le_left ha)]
def gk_us (x y : Int32) : Int32 := (x.toUInt32 >>> (y.toUInt32 &&& Int32.toUInt32 31)).toInt32
def gk_f1 (x : Int32) : Int32 := x - (gk_us x 1 &&& 1431655765)
def gk_f2 (x : Int32) : Int32 := (x &&& 858993459) + (gk_us x 2 &&& 858993459)
def gk_f3 (x : Int32) : Int32 := (x + gk_us x 4) &&& 252645135
def gk_f4 (x : Int32) : Int32 := x + gk_us x 8
def gk_f5 (x : Int32) : Int32 := (x + gk_us x 16) &&& 63
theorem gk_usN {a : Nat} (ha : a < 2 ^ 32) (s : Int32) (k : Nat) (hs : ((s.toUInt32 &&& Int32.toUInt32 31).toBitVec % 32).toNat = k) : gk_us (nI a) s = nI (a >>> k) := by
  unfold gk_us
  rw [pk_ushrN ha s k hs, Nat.shiftRight_eq_div_pow]
theorem gk_sr (a k : Nat) : a >>> k ≤ a := by rw [Nat.shiftRight_eq_div_pow]; exact Nat.div_le_self _ _
theorem gk_bcI {a : Nat} (ha : a < 65536) : gk_f5 (gk_f4 (gk_f3 (gk_f2 (gk_f1 (nI a))))) = nI (gk_bc a) := by
  have e1 : gk_f1 (nI a) = nI (a - ((a >>> 1) &&& 1431655765)) := by
    unfold gk_f1
    have l := gk_sr a 1
    rw [gk_usN (by omega) 1 1 (by decide), show (1431655765 : Int32) = nI 1431655765 from rfl, gk_and (by omega) (by decide)]
    exact pk_sub (Nat.le_trans Nat.and_le_left l)
  rw [e1]
  unfold gk_bc
  generalize ez : a - ((a >>> 1) &&& 1431655765) = z
  have hz : z < 65536 := by omega
  have l2 := gk_sr z 2
  have e2 : gk_f2 (nI z) = nI ((z &&& 858993459) + ((z >>> 2) &&& 858993459)) := by
    unfold gk_f2
    rw [gk_usN (by omega) 2 2 (by decide), show (858993459 : Int32) = nI 858993459 from rfl, gk_and (by omega) (by decide), gk_and (by omega) (by decide), nI_add]
  rw [e2]
  have b1 : z &&& 858993459 ≤ z := Nat.and_le_left
  have b2 : (z >>> 2) &&& 858993459 ≤ z >>> 2 := Nat.and_le_left
  try simp only [ez]
  generalize ey : (z &&& 858993459) + ((z >>> 2) &&& 858993459) = y
  have hy : y < 2 ^ 18 := by omega
  have l3 := gk_sr y 4
  have e3 : gk_f3 (nI y) = nI ((y + (y >>> 4)) &&& 252645135) := by
    unfold gk_f3
    rw [gk_usN (by omega) 4 4 (by decide), nI_add, show (252645135 : Int32) = nI 252645135 from rfl, gk_and (by omega) (by decide)]
  rw [e3]
  have b3 : (y + (y >>> 4)) &&& 252645135 ≤ y + (y >>> 4) := Nat.and_le_left
  generalize ex : (y + (y >>> 4)) &&& 252645135 = x
  rw [ex] at b3
  have hx : x < 2 ^ 20 := by omega
  have l4 := gk_sr x 8
  have e4 : gk_f4 (nI x) = nI (x + (x >>> 8)) := by
    unfold gk_f4
    rw [gk_usN (by omega) 8 8 (by decide), nI_add]
  rw [e4]
  generalize ev : x + (x >>> 8) = v
  have hv : v < 2 ^ 22 := by omega
  have l5 := gk_sr v 16
  unfold gk_f5
  rw [gk_usN (by omega) 16 16 (by decide), nI_add, show (63 : Int32) = nI 63 from rfl, gk_and (by omega) (by decide)]
theorem gk_cnt {a : Nat} (ha : a < 65536) : ∀ k, k ≤ 16 → gp_it (fun i n => n + ((nI a >>> (nI i &&& 31)) &&& 1)) 0 k (0 : Int32) = nI (gk_ct a k)
  | 0, _ => rfl
  | k + 1, hk => by
    rw [gp_it_snoc, gk_cnt ha k (by omega), Nat.zero_add, pk_shrN (by omega) _ k (gb_sm k (by omega)), show (1 : Int32) = nI 1 from rfl, gk_and (Nat.lt_of_le_of_lt (Nat.div_le_self _ _) (by omega)) (by decide), nI_add]
    congr 1
    show _ = gk_ct a k + (a >>> k) % 2
    rw [Nat.shiftRight_eq_div_pow, Nat.and_one_is_mod]
set_option maxRecDepth 100000 in
theorem sp_Ji_bitCount {V : gp_H} {x : Int32} {a : Nat} (ex : x = nI a) (ha : a < 65536) (h : K (some (.int (gf_count x))) V) : gp_Cal l G d m_Ji_bitCount [.int x] V K := by
  have e : gf_count x = gk_f5 (gk_f4 (gk_f3 (gk_f2 (gk_f1 x)))) := by
    rw [ex, gk_bcI ha, gk_bc_e ha]
    exact gk_cnt ha 16 (Nat.le_refl _)
  rw [e] at h
  refine gp_enter od_Ji_bitCount rfl ?_
  (repeat refine gp_gc [] od_Ji_bitCount rfl rfl ?_)
  exact h

end
