section
variable {l : Launch} {G : gp_G} {d : Nat} {w : Nat → Nat → Int32} {u : Int64 × (Nat → Int64)} {q : Nat → Nat} {K : Option Value → gp_H → Prop}
/-! Integer.bitCount -/
def gk_bc (x : Nat) : Nat :=
  let a := x - ((x >>> 1) &&& 1431655765)
  let b := (a &&& 858993459) + ((a >>> 2) &&& 858993459)
  let c := (b + (b >>> 4)) &&& 252645135
  let e := c + (c >>> 8)
  (e + (e >>> 16)) &&& 63
def gk_ct (x : Nat) : Nat → Nat
  | 0 => 0
  | k + 1 => gk_ct x k + (x >>> k) % 2
def gk_all (p : Nat → Bool) : Nat → Bool
  | 0 => true
  | n + 1 => p n && gk_all p n
theorem gk_all_e {p : Nat → Bool} : ∀ {n : Nat}, gk_all p n = true → ∀ i, i < n → p i = true
  | 0, _, i, hi => absurd hi (by omega)
  | n + 1, h, i, hi => by
    have h : (p n && gk_all p n) = true := h
    rw [Bool.and_eq_true] at h
    by_cases e : i = n
    · rw [e]; exact h.1
    · exact gk_all_e h.2 i (by omega)
def gk_p (x : Nat) : Bool := Nat.beq (gk_bc x) (gk_ct x 16)
theorem gk_chk : gk_all (fun a => gk_all (fun b => gk_p (256 * a + b)) 256) 256 = true := by decide +kernel
theorem gk_bc_e {x : Nat} (hx : x < 65536) : gk_bc x = gk_ct x 16 := by
  have h := gk_all_e (gk_all_e gk_chk (x / 256) (by omega)) (x % 256) (by omega)
  have e : 256 * (x / 256) + x % 256 = x := Nat.div_add_mod x 256
  simp only [e] at h
  exact Nat.eq_of_beq_eq_true h
theorem gk_and {a b : Nat} (ha : a < 2 ^ 32) (hb : b < 2 ^ 32) : nI a &&& nI b = nI (a &&& b) := by
  apply Int32.toBitVec_inj.mp
  apply BitVec.eq_of_toNat_eq
  rw [Int32.toBitVec_and, BitVec.toNat_and, pk_tn ha, pk_tn hb, pk_tn (Nat.lt_of_le_of_lt Nat.and_le_left ha)]
def gk_us (x y : Int32) : Int32 := (x.toUInt32 >>> (y.toUInt32 &&& Int32.toUInt32 31)).toInt32
def gk_f1 (x : Int32) : Int32 := x - (gk_us x 1 &&& 1431655765)
def gk_f2 (x : Int32) : Int32 := (x &&& 858993459) + (gk_us x 2 &&& 858993459)
def gk_f3 (x : Int32) : Int32 := (x + gk_us x 4) &&& 252645135
def gk_f4 (x : Int32) : Int32 := x + gk_us x 8
def gk_f5 (x : Int32) : Int32 := (x + gk_us x 16) &&& 63
theorem gk_usN {a : Nat} (ha : a < 2 ^ 32) (s : Int32) (k : Nat) (hs : ((s.toUInt32 &&& Int32.toUInt32 31).toBitVec % 32).toNat = k) : gk_us (nI a) s = nI (a >>> k) := by
  unfold gk_us
  rw [pk_ushrN ha s k hs, Nat.shiftRight_eq_div_pow]
theorem gk_sr (a k : Nat) : a >>> k ≤ a := by rw [Nat.shiftRight_eq_div_pow]; exact Nat.div_le_self _ _
theorem gk_bcI {a : Nat} (ha : a < 65536) : gk_f5 (gk_f4 (gk_f3 (gk_f2 (gk_f1 (nI a))))) = nI (gk_bc a) := by
  have e1 : gk_f1 (nI a) = nI (a - ((a >>> 1) &&& 1431655765)) := by
    unfold gk_f1
    have l := gk_sr a 1
    rw [gk_usN (by omega) 1 1 (by decide), show (1431655765 : Int32) = nI 1431655765 from rfl, gk_and (by omega) (by decide)]
    exact pk_sub (Nat.le_trans Nat.and_le_left l)
  rw [e1]
  unfold gk_bc
  generalize ez : a - ((a >>> 1) &&& 1431655765) = z
  have hz : z < 65536 := by omega
  have l2 := gk_sr z 2
  have e2 : gk_f2 (nI z) = nI ((z &&& 858993459) + ((z >>> 2) &&& 858993459)) := by
    unfold gk_f2
    rw [gk_usN (by omega) 2 2 (by decide), show (858993459 : Int32) = nI 858993459 from rfl, gk_and (by omega) (by decide), gk_and (by omega) (by decide), nI_add]
  rw [e2]
  have b1 : z &&& 858993459 ≤ z := Nat.and_le_left
  have b2 : (z >>> 2) &&& 858993459 ≤ z >>> 2 := Nat.and_le_left
  simp only [ez]
  generalize (z &&& 858993459) + ((z >>> 2) &&& 858993459) = y at *
  have hy : y < 2 ^ 18 := by omega
  have l3 := gk_sr y 4
  have e3 : gk_f3 (nI y) = nI ((y + (y >>> 4)) &&& 252645135) := by
    unfold gk_f3
    rw [gk_usN (by omega) 4 4 (by decide), nI_add, show (252645135 : Int32) = nI 252645135 from rfl, gk_and (by omega) (by decide)]
  rw [e3]
  have b3 : (y + (y >>> 4)) &&& 252645135 ≤ y + (y >>> 4) := Nat.and_le_left
  generalize (y + (y >>> 4)) &&& 252645135 = x at *
  have hx : x < 2 ^ 20 := by omega
  have l4 := gk_sr x 8
  have e4 : gk_f4 (nI x) = nI (x + (x >>> 8)) := by
    unfold gk_f4
    rw [gk_usN (by omega) 8 8 (by decide), nI_add]
  rw [e4]
  generalize x + (x >>> 8) = v at *
  have hv : v < 2 ^ 22 := by omega
  have l5 := gk_sr v 16
  unfold gk_f5
  rw [gk_usN (by omega) 16 16 (by decide), nI_add, show (63 : Int32) = nI 63 from rfl, gk_and (by omega) (by decide)]
theorem gk_cnt {a : Nat} (ha : a < 65536) : ∀ k, k ≤ 16 → gp_it (fun i n => n + ((nI a >>> (nI i &&& 31)) &&& 1)) 0 k (0 : Int32) = nI (gk_ct a k)
  | 0, _ => rfl
  | k + 1, hk => by
    rw [gp_it_snoc, gk_cnt ha k (by omega), Nat.zero_add, pk_shrN (by omega) _ k (gb_sm k (by omega)), show (1 : Int32) = nI 1 from rfl, gk_and (Nat.lt_of_le_of_lt (Nat.div_le_self _ _) (by omega)) (by decide), nI_add]
    congr 1
    show _ = gk_ct a k + (a >>> k) % 2
    rw [Nat.shiftRight_eq_div_pow, Nat.and_one_is_mod]
set_option maxRecDepth 100000 in
theorem sp_Ji_bitCount {V : gp_H} {x : Int32} {a : Nat} (ex : x = nI a) (ha : a < 65536) (h : K (some (.int (gf_count x))) V) : gp_Cal l G d m_Ji_bitCount [.int x] V K := by
  have e : gf_count x = gk_f5 (gk_f4 (gk_f3 (gk_f2 (gk_f1 x)))) := by
    rw [ex, gk_bcI ha, gk_bc_e ha]
    exact gk_cnt ha 16 (Nat.le_refl _)
  rw [e] at h
  refine gp_enter od_Ji_bitCount rfl ?_
  (repeat refine gp_gc [] od_Ji_bitCount rfl rfl ?_)
  exact h

end
