section
variable {l : Launch} {G : gp_G} {d : Nat} {w : Nat → Nat → Int32} {u : Int64 × (Nat → Int64)} {q : Nat → Nat} {K : Option Value → gp_H → Prop}
/-! ===== the message as a long; the class's methods: put, feed, bits, grid, beat, found, far ===== -/
def gm_pk (ms : Nat → Nat) : Nat → Nat
  | 0 => 0
  | n + 1 => gm_pk ms n + ms n * 16 ^ n
def gm_P (M : Int64) (n : Nat) (ms : Nat → Nat) : Prop := M.toBitVec.toNat = gm_pk ms n ∧ n ≤ 16 ∧ ∀ i, i < n → ms i < 16
theorem gm_pk_lt {ms : Nat → Nat} : ∀ {n : Nat}, (∀ i, i < n → ms i < 16) → gm_pk ms n < 16 ^ n
  | 0, _ => Nat.one_pos
  | n + 1, h => by
    have a := gm_pk_lt (n := n) (fun i hi => h i (by omega))
    have b := h n (by omega)
    show gm_pk ms n + ms n * 16 ^ n < 16 ^ (n + 1)
    rw [Nat.pow_succ]
    have c : ms n * 16 ^ n ≤ 15 * 16 ^ n := Nat.mul_le_mul_right _ (by omega)
    omega
theorem gm_pk_at {ms : Nat → Nat} : ∀ {n i : Nat}, (∀ i, i < n → ms i < 16) → i < n → gm_pk ms n / 16 ^ i % 16 = ms i
  | 0, _, _, hi => absurd hi (by omega)
  | n + 1, i, h, hi => by
    show (gm_pk ms n + ms n * 16 ^ n) / 16 ^ i % 16 = ms i
    by_cases e : i = n
    · subst e
      rw [Nat.add_mul_div_right _ _ (Nat.pow_pos (by decide)), Nat.div_eq_of_lt (gm_pk_lt (fun j hj => h j (by omega))), Nat.zero_add]
      exact Nat.mod_eq_of_lt (h i hi)
    · have e2 : (16 : Nat) ^ n = 16 ^ (n - i - 1) * 16 * 16 ^ i := by
        rw [← Nat.pow_succ, ← Nat.pow_add]
        congr 1
        omega
      rw [e2, ← Nat.mul_assoc, Nat.add_mul_div_right _ _ (Nat.pow_pos (by decide)), ← Nat.mul_assoc, Nat.add_mul_mod_self_right]
      exact gm_pk_at (fun j hj => h j (by omega)) (by omega)
theorem gm_pk_congr {ms ns : Nat → Nat} : ∀ {n : Nat}, (∀ i, i < n → ms i = ns i) → gm_pk ms n = gm_pk ns n
  | 0, _ => rfl
  | n + 1, h => by
    show gm_pk ms n + ms n * 16 ^ n = gm_pk ns n + ns n * 16 ^ n
    rw [gm_pk_congr (fun i hi => h i (by omega)), h n (by omega)]
theorem gm_P_eq {M N : Int64} {n : Nat} {ms ns : Nat → Nat} (h1 : gm_P M n ms) (h2 : gm_P N n ns) : M = N ↔ ∀ i, i < n → ms i = ns i := by
  constructor
  · intro e i hi
    rw [← gm_pk_at h1.2.2 hi, ← gm_pk_at h2.2.2 hi, ← h1.1, ← h2.1, e]
  · intro e
    exact Int64.toBitVec_inj.mp (BitVec.eq_of_toNat_eq (by rw [h1.1, h2.1]; exact gm_pk_congr e))
theorem gm_sh : ∀ i, i < 16 → ((4 * nI i).toInt64.toUInt64 &&& Int64.toUInt64 63).toNat % 64 = 4 * i := by decide +kernel
theorem gm_lo (X : UInt64) : X.toInt64.toInt32 &&& 15 = nI (X.toNat % 16) := by
  rw [pk_and _ 4 (by decide)]
  have e : X.toInt64.toInt32.toBitVec.toNat = X.toNat % 2 ^ 32 := by
    rw [Int64.toBitVec_toInt32, BitVec.signExtend_eq_setWidth_of_le _ (by decide), BitVec.toNat_setWidth]
    rfl
  rw [e]
  congr 1
  omega
theorem gm_mark {M : Int64} {n i : Nat} {ms : Nat → Nat} (hM : gm_P M n ms) (hi : i < n) : (M.toUInt64 >>> ((4 * nI i).toInt64.toUInt64 &&& Int64.toUInt64 63)).toInt64.toInt32 &&& 15 = nI (ms i) := by
  have h16 := hM.2.1
  rw [gm_lo, UInt64.toNat_shiftRight, gm_sh i (by omega), Nat.shiftRight_eq_div_pow, Nat.pow_mul]
  have e : M.toUInt64.toNat = gm_pk ms n := hM.1
  rw [e]
  congr 1
  exact gm_pk_at hM.2.2 hi
theorem gm_sh2 : ∀ i, i < 16 → (((4 * nI i).toInt64 &&& 63).toBitVec.smod 64).toNat = 4 * i := by decide +kernel
theorem gm_l16 : ∀ m, m < 16 → (nI m).toInt64.toBitVec.toNat = m := by decide +kernel
theorem gm_put {M : Int64} {n m : Nat} {ms : Nat → Nat} (hM : gm_P M n ms) (hn : n < 16) (hm : m < 16) : gm_P (M ||| (nI m).toInt64 <<< ((4 * nI n).toInt64 &&& 63)) (n + 1) (fun i => if i = n then m else ms i) := by
  have hlt := gm_pk_lt hM.2.2
  have e16 : (2 : Nat) ^ (4 * n) = 16 ^ n := Nat.pow_mul 2 4 n
  have hb : m * 16 ^ n < 2 ^ 64 := by
    have a : m * 16 ^ n ≤ 15 * 16 ^ n := Nat.mul_le_mul_right _ (by omega)
    have b : (16 : Nat) ^ n ≤ 16 ^ 15 := Nat.pow_le_pow_right (by decide) (by omega)
    omega
  refine ⟨?_, by omega, fun i hi => ?_⟩
  · rw [Int64.toBitVec_or, BitVec.toNat_or, hM.1]
    have e : ((nI m).toInt64 <<< ((4 * nI n).toInt64 &&& 63)).toBitVec.toNat = m * 16 ^ n := by
      show ((nI m).toInt64.toBitVec <<< (((4 * nI n).toInt64 &&& 63).toBitVec.smod 64).toNat).toNat = _
      rw [gm_sh2 n hn, BitVec.toNat_shiftLeft, gm_l16 m hm, Nat.shiftLeft_eq, e16]
      exact Nat.mod_eq_of_lt hb
    rw [e, Nat.or_comm]
    have e2 := Nat.shiftLeft_add_eq_or_of_lt (b := gm_pk ms n) (i := 4 * n) (by rw [e16]; exact hlt) m
    rw [Nat.shiftLeft_eq, e16] at e2
    rw [← e2]
    show _ = gm_pk _ n + (if n = n then m else ms n) * 16 ^ n
    rw [if_pos rfl, Nat.add_comm]
    congr 1
    exact gm_pk_congr (fun i hi => by rw [if_neg (by omega)])
  · show (if i = n then m else ms i) < 16
    by_cases e : i = n
    · rw [if_pos e]; exact hm
    · rw [if_neg e]; exact hM.2.2 i (by omega)
theorem gm_P0 (ms : Nat → Nat) : gm_P 0 0 ms := ⟨rfl, by decide, fun i hi => absurd hi (by omega)⟩
section
variable {k : Nat} {ms : Nat → Nat}
set_option maxRecDepth 100000 in
theorem sp_Gp_markAt {V : gp_H} {M : Int64} {x : Int32} {i : Nat} (hM : gm_P M k ms) (ex : x = nI i) (hi : i < k) (h : K (some (.int (nI (ms i)))) V) : gp_Cal l G d m_Gp_markAt [.long M, .int x] V K := by
  subst ex
  refine gp_enter od_Gp_markAt rfl ?_
  (repeat refine gp_gc [] od_Gp_markAt rfl rfl ?_)
  have e := gm_mark hM hi
  rw [← e] at h
  exact h
set_option maxRecDepth 100000 in
theorem sp_Gp_inMessage {m : Int32} (hM : gm_P u.1 k ms) (ek : w 0 12 = nI k) (h1 : ¬ (∀ i, i < k → ¬ nI (ms i) = m) → K (some (.int 1)) (gv w u q)) (h0 : (∀ i, i < k → ¬ nI (ms i) = m) → K (some (.int 0)) (gv w u q)) : gp_Cal l G (d + 1) m_Gp_inMessage [.ref 0, .int m] (gv w u q) K := by
  refine gp_enter od_Gp_inMessage rfl ?_
  (repeat refine gp_gc [2] od_Gp_inMessage rfl rfl ?_)
  have hk := hM.2.1
  have key : ∀ (r j : Nat) (x : Int32), j + r = k → x = nI j → (∀ t, t < j → ¬ nI (ms t) = m) → gp_Go l G (d + 1) m_Gp_inMessage K 2 [some (.ref 0), some (.int m), some (.int x)] [] (gv w u q) 0 0 := by
    intro r
    induction r with
    | zero =>
      intro j x hj ex hall
      subst ex
      have hj : j = k := by omega
      subst hj
      refine gp_go od_Gp_inMessage rfl ?_
      (repeat refine gp_gc [2] od_Gp_inMessage rfl rfl ?_)
      refine gb_ge_t (by rw [ek]; exact Int32.le_refl _) ?_
      (repeat refine gp_gc [2] od_Gp_inMessage rfl rfl ?_)
      exact And.intro (Or.inl rfl) (h0 hall)
    | succ r ih =>
      intro j x hj ex hall
      subst ex
      refine gp_go od_Gp_inMessage rfl ?_
      (repeat refine gp_gc [2] od_Gp_inMessage rfl rfl ?_)
      refine gb_ge_f (by rw [ek]; exact nI_ge (by omega) (by omega)) ?_
      (repeat refine gp_gc [2] od_Gp_inMessage rfl rfl ?_)
      refine sp_Gp_markAt (d := d) hM rfl (by omega) ?_
      (repeat refine gp_gc [2] od_Gp_inMessage rfl rfl ?_)
      by_cases b2 : nI (ms j) = m
      · refine gb_ne_f b2 ?_
        (repeat refine gp_gc [2] od_Gp_inMessage rfl rfl ?_)
        exact And.intro (Or.inr rfl) (h1 (fun z => z j (by omega) b2))
      · refine gb_ne_t b2 ?_
        (repeat refine gp_gc [2] od_Gp_inMessage rfl rfl ?_)
        exact ih (j + 1) _ (by omega) (gp_inc rfl) (lt_s hall b2)
  exact key k 0 _ (by omega) rfl (fun t ht => absurd ht (by omega))
set_option maxRecDepth 100000 in
theorem sp_Gp_put {m : Int32} (hM : gm_P u.1 k ms) (ek : w 0 12 = nI k) (h2 : m = -1 → K (some (.int 0)) (gv (gw w 0 12 0) (0, u.2) q)) (h0 : ¬ m = -1 → ¬ ((0 ≤ m ∧ m < w 1 3) ∧ (∀ i, i < k → ¬ nI (ms i) = m) ∧ k < 16) → K (some (.int (-1))) (gv w u q)) (h1 : ¬ m = -1 → 0 ≤ m ∧ m < w 1 3 → (∀ i, i < k → ¬ nI (ms i) = m) → k < 16 → K (some (.int (w 0 12 + 1))) (gv (gw w 0 12 (w 0 12 + 1)) (u.1 ||| m.toInt64 <<< ((4 * w 0 12).toInt64 &&& 63), u.2) q)) : gp_Cal l G (d + 2) m_Gp_put [.ref 0, .int m] (gv w u q) K := by
  refine gp_enter od_Gp_put rfl ?_
  (repeat refine gp_gc [] od_Gp_put rfl rfl ?_)
  by_cases b0 : m = -1
  · refine gb_ne_f b0 ?_
    (repeat refine gp_gc [] od_Gp_put rfl rfl ?_)
    exact h2 b0
  refine gb_ne_t b0 ?_
  (repeat refine gp_gc [] od_Gp_put rfl rfl ?_)
  refine sp_Pl_has (fun a1 b1 => ?_) (fun n1 => ?_)
  rotate_left
  · repeat refine gp_gc [] od_Gp_put rfl rfl ?_
    first | refine And.intro (fun _ => ?_) (fun c => absurd rfl c) | refine And.intro (fun c => absurd rfl c) (fun _ => ?_)
    repeat refine gp_gc [] od_Gp_put rfl rfl ?_
    exact h0 b0 (fun z => n1 z.1)
  repeat refine gp_gc [] od_Gp_put rfl rfl ?_
  first | refine And.intro (fun c => absurd c (by decide)) (fun _ => ?_) | refine And.intro (fun _ => ?_) (fun c => absurd c (by decide))
  repeat refine gp_gc [] od_Gp_put rfl rfl ?_
  refine sp_Gp_inMessage (d := d) hM ek (fun n1 => ?_) (fun a2 => ?_)
  · (repeat refine gp_gc [] od_Gp_put rfl rfl ?_)
    refine gb1_ne_t (by decide) ?_
    (repeat refine gp_gc [] od_Gp_put rfl rfl ?_)
    exact h0 b0 (fun z => n1 z.2.1)
  (repeat refine gp_gc [] od_Gp_put rfl rfl ?_)
  refine gb1_ne_f rfl ?_
  (repeat refine gp_gc [] od_Gp_put rfl rfl ?_)
  have hk := hM.2.1
  by_cases b3 : k < 16
  · refine gb_lt_t (by rw [ek]; exact nI_lt b3 (by decide)) ?_
    (repeat refine gp_gc [] od_Gp_put rfl rfl ?_)
    exact h1 b0 ⟨a1, b1⟩ a2 b3
  · refine gb_lt_f (by rw [ek]; exact nI_nlt (b := 16) (by omega) (by omega)) ?_
    (repeat refine gp_gc [] od_Gp_put rfl rfl ?_)
    exact h0 b0 (fun z => b3 z.2.2)
end
/-! bytes that come behind a row -/
def ga_ap (A B p : Nat) (x : Int32) (w : Nat → Nat → Int32) : Nat → Nat → Int32 := gw (gw w A (w B p).toNatClampNeg x) B p (w B p + 1)
/-- in W N values by j stand behind the t of w in row A, B p says how many -/
def ga_R (A B p t N : Nat) (by' : Nat → Int32) (w W : Nat → Nat → Int32) : Prop := W B p = nI (t + N) ∧ (∀ j, j < N → W A (t + j) = by' j) ∧ (∀ x, x < t → W A x = w A x) ∧ (∀ b, b ≠ A → b ≠ B → W b = w b) ∧ ∀ k, k ≠ p → W B k = w B k
theorem ga_R0 {A B p t : Nat} {by' : Nat → Int32} {w : Nat → Nat → Int32} (h : w B p = nI t) : ga_R A B p t 0 by' w w := ⟨h, fun _ z => absurd z (by omega), fun _ _ => rfl, fun _ _ _ => rfl, fun _ _ => rfl⟩
theorem ga_Rs {A B p t N : Nat} {by' : Nat → Int32} {w W : Nat → Nat → Int32} {x : Int32} (hAB : A ≠ B) (ht : t + N < 2 ^ 31) (h : ga_R A B p t N by' w W) (hx : x = by' N) : ga_R A B p t (N + 1) by' w (ga_ap A B p x W) := by
  obtain ⟨h1, h2, h3, h4, h5⟩ := h
  have ec : (W B p).toNatClampNeg = t + N := by rw [h1]; exact nI_clamp ht
  unfold ga_ap
  rw [ec]
  refine ⟨?_, fun j hj => ?_, fun y hy => ?_, fun b hb1 hb2 => ?_, fun k hk => ?_⟩
  · rw [gw_at, if_pos rfl, h1]
    exact nI_1 (t + N)
  · rw [gw_ne hAB, gw_at]
    by_cases e : j = N
    · subst e
      rw [if_pos rfl, hx]
    · rw [if_neg (by omega)]
      exact h2 j (by omega)
  · rw [gw_ne hAB, gw_at, if_neg (by omega)]
    exact h3 y hy
  · rw [gw_ne hb2, gw_ne hb1]
    exact h4 b hb1 hb2
  · rw [gw_at, if_neg hk, gw_ne (Ne.symm hAB)]
    exact h5 k hk
theorem ga_it {A B p t : Nat} {by' : Nat → Int32} {w : Nat → Nat → Int32} (hAB : A ≠ B) : ∀ (r N : Nat) (W : Nat → Nat → Int32), t + N + r < 2 ^ 31 → ga_R A B p t N by' w W → ga_R A B p t (N + r) by' w (gp_it (fun k W => ga_ap A B p (by' k) W) N r W)
  | 0, N, W, _, h => h
  | r + 1, N, W, hb, h => by
    have a := ga_it hAB r (N + 1) (ga_ap A B p (by' N) W) (by omega) (ga_Rs hAB (by omega) h rfl)
    rw [show N + 1 + r = N + (r + 1) by omega] at a
    exact a
theorem ga_feed {a b c e f : Int32} {w : Nat → Nat → Int32} {t : Nat} (et : w 95 33 = nI t) (ht : t ≤ 500) : ga_R 118 95 33 t 20 (gf_byte a b c e f) w (gp_it (gf_feS a b c e f) 0 20 w) := by
  have h := ga_it (A := 118) (B := 95) (p := 33) (t := t) (by' := gf_byte a b c e f) (w := w) (by decide) 20 0 w (by omega) (ga_R0 et)
  exact h
theorem ga_bi {v : Int32} {A f t N : Nat} {w : Nat → Nat → Int32} (hA : A ≠ 95) : ∀ (k : Nat) (W : Nat → Nat → Int32), k ≤ N → t + N < 2 ^ 31 → ga_R A 95 f t (N - k) (fun j => (v >>> (nI (N - 1 - j) &&& 31)) &&& 1) w W → ga_R A 95 f t N (fun j => (v >>> (nI (N - 1 - j) &&& 31)) &&& 1) w (gf_bi v A f k W)
  | 0, W, _, _, h => h
  | k + 1, W, hk, ht, h => by
    have a := ga_bi (v := v) (w := w) (f := f) (t := t) hA k (ga_ap A 95 f ((v >>> (nI k &&& 31)) &&& 1) W) (by omega) ht (by
      have b := ga_Rs (x := (v >>> (nI k &&& 31)) &&& 1) hA (by omega) h (by
        show _ = (v >>> (nI (N - 1 - (N - (k + 1))) &&& 31)) &&& 1
        rw [show N - 1 - (N - (k + 1)) = k by omega])
      rw [show N - (k + 1) + 1 = N - k by omega] at b
      exact b)
    exact a
set_option maxRecDepth 100000 in
theorem sp_Pa_addBytes {v : Int32} {t : Nat} (et : w 55 4 = nI t) (ht : t + 4 ≤ 500) (h : K none (gv (ga_ap 56 55 4 ((v >>> (0 &&& 31)) &&& 255) (ga_ap 56 55 4 ((v >>> (8 &&& 31)) &&& 255) (ga_ap 56 55 4 ((v >>> (16 &&& 31)) &&& 255) (ga_ap 56 55 4 ((v >>> (24 &&& 31)) &&& 255) w)))) u q)) : gp_Cal l G (d + 0) m_Pa_addBytes [.ref 55, .int v] (gv w u q) K := by
  refine gp_enter od_Pa_addBytes rfl ?_
  have e1 : w 55 4 + 1 = nI (t + 1) := by rw [et]; exact nI_1 t
  have e2 : w 55 4 + 1 + 1 = nI (t + 2) := by rw [e1]; exact nI_1 (t + 1)
  have e3 : w 55 4 + 1 + 1 + 1 = nI (t + 3) := by rw [e2]; exact nI_1 (t + 2)
  (repeat refine gp_gc [] od_Pa_addBytes rfl rfl ?_)
  refine gb1_lt_f (by decide) ?_
  (repeat refine gp_gc [] od_Pa_addBytes rfl rfl ?_)
  refine gb_ge_f (by rw [et]; exact nI_ge (b := 500) (by omega) (by decide)) ?_
  (repeat refine gp_gc [] od_Pa_addBytes rfl rfl ?_)
  refine And.intro (by rw [et]; exact vp_in_nI (by omega) (by decide)) ?_
  (repeat refine gp_gc [] od_Pa_addBytes rfl rfl ?_)
  refine gb1_lt_f (by decide) ?_
  (repeat refine gp_gc [] od_Pa_addBytes rfl rfl ?_)
  refine gb_ge_f (by show ¬ (500 : Int32) ≤ w 55 4 + 1; rw [e1]; exact nI_ge (b := 500) (by omega) (by decide)) ?_
  (repeat refine gp_gc [] od_Pa_addBytes rfl rfl ?_)
  refine And.intro (by show vp_in (w 55 4 + 1) 500; rw [e1]; exact vp_in_nI (by omega) (by decide)) ?_
  (repeat refine gp_gc [] od_Pa_addBytes rfl rfl ?_)
  refine gb1_lt_f (by decide) ?_
  (repeat refine gp_gc [] od_Pa_addBytes rfl rfl ?_)
  refine gb_ge_f (by show ¬ (500 : Int32) ≤ w 55 4 + 1 + 1; rw [e2]; exact nI_ge (b := 500) (by omega) (by decide)) ?_
  (repeat refine gp_gc [] od_Pa_addBytes rfl rfl ?_)
  refine And.intro (by show vp_in (w 55 4 + 1 + 1) 500; rw [e2]; exact vp_in_nI (by omega) (by decide)) ?_
  (repeat refine gp_gc [] od_Pa_addBytes rfl rfl ?_)
  refine gb1_lt_f (by decide) ?_
  (repeat refine gp_gc [] od_Pa_addBytes rfl rfl ?_)
  refine gb_ge_f (by show ¬ (500 : Int32) ≤ w 55 4 + 1 + 1 + 1; rw [e3]; exact nI_ge (b := 500) (by omega) (by decide)) ?_
  (repeat refine gp_gc [] od_Pa_addBytes rfl rfl ?_)
  refine And.intro (by show vp_in (w 55 4 + 1 + 1 + 1) 500; rw [e3]; exact vp_in_nI (by omega) (by decide)) ?_
  (repeat refine gp_gc [] od_Pa_addBytes rfl rfl ?_)
  refine gb1_lt_t (by decide) ?_
  (repeat refine gp_gc [] od_Pa_addBytes rfl rfl ?_)
  exact h
theorem ga_4 {a b c e f v : Int32} {w W : Nat → Nat → Int32} {t N : Nat} (ht : t + N + 4 ≤ 500) (h : ga_R 56 55 4 t N (gf_byte a b c e f) w W) (h0 : (v >>> (24 &&& 31)) &&& 255 = gf_byte a b c e f N) (h1 : (v >>> (16 &&& 31)) &&& 255 = gf_byte a b c e f (N + 1)) (h2 : (v >>> (8 &&& 31)) &&& 255 = gf_byte a b c e f (N + 2)) (h3 : (v >>> (0 &&& 31)) &&& 255 = gf_byte a b c e f (N + 3)) : ga_R 56 55 4 t (N + 4) (gf_byte a b c e f) w (ga_ap 56 55 4 ((v >>> (0 &&& 31)) &&& 255) (ga_ap 56 55 4 ((v >>> (8 &&& 31)) &&& 255) (ga_ap 56 55 4 ((v >>> (16 &&& 31)) &&& 255) (ga_ap 56 55 4 ((v >>> (24 &&& 31)) &&& 255) W)))) :=
  ga_Rs (by decide) (by omega) (ga_Rs (by decide) (by omega) (ga_Rs (by decide) (by omega) (ga_Rs (by decide) (by omega) h h0) h1) h2) h3
set_option maxRecDepth 100000 in
theorem sp_Gp_feed {a b c e f : Int32} {t : Nat} (et : w 55 4 = nI t) (ht : t ≤ 500) (h0 : 500 < w 55 4 + 20 → K (some (.int (-1))) (gv w u q)) (h1 : ¬ 500 < w 55 4 + 20 → t + 20 ≤ 500 → ∀ W, ga_R 56 55 4 t 20 (gf_byte a b c e f) w W → K (some (.int (nI (t + 20)))) (gv W u q)) : gp_Cal l G (d + 1) m_Gp_feed [.ref 0, .int a, .int b, .int c, .int e, .int f] (gv w u q) K := by
  refine gp_enter od_Gp_feed rfl ?_
  (repeat refine gp_gc [] od_Gp_feed rfl rfl ?_)
  by_cases b0 : 500 < w 55 4 + 20
  · refine gb_le_f' b0 ?_
    (repeat refine gp_gc [] od_Gp_feed rfl rfl ?_)
    exact h0 b0
  refine gb_le_t' b0 ?_
  have ht2 : t + 20 ≤ 500 := by
    rw [et] at b0
    have e20 : nI t + 20 = nI (t + 20) := nI_add t 20
    rw [e20] at b0
    exact Nat.not_lt.mp (fun z => b0 (nI_lt z (by omega)))
  have h1 := h1 b0 ht2
  (repeat refine gp_gc [] od_Gp_feed rfl rfl ?_)
  have R0 : ga_R 56 55 4 t 0 (gf_byte a b c e f) w w := ga_R0 et
  refine sp_Pa_addBytes (d := d) et (by omega) ?_
  have R1 := ga_4 (v := a) (by omega) R0 rfl rfl rfl rfl
  generalize ga_ap 56 55 4 ((a >>> (0 &&& 31)) &&& 255) _ = W1 at R1 ⊢
  (repeat refine gp_gc [] od_Gp_feed rfl rfl ?_)
  refine sp_Pa_addBytes (d := d) R1.1 (by omega) ?_
  have R2 := ga_4 (v := b) (by omega) R1 rfl rfl rfl rfl
  generalize ga_ap 56 55 4 ((b >>> (0 &&& 31)) &&& 255) _ = W2 at R2 ⊢
  (repeat refine gp_gc [] od_Gp_feed rfl rfl ?_)
  refine sp_Pa_addBytes (d := d) R2.1 (by omega) ?_
  have R3 := ga_4 (v := c) (by omega) R2 rfl rfl rfl rfl
  generalize ga_ap 56 55 4 ((c >>> (0 &&& 31)) &&& 255) _ = W3 at R3 ⊢
  (repeat refine gp_gc [] od_Gp_feed rfl rfl ?_)
  refine sp_Pa_addBytes (d := d) R3.1 (by omega) ?_
  have R4 := ga_4 (v := e) (by omega) R3 rfl rfl rfl rfl
  generalize ga_ap 56 55 4 ((e >>> (0 &&& 31)) &&& 255) _ = W4 at R4 ⊢
  (repeat refine gp_gc [] od_Gp_feed rfl rfl ?_)
  refine sp_Pa_addBytes (d := d) R4.1 (by omega) ?_
  have R5 := ga_4 (v := f) (by omega) R4 rfl rfl rfl rfl
  generalize ga_ap 56 55 4 ((f >>> (0 &&& 31)) &&& 255) _ = W5 at R5 ⊢
  (repeat refine gp_gc [] od_Gp_feed rfl rfl ?_)
  have h1 := h1 W5 R5
  rw [← R5.1] at h1
  exact h1
/-! beats -/
set_option maxRecDepth 100000 in
theorem sp_Sk_has {m : Int32} (h1 : 0 ≤ m → m < w 83 7 → K (some (.int 1)) (gv w u q)) (h0 : ¬ (0 ≤ m ∧ m < w 83 7) → K (some (.int 0)) (gv w u q)) : gp_Cal l G (d + 0) m_Sk_has [.ref 83, .int m] (gv w u q) K := by
  refine gp_enter od_Sk_has rfl ?_
  (repeat refine gp_gc [] od_Sk_has rfl rfl ?_)
  refine And.intro (fun c1 => ?_) (fun c1 => ?_)
  · (repeat refine gp_gc [] od_Sk_has rfl rfl ?_)
    exact And.intro (Or.inl rfl) (h0 (fun h => absurd c1 (Int32.not_lt.mpr h.1)))
  (repeat refine gp_gc [] od_Sk_has rfl rfl ?_)
  refine And.intro (fun c2 => ?_) (fun c2 => ?_)
  · (repeat refine gp_gc [] od_Sk_has rfl rfl ?_)
    exact And.intro (Or.inl rfl) (h0 (fun h => absurd h.2 (Int32.not_lt.mpr c2)))
  (repeat refine gp_gc [] od_Sk_has rfl rfl ?_)
  exact And.intro (Or.inr rfl) (h1 (Int32.not_lt.mp c1) (Int32.not_le.mp c2))
def gf_Cbeat (w : Nat → Nat → Int32) (p s x y : Int32) : Nat → Nat → Int32 := gw (gw (gw (gw (gw (gw w 84 (w 83 7).toNatClampNeg p) 85 (w 83 7).toNatClampNeg s) 86 (w 83 7).toNatClampNeg x) 87 (w 83 7).toNatClampNeg y) 88 (w 83 7).toNatClampNeg (-1)) 83 7 (w 83 7 + 1)
set_option maxRecDepth 100000 in
theorem sp_Sk_add {p s x y : Int32} (hn : w 83 7 < 14 → vp_in (w 83 7) 14) (h1 : w 83 7 < 14 → K (some (.int (w 83 7 + 1 - 1))) (gv (gf_Cbeat w p s x y) u q)) (h0 : ¬ w 83 7 < 14 → K (some (.int (-1))) (gv w u q)) : gp_Cal l G (d + 0) m_Sk_add [.ref 83, .int p, .int s, .int x, .int y] (gv w u q) K := by
  refine gp_enter od_Sk_add rfl ?_
  (repeat refine gp_gc [] od_Sk_add rfl rfl ?_)
  refine And.intro (fun c6 => ?_) (fun c6 => ?_)
  rotate_left
  · (repeat refine gp_gc [] od_Sk_add rfl rfl ?_)
    exact h0 c6
  have i1 := hn c6
  (repeat refine gp_gc [] od_Sk_add rfl rfl ?_)
  refine And.intro i1 ?_
  (repeat refine gp_gc [] od_Sk_add rfl rfl ?_)
  refine And.intro i1 ?_
  (repeat refine gp_gc [] od_Sk_add rfl rfl ?_)
  refine And.intro i1 ?_
  (repeat refine gp_gc [] od_Sk_add rfl rfl ?_)
  refine And.intro i1 ?_
  (repeat refine gp_gc [] od_Sk_add rfl rfl ?_)
  refine And.intro i1 ?_
  (repeat refine gp_gc [] od_Sk_add rfl rfl ?_)
  exact h1 c6
set_option maxRecDepth 100000 in
theorem sp_Gp_beat {p s x y : Int32} (hn : w 83 7 < 14 → vp_in (w 83 7) 14) (h1 : (1 ≤ p ∧ p ≤ 999999) ∧ (0 ≤ s ∧ s ≤ 9999) ∧ (0 ≤ x ∧ x ≤ 39) ∧ (0 ≤ y ∧ y ≤ 39) ∧ w 83 7 < 14 → K (some (.int (w 83 7 + 1 - 1))) (gv (gf_Cbeat w p s x y) u q)) (h0 : ¬ ((1 ≤ p ∧ p ≤ 999999) ∧ (0 ≤ s ∧ s ≤ 9999) ∧ (0 ≤ x ∧ x ≤ 39) ∧ (0 ≤ y ∧ y ≤ 39) ∧ w 83 7 < 14) → K (some (.int (-1))) (gv w u q)) : gp_Cal l G (d + 1) m_Gp_beat [.ref 0, .int p, .int s, .int x, .int y] (gv w u q) K := by
  refine gp_enter od_Gp_beat rfl ?_
  (repeat refine gp_gc [] od_Gp_beat rfl rfl ?_)
  refine sp_Gp_within (fun a1 b1 => ?_) (fun n1 => ?_)
  rotate_left
  · repeat refine gp_gc [] od_Gp_beat rfl rfl ?_
    first | refine And.intro (fun _ => ?_) (fun c => absurd rfl c) | refine And.intro (fun c => absurd rfl c) (fun _ => ?_)
    repeat refine gp_gc [] od_Gp_beat rfl rfl ?_
    ((first | refine And.intro (fun c => absurd c (by decide)) (fun _ => ?_) | refine And.intro (fun _ => ?_) (fun c => absurd c (by decide))); (repeat refine gp_gc [] od_Gp_beat rfl rfl ?_); exact h0 (fun h => n1 h.1))
  repeat refine gp_gc [] od_Gp_beat rfl rfl ?_
  first | refine And.intro (fun c => absurd c (by decide)) (fun _ => ?_) | refine And.intro (fun _ => ?_) (fun c => absurd c (by decide))
  repeat refine gp_gc [] od_Gp_beat rfl rfl ?_
  refine sp_Gp_within (fun a2 b2 => ?_) (fun n1 => ?_)
  rotate_left
  · repeat refine gp_gc [] od_Gp_beat rfl rfl ?_
    first | refine And.intro (fun _ => ?_) (fun c => absurd rfl c) | refine And.intro (fun c => absurd rfl c) (fun _ => ?_)
    repeat refine gp_gc [] od_Gp_beat rfl rfl ?_
    ((first | refine And.intro (fun c => absurd c (by decide)) (fun _ => ?_) | refine And.intro (fun _ => ?_) (fun c => absurd c (by decide))); (repeat refine gp_gc [] od_Gp_beat rfl rfl ?_); exact h0 (fun h => n1 h.2.1))
  repeat refine gp_gc [] od_Gp_beat rfl rfl ?_
  first | refine And.intro (fun c => absurd c (by decide)) (fun _ => ?_) | refine And.intro (fun _ => ?_) (fun c => absurd c (by decide))
  repeat refine gp_gc [] od_Gp_beat rfl rfl ?_
  refine sp_Gp_within (fun a3 b3 => ?_) (fun n1 => ?_)
  rotate_left
  · repeat refine gp_gc [] od_Gp_beat rfl rfl ?_
    first | refine And.intro (fun _ => ?_) (fun c => absurd rfl c) | refine And.intro (fun c => absurd rfl c) (fun _ => ?_)
    repeat refine gp_gc [] od_Gp_beat rfl rfl ?_
    ((first | refine And.intro (fun c => absurd c (by decide)) (fun _ => ?_) | refine And.intro (fun _ => ?_) (fun c => absurd c (by decide))); (repeat refine gp_gc [] od_Gp_beat rfl rfl ?_); exact h0 (fun h => n1 h.2.2.1))
  repeat refine gp_gc [] od_Gp_beat rfl rfl ?_
  first | refine And.intro (fun c => absurd c (by decide)) (fun _ => ?_) | refine And.intro (fun _ => ?_) (fun c => absurd c (by decide))
  repeat refine gp_gc [] od_Gp_beat rfl rfl ?_
  refine sp_Gp_within (fun a4 b4 => ?_) (fun n1 => ?_)
  rotate_left
  · repeat refine gp_gc [] od_Gp_beat rfl rfl ?_
    first | refine And.intro (fun _ => ?_) (fun c => absurd rfl c) | refine And.intro (fun c => absurd rfl c) (fun _ => ?_)
    repeat refine gp_gc [] od_Gp_beat rfl rfl ?_
    ((first | refine And.intro (fun c => absurd c (by decide)) (fun _ => ?_) | refine And.intro (fun _ => ?_) (fun c => absurd c (by decide))); (repeat refine gp_gc [] od_Gp_beat rfl rfl ?_); exact h0 (fun h => n1 h.2.2.2.1))
  repeat refine gp_gc [] od_Gp_beat rfl rfl ?_
  first | refine And.intro (fun c => absurd c (by decide)) (fun _ => ?_) | refine And.intro (fun _ => ?_) (fun c => absurd c (by decide))
  repeat refine gp_gc [] od_Gp_beat rfl rfl ?_
  (first | refine And.intro (fun c => absurd c (by decide)) (fun _ => ?_) | refine And.intro (fun _ => ?_) (fun c => absurd c (by decide)))
  (repeat refine gp_gc [] od_Gp_beat rfl rfl ?_)
  refine sp_Sk_add (d := d) hn (fun c => ?_) (fun c => ?_)
  · (repeat refine gp_gc [] od_Gp_beat rfl rfl ?_)
    exact h1 ⟨⟨a1, b1⟩, ⟨a2, b2⟩, ⟨a3, b3⟩, ⟨a4, b4⟩, c⟩
  · (repeat refine gp_gc [] od_Gp_beat rfl rfl ?_)
    exact h0 (fun h => c h.2.2.2.2)
set_option maxRecDepth 100000 in
theorem sp_Gp_found {b a c : Int32} (hn : 0 ≤ b ∧ b < w 83 7 → vp_in b 14) (h1 : 0 ≤ b ∧ b < w 83 7 → gf_okF a c → K (some (.int 1)) (gv (gw (gw w 88 b.toNatClampNeg a) 89 b.toNatClampNeg c) u q)) (h0 : ¬ ((0 ≤ b ∧ b < w 83 7) ∧ gf_okF a c) → K (some (.int 0)) (gv w u q)) : gp_Cal l G (d + 1) m_Gp_found [.ref 0, .int b, .int a, .int c] (gv w u q) K := by
  refine gp_enter od_Gp_found rfl ?_
  have yes : gf_okF a c → gp_Go l G (d + 1) m_Gp_found K 34 [some (.ref 0), some (.int b), some (.int a), some (.int c), some (.int 1)] [] (gv w u q) 0 0 := by
    intro ok
    refine gp_go od_Gp_found rfl ?_
    (repeat refine gp_gc [34] od_Gp_found rfl rfl ?_)
    refine sp_Sk_has (fun a1 b1 => ?_) (fun n1 => ?_)
    rotate_left
    · repeat refine gp_gc [34] od_Gp_found rfl rfl ?_
      first | refine And.intro (fun _ => ?_) (fun c => absurd rfl c) | refine And.intro (fun c => absurd rfl c) (fun _ => ?_)
      repeat refine gp_gc [34] od_Gp_found rfl rfl ?_
      exact And.intro (Or.inl rfl) (h0 (fun h => n1 h.1))
    repeat refine gp_gc [34] od_Gp_found rfl rfl ?_
    first | refine And.intro (fun c => absurd c (by decide)) (fun _ => ?_) | refine And.intro (fun _ => ?_) (fun c => absurd c (by decide))
    repeat refine gp_gc [34] od_Gp_found rfl rfl ?_
    (first | refine And.intro (fun c => absurd c (by decide)) (fun _ => ?_) | refine And.intro (fun _ => ?_) (fun c => absurd c (by decide)))
    have i1 := hn ⟨a1, b1⟩
    (repeat refine gp_gc [34] od_Gp_found rfl rfl ?_)
    refine And.intro i1 ?_
    (repeat refine gp_gc [34] od_Gp_found rfl rfl ?_)
    refine And.intro i1 ?_
    (repeat refine gp_gc [34] od_Gp_found rfl rfl ?_)
    exact And.intro (Or.inr rfl) (h1 ⟨a1, b1⟩ ok)
  have no : ¬ gf_okF a c → gp_Go l G (d + 1) m_Gp_found K 34 [some (.ref 0), some (.int b), some (.int a), some (.int c), some (.int 0)] [] (gv w u q) 0 0 := by
    intro ok
    refine gp_go od_Gp_found rfl ?_
    (repeat refine gp_gc [34] od_Gp_found rfl rfl ?_)
    refine sp_Sk_has (fun a1 b1 => ?_) (fun n1 => ?_)
    rotate_left
    · repeat refine gp_gc [34] od_Gp_found rfl rfl ?_
      first | refine And.intro (fun _ => ?_) (fun c => absurd rfl c) | refine And.intro (fun c => absurd rfl c) (fun _ => ?_)
      repeat refine gp_gc [34] od_Gp_found rfl rfl ?_
      exact And.intro (Or.inl rfl) (h0 (fun h => n1 h.1))
    repeat refine gp_gc [34] od_Gp_found rfl rfl ?_
    first | refine And.intro (fun c => absurd c (by decide)) (fun _ => ?_) | refine And.intro (fun _ => ?_) (fun c => absurd c (by decide))
    repeat refine gp_gc [34] od_Gp_found rfl rfl ?_
    (first | refine And.intro (fun c => absurd c (by decide)) (fun _ => ?_) | refine And.intro (fun _ => ?_) (fun c => absurd c (by decide)))
    (repeat refine gp_gc [34] od_Gp_found rfl rfl ?_)
    exact And.intro (Or.inl rfl) (h0 (fun h => ok h.2))
  (repeat refine gp_gc [34] od_Gp_found rfl rfl ?_)
  by_cases b2 : a = -1
  · refine gb_eq_t b2 ?_
    (repeat refine gp_gc [34] od_Gp_found rfl rfl ?_)
    exact yes (Or.inl b2)
  refine gb_eq_f b2 ?_
  (repeat refine gp_gc [34] od_Gp_found rfl rfl ?_)
  refine sp_Gp_within (fun a3 b3 => ?_) (fun n1 => ?_)
  rotate_left
  · repeat refine gp_gc [34] od_Gp_found rfl rfl ?_
    first | refine And.intro (fun _ => ?_) (fun c => absurd rfl c) | refine And.intro (fun c => absurd rfl c) (fun _ => ?_)
    repeat refine gp_gc [34] od_Gp_found rfl rfl ?_
    exact no (fun h => h.elim b2 (fun h => n1 h.1))
  repeat refine gp_gc [34] od_Gp_found rfl rfl ?_
  first | refine And.intro (fun c => absurd c (by decide)) (fun _ => ?_) | refine And.intro (fun _ => ?_) (fun c => absurd c (by decide))
  repeat refine gp_gc [34] od_Gp_found rfl rfl ?_
  refine sp_Gp_within (fun a4 b4 => ?_) (fun n1 => ?_)
  rotate_left
  · repeat refine gp_gc [34] od_Gp_found rfl rfl ?_
    first | refine And.intro (fun _ => ?_) (fun c => absurd rfl c) | refine And.intro (fun c => absurd rfl c) (fun _ => ?_)
    repeat refine gp_gc [34] od_Gp_found rfl rfl ?_
    exact no (fun h => h.elim b2 (fun h => n1 h.2))
  repeat refine gp_gc [34] od_Gp_found rfl rfl ?_
  first | refine And.intro (fun c => absurd c (by decide)) (fun _ => ?_) | refine And.intro (fun _ => ?_) (fun c => absurd c (by decide))
  repeat refine gp_gc [34] od_Gp_found rfl rfl ?_
  exact yes (Or.inr ⟨⟨a3, b3⟩, a4, b4⟩)
set_option maxRecDepth 100000 in
theorem sp_Gp_far {b v : Int32} (hn : 0 ≤ b ∧ b < w 83 7 → vp_in b 14) (h1 : 0 ≤ b ∧ b < w 83 7 → 0 ≤ v ∧ v ≤ 55 → K (some (.int 1)) (gv (gw w 90 b.toNatClampNeg v) u q)) (h0 : ¬ ((0 ≤ b ∧ b < w 83 7) ∧ 0 ≤ v ∧ v ≤ 55) → K (some (.int 0)) (gv w u q)) : gp_Cal l G (d + 1) m_Gp_far [.ref 0, .int b, .int v] (gv w u q) K := by
  refine gp_enter od_Gp_far rfl ?_
  (repeat refine gp_gc [] od_Gp_far rfl rfl ?_)
  refine sp_Sk_has (fun a1 b1 => ?_) (fun n1 => ?_)
  rotate_left
  · repeat refine gp_gc [] od_Gp_far rfl rfl ?_
    first | refine And.intro (fun _ => ?_) (fun c => absurd rfl c) | refine And.intro (fun c => absurd rfl c) (fun _ => ?_)
    repeat refine gp_gc [] od_Gp_far rfl rfl ?_
    exact And.intro (Or.inl rfl) (h0 (fun h => n1 h.1))
  repeat refine gp_gc [] od_Gp_far rfl rfl ?_
  first | refine And.intro (fun c => absurd c (by decide)) (fun _ => ?_) | refine And.intro (fun _ => ?_) (fun c => absurd c (by decide))
  repeat refine gp_gc [] od_Gp_far rfl rfl ?_
  refine sp_Gp_within (fun a2 b2 => ?_) (fun n1 => ?_)
  rotate_left
  · repeat refine gp_gc [] od_Gp_far rfl rfl ?_
    first | refine And.intro (fun _ => ?_) (fun c => absurd rfl c) | refine And.intro (fun c => absurd rfl c) (fun _ => ?_)
    repeat refine gp_gc [] od_Gp_far rfl rfl ?_
    exact And.intro (Or.inl rfl) (h0 (fun h => n1 h.2))
  repeat refine gp_gc [] od_Gp_far rfl rfl ?_
  first | refine And.intro (fun c => absurd c (by decide)) (fun _ => ?_) | refine And.intro (fun _ => ?_) (fun c => absurd c (by decide))
  repeat refine gp_gc [] od_Gp_far rfl rfl ?_
  have i1 := hn ⟨a1, b1⟩
  refine And.intro i1 ?_
  (repeat refine gp_gc [] od_Gp_far rfl rfl ?_)
  exact And.intro (Or.inr rfl) (h1 ⟨a1, b1⟩ ⟨a2, b2⟩)

end
