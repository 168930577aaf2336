section
variable {l : Launch} {G : gp_G} {d : Nat} {w : Nat → Nat → Int32} {u : Int64 × (Nat → Int64)} {q : Nat → Nat} {K : Option Value → gp_H → Prop}
/-! ===== all readings, in their order ===== -/
abbrev gz_S : Type := Nat × (Nat → Nat)
def gz_u (tk : Nat → Nat) (i t : Nat) : Nat → Nat := fun j => if j = i then t else tk j
def gz_l (g : Nat → List gz_S) : Nat → Nat → List gz_S
  | 0, _ => []
  | k + 1, t => g t ++ gz_l g k (t + 1)
def gz_c (ok : Nat → Nat → (Nat → Nat) → Bool) (co : Nat → Nat → (Nat → Nat) → Nat) : Nat → Nat → (Nat → Nat) → Nat → List gz_S
  | 0, _, tk, s => [(s, tk)]
  | f + 1, i, tk, s => gz_l (fun t => if ok i t tk then gz_c ok co f (i + 1) (gz_u tk i t) (s + co i t tk) else []) 4 0
theorem gz_l_mem {g : Nat → List gz_S} {e : gz_S} : ∀ {k t : Nat}, e ∈ gz_l g k t → ∃ t', t ≤ t' ∧ t' < t + k ∧ e ∈ g t'
  | 0, t, h => by simp [gz_l] at h
  | k + 1, t, h => by
    rcases List.mem_append.mp h with h | h
    · exact ⟨t, by omega, by omega, h⟩
    · obtain ⟨t', a, b, c⟩ := gz_l_mem (k := k) h
      exact ⟨t', by omega, by omega, c⟩
/-- the least that a reading can come to -/
theorem gz_ge {ok : Nat → Nat → (Nat → Nat) → Bool} {co : Nat → Nat → (Nat → Nat) → Nat} {fl : Nat → Nat} (n : Nat) (h0 : fl n = 0) (hf : ∀ i t tk, i < n → t < 4 → ok i t tk = true → fl i ≤ fl (i + 1) + co i t tk) : ∀ (f i : Nat) (tk : Nat → Nat) (s : Nat) (e : gz_S), i + f = n → e ∈ gz_c ok co f i tk s → s + fl i ≤ e.1
  | 0, i, tk, s, e, hi, h => by
    have hi : i = n := by omega
    simp only [gz_c, List.mem_singleton] at h
    rw [h, hi, h0]
    exact Nat.le_refl s
  | f + 1, i, tk, s, e, hi, h => by
    obtain ⟨t, _, ht, h⟩ := gz_l_mem h
    by_cases b : ok i t tk = true
    · rw [if_pos b] at h
      have h1 := gz_ge n h0 hf f (i + 1) _ _ e (by omega) h
      have h2 := hf i t tk (by omega) (by omega) b
      omega
    · rw [if_neg b] at h
      exact absurd h (List.not_mem_nil)
def gz_n (b : Nat) (L : List gz_S) : Nat := (L.filter (fun e => decide (e.1 ≤ b))).length
def gz_ct (b fd : Nat) (L : List gz_S) : Nat := min 2001 (fd + gz_n b L)
theorem gz_ct_0 {b fd : Nat} (h : fd ≤ 2001) : gz_ct b fd [] = fd := by
  simp only [gz_ct, gz_n, List.filter_nil, List.length_nil]
  omega
theorem gz_ct_A {b fd : Nat} {A B : List gz_S} : gz_ct b (gz_ct b fd A) B = gz_ct b fd (A ++ B) := by
  simp only [gz_ct, gz_n, List.filter_append, List.length_append]
  omega
theorem gz_ct_no {b fd : Nat} {L : List gz_S} (h : fd ≤ 2001) (hl : fd = 2001 ∨ ∀ e, e ∈ L → b < e.1) : gz_ct b fd L = fd := by
  rcases hl with rfl | hl
  · simp only [gz_ct]
    omega
  · have : gz_n b L = 0 := by
      unfold gz_n
      rw [List.filter_eq_nil_iff.mpr (fun e he => by have := hl e he; simp; omega)]
      rfl
    simp only [gz_ct, this]
    omega
def gz_b1 (c : Option gz_S) (e : gz_S) : Option gz_S := match c with
  | none => some e
  | some b => if e.1 < b.1 then some e else some b
def gz_bs (c : Option gz_S) (L : List gz_S) : Option gz_S := L.foldl gz_b1 c
theorem gz_bs_A (c : Option gz_S) (A B : List gz_S) : gz_bs (gz_bs c A) B = gz_bs c (A ++ B) := (List.foldl_append).symm
theorem gz_bs_no {b : gz_S} : ∀ {L : List gz_S}, (∀ e, e ∈ L → b.1 ≤ e.1) → gz_bs (some b) L = some b
  | [], _ => rfl
  | e :: L, h => by
    have h1 : gz_b1 (some b) e = some b := if_neg (by have := h e List.mem_cons_self; omega)
    show gz_bs (gz_b1 (some b) e) L = _
    rw [h1]
    exact gz_bs_no (fun e he => h e (List.mem_cons_of_mem _ he))
/-- what the reference keeps of the best so far -/
def gz_rp (n : Nat) (c : Option gz_S) (y : Int32) (r : Nat → Int32) : Prop := match c with
  | none => y = -1
  | some e => y = nI e.1 ∧ e.1 < 2 ^ 31 ∧ ∀ j, j < n → r j = nI (e.2 j)
/-! ===== the reference's methods: goesOn ===== -/
def gf_can_d (w : Nat → Nat → Int32) (kn : Nat) (ms : Nat → Nat) (i t : Nat) (tk : Nat → Nat) : Decidable (gf_can w kn ms i t tk) := by
  unfold gf_can gf_seen
  infer_instance
def gz_ok (w : Nat → Nat → Int32) (kn : Nat) (ms : Nat → Nat) (i t : Nat) (tk : Nat → Nat) : Bool := @decide (gf_can w kn ms i t tk) (gf_can_d w kn ms i t tk)
theorem gz_ok_iff {w : Nat → Nat → Int32} {kn : Nat} {ms : Nat → Nat} {i t : Nat} {tk : Nat → Nat} : gz_ok w kn ms i t tk = true ↔ gf_can w kn ms i t tk := ⟨fun z => @of_decide_eq_true _ (gf_can_d w kn ms i t tk) z, fun z => @decide_eq_true _ (gf_can_d w kn ms i t tk) z⟩
def gz_tb (w : Nat → Nat → Int32) (ms : Nat → Nat) (i t : Nat) (tk : Nat → Nat) : Nat := if 0 < t ∧ gz_tw w ms tk (gf_thing w (ms i) t) i = true then 1 else 0
def gz_co (w : Nat → Nat → Int32) (ms P : Nat → Nat) (i t : Nat) (tk : Nat → Nat) : Nat := P (8 * i + 2 * t + gz_tb w ms i t tk)
theorem gz_tb_lt (w : Nat → Nat → Int32) (ms : Nat → Nat) (i t : Nat) (tk : Nat → Nat) : gz_tb w ms i t tk < 2 := by
  unfold gz_tb
  split <;> decide
theorem gz_tw_congr {w W : Nat → Nat → Int32} {ms tk : Nat → Nat} {x : Int32} (h1 : W 97 = w 97) (h2 : W 103 = w 103) : ∀ i, gz_tw W ms tk x i = gz_tw w ms tk x i
  | 0 => rfl
  | i + 1 => by
    unfold gz_tw
    rw [gz_tw_congr h1 h2 i]
    unfold gf_thing
    rw [h1, h2]
def gz_W (w : Nat → Nat → Int32) (x y : Int32) (a c : Nat → Int32) : Nat → Nat → Int32 := gr (gr (gw (gw w 95 48 x) 95 49 y) 124 a) 125 c
def gz_H (w : Nat → Nat → Int32) (kn n : Nat) (ms P : Nat → Nat) : Prop := kn < 7 ∧ w 95 46 = nI kn ∧ gf_ms w n ms ∧ n ≤ 10 ∧ ∀ x, x < 8 * n → w 123 x = nI (P x) ∧ P x ≤ 999
section
variable {kn n : Nat} {ms P : Nat → Nat}
set_option maxRecDepth 100000 in
theorem gl_goL (H : gz_H w kn n ms P) {σ : Type} {rep : σ → Int32 → Int32 → (Nat → Int32) → Prop} {st : σ → List gz_S → σ} (st0 : ∀ x0 x y c, rep x0 x y c → st x0 [] = x0) (stA : ∀ x A B, st (st x A) B = st x (A ++ B)) {m : Int32} {f i s : Nat} {tk : Nat → Nat} (hi : i + (f + 1) = n) (hs : s ≤ 999 * i) (htk : ∀ j, j < i → tk j < 4)
    (ihC : ∀ (K' : Option Value → gp_H → Prop) (tk' : Nat → Nat) (s' : Nat) (x0 : σ) (x y : Int32) (a c : Nat → Int32), s' ≤ 999 * (i + 1) → rep x0 x y c → (∀ j, j < i + 1 → a j = nI (tk' j) ∧ tk' j < 4) → (∀ x' y' a' c', rep (st x0 (gz_c (gz_ok w kn ms) (gz_co w ms P) f (i + 1) tk' s')) x' y' c' → (∀ j, j < i + 1 → a' j = a j) → K' none (gv (gz_W w x' y' a' c') u q)) → gp_Cal l G (d + f + 4) m_Rf_goesOn [.ref 95, .int (nI (i + 1)), .int (nI s'), .int m] (gv (gz_W w x y a c) u q) K') :
    ∀ (r t : Nat) (x0 : σ) (x y : Int32) (a c : Nat → Int32), t + r = 4 → rep x0 x y c → (∀ j, j < i → a j = nI (tk j)) → (∀ x' y' a' c', rep (st x0 (gz_l (fun t => if gz_ok w kn ms i t tk then gz_c (gz_ok w kn ms) (gz_co w ms P) f (i + 1) (gz_u tk i t) (s + gz_co w ms P i t tk) else []) r t)) x' y' c' → (∀ j, j < i → a' j = a j) → K none (gv (gz_W w x' y' a' c') u q)) → gp_Go l G (d + (f + 1) + 4) m_Rf_goesOn K 106 [some (.ref 95), some (.int (nI i)), some (.int (nI s)), some (.int m), some (.int (nI t))] [] (gv (gz_W w x y a c) u q) 0 0 := by
  obtain ⟨H1, H2, H3, H4, H5⟩ := H
  intro r
  induction r with
  | zero =>
    intro t x0 x y a c e hr ha h
    obtain rfl : t = 4 := by omega
    refine gp_go od_Rf_goesOn rfl ?_
    (repeat refine gp_gc [73, 106] od_Rf_goesOn rfl rfl ?_)
    refine gb_ge_t (by decide) ?_
    (repeat refine gp_gc [73, 106] od_Rf_goesOn rfl rfl ?_)
    refine h x y a c ?_ (fun _ _ => rfl)
    have e0 : st x0 (gz_l (fun t => if gz_ok w kn ms i t tk then gz_c (gz_ok w kn ms) (gz_co w ms P) f (i + 1) (gz_u tk i t) (s + gz_co w ms P i t tk) else []) 0 4) = x0 := st0 x0 x y c hr
    rw [e0]
    exact hr
  | succ r ih =>
    intro t x0 x y a c e hr ha h
    have ht : t < 4 := by omega
    have hm : gf_ms (gz_W w x y a c) n ms := H3
    have ix : vp_in (nI i) 10 := vp_in_nI (by omega) (by decide)
    have ci : (nI i).toNatClampNeg = i := nI_clamp (by omega)
    have inc : nI t + Int32.ofInt 1 = nI (t + 1) := gp_inc rfl
    have h4 : ∀ j, j < i → gz_W w x y a c 124 j = nI (tk j) ∧ tk j < 4 := fun j hj => ⟨ha j hj, htk j hj⟩
    refine gp_go od_Rf_goesOn rfl ?_
    (repeat refine gp_gc [73, 106] od_Rf_goesOn rfl rfl ?_)
    refine gb_ge_f (nI_ge ht (by decide)) ?_
    (repeat refine gp_gc [73, 106] od_Rf_goesOn rfl rfl ?_)
    refine sp_Rf_canTake (d := d + f + 1) (w := gz_W w x y a c) H1 H2 hm H4 (show i < n by omega) ht h4 (fun b => ?_) (fun b => ?_)
    rotate_left
    · have hb : ¬ gz_ok w kn ms i t tk = true := fun z => b (gz_ok_iff.mp z)
      (repeat refine gp_gc [73, 106] od_Rf_goesOn rfl rfl ?_)
      refine gb1_ne_f rfl ?_
      (repeat refine gp_gc [73, 106] od_Rf_goesOn rfl rfl ?_)
      rw [inc]
      refine ih (t + 1) x0 x y a c (by omega) hr ha (fun x' y' a' c' h' ha' => h x' y' a' c' ?_ ha')
      rw [gz_l, if_neg hb]
      exact h'
    · have hb : gz_ok w kn ms i t tk = true := gz_ok_iff.mpr b
      (repeat refine gp_gc [73, 106] od_Rf_goesOn rfl rfl ?_)
      refine gb1_ne_t (by decide) ?_
      (repeat refine gp_gc [73, 106] od_Rf_goesOn rfl rfl ?_)
      refine And.intro ix ?_
      (repeat refine gp_gc [73, 106] od_Rf_goesOn rfl rfl ?_)
      rw [ci]
      have h4' : ∀ j, j < i → gz_W w x y (upd a i (nI t)) c 124 j = nI (tk j) ∧ tk j < 4 := fun j hj => ⟨(pk_un (by omega)).trans (ha j hj), htk j hj⟩
      have ec : ∀ tb : Nat, tb = gz_tb w ms i t tk → gp_Go l G (d + (f + 1) + 4) m_Rf_goesOn K 166 [some (.ref 95), some (.int (nI i)), some (.int (nI s)), some (.int m), some (.int (nI t))] [.int (nI tb), .int (8 * nI i + 2 * nI t), .ref 123, .int (nI s), .int (nI i + 1), .ref 95] (gv (gz_W w x y (upd a i (nI t)) c) u q) 0 0 := by
        intro tb etb
        have htb : tb < 2 := by rw [etb]; exact gz_tb_lt _ _ _ _ _
        have ex : 8 * nI i + 2 * nI t + nI tb = nI (8 * i + 2 * t + tb) := by
          show nI 8 * nI i + nI 2 * nI t + nI tb = _
          rw [pk_mul, pk_mul, nI_add, nI_add]
        have ix8 : vp_in (nI (8 * i + 2 * t + tb)) 80 := vp_in_nI (by omega) (by decide)
        have cx : (nI (8 * i + 2 * t + tb)).toNatClampNeg = 8 * i + 2 * t + tb := nI_clamp (by omega)
        obtain ⟨p1, p2⟩ := H5 (8 * i + 2 * t + tb) (by omega)
        have eP : P (8 * i + 2 * t + tb) = gz_co w ms P i t tk := by rw [etb]; rfl
        have es : nI s + w 123 (8 * i + 2 * t + tb) = nI (s + gz_co w ms P i t tk) := by rw [p1, nI_add, eP]
        refine gp_go od_Rf_goesOn rfl ?_
        (repeat refine gp_gc [73, 106] od_Rf_goesOn rfl rfl ?_)
        rw [ex]
        refine And.intro ix8 ?_
        (repeat refine gp_gc [73, 106] od_Rf_goesOn rfl rfl ?_)
        rw [cx, show nI s + gz_W w x y (upd a i (nI t)) c 123 (8 * i + 2 * t + tb) = nI (s + gz_co w ms P i t tk) from es, nI_1]
        refine ihC _ (gz_u tk i t) (s + gz_co w ms P i t tk) x0 x y (upd a i (nI t)) c (by omega) hr ?_ ?_
        · intro j hj
          by_cases hji : j = i
          · subst hji
            refine ⟨pk_us.trans ?_, ?_⟩
            · show nI t = nI (if j = j then t else tk j)
              rw [if_pos rfl]
            · show (if j = j then t else tk j) < 4
              rw [if_pos rfl]
              exact ht
          · have e1 : gz_u tk i t j = tk j := if_neg hji
            rw [e1]
            exact h4' j (by omega)
        · intro x' y' a' c' hr' ha'
          (repeat refine gp_gc [73, 106] od_Rf_goesOn rfl rfl ?_)
          rw [inc]
          have ha2 : ∀ j, j < i → a' j = a j := fun j hj => (ha' j (by omega)).trans (pk_un (by omega))
          refine ih (t + 1) _ x' y' a' c' (by omega) hr' (fun j hj => (ha2 j hj).trans (ha j hj)) (fun x2 y2 a2 c2 h2 ha3 => h x2 y2 a2 c2 ?_ (fun j hj => (ha3 j hj).trans (ha2 j hj)))
          rw [stA] at h2
          rw [gz_l, if_pos hb]
          exact h2
      refine sp_Rf_isTwice (d := d + f + 3) (w := gz_W w x y (upd a i (nI t)) c) hm H4 (show i < n by omega) ht h4' (fun b1 b2 => ?_) (fun b => ?_)
      · (repeat refine gp_gc [73, 106, 166] od_Rf_goesOn rfl rfl ?_)
        refine gb1_eq_f (by decide) ?_
        (repeat refine gp_gc [73, 106, 166] od_Rf_goesOn rfl rfl ?_)
        refine ec 1 ?_
        have b2 : gz_tw (gz_W w x y (upd a i (nI t)) c) ms tk (gf_thing w (ms i) t) i = true := b2
        rw [gz_tw_congr (w := w) (W := gz_W w x y (upd a i (nI t)) c) rfl rfl] at b2
        exact (if_pos ⟨b1, b2⟩).symm
      · (repeat refine gp_gc [73, 106, 166] od_Rf_goesOn rfl rfl ?_)
        refine gb1_eq_t rfl ?_
        (repeat refine gp_gc [73, 106, 166] od_Rf_goesOn rfl rfl ?_)
        refine ec 0 ?_
        refine (if_neg (fun z => b ⟨z.1, ?_⟩)).symm
        show gz_tw (gz_W w x y (upd a i (nI t)) c) ms tk (gf_thing w (ms i) t) i = true
        rw [gz_tw_congr (w := w) (W := gz_W w x y (upd a i (nI t)) c) rfl rfl]
        exact z.2
set_option maxRecDepth 100000 in
theorem gl_goC (H : gz_H w kn n ms P) {b : Nat} (eb : w 95 47 = nI b) (hb : b ≤ 9999) : ∀ (f i : Nat) (K : Option Value → gp_H → Prop) (tk : Nat → Nat) (s : Nat) (x0 : Nat) (x y : Int32) (a c : Nat → Int32), i + f = n → s ≤ 999 * i → (x = nI x0 ∧ x0 ≤ 2001) → (∀ j, j < i → a j = nI (tk j) ∧ tk j < 4) → (∀ x' y' a' c', (x' = nI (gz_ct b x0 (gz_c (gz_ok w kn ms) (gz_co w ms P) f i tk s)) ∧ gz_ct b x0 (gz_c (gz_ok w kn ms) (gz_co w ms P) f i tk s) ≤ 2001) → (∀ j, j < i → a' j = a j) → K none (gv (gz_W w x' y' a' c') u q)) → gp_Cal l G (d + f + 4) m_Rf_goesOn [.ref 95, .int (nI i), .int (nI s), .int 1] (gv (gz_W w x y a c) u q) K := by
  have H' := H
  obtain ⟨H1, H2, H3, H4, H5⟩ := H'
  intro f
  induction f with
  | zero =>
    intro i K tk s x0 x y a c hi hs hx ha h
    have hin : i = n := by omega
    obtain ⟨ex, hx0⟩ := hx
    refine gp_enter od_Rf_goesOn rfl ?_
    (repeat refine gp_gc [73, 106] od_Rf_goesOn rfl rfl ?_)
    refine gb1_eq_f (by decide) ?_
    (repeat refine gp_gc [73, 106] od_Rf_goesOn rfl rfl ?_)
    by_cases b1 : b < s
    · refine gb_gt_t (show w 95 47 < nI s by rw [eb]; exact nI_lt b1 (by omega)) ?_
      (repeat refine gp_gc [73, 106] od_Rf_goesOn rfl rfl ?_)
      refine h x y a c ⟨?_, Nat.min_le_left _ _⟩ (fun _ _ => rfl)
      rw [gz_ct_no hx0 (Or.inr (fun e he => by simp only [gz_c, List.mem_singleton] at he; rw [he]; exact b1)), ex]
    refine gb_gt_f (show ¬ w 95 47 < nI s by rw [eb]; exact nI_nlt (by omega) (by omega)) ?_
    (repeat refine gp_gc [73, 106] od_Rf_goesOn rfl rfl ?_)
    by_cases b2 : x0 = 2001
    · refine gb_le_f' (show nI 2000 < x by rw [ex]; exact nI_lt (by omega) (by omega)) ?_
      (repeat refine gp_gc [73, 106] od_Rf_goesOn rfl rfl ?_)
      refine h x y a c ⟨?_, Nat.min_le_left _ _⟩ (fun _ _ => rfl)
      rw [gz_ct_no hx0 (Or.inl b2), ex]
    refine gb_le_t (show x ≤ nI 2000 by rw [ex]; exact nI_le (by omega) (by decide)) ?_
    (repeat refine gp_gc [73, 106] od_Rf_goesOn rfl rfl ?_)
    have e1 : gz_ct b x0 (gz_c (gz_ok w kn ms) (gz_co w ms P) 0 i tk s) = x0 + 1 := by
      have e2 : gz_n b [(s, tk)] = 1 := by
        unfold gz_n
        rw [List.filter_cons_of_pos (by simp; omega)]
        rfl
      show min 2001 (x0 + gz_n b [(s, tk)]) = _
      rw [e2]
      omega
    have k57 : ∀ x1 : Int32, x1 = x + 1 → gp_Go l G (d + 0 + 4) m_Rf_goesOn K 57 [some (.ref 95), some (.int (nI i)), some (.int (nI s)), some (.int 1), none] [.int x1, .ref 95] (gv (gz_W w x y a c) u q) 0 0 := by
      intro x1 e2
      refine gp_go od_Rf_goesOn rfl ?_
      (repeat refine gp_gc [73, 106] od_Rf_goesOn rfl rfl ?_)
      refine gb1_eq_f (by decide) ?_
      (repeat refine gp_gc [73, 106] od_Rf_goesOn rfl rfl ?_)
      exact h x1 y a c ⟨by rw [e1, e2, ex, nI_1], Nat.min_le_left _ _⟩ (fun _ _ => rfl)
    refine gb_ne_f (show nI i = w 95 2 by rw [H3.1, hin]) ?_
    (repeat refine gp_gc [57, 73, 106] od_Rf_goesOn rfl rfl ?_)
    exact k57 _ rfl
  | succ f ih =>
    intro i K tk s x0 x y a c hi hs hx ha h
    obtain ⟨ex, hx0⟩ := hx
    have hall : ∀ e, e ∈ gz_c (gz_ok w kn ms) (gz_co w ms P) (f + 1) i tk s → s ≤ e.1 := fun e he => by
      have := gz_ge (fl := fun _ => 0) n rfl (fun _ _ _ _ _ _ => Nat.zero_le _) (f + 1) i tk s e hi he
      omega
    refine gp_enter od_Rf_goesOn rfl ?_
    (repeat refine gp_gc [73, 106] od_Rf_goesOn rfl rfl ?_)
    refine gb1_eq_f (by decide) ?_
    (repeat refine gp_gc [73, 106] od_Rf_goesOn rfl rfl ?_)
    by_cases b1 : b < s
    · refine gb_gt_t (show w 95 47 < nI s by rw [eb]; exact nI_lt b1 (by omega)) ?_
      (repeat refine gp_gc [73, 106] od_Rf_goesOn rfl rfl ?_)
      refine h x y a c ⟨?_, Nat.min_le_left _ _⟩ (fun _ _ => rfl)
      rw [gz_ct_no hx0 (Or.inr (fun e he => by have := hall e he; omega)), ex]
    refine gb_gt_f (show ¬ w 95 47 < nI s by rw [eb]; exact nI_nlt (by omega) (by omega)) ?_
    (repeat refine gp_gc [73, 106] od_Rf_goesOn rfl rfl ?_)
    by_cases b2 : x0 = 2001
    · refine gb_le_f' (show nI 2000 < x by rw [ex]; exact nI_lt (by omega) (by omega)) ?_
      (repeat refine gp_gc [73, 106] od_Rf_goesOn rfl rfl ?_)
      refine h x y a c ⟨?_, Nat.min_le_left _ _⟩ (fun _ _ => rfl)
      rw [gz_ct_no hx0 (Or.inl b2), ex]
    refine gb_le_t (show x ≤ nI 2000 by rw [ex]; exact nI_le (by omega) (by decide)) ?_
    (repeat refine gp_gc [73, 106] od_Rf_goesOn rfl rfl ?_)
    refine gb_ne_t (show ¬ nI i = w 95 2 by rw [H3.1]; exact fun z => by have := (nI_eq (by omega) (by omega)).mp z; omega) ?_
    (repeat refine gp_gc [73, 106] od_Rf_goesOn rfl rfl ?_)
    exact gl_goL H (σ := Nat) (rep := fun x0 x _ _ => x = nI x0 ∧ x0 ≤ 2001) (st := gz_ct b) (fun x0 _ _ _ hr => gz_ct_0 hr.2) (fun _ _ _ => gz_ct_A) (by omega) hs (fun j hj => (ha j hj).2) (fun K' tk' s' x0 x y a c h1 h2 h3 h4 => ih (i + 1) K' tk' s' x0 x y a c (by omega) h1 h2 h3 h4) 4 0 x0 x y a c rfl ⟨ex, hx0⟩ (fun j hj => (ha j hj).1) h
set_option maxRecDepth 100000 in
theorem gl_goB (H : gz_H w kn n ms P) : ∀ (f i : Nat) (K : Option Value → gp_H → Prop) (tk : Nat → Nat) (s : Nat) (x0 : Option gz_S) (x y : Int32) (a c : Nat → Int32), i + f = n → s ≤ 999 * i → gz_rp n x0 y c → (∀ j, j < i → a j = nI (tk j) ∧ tk j < 4) → (∀ x' y' a' c', gz_rp n (gz_bs x0 (gz_c (gz_ok w kn ms) (gz_co w ms P) f i tk s)) y' c' → (∀ j, j < i → a' j = a j) → K none (gv (gz_W w x' y' a' c') u q)) → gp_Cal l G (d + f + 4) m_Rf_goesOn [.ref 95, .int (nI i), .int (nI s), .int 0] (gv (gz_W w x y a c) u q) K := by
  have H' := H
  obtain ⟨H1, H2, H3, H4, H5⟩ := H'
  have main : ∀ (f i : Nat) (K : Option Value → gp_H → Prop) (tk : Nat → Nat) (s : Nat) (x0 : Option gz_S) (x y : Int32) (a c : Nat → Int32), i + f = n → s ≤ 999 * i → gz_rp n x0 y c → (∀ x' y' a' c', gz_rp n (gz_bs x0 (gz_c (gz_ok w kn ms) (gz_co w ms P) f i tk s)) y' c' → (∀ j, j < i → a' j = a j) → K none (gv (gz_W w x' y' a' c') u q)) → ((x0 = none ∨ ∃ e, x0 = some e ∧ s < e.1) → gp_Go l G (d + f + 4) m_Rf_goesOn K 42 [some (.ref 95), some (.int (nI i)), some (.int (nI s)), some (.int 0), none] [] (gv (gz_W w x y a c) u q) 0 0) → gp_Cal l G (d + f + 4) m_Rf_goesOn [.ref 95, .int (nI i), .int (nI s), .int 0] (gv (gz_W w x y a c) u q) K := by
    intro f i K tk s x0 x y a c hi hs hr h k42
    have hall : ∀ e, e ∈ gz_c (gz_ok w kn ms) (gz_co w ms P) f i tk s → s ≤ e.1 := fun e he => by
      have := gz_ge (fl := fun _ => 0) n rfl (fun _ _ _ _ _ _ => Nat.zero_le _) f i tk s e hi he
      omega
    refine gp_enter od_Rf_goesOn rfl ?_
    (repeat refine gp_gc [42] od_Rf_goesOn rfl rfl ?_)
    refine gb1_eq_t rfl ?_
    (repeat refine gp_gc [42] od_Rf_goesOn rfl rfl ?_)
    cases x0 with
    | none =>
      refine gb_eq_t (show y = -1 from hr) ?_
      (repeat refine gp_gc [42] od_Rf_goesOn rfl rfl ?_)
      exact k42 (Or.inl rfl)
    | some e =>
      obtain ⟨r1, r2, r3⟩ := hr
      refine gb_eq_f (show ¬ y = -1 by rw [r1]; exact fun z => absurd (show nI e.1 < 0 by rw [z]; decide) (nI_pos r2)) ?_
      (repeat refine gp_gc [42] od_Rf_goesOn rfl rfl ?_)
      by_cases b : s < e.1
      · refine gb_lt_t (show nI s < y by rw [r1]; exact nI_lt b r2) ?_
        (repeat refine gp_gc [42] od_Rf_goesOn rfl rfl ?_)
        exact k42 (Or.inr ⟨e, rfl, b⟩)
      · refine gb_lt_f (show ¬ nI s < y by rw [r1]; exact nI_nlt (by omega) (by omega)) ?_
        (repeat refine gp_gc [42] od_Rf_goesOn rfl rfl ?_)
        refine h x y a c ?_ (fun _ _ => rfl)
        rw [gz_bs_no (fun e' he' => by have := hall e' he'; omega)]
        exact ⟨r1, r2, r3⟩
  intro f
  induction f with
  | zero =>
    intro i K tk s x0 x y a c hi hs hr ha h
    have hin : i = n := by omega
    refine main 0 i K tk s x0 x y a c hi hs hr h (fun hc => ?_)
    have eb : gz_bs x0 (gz_c (gz_ok w kn ms) (gz_co w ms P) 0 i tk s) = some (s, tk) := by
      rcases hc with rfl | ⟨e, rfl, hlt⟩
      · rfl
      · show gz_b1 (some e) (s, tk) = _
        exact if_pos hlt
    have key : ∀ (x1 y1 : Int32), y1 = nI s → ∀ (r j : Nat) (c : Nat → Int32), j + r = n → (∀ j', j' < j → c j' = nI (tk j')) → gp_Go l G (d + 0 + 4) m_Rf_goesOn K 73 [some (.ref 95), some (.int (nI i)), some (.int (nI s)), some (.int 0), some (.int (nI j))] [] (gv (gz_W w x1 y1 a c) u q) 0 0 := by
      intro x1 y1 ey r
      induction r with
      | zero =>
        intro j c hj hc
        obtain rfl : j = n := by omega
        refine gp_go od_Rf_goesOn rfl ?_
        (repeat refine gp_gc [73, 106] od_Rf_goesOn rfl rfl ?_)
        refine gb_ge_t (show w 95 2 ≤ nI j by rw [H3.1]; exact Int32.le_refl _) ?_
        (repeat refine gp_gc [73, 106] od_Rf_goesOn rfl rfl ?_)
        refine h _ _ _ _ ?_ (fun _ _ => rfl)
        rw [eb]
        exact ⟨ey, by show s < 2 ^ 31; omega, hc⟩
      | succ r ih =>
        intro j c hj hc
        have cj : (nI j).toNatClampNeg = j := nI_clamp (by omega)
        have ij : vp_in (nI j) 10 := vp_in_nI (by omega) (by decide)
        refine gp_go od_Rf_goesOn rfl ?_
        (repeat refine gp_gc [73, 106] od_Rf_goesOn rfl rfl ?_)
        refine gb_ge_f (show ¬ w 95 2 ≤ nI j by rw [H3.1]; exact nI_ge (by omega) (by omega)) ?_
        (repeat refine gp_gc [73, 106] od_Rf_goesOn rfl rfl ?_)
        refine And.intro ij ?_
        (repeat refine gp_gc [73, 106] od_Rf_goesOn rfl rfl ?_)
        refine And.intro ij ?_
        (repeat refine gp_gc [73, 106] od_Rf_goesOn rfl rfl ?_)
        rw [cj, gp_inc (i := j) rfl]
        refine ih (j + 1) (upd c j (a j)) (by omega) (fun j' hj' => ?_)
        by_cases e : j' = j
        · subst e
          exact pk_us.trans (ha j' (by omega)).1
        · exact (pk_un e).trans (hc j' (by omega))
    have k67 : ∀ x1 y1 : Int32, y1 = nI s → gp_Go l G (d + 0 + 4) m_Rf_goesOn K 67 [some (.ref 95), some (.int (nI i)), some (.int (nI s)), some (.int 0), none] [.int y1, .ref 95] (gv (gz_W w x1 y a c) u q) 0 0 := by
      intro x1 y1 ey
      refine gp_go od_Rf_goesOn rfl ?_
      (repeat refine gp_gc [73, 106] od_Rf_goesOn rfl rfl ?_)
      exact key x1 y1 ey n 0 c (by omega) (fun j hj => by omega)
    have k57 : ∀ x1 : Int32, gp_Go l G (d + 0 + 4) m_Rf_goesOn K 57 [some (.ref 95), some (.int (nI i)), some (.int (nI s)), some (.int 0), none] [.int x1, .ref 95] (gv (gz_W w x y a c) u q) 0 0 := by
      intro x1
      refine gp_go od_Rf_goesOn rfl ?_
      (repeat refine gp_gc [67, 73, 106] od_Rf_goesOn rfl rfl ?_)
      refine gb1_eq_t rfl ?_
      (repeat refine gp_gc [67, 73, 106] od_Rf_goesOn rfl rfl ?_)
      exact k67 x1 _ rfl
    refine gp_go od_Rf_goesOn rfl ?_
    (repeat refine gp_gc [57, 73, 106] od_Rf_goesOn rfl rfl ?_)
    refine gb_ne_f (show nI i = w 95 2 by rw [H3.1, hin]) ?_
    (repeat refine gp_gc [57, 73, 106] od_Rf_goesOn rfl rfl ?_)
    exact k57 _
  | succ f ih =>
    intro i K tk s x0 x y a c hi hs hr ha h
    refine main (f + 1) i K tk s x0 x y a c hi hs hr h (fun _ => ?_)
    refine gp_go od_Rf_goesOn rfl ?_
    (repeat refine gp_gc [73, 106] od_Rf_goesOn rfl rfl ?_)
    refine gb_ne_t (show ¬ nI i = w 95 2 by rw [H3.1]; exact fun z => by have := (nI_eq (by omega) (by omega)).mp z; omega) ?_
    (repeat refine gp_gc [73, 106] od_Rf_goesOn rfl rfl ?_)
    exact gl_goL H (σ := Option gz_S) (rep := fun x0 _ y c => gz_rp n x0 y c) (st := gz_bs) (fun _ _ _ _ _ => rfl) gz_bs_A (by omega) hs (fun j hj => (ha j hj).2) (fun K' tk' s' x0 x y a c h1 h2 h3 h4 => ih (i + 1) K' tk' s' x0 x y a c (by omega) h1 h2 h3 h4) 4 0 x0 x y a c rfl hr (fun j hj => (ha j hj).1) h
end

end
