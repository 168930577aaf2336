section
variable {l : Launch} {G : gp_G} {d : Nat} {w : Nat → Nat → Int32} {u : Int64 × (Nat → Int64)} {q : Nat → Nat} {K : Option Value → gp_H → Prop}
/-! ===== the class's parser: words, tokens ===== -/
def gx_b (i : Nat) : Nat := if i = 1 then 16 else 3
def gx_wn (i : Nat) : Nat := if i = 1 then 9 else 13
def gx_wst (i : Nat) : Nat → Nat
  | 0 => 0
  | k + 1 => gx_wst i k + gp_sl1 (gx_b i + k) + 1
theorem gx_w1 : ∀ i, i < 3 → 0 < i → gx_wst i (gx_wn i) = gp_sl1 i := by decide +kernel
theorem gx_w2 : ∀ i, i < 3 → 0 < i → ∀ k, k < gx_wn i → gx_b i + k < 25 ∧ gx_wst i k + gp_sl1 (gx_b i + k) + 1 ≤ gp_sl1 i ∧ gp_sc i (gx_wst i k + gp_sl1 (gx_b i + k)) = 32 := by decide +kernel
theorem gx_w3 : ∀ i, i < 3 → 0 < i → ∀ k, k < gx_wn i → ∀ j, j < gp_sl1 (gx_b i + k) → gp_sc i (gx_wst i k + j) = gp_sc (gx_b i + k) j ∧ ¬ gp_sc i (gx_wst i k + j) = 32 := by decide +kernel
section
variable {tp : Nat → Nat} {n : Nat}
set_option maxRecDepth 100000 in
theorem sp_Pa_indexIn {i s e : Nat} (hi : i < 3) (hi0 : 0 < i) (T : gcx_T w tp n) (hse : s ≤ e) (hen : e ≤ n) (h1 : ∀ k, k < gx_wn i → gx_sub tp s e = gx_S (gx_b i + k) → (∀ k', k' < k → ¬ gx_sub tp s e = gx_S (gx_b i + k')) → K (some (.int (nI k))) (gv w u q)) (h0 : (∀ k, k < gx_wn i → ¬ gx_sub tp s e = gx_S (gx_b i + k)) → K (some (.int (-1))) (gv w u q)) : gp_Cal l G (d + 5) m_Pa_indexIn [.ref 55, .retAddr i, .int (nI s), .int (nI e)] (gv w u q) K := by
  have hn := T.2.1
  have hsl := gp_sl1_s i (by omega)
  have w1 := gx_w1 i hi hi0
  have w2 := gx_w2 i hi hi0
  have w3 := gx_w3 i hi hi0
  have hwn : gx_wn i ≤ 13 := by unfold gx_wn; split <;> omega
  have es : nI e - nI s = nI (e - s) := pk_sub hse
  refine gp_enter od_Pa_indexIn rfl ?_
  have outer : ∀ (r k : Nat), k + r = gx_wn i → (∀ k', k' < k → ¬ gx_sub tp s e = gx_S (gx_b i + k')) → gp_Go l G (d + 5) m_Pa_indexIn K 9 [some (.ref 55), some (.retAddr i), some (.int (nI s)), some (.int (nI e)), some (.int (nI k)), some (.int (nI (gx_wst i k))), some (.int (nI (gx_wst i k)))] [] (gv w u q) 0 0 := by
    intro r
    induction r with
    | zero =>
      intro k hk hall
      have ek : k = gx_wn i := by omega
      refine gp_go od_Pa_indexIn rfl ?_
      (repeat refine gp_gc [9] od_Pa_indexIn rfl rfl ?_)
      refine gs_invS rfl rfl rfl rfl (show i < 25 by omega) ?_
      refine sp_Js_length (d := d + 3) (show i < 25 by omega) ?_
      (repeat refine gp_gc [9] od_Pa_indexIn rfl rfl ?_)
      refine gb_ge_t (by rw [ek, w1]; exact Int32.le_refl _) ?_
      (repeat refine gp_gc [9] od_Pa_indexIn rfl rfl ?_)
      exact h0 (by rw [ek] at hall; exact hall)
    | succ r ih =>
      intro k hk hall
      have w2 := w2 k (by omega)
      have w3 := w3 k (by omega)
      have inner : ∀ (r2 j : Nat), j + r2 = gp_sl1 (gx_b i + k) → gp_Go l G (d + 5) m_Pa_indexIn K 9 [some (.ref 55), some (.retAddr i), some (.int (nI s)), some (.int (nI e)), some (.int (nI k)), some (.int (nI (gx_wst i k))), some (.int (nI (gx_wst i k + j)))] [] (gv w u q) 0 0 := by
        intro r2
        induction r2 with
        | zero =>
          intro j hj
          have ej : j = gp_sl1 (gx_b i + k) := by omega
          have inck : nI k + Int32.ofInt 1 = nI (k + 1) := gp_inc rfl
          have incp : nI (gx_wst i k + j) + Int32.ofInt 1 = nI (gx_wst i (k + 1)) := by
            rw [gp_inc (i := gx_wst i k + j) rfl, ej]
            rfl
          have e1 : nI (gx_wst i k + j) - nI (gx_wst i k) = nI j := by rw [pk_sub (by omega)]; congr 1; omega
          have next : ¬ gx_sub tp s e = gx_S (gx_b i + k) → gp_Go l G (d + 5) m_Pa_indexIn K 9 [some (.ref 55), some (.retAddr i), some (.int (nI s)), some (.int (nI e)), some (.int (nI (k + 1))), some (.int (nI (gx_wst i (k + 1)))), some (.int (nI (gx_wst i (k + 1))))] [] (gv w u q) 0 0 := fun z => ih (k + 1) (by omega) (lt_s hall z)
          refine gp_go od_Pa_indexIn rfl ?_
          (repeat refine gp_gc [9] od_Pa_indexIn rfl rfl ?_)
          refine gs_invS rfl rfl rfl rfl (show i < 25 by omega) ?_
          refine sp_Js_length (d := d + 3) (show i < 25 by omega) ?_
          (repeat refine gp_gc [9] od_Pa_indexIn rfl rfl ?_)
          refine gb_ge_f (nI_ge (by omega) (by omega)) ?_
          (repeat refine gp_gc [9] od_Pa_indexIn rfl rfl ?_)
          refine gs_invS rfl rfl rfl rfl (show i < 25 by omega) ?_
          refine sp_Js_charAt (d := d + 1) (show i < 25 by omega) (show gx_wst i k + j < gp_sl1 i by omega) ?_
          rw [show gp_sc i (gx_wst i k + j) = 32 by rw [ej]; exact w2.2.2]
          (repeat refine gp_gc [9] od_Pa_indexIn rfl rfl ?_)
          refine gb_ne_f rfl ?_
          (repeat refine gp_gc [9] od_Pa_indexIn rfl rfl ?_)
          rw [e1, es]
          by_cases c : j = e - s
          rotate_left
          · refine gb_ne_t (fun z => c ((nI_eq (by omega) (by omega)).mp z)) ?_
            (repeat refine gp_gc [9] od_Pa_indexIn rfl rfl ?_)
            rw [inck, incp]
            refine next (fun z => ?_)
            rw [gx_sub_S] at z
            omega
          refine gb_ne_f (by rw [c]) ?_
          (repeat refine gp_gc [9] od_Pa_indexIn rfl rfl ?_)
          rw [es]
          refine sp_Pa_standsAt (d := d) (i := i) (st := gx_wst i k) (s := s) (m := e - s) (by omega) T (by omega) (by omega) (fun z => ?_) (fun z => ?_)
          · (repeat refine gp_gc [9] od_Pa_indexIn rfl rfl ?_)
            refine gb1_eq_f (by decide) ?_
            (repeat refine gp_gc [9] od_Pa_indexIn rfl rfl ?_)
            refine h1 k (by omega) (gx_sub_S.mpr ⟨by omega, fun x hx => ?_⟩) hall
            rw [z x hx, (w3 x (by omega)).1]
          · (repeat refine gp_gc [9] od_Pa_indexIn rfl rfl ?_)
            refine gb1_eq_t rfl ?_
            (repeat refine gp_gc [9] od_Pa_indexIn rfl rfl ?_)
            rw [inck, incp]
            refine next (fun y => z (fun x hx => ?_))
            rw [gx_sub_S] at y
            rw [y.2 x hx, (w3 x (by omega)).1]
        | succ r2 ih2 =>
          intro j hj
          have inc : nI (gx_wst i k + j) + Int32.ofInt 1 = nI (gx_wst i k + (j + 1)) := gp_inc rfl
          refine gp_go od_Pa_indexIn rfl ?_
          (repeat refine gp_gc [9] od_Pa_indexIn rfl rfl ?_)
          refine gs_invS rfl rfl rfl rfl (show i < 25 by omega) ?_
          refine sp_Js_length (d := d + 3) (show i < 25 by omega) ?_
          (repeat refine gp_gc [9] od_Pa_indexIn rfl rfl ?_)
          refine gb_ge_f (nI_ge (by omega) (by omega)) ?_
          (repeat refine gp_gc [9] od_Pa_indexIn rfl rfl ?_)
          refine gs_invS rfl rfl rfl rfl (show i < 25 by omega) ?_
          refine sp_Js_charAt (d := d + 1) (show i < 25 by omega) (show gx_wst i k + j < gp_sl1 i by omega) ?_
          (repeat refine gp_gc [9] od_Pa_indexIn rfl rfl ?_)
          refine gb_ne_t (w3 j (by omega)).2 ?_
          (repeat refine gp_gc [9] od_Pa_indexIn rfl rfl ?_)
          rw [inc]
          exact ih2 (j + 1) (by omega)
      exact inner (gp_sl1 (gx_b i + k)) 0 (by omega)
  (repeat refine gp_gc [9] od_Pa_indexIn rfl rfl ?_)
  exact outer (gx_wn i) 0 (by omega) (fun k' hk' => absurd hk' (by omega))
theorem gx_kw_1 {l : List Nat} {k : Nat} (hk : k < 9) (h : l = gx_S (16 + k)) (hn : ∀ k', k' < k → ¬ l = gx_S (16 + k')) : gx_kw l = k := by
  unfold gx_kw
  rcases (show k = 0 ∨ k = 1 ∨ k = 2 ∨ k = 3 ∨ k = 4 ∨ k = 5 ∨ k = 6 ∨ k = 7 ∨ k = 8 by omega) with rfl | rfl | rfl | rfl | rfl | rfl | rfl | rfl | rfl
  · rw [if_pos (show l = gx_S 16 from h)]
  · rw [if_neg (show ¬ l = gx_S 16 from hn 0 (by decide)), if_pos (show l = gx_S 17 from h)]
  · rw [if_neg (show ¬ l = gx_S 16 from hn 0 (by decide)), if_neg (show ¬ l = gx_S 17 from hn 1 (by decide)), if_pos (show l = gx_S 18 from h)]
  · rw [if_neg (show ¬ l = gx_S 16 from hn 0 (by decide)), if_neg (show ¬ l = gx_S 17 from hn 1 (by decide)), if_neg (show ¬ l = gx_S 18 from hn 2 (by decide)), if_pos (show l = gx_S 19 from h)]
  · rw [if_neg (show ¬ l = gx_S 16 from hn 0 (by decide)), if_neg (show ¬ l = gx_S 17 from hn 1 (by decide)), if_neg (show ¬ l = gx_S 18 from hn 2 (by decide)), if_neg (show ¬ l = gx_S 19 from hn 3 (by decide)), if_pos (show l = gx_S 20 from h)]
  · rw [if_neg (show ¬ l = gx_S 16 from hn 0 (by decide)), if_neg (show ¬ l = gx_S 17 from hn 1 (by decide)), if_neg (show ¬ l = gx_S 18 from hn 2 (by decide)), if_neg (show ¬ l = gx_S 19 from hn 3 (by decide)), if_neg (show ¬ l = gx_S 20 from hn 4 (by decide)), if_pos (show l = gx_S 21 from h)]
  · rw [if_neg (show ¬ l = gx_S 16 from hn 0 (by decide)), if_neg (show ¬ l = gx_S 17 from hn 1 (by decide)), if_neg (show ¬ l = gx_S 18 from hn 2 (by decide)), if_neg (show ¬ l = gx_S 19 from hn 3 (by decide)), if_neg (show ¬ l = gx_S 20 from hn 4 (by decide)), if_neg (show ¬ l = gx_S 21 from hn 5 (by decide)), if_pos (show l = gx_S 22 from h)]
  · rw [if_neg (show ¬ l = gx_S 16 from hn 0 (by decide)), if_neg (show ¬ l = gx_S 17 from hn 1 (by decide)), if_neg (show ¬ l = gx_S 18 from hn 2 (by decide)), if_neg (show ¬ l = gx_S 19 from hn 3 (by decide)), if_neg (show ¬ l = gx_S 20 from hn 4 (by decide)), if_neg (show ¬ l = gx_S 21 from hn 5 (by decide)), if_neg (show ¬ l = gx_S 22 from hn 6 (by decide)), if_pos (show l = gx_S 23 from h)]
  · rw [if_neg (show ¬ l = gx_S 16 from hn 0 (by decide)), if_neg (show ¬ l = gx_S 17 from hn 1 (by decide)), if_neg (show ¬ l = gx_S 18 from hn 2 (by decide)), if_neg (show ¬ l = gx_S 19 from hn 3 (by decide)), if_neg (show ¬ l = gx_S 20 from hn 4 (by decide)), if_neg (show ¬ l = gx_S 21 from hn 5 (by decide)), if_neg (show ¬ l = gx_S 22 from hn 6 (by decide)), if_neg (show ¬ l = gx_S 23 from hn 7 (by decide)), if_pos (show l = gx_S 24 from h)]
theorem gx_kw_2 {l : List Nat} (hn : ∀ k', k' < 9 → ¬ l = gx_S (16 + k')) : gx_kw l = gx_kwN l := by
  unfold gx_kw
  rw [if_neg (show ¬ l = gx_S 16 from hn 0 (by decide)), if_neg (show ¬ l = gx_S 17 from hn 1 (by decide)), if_neg (show ¬ l = gx_S 18 from hn 2 (by decide)), if_neg (show ¬ l = gx_S 19 from hn 3 (by decide)), if_neg (show ¬ l = gx_S 20 from hn 4 (by decide)), if_neg (show ¬ l = gx_S 21 from hn 5 (by decide)), if_neg (show ¬ l = gx_S 22 from hn 6 (by decide)), if_neg (show ¬ l = gx_S 23 from hn 7 (by decide)), if_neg (show ¬ l = gx_S 24 from hn 8 (by decide))]
theorem gx_kw_3 {l : List Nat} {k : Nat} (hk : k < 13) (h : l = gx_S (3 + k)) (hn : ∀ k', k' < k → ¬ l = gx_S (3 + k')) : gx_kwN l = 9 + k := by
  unfold gx_kwN
  rcases (show k = 0 ∨ k = 1 ∨ k = 2 ∨ k = 3 ∨ k = 4 ∨ k = 5 ∨ k = 6 ∨ k = 7 ∨ k = 8 ∨ k = 9 ∨ k = 10 ∨ k = 11 ∨ k = 12 by omega) with rfl | rfl | rfl | rfl | rfl | rfl | rfl | rfl | rfl | rfl | rfl | rfl | rfl
  · rw [if_pos (show l = gx_S 3 from h)]
  · rw [if_neg (show ¬ l = gx_S 3 from hn 0 (by decide)), if_pos (show l = gx_S 4 from h)]
  · rw [if_neg (show ¬ l = gx_S 3 from hn 0 (by decide)), if_neg (show ¬ l = gx_S 4 from hn 1 (by decide)), if_pos (show l = gx_S 5 from h)]
  · rw [if_neg (show ¬ l = gx_S 3 from hn 0 (by decide)), if_neg (show ¬ l = gx_S 4 from hn 1 (by decide)), if_neg (show ¬ l = gx_S 5 from hn 2 (by decide)), if_pos (show l = gx_S 6 from h)]
  · rw [if_neg (show ¬ l = gx_S 3 from hn 0 (by decide)), if_neg (show ¬ l = gx_S 4 from hn 1 (by decide)), if_neg (show ¬ l = gx_S 5 from hn 2 (by decide)), if_neg (show ¬ l = gx_S 6 from hn 3 (by decide)), if_pos (show l = gx_S 7 from h)]
  · rw [if_neg (show ¬ l = gx_S 3 from hn 0 (by decide)), if_neg (show ¬ l = gx_S 4 from hn 1 (by decide)), if_neg (show ¬ l = gx_S 5 from hn 2 (by decide)), if_neg (show ¬ l = gx_S 6 from hn 3 (by decide)), if_neg (show ¬ l = gx_S 7 from hn 4 (by decide)), if_pos (show l = gx_S 8 from h)]
  · rw [if_neg (show ¬ l = gx_S 3 from hn 0 (by decide)), if_neg (show ¬ l = gx_S 4 from hn 1 (by decide)), if_neg (show ¬ l = gx_S 5 from hn 2 (by decide)), if_neg (show ¬ l = gx_S 6 from hn 3 (by decide)), if_neg (show ¬ l = gx_S 7 from hn 4 (by decide)), if_neg (show ¬ l = gx_S 8 from hn 5 (by decide)), if_pos (show l = gx_S 9 from h)]
  · rw [if_neg (show ¬ l = gx_S 3 from hn 0 (by decide)), if_neg (show ¬ l = gx_S 4 from hn 1 (by decide)), if_neg (show ¬ l = gx_S 5 from hn 2 (by decide)), if_neg (show ¬ l = gx_S 6 from hn 3 (by decide)), if_neg (show ¬ l = gx_S 7 from hn 4 (by decide)), if_neg (show ¬ l = gx_S 8 from hn 5 (by decide)), if_neg (show ¬ l = gx_S 9 from hn 6 (by decide)), if_pos (show l = gx_S 10 from h)]
  · rw [if_neg (show ¬ l = gx_S 3 from hn 0 (by decide)), if_neg (show ¬ l = gx_S 4 from hn 1 (by decide)), if_neg (show ¬ l = gx_S 5 from hn 2 (by decide)), if_neg (show ¬ l = gx_S 6 from hn 3 (by decide)), if_neg (show ¬ l = gx_S 7 from hn 4 (by decide)), if_neg (show ¬ l = gx_S 8 from hn 5 (by decide)), if_neg (show ¬ l = gx_S 9 from hn 6 (by decide)), if_neg (show ¬ l = gx_S 10 from hn 7 (by decide)), if_pos (show l = gx_S 11 from h)]
  · rw [if_neg (show ¬ l = gx_S 3 from hn 0 (by decide)), if_neg (show ¬ l = gx_S 4 from hn 1 (by decide)), if_neg (show ¬ l = gx_S 5 from hn 2 (by decide)), if_neg (show ¬ l = gx_S 6 from hn 3 (by decide)), if_neg (show ¬ l = gx_S 7 from hn 4 (by decide)), if_neg (show ¬ l = gx_S 8 from hn 5 (by decide)), if_neg (show ¬ l = gx_S 9 from hn 6 (by decide)), if_neg (show ¬ l = gx_S 10 from hn 7 (by decide)), if_neg (show ¬ l = gx_S 11 from hn 8 (by decide)), if_pos (show l = gx_S 12 from h)]
  · rw [if_neg (show ¬ l = gx_S 3 from hn 0 (by decide)), if_neg (show ¬ l = gx_S 4 from hn 1 (by decide)), if_neg (show ¬ l = gx_S 5 from hn 2 (by decide)), if_neg (show ¬ l = gx_S 6 from hn 3 (by decide)), if_neg (show ¬ l = gx_S 7 from hn 4 (by decide)), if_neg (show ¬ l = gx_S 8 from hn 5 (by decide)), if_neg (show ¬ l = gx_S 9 from hn 6 (by decide)), if_neg (show ¬ l = gx_S 10 from hn 7 (by decide)), if_neg (show ¬ l = gx_S 11 from hn 8 (by decide)), if_neg (show ¬ l = gx_S 12 from hn 9 (by decide)), if_pos (show l = gx_S 13 from h)]
  · rw [if_neg (show ¬ l = gx_S 3 from hn 0 (by decide)), if_neg (show ¬ l = gx_S 4 from hn 1 (by decide)), if_neg (show ¬ l = gx_S 5 from hn 2 (by decide)), if_neg (show ¬ l = gx_S 6 from hn 3 (by decide)), if_neg (show ¬ l = gx_S 7 from hn 4 (by decide)), if_neg (show ¬ l = gx_S 8 from hn 5 (by decide)), if_neg (show ¬ l = gx_S 9 from hn 6 (by decide)), if_neg (show ¬ l = gx_S 10 from hn 7 (by decide)), if_neg (show ¬ l = gx_S 11 from hn 8 (by decide)), if_neg (show ¬ l = gx_S 12 from hn 9 (by decide)), if_neg (show ¬ l = gx_S 13 from hn 10 (by decide)), if_pos (show l = gx_S 14 from h)]
  · rw [if_neg (show ¬ l = gx_S 3 from hn 0 (by decide)), if_neg (show ¬ l = gx_S 4 from hn 1 (by decide)), if_neg (show ¬ l = gx_S 5 from hn 2 (by decide)), if_neg (show ¬ l = gx_S 6 from hn 3 (by decide)), if_neg (show ¬ l = gx_S 7 from hn 4 (by decide)), if_neg (show ¬ l = gx_S 8 from hn 5 (by decide)), if_neg (show ¬ l = gx_S 9 from hn 6 (by decide)), if_neg (show ¬ l = gx_S 10 from hn 7 (by decide)), if_neg (show ¬ l = gx_S 11 from hn 8 (by decide)), if_neg (show ¬ l = gx_S 12 from hn 9 (by decide)), if_neg (show ¬ l = gx_S 13 from hn 10 (by decide)), if_neg (show ¬ l = gx_S 14 from hn 11 (by decide)), if_pos (show l = gx_S 15 from h)]
theorem gx_kw_4 {l : List Nat} (hn : ∀ k', k' < 13 → ¬ l = gx_S (3 + k')) : gx_kwN l = 32 := by
  unfold gx_kwN
  rw [if_neg (show ¬ l = gx_S 3 from hn 0 (by decide)), if_neg (show ¬ l = gx_S 4 from hn 1 (by decide)), if_neg (show ¬ l = gx_S 5 from hn 2 (by decide)), if_neg (show ¬ l = gx_S 6 from hn 3 (by decide)), if_neg (show ¬ l = gx_S 7 from hn 4 (by decide)), if_neg (show ¬ l = gx_S 8 from hn 5 (by decide)), if_neg (show ¬ l = gx_S 9 from hn 6 (by decide)), if_neg (show ¬ l = gx_S 10 from hn 7 (by decide)), if_neg (show ¬ l = gx_S 11 from hn 8 (by decide)), if_neg (show ¬ l = gx_S 12 from hn 9 (by decide)), if_neg (show ¬ l = gx_S 13 from hn 10 (by decide)), if_neg (show ¬ l = gx_S 14 from hn 11 (by decide)), if_neg (show ¬ l = gx_S 15 from hn 12 (by decide))]
set_option maxRecDepth 100000 in
theorem sp_Pa_keyword {s e : Nat} (T : gcx_T w tp n) (hse : s ≤ e) (hen : e ≤ n) (h : K (some (.int (nI (gx_kw (gx_sub tp s e))))) (gv w u q)) : gp_Cal l G (d + 6) m_Pa_keyword [.ref 55, .int (nI s), .int (nI e)] (gv w u q) K := by
  refine gp_enter od_Pa_keyword rfl ?_
  (repeat refine gp_gc [] od_Pa_keyword rfl rfl ?_)
  refine sp_Pa_indexIn (d := d) (i := 1) (by decide) (by decide) T hse hen (fun k hk hs hno => ?_) (fun hno => ?_)
  · have hk : k < 9 := hk
    rw [gx_kw_1 hk hs hno] at h
    (repeat refine gp_gc [] od_Pa_keyword rfl rfl ?_)
    refine gb_eq_f (fun z => absurd (show nI k < 0 by rw [z]; decide) (nI_pos (by omega))) ?_
    (repeat refine gp_gc [] od_Pa_keyword rfl rfl ?_)
    exact h
  · rw [gx_kw_2 hno] at h
    (repeat refine gp_gc [] od_Pa_keyword rfl rfl ?_)
    refine gb_eq_t rfl ?_
    (repeat refine gp_gc [] od_Pa_keyword rfl rfl ?_)
    refine sp_Pa_indexIn (d := d) (i := 2) (by decide) (by decide) T hse hen (fun k hk hs hno => ?_) (fun hno => ?_)
    · have hk : k < 13 := hk
      rw [gx_kw_3 hk hs hno] at h
      (repeat refine gp_gc [] od_Pa_keyword rfl rfl ?_)
      refine gb_eq_f (fun z => absurd (show nI k < 0 by rw [z]; decide) (nI_pos (by omega))) ?_
      (repeat refine gp_gc [] od_Pa_keyword rfl rfl ?_)
      rw [show (Int8.ofInt 9).toInt32 + nI k = nI (9 + k) from nI_add 9 k]
      exact h
    · rw [gx_kw_4 hno] at h
      (repeat refine gp_gc [] od_Pa_keyword rfl rfl ?_)
      refine gb_eq_t rfl ?_
      (repeat refine gp_gc [] od_Pa_keyword rfl rfl ?_)
      exact h
/-! signs -/
theorem gx_sg_b : ∀ c, c < 256 → (gx_sg c = true ↔ ∃ i, i < 10 ∧ gp_sB 1000 i = (nI c).toInt8.toInt32) := by decide +kernel
set_option maxRecDepth 100000 in
theorem sp_Jl_indexOfChar {V : gp_H} {c : Nat} (hc : c < 256) (h : ∀ v : Int32, (v < 0 ↔ ¬ gx_sg c = true) → K (some (.int v)) V) : gp_Cal l G d m_Jl_indexOfChar [.retAddr 1000, .int (nI c), .int 0, .int 10] V K := by
  refine gp_enter od_Jl_indexOfChar rfl ?_
  have eb := gx_sg_b c hc
  have loop : ∀ (r i : Nat), i + r = 10 → (∀ j, j < i → ¬ gp_sB 1000 j = (nI c).toInt8.toInt32) → gp_Go l G d m_Jl_indexOfChar K 7 [some (.retAddr 1000), some (.int (nI c)), some (.int 0), some (.int 10), some (.int (nI c).toInt8.toInt32), some (.int (nI i))] [] V 0 0 := by
    intro r
    induction r with
    | zero =>
      intro i hi hall
      have ei : i = 10 := by omega
      refine gp_go od_Jl_indexOfChar rfl ?_
      (repeat refine gp_gc [7] od_Jl_indexOfChar rfl rfl ?_)
      refine gb_ge_t (by rw [ei]; decide) ?_
      (repeat refine gp_gc [7] od_Jl_indexOfChar rfl rfl ?_)
      refine h (-1) ⟨fun _ z => ?_, fun _ => by decide⟩
      obtain ⟨j, hj, e⟩ := eb.mp z
      exact hall j (by omega) e
    | succ r ih =>
      intro i hi hall
      have inc : nI i + Int32.ofInt 1 = nI (i + 1) := gp_inc rfl
      have ci : (nI i).toNatClampNeg = i := nI_clamp (by omega)
      refine gp_go od_Jl_indexOfChar rfl ?_
      (repeat refine gp_gc [7] od_Jl_indexOfChar rfl rfl ?_)
      refine gb_ge_f (nI_ge (b := 10) (by omega) (by decide)) ?_
      (repeat refine gp_gc [7] od_Jl_indexOfChar rfl rfl ?_)
      refine And.intro (show vp_in (nI i) (gp_sN 1000) from vp_in_nI (show i < 10 by omega) (by decide)) ?_
      rw [ci]
      (repeat refine gp_gc [7] od_Jl_indexOfChar rfl rfl ?_)
      by_cases e : gp_sB 1000 i = (nI c).toInt8.toInt32
      · refine gb_ne_f e ?_
        (repeat refine gp_gc [7] od_Jl_indexOfChar rfl rfl ?_)
        refine h (nI i) ⟨fun z => absurd z (nI_pos (by omega)), fun z => absurd (eb.mpr ⟨i, by omega, e⟩) z⟩
      · refine gb_ne_t e ?_
        (repeat refine gp_gc [7] od_Jl_indexOfChar rfl rfl ?_)
        rw [inc]
        exact ih (i + 1) (by omega) (lt_s hall e)
  (repeat refine gp_gc [7] od_Jl_indexOfChar rfl rfl ?_)
  exact loop 10 0 (by omega) (fun j hj => absurd hj (by omega))
set_option maxRecDepth 100000 in
theorem sp_Jl_canEncode {V : gp_H} {c : Nat} (hc : c < 256) (h : K (some (.int 1)) V) : gp_Cal l G d m_Jl_canEncode [.int (nI c)] V K := by
  refine gp_enter od_Jl_canEncode rfl ?_
  (repeat refine gp_gc [] od_Jl_canEncode rfl rfl ?_)
  refine gb1_lt_f (nI_pos (by omega)) ?_
  (repeat refine gp_gc [] od_Jl_canEncode rfl rfl ?_)
  refine gb_gt_f (nI_nlt (a := 255) (by omega) (by omega)) ?_
  (repeat refine gp_gc [] od_Jl_canEncode rfl rfl ?_)
  exact And.intro (Or.inr rfl) h
set_option maxRecDepth 100000 in
theorem sp_Jl_indexOf {V : gp_H} {c : Nat} (hc : c < 256) (h : ∀ v : Int32, (v < 0 ↔ ¬ gx_sg c = true) → K (some (.int v)) V) : gp_Cal l G (d + 1) m_Jl_indexOf [.retAddr 1000, .int (nI c), .int 0, .int 10] V K := by
  refine gp_enter od_Jl_indexOf rfl ?_
  (repeat refine gp_gc [] od_Jl_indexOf rfl rfl ?_)
  refine sp_Jl_canEncode (d := d) hc ?_
  (repeat refine gp_gc [] od_Jl_indexOf rfl rfl ?_)
  refine gb1_ne_t (by decide) ?_
  (repeat refine gp_gc [] od_Jl_indexOf rfl rfl ?_)
  refine gb_lt_t (by decide) ?_
  (repeat refine gp_gc [] od_Jl_indexOf rfl rfl ?_)
  refine sp_Jl_indexOfChar (d := d) hc (fun v hv => ?_)
  (repeat refine gp_gc [] od_Jl_indexOf rfl rfl ?_)
  exact h v hv
set_option maxRecDepth 100000 in
theorem sp_Js_indexOf_d33 {V : gp_H} {c : Nat} (hc : c < 256) (h : ∀ v : Int32, (v < 0 ↔ ¬ gx_sg c = true) → K (some (.int v)) V) : gp_Cal l G (d + 2) m_Js_indexOf_d33 [.retAddr 0, .int (nI c), .int 0] V K := by
  refine gp_enter od_Js_indexOf_d33 rfl ?_
  (repeat refine gp_gc [] od_Js_indexOf_d33 rfl rfl ?_)
  refine sp_Js_isLatin1 (d := d + 1) (by decide) ?_
  (repeat refine gp_gc [] od_Js_indexOf_d33 rfl rfl ?_)
  refine gb1_eq_f (by decide) ?_
  (repeat refine gp_gc [] od_Js_indexOf_d33 rfl rfl ?_)
  refine sp_Js_length (d := d) (i := 0) (by decide) ?_
  (repeat refine gp_gc [] od_Js_indexOf_d33 rfl rfl ?_)
  refine sp_Jl_indexOf (d := d) hc (fun v hv => ?_)
  (repeat refine gp_gc [] od_Js_indexOf_d33 rfl rfl ?_)
  exact h v hv
set_option maxRecDepth 100000 in
theorem sp_Js_indexOf {V : gp_H} {c : Nat} (hc : c < 256) (h : ∀ v : Int32, (v < 0 ↔ ¬ gx_sg c = true) → K (some (.int v)) V) : gp_Cal l G (d + 3) m_Js_indexOf [.retAddr 0, .int (nI c)] V K := by
  refine gp_enter od_Js_indexOf rfl ?_
  (repeat refine gp_gc [] od_Js_indexOf rfl rfl ?_)
  refine sp_Js_indexOf_d33 (d := d) hc (fun v hv => ?_)
  (repeat refine gp_gc [] od_Js_indexOf rfl rfl ?_)
  exact h v hv
set_option maxRecDepth 100000 in
theorem sp_Pa_addToken {k v p : Int32} {t : Nat} (et : w 55 5 = nI t) (ht : t ≤ 500) (h : K none (gv (gw (gw (gw (gw w 57 t k) 58 t v) 59 t p) 55 5 (nI (t + 1))) u q)) : gp_Cal l G (d + 0) m_Pa_addToken [.ref 55, .int k, .int v, .int p] (gv w u q) K := by
  refine gp_enter od_Pa_addToken rfl ?_
  have ct : (w 55 5).toNatClampNeg = t := by rw [et]; exact nI_clamp (by omega)
  have it : vp_in (w 55 5) 501 := by rw [et]; exact vp_in_nI (by omega) (by decide)
  have e1 : w 55 5 + 1 = nI (t + 1) := by rw [et]; exact nI_1 t
  rw [← e1, ← ct] at h
  (repeat refine gp_gc [] od_Pa_addToken rfl rfl ?_)
  refine gb_gt_f (by rw [et]; exact nI_nlt (a := 500) ht (by decide)) ?_
  (repeat refine gp_gc [] od_Pa_addToken rfl rfl ?_)
  refine And.intro it ?_
  (repeat refine gp_gc [] od_Pa_addToken rfl rfl ?_)
  refine And.intro it ?_
  (repeat refine gp_gc [] od_Pa_addToken rfl rfl ?_)
  refine And.intro it ?_
  (repeat refine gp_gc [] od_Pa_addToken rfl rfl ?_)
  exact h
def gcx_k (tp : Nat → Nat) (n p : Nat) : Nat := if gx_le (tp p) then gx_kw (gx_sub tp p (gcx_e tp n p)) else if gx_di (tp p) then (if gcx_e tp n p - p < 5 then 30 else 32) else if gx_sg (tp p) then tp p else 32
theorem gcx_e_b {p : Nat} (hp : p < n) : p < gcx_e tp n p ∧ gcx_e tp n p ≤ n := by
  unfold gcx_e
  by_cases c1 : gx_le (tp p) = true
  · rw [if_pos c1, gx_run_1 hp c1]
    have := gx_run_b (C := gx_le) (tp := tp) (n - (p + 1)) (p + 1)
    omega
  · rw [if_neg c1]
    by_cases c2 : gx_di (tp p) = true
    · rw [if_pos c2, gx_run_1 hp c2]
      have := gx_run_b (C := gx_di) (tp := tp) (n - (p + 1)) (p + 1)
      omega
    · rw [if_neg c2]
      omega
set_option maxRecDepth 100000 in
theorem sp_Pa_scanRun {p t : Nat} (T : gcx_T w tp n) (hp : p < n) (et : w 55 5 = nI t) (ht : t ≤ 500) (hb : gx_bl (tp p) = true → K none (gv w u q)) (hk : gx_bl (tp p) = false → ∀ v, (gcx_k tp n p = 30 → v = nI (gx_nm tp (gcx_e tp n p - p) p 0)) → K none (gv (gw (gw (gw (gw w 57 t (nI (gcx_k tp n p))) 58 t v) 59 t (nI p)) 55 5 (nI (t + 1))) u q)) : gp_Cal l G (d + 7) m_Pa_scanRun [.ref 55, .int (nI p), .int (nI (gcx_e tp n p))] (gv w u q) K := by
  have hn := T.2.1
  have cp : (nI p).toNatClampNeg = p := nI_clamp (by omega)
  have ip : vp_in (nI p) 500 := vp_in_nI (by omega) (by decide)
  have Tp := T.2.2 p hp
  have eb := gcx_e_b (tp := tp) hp
  refine gp_enter od_Pa_scanRun rfl ?_
  (repeat refine gp_gc [] od_Pa_scanRun rfl rfl ?_)
  refine And.intro ip ?_
  rw [cp, Tp.1]
  (repeat refine gp_gc [] od_Pa_scanRun rfl rfl ?_)
  refine sp_Pa_isLetter (d := d + 6) rfl Tp.2 ?_
  by_cases c1 : gx_le (tp p) = true
  · have nb : gx_bl (tp p) = false := by
      unfold gx_le at c1
      rw [decide_eq_true_iff] at c1
      unfold gx_bl
      rw [Bool.or_eq_false_iff, beq_eq_false_iff_ne, beq_eq_false_iff_ne]
      omega
    have ek : gcx_k tp n p = gx_kw (gx_sub tp p (gcx_e tp n p)) := if_pos c1
    have kb := gx_kw_b (gx_sub tp p (gcx_e tp n p))
    have hk := hk nb 0 (fun z => by rw [ek] at z; omega)
    rw [ek] at hk
    rw [c1]
    (repeat refine gp_gc [] od_Pa_scanRun rfl rfl ?_)
    refine gb1_eq_f (by decide) ?_
    (repeat refine gp_gc [] od_Pa_scanRun rfl rfl ?_)
    refine sp_Pa_keyword (d := d) T (by omega) eb.2 ?_
    (repeat refine gp_gc [] od_Pa_scanRun rfl rfl ?_)
    refine sp_Pa_addToken (d := d + 6) et ht ?_
    (repeat refine gp_gc [] od_Pa_scanRun rfl rfl ?_)
    exact hk
  have c1' : gx_le (tp p) = false := by simpa using c1
  rw [c1']
  (repeat refine gp_gc [] od_Pa_scanRun rfl rfl ?_)
  refine gb1_eq_t rfl ?_
  (repeat refine gp_gc [] od_Pa_scanRun rfl rfl ?_)
  refine sp_Pa_isDigit (d := d + 6) rfl Tp.2 ?_
  by_cases c2 : gx_di (tp p) = true
  · have nb : gx_bl (tp p) = false := by
      unfold gx_di at c2
      rw [decide_eq_true_iff] at c2
      unfold gx_bl
      rw [Bool.or_eq_false_iff, beq_eq_false_iff_ne, beq_eq_false_iff_ne]
      omega
    have ee : gcx_e tp n p = gx_run gx_di tp (n - p) p := by unfold gcx_e; rw [if_neg c1, if_pos c2]
    have hd : ∀ i, p ≤ i → i < gcx_e tp n p → gx_di (tp i) = true := by
      intro i h1 h2
      rw [ee] at h2
      have := gx_run_all (C := gx_di) (tp := tp) (n - p) p (i - p) (by omega)
      rw [show p + (i - p) = i by omega] at this
      exact this
    have ek : gcx_k tp n p = if gcx_e tp n p - p < 5 then 30 else 32 := by unfold gcx_k; rw [if_neg c1, if_pos c2]
    have es : nI (gcx_e tp n p) - nI p = nI (gcx_e tp n p - p) := pk_sub (by omega)
    have hk := hk nb
    rw [ek] at hk
    rw [c2]
    (repeat refine gp_gc [] od_Pa_scanRun rfl rfl ?_)
    refine gb1_eq_f (by decide) ?_
    (repeat refine gp_gc [] od_Pa_scanRun rfl rfl ?_)
    rw [es]
    by_cases c3 : gcx_e tp n p - p < 5
    · rw [if_pos c3] at hk
      refine gb_le_t (nI_le (b := 4) (by omega) (by decide)) ?_
      (repeat refine gp_gc [] od_Pa_scanRun rfl rfl ?_)
      refine sp_Pa_numberOf (d := d + 6) T rfl rfl (by omega) eb.2 hd (fun v hv => ?_)
      (repeat refine gp_gc [] od_Pa_scanRun rfl rfl ?_)
      refine sp_Pa_addToken (d := d + 6) et ht ?_
      (repeat refine gp_gc [] od_Pa_scanRun rfl rfl ?_)
      exact hk v (fun _ => hv (by omega))
    · rw [if_neg c3] at hk
      refine gb_le_f (nI_ge (a := 4) (by omega) (by omega)) ?_
      (repeat refine gp_gc [] od_Pa_scanRun rfl rfl ?_)
      refine sp_Pa_numberOf (d := d + 6) T rfl rfl (by omega) eb.2 hd (fun v hv => ?_)
      (repeat refine gp_gc [] od_Pa_scanRun rfl rfl ?_)
      refine sp_Pa_addToken (d := d + 6) et ht ?_
      (repeat refine gp_gc [] od_Pa_scanRun rfl rfl ?_)
      exact hk v (fun z => absurd z (by decide))
  have c2' : gx_di (tp p) = false := by simpa using c2
  have ek : gcx_k tp n p = if gx_sg (tp p) then tp p else 32 := by unfold gcx_k; rw [if_neg c1, if_neg c2]
  rw [c2']
  (repeat refine gp_gc [] od_Pa_scanRun rfl rfl ?_)
  refine gb1_eq_t rfl ?_
  (repeat refine gp_gc [] od_Pa_scanRun rfl rfl ?_)
  have q32 : nI (tp p) = 32 ↔ tp p = 32 := nI_eq (b := 32) (by omega) (by decide)
  have q10 : nI (tp p) = 10 ↔ tp p = 10 := nI_eq (b := 10) (by omega) (by decide)
  by_cases c3 : tp p = 32
  · refine gb_eq_t (q32.mpr c3) ?_
    (repeat refine gp_gc [] od_Pa_scanRun rfl rfl ?_)
    exact hb (by rw [c3]; rfl)
  refine gb_eq_f (fun z => c3 (q32.mp z)) ?_
  (repeat refine gp_gc [] od_Pa_scanRun rfl rfl ?_)
  by_cases c4 : tp p = 10
  · refine gb_eq_t (q10.mpr c4) ?_
    (repeat refine gp_gc [] od_Pa_scanRun rfl rfl ?_)
    exact hb (by rw [c4]; rfl)
  refine gb_eq_f (fun z => c4 (q10.mp z)) ?_
  have nb : gx_bl (tp p) = false := by
    unfold gx_bl
    rw [Bool.or_eq_false_iff, beq_eq_false_iff_ne, beq_eq_false_iff_ne]
    exact ⟨c3, c4⟩
  have hk := hk nb 0
  rw [ek] at hk
  have ech : ((nI (tp p)).toUInt32 % 65536).toInt32 = nI (tp p) := by
    rw [pk_char, pk_tn (by omega), Nat.mod_eq_of_lt (by omega)]
  (repeat refine gp_gc [] od_Pa_scanRun rfl rfl ?_)
  rw [ech]
  refine sp_Js_indexOf (d := d + 3) Tp.2 (fun v hv => ?_)
  (repeat refine gp_gc [] od_Pa_scanRun rfl rfl ?_)
  by_cases c5 : gx_sg (tp p) = true
  · rw [if_pos c5] at hk
    refine gb1_lt_f (fun z => absurd c5 (hv.mp z)) ?_
    (repeat refine gp_gc [] od_Pa_scanRun rfl rfl ?_)
    refine sp_Pa_addToken (d := d + 6) et ht ?_
    (repeat refine gp_gc [] od_Pa_scanRun rfl rfl ?_)
    refine hk (fun z => ?_)
    unfold gx_sg at c5
    rw [decide_eq_true_iff] at c5
    omega
  · rw [if_neg c5] at hk
    refine gb1_lt_t (hv.mpr c5) ?_
    (repeat refine gp_gc [] od_Pa_scanRun rfl rfl ?_)
    refine sp_Pa_addToken (d := d + 6) et ht ?_
    (repeat refine gp_gc [] od_Pa_scanRun rfl rfl ?_)
    exact hk (fun z => absurd z (by decide))
end

end
