section
variable {l : Launch} {G : gp_G} {d : Nat} {w : Nat → Nat → Int32} {u : Int64 × (Nat → Int64)} {q : Nat → Nat} {K : Option Value → gp_H → Prop}
/-! ===== the reference's methods: words, next0 ===== -/
section
variable {tp : Nat → Nat} {n : Nat}
set_option maxRecDepth 100000 in
theorem sp_Rf_name {s e : Nat} (T : gx_T w tp n) (es : w 95 36 = nI s) (ee : w 95 34 = nI e) (hse : s ≤ e) (hen : e ≤ n) (h : K (some (.int (nI (gx_rt (gx_kwN (gx_sub tp s e)))))) (gv w u q)) : gp_Cal l G (d + 5) m_Rf_name [.ref 95] (gv w u q) K := by
  unfold gx_kwN at h
  refine gp_enter od_Rf_name rfl ?_
  (repeat refine gp_gc [] od_Rf_name rfl rfl ?_)
  refine sp_Rf_is (d := d) (i := 3) (by decide) T es ee hse hen (fun c => ?_) (fun c => ?_)
  · rw [if_pos c] at h
    (repeat refine gp_gc [] od_Rf_name rfl rfl ?_)
    refine gb1_eq_f (by decide) ?_
    (repeat refine gp_gc [] od_Rf_name rfl rfl ?_)
    exact h
  rw [if_neg c] at h
  (repeat refine gp_gc [] od_Rf_name rfl rfl ?_)
  refine gb1_eq_t rfl ?_
  (repeat refine gp_gc [] od_Rf_name rfl rfl ?_)
  refine sp_Rf_is (d := d) (i := 4) (by decide) T es ee hse hen (fun c => ?_) (fun c => ?_)
  · rw [if_pos c] at h
    (repeat refine gp_gc [] od_Rf_name rfl rfl ?_)
    refine gb1_eq_f (by decide) ?_
    (repeat refine gp_gc [] od_Rf_name rfl rfl ?_)
    exact h
  rw [if_neg c] at h
  (repeat refine gp_gc [] od_Rf_name rfl rfl ?_)
  refine gb1_eq_t rfl ?_
  (repeat refine gp_gc [] od_Rf_name rfl rfl ?_)
  refine sp_Rf_is (d := d) (i := 5) (by decide) T es ee hse hen (fun c => ?_) (fun c => ?_)
  · rw [if_pos c] at h
    (repeat refine gp_gc [] od_Rf_name rfl rfl ?_)
    refine gb1_eq_f (by decide) ?_
    (repeat refine gp_gc [] od_Rf_name rfl rfl ?_)
    exact h
  rw [if_neg c] at h
  (repeat refine gp_gc [] od_Rf_name rfl rfl ?_)
  refine gb1_eq_t rfl ?_
  (repeat refine gp_gc [] od_Rf_name rfl rfl ?_)
  refine sp_Rf_is (d := d) (i := 6) (by decide) T es ee hse hen (fun c => ?_) (fun c => ?_)
  · rw [if_pos c] at h
    (repeat refine gp_gc [] od_Rf_name rfl rfl ?_)
    refine gb1_eq_f (by decide) ?_
    (repeat refine gp_gc [] od_Rf_name rfl rfl ?_)
    exact h
  rw [if_neg c] at h
  (repeat refine gp_gc [] od_Rf_name rfl rfl ?_)
  refine gb1_eq_t rfl ?_
  (repeat refine gp_gc [] od_Rf_name rfl rfl ?_)
  refine sp_Rf_is (d := d) (i := 7) (by decide) T es ee hse hen (fun c => ?_) (fun c => ?_)
  · rw [if_pos c] at h
    (repeat refine gp_gc [] od_Rf_name rfl rfl ?_)
    refine gb1_eq_f (by decide) ?_
    (repeat refine gp_gc [] od_Rf_name rfl rfl ?_)
    exact h
  rw [if_neg c] at h
  (repeat refine gp_gc [] od_Rf_name rfl rfl ?_)
  refine gb1_eq_t rfl ?_
  (repeat refine gp_gc [] od_Rf_name rfl rfl ?_)
  refine sp_Rf_is (d := d) (i := 8) (by decide) T es ee hse hen (fun c => ?_) (fun c => ?_)
  · rw [if_pos c] at h
    (repeat refine gp_gc [] od_Rf_name rfl rfl ?_)
    refine gb1_eq_f (by decide) ?_
    (repeat refine gp_gc [] od_Rf_name rfl rfl ?_)
    exact h
  rw [if_neg c] at h
  (repeat refine gp_gc [] od_Rf_name rfl rfl ?_)
  refine gb1_eq_t rfl ?_
  (repeat refine gp_gc [] od_Rf_name rfl rfl ?_)
  refine sp_Rf_is (d := d) (i := 9) (by decide) T es ee hse hen (fun c => ?_) (fun c => ?_)
  · rw [if_pos c] at h
    (repeat refine gp_gc [] od_Rf_name rfl rfl ?_)
    refine gb1_eq_f (by decide) ?_
    (repeat refine gp_gc [] od_Rf_name rfl rfl ?_)
    exact h
  rw [if_neg c] at h
  (repeat refine gp_gc [] od_Rf_name rfl rfl ?_)
  refine gb1_eq_t rfl ?_
  (repeat refine gp_gc [] od_Rf_name rfl rfl ?_)
  refine sp_Rf_is (d := d) (i := 10) (by decide) T es ee hse hen (fun c => ?_) (fun c => ?_)
  · rw [if_pos c] at h
    (repeat refine gp_gc [] od_Rf_name rfl rfl ?_)
    refine gb1_eq_f (by decide) ?_
    (repeat refine gp_gc [] od_Rf_name rfl rfl ?_)
    exact h
  rw [if_neg c] at h
  (repeat refine gp_gc [] od_Rf_name rfl rfl ?_)
  refine gb1_eq_t rfl ?_
  (repeat refine gp_gc [] od_Rf_name rfl rfl ?_)
  refine sp_Rf_is (d := d) (i := 11) (by decide) T es ee hse hen (fun c => ?_) (fun c => ?_)
  · rw [if_pos c] at h
    (repeat refine gp_gc [] od_Rf_name rfl rfl ?_)
    refine gb1_eq_f (by decide) ?_
    (repeat refine gp_gc [] od_Rf_name rfl rfl ?_)
    exact h
  rw [if_neg c] at h
  (repeat refine gp_gc [] od_Rf_name rfl rfl ?_)
  refine gb1_eq_t rfl ?_
  (repeat refine gp_gc [] od_Rf_name rfl rfl ?_)
  refine sp_Rf_is (d := d) (i := 12) (by decide) T es ee hse hen (fun c => ?_) (fun c => ?_)
  · rw [if_pos c] at h
    (repeat refine gp_gc [] od_Rf_name rfl rfl ?_)
    refine gb1_eq_f (by decide) ?_
    (repeat refine gp_gc [] od_Rf_name rfl rfl ?_)
    exact h
  rw [if_neg c] at h
  (repeat refine gp_gc [] od_Rf_name rfl rfl ?_)
  refine gb1_eq_t rfl ?_
  (repeat refine gp_gc [] od_Rf_name rfl rfl ?_)
  refine sp_Rf_is (d := d) (i := 13) (by decide) T es ee hse hen (fun c => ?_) (fun c => ?_)
  · rw [if_pos c] at h
    (repeat refine gp_gc [] od_Rf_name rfl rfl ?_)
    refine gb1_eq_f (by decide) ?_
    (repeat refine gp_gc [] od_Rf_name rfl rfl ?_)
    exact h
  rw [if_neg c] at h
  (repeat refine gp_gc [] od_Rf_name rfl rfl ?_)
  refine gb1_eq_t rfl ?_
  (repeat refine gp_gc [] od_Rf_name rfl rfl ?_)
  refine sp_Rf_is (d := d) (i := 14) (by decide) T es ee hse hen (fun c => ?_) (fun c => ?_)
  · rw [if_pos c] at h
    (repeat refine gp_gc [] od_Rf_name rfl rfl ?_)
    refine gb1_eq_f (by decide) ?_
    (repeat refine gp_gc [] od_Rf_name rfl rfl ?_)
    exact h
  rw [if_neg c] at h
  (repeat refine gp_gc [] od_Rf_name rfl rfl ?_)
  refine gb1_eq_t rfl ?_
  (repeat refine gp_gc [] od_Rf_name rfl rfl ?_)
  refine sp_Rf_is (d := d) (i := 15) (by decide) T es ee hse hen (fun c => ?_) (fun c => ?_)
  · rw [if_pos c] at h
    (repeat refine gp_gc [] od_Rf_name rfl rfl ?_)
    refine gb1_eq_f (by decide) ?_
    (repeat refine gp_gc [] od_Rf_name rfl rfl ?_)
    exact h
  rw [if_neg c] at h
  (repeat refine gp_gc [] od_Rf_name rfl rfl ?_)
  refine gb1_eq_t rfl ?_
  (repeat refine gp_gc [] od_Rf_name rfl rfl ?_)
  exact h
set_option maxRecDepth 100000 in
theorem sp_Rf_word {s e : Nat} (T : gx_T w tp n) (es : w 95 36 = nI s) (ee : w 95 34 = nI e) (hse : s ≤ e) (hen : e ≤ n) (h : K (some (.int (nI (gx_rt (gx_kw (gx_sub tp s e)))))) (gv w u q)) : gp_Cal l G (d + 6) m_Rf_word [.ref 95] (gv w u q) K := by
  unfold gx_kw at h
  refine gp_enter od_Rf_word rfl ?_
  (repeat refine gp_gc [] od_Rf_word rfl rfl ?_)
  refine sp_Rf_is (d := d + 1) (i := 16) (by decide) T es ee hse hen (fun c => ?_) (fun c => ?_)
  · rw [if_pos c] at h
    (repeat refine gp_gc [] od_Rf_word rfl rfl ?_)
    refine gb1_eq_f (by decide) ?_
    (repeat refine gp_gc [] od_Rf_word rfl rfl ?_)
    exact h
  rw [if_neg c] at h
  (repeat refine gp_gc [] od_Rf_word rfl rfl ?_)
  refine gb1_eq_t rfl ?_
  (repeat refine gp_gc [] od_Rf_word rfl rfl ?_)
  refine sp_Rf_is (d := d + 1) (i := 17) (by decide) T es ee hse hen (fun c => ?_) (fun c => ?_)
  · rw [if_pos c] at h
    (repeat refine gp_gc [] od_Rf_word rfl rfl ?_)
    refine gb1_eq_f (by decide) ?_
    (repeat refine gp_gc [] od_Rf_word rfl rfl ?_)
    exact h
  rw [if_neg c] at h
  (repeat refine gp_gc [] od_Rf_word rfl rfl ?_)
  refine gb1_eq_t rfl ?_
  (repeat refine gp_gc [] od_Rf_word rfl rfl ?_)
  refine sp_Rf_is (d := d + 1) (i := 18) (by decide) T es ee hse hen (fun c => ?_) (fun c => ?_)
  · rw [if_pos c] at h
    (repeat refine gp_gc [] od_Rf_word rfl rfl ?_)
    refine gb1_eq_f (by decide) ?_
    (repeat refine gp_gc [] od_Rf_word rfl rfl ?_)
    exact h
  rw [if_neg c] at h
  (repeat refine gp_gc [] od_Rf_word rfl rfl ?_)
  refine gb1_eq_t rfl ?_
  (repeat refine gp_gc [] od_Rf_word rfl rfl ?_)
  refine sp_Rf_is (d := d + 1) (i := 19) (by decide) T es ee hse hen (fun c => ?_) (fun c => ?_)
  · rw [if_pos c] at h
    (repeat refine gp_gc [] od_Rf_word rfl rfl ?_)
    refine gb1_eq_f (by decide) ?_
    (repeat refine gp_gc [] od_Rf_word rfl rfl ?_)
    exact h
  rw [if_neg c] at h
  (repeat refine gp_gc [] od_Rf_word rfl rfl ?_)
  refine gb1_eq_t rfl ?_
  (repeat refine gp_gc [] od_Rf_word rfl rfl ?_)
  refine sp_Rf_is (d := d + 1) (i := 20) (by decide) T es ee hse hen (fun c => ?_) (fun c => ?_)
  · rw [if_pos c] at h
    (repeat refine gp_gc [] od_Rf_word rfl rfl ?_)
    refine gb1_eq_f (by decide) ?_
    (repeat refine gp_gc [] od_Rf_word rfl rfl ?_)
    exact h
  rw [if_neg c] at h
  (repeat refine gp_gc [] od_Rf_word rfl rfl ?_)
  refine gb1_eq_t rfl ?_
  (repeat refine gp_gc [] od_Rf_word rfl rfl ?_)
  refine sp_Rf_is (d := d + 1) (i := 21) (by decide) T es ee hse hen (fun c => ?_) (fun c => ?_)
  · rw [if_pos c] at h
    (repeat refine gp_gc [] od_Rf_word rfl rfl ?_)
    refine gb1_eq_f (by decide) ?_
    (repeat refine gp_gc [] od_Rf_word rfl rfl ?_)
    exact h
  rw [if_neg c] at h
  (repeat refine gp_gc [] od_Rf_word rfl rfl ?_)
  refine gb1_eq_t rfl ?_
  (repeat refine gp_gc [] od_Rf_word rfl rfl ?_)
  refine sp_Rf_is (d := d + 1) (i := 22) (by decide) T es ee hse hen (fun c => ?_) (fun c => ?_)
  · rw [if_pos c] at h
    (repeat refine gp_gc [] od_Rf_word rfl rfl ?_)
    refine gb1_eq_f (by decide) ?_
    (repeat refine gp_gc [] od_Rf_word rfl rfl ?_)
    exact h
  rw [if_neg c] at h
  (repeat refine gp_gc [] od_Rf_word rfl rfl ?_)
  refine gb1_eq_t rfl ?_
  (repeat refine gp_gc [] od_Rf_word rfl rfl ?_)
  refine sp_Rf_is (d := d + 1) (i := 23) (by decide) T es ee hse hen (fun c => ?_) (fun c => ?_)
  · rw [if_pos c] at h
    (repeat refine gp_gc [] od_Rf_word rfl rfl ?_)
    refine gb1_eq_f (by decide) ?_
    (repeat refine gp_gc [] od_Rf_word rfl rfl ?_)
    exact h
  rw [if_neg c] at h
  (repeat refine gp_gc [] od_Rf_word rfl rfl ?_)
  refine gb1_eq_t rfl ?_
  (repeat refine gp_gc [] od_Rf_word rfl rfl ?_)
  refine sp_Rf_is (d := d + 1) (i := 24) (by decide) T es ee hse hen (fun c => ?_) (fun c => ?_)
  · rw [if_pos c] at h
    (repeat refine gp_gc [] od_Rf_word rfl rfl ?_)
    refine gb1_eq_f (by decide) ?_
    (repeat refine gp_gc [] od_Rf_word rfl rfl ?_)
    exact h
  rw [if_neg c] at h
  (repeat refine gp_gc [] od_Rf_word rfl rfl ?_)
  refine gb1_eq_t rfl ?_
  (repeat refine gp_gc [] od_Rf_word rfl rfl ?_)
  refine sp_Rf_name (d := d) T es ee hse hen ?_
  (repeat refine gp_gc [] od_Rf_word rfl rfl ?_)
  exact h
def gn (w : Nat → Nat → Int32) (p t s v : Int32) : Nat → Nat → Int32 := gw (gw (gw (gw w 95 34 p) 95 35 t) 95 36 s) 95 37 v
theorem gx_run_end {C : Nat → Bool} {tp : Nat → Nat} : ∀ (r p : Nat), gx_run C tp r p < p + r → C (tp (gx_run C tp r p)) = false
  | 0, p, h => by unfold gx_run at h; omega
  | r + 1, p, h => by
    unfold gx_run at h ⊢
    by_cases c : C (tp p) = true
    · rw [if_pos c] at h ⊢
      exact gx_run_end r (p + 1) (by omega)
    · rw [if_neg c]
      simpa using c
section
variable {t s v : Int32}
set_option maxRecDepth 100000 in
/-- what a token's sign comes to -/
theorem gl_next_sign (T : gx_T w tp n) {S : Nat} (hS : S < n) (hl : gx_le (tp S) = false) (hd : gx_di (tp S) = false) {p : Int32} (h : ∀ t', t' = nI (gx_rt (if gx_sg (tp S) then tp S else 32)) → K none (gv (gn w p t' s v) u q)) : gp_Go l G (d + 8) m_Rf_next0 K 224 [some (.ref 95), some (.int (nI (tp S))), none] [] (gv (gn w p t s v) u q) 0 0 := by
  have hb := (T.2.2 S hS).2
  obtain ⟨c, ec⟩ : ∃ c, c = tp S := ⟨_, rfl⟩
  rw [← ec] at h hl hd hb ⊢
  have k303 : ∀ x, x = nI (gx_rt (if gx_sg c then c else 32)) → ∀ z, gp_Go l G (d + 8) m_Rf_next0 K 303 [some (.ref 95), some (.int (nI c)), some (.int z)] [.int x, .ref 95] (gv (gn w p t s v) u q) 0 0 := by
    intro x ex z
    refine gp_go od_Rf_next0 rfl ?_
    (repeat refine gp_gc [0, 76, 126] od_Rf_next0 rfl rfl ?_)
    exact h x ex
  have k289 : ∀ z : Int32, z = (if gx_sg c then 1 else 0) → gp_Go l G (d + 8) m_Rf_next0 K 289 [some (.ref 95), some (.int (nI c)), none] [.int z] (gv (gn w p t s v) u q) 0 0 := by
    intro z ez
    by_cases g : gx_sg c = true
    · rw [if_pos g] at ez k303
      have hc : gx_rt c = 100 + c := by
        unfold gx_sg at g
        rcases of_decide_eq_true g with rfl | rfl | rfl | rfl | rfl | rfl | rfl | rfl | rfl | rfl <;> decide
      refine gp_go od_Rf_next0 rfl ?_
      (repeat refine gp_gc [303] od_Rf_next0 rfl rfl ?_)
      refine gb1_eq_f (by rw [ez]; decide) ?_
      (repeat refine gp_gc [303] od_Rf_next0 rfl rfl ?_)
      exact k303 _ (show nI 100 + nI c = _ by rw [hc, nI_add]) z
    · rw [if_neg g] at ez k303
      refine gp_go od_Rf_next0 rfl ?_
      (repeat refine gp_gc [303] od_Rf_next0 rfl rfl ?_)
      refine gb1_eq_t ez ?_
      (repeat refine gp_gc [303] od_Rf_next0 rfl rfl ?_)
      exact k303 _ (by decide) z
  refine gp_go od_Rf_next0 rfl ?_
  (repeat refine gp_gc [289] od_Rf_next0 rfl rfl ?_)
  by_cases c0 : c = 59
  · refine gb_eq_t (show nI c = nI 59 by rw [c0]) ?_
    (repeat refine gp_gc [289] od_Rf_next0 rfl rfl ?_)
    exact k289 1 (by rw [c0]; decide)
  refine gb_eq_f (fun z => c0 ((nI_eq (b := 59) (by omega) (by decide)).mp z)) ?_
  (repeat refine gp_gc [289] od_Rf_next0 rfl rfl ?_)
  by_cases c1 : c = 43
  · refine gb_eq_t (show nI c = nI 43 by rw [c1]) ?_
    (repeat refine gp_gc [289] od_Rf_next0 rfl rfl ?_)
    exact k289 1 (by rw [c1]; decide)
  refine gb_eq_f (fun z => c1 ((nI_eq (b := 43) (by omega) (by decide)).mp z)) ?_
  (repeat refine gp_gc [289] od_Rf_next0 rfl rfl ?_)
  by_cases c2 : c = 45
  · refine gb_eq_t (show nI c = nI 45 by rw [c2]) ?_
    (repeat refine gp_gc [289] od_Rf_next0 rfl rfl ?_)
    exact k289 1 (by rw [c2]; decide)
  refine gb_eq_f (fun z => c2 ((nI_eq (b := 45) (by omega) (by decide)).mp z)) ?_
  (repeat refine gp_gc [289] od_Rf_next0 rfl rfl ?_)
  by_cases c3 : c = 42
  · refine gb_eq_t (show nI c = nI 42 by rw [c3]) ?_
    (repeat refine gp_gc [289] od_Rf_next0 rfl rfl ?_)
    exact k289 1 (by rw [c3]; decide)
  refine gb_eq_f (fun z => c3 ((nI_eq (b := 42) (by omega) (by decide)).mp z)) ?_
  (repeat refine gp_gc [289] od_Rf_next0 rfl rfl ?_)
  by_cases c4 : c = 47
  · refine gb_eq_t (show nI c = nI 47 by rw [c4]) ?_
    (repeat refine gp_gc [289] od_Rf_next0 rfl rfl ?_)
    exact k289 1 (by rw [c4]; decide)
  refine gb_eq_f (fun z => c4 ((nI_eq (b := 47) (by omega) (by decide)).mp z)) ?_
  (repeat refine gp_gc [289] od_Rf_next0 rfl rfl ?_)
  by_cases c5 : c = 40
  · refine gb_eq_t (show nI c = nI 40 by rw [c5]) ?_
    (repeat refine gp_gc [289] od_Rf_next0 rfl rfl ?_)
    exact k289 1 (by rw [c5]; decide)
  refine gb_eq_f (fun z => c5 ((nI_eq (b := 40) (by omega) (by decide)).mp z)) ?_
  (repeat refine gp_gc [289] od_Rf_next0 rfl rfl ?_)
  by_cases c6 : c = 41
  · refine gb_eq_t (show nI c = nI 41 by rw [c6]) ?_
    (repeat refine gp_gc [289] od_Rf_next0 rfl rfl ?_)
    exact k289 1 (by rw [c6]; decide)
  refine gb_eq_f (fun z => c6 ((nI_eq (b := 41) (by omega) (by decide)).mp z)) ?_
  (repeat refine gp_gc [289] od_Rf_next0 rfl rfl ?_)
  by_cases c7 : c = 60
  · refine gb_eq_t (show nI c = nI 60 by rw [c7]) ?_
    (repeat refine gp_gc [289] od_Rf_next0 rfl rfl ?_)
    exact k289 1 (by rw [c7]; decide)
  refine gb_eq_f (fun z => c7 ((nI_eq (b := 60) (by omega) (by decide)).mp z)) ?_
  (repeat refine gp_gc [289] od_Rf_next0 rfl rfl ?_)
  by_cases c8 : c = 61
  · refine gb_eq_t (show nI c = nI 61 by rw [c8]) ?_
    (repeat refine gp_gc [289] od_Rf_next0 rfl rfl ?_)
    exact k289 1 (by rw [c8]; decide)
  refine gb_eq_f (fun z => c8 ((nI_eq (b := 61) (by omega) (by decide)).mp z)) ?_
  (repeat refine gp_gc [289] od_Rf_next0 rfl rfl ?_)
  by_cases c9 : c = 62
  · refine gb_ne_f (show nI c = nI 62 by rw [c9]) ?_
    (repeat refine gp_gc [289] od_Rf_next0 rfl rfl ?_)
    exact k289 1 (by rw [c9]; decide)
  refine gb_ne_t (fun z => c9 ((nI_eq (b := 62) (by omega) (by decide)).mp z)) ?_
  (repeat refine gp_gc [289] od_Rf_next0 rfl rfl ?_)
  refine k289 0 (if_neg (fun g => ?_)).symm
  unfold gx_sg at g
  rcases of_decide_eq_true g with g | g | g | g | g | g | g | g | g | g
  · exact c0 g
  · exact c1 g
  · exact c2 g
  · exact c3 g
  · exact c4 g
  · exact c5 g
  · exact c6 g
  · exact c7 g
  · exact c8 g
  · exact c9 g
end
end

end
