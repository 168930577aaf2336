section
variable {l : Launch} {G : gp_G} {d : Nat} {w : Nat → Nat → Int32} {u : Int64 × (Nat → Int64)} {q : Nat → Nat} {K : Option Value → gp_H → Prop}
/-! ===== String constants ===== -/
theorem gp_25 {i : Nat} (h : i < 25) : i = 0 ∨ i = 1 ∨ i = 2 ∨ i = 3 ∨ i = 4 ∨ i = 5 ∨ i = 6 ∨ i = 7 ∨ i = 8 ∨ i = 9 ∨ i = 10 ∨ i = 11 ∨ i = 12 ∨ i = 13 ∨ i = 14 ∨ i = 15 ∨ i = 16 ∨ i = 17 ∨ i = 18 ∨ i = 19 ∨ i = 20 ∨ i = 21 ∨ i = 22 ∨ i = 23 ∨ i = 24 := by omega
def gp_sl1 (i : Nat) : Nat := gp_sn.getD i 0
def gp_sc (i j : Nat) : Int32 := (gp_sb.getD i []).getD j 0
set_option maxRecDepth 100000 in
theorem sp_Js_coder {V : gp_H} {i : Nat} (hi : i < 25) (h : K (some (.int 0)) V) : gp_Cal l G d m_Js_coder [.retAddr i] V K := by
  rcases gp_25 hi with rfl | rfl | rfl | rfl | rfl | rfl | rfl | rfl | rfl | rfl | rfl | rfl | rfl | rfl | rfl | rfl | rfl | rfl | rfl | rfl | rfl | rfl | rfl | rfl | rfl
  all_goals
    refine gp_enter od_Js_coder rfl ?_
    (repeat refine gp_gc [] od_Js_coder rfl rfl ?_)
    refine gb1_eq_f (by decide) ?_
    (repeat refine gp_gc [] od_Js_coder rfl rfl ?_)
    exact And.intro rfl h
set_option maxRecDepth 100000 in
theorem sp_Js_isLatin1 {V : gp_H} {i : Nat} (hi : i < 25) (h : K (some (.int 1)) V) : gp_Cal l G d m_Js_isLatin1 [.retAddr i] V K := by
  rcases gp_25 hi with rfl | rfl | rfl | rfl | rfl | rfl | rfl | rfl | rfl | rfl | rfl | rfl | rfl | rfl | rfl | rfl | rfl | rfl | rfl | rfl | rfl | rfl | rfl | rfl | rfl
  all_goals
    refine gp_enter od_Js_isLatin1 rfl ?_
    (repeat refine gp_gc [] od_Js_isLatin1 rfl rfl ?_)
    refine gb1_eq_f (by decide) ?_
    (repeat refine gp_gc [] od_Js_isLatin1 rfl rfl ?_)
    refine gb1_ne_f rfl ?_
    (repeat refine gp_gc [] od_Js_isLatin1 rfl rfl ?_)
    exact And.intro (Or.inr rfl) h
set_option maxRecDepth 100000 in
theorem sp_Js_length {V : gp_H} {i : Nat} (hi : i < 25) (h : K (some (.int (nI (gp_sl1 i)))) V) : gp_Cal l G (d + 1) m_Js_length [.retAddr i] V K := by
  rcases gp_25 hi with rfl | rfl | rfl | rfl | rfl | rfl | rfl | rfl | rfl | rfl | rfl | rfl | rfl | rfl | rfl | rfl | rfl | rfl | rfl | rfl | rfl | rfl | rfl | rfl | rfl
  all_goals
    refine gp_enter od_Js_length rfl ?_
    (repeat refine gp_gc [] od_Js_length rfl rfl ?_)
    refine sp_Js_coder (d := d) (by decide) ?_
    (repeat refine gp_gc [] od_Js_length rfl rfl ?_)
    exact h
set_option maxRecDepth 100000 in
theorem sp_Jp_checkIndex {V : gp_H} {x n : Int32} {v : Value} (hv : v = .null ∨ v = .retAddr 2000) (h0 : 0 ≤ x) (h1 : x < n) (h : K (some (.int x)) V) : gp_Cal l G d m_Jp_checkIndex [.int x, .int n, v] V K := by
  rcases hv with rfl | rfl
  all_goals
    refine gp_enter od_Jp_checkIndex rfl ?_
    (repeat refine gp_gc [] od_Jp_checkIndex rfl rfl ?_)
    refine gb1_lt_f' h0 ?_
    (repeat refine gp_gc [] od_Jp_checkIndex rfl rfl ?_)
    refine gb_lt_t h1 ?_
    (repeat refine gp_gc [] od_Jp_checkIndex rfl rfl ?_)
    exact h
set_option maxRecDepth 100000 in
theorem sp_Js_checkIndex {V : gp_H} {x n : Int32} (h0 : 0 ≤ x) (h1 : x < n) (h : K none V) : gp_Cal l G (d + 1) m_Js_checkIndex [.int x, .int n] V K := by
  refine gp_enter od_Js_checkIndex rfl ?_
  (repeat refine gp_gc [] od_Js_checkIndex rfl rfl ?_)
  refine And.intro ?_ ?_
  · (repeat refine gp_gc [] od_Js_checkIndex rfl rfl ?_)
    refine sp_Jp_checkIndex (d := d) (Or.inl rfl) h0 h1 ?_
    (repeat refine gp_gc [] od_Js_checkIndex rfl rfl ?_)
    exact h
  · (repeat refine gp_gc [] od_Js_checkIndex rfl rfl ?_)
    refine sp_Jp_checkIndex (d := d) (Or.inr rfl) h0 h1 ?_
    (repeat refine gp_gc [] od_Js_checkIndex rfl rfl ?_)
    exact h
theorem gp_sc_e : ∀ i, i < 25 → ∀ j, j < gp_sl1 i → ((gp_sB (1000 + i) j &&& 255).toUInt32 % 65536).toInt32 = gp_sc i j := by decide +kernel
theorem gp_sl1_s : ∀ i, i < 25 → gp_sl1 i < 100 := by decide +kernel
set_option maxRecDepth 100000 in
theorem sp_Jl_charAt {V : gp_H} {i j : Nat} (hi : i < 25) (hj : j < gp_sl1 i) (h : K (some (.int (gp_sc i j))) V) : gp_Cal l G (d + 2) m_Jl_charAt [.retAddr (1000 + i), .int (nI j)] V K := by
  have hs := gp_sl1_s i hi
  have e1 := gp_sc_e i hi j hj
  rw [← e1] at h
  have cj : (nI j).toNatClampNeg = j := nI_clamp (by omega)
  have h0 : 0 ≤ nI j := nI_pos' (by omega)
  have h1 : nI j < nI (gp_sl1 i) := nI_lt hj (by omega)
  have iv : vp_in (nI j) (gp_sl1 i) := vp_in_nI hj (by omega)
  have hn := pk_nc (gp_sB (1000 + i) j &&& 255)
  rcases gp_25 hi with rfl | rfl | rfl | rfl | rfl | rfl | rfl | rfl | rfl | rfl | rfl | rfl | rfl | rfl | rfl | rfl | rfl | rfl | rfl | rfl | rfl | rfl | rfl | rfl | rfl
  all_goals
    refine gp_enter od_Jl_charAt rfl ?_
    (repeat refine gp_gc [] od_Jl_charAt rfl rfl ?_)
    refine sp_Js_checkIndex (d := d) h0 h1 ?_
    (repeat refine gp_gc [] od_Jl_charAt rfl rfl ?_)
    refine And.intro iv ?_
    (repeat refine gp_gc [] od_Jl_charAt rfl rfl ?_)
    rw [cj]
    exact And.intro hn h
set_option maxRecDepth 100000 in
theorem sp_Js_charAt {V : gp_H} {i j : Nat} (hi : i < 25) (hj : j < gp_sl1 i) (h : K (some (.int (gp_sc i j))) V) : gp_Cal l G (d + 3) m_Js_charAt [.retAddr i, .int (nI j)] V K := by
  have hn : narrow .char (.int (gp_sc i j)) = .int (gp_sc i j) := by
    rw [← gp_sc_e i hi j hj]
    exact pk_nc _
  rcases gp_25 hi with rfl | rfl | rfl | rfl | rfl | rfl | rfl | rfl | rfl | rfl | rfl | rfl | rfl | rfl | rfl | rfl | rfl | rfl | rfl | rfl | rfl | rfl | rfl | rfl | rfl
  all_goals
    refine gp_enter od_Js_charAt rfl ?_
    (repeat refine gp_gc [] od_Js_charAt rfl rfl ?_)
    refine sp_Js_isLatin1 (d := d + 2) (by decide) ?_
    (repeat refine gp_gc [] od_Js_charAt rfl rfl ?_)
    refine gb1_eq_f (by decide) ?_
    (repeat refine gp_gc [] od_Js_charAt rfl rfl ?_)
    refine sp_Jl_charAt (d := d) (by decide) hj ?_
    (repeat refine gp_gc [] od_Js_charAt rfl rfl ?_)
    exact And.intro hn h

end
