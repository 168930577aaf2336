def gp_ct : List Nat → Nat → Bool
  | [], _ => true
  | a :: t, n => match Nat.beq a n with
    | true => false
    | false => gp_ct t n
/-- a step that stops at the places told -/
theorem gp_gc (ct : List Nat) {l : Launch} {G : gp_G} {d : Nat} {M : gp_M} {K : Option Value → gp_H → Prop} {pc : Nat} {ls : List (Option Value)} {st : List Value} {V : gp_H} {cs ss : Nat} (hok : gp_okd M) {i : Instr} {len : Nat} (_ : gp_ct ct pc = true) (h0 : gp_lk (gp_cd M) pc = some (i, len)) (h : gp_step l G d M K (gp_Go l G d M K) i len pc ls st V cs ss) : gp_Go l G d M K pc ls st V cs ss := gp_go hok h0 h
def gp_it {X : Type} (f : Nat → X → X) : Nat → Nat → X → X
  | _, 0, x => x
  | i, k + 1, x => gp_it f (i + 1) k (f i x)
theorem gp_iter {X : Type} {P : Nat → X → Prop} (f : Nat → X → X) (N : Nat) (step : ∀ i x, i < N → P (i + 1) (f i x) → P i x) : ∀ (k i : Nat) (x : X), i + k = N → P N (gp_it f i k x) → P i x
  | 0, i, x, h, hp => by
    have : i = N := by omega
    subst this
    exact hp
  | k + 1, i, x, h, hp => step i x (by omega) (gp_iter f N step k (i + 1) (f i x) (by omega) hp)
theorem gp_inc {x : Int32} {i : Nat} (h : x = nI i) : x + Int32.ofInt 1 = nI (i + 1) := by
  rw [h, nI_succ]
  rfl
def gf_count (s : Int32) : Int32 := gp_it (fun i n => n + ((s >>> (nI i &&& 31)) &&& 1)) 0 16 0
set_option maxRecDepth 100000 in
theorem sp_Rf_count {l : Launch} {G : gp_G} {d : Nat} {V : gp_H} {s : Int32} {K : Option Value → gp_H → Prop} (h : K (some (.int (gf_count s))) V) : gp_Cal l G d m_Rf_count [.int s] V K := by
  refine gp_enter od_Rf_count rfl ?_
  repeat refine gp_gc [4] od_Rf_count rfl rfl ?_
  refine gp_iter (P := fun i n => ∀ x, x = nI i → gp_Go l G d m_Rf_count K 4 [some (.int s), some (.int n), some (.int x)] [] V 0 0) (fun i n => n + ((s >>> (nI i &&& 31)) &&& 1)) 16 ?_ 16 0 0 rfl ?_ 0 rfl
  · intro i n hi hp x ex
    refine gp_go od_Rf_count rfl ?_
    repeat refine gp_gc [4] od_Rf_count rfl rfl ?_
    refine And.intro (fun c => ?_) (fun c => ?_)
    · rw [ex] at c
      exact absurd c (nI_ge hi (by decide))
    · repeat refine gp_gc [4] od_Rf_count rfl rfl ?_
      rw [ex]
      exact hp _ (gp_inc rfl)
  · intro x ex
    refine gp_go od_Rf_count rfl ?_
    repeat refine gp_gc [4] od_Rf_count rfl rfl ?_
    refine And.intro (fun c => ?_) (fun c => ?_)
    · repeat refine gp_gc [4] od_Rf_count rfl rfl ?_
      exact h
    · rw [ex] at c
      exact absurd (Int32.le_refl _) c
/-! fields of cells at addresses that aren't numbers -/
theorem gs_get {l : Launch} {G : gp_G} {d : Nat} {M : gp_M} {K : Option Value → gp_H → Prop} {k : gp_K} {idx pc : Nat} {ls : List (Option Value)} {r : List Value} {V : gp_H} {cs ss a ci kf t : Nat} {fin : Bool} {fs : List Value} {w : Value} (hV : gp_nth V a = some (.inr (ci, fs))) (hl : gp_lk (gp_fl (gp_o M)) idx = some (ci, kf, t, fin)) (hf : gp_nth fs kf = some w) (h : k (pc + 3) ls (w :: r) V cs ss) : gp_step l G d M K k (.getfield idx) 3 pc ls (.ref a :: r) V cs ss := by
  simp only [gp_step, gp_ln, gp_pA, gp_row, hl, gp_ob, hV, Nat.beq_refl, hf]
  exact h
theorem gs_put {l : Launch} {G : gp_G} {d : Nat} {M : gp_M} {K : Option Value → gp_H → Prop} {k : gp_K} {idx pc : Nat} {ls : List (Option Value)} {r : List Value} {V : gp_H} {cs ss a ci kf : Nat} {fs : List Value} {x : Int32} (hV : gp_nth V a = some (.inr (ci, fs))) (hl : gp_lk (gp_fl (gp_o M)) idx = some (ci, kf, 0, false)) (hf : Nat.blt kf fs.length = true) (h : k (pc + 3) ls r (V.set a (.inr (ci, fs.set kf (.int x)))) cs ss) : gp_step l G d M K k (.putfield idx) 3 pc ls (.int x :: .ref a :: r) V cs ss := by
  simp only [gp_step, gp_ln, gp_row, hl, gp_ob, hV, Nat.beq_refl, hf, gp_bt, gp_pv]
  exact h
theorem gs_ald {l : Launch} {G : gp_G} {d : Nat} {M : gp_M} {K : Option Value → gp_H → Prop} {k : gp_K} {pc : Nat} {ls : List (Option Value)} {r : List Value} {V : gp_H} {cs ss a n : Nat} {f : Nat → Int32} {j : Int32} (hV : gp_nth V a = some (.inl (0, n, .inl f))) (hj : vp_in j n) (h : k (pc + 1) ls (.int (f j.toNatClampNeg) :: r) V cs ss) : gp_step l G d M K k .iaload 1 pc ls (.int j :: .ref a :: r) V cs ss := by
  simp only [gp_step, gp_ln, gp_ai, hV, Nat.beq_refl]
  exact ⟨hj, h⟩
theorem gs_ast {l : Launch} {G : gp_G} {d : Nat} {M : gp_M} {K : Option Value → gp_H → Prop} {k : gp_K} {pc : Nat} {ls : List (Option Value)} {r : List Value} {V : gp_H} {cs ss a n : Nat} {f : Nat → Int32} {j x : Int32} (hV : gp_nth V a = some (.inl (0, n, .inl f))) (hj : vp_in j n) (h : k (pc + 1) ls r (V.set a (.inl (0, n, .inl (upd f j.toNatClampNeg x)))) cs ss) : gp_step l G d M K k .iastore 1 pc ls (.int x :: .int j :: .ref a :: r) V cs ss := by
  simp only [gp_step, gp_ln, gp_ai, hV, Nat.beq_refl]
  exact ⟨hj, h⟩
theorem gp_in_of {x M : Int32} {n : Nat} (hM : M.toInt = (n : Int)) (h0 : 0 ≤ x) (h1 : x ≤ M) : vp_in x (n + 1) := by
  rw [vp_in_iff]
  have a : (0 : Int) ≤ x.toInt := by simpa using Int32.le_iff_toInt_le.mp h0
  have b := Int32.le_iff_toInt_le.mp h1
  omega
theorem gp_inK6 {x : Int32} (h0 : 0 ≤ x) (h1 : x ≤ 6) : vp_in x 7 := gp_in_of (n := 6) rfl h0 h1
