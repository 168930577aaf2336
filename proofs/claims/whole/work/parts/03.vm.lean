/-! ===== a small machine over numbered cells: its states, its steps ===== -/
abbrev gp_E : Type := (Nat × vp_A) ⊕ (Nat × List Value)
abbrev gp_H : Type := List gp_E
/-- the address of cell 0; classes and slots; the class of each kind of array; the addresses of String constants -/
abbrev gp_G : Type := Nat × va_G × (Nat → ClassId) × (Nat → Nat)
def gp_mv (G : gp_G) : Value → Value
  | .ref a => .ref (G.1 + a)
  | .retAddr i => .ref (G.2.2.2 i)
  | .int x => .int x
  | .long x => .long x
  | .float x => .float x
  | .double x => .double x
  | .null => .null
def gp_ce (G : gp_G) : gp_E → va_E
  | .inl (t, n, .inl f) => .inl (G.2.2.1 t, n, .inl f)
  | .inl (t, n, .inr (.inl f)) => .inl (G.2.2.1 t, n, .inr (.inl f))
  | .inl (t, n, .inr (.inr (.inl f))) => .inl (G.2.2.1 t, n, .inr (.inr (.inl f)))
  | .inl (t, n, .inr (.inr (.inr (.inl f)))) => .inl (G.2.2.1 t, n, .inr (.inr (.inr (.inl f))))
  | .inl (t, n, .inr (.inr (.inr (.inr f)))) => .inl (G.2.2.1 t, n, .inr (.inr (.inr (.inr (fun j => (f j).map (fun a => G.1 + a))))))
  | .inr (c, fs) => .inr (c, fs.map (gp_mv G))
def gp_cc (G : gp_G) (V : gp_H) : va_W := V.mapIdx (fun k e => (G.1 + k, gp_ce G e))
def gp_tl (G : gp_G) : List (ClassId × FieldType) := [(G.2.2.1 0, .int), (G.2.2.1 1, .byte), (G.2.2.1 2, .boolean), (G.2.2.1 3, .long), (G.2.2.1 4, .object "GoldPlate$Mark"), (G.2.2.1 5, .object "GoldPlate$Mind")]
def gp_A (G : gp_G) : Nat → Prop := fun q => G.1 ≤ q
theorem gp_cc_at {G : gp_G} {V : gp_H} {k : Nat} {e : gp_E} (h : V[k]? = some e) : (gp_cc G V)[k]? = some (G.1 + k, gp_ce G e) := by
  simp [gp_cc, h]
theorem gp_cc_len (G : gp_G) (V : gp_H) : (gp_cc G V).length = V.length := by simp [gp_cc]
theorem gp_cc_set {G : gp_G} {V : gp_H} {k : Nat} {e : gp_E} : (gp_cc G V).set k (G.1 + k, gp_ce G e) = gp_cc G (V.set k e) := by
  apply List.ext_getElem?
  intro i
  simp only [gp_cc, List.getElem?_set, List.getElem?_mapIdx, List.length_mapIdx]
  by_cases hk : k = i
  · subst hk
    simp only [if_true]
    split <;> simp_all
  · simp [hk]
theorem gp_cc_push {G : gp_G} {V : gp_H} {e : gp_E} : gp_cc G V ++ [(G.1 + V.length, gp_ce G e)] = gp_cc G (V ++ [e]) := by
  simp [gp_cc, List.mapIdx_append]
theorem gp_cc_D (G : gp_G) (V : gp_H) : va_D (gp_A G) (gp_cc G V) := by
  have key : ∀ (k : Nat) (q : Nat × va_E), (gp_cc G V)[k]? = some q → q.1 = G.1 + k := by
    intro k q h
    simp only [gp_cc, List.getElem?_mapIdx, Option.map_eq_some_iff] at h
    obtain ⟨e, -, rfl⟩ := h
    rfl
  refine ⟨fun i j p q hi hj e => ?_, fun k q hk => ?_⟩
  · rw [key i p hi, key j q hj] at e
    omega
  · show G.1 ≤ q.1
    rw [key k q hk]
    omega
/-! locals -/
def gp_gl : List (Option Value) → Nat → Option Value
  | [], _ => none
  | v :: _, 0 => v
  | _ :: t, n + 1 => gp_gl t n
def gp_k1 : Option Value → Option Value
  | some (.long _) => none
  | some (.double _) => none
  | x => x
def gp_s1 : List (Option Value) → Nat → Value → List (Option Value)
  | [], _, _ => []
  | _ :: t, 0, v => some v :: t
  | a :: t, 1, v => gp_k1 a :: gp_s1 t 0 v
  | a :: t, n + 2, v => a :: gp_s1 t (n + 1) v
def gp_s2 : List (Option Value) → Nat → Value → List (Option Value)
  | [], _, _ => []
  | [_], 0, _ => [none]
  | _ :: _ :: t, 0, v => some v :: none :: t
  | a :: t, 1, v => gp_k1 a :: gp_s2 t 0 v
  | a :: t, n + 2, v => a :: gp_s2 t (n + 1) v
def gp_lt : List (Option Value) → Nat → Bool
  | [], _ => false
  | _ :: _, 0 => true
  | _ :: t, n + 1 => gp_lt t n
theorem gp_lt_e : ∀ {ls : List (Option Value)} {n : Nat}, gp_lt ls n = true → n < ls.length
  | [], _, h => by simp [gp_lt] at h
  | _ :: _, 0, _ => by simp
  | _ :: t, n + 1, h => by
    have := gp_lt_e (ls := t) (n := n) h
    simp; omega
theorem gp_k1_e {a : Option Value} {w : Value} (h : gp_k1 a = some w) : a = some w ∧ w.category = 1 := by
  unfold gp_k1 at h
  split at h
  · cases h
  · cases h
  · rename_i x h1 h2
    subst h
    refine ⟨rfl, ?_⟩
    cases w <;> first | rfl | exact absurd rfl (h1 _) | exact absurd rfl (h2 _)
theorem gp_s1_e : ∀ {ls : List (Option Value)} {i : Nat} {v w : Value} {j : Nat}, gp_gl (gp_s1 ls i v) j = some w → (j = i ∧ w = v) ∨ (j ≠ i ∧ gp_gl ls j = some w ∧ (j + 1 = i → w.category = 1))
  | [], i, v, w, j, h => by simp [gp_s1, gp_gl] at h
  | _ :: t, 0, v, w, 0, h => by
    simp only [gp_s1, gp_gl, Option.some.injEq] at h
    exact Or.inl ⟨rfl, h.symm⟩
  | _ :: t, 0, v, w, j + 1, h => Or.inr ⟨by omega, h, fun e => by omega⟩
  | a :: t, 1, v, w, 0, h => by
    simp only [gp_s1, gp_gl] at h
    obtain ⟨h1, h2⟩ := gp_k1_e h
    exact Or.inr ⟨by omega, h1, fun _ => h2⟩
  | a :: t, 1, v, w, j + 1, h => by
    simp only [gp_s1, gp_gl] at h
    rcases gp_s1_e (ls := t) (i := 0) h with ⟨h1, h2⟩ | ⟨h1, h2, h3⟩
    · exact Or.inl ⟨by omega, h2⟩
    · exact Or.inr ⟨by omega, h2, fun e => by omega⟩
  | a :: t, n + 2, v, w, 0, h => Or.inr ⟨by omega, h, fun e => by omega⟩
  | a :: t, n + 2, v, w, j + 1, h => by
    simp only [gp_s1, gp_gl] at h
    rcases gp_s1_e (ls := t) (i := n + 1) h with ⟨h1, h2⟩ | ⟨h1, h2, h3⟩
    · exact Or.inl ⟨by omega, h2⟩
    · exact Or.inr ⟨by omega, h2, fun e => h3 (by omega)⟩
theorem gp_s2_e : ∀ {ls : List (Option Value)} {i : Nat} {v w : Value} {j : Nat}, gp_gl (gp_s2 ls i v) j = some w → (j = i ∧ w = v) ∨ (j ≠ i ∧ j ≠ i + 1 ∧ gp_gl ls j = some w ∧ (j + 1 = i → w.category = 1))
  | [], i, v, w, j, h => by simp [gp_s2, gp_gl] at h
  | [a], 0, v, w, 0, h => by simp [gp_s2, gp_gl] at h
  | [a], 0, v, w, j + 1, h => by simp [gp_s2, gp_gl] at h
  | _ :: _ :: t, 0, v, w, 0, h => by
    simp only [gp_s2, gp_gl, Option.some.injEq] at h
    exact Or.inl ⟨rfl, h.symm⟩
  | _ :: _ :: t, 0, v, w, 1, h => by simp [gp_s2, gp_gl] at h
  | _ :: _ :: t, 0, v, w, j + 2, h => Or.inr ⟨by omega, by omega, h, fun e => by omega⟩
  | a :: t, 1, v, w, 0, h => by
    have h : gp_k1 a = some w := by
      cases t <;> simpa only [gp_s2, gp_gl] using h
    obtain ⟨h1, h2⟩ := gp_k1_e h
    exact Or.inr ⟨by omega, by omega, h1, fun _ => h2⟩
  | a :: t, 1, v, w, j + 1, h => by
    have h : gp_gl (gp_s2 t 0 v) j = some w := by
      cases t <;> simpa only [gp_s2, gp_gl] using h
    rcases gp_s2_e (ls := t) (i := 0) h with ⟨h1, h2⟩ | ⟨h1, h1', h2, h3⟩
    · exact Or.inl ⟨by omega, h2⟩
    · exact Or.inr ⟨by omega, by omega, h2, fun e => by omega⟩
  | a :: t, n + 2, v, w, 0, h => by
    have h : a = some w := by cases t <;> simpa only [gp_s2, gp_gl] using h
    exact Or.inr ⟨by omega, by omega, h, fun e => by omega⟩
  | a :: t, n + 2, v, w, j + 1, h => by
    have h : gp_gl (gp_s2 t (n + 1) v) j = some w := by
      cases t <;> simpa only [gp_s2, gp_gl] using h
    rcases gp_s2_e (ls := t) (i := n + 1) h with ⟨h1, h2⟩ | ⟨h1, h1', h2, h3⟩
    · exact Or.inl ⟨by omega, h2⟩
    · exact Or.inr ⟨by omega, by omega, h2, fun e => h3 (by omega)⟩
theorem gp_s1_len : ∀ (ls : List (Option Value)) (i : Nat) (v : Value), (gp_s1 ls i v).length = ls.length
  | [], _, _ => rfl
  | _ :: t, 0, v => rfl
  | a :: t, 1, v => by simp only [gp_s1, List.length_cons, gp_s1_len t 0 v]
  | a :: t, n + 2, v => by simp only [gp_s1, List.length_cons, gp_s1_len t (n + 1) v]
theorem gp_s2_len : ∀ (ls : List (Option Value)) (i : Nat) (v : Value), (gp_s2 ls i v).length = ls.length
  | [], _, _ => by simp [gp_s2]
  | [_], 0, _ => by simp [gp_s2]
  | _ :: _ :: t, 0, v => by simp [gp_s2]
  | a :: t, 1, v => by
    have e : gp_s2 (a :: t) 1 v = gp_k1 a :: gp_s2 t 0 v := by cases t <;> rfl
    rw [e, List.length_cons, List.length_cons, gp_s2_len t 0 v]
  | a :: t, n + 2, v => by
    have e : gp_s2 (a :: t) (n + 2) v = a :: gp_s2 t (n + 1) v := by cases t <;> rfl
    rw [e, List.length_cons, List.length_cons, gp_s2_len t (n + 1) v]
theorem gp_mv_cat (G : gp_G) (v : Value) : (gp_mv G v).category = v.category := by cases v <;> rfl
/-- the machine's locals hold ours -/
def gp_lr (G : gp_G) (la : Array Slot) (nL : Nat) (ls : List (Option Value)) : Prop := la.size = nL ∧ lv_wf la ∧ ls.length = nL ∧ ∀ (i : Nat) (v : Value), gp_gl ls i = some v → la[i]? = some (.val (gp_mv G v))
def gp_pl (G : gp_G) (nL : Nat) (ls : List (Option Value)) : List (Nat × Value) := (List.range nL).filterMap (fun i => (gp_gl ls i).map (fun v => (i, gp_mv G v)))
theorem gp_pl_mem {G : gp_G} {nL : Nat} {ls : List (Option Value)} {i : Nat} {v : Value} (hi : i < nL) (h : gp_gl ls i = some v) : (i, gp_mv G v) ∈ gp_pl G nL ls := by
  unfold gp_pl
  rw [List.mem_filterMap]
  exact ⟨i, List.mem_range.mpr hi, by simp [h]⟩
theorem gp_lr.has {G : gp_G} {la : Array Slot} {nL : Nat} {ls : List (Option Value)} (h : gp_lr G la nL ls) : lv_has la nL (gp_pl G nL ls) := by
  refine ⟨h.1, h.2.1, fun q hq => ?_⟩
  unfold gp_pl at hq
  rw [List.mem_filterMap] at hq
  obtain ⟨i, -, hi⟩ := hq
  rw [Option.map_eq_some_iff] at hi
  obtain ⟨v, h1, rfl⟩ := hi
  exact h.2.2.2 i v h1
theorem gp_lr.st1 {G : gp_G} {la la' : Array Slot} {nL : Nat} {ls : List (Option Value)} {i : Nat} {v : Value} (h : gp_lr G la nL ls) (h' : lv_has la' nL ((i, gp_mv G v) :: (gp_pl G nL ls).filter (fun q => !(q.1 == i) && !(q.1 + 1 == i && q.2.category == 2)))) : gp_lr G la' nL (gp_s1 ls i v) := by
  refine ⟨h'.1, h'.2.1, by rw [gp_s1_len]; exact h.2.2.1, fun j w hw => ?_⟩
  rcases gp_s1_e hw with ⟨rfl, rfl⟩ | ⟨h1, h2, h3⟩
  · exact h'.2.2 (j, gp_mv G w) List.mem_cons_self
  · have hj : j < nL := by
      have := lv_lt (h.2.2.2 j w h2)
      rw [h.1] at this; exact this
    refine h'.2.2 (j, gp_mv G w) (List.mem_cons_of_mem _ (List.mem_filter.mpr ⟨gp_pl_mem hj h2, ?_⟩))
    simp only [gp_mv_cat, Bool.and_eq_true, Bool.not_eq_true', beq_eq_false_iff_ne, ne_eq, Bool.and_eq_false_iff]
    refine ⟨h1, ?_⟩
    by_cases e : j + 1 = i
    · right; rw [h3 e]; decide
    · left; exact e
theorem gp_lr.st2 {G : gp_G} {la la' : Array Slot} {nL : Nat} {ls : List (Option Value)} {i : Nat} {v : Value} (h : gp_lr G la nL ls) (h' : lv_has la' nL ((i, gp_mv G v) :: (gp_pl G nL ls).filter (fun q => !(q.1 == i) && (!(q.1 == i + 1) && !(q.1 + 1 == i && q.2.category == 2))))) : gp_lr G la' nL (gp_s2 ls i v) := by
  refine ⟨h'.1, h'.2.1, by rw [gp_s2_len]; exact h.2.2.1, fun j w hw => ?_⟩
  rcases gp_s2_e hw with ⟨rfl, rfl⟩ | ⟨h1, h1', h2, h3⟩
  · exact h'.2.2 (j, gp_mv G w) List.mem_cons_self
  · have hj : j < nL := by
      have := lv_lt (h.2.2.2 j w h2)
      rw [h.1] at this; exact this
    refine h'.2.2 (j, gp_mv G w) (List.mem_cons_of_mem _ (List.mem_filter.mpr ⟨gp_pl_mem hj h2, ?_⟩))
    simp only [gp_mv_cat, Bool.and_eq_true, Bool.not_eq_true', beq_eq_false_iff_ne, ne_eq, Bool.and_eq_false_iff]
    refine ⟨h1, h1', ?_⟩
    by_cases e : j + 1 = i
    · right; rw [h3 e]; decide
    · left; exact e
