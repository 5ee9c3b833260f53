/-! the words of the tables that every call carries on -/
def jd_tb : List Cond := lw_tbl.filter goodWord
theorem jd_tm {w : Cond} (i : Nat) (h : lw_tbl[i]? = some w) (g : goodWord w = true) : w ∈ jd_tb := List.mem_filter.mpr ⟨List.mem_of_getElem? h, g⟩
theorem jd_up {C : String} {T : u_T} {N : Nat} (h : ∀ w ∈ u_ws C T N, w ∈ lw_tbl) : ∀ w ∈ u_ws C T N, w ∈ jd_tb := fun w hw => List.mem_filter.mpr ⟨h w hw, by
  obtain ⟨k, -, rfl⟩ := List.mem_map.mp hw
  unfold u_lay
  split <;> rfl⟩
/-! WHAT THE PICTURE h SAYS OF THE MACHINE'S HEAP -/
def jd_tys (cy : Nat → ClassId) : List (ClassId × FieldType) := [(cy 0, .int), (cy 1, .long), (cy 2, .boolean), (cy 3, .object "java/lang/Object"), (cy 4, .array .int)]
def jd_cl (k : Nat) : vw_C := vwCl.getD (k - 1) (RX0, TX0, 12)
def jd_isR (f : Nat) : Bool := !(((jd_cl (f / 64)).2.1 (f % 64)).2.2.1 == "I" || ((jd_cl (f / 64)).2.1 (f % 64)).2.2.1 == "Z")
def jd_val (h : jd_H) (f a : Nat) : Value := if jd_isR f then va_rf (zR h f a) else .int (zI h f a)
def jd_fs (h : jd_H) (k a : Nat) : List Value := (List.range (jd_cl k).2.2).map (fun j => jd_val h (64 * k + j) a)
def jd_cell (cy : Nat → ClassId) (h : jd_H) (a : Nat) : va_E :=
  if zK h a ≤ 9 then .inr (zK h a - 1, jd_fs h (zK h a) a)
  else if zK h a = 10 then .inl (cy 0, zL h a, .inl (zA h a))
  else if zK h a = 11 then .inl (cy 1, zL h a, .inr (.inl (zJ h a)))
  else if zK h a = 12 then .inl (cy 2, zL h a, .inl (zA h a))
  else if zK h a = 13 then .inl (cy 3, zL h a, .inr (.inr (.inr (.inr (zO h a)))))
  else .inl (cy 4, zL h a, .inr (.inr (.inr (.inr (zO h a)))))
def jd_Rp (D : va_G) (cy : Nat → ClassId) (B0 : Nat) (h : jd_H) (H : Heap) : Prop := ∃ L : List Nat, (∀ a, 1 ≤ zK h a → zK h a ≤ 14 → a ∈ L) ∧ va_P D vwCl (va_pl L (jd_cell cy h)) H ∧ va_D (fun q => B0 ≤ q) (va_pl L (jd_cell cy h)) ∧ ∀ a, zK h a ≤ 16
/-- what lies below B0, where nothing is written: ArrayList's empty array, the script -/
def jd_Ou (B0 de : Nat) (U : State) (h : jd_H) : Prop := de < B0 ∧ B0 ≤ U.heap.size ∧ (∃ cell : Cell, U.heap[de]? = some cell ∧ U.isArrayOf cell (.object "java/lang/Object") ∧ cell.slots.size = 0) ∧ (∀ a, zK h a = 15 ↔ a = de) ∧ zL h de = 0 ∧ ∀ a, zK h a = 16 → a < B0 ∧ va_X a (zL h a) (zA h a) U U.heap
theorem jd_cell_o {cy : Nat → ClassId} {h : jd_H} {a k : Nat} (hk : zK h a = k) (h9 : k ≤ 9) : jd_cell cy h a = .inr (k - 1, jd_fs h k a) := by
  subst hk
  simp [jd_cell, h9]
theorem jd_cell_i {cy : Nat → ClassId} {h : jd_H} {a : Nat} (hk : zK h a = 10) : jd_cell cy h a = .inl (cy 0, zL h a, .inl (zA h a)) := by simp [jd_cell, hk]
theorem jd_cell_l {cy : Nat → ClassId} {h : jd_H} {a : Nat} (hk : zK h a = 11) : jd_cell cy h a = .inl (cy 1, zL h a, .inr (.inl (zJ h a))) := by simp [jd_cell, hk]
theorem jd_cell_z {cy : Nat → ClassId} {h : jd_H} {a : Nat} (hk : zK h a = 12) : jd_cell cy h a = .inl (cy 2, zL h a, .inl (zA h a)) := by simp [jd_cell, hk]
theorem jd_cell_q {cy : Nat → ClassId} {h : jd_H} {a : Nat} (hk : zK h a = 13) : jd_cell cy h a = .inl (cy 3, zL h a, .inr (.inr (.inr (.inr (zO h a))))) := by simp [jd_cell, hk]
theorem jd_cell_g {cy : Nat → ClassId} {h : jd_H} {a : Nat} (hk : zK h a = 14) : jd_cell cy h a = .inl (cy 4, zL h a, .inr (.inr (.inr (.inr (zO h a))))) := by simp [jd_cell, hk]
theorem jd_cl_at {k : Nat} (h1 : 1 ≤ k) (h9 : k ≤ 9) : vwCl[k - 1]? = some (jd_cl k) := by
  have : k - 1 < vwCl.length := by show k - 1 < 9; omega
  unfold jd_cl
  rw [List.getD_eq_getElem?_getD, List.getElem?_eq_getElem this]
  rfl
/-- the locals that are known -/
def jd_as : Nat → jd_F → List (Nat × Value)
  | _, [] => []
  | i, none :: l => jd_as (i + 1) l
  | i, some v :: l => (i, v) :: jd_as (i + 1) l
theorem jd_as_mem : ∀ (ls : jd_F) (k : Nat) (q : Nat × Value), q ∈ jd_as k ls ↔ ∃ j, q.1 = k + j ∧ ls[j]? = some (some q.2)
  | [], k, q => by simp [jd_as]
  | none :: l, k, q => by
    rw [jd_as, jd_as_mem l (k + 1) q]
    constructor
    · rintro ⟨j, h1, h2⟩
      exact ⟨j + 1, by omega, by simpa using h2⟩
    · rintro ⟨j, h1, h2⟩
      cases j with
      | zero => simp at h2
      | succ j => exact ⟨j, by omega, by simpa using h2⟩
  | some v :: l, k, q => by
    rw [jd_as, List.mem_cons, jd_as_mem l (k + 1) q]
    constructor
    · rintro (h | ⟨j, h1, h2⟩)
      · subst h
        exact ⟨0, rfl, rfl⟩
      · exact ⟨j + 1, by omega, by simpa using h2⟩
    · rintro ⟨j, h1, h2⟩
      cases j with
      | zero =>
        simp at h2
        left
        obtain ⟨a, b⟩ := q
        simp at h1 h2
        simp [h1, h2]
      | succ j => exact Or.inr ⟨j, by omega, by simpa using h2⟩
theorem jd_lget {L : Array Slot} {nL n : Nat} {ls : jd_F} {v : Value} (h : lv_has L nL (jd_as 0 ls)) (hn : ls[n]? = some (some v)) : L[n]? = some (.val v) := h.2.2 (n, v) ((jd_as_mem ls 0 (n, v)).mpr ⟨n, by simp, hn⟩)
theorem jd_lset {L : Array Slot} {nL n : Nat} {ls : jd_F} {v : Value} (h : lv_has L nL ((n, v) :: (jd_as 0 ls).filter (fun q => !(q.1 == n) && !(q.1 + 1 == n && q.2.category == 2)))) (hl : jd_nl ls n) (hn : n < ls.length) : lv_has L nL (jd_as 0 (ls.set n (some v))) := by
  refine ⟨h.1, h.2.1, fun q hq => h.2.2 q ?_⟩
  obtain ⟨j, h1, h2⟩ := (jd_as_mem _ _ _).mp hq
  rw [Nat.zero_add] at h1
  by_cases hj : j = n
  · subst hj
    rw [List.getElem?_set_self hn] at h2
    obtain ⟨a, b⟩ := q
    simp at h1 h2
    simp [h1, h2]
  · rw [List.getElem?_set_ne (fun e => hj e.symm)] at h2
    refine List.mem_cons_of_mem _ (List.mem_filter.mpr ⟨(jd_as_mem _ _ _).mpr ⟨j, by omega, h2⟩, ?_⟩)
    have e1 : (q.1 == n) = false := by rw [h1]; simpa using hj
    rw [e1]
    cases hc : (q.1 + 1 == n && q.2.category == 2) with
    | false => rfl
    | true =>
      exfalso
      simp only [Bool.and_eq_true, beq_iff_eq] at hc
      obtain ⟨hc1, hc2⟩ := hc
      rw [h1] at hc1
      subst hc1
      simp only [jd_nl, h2] at hl
      obtain ⟨a, b⟩ := q
      cases b <;> simp_all [Value.category]
theorem jd_lset2 {L : Array Slot} {nL n : Nat} {ls : jd_F} {v : Value} (h : lv_has L nL ((n, v) :: (jd_as 0 ls).filter (fun q => !(q.1 == n) && (!(q.1 == n + 1) && !(q.1 + 1 == n && q.2.category == 2))))) (hl : jd_nl ls n) (hn : n < ls.length) : lv_has L nL (jd_as 0 ((ls.set n (some v)).set (n + 1) none)) := by
  refine ⟨h.1, h.2.1, fun q hq => h.2.2 q ?_⟩
  obtain ⟨j, h1, h2⟩ := (jd_as_mem _ _ _).mp hq
  rw [Nat.zero_add] at h1
  have hj1 : j ≠ n + 1 := fun e => by
    subst e
    rw [List.getElem?_set] at h2
    split at h2
    · split at h2 <;> cases h2
    · omega
  rw [List.getElem?_set_ne (fun e => hj1 e.symm)] at h2
  by_cases hj : j = n
  · subst hj
    rw [List.getElem?_set_self hn] at h2
    obtain ⟨a, b⟩ := q
    simp at h1 h2
    simp [h1, h2]
  · rw [List.getElem?_set_ne (fun e => hj e.symm)] at h2
    refine List.mem_cons_of_mem _ (List.mem_filter.mpr ⟨(jd_as_mem _ _ _).mpr ⟨j, by omega, h2⟩, ?_⟩)
    have e1 : (q.1 == n) = false := by rw [h1]; simpa using hj
    have e2 : (q.1 == n + 1) = false := by rw [h1]; simpa using hj1
    rw [e1, e2]
    cases hc : (q.1 + 1 == n && q.2.category == 2) with
    | false => rfl
    | true =>
      exfalso
      simp only [Bool.and_eq_true, beq_iff_eq] at hc
      obtain ⟨hc1, hc2⟩ := hc
      rw [h1] at hc1
      subst hc1
      simp only [jd_nl, h2] at hl
      obtain ⟨a, b⟩ := q
      cases b <;> simp_all [Value.category]
theorem jd_cat (st : List Value) (h : st.length ≤ 4) : (st.map fun v => v.category).sum ≤ 8 := by
  have key : ∀ l : List Value, (l.map fun v => v.category).sum ≤ 2 * l.length := by
    intro l
    induction l with
    | nil => simp
    | cons v l ih =>
      simp only [List.map_cons, List.sum_cons, List.length_cons]
      rcases lv_cat v with e | e <;> omega
  have := key st
  omega
