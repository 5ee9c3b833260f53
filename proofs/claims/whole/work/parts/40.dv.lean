/-! dividing: what is cut off goes to those of which most was cut off, one unit each -/
theorem pm_le (c : Nat → Int) : ∀ k, pm c k ≤ k
  | 0 => Nat.le_refl 0
  | k + 1 => by
    have := pm_le c k
    unfold pm
    split <;> omega
theorem pm_ge (c : Nat → Int) : ∀ k i, i ≤ k → c i ≤ c (pm c k)
  | 0, i, h => by
    obtain rfl : i = 0 := by omega
    exact Int.le_refl _
  | k + 1, i, h => by
    unfold pm
    by_cases e : i = k + 1
    · subst e
      split
      · exact Int.le_refl _
      · omega
    · have := pm_ge c k i (by omega)
      split
      · omega
      · exact this
theorem pm_cg {c c' : Nat → Int} : ∀ k, (∀ i, i ≤ k → c i = c' i) → pm c k = pm c' k
  | 0, _ => rfl
  | k + 1, h => by
    have e := pm_cg k (fun i hi => h i (by omega))
    unfold pm
    rw [e, h (k + 1) (by omega), h (pm c' k) (by have := pm_le c' k; omega)]
theorem pm_ext (c : Nat → Int) (k : Nat) : ∀ m, (∀ i, k < i → i ≤ k + m → c i ≤ c (pm c k)) → pm c (k + m) = pm c k
  | 0, _ => rfl
  | m + 1, h => by
    have e := pm_ext c k m (fun i h1 h2 => h i h1 (by omega))
    show (if c (pm c (k + m)) < c (k + m + 1) then k + m + 1 else pm c (k + m)) = _
    rw [e, if_neg (by have := h (k + m + 1) (by omega) (by omega); omega)]
theorem sm_add (f g : Nat → Nat) : ∀ n, sm (fun i => f i + g i) n = sm f n + sm g n
  | 0 => rfl
  | n + 1 => by rw [sm, sm, sm, sm_add f g n]; omega
theorem sm_mul (k : Nat) (f : Nat → Nat) : ∀ n, sm (fun i => k * f i) n = k * sm f n
  | 0 => rfl
  | n + 1 => by rw [sm, sm, sm_mul k f n, Nat.mul_add]
theorem sm_ext {f : Nat → Nat} {n : Nat} : ∀ m, (∀ i, n ≤ i → i < n + m → f i = 0) → sm f (n + m) = sm f n
  | 0, _ => rfl
  | m + 1, h => by
    show sm f (n + m) + f (n + m) = _
    rw [sm_ext m (fun i h1 h2 => h i h1 (by omega)), h (n + m) (by omega) (by omega)]
    rfl
theorem sm_b {f : Nat → Nat} {b : Nat} : ∀ n, (∀ i, i < n → f i ≤ b) → sm f n ≤ n * b
  | 0, _ => by rw [sm]; exact Nat.zero_le _
  | n + 1, h => by
    have := sm_b n (fun i hi => h i (by omega))
    have := h n (by omega)
    rw [sm, Nat.succ_mul]
    omega
theorem sm_pos {f : Nat → Nat} : ∀ n, sm f n ≠ 0 → ∃ i, i < n ∧ f i ≠ 0
  | 0, h => absurd rfl h
  | n + 1, h => by
    by_cases e : f n = 0
    · obtain ⟨i, hi, hne⟩ := sm_pos n (fun z => h (by rw [sm, z, e]))
      exact ⟨i, by omega, hne⟩
    · exact ⟨n, by omega, e⟩
section
variable {N S : Nat} {W : Nat → Nat}
/-- what was cut off makes the rest -/
theorem dv_rest (hA : sm W N ≠ 0) : sm W N * (S - sm (fun i => S * W i / sm W N) N) = sm (fun i => S * W i % sm W N) N ∧ sm (fun i => S * W i / sm W N) N ≤ S := by
  have h1 : sm (fun i => sm W N * (S * W i / sm W N) + S * W i % sm W N) N = S * sm W N := by
    rw [← sm_mul]
    exact sm_cg (fun i _ => Nat.div_add_mod _ _)
  rw [sm_add, sm_mul] at h1
  have h2 : sm (fun i => S * W i / sm W N) N ≤ S := by
    refine Nat.le_of_mul_le_mul_left (c := sm W N) ?_ (Nat.pos_of_ne_zero hA)
    rw [Nat.mul_comm (sm W N) S]
    omega
  refine ⟨?_, h2⟩
  rw [Nat.mul_sub, Nat.mul_comm (sm W N) S]
  omega
/-- after r units -/
def dvP (N S : Nat) (W : Nat → Nat) (r : Nat) (t : Nat → Nat) : Prop :=
  (∀ i, (dvI N (fun i => S * W i / sm W N) (fun i => ((S * W i % sm W N : Nat) : Int)) r).1 i = S * W i / sm W N + t i) ∧
  (∀ i, (t i = 0 ∧ (dvI N (fun i => S * W i / sm W N) (fun i => ((S * W i % sm W N : Nat) : Int)) r).2 i = ((S * W i % sm W N : Nat) : Int)) ∨ (t i = 1 ∧ (dvI N (fun i => S * W i / sm W N) (fun i => ((S * W i % sm W N : Nat) : Int)) r).2 i = -1 ∧ 0 < S * W i % sm W N ∧ i < N)) ∧
  sm t N = r
theorem dv_more (hA : sm W N ≠ 0) {r : Nat} {t : Nat → Nat} (hr : r < S - sm (fun i => S * W i / sm W N) N) (hP : dvP N S W r t) : 0 < (dvI N (fun i => S * W i / sm W N) (fun i => ((S * W i % sm W N : Nat) : Int)) r).2 (pm (dvI N (fun i => S * W i / sm W N) (fun i => ((S * W i % sm W N : Nat) : Int)) r).2 (N - 1)) ∧ pm (dvI N (fun i => S * W i / sm W N) (fun i => ((S * W i % sm W N : Nat) : Int)) r).2 (N - 1) < N := by
  have hN : 0 < N := by
    rcases Nat.eq_zero_or_pos N with e | e
    · rw [e] at hA; exact absurd rfl hA
    · exact e
  refine ⟨?_, by have := pm_le (dvI N (fun i => S * W i / sm W N) (fun i => ((S * W i % sm W N : Nat) : Int)) r).2 (N - 1); omega⟩
  obtain ⟨p1, p2, p3⟩ := hP
  obtain ⟨d1, d2⟩ := dv_rest (S := S) hA
  have hex : ∃ i, i < N ∧ 0 < S * W i % sm W N ∧ t i = 0 := by
    apply Classical.byContradiction
    intro hn
    have hb : sm (fun i => S * W i % sm W N) N ≤ sm (fun i => sm W N * t i) N := sm_le (fun i hi => by
      have hlt : S * W i % sm W N < sm W N := Nat.mod_lt _ (Nat.pos_of_ne_zero hA)
      rcases p2 i with ⟨z, -⟩ | ⟨z, -⟩
      · have h0 : ¬ 0 < S * W i % sm W N := fun q => hn ⟨i, hi, q, z⟩
        show S * W i % sm W N ≤ sm W N * t i
        omega
      · show S * W i % sm W N ≤ sm W N * t i
        rw [z, Nat.mul_one]
        omega)
    rw [sm_mul, p3, ← d1] at hb
    have := Nat.le_of_mul_le_mul_left hb (Nat.pos_of_ne_zero hA)
    omega
  obtain ⟨i, hi, h1, h2⟩ := hex
  have h3 : (dvI N (fun i => S * W i / sm W N) (fun i => ((S * W i % sm W N : Nat) : Int)) r).2 i = ((S * W i % sm W N : Nat) : Int) := by
    rcases p2 i with ⟨-, z⟩ | ⟨z, -⟩
    · exact z
    · omega
  have h4 := pm_ge (dvI N (fun i => S * W i / sm W N) (fun i => ((S * W i % sm W N : Nat) : Int)) r).2 (N - 1) i (by omega)
  omega
theorem dv_inv (hA : sm W N ≠ 0) : ∀ r, r ≤ S - sm (fun i => S * W i / sm W N) N → ∃ t, dvP N S W r t
  | 0, _ => ⟨fun _ => 0, fun _ => rfl, fun _ => Or.inl ⟨rfl, rfl⟩, sm_0 (fun _ _ => rfl)⟩
  | r + 1, hr => by
    obtain ⟨t, ht⟩ := dv_inv hA r (by omega)
    obtain ⟨m1, m2⟩ := dv_more hA (by omega) ht
    obtain ⟨p1, p2, p3⟩ := ht
    generalize hp : pm (dvI N (fun i => S * W i / sm W N) (fun i => ((S * W i % sm W N : Nat) : Int)) r).2 (N - 1) = p at m1 m2
    have hp0 : t p = 0 ∧ 0 < S * W p % sm W N := by
      rcases p2 p with ⟨z1, z2⟩ | ⟨z1, z2, -⟩
      · exact ⟨z1, by omega⟩
      · omega
    refine ⟨u1 t p 1, fun i => ?_, fun i => ?_, ?_⟩
    · show u1 _ _ _ i = _
      rw [hp]
      unfold u1
      split
      · next z => rw [p1, hp0.1, z]
      · exact p1 i
    · show (u1 t p 1 i = 0 ∧ u1 _ _ _ i = _) ∨ (u1 t p 1 i = 1 ∧ u1 _ _ _ i = _ ∧ _)
      rw [hp]
      unfold u1
      by_cases z : i = p
      · rw [if_pos z, if_pos z]
        exact Or.inr ⟨rfl, rfl, by rw [z]; exact hp0.2, by omega⟩
      · rw [if_neg z, if_neg z]
        exact p2 i
    · have := sm_up (f := t) (g := u1 t p 1) m2 (fun i _ hne => if_neg hne)
      have e : u1 t p 1 p = 1 := if_pos rfl
      rw [e, hp0.1, p3] at this
      omega
theorem dv_pos (hA : sm W N ≠ 0) : ∃ t, (∀ i, dv N S W i = S * W i / sm W N + t i) ∧ (∀ i, t i = 0 ∨ (t i = 1 ∧ 0 < S * W i % sm W N ∧ i < N)) ∧ sm t N = S - sm (fun i => S * W i / sm W N) N := by
  obtain ⟨t, p1, p2, p3⟩ := dv_inv (S := S) hA _ (Nat.le_refl _)
  refine ⟨t, fun i => ?_, fun i => ?_, p3⟩
  · unfold dv
    rw [if_neg hA]
    exact p1 i
  · rcases p2 i with ⟨z, -⟩ | ⟨z, -, z2⟩
    · exact Or.inl z
    · exact Or.inr ⟨z, z2⟩
theorem dv_none (hA : sm W N = 0) : dv N S W = fun _ => 0 := by
  unfold dv
  rw [if_pos hA]
theorem dv_sum (hA : sm W N ≠ 0) : sm (dv N S W) N = S := by
  obtain ⟨t, p1, p2, p3⟩ := dv_pos (S := S) hA
  have := (dv_rest (S := S) hA).2
  rw [sm_cg (g := fun i => S * W i / sm W N + t i) (fun i _ => p1 i), sm_add, p3]
  omega
/-- the rest is no more than there are places -/
theorem dv_few (hA : sm W N ≠ 0) : S - sm (fun i => S * W i / sm W N) N ≤ N := by
  obtain ⟨t, p1, p2, p3⟩ := dv_pos (S := S) hA
  rw [← p3]
  have := sm_b (f := t) (b := 1) N (fun i _ => by rcases p2 i with z | z <;> omega)
  omega
theorem dv_zero {i : Nat} (hi : W i = 0) : dv N S W i = 0 := by
  by_cases hA : sm W N = 0
  · rw [dv_none hA]
  · obtain ⟨t, p1, p2, p3⟩ := dv_pos (S := S) hA
    rw [p1 i, hi, Nat.mul_zero, Nat.zero_div, Nat.zero_add]
    rcases p2 i with z | ⟨z1, z2, z3⟩
    · exact z
    · rw [hi, Nat.mul_zero, Nat.zero_mod] at z2
      omega
theorem dv_le (hS : S ≤ sm W N) (i : Nat) : dv N S W i ≤ W i := by
  by_cases hA : sm W N = 0
  · rw [dv_none hA]; exact Nat.zero_le _
  · obtain ⟨t, p1, p2, p3⟩ := dv_pos (S := S) hA
    have hb : S * W i ≤ sm W N * W i := Nat.mul_le_mul_right _ hS
    have hd := Nat.div_add_mod (S * W i) (sm W N)
    rw [p1 i]
    rcases p2 i with z | ⟨z1, z2, z3⟩
    · rw [z]
      refine Nat.le_of_mul_le_mul_left (c := sm W N) ?_ (Nat.pos_of_ne_zero hA)
      rw [Nat.add_zero]
      omega
    · rw [z1]
      refine Nat.lt_of_mul_lt_mul_left (a := sm W N) ?_
      omega
theorem dv_S0 (i : Nat) : dv N 0 W i = 0 := by
  by_cases hA : sm W N = 0
  · rw [dv_none hA]
  · have := dv_sum (S := 0) hA
    obtain ⟨t, p1, p2, p3⟩ := dv_pos (S := 0) hA
    rw [p1 i, Nat.zero_mul, Nat.zero_div, Nat.zero_add]
    rcases p2 i with z | ⟨z1, z2, z3⟩
    · exact z
    · rw [Nat.zero_mul, Nat.zero_mod] at z2
      omega
/-- places without weight don't matter -/
theorem dv_ext {n m : Nat} (hn : 1 ≤ n) (hW : ∀ i, n ≤ i → i < n + m → W i = 0) : dv (n + m) S W = dv n S W := by
  have eA : sm W (n + m) = sm W n := sm_ext m hW
  by_cases hA : sm W n = 0
  · rw [dv_none hA, dv_none (by rw [eA]; exact hA)]
  · have eq : sm (fun i => S * W i / sm W n) (n + m) = sm (fun i => S * W i / sm W n) n := sm_ext m (fun i h1 h2 => by
      show S * W i / sm W n = 0
      rw [hW i h1 h2, Nat.mul_zero, Nat.zero_div])
    have key : ∀ r, r ≤ S - sm (fun i => S * W i / sm W n) n → dvI (n + m) (fun i => S * W i / sm W n) (fun i => ((S * W i % sm W n : Nat) : Int)) r = dvI n (fun i => S * W i / sm W n) (fun i => ((S * W i % sm W n : Nat) : Int)) r := by
      intro r
      induction r with
      | zero => exact fun _ => rfl
      | succ r ih =>
        intro hr
        have e := ih (by omega)
        obtain ⟨t, ht⟩ := dv_inv (S := S) hA r (by omega)
        obtain ⟨m1, m2⟩ := dv_more hA (by omega) ht
        have ep : pm (dvI n (fun i => S * W i / sm W n) (fun i => ((S * W i % sm W n : Nat) : Int)) r).2 (n + m - 1) = pm (dvI n (fun i => S * W i / sm W n) (fun i => ((S * W i % sm W n : Nat) : Int)) r).2 (n - 1) := by
          have := pm_ext (dvI n (fun i => S * W i / sm W n) (fun i => ((S * W i % sm W n : Nat) : Int)) r).2 (n - 1) m (fun i h1 h2 => by
            rcases ht.2.1 i with ⟨-, z⟩ | ⟨-, z, -⟩
            · rw [z, hW i (by omega) (by omega), Nat.mul_zero, Nat.zero_mod]
              omega
            · omega)
          rw [← this]
          congr 1
          omega
        show (_, _) = (_, _)
        rw [e, ep]
    unfold dv
    rw [if_neg hA, if_neg (by rw [eA]; exact hA), eA, eq, key _ (Nat.le_refl _)]
end
