/-! taking: giving up and losing -/
section
variable {s : VS} {pp po : Int32} {n lo na p q : Nat}
theorem vt_k {j : Nat} {x : Int32} (k i : Nat) (hk : k ≠ 2) : vTake s j x k i = s.2.1 k i := by
  unfold vTake
  split <;> simp [u2, hk]
theorem vTake_c (hI : IV pp s n lo na p) {j : Nat} {x : Int32} (hj : j < n) (hc : vCan s j x) : ∃ k l, x = nI k ∧ s.2.1 2 j = nI l ∧ 1 ≤ k ∧ k ≤ l ∧ l ≤ 1000000 ∧
    ((s.2.1 7 j = -1 ∧ vLess s j x = 0 ∧ ∀ i, vTake s j x 2 i = if i = j then nI (l - k) else s.2.1 2 i) ∨
     (j + 1 < n ∧ s.2.1 7 j = nI (j + 1) ∧ s.2.1 6 (j + 1) = nI j ∧ ∃ f, s.2.1 2 (j + 1) = nI f ∧ f ≤ 1000000 ∧ f * k / l ≤ f ∧ vLess s j x = nI (f * k / l) ∧ ∀ i, vTake s j x 2 i = if i = j then nI (l - k) else if i = j + 1 then nI (f - f * k / l) else s.2.1 2 i)) := by
  have h81 := IV_81 hI
  obtain ⟨l, w, t, e1, -, -, b1, b2, b3, -, -⟩ := IV_num hI hj
  obtain ⟨-, -, c3, c4⟩ := hc
  rw [e1] at c4
  obtain ⟨ex, bx⟩ := nn_le (by omega) (Int32.le_trans (by decide) c3) c4
  have hk1 : 1 ≤ nn x := by
    rw [ex, j1I] at c3
    exact (nI_leI (by decide) (by omega)).mp c3
  refine ⟨nn x, l, ex, e1, hk1, bx, by omega, ?_⟩
  have hsub : nI l - x = nI (l - nn x) := by
    conv => lhs; rw [ex]
    exact jn_sub bx
  rcases (hI.2.2.2.2.2.2.2 j hj).2.1 with hf | ⟨hj1, hf, -, hf6⟩
  · refine Or.inl ⟨hf, ?_, fun i => ?_⟩
    · unfold vLess; rw [if_pos hf]
    · unfold vTake
      rw [if_pos hf, e1, hsub]
      simp [u2]
  · obtain ⟨f, wf, tf, e2, -, -, d1, d2, d3, -, -⟩ := IV_num hI hj1
    have hm1 : ¬ s.2.1 7 j = -1 := by rw [hf]; exact jm1 (by omega)
    have hcl : (s.2.1 7 j).toNatClampNeg = j + 1 := by rw [hf]; exact jn_cl (show j + 1 < 81 by omega) (by decide)
    have hfl : f * nn x / l ≤ f := by
      refine Nat.le_trans (Nat.div_le_div_right (Nat.mul_le_mul_left f bx)) ?_
      rw [Nat.mul_div_cancel _ (by omega)]
      exact Nat.le_refl _
    have hless : vLess s j x = nI (f * nn x / l) := by
      unfold vLess
      rw [if_neg hm1, hcl, e2, e1]
      conv => lhs; rw [ex]
      exact jdiv (by omega) (by omega) (by omega) (by omega)
    refine Or.inr ⟨hj1, hf, hf6, f, e2, by omega, hfl, hless, fun i => ?_⟩
    unfold vTake
    rw [if_neg hm1, hcl, e2, hless, jn_sub hfl, e1, hsub]
    unfold u2
    by_cases hij : i = j
    · rw [if_neg (fun z => by omega), if_pos ⟨rfl, hij⟩, if_pos hij]
    · rw [if_neg hij]
      by_cases hij1 : i = j + 1
      · rw [if_pos ⟨rfl, hij1⟩, if_pos hij1]
      · rw [if_neg (fun z => hij1 z.2), if_neg (fun z => hij z.2), if_neg hij1]
/-- what is left grows less -/
theorem vTake_le (hI : IV pp s n lo na p) {j : Nat} {x : Int32} (hj : j < n) (hc : vCan s j x) {i : Nat} (hi : i < n) : ∃ a b, s.2.1 2 i = nI a ∧ vTake s j x 2 i = nI b ∧ b ≤ a ∧ a ≤ 1000000 := by
  obtain ⟨l0, w, t, e0, -, -, b1, b2, b3, -, -⟩ := IV_num hI hi
  obtain ⟨k, l, ex, el, k1, k2, k3, h | h⟩ := vTake_c hI hj hc
  · refine ⟨l0, if i = j then l - k else l0, e0, ?_, ?_, by omega⟩
    · rw [h.2.2 i]; split
      · rfl
      · exact e0
    · split
      · next z =>
        subst z
        rw [e0] at el
        have := (nI_eq (by omega) (by omega)).mp el
        omega
      · exact Nat.le_refl _
  · obtain ⟨hj1, -, -, f, ef, f1, f2, -, hv⟩ := h
    refine ⟨l0, if i = j then l - k else if i = j + 1 then f - f * k / l else l0, e0, ?_, ?_, by omega⟩
    · rw [hv i]; split
      · rfl
      · split
        · rfl
        · exact e0
    · split
      · next z =>
        subst z
        rw [e0] at el
        have := (nI_eq (by omega) (by omega)).mp el
        omega
      · split
        · next z =>
          subst z
          rw [e0] at ef
          have := (nI_eq (by omega) (by omega)).mp ef
          exact Nat.le_trans (Nat.sub_le _ _) (Nat.le_of_eq this.symm)
        · exact Nat.le_refl _
theorem IV_take (hI : IV pp s n lo na p) {j : Nat} {x : Int32} (hj : j < n) (hc : vCan s j x) (G : Nat → Nat → Nat → Int32) (sp : Nat → Nat → Int32) : IV pp (s.1, vTake s j x, G, sp) n lo na p := by
  have hle := fun i (hi : i < n) => vTake_le hI hj hc hi
  have hI' := hI
  obtain ⟨i1, i2, i3, i4, i5, i6, i7, i8⟩ := hI
  refine ⟨i1, i2, i3, i4, i5, i6, i7, fun i hi => ?_⟩
  have := i8 i hi
  dsimp only
  simp only [vt_k 8 _ (by decide), vt_k 7 _ (by decide), vt_k 6 _ (by decide), vt_k 1 _ (by decide), vt_k 3 _ (by decide)]
  obtain ⟨a, b, e1, e2, h1, h2⟩ := hle i hi
  refine ⟨this.1, this.2.1, ?_, ?_, this.2.2.2.2⟩
  · rw [e2]; exact nI_pos' (by omega)
  · refine Int32.le_trans ?_ this.2.2.2.1
    rw [e1, e2]
    exact nI_le h1 (by omega)
theorem JV_take (hI : IV pp s n lo na p) (hJ : JV q s n na p) {j : Nat} {x : Int32} (hj : j < n) (hc : vCan s j x) {G : Nat → Nat → Nat → Int32} (g0 : ∀ a i, a < na → G 0 a i = s.2.2.1 0 a i) (g2 : ∀ a i, a < na → i < 81 → 0 ≤ G 2 a i ∧ (¬ G 2 a i = 0 → s.2.2.1 0 a i = 1)) (g6 : ∀ i, i < n → nn (vTake s j x 2 i) + sm (fun a => nn (G 2 a i)) na ≤ nn (s.2.1 1 i)) : JV q (s.1, vTake s j x, G, s.2.2.2) n na p := by
  have hle := fun i (hi : i < n) => vTake_le hI hj hc hi
  have hop := hI.2.2.2.2.1
  obtain ⟨j1, j2, j3, j4, j5, j6, j7, j8⟩ := hJ
  refine ⟨j1, j2, j3, fun i hi => ?_, fun a i ha hi => ?_, fun i hi => ?_, fun z i hi h8 h2 => ?_, j8⟩
  · have := j4 i hi
    dsimp only
    simp only [vt_k 8 _ (by decide), vt_k 7 _ (by decide), vt_k 6 _ (by decide), vt_k 5 _ (by decide), vt_k 0 _ (by decide)]
    exact this
  · have := j5 a i ha hi
    dsimp only
    rw [g0 a i ha]
    exact ⟨this.1, (g2 a i ha hi).1, (g2 a i ha hi).2, this.2.2.2⟩
  · dsimp only
    rw [vt_k 1 _ (by decide)]
    exact g6 i hi
  · dsimp only at h8 h2 z ⊢
    rw [vt_k 8 _ (by decide)] at h8
    obtain ⟨hna1, -⟩ := hop.resolve_left z
    rw [g0 _ _ (by omega)]
    refine j7 z i hi h8 (fun w => h2 ?_)
    obtain ⟨a, b, e1, e2, h1, h3⟩ := hle i hi
    rw [w, ← nI_0] at e1
    have := (nI_eq (by omega) (by omega)).mp e1
    rw [e2, ← nI_0]
    congr 1
    omega
theorem IJ_lose (hI : IV pp s n lo na p) (hJ : JV q s n na p) {j : Nat} {x : Int32} (hj : j < n) (hc : vCan s j x) : IV pp (vLose1 s j x) n lo na p ∧ JV q (vLose1 s j x) n na p := by
  have hI1 := IV_take hI hj hc s.2.2.1 s.2.2.2
  have hJ1 : JV q (s.1, vTake s j x, s.2.2.1, s.2.2.2) n na p := JV_take hI hJ hj hc (fun _ _ _ => rfl) (fun a i ha hi => ⟨(hJ.2.2.2.2.1 a i ha hi).2.1, (hJ.2.2.2.2.1 a i ha hi).2.2.1⟩) (fun i hi => by
    refine Nat.le_trans (Nat.add_le_add_right ?_ _) (hJ.2.2.2.2.2.1 i hi)
    obtain ⟨a, b, e1, e2, h1, h2⟩ := vTake_le hI hj hc hi
    rw [e1, e2, nn_I (by omega), nn_I (by omega)]
    exact h1)
  have hlo := hI.2.1.2
  exact IJ_sc (c := u1 s.1 4 (-1)) hI1 hJ1 rfl rfl rfl rfl rfl rfl (lo' := lo) hI.2.1.1 ⟨Nat.le_refl _, hlo⟩
theorem jr_ne {x : Int32} (h : x = 1) : ¬ x = 0 := by rw [h]; decide
theorem IJ_give (hI : IV pp s n lo na p) (hJ : JV q s n na p) (hop : ¬ s.1 4 = -1) {j : Nat} {x : Int32} (hj : j < n) (hc : vCan s j x) : IV pp (vGive1 s (na - 1) j x) n lo na p ∧ JV q (vGive1 s (na - 1) j x) n na p := by
  refine ⟨IV_take hI hj hc _ _, ?_⟩
  have h81 := IV_81 hI
  obtain ⟨hna1, -⟩ := hI.2.2.2.2.1.resolve_left hop
  obtain ⟨l0, w, t, e0, ew, et, b1, b2, b3, b4, b5⟩ := IV_num hI hj
  have h2ne : ¬ s.2.1 2 j = 0 := by
    intro z
    have h1 := Int32.le_trans hc.2.2.1 hc.2.2.2
    rw [z] at h1
    exact absurd h1 (by decide)
  have hrj : s.2.2.1 0 (na - 1) j = 1 := hJ.2.2.2.2.2.2.1 hop j hj hc.2.1 h2ne
  obtain ⟨k, l, ex, el, k1, k2, k3, hT⟩ := vTake_c hI hj hc
  obtain ⟨g, hg, hgk⟩ : ∃ g, vGood s j x = nI g ∧ g ≤ k := by
    unfold vGood
    split
    · refine ⟨k * t / w, ?_, ?_⟩
      · rw [ex, et, ew]; exact jdiv (by omega) (by omega) (by omega) (by omega)
      · refine Nat.le_trans (Nat.div_le_div_right (Nat.mul_le_mul_left k b5)) ?_
        rw [Nat.mul_div_cancel _ (by omega)]
        exact Nat.le_refl _
    · exact ⟨0, rfl, Nat.zero_le _⟩
  have bnd : ∀ a i, a < na → i < 81 → ∃ c, s.2.2.1 2 a i = nI c ∧ c ≤ 1000000 := fun a i ha hi => by
    have h5 := hJ.2.2.2.2.1 a i ha hi
    by_cases hin : i < n
    · have h6 := hJ.2.2.2.2.2.1 i hin
      obtain ⟨l1, w1, t1, f0, fw, ft, c1, c2, c3, c4, c5⟩ := IV_num hI hin
      have hge := sm_ge (f := fun a => nn (s.2.2.1 2 a i)) ha
      rw [fw, nn_I (by omega)] at h6
      obtain ⟨y1, y2⟩ := nn_of h5.2.1
      exact ⟨_, y1, by omega⟩
    · refine ⟨0, ?_, by omega⟩
      by_cases hz : s.2.2.1 2 a i = 0
      · rw [hz]; rfl
      · have := h5.2.2.1 hz
        rw [h5.2.2.2 (by omega)] at this
        exact absurd this (by decide)
  rcases hT with ⟨h7, hL, hv⟩ | ⟨hj1, h7, h6f, f, ef, f1, f2, hL, hv⟩
  · have G2 : ∀ a i, (vGive1 s (na - 1) j x).2.2.1 2 a i = if a = na - 1 ∧ i = j then s.2.2.1 2 a i + nI g else s.2.2.1 2 a i := fun a i => by
      unfold vGive1
      dsimp only
      rw [if_pos h7, hg]
      unfold u3
      by_cases hz : a = na - 1 ∧ i = j
      · obtain ⟨rfl, rfl⟩ := hz; simp
      · rw [if_neg (fun w => hz w.2), if_neg (fun w => absurd w.1 (by decide)), if_neg hz]
    have G0 : ∀ a i, (vGive1 s (na - 1) j x).2.2.1 0 a i = s.2.2.1 0 a i := fun a i => by
      unfold vGive1
      dsimp only
      rw [if_pos h7]
      simp [u3]
    refine JV_take (G := (vGive1 s (na - 1) j x).2.2.1) hI hJ hj hc (fun a i _ => G0 a i) (fun a i ha hi => ?_) (fun i hi => ?_)
    · have := hJ.2.2.2.2.1 a i ha hi
      rw [G2 a i]
      split
      · next z =>
        obtain ⟨rfl, rfl⟩ := z
        obtain ⟨c, hc1, hc2⟩ := bnd (na - 1) i ha hi
        refine ⟨?_, fun _ => hrj⟩
        rw [hc1, nI_add]; exact nI_pos' (by omega)
      · exact ⟨this.2.1, this.2.2.1⟩
    · have h6 := hJ.2.2.2.2.2.1 i hi
      by_cases hij : i = j
      · subst hij
        obtain ⟨c, hc1, hc2⟩ := bnd (na - 1) i (by omega) (by omega)
        have := sm_up (f := fun a => nn (s.2.2.1 2 a i)) (g := fun a => nn ((vGive1 s (na - 1) i x).2.2.1 2 a i)) (n := na) (j := na - 1) (by omega) (fun a _ hne => by rw [G2, if_neg (fun z => hne z.1)])
        rw [G2, if_pos ⟨rfl, rfl⟩, hc1, nI_add, nn_I (by omega), nn_I (by omega)] at this
        rw [hv i, if_pos rfl, nn_I (by omega)]
        rw [el, nn_I (by omega)] at h6
        omega
      · rw [hv i, if_neg hij, sm_cg (g := fun a => nn (s.2.2.1 2 a i)) (fun a _ => by rw [G2, if_neg (fun z => hij z.2)])]
        exact h6
  · have hm1 : ¬ s.2.1 7 j = -1 := by rw [h7]; exact jm1 (by omega)
    have hcl : (s.2.1 7 j).toNatClampNeg = j + 1 := by rw [h7]; exact jn_cl (show j + 1 < 81 by omega) (by decide)
    obtain ⟨g', hg', hgl⟩ : ∃ g', (if s.2.1 4 j = 0 then vLess s j x else 0) = nI g' ∧ g' ≤ f * k / l := by
      split
      · exact ⟨_, hL, Nat.le_refl _⟩
      · exact ⟨0, rfl, Nat.zero_le _⟩
    have G2 : ∀ a i, (vGive1 s (na - 1) j x).2.2.1 2 a i = if a = na - 1 ∧ i = j + 1 then s.2.2.1 2 a i + nI g' else if a = na - 1 ∧ i = j then s.2.2.1 2 a i + nI g else s.2.2.1 2 a i := fun a i => by
      unfold vGive1
      dsimp only
      rw [if_neg hm1, hg, hcl, hg']
      unfold u3
      by_cases hz1 : a = na - 1 ∧ i = j + 1
      · obtain ⟨rfl, rfl⟩ := hz1; simp
      · rw [if_neg (fun w => hz1 w.2), if_neg (fun w => absurd w.1 (by decide)), if_neg hz1]
        by_cases hz : a = na - 1 ∧ i = j
        · obtain ⟨rfl, rfl⟩ := hz; simp
        · rw [if_neg (fun w => hz w.2), if_neg (fun w => absurd w.1 (by decide)), if_neg hz]
    have G0 : ∀ a i, (vGive1 s (na - 1) j x).2.2.1 0 a i = s.2.2.1 0 a i := fun a i => by
      unfold vGive1
      dsimp only
      rw [if_neg hm1]
      simp [u3]
    refine JV_take (G := (vGive1 s (na - 1) j x).2.2.1) hI hJ hj hc (fun a i _ => G0 a i) (fun a i ha hi => ?_) (fun i hi => ?_)
    · have := hJ.2.2.2.2.1 a i ha hi
      rw [G2 a i]
      split
      · next z =>
        obtain ⟨rfl, rfl⟩ := z
        obtain ⟨c, hc1, hc2⟩ := bnd (na - 1) (j + 1) ha hi
        have hflk : f * k / l ≤ 1000000 := Nat.le_trans f2 f1
        refine ⟨?_, fun hne => ?_⟩
        · rw [hc1, nI_add]; exact nI_pos' (by omega)
        · by_cases hf0 : f = 0
          · have hg0 : g' = 0 := by
              rw [hf0] at hgl f2
              omega
            rw [hg0, nI_0] at hne
            exact this.2.2.1 (fun w => hne (by rw [w]; rfl))
          · refine hJ.2.2.2.2.2.2.1 hop (j + 1) hj1 ?_ ?_
            · have k4 := hJ.2.2.2.1 (j + 1) hj1
              have k3' := hJ.2.2.2.1 j hj
              obtain ⟨-, -, -, h55⟩ := k4.2.2.1.resolve_left (by rw [h6f]; exact jm1 (by omega))
              rw [Nat.add_sub_cancel] at h55
              rw [k4.1, h55, ← k3'.1]
              exact hc.2.1
            · rw [ef]; exact nI_ne0 (by omega) (by omega)
      · split
        · next z =>
          obtain ⟨rfl, rfl⟩ := z
          obtain ⟨c, hc1, hc2⟩ := bnd (na - 1) i ha hi
          refine ⟨?_, fun _ => hrj⟩
          rw [hc1, nI_add]; exact nI_pos' (by omega)
        · exact ⟨this.2.1, this.2.2.1⟩
    · have h6 := hJ.2.2.2.2.2.1 i hi
      have hflk : f * k / l ≤ 1000000 := Nat.le_trans f2 f1
      by_cases hij : i = j
      · subst hij
        obtain ⟨c, hc1, hc2⟩ := bnd (na - 1) i (by omega) (by omega)
        have := sm_up (f := fun a => nn (s.2.2.1 2 a i)) (g := fun a => nn ((vGive1 s (na - 1) i x).2.2.1 2 a i)) (n := na) (j := na - 1) (by omega) (fun a _ hne => by rw [G2, if_neg (fun z => hne z.1), if_neg (fun z => hne z.1)])
        rw [G2, if_neg (fun z => by omega), if_pos ⟨rfl, rfl⟩, hc1, nI_add, nn_I (by omega), nn_I (by omega)] at this
        rw [hv i, if_pos rfl, nn_I (by omega)]
        rw [el, nn_I (by omega)] at h6
        omega
      · by_cases hij1 : i = j + 1
        · subst hij1
          obtain ⟨c, hc1, hc2⟩ := bnd (na - 1) (j + 1) (by omega) (by omega)
          have := sm_up (f := fun a => nn (s.2.2.1 2 a (j + 1))) (g := fun a => nn ((vGive1 s (na - 1) j x).2.2.1 2 a (j + 1))) (n := na) (j := na - 1) (by omega) (fun a _ hne => by rw [G2, if_neg (fun z => hne z.1), if_neg (fun z => hne z.1)])
          rw [G2, if_pos ⟨rfl, rfl⟩, hc1, nI_add, nn_I (by omega), nn_I (by omega)] at this
          rw [hv (j + 1), if_neg (by omega), if_pos rfl, nn_I (by omega)]
          rw [ef, nn_I (by omega)] at h6
          omega
        · rw [hv i, if_neg hij, if_neg hij1, sm_cg (g := fun a => nn (s.2.2.1 2 a i)) (fun a _ => by rw [G2, if_neg (fun z => hij1 z.2), if_neg (fun z => hij z.2)])]
          exact h6
end
