/-! events keep what holds of every voyage -/
section
variable {s : VS} {pp po : Int32} {n lo na p q : Nat}
theorem jlt1 {k p : Nat} (hk : k < 100) (hp : p < 100) : nI (p + 1) < nI k ↔ nI p < nI k ∧ ¬ nI k = nI p + 1 := by
  rw [jn_sc, nI_ltI (by omega) (by omega), nI_ltI (by omega) (by omega), nI_eq (by omega) (by omega)]
  omega
theorem IJ_move (hI : IV pp s n lo na p) (hJ : JV q s n na p) (hq : pp = nI q) (hE : s.1 6 = 0) : ∃ p', IV pp (vMove pp s).2 n lo na p' ∧ JV q (vMove pp s).2 n na p' := by
  have hcn := IV_cn hI
  obtain ⟨i1, i2, i3, i4, i5, i6, i7, i8⟩ := hI
  obtain ⟨j1, j2, j3, j4, j5, j6, j7, j8⟩ := hJ
  have hp := j2 hE
  unfold vMove
  split
  · next h5 =>
    exact ⟨p, ⟨i1, i2, i3, i4, Or.inl rfl, Or.inr rfl, i7, i8⟩, ⟨j1, j2, fun z => absurd hE z, j4, j5, j6, fun z => absurd rfl z, j8⟩⟩
  · next h5 =>
    have e6 : (if s.1 0 + 1 = pp - 1 then (1 : Int32) else 0) = if p + 2 = q then 1 else 0 := by
      rw [i4.1, jn_sc, hq, j1I, jn_sub (by omega)]
      by_cases hc : p + 2 = q
      · rw [if_pos hc, if_pos (by congr 1; omega)]
      · rw [if_neg hc, if_neg (fun z => hc (by have := (nI_eq (by omega) (by omega)).mp z; omega))]
    have row : ∀ k i, k ≠ 8 → (if k = 8 ∧ 1 ≤ i ∧ i < cn s ∧ s.2.1 5 i = s.1 0 + 1 then 0 else s.2.1 k i) = s.2.1 k i := fun k i hk => if_neg (fun z => hk z.1)
    rw [e6]
    refine ⟨p + 1, ⟨i1, i2, i3, ⟨?_, ?_⟩, Or.inl rfl, Or.inl rfl, ?_, fun i hi => ?_⟩, ⟨⟨j1.1, j1.2.1, by omega⟩, ?_, ?_, fun i hi => ?_, j5, fun i hi => ?_, fun z => absurd rfl z, j8⟩⟩
    · show s.1 0 + 1 = _
      rw [i4.1, jn_sc]
    · omega
    · show (if p + 2 = q then (1 : Int32) else 0) = 0 ∨ (if p + 2 = q then (1 : Int32) else 0) = 1
      split <;> simp
    · have := i8 i hi
      dsimp only
      simp only [row 7 _ (by decide), row 6 _ (by decide), row 2 _ (by decide), row 1 _ (by decide), row 3 _ (by decide)]
      refine ⟨?_, this.2⟩
      split
      · exact Or.inl rfl
      · exact this.1
    · show (if p + 2 = q then (1 : Int32) else 0) = 0 → _
      by_cases hc : p + 2 = q
      · rw [if_pos hc]; exact fun z => absurd z (by decide)
      · exact fun _ => by omega
    · exact fun _ => ⟨rfl, rfl⟩
    · have := j4 i hi
      dsimp only
      simp only [row 7 _ (by decide), row 6 _ (by decide), row 5 _ (by decide), row 0 _ (by decide)]
      refine ⟨?_, this.2⟩
      have e8 := this.1
      have hc6 : (u1 (u1 (u1 (u1 s.1 4 (-1)) 5 0) 0 (s.1 0 + 1)) 6 (if p + 2 = q then 1 else 0)) 6 = if p + 2 = q then 1 else 0 := rfl
      have hor : ((if p + 2 = q then (1 : Int32) else 0) = 0 ∨ p + 1 + 1 = q) := by
        by_cases hc : p + 2 = q
        · exact Or.inr hc
        · exact Or.inl (if_neg hc)
      rw [hc6]
      rcases this.2.1 with ⟨h0, hg⟩ | ⟨h1, k, hk, hg⟩
      · rw [if_neg (fun z => by omega), if_pos (Or.inl hg), e8, if_pos (Or.inl hg)]
      · have hne : ¬ s.2.1 5 i = -1 := by rw [hg]; exact jm1 (by omega)
        have hl := jlt1 (k := k) (p := p) (by omega) (by omega)
        rw [hg, i4.1, hcn]
        rw [hg] at e8
        rw [hg] at hne
        by_cases hc : nI k = nI p + 1
        · rw [if_pos ⟨trivial, h1, hi, hc⟩, if_neg]
          rintro (z | ⟨-, z⟩)
          · exact hne z
          · exact (hl.mp z).2 hc
        · rw [if_neg (fun z => hc z.2.2.2), e8]
          by_cases hz : nI p < nI k
          · rw [if_pos (Or.inr ⟨Or.inl hE, hz⟩), if_pos (Or.inr ⟨hor, hl.mpr ⟨hz, hc⟩⟩)]
          · rw [if_neg, if_neg]
            · rintro (z | ⟨-, z⟩)
              · exact hne z
              · exact hz (hl.mp z).1
            · rintro (z | ⟨-, z⟩)
              · exact hne z
              · exact hz z
    · dsimp only
      simp only [row 2 _ (by decide), row 1 _ (by decide)]
      exact j6 i hi
theorem IJ_act (hI : IV pp s n lo na p) (hJ : JV q s n na p) (hE : s.1 6 = 0) {r : Int32} {s' : VS} (h : vAct s = some (r, s')) : IV pp s' n lo (na + 1) p ∧ JV q s' n (na + 1) p := by
  have hcn := IV_cn hI
  have hca := IV_ca hI
  have h81 := IV_81 hI
  obtain ⟨i1, i2, i3, i4, i5, i6, i7, i8⟩ := hI
  obtain ⟨j1, j2, j3, j4, j5, j6, j7, j8⟩ := hJ
  unfold vAct at h
  split at h
  · cases h
  next hne =>
  injection h with h
  injection h with h0 h1
  subst h1
  have hna : na ≤ 11 := by
    by_cases e : na = 12
    · exact absurd (by rw [i3.1, e]; rfl) hne
    · have := i3.2; omega
  refine ⟨⟨i1, i2, ⟨?_, by omega⟩, i4, Or.inr ⟨by omega, ?_⟩, i6, i7, i8⟩, ⟨j1, j2, fun z => absurd hE z, j4, fun a i ha hi => ?_, fun i hi => ?_, fun _ i hi h8 h2 => ?_, fun a o ha ho => ?_⟩⟩
  · show s.1 3 + 1 = _
    rw [i3.1, jn_sc]
  · show s.1 3 = _
    rw [i3.1]; rfl
  · dsimp only
    rw [hca, hcn]
    by_cases haa : a = na
    · simp only [if_pos haa]
      refine ⟨?_, by rw [if_neg (fun z => absurd z.1 (by decide))]; decide, fun z => absurd (if_neg (fun z => absurd z.1 (by decide))) z, fun z => ?_⟩
      · split <;> simp
      · rw [if_neg (fun w => by omega)]
    · simp only [if_neg haa]
      exact j5 a i (by omega) hi
  · dsimp only
    rw [sm, hca, if_pos rfl]
    have := sm_cg (n := na) (f := fun a => nn (if a = na then (if 2 = 0 ∧ i < cn s ∧ ¬ s.2.1 8 i = 0 ∧ 0 < s.2.1 2 i then 1 else 0) else s.2.2.1 2 a i)) (g := fun a => nn (s.2.2.1 2 a i)) (fun a ha => by rw [if_neg (by omega)])
    rw [this]
    exact j6 i hi
  · dsimp only
    rw [hca, if_pos (by omega), if_pos]
    refine ⟨rfl, by omega, h8, ?_⟩
    have h0 := (i8 i hi).2.2.1
    have := Int32.le_iff_toInt_le.mp h0
    refine Int32.lt_iff_toInt_lt.mpr ?_
    have hz : (0 : Int32).toInt = 0 := by decide
    have : ¬ (s.2.1 2 i).toInt = 0 := fun z => h2 (Int32.toInt_inj.mp z)
    omega
  · dsimp only
    rw [hca]
    by_cases haa : a = na
    · simp only [if_pos haa]
      exact ⟨by decide, by decide⟩
    · simp only [if_neg haa]
      exact j8 a o (by omega) ho
theorem IJ_spend (hI : IV pp s n lo na p) (hJ : JV q s n na p) {b o : Nat} {x : Int32} (hx : 0 ≤ x ∧ x ≤ 1000000) : IV pp (s.1, s.2.1, s.2.2.1, u2 s.2.2.2 b o x) n lo na p ∧ JV q (s.1, s.2.1, s.2.2.1, u2 s.2.2.2 b o x) n na p := by
  obtain ⟨j1, j2, j3, j4, j5, j6, j7, j8⟩ := hJ
  refine ⟨hI, ⟨j1, j2, j3, j4, j5, j6, j7, fun a o' ha ho => ?_⟩⟩
  dsimp only [u2]
  split
  · exact hx
  · exact j8 a o' ha ho
theorem IJ_lost (hI : IV pp s n lo na p) (hJ : JV q s n na p) (hE : s.1 6 = 0) : IV pp (vLost s) n lo na p ∧ JV q (vLost s) n na p := by
  have hcn := IV_cn hI
  obtain ⟨i1, i2, i3, i4, i5, i6, i7, i8⟩ := hI
  obtain ⟨j1, j2, j3, j4, j5, j6, j7, j8⟩ := hJ
  have hp := j2 hE
  have row : ∀ k i, k ≠ 8 → k ≠ 2 → (vLost s).2.1 k i = s.2.1 k i := fun k i h8 h2 => by
    show (if _ then _ else if _ then _ else _) = _
    rw [if_neg (fun z => h2 z.2.1), if_neg (fun z => h8 z.2)]
  have r8 : ∀ i, i < n → (vLost s).2.1 8 i = if i = 0 then 1 else 0 := fun i hi => by
    show (if i < cn s ∧ 8 = 2 ∧ _ then _ else if i < cn s ∧ 8 = 8 then _ else _) = _
    rw [if_neg (fun z => by omega), if_pos ⟨by omega, rfl⟩]
  have r2 : ∀ i, i < n → (vLost s).2.1 2 i = if ¬ s.2.1 8 i = 0 then 0 else s.2.1 2 i := fun i hi => by
    show (if i < cn s ∧ 2 = 2 ∧ ¬ s.2.1 8 i = 0 then _ else if i < cn s ∧ 2 = 8 then _ else _) = _
    by_cases hc : ¬ s.2.1 8 i = 0
    · rw [if_pos ⟨by omega, rfl, hc⟩, if_pos hc]
    · rw [if_neg (fun z => hc z.2.2), if_neg (fun z => by omega), if_neg hc]
  refine ⟨⟨i1, i2, i3, i4, Or.inl rfl, Or.inl rfl, Or.inr rfl, fun i hi => ?_⟩, ⟨j1, fun z => absurd z (show ¬ (1 : Int32) = 0 by decide), fun _ => ⟨rfl, rfl⟩, fun i hi => ?_, j5, fun i hi => ?_, fun z => absurd rfl z, j8⟩⟩
  · have := i8 i hi
    simp only [row 7 _ (by decide) (by decide), row 6 _ (by decide) (by decide), row 1 _ (by decide) (by decide), row 3 _ (by decide) (by decide), r8 i hi, r2 i hi]
    have hz : (0 : Int32) ≤ 1 := by decide
    refine ⟨?_, this.2.1, ?_, ?_, this.2.2.2.2⟩
    · split <;> simp
    · split
      · exact Int32.le_refl _
      · exact this.2.2.1
    · split
      · exact Int32.le_trans hz this.2.2.2.2.1
      · exact this.2.2.2.1
  · have := j4 i hi
    simp only [row 7 _ (by decide) (by decide), row 6 _ (by decide) (by decide), row 5 _ (by decide) (by decide), row 0 _ (by decide) (by decide), r8 i hi]
    refine ⟨?_, this.2⟩
    have h61 : (vLost s).1 6 = 1 := rfl
    rw [h61]
    rcases this.2.1 with ⟨h0, hg⟩ | ⟨h1, k, hk, hg⟩
    · rw [if_pos h0, if_pos (Or.inl hg)]
    · have hne : ¬ s.2.1 5 i = -1 := by rw [hg]; exact jm1 (by omega)
      rw [if_neg (by omega), if_neg]
      rintro (z | ⟨z | z, -⟩)
      · exact hne z
      · exact absurd z (by decide)
      · omega
  · rw [row 1 _ (by decide) (by decide), r2 i hi]
    have := j6 i hi
    refine Nat.le_trans (Nat.add_le_add_right ?_ _) this
    split
    · exact Nat.zero_le _
    · exact Nat.le_refl _
end
