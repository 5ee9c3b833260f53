/-! a voyage out of its events, the latest first -/
def v0 : VS := (fun k => if k = 4 then -1 else 0, fun _ _ => 0, fun _ _ _ => 0, fun _ _ => 0)
def vStart (po w0 : Int32) : VS := vComes v0 po w0 w0 (-1) 0
def rep (pp po w0 : Int32) : List Ev → VS
  | [] => vStart po w0
  | e :: l => match vDo pp po (rep pp po w0 l) e with
    | some x => x.2
    | none => rep pp po w0 l
def okl (pp po w0 : Int32) : List Ev → Prop
  | [] => True
  | e :: l => okl pp po w0 l ∧ ∃ x, vDo pp po (rep pp po w0 l) e = some x
def IJ (pp : Int32) (q : Nat) (s : VS) : Prop := ∃ n lo na p, IV pp s n lo na p ∧ JV q s n na p
section
variable {s : VS} {pp po w0 : Int32} {q : Nat}
theorem IJ_start (hq : 2 ≤ q ∧ q ≤ 10) (hpo : 0 ≤ po ∧ po ≤ 29) (hw : 1 ≤ w0 ∧ w0 ≤ 1000000) : IV pp (vStart po w0) 1 0 0 0 ∧ JV q (vStart po w0) 1 0 0 := by
  have row : ∀ k, (vStart po w0).2.1 k 0 = vRow po w0 w0 (-1) 0 k := fun k => by
    show (if 0 = cn v0 then vRow po w0 w0 (-1) 0 k else v0.2.1 k 0) = _
    rw [if_pos (show 0 = cn v0 from rfl)]
  refine ⟨⟨⟨rfl, by decide, by decide⟩, ⟨rfl, by decide⟩, ⟨rfl, by decide⟩, ⟨rfl, by decide⟩, Or.inl rfl, Or.inl rfl, Or.inl rfl, fun i hi => ?_⟩, ⟨by omega, fun _ => by omega, fun z => absurd rfl z, fun i hi => ?_, fun a i ha hi => by omega, fun i hi => ?_, fun z => absurd rfl z, fun a o ha ho => by omega⟩⟩
  · obtain rfl : i = 0 := by omega
    simp only [row]
    exact ⟨Or.inr rfl, Or.inl rfl, Int32.le_trans (by decide) hw.1, Int32.le_refl _, hw.1, hw.2, hw.1, Int32.le_refl _⟩
  · obtain rfl : i = 0 := by omega
    simp only [row]
    refine ⟨?_, Or.inl ⟨trivial, rfl⟩, Or.inl rfl, hpo⟩
    rw [if_pos (Or.inl (show vRow po w0 w0 (-1) 0 5 = -1 from rfl))]; rfl
  · obtain rfl : i = 0 := by omega
    simp only [row, sm]
    exact Nat.le_refl _
theorem IJ_do (hI : IJ pp q s) (hq : pp = nI q) (hpo : 0 ≤ po ∧ po ≤ 29) {e : Ev} {r : Int32} {s' : VS} (h : vDo pp po s e = some (r, s')) : IJ pp q s' := by
  obtain ⟨n, lo, na, p, hI, hJ⟩ := hI
  have h81 := IV_81 hI
  have hs1 := hI.1.1
  have hca := IV_ca hI
  unfold vDo at h
  split at h
  · cases h
  next hE =>
  have hE := Decidable.not_not.mp hE
  have ix : (0 ≤ e 1 ∧ e 1 ≤ s.1 1 - 1) → (e 1).toNatClampNeg < n := fun z => by
    rw [hs1] at z
    obtain ⟨j, hj, hij⟩ := (jn_ix (by omega)).mp z
    rw [hij, jn_cl (show j < 82 by omega) (by decide)]
    exact hj
  split at h
  · obtain ⟨n', h1, h2⟩ := IJ_load hI hJ hq hpo hE h
    exact ⟨_, _, _, _, h1, h2⟩
  split at h
  · injection h with h
    obtain ⟨p', h1, h2⟩ := IJ_move hI hJ hq hE
    rw [h] at h1 h2
    exact ⟨_, _, _, _, h1, h2⟩
  split at h
  · obtain ⟨h1, h2⟩ := IJ_act hI hJ hE h
    exact ⟨_, _, _, _, h1, h2⟩
  split at h
  · split at h
    · next hc =>
      injection h with h
      injection h with h0 h1
      subst h1
      rw [hca]
      obtain ⟨h1, h2⟩ := IJ_give hI hJ hc.1 (ix hc.2.1) hc.2.2
      exact ⟨_, _, _, _, h1, h2⟩
    · cases h
  split at h
  · split at h
    · next hc =>
      injection h with h
      injection h with h0 h1
      subst h1
      obtain ⟨c1, c2, c3, c4⟩ := hc
      obtain ⟨hna1, -⟩ := hI.2.2.2.2.1.resolve_left c1
      obtain ⟨j, hj, hij⟩ := (jn_ix (n := 30) (by decide)).mp (show 0 ≤ e 1 ∧ e 1 ≤ nI 30 - 1 from c2)
      have hcl : (e 1).toNatClampNeg = j := by rw [hij]; exact jn_cl (show j < 82 by omega) (by decide)
      rw [hca, hcl] at c4 ⊢
      obtain ⟨d1, d2⟩ := hJ.2.2.2.2.2.2.2 (na - 1) j (by omega) hj
      obtain ⟨f1, f2⟩ := nn_le (k := 1000000) (by decide) d1 d2
      obtain ⟨g1, g2⟩ := nn_le (k := 1000000) (by decide) (Int32.le_trans (by decide) c3.1) c3.2
      have hx : 0 ≤ s.2.2.2 (na - 1) j + e 2 ∧ s.2.2.2 (na - 1) j + e 2 ≤ 1000000 := by
        rw [f1, g1, show (1000000 : Int32) = nI 1000000 from rfl, jn_sub g2] at c4
        rw [f1, g1, nI_add]
        have := (nI_leI (by omega) (by omega)).mp c4
        exact ⟨nI_pos' (by omega), show nI _ ≤ nI 1000000 from nI_le (by omega) (by decide)⟩
      obtain ⟨h1, h2⟩ := IJ_spend (b := na - 1) (o := j) hI hJ hx
      exact ⟨_, _, _, _, h1, h2⟩
    · cases h
  split at h
  · split at h
    · next hc =>
      injection h with h
      injection h with h0 h1
      subst h1
      obtain ⟨h1, h2⟩ := IJ_lose hI hJ (ix hc.1) hc.2
      exact ⟨_, _, _, _, h1, h2⟩
    · cases h
  split at h
  · cases h
  · injection h with h
    injection h with h0 h1
    subst h1
    obtain ⟨h1, h2⟩ := IJ_lost hI hJ hE
    exact ⟨_, _, _, _, h1, h2⟩
/-- an event that is taken answers no number below 0 -/
theorem vDo_pos (hI : IJ pp q s) (hq : pp = nI q) {e : Ev} {r : Int32} {s' : VS} (h : vDo pp po s e = some (r, s')) : 0 ≤ r := by
  obtain ⟨n, lo, na, p, hI, hJ⟩ := hI
  have h81 := IV_81 hI
  have hs1 := hI.1.1
  have hna := hI.2.2.1.2
  have hca := IV_ca hI
  unfold vDo at h
  split at h
  · cases h
  next hE =>
  have hE := Decidable.not_not.mp hE
  have ix : (0 ≤ e 1 ∧ e 1 ≤ s.1 1 - 1) → (e 1).toNatClampNeg < n := fun z => by
    rw [hs1] at z
    obtain ⟨j, hj, hij⟩ := (jn_ix (by omega)).mp z
    rw [hij, jn_cl (show j < 82 by omega) (by decide)]
    exact hj
  split at h
  · unfold vLoad at h
    dsimp only at h
    split at h
    · cases h
    split at h
    · injection h with h
      injection h with h0 h1
      rw [← h0, hs1]; exact nI_pos' (by omega)
    · injection h with h
      injection h with h0 h1
      rw [← h0, hs1]; exact nI_pos' (by omega)
  split at h
  · injection h with h
    have h0 := congrArg Prod.fst h
    dsimp only at h0
    rw [← h0]
    have := hI.2.2.2.1.2
    unfold vMove
    split
    · show 0 ≤ s.1 0
      rw [hI.2.2.2.1.1]; exact nI_pos' (by omega)
    · show 0 ≤ s.1 0 + 1
      rw [hI.2.2.2.1.1, jn_sc]; exact nI_pos' (by omega)
  split at h
  · unfold vAct at h
    split at h
    · cases h
    · injection h with h
      injection h with h0 h1
      rw [← h0, hI.2.2.1.1]; exact nI_pos' (by omega)
  split at h
  · split at h
    · next hc =>
      injection h with h
      injection h with h0 h1
      obtain ⟨l0, w, t, e0, ew, et, b1, b2, b3, b4, b5⟩ := IV_num hI (ix hc.2.1)
      obtain ⟨k, l, ex, el, k1, k2, k3, -⟩ := vTake_c hI (ix hc.2.1) hc.2.2
      rw [← h0]
      unfold vGood
      split
      · rw [ex, et, ew, jdiv (by omega) (by omega) (by omega) (by omega)]
        refine nI_pos' (Nat.lt_of_le_of_lt (Nat.div_le_div_right (Nat.mul_le_mul_left k b5)) ?_)
        rw [Nat.mul_div_cancel _ (by omega)]
        omega
      · decide
    · cases h
  split at h
  · split at h
    · next hc =>
      injection h with h
      injection h with h0 h1
      rw [← h0]
      obtain ⟨c1, c2, c3, c4⟩ := hc
      obtain ⟨hna1, -⟩ := hI.2.2.2.2.1.resolve_left c1
      obtain ⟨j, hj, hij⟩ := (jn_ix (n := 30) (by decide)).mp (show 0 ≤ e 1 ∧ e 1 ≤ nI 30 - 1 from c2)
      have hcl : (e 1).toNatClampNeg = j := by rw [hij]; exact jn_cl (show j < 82 by omega) (by decide)
      rw [hca, hcl]
      obtain ⟨d1, d2⟩ := hJ.2.2.2.2.2.2.2 (na - 1) j (by omega) hj
      obtain ⟨f1, f2⟩ := nn_le (k := 1000000) (by decide) d1 d2
      obtain ⟨g1, g2⟩ := nn_le (k := 1000000) (by decide) (Int32.le_trans (by decide) c3.1) c3.2
      rw [f1, g1, nI_add]
      exact nI_pos' (by omega)
    · cases h
  split at h
  · split at h
    · next hc =>
      injection h with h
      injection h with h0 h1
      obtain ⟨k, l, ex, el, k1, k2, k3, -⟩ := vTake_c hI (ix hc.1) hc.2
      rw [← h0, el, ex, jn_sub k2]
      exact nI_pos' (by omega)
    · cases h
  split at h
  · cases h
  · injection h with h
    injection h with h0 h1
    rw [← h0]; decide
theorem IJ_rep (hq : pp = nI q) (hq2 : 2 ≤ q ∧ q ≤ 10) (hpo : 0 ≤ po ∧ po ≤ 29) (hw : 1 ≤ w0 ∧ w0 ≤ 1000000) (l : List Ev) (hl : okl pp po w0 l) : IJ pp q (rep pp po w0 l) := by
  induction l with
  | nil => exact ⟨_, _, _, _, IJ_start hq2 hpo hw⟩
  | cons e l ih =>
    obtain ⟨h1, ⟨r, s'⟩, h2⟩ := hl
    have := IJ_do (ih h1) hq hpo h2
    show IJ pp q (match vDo pp po (rep pp po w0 l) e with
    | some x => x.2
    | none => rep pp po w0 l)
    rw [h2]
    exact this
theorem rep_c {e : Ev} {l : List Ev} {r : Int32} {s' : VS} (h : vDo pp po (rep pp po w0 l) e = some (r, s')) : rep pp po w0 (e :: l) = s' := by
  show (match vDo pp po (rep pp po w0 l) e with
    | some x => x.2
    | none => rep pp po w0 l) = s'
  rw [h]
end
