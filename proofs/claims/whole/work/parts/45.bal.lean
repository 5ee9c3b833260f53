/-! balances and payments, in numbers -/
def smi (f : Nat → Int) : Nat → Int
  | 0 => 0
  | n + 1 => smi f n + f n
theorem smi_cg {f g : Nat → Int} : ∀ n, (∀ i, i < n → f i = g i) → smi f n = smi g n
  | 0, _ => rfl
  | n + 1, h => by rw [smi, smi, smi_cg n (fun i hi => h i (by omega)), h n (by omega)]
theorem smi_add (f g : Nat → Int) : ∀ n, smi (fun i => f i + g i) n = smi f n + smi g n
  | 0 => rfl
  | n + 1 => by rw [smi, smi, smi, smi_add f g n]; omega
theorem smi_0 {f : Nat → Int} : ∀ n, (∀ i, i < n → f i = 0) → smi f n = 0
  | 0, _ => rfl
  | n + 1, h => by rw [smi, smi_0 n (fun i hi => h i (by omega)), h n (by omega)]; rfl
theorem smi_b {f : Nat → Int} {b : Int} : ∀ n : Nat, (∀ i, i < n → -b ≤ f i ∧ f i ≤ b) → -(n * b) ≤ smi f n ∧ smi f n ≤ n * b
  | 0, _ => by rw [smi]; omega
  | n + 1, h => by
    have h1 := smi_b n (fun i hi => h i (by omega))
    have h2 := h n (by omega)
    have e : ((n + 1 : Nat) : Int) * b = n * b + b := by
      rw [Int.natCast_add, Int.add_mul]; simp
    rw [smi, e]
    omega
theorem smi_nat (f : Nat → Nat) : ∀ n, smi (fun i => (f i : Int)) n = (sm f n : Int)
  | 0 => rfl
  | n + 1 => by rw [smi, sm, smi_nat f n]; omega
theorem smi_sub (f g : Nat → Int) : ∀ n, smi (fun i => f i - g i) n = smi f n - smi g n
  | 0 => rfl
  | n + 1 => by rw [smi, smi, smi, smi_sub f g n]; omega
theorem smi_one {w : Nat} {x : Int} : ∀ N, smi (fun o => if w = o then x else 0) N = if w < N then x else 0
  | 0 => rfl
  | N + 1 => by
    rw [smi, smi_one N]
    by_cases h1 : w < N
    · rw [if_pos h1, if_neg (by omega), if_pos (by omega)]; omega
    · by_cases h2 : w = N
      · rw [if_neg h1, if_pos h2, if_pos (by omega)]; omega
      · rw [if_neg h1, if_neg h2, if_neg (by omega)]; omega
theorem smi_swap {w : Nat → Nat} {f : Nat → Int} {N : Nat} : ∀ n, (∀ i, i < n → w i < N) → smi (fun o => smi (fun i => if w i = o then f i else 0) n) N = smi f n
  | 0, _ => smi_0 N (fun _ _ => rfl)
  | n + 1, h => by
    have e : smi (fun o => smi (fun i => if w i = o then f i else 0) (n + 1)) N = smi (fun o => smi (fun i => if w i = o then f i else 0) n + (if w n = o then f n else 0)) N := rfl
    rw [e, smi_add, smi_swap n (fun i hi => h i (by omega)), smi_one, if_pos (h n (by omega))]
    rfl
theorem smi_up {f g : Nat → Int} {j : Nat} : ∀ n, j < n → (∀ i, i < n → i ≠ j → g i = f i) → smi g n = smi f n + (g j - f j)
  | 0, h, _ => by omega
  | n + 1, hj, h => by
    rw [smi, smi]
    by_cases e : j = n
    · subst e
      rw [smi_cg j (fun i hi => h i (by omega) (by omega))]
      omega
    · rw [smi_up n (by omega) (fun i hi hne => h i (by omega) hne), h n (by omega) (fun z => e z.symm)]
      omega
theorem smi_ge {f : Nat → Int} {j : Nat} : ∀ n, j < n → (∀ i, i < n → 0 ≤ f i) → f j ≤ smi f n
  | 0, h, _ => by omega
  | n + 1, hj, h => by
    rw [smi]
    have h0 : ∀ m, m ≤ n → 0 ≤ smi f m := fun m => by
      induction m with
      | zero => exact fun _ => Int.le_refl _
      | succ m ih =>
        intro hm
        have := ih (by omega)
        have := h m (by omega)
        rw [smi]; omega
    by_cases e : j = n
    · subst e
      have := h0 j (Nat.le_refl _)
      omega
    · have := smi_ge (f := f) (j := j) n (by omega) (fun i hi => h i (by omega))
      have := h n (by omega)
      omega
/-- what act a changes in the balance of whom interest i belongs to -/
def bD (s : VS) (a i : Nat) : Int := if aRi s a i then (nn (s.2.2.1 2 a i) : Int) - (aBo s (-1) (hA s (-1) a) a i : Int) else 0
def bI (s : VS) (a o i : Nat) : Int := smi (fun j => if nn (s.2.1 0 j) = o then bD s a j else 0) i
/-- what owner o gets for expenses of act a -/
def gt (s : VS) (a o : Nat) : Nat := dv 30 (aEx s (-1) (hA s (-1) a) a) (aSp s (-1) a) o
def bal (s : VS) : Nat → Nat → Int
  | 0, _ => 0
  | a + 1, o => bal s a o + bI s a o (cn s) + (gt s a o : Int)
section
variable {s : VS} {pp : Int32} {n lo na p q a : Nat}
theorem JV_own (hJ : JV q s n na p) {i : Nat} (hi : i < n) : s.2.1 0 i = nI (nn (s.2.1 0 i)) ∧ nn (s.2.1 0 i) < 30 := by
  have h := (hJ.2.2.2.1 i hi).2.2.2
  obtain ⟨h1, h2⟩ := nn_le (k := 29) (by decide) h.1 h.2
  exact ⟨h1, by omega⟩
theorem aEx_le (H : Nat → Nat) (a : Nat) (ou : Int32) : aEx s ou H a ≤ sm (aSp s ou a) 30 := Nat.min_le_left _ _
theorem gt_le (hI : IV pp s n lo na p) (hJ : JV q s n na p) (ha : a < na) {o : Nat} (ho : o < 30) : gt s a o ≤ 1000000 := Nat.le_trans (dv_le (aEx_le _ _ _) o) (aSp_le hI hJ ha ho)
theorem bD_b (hI : IV pp s n lo na p) (hJ : JV q s n na p) (ha : a < na) (i : Nat) : -1000000 ≤ bD s a i ∧ bD s a i ≤ 1000000 := by
  unfold bD
  split
  · next hr =>
    have h1 := hA_b (ou := -1) hI hJ (show i < n by have := hr.1; rw [IV_cn hI] at this; exact this) ha
    have h2 := aBo_le (s := s) (ou := -1) (hA s (-1) a) a i
    have h3 := hA_part (ou := -1) (i := i) hI hJ ha
    omega
  · omega
theorem bI_b (hI : IV pp s n lo na p) (hJ : JV q s n na p) (ha : a < na) (o : Nat) {i : Nat} (hi : i ≤ 81) : -81000000 ≤ bI s a o i ∧ bI s a o i ≤ 81000000 := by
  have := smi_b (f := fun j => if nn (s.2.1 0 j) = o then bD s a j else 0) (b := 1000000) i (fun j _ => by
    have := bD_b hI hJ ha j
    split <;> omega)
  unfold bI
  omega
theorem bal_b (hI : IV pp s n lo na p) (hJ : JV q s n na p) {o : Nat} (ho : o < 30) : ∀ a, a ≤ na → -(82000000 * (a : Int)) ≤ bal s a o ∧ bal s a o ≤ 82000000 * (a : Int)
  | 0, _ => by rw [bal]; omega
  | a + 1, h => by
    have h1 := bal_b hI hJ ho a (by omega)
    have h2 := bI_b hI hJ (show a < na by omega) o (i := cn s) (by rw [IV_cn hI]; exact IV_81 hI)
    have h3 := gt_le hI hJ (show a < na by omega) ho
    rw [bal]
    omega
/-- nothing is lost in an act's adjusting -/
theorem act0 (hI : IV pp s n lo na p) (hJ : JV q s n na p) (ha : a < na) : smi (fun o => bI s a o n) 30 + (sm (gt s a) 30 : Int) = 0 := by
  have hn81 := IV_81 hI
  have hcn := IV_cn hI
  have e1 : smi (fun o => bI s a o n) 30 = smi (bD s a) n := smi_swap n (fun i hi => (JV_own hJ hi).2)
  have e2 : smi (bD s a) n = smi (bD s a) 81 := by
    have h : ∀ m, n + m ≤ 81 → smi (bD s a) (n + m) = smi (bD s a) n := fun m => by
      induction m with
      | zero => exact fun _ => rfl
      | succ m ih =>
        intro hm
        show smi (bD s a) (n + m) + bD s a (n + m) = _
        rw [ih (by omega)]
        unfold bD
        rw [if_neg (fun w => by have := w.1; omega)]
        omega
    have := h (81 - n) (by omega)
    rw [show n + (81 - n) = 81 by omega] at this
    exact this.symm
  have ene : ¬ nI a = -1 := jm1 (by have := hI.2.2.1.2; omega)
  have e3 : smi (bD s a) 81 = (aMade s (-1) a : Int) - (sm (aBo s (-1) (hA s (-1) a) a) 81 : Int) := by
    unfold aMade
    rw [← smi_nat, ← smi_nat, ← smi_sub]
    refine smi_cg 81 (fun i _ => ?_)
    unfold bD
    by_cases hr : aRi s a i
    · rw [if_pos hr, if_pos hr]
      unfold aGood
      rw [if_neg ene]
    · have h0 : aBo s (-1) (hA s (-1) a) a i = 0 := dv_zero (by unfold aPart; rw [if_neg hr])
      rw [if_neg hr, if_neg hr, h0]
      rfl
  have e4 : sm (aBo s (-1) (hA s (-1) a) a) 81 = aSu s (-1) (hA s (-1) a) a := by
    by_cases hz : sm (aPart s (-1) (hA s (-1) a) a) 81 = 0
    · have h1 := aSu_le (s := s) (ou := -1) (hA s (-1) a) a
      have h2 : sm (aBo s (-1) (hA s (-1) a) a) 81 = 0 := sm_0 (fun i _ => by
        unfold aBo
        rw [dv_none hz])
      omega
    · exact dv_sum hz
  have e5 : sm (gt s a) 30 = aEx s (-1) (hA s (-1) a) a := by
    by_cases hz : sm (aSp s (-1) a) 30 = 0
    · have h1 := aEx_le (s := s) (hA s (-1) a) a (-1)
      have h2 : sm (gt s a) 30 = 0 := sm_0 (fun i _ => by
        unfold gt
        rw [dv_none hz])
      omega
    · exact dv_sum hz
  rw [e1, e2, e3, e4, e5]
  unfold aSu
  omega
theorem bal0 (hI : IV pp s n lo na p) (hJ : JV q s n na p) : ∀ a, a ≤ na → smi (bal s a) 30 = 0
  | 0, _ => smi_0 30 (fun _ _ => rfl)
  | a + 1, h => by
    have h1 := bal0 hI hJ a (by omega)
    have h2 := act0 hI hJ (show a < na by omega)
    have e : smi (bal s (a + 1)) 30 = smi (fun o => (bal s a o + bI s a o (cn s)) + (gt s a o : Int)) 30 := rfl
    rw [e, smi_add, smi_add, smi_nat, h1, IV_cn hI]
    omega
end
/-! payments -/
def pLo (B : Nat → Int) : Nat := pm (fun o => - B o) 29
def pHi (B : Nat → Int) : Nat := pm B 29
def pAm (B : Nat → Int) : Int := min (-(B (pLo B))) (B (pHi B))
def pSt (B : Nat → Int) : Nat → Int := u1 (u1 B (pLo B) (B (pLo B) + pAm B)) (pHi B) (B (pHi B) - pAm B)
def pB (B : Nat → Int) : Nat → Nat → Int
  | 0 => B
  | k + 1 => pSt (pB B k)
def pN (B : Nat → Int) : Nat → Nat
  | 0 => 0
  | f + 1 => if pAm B ≤ 0 then 0 else 1 + pN (pSt B) f
def nz (B : Nat → Int) : Nat := sm (fun o => if B o = 0 then 0 else 1) 30
section
variable {B : Nat → Int} {M : Int}
theorem pLo_lt : pLo B < 30 := by have := pm_le (fun o => - B o) 29; unfold pLo; omega
theorem pHi_lt : pHi B < 30 := by have := pm_le B 29; unfold pHi; omega
theorem pLo_le {o : Nat} (ho : o < 30) : B (pLo B) ≤ B o := by
  have := pm_ge (fun o => - B o) 29 o (by omega)
  unfold pLo
  omega
theorem pHi_ge {o : Nat} (ho : o < 30) : B o ≤ B (pHi B) := pm_ge B 29 o (by omega)
theorem p_sg (h0 : smi B 30 = 0) : B (pLo B) ≤ 0 ∧ 0 ≤ B (pHi B) := by
  constructor
  · apply Classical.byContradiction
    intro hn
    have h1 := smi_ge (f := B) (j := 0) 30 (by decide) (fun i hi => by have := pLo_le (B := B) hi; omega)
    have h2 := pLo_le (B := B) (o := 0) (by decide)
    omega
  · apply Classical.byContradiction
    intro hn
    have h1 := smi_ge (f := fun o => 0 - B o) (j := 0) 30 (by decide) (fun i hi => by have := pHi_ge (B := B) hi; omega)
    rw [smi_sub, smi_0 30 (fun _ _ => rfl), h0] at h1
    have h2 := pHi_ge (B := B) (o := 0) (by decide)
    omega
/-- when a payment is due -/
theorem p_due (hp : ¬ pAm B ≤ 0) : B (pLo B) < 0 ∧ 0 < B (pHi B) ∧ pLo B ≠ pHi B ∧ pAm B ≤ -(B (pLo B)) ∧ pAm B ≤ B (pHi B) ∧ (pAm B = -(B (pLo B)) ∨ pAm B = B (pHi B)) := by
  unfold pAm at hp ⊢
  have h1 : B (pLo B) < 0 := by omega
  have h2 : 0 < B (pHi B) := by omega
  refine ⟨h1, h2, fun z => ?_, by omega, by omega, by omega⟩
  rw [z] at h1
  omega
theorem p_not (h0 : smi B 30 = 0) : (pAm B ≤ 0) ↔ (B (pLo B) = 0 ∨ B (pHi B) = 0) := by
  have := p_sg h0
  unfold pAm
  omega
theorem pSt_at (o : Nat) : pSt B o = if o = pHi B then B (pHi B) - pAm B else if o = pLo B then B (pLo B) + pAm B else B o := rfl
theorem pSt_sum (h0 : smi B 30 = 0) (hp : ¬ pAm B ≤ 0) : smi (pSt B) 30 = 0 := by
  obtain ⟨-, -, hne, -⟩ := p_due hp
  have h1 := smi_up (f := B) (g := u1 B (pLo B) (B (pLo B) + pAm B)) 30 pLo_lt (fun i _ hi => if_neg hi)
  have h2 := smi_up (f := u1 B (pLo B) (B (pLo B) + pAm B)) (g := pSt B) 30 (pHi_lt (B := B)) (fun i _ hi => if_neg hi)
  have e1 : u1 B (pLo B) (B (pLo B) + pAm B) (pLo B) = B (pLo B) + pAm B := if_pos rfl
  have e2 : u1 B (pLo B) (B (pLo B) + pAm B) (pHi B) = B (pHi B) := if_neg (fun z => hne z.symm)
  have e3 : pSt B (pHi B) = B (pHi B) - pAm B := if_pos rfl
  rw [e1] at h1
  rw [e2, e3] at h2
  omega
theorem pSt_b (hp : ¬ pAm B ≤ 0) (hb : ∀ o, o < 30 → -M ≤ B o ∧ B o ≤ M) : ∀ o, o < 30 → -M ≤ pSt B o ∧ pSt B o ≤ M := fun o ho => by
  obtain ⟨h1, h2, hne, h3, h4, h5⟩ := p_due hp
  have hl := hb _ (pLo_lt (B := B))
  have hh := hb _ (pHi_lt (B := B))
  have ho := hb o ho
  rw [pSt_at]
  split
  · omega
  · split
    · omega
    · exact ho
theorem pSt_nz (hp : ¬ pAm B ≤ 0) : nz (pSt B) + 1 ≤ nz B := by
  obtain ⟨h1, h2, hne, h3, h4, h5⟩ := p_due hp
  have hlo := pLo_lt (B := B)
  have hhi := pHi_lt (B := B)
  have s1 := sm_up (f := fun o => if B o = 0 then 0 else 1) (g := fun o => if u1 B (pLo B) (B (pLo B) + pAm B) o = 0 then 0 else 1) (n := 30) hlo (fun i _ hi => by
    show (if u1 B (pLo B) (B (pLo B) + pAm B) i = 0 then 0 else 1) = _
    unfold u1
    rw [if_neg hi])
  have s2 := sm_up (f := fun o => if u1 B (pLo B) (B (pLo B) + pAm B) o = 0 then 0 else 1) (g := fun o => if pSt B o = 0 then 0 else 1) (n := 30) hhi (fun i _ hi => by
    show (if u1 (u1 B (pLo B) (B (pLo B) + pAm B)) (pHi B) (B (pHi B) - pAm B) i = 0 then 0 else 1) = (if u1 B (pLo B) (B (pLo B) + pAm B) i = 0 then 0 else 1)
    unfold u1
    rw [if_neg hi])
  have e1 : u1 B (pLo B) (B (pLo B) + pAm B) (pLo B) = B (pLo B) + pAm B := if_pos rfl
  have e2 : u1 B (pLo B) (B (pLo B) + pAm B) (pHi B) = B (pHi B) := if_neg (fun z => hne z.symm)
  have e3 : pSt B (pHi B) = B (pHi B) - pAm B := if_pos rfl
  rw [e1, if_neg (show ¬ B (pLo B) = 0 by omega)] at s1
  rw [e2, e3, if_neg (show ¬ B (pHi B) = 0 by omega)] at s2
  unfold nz
  have b1 : (if B (pLo B) + pAm B = 0 then 0 else 1) ≤ 1 := by split <;> omega
  have b2 : (if B (pHi B) - pAm B = 0 then 0 else 1) ≤ 1 := by split <;> omega
  rcases h5 with h5 | h5
  · have : (if B (pLo B) + pAm B = 0 then 0 else 1) = 0 := if_pos (by omega)
    omega
  · have : (if B (pHi B) - pAm B = 0 then 0 else 1) = 0 := if_pos (by omega)
    omega
theorem nz_le : nz B ≤ 30 := by
  have := sm_b (f := fun o => if B o = 0 then 0 else 1) (b := 1) 30 (fun i _ => by split <;> omega)
  exact this
theorem nz_pos (hp : ¬ pAm B ≤ 0) : 1 ≤ nz B := by have := pSt_nz hp; omega
/-- while payments are made: k of them -/
def PI (B : Nat → Int) (M : Int) (k : Nat) : Prop := k ≤ 30 ∧ nz (pB B k) ≤ 30 - k ∧ pN B 30 = k + pN (pB B k) (30 - k) ∧ smi (pB B k) 30 = 0 ∧ ∀ o, o < 30 → -M ≤ pB B k o ∧ pB B k o ≤ M
theorem PI_0 (h0 : smi B 30 = 0) (hb : ∀ o, o < 30 → -M ≤ B o ∧ B o ≤ M) : PI B M 0 := ⟨by omega, nz_le, by show pN B 30 = 0 + pN B 30; omega, h0, hb⟩
theorem PI_s {k : Nat} (h : PI B M k) (hp : ¬ pAm (pB B k) ≤ 0) : PI B M (k + 1) ∧ k < 30 := by
  obtain ⟨h1, h2, h3, h4, h5⟩ := h
  have h6 := pSt_nz hp
  have h7 : 30 - k = (30 - (k + 1)) + 1 := by omega
  refine ⟨⟨by omega, ?_, ?_, pSt_sum h4 hp, pSt_b hp h5⟩, by omega⟩
  · show nz (pSt (pB B k)) ≤ _
    omega
  · rw [h7] at h3
    have : pN (pB B k) (30 - (k + 1) + 1) = 1 + pN (pSt (pB B k)) (30 - (k + 1)) := if_neg hp
    rw [this] at h3
    show _ = k + 1 + pN (pSt (pB B k)) (30 - (k + 1))
    omega
theorem PI_e {k : Nat} (h : PI B M k) (hp : pAm (pB B k) ≤ 0) : pN B 30 = k := by
  obtain ⟨h1, h2, h3, h4, h5⟩ := h
  rw [h3]
  cases e : 30 - k with
  | zero => rfl
  | succ f =>
    have : pN (pB B k) (f + 1) = 0 := if_pos hp
    rw [this]
    rfl
theorem PI_30 (h : PI B M 30) : pN B 30 = 30 := h.2.2.1
theorem PI_f {k : Nat} (h : PI B M k) (hk : k = 30) : pAm (pB B k) ≤ 0 := by
  apply Classical.byContradiction
  intro hp
  have := nz_pos hp
  have := h.2.1
  omega
end
