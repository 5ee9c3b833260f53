/-! THE CLASS: a voyage's objects. ad k i, of voyage v: 0 itself, 1 its list of interests, 3 interest i, 4 its list of acts, 6 act i, 7 .. 13 the arrays of act i (at risk, taken, made, part, borne, spent, got), 14 its list of events, 16 event i, 17 its settlement, 18 .. 22 that one's arrays (balances, payers, payees, amounts, open). aj: 0 the adjuster, 1 .. 4 its arrays -/
def Tg (v k i : Nat) : Nat := 1000 + 100000 * v + 1000 * k + i
/-- is the ship lost -/
def vWr (q : Nat) (s : VS) : Int32 := if s.1 6 = 0 ∨ s.1 0 = nI (q - 1) then 0 else 1
def fS (q : Nat) (s : VS) : Nat → Int32 := fun k => if k = 0 then s.1 0 else if k = 1 then s.1 5 else if k = 2 then s.1 4 else if k = 3 then vWr q s else s.1 2
def cV0 (h : jd_H) (tg : Nat → Nat) (ad : Nat → Nat → Nat) (aj : Nat → Nat) (v : Nat) (po : Int32) (q : Nat) (f : Nat → Int32) : Prop :=
  (zK h (ad 0 0) = 7 ∧ tg (ad 0 0) = Tg v 0 0) ∧ (zR h 448 (ad 0 0) = some (ad 1 0) ∧ zR h 449 (ad 0 0) = some (ad 4 0) ∧ zR h 450 (ad 0 0) = some (ad 14 0) ∧ zR h 451 (ad 0 0) = some (ad 17 0) ∧ zR h 454 (ad 0 0) = some (aj 0)) ∧ (zI h 452 (ad 0 0) = po ∧ zI h 453 (ad 0 0) = nI q) ∧ (zI h 455 (ad 0 0) = f 0 ∧ zI h 456 (ad 0 0) = f 1 ∧ zI h 457 (ad 0 0) = f 2 ∧ zI h 458 (ad 0 0) = f 3 ∧ zI h 459 (ad 0 0) = f 4)
def cIn (h : jd_H) (tg : Nat → Nat) (ad : Nat → Nat → Nat) (v i : Nat) (f : Nat → Nat → Int32) : Prop := (zK h (ad 3 i) = 5 ∧ tg (ad 3 i) = Tg v 3 i) ∧ zI h 320 (ad 3 i) = f 0 i ∧ zI h 321 (ad 3 i) = f 1 i ∧ zI h 322 (ad 3 i) = f 3 i ∧ zI h 323 (ad 3 i) = f 5 i ∧ zI h 324 (ad 3 i) = f 6 i ∧ zI h 325 (ad 3 i) = f 4 i ∧ zI h 326 (ad 3 i) = f 2 i
def cVI (h : jd_H) (tg : Nat → Nat) (ad : Nat → Nat → Nat) (v n : Nat) (f : Nat → Nat → Int32) : Prop := vLS h tg (Tg v 1 0) (ad 1 0) n (ad 3) ∧ ∀ i, i < n → cIn h tg ad v i f
/-- an act's objects -/
def cAo (h : jd_H) (tg : Nat → Nat) (ad : Nat → Nat → Nat) (v a : Nat) : Prop := (zK h (ad 6 a) = 2 ∧ tg (ad 6 a) = Tg v 6 a) ∧ ∀ k, k < 7 → zR h (128 + k) (ad 6 a) = some (ad (7 + k) a) ∧ tg (ad (7 + k) a) = Tg v (7 + k) a ∧ zK h (ad (7 + k) a) = (if k = 0 then 12 else 10) ∧ zL h (ad (7 + k) a) = (if k < 5 then 81 else 30)
def cAc (h : jd_H) (ad : Nat → Nat → Nat) (a : Nat) (f : Nat → Nat → Int32) (sp : Nat → Int32) : Prop := (∀ i, i < 81 → zA h (ad 7 a) i = f 0 i ∧ zA h (ad 8 a) i = f 1 i ∧ zA h (ad 9 a) i = f 2 i) ∧ (∀ o, o < 30 → zA h (ad 12 a) o = sp o) ∧ zI h 135 (ad 6 a) = si sp 30 ∧ zI h 136 (ad 6 a) = si (f 2) 81
def cVA (h : jd_H) (tg : Nat → Nat) (ad : Nat → Nat → Nat) (v na : Nat) (f : Nat → Nat → Nat → Int32) (sp : Nat → Nat → Int32) : Prop := vLS h tg (Tg v 4 0) (ad 4 0) na (ad 6) ∧ ∀ a, a < na → cAo h tg ad v a ∧ cAc h ad a (fun k => f k a) (sp a)
def cVE (h : jd_H) (tg : Nat → Nat) (ad : Nat → Nat → Nat) (v len : Nat) (F : Nat → Nat → Int32) : Prop := vLS h tg (Tg v 14 0) (ad 14 0) len (ad 16) ∧ ∀ k, k < len → (zK h (ad 16 k) = 4 ∧ tg (ad 16 k) = Tg v 16 k) ∧ ∀ c, c < 5 → zI h (256 + c) (ad 16 k) = F k c
def cVS (h : jd_H) (tg : Nat → Nat) (ad : Nat → Nat → Nat) (v : Nat) : Prop := (zK h (ad 17 0) = 6 ∧ tg (ad 17 0) = Tg v 17 0) ∧ (zR h 384 (ad 17 0) = some (ad 18 0) ∧ zR h 385 (ad 17 0) = some (ad 19 0) ∧ zR h 386 (ad 17 0) = some (ad 20 0) ∧ zR h 387 (ad 17 0) = some (ad 21 0) ∧ zR h 389 (ad 17 0) = some (ad 22 0)) ∧ ∀ k, 18 ≤ k → k ≤ 22 → zK h (ad k 0) = 10 ∧ zL h (ad k 0) = 30 ∧ tg (ad k 0) = Tg v k 0
def cVJ (h : jd_H) (tg : Nat → Nat) (aj : Nat → Nat) : Prop := (zK h (aj 0) = 3 ∧ tg (aj 0) = 200) ∧ (zR h 192 (aj 0) = some (aj 1) ∧ zR h 193 (aj 0) = some (aj 2) ∧ zR h 194 (aj 0) = some (aj 3) ∧ zR h 195 (aj 0) = some (aj 4)) ∧ (zK h (aj 1) = 10 ∧ zK h (aj 2) = 10 ∧ zK h (aj 3) = 10 ∧ zK h (aj 4) = 11) ∧ ∀ k, 1 ≤ k → k ≤ 4 → zL h (aj k) = 81 ∧ tg (aj k) = 200 + k
/-- what was adjusted, when the voyage is ended -/
def cVR (h : jd_H) (ad : Nat → Nat → Nat) (n na : Nat) (s : VS) : Prop :=
  (∀ i, i < n → zI h 328 (ad 3 i) = nI (hs s (-1) na i)) ∧
  (∀ a, a < na → (∀ i, i < n → zA h (ad 10 a) i = nI (aPart s (-1) (hA s (-1) a) a i) ∧ zA h (ad 11 a) i = nI (aBo s (-1) (hA s (-1) a) a i)) ∧ (∀ o, o < 30 → zA h (ad 13 a) o = nI (gt s a o)) ∧ zI h 137 (ad 6 a) = nI (aEx s (-1) (hA s (-1) a) a) ∧ zI h 138 (ad 6 a) = nI (aSu s (-1) (hA s (-1) a) a) ∧ zI h 139 (ad 6 a) = nI (sm (aPart s (-1) (hA s (-1) a) a) 81)) ∧
  (∀ o, o < 30 → zA h (ad 18 0) o = Int32.ofInt (bal s na o)) ∧ zI h 388 (ad 17 0) = nI (pN (bal s na) 30) ∧ ∀ j, j < pN (bal s na) 30 → zA h (ad 19 0) j = nI (pLo (pB (bal s na) j)) ∧ zA h (ad 20 0) j = nI (pHi (pB (bal s na) j)) ∧ zA h (ad 21 0) j = Int32.ofInt (pAm (pB (bal s na) j))
section
variable {P : Nat → Prop} {h h1 : jd_H} {tg t1 : Nat → Nat} {ad : Nat → Nat → Nat} {aj : Nat → Nat} {v n na len q : Nat} {po : Int32}
theorem cV0_fr {f : Nat → Int32} (c : cV0 h tg ad aj v po q f) (x : AG P h h1 tg t1) (hp : P (Tg v 0 0)) : cV0 h1 t1 ad aj v po q f := by
  have k0 : zK h (ad 0 0) ≠ 0 := by rw [c.1.1]; decide
  have hp' : P (tg (ad 0 0)) := by rw [c.1.2]; exact hp
  unfold cV0 at c ⊢
  simp only [AG_I x k0 hp', AG_R x k0 hp', (x _ k0).1, AG_g x k0]
  exact c
theorem cIn_fr {i : Nat} {f : Nat → Nat → Int32} (c : cIn h tg ad v i f) (x : AG P h h1 tg t1) (hp : P (Tg v 3 i)) : cIn h1 t1 ad v i f := by
  have k0 : zK h (ad 3 i) ≠ 0 := by rw [c.1.1]; decide
  have hp' : P (tg (ad 3 i)) := by rw [c.1.2]; exact hp
  unfold cIn at c ⊢
  simp only [AG_I x k0 hp', (x _ k0).1, AG_g x k0]
  exact c
theorem cVI_fr {f : Nat → Nat → Int32} (c : cVI h tg ad v n f) (x : AG P h h1 tg t1) (hp : P (Tg v 1 0)) (hp2 : ∀ i, i < n → P (Tg v 3 i)) : cVI h1 t1 ad v n f := ⟨vLS_fr c.1 x hp, fun i hi => cIn_fr (c.2 i hi) x (hp2 i hi)⟩
theorem cAo_nz {a k : Nat} (c : cAo h tg ad v a) (hk : k < 7) : zK h (ad (7 + k) a) ≠ 0 := by
  rw [(c.2 k hk).2.2.1]
  split <;> decide
theorem cAo_fr {a : Nat} (c : cAo h tg ad v a) (x : AG P h h1 tg t1) (hp : P (Tg v 6 a)) : cAo h1 t1 ad v a := by
  have k0 : zK h (ad 6 a) ≠ 0 := by rw [c.1.1]; decide
  have hp' : P (tg (ad 6 a)) := by rw [c.1.2]; exact hp
  refine ⟨by rw [(x _ k0).1, AG_g x k0]; exact c.1, fun k hk => ?_⟩
  have n0 := cAo_nz c hk
  rw [AG_R x k0 hp', AG_g x n0, (x _ n0).1, AG_L x n0]
  exact c.2 k hk
theorem cAc_fr {a : Nat} {f : Nat → Nat → Int32} {sp : Nat → Int32} (o : cAo h tg ad v a) (c : cAc h ad a f sp) (x : AG P h h1 tg t1) (hp : P (Tg v 6 a)) (h7 : P (Tg v 7 a)) (h8 : P (Tg v 8 a)) (h9 : P (Tg v 9 a)) (h12 : P (Tg v 12 a)) : cAc h1 ad a f sp := by
  have k0 : zK h (ad 6 a) ≠ 0 := by rw [o.1.1]; decide
  have hp' : P (tg (ad 6 a)) := by rw [o.1.2]; exact hp
  have a7 : zA h1 (ad 7 a) = zA h (ad 7 a) := AG_A x (cAo_nz o (k := 0) (by decide)) (by rw [(o.2 0 (by decide)).2.1]; exact h7)
  have a8 : zA h1 (ad 8 a) = zA h (ad 8 a) := AG_A x (cAo_nz o (k := 1) (by decide)) (by rw [(o.2 1 (by decide)).2.1]; exact h8)
  have a9 : zA h1 (ad 9 a) = zA h (ad 9 a) := AG_A x (cAo_nz o (k := 2) (by decide)) (by rw [(o.2 2 (by decide)).2.1]; exact h9)
  have a12 : zA h1 (ad 12 a) = zA h (ad 12 a) := AG_A x (cAo_nz o (k := 5) (by decide)) (by rw [(o.2 5 (by decide)).2.1]; exact h12)
  unfold cAc at c ⊢
  rw [AG_I x k0 hp', AG_I x k0 hp', a7, a8, a9, a12]
  exact c
theorem cVA_fr {f : Nat → Nat → Nat → Int32} {sp : Nat → Nat → Int32} (c : cVA h tg ad v na f sp) (x : AG P h h1 tg t1) (hp : P (Tg v 4 0)) (hp2 : ∀ a k, a < na → 6 ≤ k → k ≤ 13 → P (Tg v k a)) : cVA h1 t1 ad v na f sp := ⟨vLS_fr c.1 x hp, fun a ha => ⟨cAo_fr (c.2 a ha).1 x (hp2 a 6 ha (by omega) (by omega)), cAc_fr (c.2 a ha).1 (c.2 a ha).2 x (hp2 a 6 ha (by omega) (by omega)) (hp2 a 7 ha (by omega) (by omega)) (hp2 a 8 ha (by omega) (by omega)) (hp2 a 9 ha (by omega) (by omega)) (hp2 a 12 ha (by omega) (by omega))⟩⟩
theorem cVE_fr {F : Nat → Nat → Int32} (c : cVE h tg ad v len F) (x : AG P h h1 tg t1) (hp : P (Tg v 14 0)) (hp2 : ∀ i, i < len → P (Tg v 16 i)) : cVE h1 t1 ad v len F := by
  refine ⟨vLS_fr c.1 x hp, fun k hk => ?_⟩
  obtain ⟨⟨c1, c2⟩, c3⟩ := c.2 k hk
  have k0 : zK h (ad 16 k) ≠ 0 := by rw [c1]; decide
  refine ⟨by rw [(x _ k0).1, AG_g x k0]; exact ⟨c1, c2⟩, fun i hi => ?_⟩
  rw [AG_I x k0 (by rw [c2]; exact hp2 k hk)]
  exact c3 i hi
theorem cVS_fr (c : cVS h tg ad v) (x : AG P h h1 tg t1) (hp : P (Tg v 17 0)) : cVS h1 t1 ad v := by
  have k0 : zK h (ad 17 0) ≠ 0 := by rw [c.1.1]; decide
  have hp' : P (tg (ad 17 0)) := by rw [c.1.2]; exact hp
  refine ⟨by rw [(x _ k0).1, AG_g x k0]; exact c.1, by rw [AG_R x k0 hp', AG_R x k0 hp', AG_R x k0 hp', AG_R x k0 hp', AG_R x k0 hp']; exact c.2.1, fun k h1 h2 => ?_⟩
  have n0 : zK h (ad k 0) ≠ 0 := by rw [(c.2.2 k h1 h2).1]; decide
  rw [(x _ n0).1, AG_L x n0, AG_g x n0]
  exact c.2.2 k h1 h2
theorem cVJ_nz (c : cVJ h tg aj) {k : Nat} (h1 : 1 ≤ k) (h4 : k ≤ 4) : zK h (aj k) ≠ 0 := by
  have hk : k = 1 ∨ k = 2 ∨ k = 3 ∨ k = 4 := by omega
  rcases hk with rfl | rfl | rfl | rfl
  · rw [c.2.2.1.1]; decide
  · rw [c.2.2.1.2.1]; decide
  · rw [c.2.2.1.2.2.1]; decide
  · rw [c.2.2.1.2.2.2]; decide
theorem cVJ_fr (c : cVJ h tg aj) (x : AG P h h1 tg t1) (hp : P 200) : cVJ h1 t1 aj := by
  have k0 : zK h (aj 0) ≠ 0 := by rw [c.1.1]; decide
  have hp' : P (tg (aj 0)) := by rw [c.1.2]; exact hp
  refine ⟨by rw [(x _ k0).1, AG_g x k0]; exact c.1, by rw [AG_R x k0 hp', AG_R x k0 hp', AG_R x k0 hp', AG_R x k0 hp']; exact c.2.1, ?_, fun k h1 h2 => ?_⟩
  · rw [(x _ (cVJ_nz c (k := 1) (by decide) (by decide))).1, (x _ (cVJ_nz c (k := 2) (by decide) (by decide))).1, (x _ (cVJ_nz c (k := 3) (by decide) (by decide))).1, (x _ (cVJ_nz c (k := 4) (by decide) (by decide))).1]
    exact c.2.2.1
  · rw [AG_L x (cVJ_nz c h1 h2), AG_g x (cVJ_nz c h1 h2)]
    exact c.2.2.2 k h1 h2
theorem cVR_fr {s : VS} {f : Nat → Nat → Int32} {F : Nat → Nat → Nat → Int32} {sp : Nat → Nat → Int32} (c : cVR h ad n na s) (i : cVI h tg ad v n f) (a : cVA h tg ad v na F sp) (z : cVS h tg ad v) (x : AG P h h1 tg t1) (hp1 : ∀ i, i < n → P (Tg v 3 i)) (hp2 : ∀ a k, a < na → 6 ≤ k → k ≤ 13 → P (Tg v k a)) (hp3 : ∀ k, 17 ≤ k → k ≤ 22 → P (Tg v k 0)) : cVR h1 ad n na s := by
  obtain ⟨c1, c2, c3, c4, c5⟩ := c
  have zk : ∀ k, 18 ≤ k → k ≤ 22 → zA h1 (ad k 0) = zA h (ad k 0) := fun k k1 k2 => AG_A x (by rw [(z.2.2 k k1 k2).1]; decide) (by rw [(z.2.2 k k1 k2).2.2]; exact hp3 k (by omega) k2)
  refine ⟨fun j hj => ?_, fun b hb => ?_, ?_, ?_, ?_⟩
  · obtain ⟨⟨k1, k2⟩, -⟩ := i.2 j hj
    rw [AG_I x (by rw [k1]; decide) (by rw [k2]; exact hp1 j hj)]
    exact c1 j hj
  · have o := (a.2 b hb).1
    have k0 : zK h (ad 6 b) ≠ 0 := by rw [o.1.1]; decide
    have hp' : P (tg (ad 6 b)) := by rw [o.1.2]; exact hp2 b 6 hb (by omega) (by omega)
    have a10 : zA h1 (ad 10 b) = zA h (ad 10 b) := AG_A x (cAo_nz o (k := 3) (by decide)) (by rw [(o.2 3 (by decide)).2.1]; exact hp2 b 10 hb (by omega) (by omega))
    have a11 : zA h1 (ad 11 b) = zA h (ad 11 b) := AG_A x (cAo_nz o (k := 4) (by decide)) (by rw [(o.2 4 (by decide)).2.1]; exact hp2 b 11 hb (by omega) (by omega))
    have a13 : zA h1 (ad 13 b) = zA h (ad 13 b) := AG_A x (cAo_nz o (k := 6) (by decide)) (by rw [(o.2 6 (by decide)).2.1]; exact hp2 b 13 hb (by omega) (by omega))
    rw [AG_I x k0 hp', AG_I x k0 hp', AG_I x k0 hp', a10, a11, a13]
    exact c2 b hb
  · rw [zk 18 (by decide) (by decide)]; exact c3
  · rw [AG_I x (by rw [z.1.1]; decide) (by rw [z.1.2]; exact hp3 17 (by decide) (by decide))]; exact c4
  · rw [zk 19 (by decide) (by decide), zk 20 (by decide) (by decide), zk 21 (by decide) (by decide)]; exact c5
/-- a number of the voyage itself is set -/
theorem cV0_w {f : Nat → Int32} {k : Nat} {x : Int32} (c : cV0 h tg ad aj v po q f) (hk : k < 5) : cV0 (wI h (455 + k) (ad 0 0) x) tg ad aj v po q (u1 f k x) := by
  obtain ⟨c1, c2, c3, c4, c5, c6, c7, c8⟩ := c
  have hk' : k = 0 ∨ k = 1 ∨ k = 2 ∨ k = 3 ∨ k = 4 := by omega
  refine ⟨c1, c2, ⟨?_, ?_⟩, ?_⟩
  · rw [wI_ne (by omega)]; exact c3.1
  · rw [wI_ne (by omega)]; exact c3.2
  · rcases hk' with rfl | rfl | rfl | rfl | rfl
    · exact ⟨wI_s, (wI_ne (by decide)).trans c5, (wI_ne (by decide)).trans c6, (wI_ne (by decide)).trans c7, (wI_ne (by decide)).trans c8⟩
    · exact ⟨(wI_ne (by decide)).trans c4, wI_s, (wI_ne (by decide)).trans c6, (wI_ne (by decide)).trans c7, (wI_ne (by decide)).trans c8⟩
    · exact ⟨(wI_ne (by decide)).trans c4, (wI_ne (by decide)).trans c5, wI_s, (wI_ne (by decide)).trans c7, (wI_ne (by decide)).trans c8⟩
    · exact ⟨(wI_ne (by decide)).trans c4, (wI_ne (by decide)).trans c5, (wI_ne (by decide)).trans c6, wI_s, (wI_ne (by decide)).trans c8⟩
    · exact ⟨(wI_ne (by decide)).trans c4, (wI_ne (by decide)).trans c5, (wI_ne (by decide)).trans c6, (wI_ne (by decide)).trans c7, wI_s⟩
theorem cV0_cg {f f' : Nat → Int32} (c : cV0 h tg ad aj v po q f) (hf : ∀ k, k < 5 → f' k = f k) : cV0 h tg ad aj v po q f' := by
  obtain ⟨c1, c2, c3, c4, c5, c6, c7, c8⟩ := c
  exact ⟨c1, c2, c3, by rw [hf 0 (by decide)]; exact c4, by rw [hf 1 (by decide)]; exact c5, by rw [hf 2 (by decide)]; exact c6, by rw [hf 3 (by decide)]; exact c7, by rw [hf 4 (by decide)]; exact c8⟩
theorem cVI_cg {f f' : Nat → Nat → Int32} (c : cVI h tg ad v n f) (hf : ∀ k i, k < 7 → i < n → f' k i = f k i) : cVI h tg ad v n f' := by
  refine ⟨c.1, fun i hi => ?_⟩
  have := c.2 i hi
  unfold cIn at this ⊢
  rw [hf 0 i (by decide) hi, hf 1 i (by decide) hi, hf 3 i (by decide) hi, hf 5 i (by decide) hi, hf 6 i (by decide) hi, hf 4 i (by decide) hi, hf 2 i (by decide) hi]
  exact this
end
theorem si_cg {f f' : Nat → Int32} : ∀ n, (∀ i, i < n → f' i = f i) → si f' n = si f n
  | 0, _ => rfl
  | n + 1, h => by rw [si, si, si_cg n (fun i hi => h i (by omega)), h n (by omega)]
theorem si_0 {f : Nat → Int32} : ∀ n, (∀ i, i < n → f i = 0) → si f n = 0
  | 0, _ => rfl
  | n + 1, h => by rw [si, si_0 n (fun i hi => h i (by omega)), h n (by omega)]; rfl
theorem si_up {f f' : Nat → Int32} {j : Nat} {x : Int32} : ∀ n, j < n → f' j = f j + x → (∀ i, i < n → i ≠ j → f' i = f i) → si f' n = si f n + x
  | 0, hj, _, _ => by omega
  | n + 1, hj, hx, h => by
    rw [si, si]
    by_cases e : j = n
    · subst e
      rw [si_cg j (fun i hi => h i (by omega) (by omega)), hx, Int32.add_assoc]
    · rw [si_up n (by omega) hx (fun i hi hne => h i (by omega) hne), h n (by omega) (fun z => e z.symm), Int32.add_assoc, Int32.add_assoc, Int32.add_comm x]
theorem cVA_cg {h : jd_H} {tg : Nat → Nat} {ad : Nat → Nat → Nat} {v na : Nat} {f f' : Nat → Nat → Nat → Int32} {sp sp' : Nat → Nat → Int32} (c : cVA h tg ad v na f sp) (hf : ∀ k a i, k < 3 → a < na → i < 81 → f' k a i = f k a i) (hs : ∀ a o, a < na → o < 30 → sp' a o = sp a o) : cVA h tg ad v na f' sp' := by
  refine ⟨c.1, fun a ha => ⟨(c.2 a ha).1, ?_⟩⟩
  obtain ⟨c1, c2, c3, c4⟩ := (c.2 a ha).2
  refine ⟨fun i hi => ?_, fun o ho => ?_, ?_, ?_⟩
  · dsimp only
    rw [hf 0 a i (by decide) ha hi, hf 1 a i (by decide) ha hi, hf 2 a i (by decide) ha hi]; exact c1 i hi
  · rw [hs a o ha ho]; exact c2 o ho
  · rw [si_cg 30 (fun o ho => hs a o ha ho)]; exact c3
  · rw [si_cg 81 (fun i hi => hf 2 a i (by decide) ha hi)]; exact c4
