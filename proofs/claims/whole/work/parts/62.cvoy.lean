/-! THE CLASS's VOYAGE: its events, and what it holds after them -/
/-- what the class notes of event e, done at s -/
def evF (s : VS) (e : Ev) : Nat → Int32 := if e 0 = 3 ∨ e 0 = 5 then evR (e 0) (e 1) (e 2) (vLess s (nn (e 1)) (e 2)) (s.1 4) else if e 0 = 4 then evR 4 (e 1) (e 2) 0 (s.1 4) else evR (e 0) (-1) 0 0 (s.1 4)
def eK (e : Ev) : Prop := ∃ c, c < 7 ∧ e 0 = nI c
/-- what was left when the ship was lost -/
def cVW (h : jd_H) (ad : Nat → Nat → Nat) (po w0 : Int32) (q : Nat) (l : List Ev) : Prop := ∀ e l', l = e :: l' → e 0 = 6 → ∀ i, i < cn (rep (nI q) po w0 l') → ¬ (rep (nI q) po w0 l').2.1 8 i = 0 → zI h 327 (ad 3 i) = (rep (nI q) po w0 l').2.1 2 i
def cVoy (h : jd_H) (tg : Nat → Nat) (ad : Nat → Nat → Nat) (aj : Nat → Nat) (v : Nat) (po w0 : Int32) (q : Nat) (l : List Ev) : Prop :=
  (VB po w0 q ∧ okl (nI q) po w0 l ∧ (∀ k, k < l.length → eK (evk l k))) ∧
  cV0 h tg ad aj v po q (fS q (rep (nI q) po w0 l)) ∧ cVI h tg ad v (cn (rep (nI q) po w0 l)) (rep (nI q) po w0 l).2.1 ∧ cVA h tg ad v (ca (rep (nI q) po w0 l)) (rep (nI q) po w0 l).2.2.1 (rep (nI q) po w0 l).2.2.2 ∧
  cVE h tg ad v l.length (fun k => evF (rep (nI q) po w0 (lastn l k)) (evk l k)) ∧ cVS h tg ad v ∧ cVW h ad po w0 q l ∧ (¬ (rep (nI q) po w0 l).1 6 = 0 → cVR h ad (cn (rep (nI q) po w0 l)) (ca (rep (nI q) po w0 l)) (rep (nI q) po w0 l))
section
variable {h : jd_H} {tg aj : Nat → Nat} {ad a2 : Nat → Nat → Nat} {v n na len q : Nat} {po w0 : Int32} {l : List Ev} {e : Ev} {s : VS}
theorem cV0_ad {f : Nat → Int32} (c : cV0 h tg ad aj v po q f) (hd : ∀ k, (k = 0 ∨ k = 1 ∨ k = 4 ∨ k = 14 ∨ k = 17) → a2 k 0 = ad k 0) : cV0 h tg a2 aj v po q f := by
  unfold cV0 at c ⊢
  rw [hd 0 (by omega), hd 1 (by omega), hd 4 (by omega), hd 14 (by omega), hd 17 (by omega)]
  exact c
theorem cVI_ad {f : Nat → Nat → Int32} (c : cVI h tg ad v n f) (h1 : a2 1 0 = ad 1 0) (h3 : ∀ i, i < n → a2 3 i = ad 3 i) : cVI h tg a2 v n f := by
  refine ⟨by rw [h1]; exact vLS_cg c.1 h3, fun i hi => ?_⟩
  have := c.2 i hi
  unfold cIn at this ⊢
  rw [h3 i hi]
  exact this
theorem cVA_ad {F : Nat → Nat → Nat → Int32} {sp : Nat → Nat → Int32} (c : cVA h tg ad v na F sp) (h4 : a2 4 0 = ad 4 0) (h6 : ∀ a k, a < na → 6 ≤ k → k ≤ 13 → a2 k a = ad k a) : cVA h tg a2 v na F sp := by
  refine ⟨by rw [h4]; exact vLS_cg c.1 (fun a ha => h6 a 6 ha (by omega) (by omega)), fun a ha => ?_⟩
  obtain ⟨⟨o1, o2⟩, cc⟩ := c.2 a ha
  refine ⟨⟨?_, fun k hk => ?_⟩, ?_⟩
  · rw [h6 a 6 ha (by omega) (by omega)]; exact o1
  · rw [h6 a 6 ha (by omega) (by omega), h6 a (7 + k) ha (by omega) (by omega)]; exact o2 k hk
  · unfold cAc at cc ⊢
    rw [h6 a 6 ha (by omega) (by omega), h6 a 7 ha (by omega) (by omega), h6 a 8 ha (by omega) (by omega), h6 a 9 ha (by omega) (by omega), h6 a 12 ha (by omega) (by omega)]
    exact cc
theorem cVE_ad {F : Nat → Nat → Int32} (c : cVE h tg ad v len F) (h14 : a2 14 0 = ad 14 0) (h16 : ∀ k, k < len → a2 16 k = ad 16 k) : cVE h tg a2 v len F := by
  refine ⟨by rw [h14]; exact vLS_cg c.1 h16, fun k hk => ?_⟩
  rw [h16 k hk]
  exact c.2 k hk
theorem cVE_cg {F F' : Nat → Nat → Int32} (c : cVE h tg ad v len F) (hF : ∀ k, k < len → F' k = F k) : cVE h tg ad v len F' := ⟨c.1, fun k hk => ⟨(c.2 k hk).1, by rw [hF k hk]; exact (c.2 k hk).2⟩⟩
theorem cVS_ad (c : cVS h tg ad v) (h17 : ∀ k, 17 ≤ k → k ≤ 22 → a2 k 0 = ad k 0) : cVS h tg a2 v := by
  refine ⟨by rw [h17 17 (by omega) (by omega)]; exact c.1, ?_, fun k h1 h2 => by rw [h17 k (by omega) h2]; exact c.2.2 k h1 h2⟩
  rw [h17 17 (by omega) (by omega), h17 18 (by omega) (by omega), h17 19 (by omega) (by omega), h17 20 (by omega) (by omega), h17 21 (by omega) (by omega), h17 22 (by omega) (by omega)]
  exact c.2.1
theorem lastn_c {k : Nat} (hk : k ≤ l.length) : lastn (e :: l) k = lastn l k := if_neg (by omega)
/-- a voyage with one event more -/
theorem cVoy_mk {r : Int32} {s' : VS} (hV : VB po w0 q) (hO : okl (nI q) po w0 l) (hK : ∀ k, k < l.length → eK (evk l k)) (he : eK e) (hz : vDo (nI q) po (rep (nI q) po w0 l) e = some (r, s'))
    (c0 : cV0 h tg ad aj v po q (fS q s')) (cI : cVI h tg ad v (cn s') s'.2.1) (cA : cVA h tg ad v (ca s') s'.2.2.1 s'.2.2.2) (cE : cVE h tg ad v (l.length + 1) (fun k => if k = l.length then evF (rep (nI q) po w0 l) e else evF (rep (nI q) po w0 (lastn l k)) (evk l k))) (cS : cVS h tg ad v)
    (cW : e 0 = 6 → ∀ i, i < cn (rep (nI q) po w0 l) → ¬ (rep (nI q) po w0 l).2.1 8 i = 0 → zI h 327 (ad 3 i) = (rep (nI q) po w0 l).2.1 2 i) (cR : ¬ s'.1 6 = 0 → cVR h ad (cn s') (ca s') s') : cVoy h tg ad aj v po w0 q (e :: l) := by
  have hrs : rep (nI q) po w0 (e :: l) = s' := rep_c hz
  unfold cVoy
  rw [hrs]
  refine ⟨⟨hV, ⟨hO, _, hz⟩, fun k hk => ?_⟩, c0, cI, cA, cVE_cg cE (fun k hk => ?_), cS, fun e' l' hl he6 => ?_, cR⟩
  · have hk : k < l.length + 1 := hk
    by_cases hkl : k = l.length
    · subst hkl; rw [evk_n]; exact he
    · rw [evk_o hkl]; exact hK k (by omega)
  · have hk : k < l.length + 1 := hk
    rw [lastn_c (by omega)]
    by_cases hkl : k = l.length
    · subst hkl; rw [evk_n, if_pos rfl, lastn_all]
    · rw [evk_o hkl, if_neg hkl]
  · injection hl with hl1 hl2
    subst hl1; subst hl2
    exact cW he6
theorem cVoy_IJ (c : cVoy h tg ad aj v po w0 q l) : IJ (nI q) q (rep (nI q) po w0 l) := IJ_rep rfl c.1.1.1 c.1.1.2.1 c.1.1.2.2 _ c.1.2.1
/-- all that belongs to voyage v, and the adjuster -/
def PV (v u : Nat) : Prop := (u < 200 ∨ 204 < u) ∧ ¬ (Tg v 0 0 ≤ u ∧ u < Tg (v + 1) 0 0)
theorem fS_0 : fS q s 0 = s.1 0 := rfl
theorem fS_1 : fS q s 1 = s.1 5 := rfl
theorem fS_2 : fS q s 2 = s.1 4 := rfl
theorem fS_3 : fS q s 3 = vWr q s := rfl
theorem fS_4 : fS q s 4 = s.1 2 := rfl
theorem fS_of {f : Nat → Int32} (h0 : f 0 = s.1 0) (h1 : f 1 = s.1 5) (h2 : f 2 = s.1 4) (h3 : f 3 = vWr q s) (h4 : f 4 = s.1 2) : ∀ k, k < 5 → fS q s k = f k := fun k hk => by
  have hk' : k = 0 ∨ k = 1 ∨ k = 2 ∨ k = 3 ∨ k = 4 := by omega
  rcases hk' with rfl | rfl | rfl | rfl | rfl
  · exact h0.symm
  · exact h1.symm
  · exact h2.symm
  · exact h3.symm
  · exact h4.symm
end
section
variable {g d : Nat} {h : jd_H} {Q : jd_Q} {tg aj : Nat → Nat} {ad : Nat → Nat → Nat} {v n lo na p q : Nat} {po w0 pp : Int32} {l : List Ev} {s : VS}
theorem takes_val (hI : IV pp s n lo na p) (hJ : JV q s n na p) : (if vWr q s = 0 ∧ s.1 0 < nI q - 1 then (1 : Int32) else 0) = if s.1 6 = 0 then 1 else 0 := by
  have h1 := ended_val hI hJ
  by_cases hc : vWr q s = 0 ∧ s.1 0 < nI q - 1
  · rw [if_pos hc] at h1 ⊢
    rw [if_pos h1.symm]
  · rw [if_neg hc] at h1 ⊢
    rw [if_neg (fun z => by rw [z] at h1; exact absurd h1 (by decide))]
/-- takesEvents, by the voyage's state -/
theorem k_takesV {F : Nat → Nat → Int32} {len : Nat} (hI : IV pp s n lo na p) (hJ : JV q s n na p) (c0 : cV0 h tg ad aj v po q (fS q s)) (cE : cVE h tg ad v len F) (hl : len ≤ 511) (hQ : Q (some (.int (if s.1 6 = 0 then 1 else 0))) h) : jd_WM g (d + 2) 35 [.ref (ad 0 0)] h Q := by
  obtain ⟨⟨kV, tV⟩, ⟨r448, r449, r450, r451, r454⟩, ⟨i452, i453⟩, i455, i456, i457, i458, i459⟩ := c0
  refine k_takesE kV r450 cE.1 hl ?_
  rw [i458, i455, i453, fS_0, fS_3, takes_val hI hJ]
  exact hQ
/-- is interest i aboard, by the voyage's state -/
theorem aboard_val (hI : IV pp s n lo na p) (hJ : JV q s n na p) {i : Nat} (hi : i < n) : (if s.2.1 5 i = -1 ∨ (vWr q s = 0 ∧ s.1 0 < s.2.1 5 i) then (1 : Int32) else 0) = s.2.1 8 i := by
  obtain ⟨hp1, hp2⟩ := hI.2.2.2.1
  obtain ⟨⟨q2, q10, pq⟩, -, -, j4, -⟩ := hJ
  rw [(j4 i hi).1]
  have e : (vWr q s = 0) = (s.1 6 = 0 ∨ p + 1 = q) := by
    unfold vWr
    by_cases h6 : s.1 6 = 0
    · simp [h6]
    · have : (s.1 0 = nI (q - 1)) = (p + 1 = q) := by
        rw [hp1]
        refine propext ((nI_eq (by omega) (by omega)).trans ?_)
        omega
      by_cases h7 : p + 1 = q
      · rw [if_pos (Or.inr (by rw [this]; exact h7))]
        exact propext ⟨fun _ => Or.inr h7, fun _ => rfl⟩
      · rw [if_neg (fun w => w.elim h6 (fun w => h7 (by rw [this] at w; exact w)))]
        exact propext ⟨fun w => absurd w (by decide), fun w => w.elim (fun w => absurd w h6) (fun w => absurd w h7)⟩
  have e2 : (s.2.1 5 i = -1 ∨ (vWr q s = 0 ∧ s.1 0 < s.2.1 5 i)) = (s.2.1 5 i = -1 ∨ ((s.1 6 = 0 ∨ p + 1 = q) ∧ nI p < s.2.1 5 i)) := by rw [e, hp1]
  by_cases hc : s.2.1 5 i = -1 ∨ (vWr q s = 0 ∧ s.1 0 < s.2.1 5 i)
  · rw [if_pos hc, if_pos (by rw [← e2]; exact hc)]
  · rw [if_neg hc, if_neg (by rw [← e2]; exact hc)]
end
