/-! the adjusting of a voyage, in numbers: shares, acts -/
def pm (c : Nat → Int) : Nat → Nat
  | 0 => 0
  | k + 1 => if c (pm c k) < c (k + 1) then k + 1 else pm c k
def dvI (N : Nat) (q : Nat → Nat) (c : Nat → Int) : Nat → (Nat → Nat) × (Nat → Int)
  | 0 => (q, c)
  | r + 1 => (u1 (dvI N q c r).1 (pm (dvI N q c r).2 (N - 1)) ((dvI N q c r).1 (pm (dvI N q c r).2 (N - 1)) + 1), u1 (dvI N q c r).2 (pm (dvI N q c r).2 (N - 1)) (-1))
/-- S divided by the weights W of N places -/
def dv (N S : Nat) (W : Nat → Nat) : Nat → Nat :=
  if sm W N = 0 then fun _ => 0
  else (dvI N (fun i => S * W i / sm W N) (fun i => ((S * W i % sm W N : Nat) : Int)) (S - sm (fun i => S * W i / sm W N) N)).1
def aGood (s : VS) (ou : Int32) (a i : Nat) : Nat := if nI a = ou then 0 else nn (s.2.2.1 2 a i)
def aSp (s : VS) (ou : Int32) (a o : Nat) : Nat := if nI a = ou then 0 else nn (s.2.2.2 a o)
abbrev aRi (s : VS) (a i : Nat) : Prop := i < cn s ∧ ¬ s.2.2.1 0 a i = 0
def aPart (s : VS) (ou : Int32) (H : Nat → Nat) (a i : Nat) : Nat := if aRi s a i then H i + aGood s ou a i else 0
def aOwn (s : VS) (H : Nat → Nat) (a : Nat) : Nat := sm (fun i => if aRi s a i then H i else 0) 81
def aMade (s : VS) (ou : Int32) (a : Nat) : Nat := sm (fun i => if aRi s a i then aGood s ou a i else 0) 81
def aEx (s : VS) (ou : Int32) (H : Nat → Nat) (a : Nat) : Nat := min (sm (aSp s ou a) 30) (aOwn s H a)
def aSu (s : VS) (ou : Int32) (H : Nat → Nat) (a : Nat) : Nat := aEx s ou H a + aMade s ou a
def aBo (s : VS) (ou : Int32) (H : Nat → Nat) (a : Nat) : Nat → Nat := dv 81 (aSu s ou H a) (aPart s ou H a)
def aStep (s : VS) (ou : Int32) (H : Nat → Nat) (a i : Nat) : Nat := if aRi s a i then aPart s ou H a i - aBo s ou H a i else H i
/-- what each has when k acts, the latest first, are adjusted -/
def hs (s : VS) (ou : Int32) : Nat → Nat → Nat
  | 0 => fun i => nn (s.2.1 2 i)
  | k + 1 => aStep s ou (hs s ou k) (ca s - 1 - k)
/-- what each has before act a is adjusted -/
def hA (s : VS) (ou : Int32) (a : Nat) : Nat → Nat := hs s ou (ca s - 1 - a)
/-- the reference's arrays hold the adjusting, act ou left out -/
def AD (h : jd_H) (m : Nat) (ma : Nat → Nat) (s : VS) (ou : Int32) : Prop :=
  zI h 616 m = ou ∧ (∀ i, i < cn s → zJ h (ma 29) i = lN (hs s ou (ca s) i)) ∧
  (∀ a i, a < ca s → i < 81 → zJ h (ma 27) (81 * a + i) = lN (aPart s ou (hA s ou a) a i) ∧ zJ h (ma 28) (81 * a + i) = lN (aBo s ou (hA s ou a) a i)) ∧
  (∀ a o, a < ca s → o < 30 → zJ h (ma 30) (30 * a + o) = lN (dv 30 (aEx s ou (hA s ou a) a) (aSp s ou a) o)) ∧
  (∀ a, a < ca s → zJ h (ma 31) a = lN (aEx s ou (hA s ou a) a) ∧ zJ h (ma 32) a = lN (aSu s ou (hA s ou a) a) ∧ zJ h (ma 33) a = lN (sm (aPart s ou (hA s ou a) a) 81))
/-! WHAT BELONGS TO WHOM: tg a is the group of the object at a: 8 v + (0 the voyage, 1 its interests, 2 its acts, 3 its events, 4 its settlement) for voyage v < 6, 48 the desk, 49 its list, 50 its adjuster, 56 the reference -/
def AG (P : Nat → Prop) (h h' : jd_H) (tg tg' : Nat → Nat) : Prop := ∀ a, zK h a ≠ 0 → zK h' a = zK h a ∧ zL h' a = zL h a ∧ tg' a = tg a ∧ (P (tg a) → (∀ f, zI h' f a = zI h f a) ∧ (∀ f, zR h' f a = zR h f a) ∧ zA h' a = zA h a ∧ zJ h' a = zJ h a ∧ zO h' a = zO h a)
section
variable {P P' : Nat → Prop} {h h1 h2 : jd_H} {tg t1 t2 : Nat → Nat}
theorem AG_r : AG P h h tg tg := fun a _ => ⟨rfl, rfl, rfl, fun _ => ⟨fun _ => rfl, fun _ => rfl, rfl, rfl, rfl⟩⟩
theorem AG_t (x : AG P h h1 tg t1) (y : AG P h1 h2 t1 t2) : AG P h h2 tg t2 := fun a ha => by
  obtain ⟨x1, x2, x3, x4⟩ := x a ha
  obtain ⟨y1, y2, y3, y4⟩ := y a (by rw [x1]; exact ha)
  refine ⟨y1.trans x1, y2.trans x2, y3.trans x3, fun hp => ?_⟩
  obtain ⟨a1, a2, a3, a4, a5⟩ := x4 hp
  obtain ⟨b1, b2, b3, b4, b5⟩ := y4 (by rw [x3]; exact hp)
  exact ⟨fun f => (b1 f).trans (a1 f), fun f => (b2 f).trans (a2 f), b3.trans a3, b4.trans a4, b5.trans a5⟩
theorem AG_w (x : AG P h h1 tg t1) (hw : ∀ t, P' t → P t) : AG P' h h1 tg t1 := fun a ha => ⟨(x a ha).1, (x a ha).2.1, (x a ha).2.2.1, fun hp => (x a ha).2.2.2 (hw _ hp)⟩
theorem AG_K (x : AG P h h1 tg t1) {a c : Nat} (hk : zK h a = c) (hc : c ≠ 0) : zK h1 a = c := ((x a (by rw [hk]; exact hc)).1).trans hk
theorem AG_L (x : AG P h h1 tg t1) {a : Nat} (hk : zK h a ≠ 0) : zL h1 a = zL h a := (x a hk).2.1
theorem AG_g (x : AG P h h1 tg t1) {a : Nat} (hk : zK h a ≠ 0) : t1 a = tg a := (x a hk).2.2.1
theorem AG_I (x : AG P h h1 tg t1) {a : Nat} (hk : zK h a ≠ 0) (hp : P (tg a)) (f : Nat) : zI h1 f a = zI h f a := ((x a hk).2.2.2 hp).1 f
theorem AG_R (x : AG P h h1 tg t1) {a : Nat} (hk : zK h a ≠ 0) (hp : P (tg a)) (f : Nat) : zR h1 f a = zR h f a := ((x a hk).2.2.2 hp).2.1 f
theorem AG_A (x : AG P h h1 tg t1) {a : Nat} (hk : zK h a ≠ 0) (hp : P (tg a)) : zA h1 a = zA h a := ((x a hk).2.2.2 hp).2.2.1
theorem AG_J (x : AG P h h1 tg t1) {a : Nat} (hk : zK h a ≠ 0) (hp : P (tg a)) : zJ h1 a = zJ h a := ((x a hk).2.2.2 hp).2.2.2.1
theorem AG_O (x : AG P h h1 tg t1) {a : Nat} (hk : zK h a ≠ 0) (hp : P (tg a)) : zO h1 a = zO h a := ((x a hk).2.2.2 hp).2.2.2.2
/-- no object is made, and only b is written -/
theorem AG_1 {b : Nat} (hb : ¬ P (tg b)) (k : zK h1 = zK h) (l : zL h1 = zL h) (e : ∀ a, a ≠ b → (∀ f, zI h1 f a = zI h f a) ∧ (∀ f, zR h1 f a = zR h f a) ∧ zA h1 a = zA h a ∧ zJ h1 a = zJ h a ∧ zO h1 a = zO h a) : AG P h h1 tg tg := fun a _ => ⟨by rw [k], by rw [l], rfl, fun hp => e a (fun z => hb (by rw [← z]; exact hp))⟩
theorem AG_wI {b f : Nat} {x : Int32} (hb : ¬ P (tg b)) : AG P h (wI h f b x) tg tg := AG_1 hb rfl rfl (fun a ha => ⟨fun p => by rw [rw_II, if_neg (fun z => ha z.2)], fun _ => rfl, rfl, rfl, rfl⟩)
theorem AG_wR {b f : Nat} {x : Option Nat} (hb : ¬ P (tg b)) : AG P h (wR h f b x) tg tg := AG_1 hb rfl rfl (fun a ha => ⟨fun _ => rfl, fun p => by rw [rw_RR, if_neg (fun z => ha z.2)], rfl, rfl, rfl⟩)
theorem AG_wA {b i : Nat} {x : Int32} (hb : ¬ P (tg b)) : AG P h (wA h b i x) tg tg := AG_1 hb rfl rfl (fun a ha => ⟨fun _ => rfl, fun _ => rfl, by funext j; rw [rw_AA, if_neg (fun z => ha z.1)], rfl, rfl⟩)
theorem AG_wJ {b i : Nat} {x : Int64} (hb : ¬ P (tg b)) : AG P h (wJ h b i x) tg tg := AG_1 hb rfl rfl (fun a ha => ⟨fun _ => rfl, fun _ => rfl, rfl, by funext j; rw [rw_JJ, if_neg (fun z => ha z.1)], rfl⟩)
theorem AG_wO {b i : Nat} {x : Option Nat} (hb : ¬ P (tg b)) : AG P h (wO h b i x) tg tg := AG_1 hb rfl rfl (fun a ha => ⟨fun _ => rfl, fun _ => rfl, rfl, rfl, by funext j; rw [rw_OO, if_neg (fun z => ha z.1)]⟩)
theorem AG_wAr {b : Nat} {x : Nat → Int32} (hb : ¬ P (tg b)) : AG P h (wAr h b x) tg tg := AG_1 hb rfl rfl (fun a ha => ⟨fun _ => rfl, fun _ => rfl, by funext j; rw [rw_AAr, if_neg ha], rfl, rfl⟩)
/-- a new object -/
theorem AG_wN {b k t : Nat} (hb : zK h b = 0) : AG P h (wN h b k) tg (u1 tg b t) := fun a ha => by
  have hne : a ≠ b := fun z => ha (by rw [z]; exact hb)
  refine ⟨by rw [rw_KN, if_neg hne], rfl, if_neg hne, fun _ => ⟨fun f => by rw [rw_IN, if_neg hne], fun f => by rw [rw_RN, if_neg hne], rfl, rfl, rfl⟩⟩
theorem AG_wY {b k n t : Nat} (hb : zK h b = 0) : AG P h (wY h b k n) tg (u1 tg b t) := fun a ha => by
  have hne : a ≠ b := fun z => ha (by rw [z]; exact hb)
  refine ⟨by rw [rw_KY, if_neg hne], by rw [rw_LY, if_neg hne], if_neg hne, fun _ => ⟨fun f => rfl, fun f => rfl, by funext j; rw [rw_AY, if_neg hne], by funext j; rw [rw_JY, if_neg hne], by funext j; rw [rw_OY, if_neg hne]⟩⟩
end
/-- the reference's arrays by number -/
def us (k : Nat) : Prop := k < 5 ∨ (14 ≤ k ∧ k ≤ 38) ∨ k = 41
theorem us_k {k : Nat} (h : us k) : k = 0 ∨ k = 1 ∨ k = 2 ∨ k = 3 ∨ k = 4 ∨ k = 14 ∨ k = 15 ∨ k = 16 ∨ k = 17 ∨ k = 18 ∨ k = 19 ∨ k = 20 ∨ k = 21 ∨ k = 22 ∨ k = 23 ∨ k = 24 ∨ k = 25 ∨ k = 26 ∨ k = 27 ∨ k = 28 ∨ k = 29 ∨ k = 30 ∨ k = 31 ∨ k = 32 ∨ k = 33 ∨ k = 34 ∨ k = 35 ∨ k = 36 ∨ k = 37 ∨ k = 38 ∨ k = 41 := by
  unfold us at h
  omega
section
variable {P : Nat → Prop} {h h1 : jd_H} {tg t1 : Nat → Nat} {m : Nat} {ma : Nat → Nat}
theorem MS_nz (q : MS h m ma) {k : Nat} (hk : us k) : zK h (ma k) ≠ 0 := by
  rcases us_k hk with rfl | rfl | rfl | rfl | rfl | rfl | rfl | rfl | rfl | rfl | rfl | rfl | rfl | rfl | rfl | rfl | rfl | rfl | rfl | rfl | rfl | rfl | rfl | rfl | rfl | rfl | rfl | rfl | rfl | rfl | rfl
  · rw [MS_K0 q]; decide
  · rw [MS_K1 q]; decide
  · rw [MS_K2 q]; decide
  · rw [MS_K3 q]; decide
  · rw [MS_K4 q]; decide
  · rw [MS_K14 q]; decide
  · rw [MS_K15 q]; decide
  · rw [MS_K16 q]; decide
  · rw [MS_K17 q]; decide
  · rw [MS_K18 q]; decide
  · rw [MS_K19 q]; decide
  · rw [MS_K20 q]; decide
  · rw [MS_K21 q]; decide
  · rw [MS_K22 q]; decide
  · rw [MS_K23 q]; decide
  · rw [MS_K24 q]; decide
  · rw [MS_K25 q]; decide
  · rw [MS_K26 q]; decide
  · rw [MS_K27 q]; decide
  · rw [MS_K28 q]; decide
  · rw [MS_K29 q]; decide
  · rw [MS_K30 q]; decide
  · rw [MS_K31 q]; decide
  · rw [MS_K32 q]; decide
  · rw [MS_K33 q]; decide
  · rw [MS_K34 q]; decide
  · rw [MS_K35 q]; decide
  · rw [MS_K36 q]; decide
  · rw [MS_K37 q]; decide
  · rw [MS_K38 q]; decide
  · rw [MS_K41 q]; decide
theorem MS_cg (q : MS h m ma) (hm : zK h1 m = zK h m) (hr : ∀ f, zR h1 f m = zR h f m) (hk : ∀ k, us k → zK h1 (ma k) = zK h (ma k) ∧ zL h1 (ma k) = zL h (ma k)) : MS h1 m ma := by
  unfold MS at q ⊢
  simp only [hm, hr, (hk 0 (by unfold us; omega)).1, (hk 0 (by unfold us; omega)).2, (hk 1 (by unfold us; omega)).1, (hk 1 (by unfold us; omega)).2, (hk 2 (by unfold us; omega)).1, (hk 2 (by unfold us; omega)).2, (hk 3 (by unfold us; omega)).1, (hk 3 (by unfold us; omega)).2, (hk 4 (by unfold us; omega)).1, (hk 4 (by unfold us; omega)).2, (hk 14 (by unfold us; omega)).1, (hk 14 (by unfold us; omega)).2, (hk 15 (by unfold us; omega)).1, (hk 15 (by unfold us; omega)).2, (hk 16 (by unfold us; omega)).1, (hk 16 (by unfold us; omega)).2, (hk 17 (by unfold us; omega)).1, (hk 17 (by unfold us; omega)).2, (hk 18 (by unfold us; omega)).1, (hk 18 (by unfold us; omega)).2, (hk 19 (by unfold us; omega)).1, (hk 19 (by unfold us; omega)).2, (hk 20 (by unfold us; omega)).1, (hk 20 (by unfold us; omega)).2, (hk 21 (by unfold us; omega)).1, (hk 21 (by unfold us; omega)).2, (hk 22 (by unfold us; omega)).1, (hk 22 (by unfold us; omega)).2, (hk 23 (by unfold us; omega)).1, (hk 23 (by unfold us; omega)).2, (hk 24 (by unfold us; omega)).1, (hk 24 (by unfold us; omega)).2, (hk 25 (by unfold us; omega)).1, (hk 25 (by unfold us; omega)).2, (hk 26 (by unfold us; omega)).1, (hk 26 (by unfold us; omega)).2, (hk 27 (by unfold us; omega)).1, (hk 27 (by unfold us; omega)).2, (hk 28 (by unfold us; omega)).1, (hk 28 (by unfold us; omega)).2, (hk 29 (by unfold us; omega)).1, (hk 29 (by unfold us; omega)).2, (hk 30 (by unfold us; omega)).1, (hk 30 (by unfold us; omega)).2, (hk 31 (by unfold us; omega)).1, (hk 31 (by unfold us; omega)).2, (hk 32 (by unfold us; omega)).1, (hk 32 (by unfold us; omega)).2, (hk 33 (by unfold us; omega)).1, (hk 33 (by unfold us; omega)).2, (hk 34 (by unfold us; omega)).1, (hk 34 (by unfold us; omega)).2, (hk 35 (by unfold us; omega)).1, (hk 35 (by unfold us; omega)).2, (hk 36 (by unfold us; omega)).1, (hk 36 (by unfold us; omega)).2, (hk 37 (by unfold us; omega)).1, (hk 37 (by unfold us; omega)).2, (hk 38 (by unfold us; omega)).1, (hk 38 (by unfold us; omega)).2, (hk 41 (by unfold us; omega)).1, (hk 41 (by unfold us; omega)).2]
  exact q
theorem MS_fr (q : MS h m ma) (x : AG P h h1 tg t1) (ht : tg m = 56) (hp : P 56) : MS h1 m ma :=
  MS_cg q (x m (by rw [MS_K q]; decide)).1 (AG_R x (by rw [MS_K q]; decide) (by rw [ht]; exact hp)) (fun k hk => ⟨(x _ (MS_nz q hk)).1, (x _ (MS_nz q hk)).2.1⟩)
end
/-- what is given of a voyage at its beginning -/
def VB (po w0 : Int32) (q : Nat) : Prop := (2 ≤ q ∧ q ≤ 10) ∧ (0 ≤ po ∧ po ≤ 29) ∧ (1 ≤ w0 ∧ w0 ≤ 1000000)
/-- THE REFERENCE at m: W voyages; of voyage v its owner, worth, ports, its events, the row that holds them -/
def RE (h : jd_H) (tg : Nat → Nat) (m : Nat) (ma : Nat → Nat) (W : Nat) (po w0 : Nat → Int32) (qq : Nat → Nat) (El : Nat → List Ev) (rw : Nat → Nat) : Prop :=
  MS h m ma ∧ (tg m = 56 ∧ ∀ k, us k → tg (ma k) = 56 ∧ ma k ≠ m) ∧ (W ≤ 6 ∧ zI h 581 m = nI W) ∧
  (∀ v, v < 6 → zO h (ma 0) v = some (rw v) ∧ (∀ k, us k → rw v ≠ ma k) ∧ (∀ u, u < 6 → rw u = rw v → u = v) ∧ tg (rw v) = 56 ∧ ER h (rw v) (El v) ∧ zA h (ma 1) v = nI (El v).length ∧ (W ≤ v → El v = [])) ∧
  (∀ v, v < W → zA h (ma 2) v = po v ∧ zA h (ma 3) v = w0 v ∧ zA h (ma 4) v = nI (qq v) ∧ VB (po v) (w0 v) (qq v) ∧ okl (nI (qq v)) (po v) (w0 v) (El v)) ∧
  (zI h 582 m = -1 ∨ ∃ v, v < W ∧ zI h 582 m = nI v ∧ RM h m ma (rep (nI (qq v)) (po v) (w0 v) (El v)) ∧ (zI h 616 m = -2 ∨ ∃ ou, AD h m ma (rep (nI (qq v)) (po v) (w0 v) (El v)) ou))
section
variable {P : Nat → Prop} {h h1 : jd_H} {tg t1 : Nat → Nat} {m W : Nat} {ma : Nat → Nat} {po w0 : Nat → Int32} {qq rw : Nat → Nat} {El : Nat → List Ev}
theorem RM_cg {s : VS} (q : RM h m ma s) (hi : ∀ f, zI h1 f m = zI h f m) (ha : ∀ k, us k → zA h1 (ma k) = zA h (ma k)) : RM h1 m ma s :=
  ⟨fun k hk => (hi _).trans (q.1 k hk), fun k i hk hi' => by rw [ha _ (by unfold us; omega)]; exact q.2.1 k i hk hi', fun k a i hk ha' hi' => by rw [ha _ (by unfold us; omega)]; exact q.2.2.1 k a i hk ha' hi', fun a o ha' ho => by rw [ha _ (by unfold us; omega)]; exact q.2.2.2 a o ha' ho⟩
theorem AD_cg {s : VS} {ou : Int32} (q : AD h m ma s ou) (hi : zI h1 616 m = zI h 616 m) (ha : ∀ k, us k → zJ h1 (ma k) = zJ h (ma k)) : AD h1 m ma s ou := by
  unfold AD at q ⊢
  rw [hi, ha 29 (by unfold us; omega), ha 27 (by unfold us; omega), ha 28 (by unfold us; omega), ha 30 (by unfold us; omega), ha 31 (by unfold us; omega), ha 32 (by unfold us; omega), ha 33 (by unfold us; omega)]
  exact q
theorem RE_fr (q : RE h tg m ma W po w0 qq El rw) (x : AG P h h1 tg t1) (hp : P 56) : RE h1 t1 m ma W po w0 qq El rw := by
  obtain ⟨q1, q2, q3, q4, q5, q6⟩ := q
  have hm0 : zK h m ≠ 0 := by rw [MS_K q1]; decide
  have hmI := AG_I x hm0 (by rw [q2.1]; exact hp)
  have hA : ∀ k, us k → zA h1 (ma k) = zA h (ma k) := fun k hk => AG_A x (MS_nz q1 hk) (by rw [(q2.2 k hk).1]; exact hp)
  have hJ : ∀ k, us k → zJ h1 (ma k) = zJ h (ma k) := fun k hk => AG_J x (MS_nz q1 hk) (by rw [(q2.2 k hk).1]; exact hp)
  have u0 : us 0 := by unfold us; omega
  have u1' : us 1 := by unfold us; omega
  have u2' : us 2 := by unfold us; omega
  have u3' : us 3 := by unfold us; omega
  have u4' : us 4 := by unfold us; omega
  refine ⟨MS_fr q1 x q2.1 hp, ⟨(AG_g x hm0).trans q2.1, fun k hk => ⟨(AG_g x (MS_nz q1 hk)).trans (q2.2 k hk).1, (q2.2 k hk).2⟩⟩, ⟨q3.1, (hmI _).trans q3.2⟩, fun v hv => ?_, fun v hv => ?_, ?_⟩
  · obtain ⟨a1, a2, a3, a4, a5, a6, a7⟩ := q4 v hv
    have hr0 : zK h (rw v) ≠ 0 := by rw [a5.1]; decide
    refine ⟨?_, a2, a3, (AG_g x hr0).trans a4, ?_, ?_, a7⟩
    · rw [AG_O x (MS_nz q1 u0) (by rw [(q2.2 0 u0).1]; exact hp)]; exact a1
    · unfold ER
      rw [(x _ hr0).1, AG_L x hr0, AG_A x hr0 (by rw [a4]; exact hp)]
      exact a5
    · rw [hA 1 u1']; exact a6
  · rw [hA 2 u2', hA 3 u3', hA 4 u4']
    exact q5 v hv
  · rw [hmI 582, hmI 616]
    rcases q6 with z | ⟨v, h1, h2, h3, h4⟩
    · exact Or.inl z
    · refine Or.inr ⟨v, h1, h2, RM_cg h3 hmI hA, ?_⟩
      rcases h4 with z | ⟨ou, z⟩
      · exact Or.inl z
      · exact Or.inr ⟨ou, AD_cg z (hmI _) hJ⟩
/-- what the reference writes of a voyage's copy belongs to it -/
theorem MG_AG (q : MS h m ma) (q2 : tg m = 56 ∧ ∀ k, us k → tg (ma k) = 56 ∧ ma k ≠ m) (x : MG m ma h h1) : AG (fun t => t ≠ 56) h h1 tg tg := fun a ha => by
  refine ⟨by rw [x.1], by rw [x.2.2.1], rfl, fun hp => ⟨fun f => x.2.2.2.2.2.1 f a (fun z => ?_), fun f => by rw [x.2.1], x.2.2.2.2.2.2 a (fun k h1 h2 z => ?_), by rw [x.2.2.2.1], by rw [x.2.2.2.2.1]⟩⟩
  · exact absurd q2.1 (by rw [← z]; exact hp)
  · exact absurd (q2.2 k (by unfold us; omega)).1 (by rw [← z]; exact hp)
/-- the reference goes to voyage v -/
theorem RE_go (q : RE h tg m ma W po w0 qq El rw) (x : MG m ma h h1) {v : Nat} (hv : v < W) (hat : zI h1 582 m = nI v) (had : zI h1 616 m = -2) (hR : RM h1 m ma (rep (nI (qq v)) (po v) (w0 v) (El v))) : RE h1 tg m ma W po w0 qq El rw := by
  obtain ⟨q1, q2, q3, q4, q5, q6⟩ := q
  refine ⟨MG_MS x q1, q2, ⟨q3.1, ?_⟩, fun v hv => ?_, fun v hv => ?_, Or.inr ⟨v, hv, hat, hR, Or.inl had⟩⟩
  · rw [x.2.2.2.2.2.1 581 m (fun _ => by omega)]; exact q3.2
  · obtain ⟨a1, a2, a3, a4, a5, a6, a7⟩ := q4 v hv
    refine ⟨by rw [x.2.2.2.2.1]; exact a1, a2, a3, a4, ?_, by rw [MG_ro x q1 (by omega)]; exact a6, a7⟩
    unfold ER
    rw [x.1, x.2.2.1, x.2.2.2.2.2.2 (rw v) (fun k h1 h2 => a2 k (by unfold us; omega))]
    exact a5
  · rw [MG_ro x q1 (by omega), MG_ro x q1 (by omega), MG_ro x q1 (by omega)]
    exact q5 v hv
end
