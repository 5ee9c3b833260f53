/-! lists with their elements -/
/-- the list at l, of tag t as its row, holds the n objects el 0 .. -/
def vLS (h : jd_H) (tg : Nat → Nat) (t l n : Nat) (el : Nat → Nat) : Prop := ∃ e, LiS h l e n ∧ (zK h e = 13 → tg e = t) ∧ tg l = t ∧ ∀ i, i < n → zO h e i = some (el i)
section
variable {g d : Nat} {h h1 : jd_H} {Q : jd_Q} {tg t1 : Nat → Nat} {t l n : Nat} {el : Nat → Nat} {P : Nat → Prop}
theorem vLS_K (a : vLS h tg t l n el) : zK h l = 1 := by obtain ⟨e, z, -⟩ := a; exact z.1
theorem vLS_n (a : vLS h tg t l n el) : zI h 66 l = nI n := by obtain ⟨e, z, -⟩ := a; exact z.2.1
theorem vLS_g (a : vLS h tg t l n el) : tg l = t := by obtain ⟨e, z, z2, z3, -⟩ := a; exact z3
theorem vLS_fr (a : vLS h tg t l n el) (x : AG P h h1 tg t1) (hp : P t) : vLS h1 t1 t l n el := by
  obtain ⟨e, ⟨k1, k2, k3, k4, k5⟩, k6, k7, k8⟩ := a
  have l0 : zK h l ≠ 0 := by rw [k1]; decide
  have e0 : zK h e ≠ 0 := by rcases k4 with z | z <;> rw [z.1] <;> decide
  refine ⟨e, ⟨AG_K x k1 (by decide), ?_, ?_, ?_, ?_⟩, fun z => ?_, ?_, fun i hi => ?_⟩
  · rw [AG_I x l0 (by rw [k7]; exact hp)]; exact k2
  · rw [AG_R x l0 (by rw [k7]; exact hp)]; exact k3
  · rw [(x e e0).1, AG_L x e0]; exact k4
  · rw [AG_L x e0]; exact k5
  · rw [AG_g x e0]; exact k6 (by rw [← (x e e0).1]; exact z)
  · rw [AG_g x l0]; exact k7
  · rcases k4 with z | z
    · omega
    · rw [AG_O x e0 (by rw [k6 z.1]; exact hp)]; exact k8 i hi
theorem vLS_cg {el' : Nat → Nat} (a : vLS h tg t l n el) (hc : ∀ i, i < n → el' i = el i) : vLS h tg t l n el' := by
  obtain ⟨e, k1, k2, k3, k4⟩ := a
  exact ⟨e, k1, k2, k3, fun i hi => by rw [hc i hi]; exact k4 i hi⟩
theorem k_lget {j : Nat} (a : vLS h tg t l n el) (hj : j < n) (hQ : Q (some (.ref (el j))) h) : jd_WM g (d + 3) 128 [.ref l, .int (nI j)] h Q := by
  obtain ⟨e, ⟨k1, k2, k3, k4, k5⟩, -, -, k8⟩ := a
  rcases k4 with z | z
  · omega
  · exact k_get k1 k2 k3 z.1 z.2.1 (by omega) hj (k8 j hj) hQ
theorem k_lsize (a : vLS h tg t l n el) (hQ : Q (some (.int (nI n))) h) : jd_WM g (d + 1) 125 [.ref l] h Q := k_size (vLS_K a) (by rw [vLS_n a]; exact hQ)
theorem k_ladd {x : Nat} (a : vLS h tg t l n el) (hn : n ≤ 511) (hx1 : 1 ≤ zK h x) (hx9 : zK h x ≤ 9) (hel : ∀ i, i < n → 1 ≤ zK h (el i) ∧ zK h (el i) ≤ 9)
    (hQ : ∀ h' tg', vLS h' tg' t l (n + 1) (u1 el n x) → AG (fun u => u ≠ t) h h' tg tg' → Q (some (.int 1)) h') : jd_WM g (d + 7) 130 [.ref l, .ref x] h Q := by
  obtain ⟨e, hl, k6, k7, k8⟩ := a
  have hl' := hl
  obtain ⟨k1, k2, k3, k4, k5⟩ := hl'
  have hle : l ≠ e := fun z => by
    rw [← z, k1] at k4
    rcases k4 with w | w
    · exact absurd w.1 (by decide)
    · exact absurd w.1 (by decide)
  refine k_add hl hn hx1 hx9 hle (fun i hi y hy => ?_) (fun h' e' hA => ?_)
  · rw [k8 i hi] at hy
    rw [← Option.some.inj hy]
    exact hel i hi
  · obtain ⟨a1, a2, a3, a4, a5, a6, a7, a8, a9, a10, a11, a12, a13⟩ := hA
    have lne : l ≠ e' := fun z => by
      rcases a1 with w | w
      · exact hle (z.trans w.1)
      · rw [← z, k1] at w; exact absurd w (by decide)
    have hK : ∀ b, zK h b ≠ 0 → zK h' b = zK h b := fun b hb => by
      rw [a2]
      unfold u1
      split
      · next z =>
        rcases a1 with w | w
        · rw [z, w.1, w.2.1]
        · rw [z] at hb; exact absurd w hb
      · rfl
    have hT : ∀ b, zK h b ≠ 0 → u1 tg e' t b = tg b := fun b hb => by
      unfold u1
      split
      · next z =>
        rcases a1 with w | w
        · rw [z, w.1]; exact (k6 w.2.1).symm
        · rw [z] at hb; exact absurd w hb
      · rfl
    have hTe : u1 tg e' t e' = t := if_pos rfl
    have l0 : zK h l ≠ 0 := by rw [k1]; decide
    refine hQ h' (u1 tg e' t) ⟨e', ⟨?_, a11, a13, Or.inr ⟨?_, by omega, by omega⟩, a4.2⟩, fun _ => hTe, ?_, fun i hi => ?_⟩ (fun b hb => ?_)
    · rw [hK l l0]; exact k1
    · rw [a2]; exact if_pos rfl
    · rw [hT l l0]; exact k7
    · unfold u1
      by_cases z : i = n
      · rw [if_pos z, z]; exact a9
      · rw [if_neg z, a8 i (by omega)]; exact k8 i (by omega)
    · refine ⟨hK b hb, ?_, hT b hb, fun hp => ?_⟩
      · by_cases z : b = e'
        · rcases a1 with w | w
          · rw [z, w.1]; exact w.2.2
          · rw [z] at hb; exact absurd w hb
        · exact a3 b z
      · have bl : b ≠ l := fun z => hp (by rw [z]; exact k7)
        have be : b ≠ e' := fun z => hp (by rw [← hT b hb, z]; exact hTe)
        exact ⟨fun f => a10 f b bl, fun f => a12 f b (fun z => bl z.2), a5 b be, a6 b be, a7 b be⟩
theorem k_lrem (a : vLS h tg t l (n + 1) el) (hQ : ∀ h', vLS h' tg t l n el → AG (fun u => u ≠ t) h h' tg tg → Q (some (.ref (el n))) h') : jd_WM g (d + 3) 131 [.ref l, .int (nI n)] h Q := by
  obtain ⟨e, ⟨k1, k2, k3, k4, k5⟩, k6, k7, k8⟩ := a
  rcases k4 with z | z
  · omega
  · have hle : l ≠ e := fun w => by rw [← w, k1] at z; exact absurd z.1 (by decide)
    refine k_remove k1 k2 k3 z.1 (by omega) k5 (k8 n (by omega)) (hQ _ ⟨e, ⟨k1, wI_s, k3, Or.inr ⟨z.1, ?_, z.2.2⟩, k5⟩, k6, k7, fun i hi => ?_⟩ ?_)
    · show n ≤ zL h e
      omega
    · rw [rw_OO, if_neg (fun w => by omega)]
      exact k8 i (by omega)
    · exact AG_t (AG_wI (fun w => w k7)) (AG_t (AG_wI (fun w => w k7)) (AG_wO (fun w => w (k6 z.1))))
theorem k_lnew {de : Nat} (hk : zK h l = 1) (hi : zI h 66 l = 0) (hd : zK h de = 15 ∧ zL h de = 0) (ht : tg l = t) (hQ : ∀ h', vLS h' tg t l 0 el → AG (fun u => u ≠ t) h h' tg tg → Q none h') : jd_WM g (d + 4) 122 [.ref l] h Q := by
  refine k_linit hk hd.1 (hQ _ ⟨de, ⟨hk, ?_, ?_, Or.inl ⟨hd.1, hd.2, rfl⟩, ?_⟩, fun z => ?_, ht, fun i hi => by omega⟩ ?_)
  · show zI (wI h 64 l 0) 66 l = nI 0
    rw [wI_ne (by decide)]; exact hi
  · rw [rw_RR, if_pos ⟨rfl, rfl⟩]
  · show zL h de ≤ 800
    omega
  · have : zK h de = 13 := z
    rw [hd.1] at this
    exact absurd this (by decide)
  · exact AG_t (AG_wI (fun w => w ht)) (AG_wR (fun w => w ht))
end
