/-! arrays -/
section JX
variable {p : Program} {l : Launch} {e : Env} {R : Room} {s : State} {m : MethodId} {args : Array Value} {below : List Frame} {meth : Method} {c : Code} {D : va_G} {cy : Nat → ClassId} {B0 de nL : Nat} {Z : State → Prop}
variable {cc : ByteArray} {pc : Nat} {ls : jd_F} {st : List Value} {h : jd_H} {cb sb : Nat} {own : String} {mi : Nat}
theorem sd_iald (hx : p.tables.exec = Jvm.exec) (hb : c.code = cc) (hK : va_K D vwCl (jd_tys cy) s) (hd : decode cc pc = .ok (.iaload, 1)) (k : o_iald (jd_X p l e R s m args below meth c D cy B0 de nL Z (pc + 1)) ls st h cb sb) : jd_X p l e R s m args below meth c D cy B0 de nL Z pc ls st h cb sb := by
  unfold o_iald at k
  split at k
  next i a st =>
    obtain ⟨⟨hk, hi⟩, k⟩ := k
    intro L H locs cells slots h0 hL hP hO hS hc hs2
    rcases hk with hk | hk
    · obtain ⟨Lv, hin, hP1, hD1, h16⟩ := id hP
      obtain ⟨j, hj⟩ := va_pl_get (X := []) (f := jd_cell cy h) (hin a (by omega) (by omega))
      rw [jd_cell_i hk] at hj
      exact va_iald hx hb hK hP1 j 0 hj rfl hi hd (k L H locs cells slots h0 hL hP hO hS hc hs2)
    · obtain ⟨o1, o2⟩ := hO.2.2.2.2.2 a hk
      exact va_sld hx hb o2 (Nat.lt_of_lt_of_le o1 hO.2.1) (Nat.not_le.mpr o1) hS hi hd (k L H locs cells slots h0 hL hP hO hS hc hs2)
  next => exact k.elim
theorem sd_bald (hx : p.tables.exec = Jvm.exec) (hb : c.code = cc) (hK : va_K D vwCl (jd_tys cy) s) (hd : decode cc pc = .ok (.baload, 1)) (k : o_bald (jd_X p l e R s m args below meth c D cy B0 de nL Z (pc + 1)) ls st h cb sb) : jd_X p l e R s m args below meth c D cy B0 de nL Z pc ls st h cb sb := by
  unfold o_bald at k
  split at k
  next i a st =>
    obtain ⟨⟨hk, hi⟩, k⟩ := k
    intro L H locs cells slots h0 hL hP hO hS hc hs2
    obtain ⟨Lv, hin, hP1, hD1, h16⟩ := id hP
    obtain ⟨j, hj⟩ := va_pl_get (X := []) (f := jd_cell cy h) (hin a (by omega) (by omega))
    rw [jd_cell_z hk] at hj
    exact va_zald hx hb hK hP1 j 2 hj rfl hi hd (k L H locs cells slots h0 hL hP hO hS hc hs2)
  next => exact k.elim
theorem sd_lald (hx : p.tables.exec = Jvm.exec) (hb : c.code = cc) (hK : va_K D vwCl (jd_tys cy) s) (hd : decode cc pc = .ok (.laload, 1)) (k : o_lald (jd_X p l e R s m args below meth c D cy B0 de nL Z (pc + 1)) ls st h cb sb) : jd_X p l e R s m args below meth c D cy B0 de nL Z pc ls st h cb sb := by
  unfold o_lald at k
  split at k
  next i a st =>
    obtain ⟨⟨hk, hi⟩, k⟩ := k
    intro L H locs cells slots h0 hL hP hO hS hc hs2
    obtain ⟨Lv, hin, hP1, hD1, h16⟩ := id hP
    obtain ⟨j, hj⟩ := va_pl_get (X := []) (f := jd_cell cy h) (hin a (by omega) (by omega))
    rw [jd_cell_l hk] at hj
    exact va_lald hx hb hK hP1 j 1 hj rfl hi hd (k L H locs cells slots h0 hL hP hO hS hc hs2)
  next => exact k.elim
/-- aaload from an array of arrays -/
theorem jd_aldg {H : Heap} {locs : List Loc} {cells slots a q0 n : Nat} {cA : ClassId} {ws : va_W} {f : Nat → Option Nat} {L : Array Slot} (hexec : p.tables.exec = Jvm.exec) (hb : c.code = cc) (hK : va_K D vwCl (jd_tys cy) s) (hP : va_P D vwCl ws H) (ha : ws[q0]? = some (a, .inl (cA, n, .inr (.inr (.inr (.inr f)))))) (t0 : Nat) {ty : FieldType} (ht : (jd_tys cy)[t0]? = some (cA, ty)) (href : ty.isReference = true) {i : Int32} (hin : vp_in i n) (hdg : decode cc pc = .ok (.aaload, 1))
    (kk : W p l e R s m args below meth c H locs cells slots Z (F0 m (pc + 1) L (va_rf (f i.toNatClampNeg) :: st))) : W p l e R s m args below meth c H locs cells slots Z (F0 m pc L (.int i :: .ref a :: st)) := by
  have hlt : i.toNatClampNeg < n := Nat.not_le.mp fun q => hin (Or.inr q)
  exact W.aald (v := va_rf (f i.toNatClampNeg)) (ty := ty) hexec hb (hP q0 _ ha) ((hK.2 t0 _ ht).1 n (fun j => va_rf (f j))) href (fun q => by cases q) (by show ¬ (i < 0 ∨ (arrV _ _ _).slots.size ≤ _); rw [arrV_size]; exact hin) (by show (arrV _ _ _).slots[_]? = _; rw [arrV_read _ _ hlt]) rfl rfl hdg kk
theorem sd_aald (hx : p.tables.exec = Jvm.exec) (hb : c.code = cc) (hK : va_K D vwCl (jd_tys cy) s) (hd : decode cc pc = .ok (.aaload, 1)) (k : o_aald (jd_X p l e R s m args below meth c D cy B0 de nL Z (pc + 1)) ls st h cb sb) : jd_X p l e R s m args below meth c D cy B0 de nL Z pc ls st h cb sb := by
  unfold o_aald at k
  split at k
  next i a st =>
    obtain ⟨⟨hk, hi⟩, k⟩ := k
    intro L H locs cells slots h0 hL hP hO hS hc hs2
    obtain ⟨Lv, hin, hP1, hD1, h16⟩ := id hP
    obtain ⟨j, hj⟩ := va_pl_get (X := []) (f := jd_cell cy h) (hin a (by omega) (by omega))
    rcases hk with hk | hk
    · rw [jd_cell_q hk] at hj
      exact jd_aldg hx hb hK hP1 hj 3 rfl rfl hi hd (k L H locs cells slots h0 hL hP hO hS hc hs2)
    · rw [jd_cell_g hk] at hj
      exact jd_aldg hx hb hK hP1 hj 4 rfl rfl hi hd (k L H locs cells slots h0 hL hP hO hS hc hs2)
  next => exact k.elim
theorem jd_upd_u2 {f : Nat → Nat → Int32} {a i : Nat} {x : Int32} : u2 f a i x a = upd (f a) i x := by
  funext j
  simp [u2, upd]
theorem jd_updL_u2 {f : Nat → Nat → Int64} {a i : Nat} {x : Int64} : u2 f a i x a = vp_updL (f a) i x := by
  funext j
  simp [u2, vp_updL]
theorem jd_up_u2 {f : Nat → Nat → Option Nat} {a i : Nat} {x : Option Nat} : u2 f a i x a = va_up (f a) i x := by
  funext j
  simp [u2, va_up]
theorem sd_iast (hx : p.tables.exec = Jvm.exec) (hb : c.code = cc) (hK : va_K D vwCl (jd_tys cy) s) (hd : decode cc pc = .ok (.iastore, 1)) (k : o_iast (jd_X p l e R s m args below meth c D cy B0 de nL Z (pc + 1)) ls st h cb sb) : jd_X p l e R s m args below meth c D cy B0 de nL Z pc ls st h cb sb := by
  unfold o_iast at k
  split at k
  next x i a st =>
    obtain ⟨⟨hk, hi⟩, k⟩ := k
    intro L H locs cells slots h0 hL hP hO hS hc hs2
    obtain ⟨Lv, hin, hP1, hD1, h16⟩ := id hP
    have haL := hin a (by omega) (by omega)
    obtain ⟨j, hj⟩ := va_pl_get (X := []) (f := jd_cell cy h) haL
    have hj2 := hj
    rw [jd_cell_i hk] at hj2
    refine va_iast hx hb hK hP1 hD1 hS j 0 hj2 rfl hi hd (fun H1 locs1 hP2 hD2 hS2 => ?_)
    refine k L H1 locs1 cells slots h0 hL (jd_Rp_set (h := h) (fun b => rfl) hin h16 hD1 haL hj hP2 hD2 ?_ ?_) ?_ hS2 hc hs2
    · rw [jd_cell_i (h := wA h a i.toNatClampNeg x) hk]
      exact congrArg (fun q => Sum.inl (cy 0, zL h a, Sum.inl q)) jd_upd_u2
    · intro b hb2
      exact jd_cell_ne rfl rfl (jd_u2_ne hb2) rfl rfl (fun _ => rfl) (fun _ => rfl)
    · refine ⟨hO.1, hO.2.1, hO.2.2.1, hO.2.2.2.1, hO.2.2.2.2.1, fun b hb2 => ?_⟩
      have hne : b ≠ a := fun q => by
        have hb3 : zK h b = 16 := hb2
        rw [q, hk] at hb3
        omega
      rw [show zA (wA h a i.toNatClampNeg x) b = zA h b from jd_u2_ne hne]
      exact hO.2.2.2.2.2 b hb2
  next => exact k.elim
theorem sd_bast (hx : p.tables.exec = Jvm.exec) (hb : c.code = cc) (hK : va_K D vwCl (jd_tys cy) s) (hd : decode cc pc = .ok (.bastore, 1)) (k : o_bast (jd_X p l e R s m args below meth c D cy B0 de nL Z (pc + 1)) ls st h cb sb) : jd_X p l e R s m args below meth c D cy B0 de nL Z pc ls st h cb sb := by
  unfold o_bast at k
  split at k
  next x i a st =>
    obtain ⟨⟨hk, hi, h01⟩, k⟩ := k
    intro L H locs cells slots h0 hL hP hO hS hc hs2
    obtain ⟨Lv, hin, hP1, hD1, h16⟩ := id hP
    have haL := hin a (by omega) (by omega)
    obtain ⟨j, hj⟩ := va_pl_get (X := []) (f := jd_cell cy h) haL
    have hj2 := hj
    rw [jd_cell_z hk] at hj2
    have hnar : vp_nar .boolean x = x := by rcases h01 with rfl | rfl <;> rfl
    refine va_zast hx hb hK hP1 hD1 hS j 2 hj2 rfl hi hd (fun H1 locs1 hP2 hD2 hS2 => ?_)
    rw [hnar] at hP2 hD2
    refine k L H1 locs1 cells slots h0 hL (jd_Rp_set (h := h) (fun b => rfl) hin h16 hD1 haL hj hP2 hD2 ?_ ?_) ?_ hS2 hc hs2
    · rw [jd_cell_z (h := wA h a i.toNatClampNeg x) hk]
      exact congrArg (fun q => Sum.inl (cy 2, zL h a, Sum.inl q)) jd_upd_u2
    · intro b hb2
      exact jd_cell_ne rfl rfl (jd_u2_ne hb2) rfl rfl (fun _ => rfl) (fun _ => rfl)
    · refine ⟨hO.1, hO.2.1, hO.2.2.1, hO.2.2.2.1, hO.2.2.2.2.1, fun b hb2 => ?_⟩
      have hne : b ≠ a := fun q => by
        have hb3 : zK h b = 16 := hb2
        rw [q, hk] at hb3
        omega
      rw [show zA (wA h a i.toNatClampNeg x) b = zA h b from jd_u2_ne hne]
      exact hO.2.2.2.2.2 b hb2
  next => exact k.elim
theorem sd_last (hx : p.tables.exec = Jvm.exec) (hb : c.code = cc) (hK : va_K D vwCl (jd_tys cy) s) (hd : decode cc pc = .ok (.lastore, 1)) (k : o_last (jd_X p l e R s m args below meth c D cy B0 de nL Z (pc + 1)) ls st h cb sb) : jd_X p l e R s m args below meth c D cy B0 de nL Z pc ls st h cb sb := by
  unfold o_last at k
  split at k
  next x i a st =>
    obtain ⟨⟨hk, hi⟩, k⟩ := k
    intro L H locs cells slots h0 hL hP hO hS hc hs2
    obtain ⟨Lv, hin, hP1, hD1, h16⟩ := id hP
    have haL := hin a (by omega) (by omega)
    obtain ⟨j, hj⟩ := va_pl_get (X := []) (f := jd_cell cy h) haL
    have hj2 := hj
    rw [jd_cell_l hk] at hj2
    refine va_last hx hb hK hP1 hD1 hS j 1 hj2 rfl hi hd (fun H1 locs1 hP2 hD2 hS2 => ?_)
    refine k L H1 locs1 cells slots h0 hL (jd_Rp_set (h := h) (fun b => rfl) hin h16 hD1 haL hj hP2 hD2 ?_ ?_) hO hS2 hc hs2
    · rw [jd_cell_l (h := wJ h a i.toNatClampNeg x) hk]
      exact congrArg (fun q => Sum.inl (cy 1, zL h a, Sum.inr (Sum.inl q))) jd_updL_u2
    · intro b hb2
      exact jd_cell_ne rfl rfl rfl (jd_u2_ne hb2) rfl (fun _ => rfl) (fun _ => rfl)
  next => exact k.elim
/-- aastore of an array into an array of arrays -/
theorem jd_astg {A : Nat → Prop} {H0 H : Heap} {locs : List Loc} {cells slots a q0 q1 n v : Nat} {cA : ClassId} {x : vp_A} {ws : va_W} {f : Nat → Option Nat} {L : Array Slot} (hexec : p.tables.exec = Jvm.exec) (hb : c.code = cc) (hK : va_K D vwCl (jd_tys cy) s) (hg : ∃ (kA : Class) (comp : ClassId), s.vm.classes[cA]? = some kA ∧ kA.kind = .array comp (.array .int) ∧ comp = cy 0) (hP : va_P D vwCl ws H) (hD : va_D A ws) (hS : va_S A H0 H locs) (ha : ws[q0]? = some (a, .inl (cA, n, .inr (.inr (.inr (.inr f)))))) (hv : ws[q1]? = some (v, .inl (cy 0, x))) {i : Int32} (hin : vp_in i n) (hdg : decode cc pc = .ok (.aastore, 1))
    (kk : ∀ (H1 : Heap) (locs1 : List Loc), va_P D vwCl (ws.set q0 (a, .inl (cA, n, .inr (.inr (.inr (.inr (va_up f i.toNatClampNeg (some v)))))))) H1 → va_D A (ws.set q0 (a, .inl (cA, n, .inr (.inr (.inr (.inr (va_up f i.toNatClampNeg (some v)))))))) → va_S A H0 H1 locs1 → W p l e R s m args below meth c H1 locs1 cells slots Z (F0 m (pc + 1) L st)) : W p l e R s m args below meth c H locs cells slots Z (F0 m pc L (.ref v :: .int i :: .ref a :: st)) := by
  have hlt : i.toNatClampNeg < n := Nat.not_le.mp fun q => hin (Or.inr q)
  have h0 : ¬ i < 0 := fun q => hin (Or.inl q)
  obtain ⟨kA, comp, k1, k2, rfl⟩ := hg
  obtain ⟨-, kI, hkI, -⟩ := (hK.2 0 _ rfl).1 0 (fun _ => .int 0)
  have hcv : H[v]? = some (vp_cell (cy 0) x) := hP q1 _ hv
  have hcls : (vp_cell (cy 0) x).cls = cy 0 := by
    obtain ⟨n2, f2 | f2 | f2 | f2 | f2⟩ := x <;> rfl
  have hvm : (vp_cell (cy 0) x).vm = .none := by
    obtain ⟨n2, f2 | f2 | f2 | f2 | f2⟩ := x <;> rfl
  refine W.aast hexec hb (hP q0 _ ha) (fun q h => by cases h) (fun h => by cases h) k1 k2 rfl hkI ⟨h0, by show _ < (arrV _ _ _).slots.size; rw [arrV_size]; exact hlt⟩ hcv (fun q h => by rw [hvm] at h; cases h) (by rw [hcls]; exact hkI) (by rw [hcls]; exact va_asg _ _) rfl rfl hdg fun H1 e z oq => ?_
  refine kk H1 _ (hP.set hD ha ?_ oq) (hD.set ha) (hS.put z oq (hD.2 q0 _ ha))
  show H1[a]? = some (vp_cell _ _)
  rw [e]
  rw [vp_cell_q, vp_cell_q, arrV_store]
  congr 2
  funext q
  by_cases hq : q = i.toNatClampNeg
  · subst hq
    simp [updV, va_up, va_rf]
  · simp [updV, va_up, hq]
/-- every class of ours is one of Object's -/
theorem jd_obj {args : Array Value} (hco : ∀ k, 1 ≤ k → k ≤ 9 → va_Nw (.castable (jd_cl k).1 "java/lang/Object") s) {k : Nat} (h1 : 1 ≤ k) (h9 : k ≤ 9) : ∀ comp c0 : ClassId, s.vm.findClass "java/lang/Object" = some comp → s.vm.findClass (jd_cl k).1 = some c0 → s.vm.assignable c0 comp = true := by
  intro comp c0 e1 e2
  obtain ⟨c3, t3, w1, w2, w3⟩ := Cond.castable_spec (va_Nw.use (A := args) rfl (hco k h1 h9))
  cases w1.symm.trans e2
  cases w2.symm.trans e1
  exact w3
theorem jd_anyk {H : Heap} {args : Array Value} (hco : ∀ k, 1 ≤ k → k ≤ 9 → va_Nw (.castable (jd_cl k).1 "java/lang/Object") s) (hK : va_K D vwCl (jd_tys cy) s) (hP : jd_Rp D cy B0 h H) {v : Nat} (h1 : 1 ≤ zK h v) (h9 : zK h v ≤ 9) : va_Any "java/lang/Object" s H v := by
  obtain ⟨Lv, hin, hP1, hD1, h16⟩ := hP
  obtain ⟨j, hj⟩ := va_pl_get (X := []) (f := jd_cell cy h) (hin v h1 (by omega))
  rw [jd_cell_o rfl h9] at hj
  exact va_rAny hK hP1 hj (jd_cl_at h1 h9) (jd_obj (args := args) hco h1 h9)
theorem sd_aast (hx : p.tables.exec = Jvm.exec) (hb : c.code = cc) (hco : ∀ k, 1 ≤ k → k ≤ 9 → va_Nw (.castable (jd_cl k).1 "java/lang/Object") s) (hK : va_K D vwCl (jd_tys cy) s) (hg : ∃ (kA : Class) (comp : ClassId), s.vm.classes[cy 4]? = some kA ∧ kA.kind = .array comp (.array .int) ∧ comp = cy 0) (hd : decode cc pc = .ok (.aastore, 1)) (k : o_aast (jd_X p l e R s m args below meth c D cy B0 de nL Z (pc + 1)) ls st h cb sb) : jd_X p l e R s m args below meth c D cy B0 de nL Z pc ls st h cb sb := by
  unfold o_aast at k
  split at k
  next x i a st =>
    obtain ⟨⟨hk, hi⟩, k⟩ := k
    intro L H locs cells slots h0 hL hP hO hS hc hs2
    obtain ⟨Lv, hin, hP1, hD1, h16⟩ := id hP
    have haL := hin a (by omega) (by omega)
    obtain ⟨j, hj⟩ := va_pl_get (X := []) (f := jd_cell cy h) haL
    have hj2 := hj
    rcases hk with ⟨hk, hx1, hx9⟩ | ⟨hk, hx1⟩
    · rw [jd_cell_q hk] at hj2
      refine va_astqM hx hb hK hP1 hD1 hS j 3 hj2 rfl (jd_anyk (args := args) hco hK hP hx1 hx9) hi hd (fun H1 locs1 hP2 hD2 hS2 => ?_)
      refine k L H1 locs1 cells slots h0 hL (jd_Rp_set (h := h) (fun b => rfl) hin h16 hD1 haL hj hP2 hD2 ?_ ?_) hO hS2 hc hs2
      · rw [jd_cell_q (h := wO h a i.toNatClampNeg (some x)) hk]
        exact congrArg (fun q => Sum.inl (cy 3, zL h a, Sum.inr (Sum.inr (Sum.inr (Sum.inr q))))) jd_up_u2
      · intro b hb2
        exact jd_cell_ne rfl rfl rfl rfl (jd_u2_ne hb2) (fun _ => rfl) (fun _ => rfl)
    · rw [jd_cell_g hk] at hj2
      obtain ⟨j3, hj3⟩ := va_pl_get (X := []) (f := jd_cell cy h) (hin x (by omega) (by omega))
      rw [jd_cell_i hx1] at hj3
      refine jd_astg hx hb hK hg hP1 hD1 hS hj2 hj3 hi hd (fun H1 locs1 hP2 hD2 hS2 => ?_)
      refine k L H1 locs1 cells slots h0 hL (jd_Rp_set (h := h) (fun b => rfl) hin h16 hD1 haL hj hP2 hD2 ?_ ?_) hO hS2 hc hs2
      · rw [jd_cell_g (h := wO h a i.toNatClampNeg (some x)) hk]
        exact congrArg (fun q => Sum.inl (cy 4, zL h a, Sum.inr (Sum.inr (Sum.inr (Sum.inr q))))) jd_up_u2
      · intro b hb2
        exact jd_cell_ne rfl rfl rfl rfl (jd_u2_ne hb2) (fun _ => rfl) (fun _ => rfl)
  next i a st =>
    obtain ⟨⟨hk, hi⟩, k⟩ := k
    intro L H locs cells slots h0 hL hP hO hS hc hs2
    obtain ⟨Lv, hin, hP1, hD1, h16⟩ := id hP
    have haL := hin a (by omega) (by omega)
    obtain ⟨j, hj⟩ := va_pl_get (X := []) (f := jd_cell cy h) haL
    have hj2 := hj
    rw [jd_cell_q hk] at hj2
    refine va_astqN hx hb hK hP1 hD1 hS j 3 hj2 rfl hi hd (fun H1 locs1 hP2 hD2 hS2 => ?_)
    refine k L H1 locs1 cells slots h0 hL (jd_Rp_set (h := h) (fun b => rfl) hin h16 hD1 haL hj hP2 hD2 ?_ ?_) hO hS2 hc hs2
    · rw [jd_cell_q (h := wO h a i.toNatClampNeg none) hk]
      exact congrArg (fun q => Sum.inl (cy 3, zL h a, Sum.inr (Sum.inr (Sum.inr (Sum.inr q))))) jd_up_u2
    · intro b hb2
      exact jd_cell_ne rfl rfl rfl rfl (jd_u2_ne hb2) (fun _ => rfl) (fun _ => rfl)
  next => exact k.elim
theorem sd_alen (hx : p.tables.exec = Jvm.exec) (hb : c.code = cc) (hK : va_K D vwCl (jd_tys cy) s) (hd : decode cc pc = .ok (.arraylength, 1)) (k : o_alen (jd_X p l e R s m args below meth c D cy B0 de nL Z (pc + 1)) ls st h cb sb) : jd_X p l e R s m args below meth c D cy B0 de nL Z pc ls st h cb sb := by
  unfold o_alen at k
  split at k
  next a st =>
    obtain ⟨⟨h10, h16⟩, k⟩ := k
    intro L H locs cells slots h0 hL hP hO hS hc hs2
    by_cases h15 : zK h a = 15
    · obtain ⟨o1, o2, ⟨cell, o3, o4, o5⟩, o6, o7, -⟩ := id hO
      have hade := (o6 a).mp h15
      subst hade
      have e1 : H[a]? = some cell := by rw [hS.2.1 a (Nat.lt_of_lt_of_le o1 o2) (Nat.not_le.mpr o1)]; exact o3
      refine W.alen (n := nI (zL h a)) hx hb e1 o4 (by rw [o5, o7]; rfl) rfl rfl hd ?_
      exact k L H locs cells slots h0 hL hP hO hS hc hs2
    by_cases h16' : zK h a = 16
    · obtain ⟨o1, o2⟩ := hO.2.2.2.2.2 a h16'
      exact va_slen hx hb o2 (Nat.lt_of_lt_of_le o1 hO.2.1) (Nat.not_le.mpr o1) hS hd (k L H locs cells slots h0 hL hP hO hS hc hs2)
    obtain ⟨Lv, hin, hP1, hD1, -⟩ := id hP
    obtain ⟨j, hj⟩ := va_pl_get (X := []) (f := jd_cell cy h) (hin a (by omega) (by omega))
    have hcase : zK h a = 10 ∨ zK h a = 11 ∨ zK h a = 12 ∨ zK h a = 13 ∨ zK h a = 14 := by omega
    rcases hcase with q | q | q | q | q
    · rw [jd_cell_i q] at hj
      exact va_alen hx hb hK hP1 j 0 hj (ty := .int) rfl rfl hd (k L H locs cells slots h0 hL hP hO hS hc hs2)
    · rw [jd_cell_l q] at hj
      exact va_alen hx hb hK hP1 j 1 hj (ty := .long) rfl rfl hd (k L H locs cells slots h0 hL hP hO hS hc hs2)
    · rw [jd_cell_z q] at hj
      exact va_alen hx hb hK hP1 j 2 hj (ty := .boolean) rfl rfl hd (k L H locs cells slots h0 hL hP hO hS hc hs2)
    · rw [jd_cell_q q] at hj
      exact va_alen hx hb hK hP1 j 3 hj (ty := .object "java/lang/Object") rfl rfl hd (k L H locs cells slots h0 hL hP hO hS hc hs2)
    · rw [jd_cell_g q] at hj
      exact va_alen hx hb hK hP1 j 4 hj (ty := .array .int) rfl rfl hd (k L H locs cells slots h0 hL hP hO hS hc hs2)
  next => exact k.elim
end JX
