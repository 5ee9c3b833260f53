/-! what makes new cells; casts; the JDK's natives -/
theorem jd_fresh {A : Nat → Prop} {L : List Nat} {f : Nat → va_E} {q : Nat} {e : va_E} (hD : va_D A (va_pl L f ++ [(q, e)])) : q ∉ L ∧ A q := by
  have hlen : (va_pl L f).length = L.length := by simp [va_pl]
  have hlast : (va_pl L f ++ [(q, e)])[L.length]? = some (q, e) := by
    rw [List.getElem?_append_right (by omega), hlen]
    simp
  refine ⟨fun hq => ?_, hD.2 _ _ hlast⟩
  obtain ⟨k, hk⟩ := va_pl_get (X := []) (f := f) hq
  have hk2 : (va_pl L f)[k]? = some (q, f q) := hk
  have hlt : k < (va_pl L f).length := (List.getElem?_eq_some_iff.mp hk2).1
  have h1 : (va_pl L f ++ [(q, e)])[k]? = some (q, f q) := by rw [List.getElem?_append_left hlt]; exact hk2
  have := hD.1 k L.length _ _ h1 hlast rfl
  omega
theorem jd_unknown {B0 de q : Nat} {s : State} {h : jd_H} {L : List Nat} (hin : ∀ a, 1 ≤ zK h a → zK h a ≤ 14 → a ∈ L) (h16 : ∀ a, zK h a ≤ 16) (hO : jd_Ou B0 de s h) (hq : q ∉ L) (hB : B0 ≤ q) : zK h q = 0 := by
  rcases Nat.eq_zero_or_pos (zK h q) with e | e
  · exact e
  · exfalso
    by_cases h14 : zK h q ≤ 14
    · exact hq (hin q e h14)
    · have := h16 q
      by_cases h15 : zK h q = 15
      · have := (hO.2.2.2.1 q).mp h15
        have := hO.1
        omega
      · have := (hO.2.2.2.2.2 q (by omega)).1
        omega
theorem jd_Rp_new {D : va_G} {cy : Nat → ClassId} {B0 : Nat} {h h' : jd_H} {H1 : Heap} {L : List Nat} {q : Nat} {e : va_E} (hin : ∀ a, 1 ≤ zK h a → zK h a ≤ 14 → a ∈ L) (h16 : ∀ a, zK h a ≤ 16) (hP1 : va_P D vwCl (va_pl L (jd_cell cy h) ++ [(q, e)]) H1) (hD1 : va_D (fun q => B0 ≤ q) (va_pl L (jd_cell cy h) ++ [(q, e)])) (hk : ∀ b, b ≠ q → zK h' b = zK h b) (hkq : zK h' q ≤ 14) (he : jd_cell cy h' q = e) (ho : ∀ b, b ≠ q → jd_cell cy h b = jd_cell cy h' b) : jd_Rp D cy B0 h' H1 := by
  have hq := (jd_fresh hD1).1
  have e1 : va_pl L (jd_cell cy h) ++ [(q, e)] = va_pl (L ++ [q]) (jd_cell cy h') := by
    rw [va_pl_push hq]
    exact va_pl_congr (fun b => by
      by_cases z : b = q
      · subst z
        rw [va_up_self, he]
      · rw [va_up_ne _ _ z, ho b z])
  rw [e1] at hP1 hD1
  refine ⟨L ++ [q], fun b q1 q2 => ?_, hP1, hD1, fun b => ?_⟩
  · by_cases z : b = q
    · subst z
      simp
    · rw [hk b z] at q1 q2
      exact List.mem_append_left _ (hin b q1 q2)
  · by_cases z : b = q
    · subst z
      omega
    · rw [hk b z]
      exact h16 b
theorem jd_Ou_new {B0 de q : Nat} {s : State} {h h' : jd_H} (hO : jd_Ou B0 de s h) (hB : B0 ≤ q) (hkq : zK h' q ≤ 14) (h1 : ∀ b, b ≠ q → zK h' b = zK h b) (h2 : ∀ b, b ≠ q → zL h' b = zL h b) (h3 : ∀ b, b ≠ q → zA h' b = zA h b) : jd_Ou B0 de s h' := by
  have hd : de ≠ q := by have := hO.1; omega
  refine ⟨hO.1, hO.2.1, hO.2.2.1, fun a => ?_, by rw [h2 de hd]; exact hO.2.2.2.2.1, fun a ha => ?_⟩
  · by_cases z : a = q
    · subst z
      constructor
      · intro w; omega
      · intro w; exact absurd w.symm hd
    · rw [h1 a z]
      exact hO.2.2.2.1 a
  · have z : a ≠ q := fun z => by
      subst z
      omega
    rw [h1 a z] at ha
    rw [h2 a z, h3 a z]
    exact hO.2.2.2.2.2 a ha
theorem jd_wY_o {cy : Nat → ClassId} {h : jd_H} {q k n b : Nat} (hb : b ≠ q) : jd_cell cy h b = jd_cell cy (wY h q k n) b := jd_cell_ne (by simp [wY, zK, u1, hb]) (by simp [wY, zL, u1, hb]) (jd_ur_ne hb) (jd_ur_ne hb) (jd_ur_ne hb) (fun _ => rfl) (fun _ => rfl)
theorem jd_wN_o {cy : Nat → ClassId} {h : jd_H} {q k b : Nat} (hb : b ≠ q) : jd_cell cy h b = jd_cell cy (wN h q k) b := jd_cell_ne (by simp [wN, zK, u1, hb]) rfl rfl rfl rfl (fun _ => by simp [wN, zI, uc, hb]) (fun _ => by simp [wN, zR, uc, hb])
theorem jd_df {k : Nat} (h1 : 1 ≤ k) (h9 : k ≤ 9) : ∀ j, j < (jd_cl k).2.2 → defaultValue (jd_ty k j) = if jd_isR (64 * k + j) then .null else .int 0 := by
  have h : k = 1 ∨ k = 2 ∨ k = 3 ∨ k = 4 ∨ k = 5 ∨ k = 6 ∨ k = 7 ∨ k = 8 ∨ k = 9 := by omega
  rcases h with rfl | rfl | rfl | rfl | rfl | rfl | rfl | rfl | rfl <;> decide +kernel
section JX
variable {p : Program} {l : Launch} {e : Env} {R : Room} {s : State} {m : MethodId} {args : Array Value} {below : List Frame} {meth : Method} {c : Code} {D : va_G} {cy : Nat → ClassId} {B0 de nL : Nat} {Z : State → Prop}
variable {cc : ByteArray} {pc : Nat} {ls : jd_F} {st : List Value} {h : jd_H} {cb sb : Nat} {own : String} {mi : Nat}
theorem jd_hA {H0 : Heap} (hO : jd_Ou B0 de s h) : ∀ q, s.heap.size ≤ q → (fun q => B0 ≤ q) q := fun q hq => Nat.le_trans hO.2.1 hq
theorem sd_newi (hx : p.tables.exec = Jvm.exec) (hb : c.code = cc) (hts : ∀ w ∈ jd_tb, w.before args s = true) (ht : Cond.arrayClass .int ∈ jd_tb) (hK : va_K D vwCl (jd_tys cy) s) (hd : decode cc pc = .ok (.newarray .int, 2)) (k : o_newa 10 (jd_X p l e R s m args below meth c D cy B0 de nL Z (pc + 2)) ls st h cb sb) : jd_X p l e R s m args below meth c D cy B0 de nL Z pc ls st h cb sb := by
  unfold o_newa at k
  split at k
  next n st =>
    obtain ⟨⟨hn, h1, h2, h6⟩, k⟩ := k
    intro L H locs cells slots h0 hL hP hO hS hc hs2
    obtain ⟨Lv, hin, hP1, hD1, h16⟩ := hP
    refine va_newa (atype := .int) (ty := .int) (a0 := (n.toNatClampNeg, .inl (fun _ => 0))) hx hb (hts _ ht) rfl hK hP1 hD1 hS (fun q hq => Nat.le_trans hO.2.1 hq) (fun _ => rfl) hn rfl (by show n.toNatClampNeg * 4 ≤ _; omega) (by omega) (by omega) hd (fun q cA H1 hK2 hP2 hD2 hS2 => ?_)
    have hcA : cA = cy 0 := Option.some.inj ((hK2.2 5 (cA, .int) rfl).2.symm.trans (hK.2 0 _ rfl).2)
    subst hcA
    obtain ⟨hq1, hq2⟩ := jd_fresh hD2
    have hz := jd_unknown hin h16 hO hq1 hq2
    have e10 : zK (wY h q 10 n.toNatClampNeg) q = 10 := by simp [wY, zK, u1]
    have eL : zL (wY h q 10 n.toNatClampNeg) q = n.toNatClampNeg := by simp [wY, zL, u1]
    have eA : zA (wY h q 10 n.toNatClampNeg) q = fun _ => 0 := jd_ur_self
    refine k q hz L H1 locs (cells + 1) (slots + n.toNatClampNeg) h0 hL (jd_Rp_new hin h16 hP2 hD2 (fun b hb2 => by simp [wY, zK, u1, hb2]) (by rw [e10]; decide) ?_ (fun b hb2 => jd_wY_o hb2)) (jd_Ou_new hO hq2 (by rw [e10]; decide) (fun b hb2 => by simp [wY, zK, u1, hb2]) (fun b hb2 => by simp [wY, zL, u1, hb2]) (fun b hb2 => jd_ur_ne hb2)) hS2 (by omega) (by omega)
    rw [jd_cell_i e10, eL, eA]
  next => exact k.elim
theorem sd_newl (hx : p.tables.exec = Jvm.exec) (hb : c.code = cc) (hts : ∀ w ∈ jd_tb, w.before args s = true) (ht : Cond.arrayClass .long ∈ jd_tb) (hK : va_K D vwCl (jd_tys cy) s) (hd : decode cc pc = .ok (.newarray .long, 2)) (k : o_newa 11 (jd_X p l e R s m args below meth c D cy B0 de nL Z (pc + 2)) ls st h cb sb) : jd_X p l e R s m args below meth c D cy B0 de nL Z pc ls st h cb sb := by
  unfold o_newa at k
  split at k
  next n st =>
    obtain ⟨⟨hn, h1, h2, h6⟩, k⟩ := k
    intro L H locs cells slots h0 hL hP hO hS hc hs2
    obtain ⟨Lv, hin, hP1, hD1, h16⟩ := hP
    refine va_newa (atype := .long) (ty := .long) (a0 := (n.toNatClampNeg, .inr (.inl (fun _ => 0)))) hx hb (hts _ ht) rfl hK hP1 hD1 hS (fun q hq => Nat.le_trans hO.2.1 hq) (fun _ => rfl) hn rfl (by show n.toNatClampNeg * 8 ≤ _; omega) (by omega) (by omega) hd (fun q cA H1 hK2 hP2 hD2 hS2 => ?_)
    have hcA : cA = cy 1 := Option.some.inj ((hK2.2 5 (cA, .long) rfl).2.symm.trans (hK.2 1 _ rfl).2)
    subst hcA
    obtain ⟨hq1, hq2⟩ := jd_fresh hD2
    have hz := jd_unknown hin h16 hO hq1 hq2
    have e10 : zK (wY h q 11 n.toNatClampNeg) q = 11 := by simp [wY, zK, u1]
    have eL : zL (wY h q 11 n.toNatClampNeg) q = n.toNatClampNeg := by simp [wY, zL, u1]
    have eA : zJ (wY h q 11 n.toNatClampNeg) q = fun _ => 0 := jd_ur_self
    refine k q hz L H1 locs (cells + 1) (slots + n.toNatClampNeg) h0 hL (jd_Rp_new hin h16 hP2 hD2 (fun b hb2 => by simp [wY, zK, u1, hb2]) (by rw [e10]; decide) ?_ (fun b hb2 => jd_wY_o hb2)) (jd_Ou_new hO hq2 (by rw [e10]; decide) (fun b hb2 => by simp [wY, zK, u1, hb2]) (fun b hb2 => by simp [wY, zL, u1, hb2]) (fun b hb2 => jd_ur_ne hb2)) hS2 (by omega) (by omega)
    rw [jd_cell_l e10, eL, eA]
  next => exact k.elim
theorem sd_newz (hx : p.tables.exec = Jvm.exec) (hb : c.code = cc) (hts : ∀ w ∈ jd_tb, w.before args s = true) (ht : Cond.arrayClass .boolean ∈ jd_tb) (hK : va_K D vwCl (jd_tys cy) s) (hd : decode cc pc = .ok (.newarray .boolean, 2)) (k : o_newa 12 (jd_X p l e R s m args below meth c D cy B0 de nL Z (pc + 2)) ls st h cb sb) : jd_X p l e R s m args below meth c D cy B0 de nL Z pc ls st h cb sb := by
  unfold o_newa at k
  split at k
  next n st =>
    obtain ⟨⟨hn, h1, h2, h6⟩, k⟩ := k
    intro L H locs cells slots h0 hL hP hO hS hc hs2
    obtain ⟨Lv, hin, hP1, hD1, h16⟩ := hP
    refine va_newa (atype := .boolean) (ty := .boolean) (a0 := (n.toNatClampNeg, .inl (fun _ => 0))) hx hb (hts _ ht) rfl hK hP1 hD1 hS (fun q hq => Nat.le_trans hO.2.1 hq) (fun _ => rfl) hn rfl (by show n.toNatClampNeg * 1 ≤ _; omega) (by omega) (by omega) hd (fun q cA H1 hK2 hP2 hD2 hS2 => ?_)
    have hcA : cA = cy 2 := Option.some.inj ((hK2.2 5 (cA, .boolean) rfl).2.symm.trans (hK.2 2 _ rfl).2)
    subst hcA
    obtain ⟨hq1, hq2⟩ := jd_fresh hD2
    have hz := jd_unknown hin h16 hO hq1 hq2
    have e10 : zK (wY h q 12 n.toNatClampNeg) q = 12 := by simp [wY, zK, u1]
    have eL : zL (wY h q 12 n.toNatClampNeg) q = n.toNatClampNeg := by simp [wY, zL, u1]
    have eA : zA (wY h q 12 n.toNatClampNeg) q = fun _ => 0 := jd_ur_self
    refine k q hz L H1 locs (cells + 1) (slots + n.toNatClampNeg) h0 hL (jd_Rp_new hin h16 hP2 hD2 (fun b hb2 => by simp [wY, zK, u1, hb2]) (by rw [e10]; decide) ?_ (fun b hb2 => jd_wY_o hb2)) (jd_Ou_new hO hq2 (by rw [e10]; decide) (fun b hb2 => by simp [wY, zK, u1, hb2]) (fun b hb2 => by simp [wY, zL, u1, hb2]) (fun b hb2 => jd_ur_ne hb2)) hS2 (by omega) (by omega)
    rw [jd_cell_z e10, eL, eA]
  next => exact k.elim
theorem sd_newq (hx : p.tables.exec = Jvm.exec) (hb : c.code = cc) (hown : s.vm.findClass own = some m.cls) (hts : ∀ w ∈ jd_tb, w.before args s = true) (ht : va_AO "java/lang/Object" s) (hK : va_K D vwCl (jd_tys cy) s) {idx : Nat} (hlk : Cond.classLink own idx "java/lang/Object" ∈ jd_tb) (hd : decode cc pc = .ok (.anewarray idx, 3)) (k : o_newa 13 (jd_X p l e R s m args below meth c D cy B0 de nL Z (pc + 3)) ls st h cb sb) : jd_X p l e R s m args below meth c D cy B0 de nL Z pc ls st h cb sb := by
  unfold o_newa at k
  split at k
  next n st =>
    obtain ⟨⟨hn, h1, h2, h6⟩, k⟩ := k
    intro L H locs cells slots h0 hL hP hO hS hc hs2
    obtain ⟨Lv, hin, hP1, hD1, h16⟩ := hP
    refine va_newq hx hb hown (hts _ hlk) ht hK hP1 hD1 hS (fun q hq => Nat.le_trans hO.2.1 hq) hn rfl (by omega) (by omega) (by omega) hd (fun q cA H1 hK2 hP2 hD2 hS2 => ?_)
    obtain ⟨_, _, _, _, _, f1⟩ := (hK2.2 5 (cA, .object "java/lang/Object") rfl).2
    obtain ⟨_, _, _, _, _, f2⟩ := (hK.2 3 _ rfl).2
    have hcA : cA = cy 3 := Option.some.inj (f1.symm.trans f2)
    subst hcA
    obtain ⟨hq1, hq2⟩ := jd_fresh hD2
    have hz := jd_unknown hin h16 hO hq1 hq2
    have e10 : zK (wY h q 13 n.toNatClampNeg) q = 13 := by simp [wY, zK, u1]
    have eL : zL (wY h q 13 n.toNatClampNeg) q = n.toNatClampNeg := by simp [wY, zL, u1]
    have eA : zO (wY h q 13 n.toNatClampNeg) q = fun _ => none := jd_ur_self
    refine k q hz L H1 locs (cells + 1) (slots + n.toNatClampNeg) h0 hL (jd_Rp_new hin h16 hP2 hD2 (fun b hb2 => by simp [wY, zK, u1, hb2]) (by rw [e10]; decide) ?_ (fun b hb2 => jd_wY_o hb2)) (jd_Ou_new hO hq2 (by rw [e10]; decide) (fun b hb2 => by simp [wY, zK, u1, hb2]) (fun b hb2 => by simp [wY, zL, u1, hb2]) (fun b hb2 => jd_ur_ne hb2)) hS2 (by omega) (by omega)
    rw [jd_cell_q e10, eL, eA]
  next => exact k.elim
theorem sd_new (hx : p.tables.exec = Jvm.exec) (hb : c.code = cc) (hown : s.vm.findClass own = some m.cls) (hts : ∀ w ∈ jd_tb, w.before args s = true) (hK : va_K D vwCl (jd_tys cy) s) {idx kd N : Nat} (h1 : 1 ≤ kd) (h9 : kd ≤ 9) (hN : N = (jd_cl kd).2.2) (hlk : Cond.classLink own idx (jd_cl kd).1 ∈ jd_tb) (hin1 : Cond.instantiable (jd_cl kd).1 (jd_cl kd).2.2 ∈ jd_tb) (hin2 : Cond.initialized (jd_cl kd).1 ∈ jd_tb) (hd : decode cc pc = .ok (.new idx, 3)) (k : o_new kd N (jd_X p l e R s m args below meth c D cy B0 de nL Z (pc + 3)) ls st h cb sb) : jd_X p l e R s m args below meth c D cy B0 de nL Z pc ls st h cb sb := by
  subst hN
  obtain ⟨⟨hc1, hs1⟩, k⟩ := k
  intro L H locs cells slots h0 hL hP hO hS hc hs2
  obtain ⟨Lv, hin, hP1, hD1, h16⟩ := hP
  obtain ⟨q1, q2, q3⟩ := jd_cls h1 h9
  have hfs : ∀ j, j < (jd_cl kd).2.2 → defaultValue (jd_ty kd j) = vp_V ((List.range (jd_cl kd).2.2).map (fun j => if jd_isR (64 * kd + j) then Value.null else .int 0)) j := fun j hj => by
    rw [jd_df h1 h9 j hj]
    simp [vp_V, hj]
  refine va_new (c0 := c) hx hb hts q1 (jd_ty kd) q2 hown (hts _ hlk) (hts _ hin1) (hts _ hin2) hK hP1 hD1 hS (fun q hq => Nat.le_trans hO.2.1 hq) (jd_cl_at h1 h9) hfs (by omega) (by omega) hd (fun q H1 hP2 hD2 hS2 => ?_)
  obtain ⟨hq1, hq2⟩ := jd_fresh hD2
  have hz := jd_unknown hin h16 hO hq1 hq2
  have e10 : zK (wN h q kd) q = kd := by simp [wN, zK, u1]
  refine k q hz L H1 locs (cells + 1) (slots + (jd_cl kd).2.2) h0 hL (jd_Rp_new hin h16 hP2 hD2 (fun b hb2 => by simp [wN, zK, u1, hb2]) (by rw [e10]; omega) ?_ (fun b hb2 => jd_wN_o hb2)) (jd_Ou_new hO hq2 (by rw [e10]; omega) (fun b hb2 => by simp [wN, zK, u1, hb2]) (fun b hb2 => rfl) (fun b hb2 => rfl)) hS2 (by omega) (by omega)
  rw [jd_cell_o e10 h9]
  refine congrArg (fun q => Sum.inr (kd - 1, q)) (List.map_congr_left (fun j _ => ?_))
  simp [jd_val, zI, zR, wN, uc, va_rf]
theorem sd_cast (hx : p.tables.exec = Jvm.exec) (hb : c.code = cc) (hown : s.vm.findClass own = some m.cls) (hts : ∀ w ∈ jd_tb, w.before args s = true) (hK : va_K D vwCl (jd_tys cy) s) {idx kd : Nat} (h1 : 1 ≤ kd) (h9 : kd ≤ 9) (hlk : Cond.classLink own idx (jd_cl kd).1 ∈ jd_tb) (hd : decode cc pc = .ok (.checkcast idx, 3)) (k : o_cast kd (jd_X p l e R s m args below meth c D cy B0 de nL Z (pc + 3)) ls st h cb sb) : jd_X p l e R s m args below meth c D cy B0 de nL Z pc ls st h cb sb := by
  unfold o_cast at k
  split at k
  next st =>
    intro L H locs cells slots h0 hL hP hO hS hc hs2
    exact lv_castN hx hb hd (k L H locs cells slots h0 hL hP hO hS hc hs2)
  next a st =>
    obtain ⟨hk, k⟩ := k
    intro L H locs cells slots h0 hL hP hO hS hc hs2
    obtain ⟨Lv, hin, hP1, hD1, h16⟩ := id hP
    obtain ⟨j, hj⟩ := va_pl_get (X := []) (f := jd_cell cy h) (hin a (by omega) (by omega))
    rw [jd_cell_o hk h9] at hj
    exact va_castS hx hb hown (hts _ hlk) (hK.1 (kd - 1) _ (jd_cl_at h1 h9)).2 (va_recv hK hP1 (jd_cl_at h1 h9) hj) hd (k L H locs cells slots h0 hL hP hO hS hc hs2)
  next => exact k.elim
theorem sd_oinit (hx : p.tables.exec = Jvm.exec) (hb : c.code = cc) (hml : c.maxLocals = nL) (hown : s.vm.findClass own = some m.cls) (hts : ∀ w ∈ jd_tb, w.before args s = true) (hi1 : Cond.instanceMethod objectInit ∈ jd_tb) (hi2 : Cond.code objectInit ⟨#[0xb1]⟩ 1 none ∈ jd_tb) {d idx : Nat} (hRf : d ≤ R.frames) (hRl : 39 * d ≤ R.locals) (hlk : Cond.methodLink own idx objectInit ∈ jd_tb) (hd : decode cc pc = .ok (.invokespecial idx, 3)) (k : o_oinit d (jd_X p l e R s m args below meth c D cy B0 de nL Z (pc + 3)) ls st h cb sb) : jd_X p l e R s m args below meth c D cy B0 de nL Z pc ls st h cb sb := by
  unfold o_oinit at k
  split at k
  next a st =>
    obtain ⟨⟨hd0, h4⟩, k⟩ := k
    intro L H locs cells slots h0 hL hP hO hS hc hs2
    have := jd_cat st h4
    exact W.objInit hx hb hown (hts _ hlk) (hts _ hi1) (hts _ hi2) rfl (hL.1.trans hml.symm) rfl hd (by omega) (by show 2 * 0 + _ + 12 ≤ _; omega) (k L H locs cells slots h0 hL hP hO hS hc hs2)
  next => exact k.elim
theorem sd_getC (hx : p.tables.exec = Jvm.exec) (hb : c.code = cc) (hml : c.maxLocals = nL) (hown : s.vm.findClass own = some m.cls) (hts : ∀ w ∈ jd_tb, w.before args s = true) (hK : va_K D vwCl (jd_tys cy) s) (hM : va_Mi "[Ljava/lang/Object;" mi s)
    (hi1 : va_Dc s) (hi2 : Cond.selects "[Ljava/lang/Object;" ⟨"java/lang/Object", "getClass", "()Ljava/lang/Class;"⟩ ⟨"java/lang/Object", "getClass", "()Ljava/lang/Class;"⟩ ∈ jd_tb) (hi3 : Cond.instanceMethod ⟨"java/lang/Object", "getClass", "()Ljava/lang/Class;"⟩ ∈ jd_tb) (hi4 : Cond.native ⟨"java/lang/Object", "getClass", "()Ljava/lang/Class;"⟩ ∈ jd_tb) {d idx : Nat} (hRf : d ≤ R.frames) (hRl : 39 * d ≤ R.locals) (hlk : Cond.methodLink own idx ⟨"java/lang/Object", "getClass", "()Ljava/lang/Class;"⟩ ∈ jd_tb) (hd : decode cc pc = .ok (.invokevirtual idx, 3)) (k : o_getC d mi (jd_X p l e R s m args below meth c D cy B0 de nL Z (pc + 3)) ls st h cb sb) : jd_X p l e R s m args below meth c D cy B0 de nL Z pc ls st h cb sb := by
  unfold o_getC at k
  split at k
  next a st =>
    obtain ⟨⟨hd0, h4, hk⟩, k⟩ := k
    intro L H locs cells slots h0 hL hP hO hS hc hs2
    have := jd_cat st h4
    obtain ⟨Lv, hin, hP1, hD1, h16⟩ := id hP
    obtain ⟨j, hj⟩ := va_pl_get (X := []) (f := jd_cell cy h) (hin a (by omega) (by omega))
    rw [jd_cell_q hk] at hj
    exact va_getC hx hb (hml.trans hL.1.symm) hown (hts _ hlk) (va_Dc.use hi1) (hts _ hi2) (hts _ hi3) (hts _ hi4) hM ⟨_, hP1 j _ hj, rfl, va_nmO (hK.2 3 _ rfl).2 (by decide +kernel)⟩ (by omega) (by omega) hd (k L H locs cells slots h0 hL hP hO hS hc hs2)
  next => exact k.elim
theorem sd_ldcM (hx : p.tables.exec = Jvm.exec) (hb : c.code = cc) (hown : s.vm.findClass own = some m.cls) (hts : ∀ w ∈ jd_tb, w.before args s = true) (hM : va_Mi "[Ljava/lang/Object;" mi s) {idx : Nat} (hlk : Cond.classLink own idx "[Ljava/lang/Object;" ∈ jd_tb) (hd : decode cc pc = .ok (.ldc idx, 2)) (k : o_refp mi (jd_X p l e R s m args below meth c D cy B0 de nL Z (pc + 2)) ls st h cb sb) : jd_X p l e R s m args below meth c D cy B0 de nL Z pc ls st h cb sb := by
  intro L H locs cells slots h0 hL hP hO hS hc hs2
  exact va_ldcM hx hb hown (hts _ hlk) hM hd (k L H locs cells slots h0 hL hP hO hS hc hs2)
theorem sd_gets (hx : p.tables.exec = Jvm.exec) (hb : c.code = cc) (hown : s.vm.findClass own = some m.cls) (hts : ∀ w ∈ jd_tb, w.before args s = true) (hZ : va_Z "java/util/ArrayList" "DEFAULTCAPACITY_EMPTY_ELEMENTDATA" "[Ljava/lang/Object;" (.ref de) (fun q => B0 ≤ q) s s.heap) {idx : Nat} (hlk : Cond.fieldLink own idx "java/util/ArrayList" "DEFAULTCAPACITY_EMPTY_ELEMENTDATA" "[Ljava/lang/Object;" ∈ jd_tb) (hd : decode cc pc = .ok (.getstatic idx, 3)) (k : o_gets (jd_X p l e R s m args below meth c D cy B0 de nL Z (pc + 3)) ls st h cb sb) : jd_X p l e R s m args below meth c D cy B0 de nL Z pc ls st h cb sb := by
  intro L H locs cells slots h0 hL hP hO hS hc hs2
  exact va_gets hx hb hZ hS hown (hts _ hlk) (fun _ z => z) hd (k de hO.2.2.2.1 L H locs cells slots h0 hL hP hO hS hc hs2)
theorem sd_cpi (hx : p.tables.exec = Jvm.exec) (hb : c.code = cc) (hml : c.maxLocals = nL) (hown : s.vm.findClass own = some m.cls) (hts : ∀ w ∈ jd_tb, w.before args s = true) (hK : va_K D vwCl (jd_tys cy) s) (hi1 : Cond.native arraycopyName ∈ jd_tb) (hi2 : Cond.static arraycopyName ∈ jd_tb) (hi3 : Cond.initialized "java/lang/System" ∈ jd_tb) {d idx : Nat} (hRf : d ≤ R.frames) (hRl : 39 * d ≤ R.locals) (hlk : Cond.methodLink own idx arraycopyName ∈ jd_tb) (hd : decode cc pc = .ok (.invokestatic idx, 3)) (k : o_cpi d (jd_X p l e R s m args below meth c D cy B0 de nL Z (pc + 3)) ls st h cb sb) : jd_X p l e R s m args below meth c D cy B0 de nL Z pc ls st h cb sb := by
  unfold o_cpi at k
  split at k
  next n dp b sp a st =>
    obtain ⟨⟨hd0, h4, ka, kb, g1, g2, g3, g4, g5⟩, k⟩ := k
    intro L H locs cells slots h0 hL hP hO hS hc hs2
    have hcat := jd_cat st h4
    have hw : nativeFrameWords "java/lang/System" "arraycopy" 5 = 7 := by decide
    obtain ⟨Lv, hin, hP1, hD1, h16⟩ := id hP
    have hbL := hin b (by omega) (by omega)
    obtain ⟨j, hj⟩ := va_pl_get (X := []) (f := jd_cell cy h) (hin a (by omega) (by omega))
    obtain ⟨j2, hj2⟩ := va_pl_get (X := []) (f := jd_cell cy h) hbL
    have hj3 := hj2
    rw [jd_cell_i ka] at hj
    rw [jd_cell_i kb] at hj3
    refine va_copyi (ty := .int) hx hb (hml.trans hL.1.symm) hown (hts _ hlk) (hts _ hi1) (hts _ hi2) (hts _ hi3) hK hP1 hD1 hS j j2 0 0 hj hj3 rfl rfl rfl g1 g2 g3 g4 g5 (fun _ _ => rfl) (by omega) (by omega) hd (fun H1 locs1 hP2 hD2 hS2 => ?_)
    refine k L H1 locs1 cells slots h0 hL (jd_Rp_set (h := h) (fun b => rfl) hin h16 hD1 hbL hj2 hP2 hD2 ?_ ?_) ?_ hS2 hc hs2
    · rw [jd_cell_i (h := wAr h b _) kb]
      exact congrArg (fun q => Sum.inl (cy 0, zL h b, Sum.inl q)) jd_ur_self
    · intro b2 hb2
      exact jd_cell_ne rfl rfl (jd_ur_ne hb2) rfl rfl (fun _ => rfl) (fun _ => rfl)
    · refine ⟨hO.1, hO.2.1, hO.2.2.1, hO.2.2.2.1, hO.2.2.2.2.1, fun b2 hb2 => ?_⟩
      have hne : b2 ≠ b := fun q => by
        have hb3 : zK h b2 = 16 := hb2
        rw [q, kb] at hb3
        omega
      rw [show zA (wAr h b (va_cpy (zA h a) (zA h b) sp.toNatClampNeg dp.toNatClampNeg n.toNatClampNeg)) b2 = zA h b2 from jd_ur_ne hne]
      exact hO.2.2.2.2.2 b2 hb2
  next => exact k.elim
theorem sd_cpo (hx : p.tables.exec = Jvm.exec) (hb : c.code = cc) (hml : c.maxLocals = nL) (hown : s.vm.findClass own = some m.cls) (hts : ∀ w ∈ jd_tb, w.before args s = true) (hco : ∀ k, 1 ≤ k → k ≤ 9 → va_Nw (.castable (jd_cl k).1 "java/lang/Object") s) (hK : va_K D vwCl (jd_tys cy) s) (hi1 : Cond.native arraycopyName ∈ jd_tb) (hi2 : Cond.static arraycopyName ∈ jd_tb) (hi3 : Cond.initialized "java/lang/System" ∈ jd_tb) {d idx : Nat} (hRf : d ≤ R.frames) (hRl : 39 * d ≤ R.locals) (hlk : Cond.methodLink own idx arraycopyName ∈ jd_tb) (hd : decode cc pc = .ok (.invokestatic idx, 3)) (k : o_cpo d (jd_X p l e R s m args below meth c D cy B0 de nL Z (pc + 3)) ls st h cb sb) : jd_X p l e R s m args below meth c D cy B0 de nL Z pc ls st h cb sb := by
  unfold o_cpo at k
  split at k
  next n dp b sp a st =>
    obtain ⟨⟨hd0, h4, ka, kb, g1, g2, g3, g4, g5, g6⟩, k⟩ := k
    intro L H locs cells slots h0 hL hP hO hS hc hs2
    have hcat := jd_cat st h4
    have hw : nativeFrameWords "java/lang/System" "arraycopy" 5 = 7 := by decide
    obtain ⟨Lv, hin, hP1, hD1, h16⟩ := id hP
    have hbL := hin b (by omega) (by omega)
    obtain ⟨j, hj⟩ := va_pl_get (X := []) (f := jd_cell cy h) (hin a (by omega) (by omega))
    obtain ⟨j2, hj2⟩ := va_pl_get (X := []) (f := jd_cell cy h) hbL
    have hj3 := hj2
    rw [jd_cell_q ka] at hj
    rw [jd_cell_q kb] at hj3
    refine va_copyM (E0 := "java/lang/Object") (E1 := "java/lang/Object") hx hb (hml.trans hL.1.symm) hown (hts _ hlk) (hts _ hi1) (hts _ hi2) (hts _ hi3) hK hP1 hD1 hS j j2 3 3 hj hj3 rfl rfl g1 g2 g3 g4 g5 (fun i hi y hy => jd_anyk (args := args) hco hK hP (g6 i hi y hy).1 (g6 i hi y hy).2) (by omega) (by omega) hd (fun H1 locs1 hP2 hD2 hS2 => ?_)
    refine k L H1 locs1 cells slots h0 hL (jd_Rp_set (h := h) (fun b => rfl) hin h16 hD1 hbL hj2 hP2 hD2 ?_ ?_) hO hS2 hc hs2
    · rw [jd_cell_q (h := wOr h b _) kb]
      exact congrArg (fun q => Sum.inl (cy 3, zL h b, Sum.inr (Sum.inr (Sum.inr (Sum.inr q))))) jd_ur_self
    · intro b2 hb2
      exact jd_cell_ne rfl rfl rfl rfl (jd_ur_ne hb2) (fun _ => rfl) (fun _ => rfl)
  next => exact k.elim
theorem sd_mmax (hx : p.tables.exec = Jvm.exec) (hb : c.code = cc) (hml : c.maxLocals = nL) (hown : s.vm.findClass own = some m.cls) (hts : ∀ w ∈ jd_tb, w.before args s = true) {d idx : Nat} (hRf : d ≤ R.frames) (hRl : 39 * d ≤ R.locals) (hlk : Cond.methodLink own idx Lib.Math.max.name ∈ jd_tb) (h1 : Cond.static Lib.Math.max.name ∈ jd_tb) (h2 : Cond.initialized "java/lang/Math" ∈ jd_tb) (h3 : Cond.code Lib.Math.max.name Lib.Math.max.code 2 (some .int) ∈ jd_tb) (hd : decode cc pc = .ok (.invokestatic idx, 3)) (k : o_mmax d (jd_X p l e R s m args below meth c D cy B0 de nL Z (pc + 3)) ls st h cb sb) : jd_X p l e R s m args below meth c D cy B0 de nL Z pc ls st h cb sb := by
  unfold o_mmax at k
  split at k
  next y x st =>
    obtain ⟨⟨hd0, h4⟩, k⟩ := k
    intro L H locs cells slots h0 hL hP hO hS hc hs2
    have hcat := jd_cat st h4
    exact va_mmax hx hb (hml.trans hL.1.symm) hown (hts _ hlk) (hts _ h1) (hts _ h2) (hts _ h3) (by omega) (by omega) (by omega) (by omega) hd (k L H locs cells slots h0 hL hP hO hS hc hs2)
  next => exact k.elim
theorem sd_mmin (hx : p.tables.exec = Jvm.exec) (hb : c.code = cc) (hml : c.maxLocals = nL) (hown : s.vm.findClass own = some m.cls) (hts : ∀ w ∈ jd_tb, w.before args s = true) {d idx : Nat} (hRf : d ≤ R.frames) (hRl : 39 * d ≤ R.locals) (hlk : Cond.methodLink own idx Lib.Math.min.name ∈ jd_tb) (h1 : Cond.static Lib.Math.min.name ∈ jd_tb) (h2 : Cond.initialized "java/lang/Math" ∈ jd_tb) (h3 : Cond.code Lib.Math.min.name Lib.Math.min.code 2 (some .int) ∈ jd_tb) (hd : decode cc pc = .ok (.invokestatic idx, 3)) (k : o_mmin d (jd_X p l e R s m args below meth c D cy B0 de nL Z (pc + 3)) ls st h cb sb) : jd_X p l e R s m args below meth c D cy B0 de nL Z pc ls st h cb sb := by
  unfold o_mmin at k
  split at k
  next y x st =>
    obtain ⟨⟨hd0, h4⟩, k⟩ := k
    intro L H locs cells slots h0 hL hP hO hS hc hs2
    have hcat := jd_cat st h4
    exact va_mmin hx hb (hml.trans hL.1.symm) hown (hts _ hlk) (hts _ h1) (hts _ h2) (hts _ h3) (by omega) (by omega) (by omega) (by omega) hd (k L H locs cells slots h0 hL hP hO hS hc hs2)
  next => exact k.elim
theorem sd_lmin (hx : p.tables.exec = Jvm.exec) (hb : c.code = cc) (hml : c.maxLocals = nL) (hown : s.vm.findClass own = some m.cls) (hts : ∀ w ∈ jd_tb, w.before args s = true) {d idx : Nat} (hRf : d ≤ R.frames) (hRl : 39 * d ≤ R.locals) (hlk : Cond.methodLink own idx Lib.MathLoose.min_long.x ∈ jd_tb) (h1 : Cond.static Lib.MathLoose.min_long.x ∈ jd_tb) (h2 : Cond.initialized "java/lang/Math" ∈ jd_tb) (h3 : Cond.code Lib.MathLoose.min_long.x Lib.MathLoose.min_long.code 4 (some .long) ∈ jd_tb) (hd : decode cc pc = .ok (.invokestatic idx, 3)) (k : o_lmin d (jd_X p l e R s m args below meth c D cy B0 de nL Z (pc + 3)) ls st h cb sb) : jd_X p l e R s m args below meth c D cy B0 de nL Z pc ls st h cb sb := by
  unfold o_lmin at k
  split at k
  next y x st =>
    obtain ⟨⟨hd0, h4⟩, k⟩ := k
    intro L H locs cells slots h0 hL hP hO hS hc hs2
    have hcat := jd_cat st h4
    exact va_mmin_long hx hb (hml.trans hL.1.symm) hown (hts _ hlk) (hts _ h1) (hts _ h2) (hts _ h3) (by omega) (by omega) (by omega) (by omega) hd (k L H locs cells slots h0 hL hP hO hS hc hs2)
  next => exact k.elim
end JX
