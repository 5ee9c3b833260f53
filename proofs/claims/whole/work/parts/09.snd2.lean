/-! the instructions that read the heap, or write it -/
def jd_ty (k : Nat) : Nat → FieldType := [tyJx4a65c, tyX0, tyX1, tyX2, tyX3, tyX4, tyX5, tyX6, tyX7].getD (k - 1) tyX0
theorem jd_cls {k : Nat} (h1 : 1 ≤ k) (h9 : k ≤ 9) : (∀ w ∈ u_ws (jd_cl k).1 (jd_cl k).2.1 (jd_cl k).2.2, w ∈ jd_tb) ∧ (∀ j, j < (jd_cl k).2.2 → parseFieldDescriptor ((jd_cl k).2.1 j).2.2.1 = some (jd_ty k j)) ∧ ∀ a, a < (jd_cl k).2.2 → ∀ b, b < (jd_cl k).2.2 → a ≠ b → ((jd_cl k).2.1 a).2.1 ≠ ((jd_cl k).2.1 b).2.1 := by
  have h : k = 1 ∨ k = 2 ∨ k = 3 ∨ k = 4 ∨ k = 5 ∨ k = 6 ∨ k = 7 ∨ k = 8 ∨ k = 9 := by omega
  rcases h with rfl | rfl | rfl | rfl | rfl | rfl | rfl | rfl | rfl
  · exact ⟨jd_up jd_in1, tyJx4a65c_ok, nmJx4a65c⟩
  · exact ⟨jd_up jd_in2, tyX0_ok, nmX0⟩
  · exact ⟨jd_up jd_in3, tyX1_ok, nmX1⟩
  · exact ⟨jd_up jd_in4, tyX2_ok, nmX2⟩
  · exact ⟨jd_up jd_in5, tyX3_ok, nmX3⟩
  · exact ⟨jd_up jd_in6, tyX4_ok, nmX4⟩
  · exact ⟨jd_up jd_in7, tyX5_ok, nmX5⟩
  · exact ⟨jd_up jd_in8, tyX6_ok, nmX6⟩
  · exact ⟨jd_up jd_in9, tyX7_ok, nmX7⟩
theorem jd_fs_get {h : jd_H} {k a j : Nat} (hj : j < (jd_cl k).2.2) : (jd_fs h k a)[j]? = some (jd_val h (64 * k + j) a) := by
  unfold jd_fs
  rw [List.getElem?_map, List.getElem?_range hj]
  rfl
theorem jd_fs_len {h : jd_H} {k a : Nat} : (jd_fs h k a).length = (jd_cl k).2.2 := by simp [jd_fs]
theorem jd_fs_set {h h' : jd_H} {k a j : Nat} {v : Value} (ho : ∀ i, i ≠ j → jd_val h' (64 * k + i) a = jd_val h (64 * k + i) a) (hv : jd_val h' (64 * k + j) a = v) : (jd_fs h k a).set j v = jd_fs h' k a := by
  apply List.ext_getElem?
  intro i
  by_cases hi : i < (jd_cl k).2.2
  · rw [jd_fs_get hi]
    by_cases e : i = j
    · subst e
      rw [List.getElem?_set_self (by rw [jd_fs_len]; exact hi), hv]
    · rw [List.getElem?_set_ne (fun q => e q.symm), jd_fs_get hi, ho i e]
  · rw [List.getElem?_eq_none (by rw [List.length_set, jd_fs_len]; omega), List.getElem?_eq_none (by rw [jd_fs_len]; omega)]
theorem jd_cell_ne {cy : Nat → ClassId} {h h' : jd_H} {b : Nat} (h1 : zK h' b = zK h b) (h2 : zL h' b = zL h b) (h3 : zA h' b = zA h b) (h4 : zJ h' b = zJ h b) (h5 : zO h' b = zO h b) (h6 : ∀ f, zI h' f b = zI h f b) (h7 : ∀ f, zR h' f b = zR h f b) : jd_cell cy h b = jd_cell cy h' b := by
  have e : jd_fs h' (zK h b) b = jd_fs h (zK h b) b := by
    unfold jd_fs jd_val
    simp only [h6, h7]
  unfold jd_cell
  rw [h1, h2, h3, h4, h5, e]
/-- a cell has changed -/
theorem jd_Rp_set {D : va_G} {cy : Nat → ClassId} {B0 : Nat} {h h' : jd_H} {H1 : Heap} {L : List Nat} {a k : Nat} {e : va_E} (hK : ∀ b, zK h' b = zK h b) (hin : ∀ a, 1 ≤ zK h a → zK h a ≤ 14 → a ∈ L) (h16 : ∀ a, zK h a ≤ 16)
    (hD : va_D (fun q => B0 ≤ q) (va_pl L (jd_cell cy h))) (ha : a ∈ L) (hk : (va_pl L (jd_cell cy h))[k]? = some (a, jd_cell cy h a)) (hP1 : va_P D vwCl ((va_pl L (jd_cell cy h)).set k (a, e)) H1) (hD1 : va_D (fun q => B0 ≤ q) ((va_pl L (jd_cell cy h)).set k (a, e))) (he : jd_cell cy h' a = e) (ho : ∀ b, b ≠ a → jd_cell cy h b = jd_cell cy h' b) : jd_Rp D cy B0 h' H1 := by
  have e1 : (va_pl L (jd_cell cy h)).set k (a, e) = va_pl L (jd_cell cy h') := by
    have e2 := va_pl_set (X := []) (e := e) hD ha hk
    have e3 : va_pl L (va_up (jd_cell cy h) a e) = va_pl L (jd_cell cy h') := va_pl_congr (fun b => by
      by_cases q : b = a
      · subst q
        rw [va_up_self, he]
      · rw [va_up_ne _ _ q, ho b q])
    exact e2.trans e3
  rw [e1] at hP1 hD1
  exact ⟨L, fun b q1 q2 => hin b (by rw [← hK]; exact q1) (by rw [← hK]; exact q2), hP1, hD1, fun b => by rw [hK]; exact h16 b⟩
theorem jd_u2_ne {α : Type} {f : Nat → Nat → α} {a b i : Nat} {x : α} (h : i ≠ a) : u2 f a b x i = f i := by
  funext j
  simp [u2, h]
theorem jd_u2_nec {α : Type} {f : Nat → Nat → α} {a b i j : Nat} {x : α} (h : j ≠ b) : u2 f a b x i j = f i j := by
  simp [u2, h]
theorem jd_ur_ne {α : Type} {f : Nat → Nat → α} {a i : Nat} {r : Nat → α} (h : i ≠ a) : ur f a r i = f i := by
  funext j
  simp [ur, h]
theorem jd_ur_self {α : Type} {f : Nat → Nat → α} {a : Nat} {r : Nat → α} : ur f a r a = r := by
  funext j
  simp [ur]
section JX
variable {p : Program} {l : Launch} {e : Env} {R : Room} {s : State} {m : MethodId} {args : Array Value} {below : List Frame} {meth : Method} {c : Code} {D : va_G} {cy : Nat → ClassId} {B0 de nL : Nat} {Z : State → Prop}
variable {cc : ByteArray} {pc : Nat} {ls : jd_F} {st : List Value} {h : jd_H} {cb sb : Nat} {own : String} {mi : Nat}
def jd_fok (own : String) (f idx : Nat) : Prop := (1 ≤ f / 64 ∧ f / 64 ≤ 9 ∧ f % 64 < (jd_cl (f / 64)).2.2) ∧ ∃ ref : String, Cond.fieldLink own idx ref ((jd_cl (f / 64)).2.1 (f % 64)).2.1 ((jd_cl (f / 64)).2.1 (f % 64)).2.2.1 ∈ jd_tb ∧ (ref = ((jd_cl (f / 64)).2.1 (f % 64)).1 ∨ Cond.sameField ref ((jd_cl (f / 64)).2.1 (f % 64)).1 ((jd_cl (f / 64)).2.1 (f % 64)).2.1 ((jd_cl (f / 64)).2.1 (f % 64)).2.2.1 ∈ jd_tb)
theorem jd_same (hts : ∀ w ∈ jd_tb, w.before args s = true) {ref o n d : String} (h : ref = o ∨ Cond.sameField ref o n d ∈ jd_tb) : ∀ x, s.fieldFound? o n d = some x → s.fieldFound? ref n d = some x := by
  intro x hx
  rcases h with rfl | h
  · exact hx
  · exact u_same (hts _ h) x hx
theorem jd_f64 (f : Nat) : 64 * (f / 64) + f % 64 = f := Nat.div_add_mod f 64
theorem sd_get (hx : p.tables.exec = Jvm.exec) (hb : c.code = cc) (hown : s.vm.findClass own = some m.cls) (hts : ∀ w ∈ jd_tb, w.before args s = true) (hK : va_K D vwCl (jd_tys cy) s) {f idx a : Nat} (hd : decode cc pc = .ok (.getfield idx, 3)) (hf : jd_fok own f idx) (hk : zK h a = f / 64) (k : jd_X p l e R s m args below meth c D cy B0 de nL Z (pc + 3) ls (jd_val h f a :: st) h cb sb) : jd_X p l e R s m args below meth c D cy B0 de nL Z pc ls (.ref a :: st) h cb sb := by
  obtain ⟨⟨h1, h9, hn⟩, ref, hl, hs⟩ := hf
  intro L H locs cells slots h0 hL hP hO hS hc hs2
  obtain ⟨Lv, hin, hP1, hD1, h16⟩ := id hP
  have haL : a ∈ Lv := hin a (by omega) (by omega)
  obtain ⟨i, hi⟩ := va_pl_get (X := []) (f := jd_cell cy h) haL
  have hi2 : (va_pl Lv (jd_cell cy h))[i]? = some (a, .inr (f / 64 - 1, jd_fs h (f / 64) a)) := by rw [← jd_cell_o (cy := cy) hk h9]; exact hi
  obtain ⟨q1, q2, q3⟩ := jd_cls h1 h9
  refine va_get hx hb hts q1 hown hK hP1 i hi2 (jd_cl_at h1 h9) (f % 64) hn (hts _ hl) (jd_same hts hs) (v := jd_val h f a) (by rw [jd_fs_get hn, jd_f64]) hd ?_
  exact k L H locs cells slots h0 hL hP hO hS hc hs2
theorem sd_gI (hx : p.tables.exec = Jvm.exec) (hb : c.code = cc) (hown : s.vm.findClass own = some m.cls) (hts : ∀ w ∈ jd_tb, w.before args s = true) (hK : va_K D vwCl (jd_tys cy) s) {f idx : Nat} (hd : decode cc pc = .ok (.getfield idx, 3)) (hf : jd_fok own f idx) (hr : jd_isR f = false) (k : o_gI f (jd_X p l e R s m args below meth c D cy B0 de nL Z (pc + 3)) ls st h cb sb) : jd_X p l e R s m args below meth c D cy B0 de nL Z pc ls st h cb sb := by
  unfold o_gI at k
  split at k
  next a st => exact sd_get hx hb hown hts hK hd hf k.1 (by rw [show jd_val h f a = .int (zI h f a) by simp [jd_val, hr]]; exact k.2)
  next => exact k.elim
theorem sd_gR (hx : p.tables.exec = Jvm.exec) (hb : c.code = cc) (hown : s.vm.findClass own = some m.cls) (hts : ∀ w ∈ jd_tb, w.before args s = true) (hK : va_K D vwCl (jd_tys cy) s) {f idx : Nat} (hd : decode cc pc = .ok (.getfield idx, 3)) (hf : jd_fok own f idx) (hr : jd_isR f = true) (k : o_gR f (jd_X p l e R s m args below meth c D cy B0 de nL Z (pc + 3)) ls st h cb sb) : jd_X p l e R s m args below meth c D cy B0 de nL Z pc ls st h cb sb := by
  unfold o_gR at k
  split at k
  next a st => exact sd_get hx hb hown hts hK hd hf k.1 (by rw [show jd_val h f a = va_rf (zR h f a) by simp [jd_val, hr]]; exact k.2)
  next => exact k.elim
/-- putfield: h' is h with the field f of a changed to v -/
theorem sd_put (hx : p.tables.exec = Jvm.exec) (hb : c.code = cc) (hown : s.vm.findClass own = some m.cls) (hts : ∀ w ∈ jd_tb, w.before args s = true) (hK : va_K D vwCl (jd_tys cy) s) {f idx a : Nat} {v : Value} {h' : jd_H} (hd : decode cc pc = .ok (.putfield idx, 3)) (hf : jd_fok own f idx) (hfin : ((jd_cl (f / 64)).2.1 (f % 64)).2.2.2 = false ∨ (((jd_cl (f / 64)).2.1 (f % 64)).2.2.2 = true ∧ meth.name = "<init>" ∧ ((jd_cl (f / 64)).2.1 (f % 64)).1 = own)) (hk : zK h a = f / 64)
    {ty : FieldType} (hty : parseFieldDescriptor ((jd_cl (f / 64)).2.1 (f % 64)).2.2.1 = some ty) (hn : narrow ty v = v) (hfit : fits ty v = true) (e1 : zK h' = zK h) (e2 : zL h' = zL h) (e3 : zA h' = zA h) (e4 : zJ h' = zJ h) (e5 : zO h' = zO h) (e6 : ∀ i b, b ≠ a → zI h' i b = zI h i b) (e7 : ∀ i b, b ≠ a → zR h' i b = zR h i b) (e8 : ∀ i, i ≠ f → jd_val h' i a = jd_val h i a) (e9 : jd_val h' f a = v)
    (k : jd_X p l e R s m args below meth c D cy B0 de nL Z (pc + 3) ls st h' cb sb) : jd_X p l e R s m args below meth c D cy B0 de nL Z pc ls (v :: .ref a :: st) h cb sb := by
  obtain ⟨⟨h1, h9, hlt⟩, ref, hl, hs⟩ := hf
  intro L H locs cells slots h0 hL hP hO hS hc hs2
  obtain ⟨Lv, hin, hP1, hD1, h16⟩ := hP
  have haL : a ∈ Lv := hin a (by omega) (by omega)
  obtain ⟨i, hi⟩ := va_pl_get (X := []) (f := jd_cell cy h) haL
  have hi2 : (va_pl Lv (jd_cell cy h))[i]? = some (a, .inr (f / 64 - 1, jd_fs h (f / 64) a)) := by rw [← jd_cell_o (cy := cy) hk h9]; exact hi
  obtain ⟨q1, q2, q3⟩ := jd_cls h1 h9
  have hO' : jd_Ou B0 de s h' := by
    unfold jd_Ou
    rw [e1, e2, e3]
    exact hO
  have go : ∀ (H1 : Heap) (locs1 : List Loc), va_P D vwCl ((va_pl Lv (jd_cell cy h)).set i (a, .inr (f / 64 - 1, (jd_fs h (f / 64) a).set (f % 64) v))) H1 → va_D (fun q => B0 ≤ q) ((va_pl Lv (jd_cell cy h)).set i (a, .inr (f / 64 - 1, (jd_fs h (f / 64) a).set (f % 64) v))) → va_S (fun q => B0 ≤ q) s.heap H1 locs1 → W p l e R s m args below meth c H1 locs1 cells slots Z (F0 m (pc + 3) L st) := by
    intro H1 locs1 hP2 hD2 hS2
    refine k L H1 locs1 cells slots h0 hL (jd_Rp_set (fun b => by rw [e1]) hin h16 hD1 haL hi hP2 hD2 ?_ ?_) hO' hS2 hc hs2
    · rw [jd_cell_o (k := f / 64) (by rw [e1]; exact hk) h9, jd_fs_set (h' := h') (fun j hj => e8 _ (by omega)) (by rw [jd_f64]; exact e9)]
    · intro b hb2
      exact jd_cell_ne (by rw [e1]) (by rw [e2]) (by rw [e3]) (by rw [e4]) (by rw [e5]) (fun i => e6 i b hb2) (fun i => e7 i b hb2)
  rcases hfin with hfin | ⟨hfin, hm, hdcl⟩
  · exact va_put hx hb hts q1 (jd_ty (f / 64)) q2 q3 hown hK hP1 hD1 hS i hi2 (jd_cl_at h1 h9) (f % 64) hlt (hts _ hl) (jd_same hts hs) hfin hty hn hfit (by rw [jd_fs_len]; exact hlt) hd go
  · exact va_putF hx hb hts q1 (jd_ty (f / 64)) q2 q3 hown hK hP1 hD1 hS i hi2 (jd_cl_at h1 h9) (f % 64) hlt (hts _ hl) (jd_same hts hs) hfin hm hdcl hty hn hfit (by rw [jd_fs_len]; exact hlt) hd go
theorem jd_val_wI {f a i : Nat} {x : Int32} (hi : i ≠ f) : jd_val (wI h f a x) i a = jd_val h i a := by
  unfold jd_val
  rw [show zI (wI h f a x) i a = zI h i a by simp [wI, zI, u2, hi]]
  rfl
theorem jd_val_wR {f a i : Nat} {x : Option Nat} (hi : i ≠ f) : jd_val (wR h f a x) i a = jd_val h i a := by
  unfold jd_val
  rw [show zR (wR h f a x) i a = zR h i a by simp [wR, zR, u2, hi]]
  rfl
def jd_fin (nm own : String) (f : Nat) : Prop := ((jd_cl (f / 64)).2.1 (f % 64)).2.2.2 = false ∨ (((jd_cl (f / 64)).2.1 (f % 64)).2.2.2 = true ∧ nm = "<init>" ∧ ((jd_cl (f / 64)).2.1 (f % 64)).1 = own)
theorem sd_pI (hx : p.tables.exec = Jvm.exec) (hb : c.code = cc) (hown : s.vm.findClass own = some m.cls) (hts : ∀ w ∈ jd_tb, w.before args s = true) (hK : va_K D vwCl (jd_tys cy) s) {f idx : Nat} (hd : decode cc pc = .ok (.putfield idx, 3)) (hf : jd_fok own f idx) (hr : jd_isR f = false) (hty : parseFieldDescriptor ((jd_cl (f / 64)).2.1 (f % 64)).2.2.1 = some .int) (hfin : jd_fin meth.name own f) (k : o_pI f (jd_X p l e R s m args below meth c D cy B0 de nL Z (pc + 3)) ls st h cb sb) : jd_X p l e R s m args below meth c D cy B0 de nL Z pc ls st h cb sb := by
  unfold o_pI at k
  split at k
  next x a st => exact sd_put (h' := wI h f a x) hx hb hown hts hK hd hf hfin k.1 hty rfl rfl rfl rfl rfl rfl rfl (fun i b hb2 => jd_u2_nec hb2) (fun _ _ _ => rfl) (fun i hi => jd_val_wI hi) (by simp [jd_val, hr, zI, wI, u2]) k.2
  next => exact k.elim
theorem sd_pZ (hx : p.tables.exec = Jvm.exec) (hb : c.code = cc) (hown : s.vm.findClass own = some m.cls) (hts : ∀ w ∈ jd_tb, w.before args s = true) (hK : va_K D vwCl (jd_tys cy) s) {f idx : Nat} (hd : decode cc pc = .ok (.putfield idx, 3)) (hf : jd_fok own f idx) (hr : jd_isR f = false) (hty : parseFieldDescriptor ((jd_cl (f / 64)).2.1 (f % 64)).2.2.1 = some .boolean) (hfin : jd_fin meth.name own f) (k : o_pZ f (jd_X p l e R s m args below meth c D cy B0 de nL Z (pc + 3)) ls st h cb sb) : jd_X p l e R s m args below meth c D cy B0 de nL Z pc ls st h cb sb := by
  unfold o_pZ at k
  split at k
  next x a st =>
    obtain ⟨⟨k1, k2⟩, k3⟩ := k
    refine sd_put (h' := wI h f a x) hx hb hown hts hK hd hf hfin k1 hty ?_ ?_ rfl rfl rfl rfl rfl (fun i b hb2 => jd_u2_nec hb2) (fun _ _ _ => rfl) (fun i hi => jd_val_wI hi) (by simp [jd_val, hr, zI, wI, u2]) k3
    · rcases k2 with rfl | rfl <;> rfl
    · rcases k2 with rfl | rfl <;> rfl
  next => exact k.elim
theorem sd_pR (hx : p.tables.exec = Jvm.exec) (hb : c.code = cc) (hown : s.vm.findClass own = some m.cls) (hts : ∀ w ∈ jd_tb, w.before args s = true) (hK : va_K D vwCl (jd_tys cy) s) {f idx : Nat} (hd : decode cc pc = .ok (.putfield idx, 3)) (hf : jd_fok own f idx) (hr : jd_isR f = true) {ty : FieldType} (hty : parseFieldDescriptor ((jd_cl (f / 64)).2.1 (f % 64)).2.2.1 = some ty) (hrt : (∃ n, ty = .object n) ∨ ∃ t, ty = .array t) (hfin : jd_fin meth.name own f) (k : o_pR f (jd_X p l e R s m args below meth c D cy B0 de nL Z (pc + 3)) ls st h cb sb) : jd_X p l e R s m args below meth c D cy B0 de nL Z pc ls st h cb sb := by
  unfold o_pR at k
  split at k
  next x a st =>
    refine sd_put (h' := wR h f a (some x)) hx hb hown hts hK hd hf hfin k.1 hty ?_ ?_ rfl rfl rfl rfl rfl (fun _ _ _ => rfl) (fun i b hb2 => jd_u2_nec hb2) (fun i hi => jd_val_wR hi) (by simp [jd_val, hr, zR, wR, u2, va_rf]) k.2
    · rcases hrt with ⟨n, rfl⟩ | ⟨t, rfl⟩ <;> rfl
    · rcases hrt with ⟨n, rfl⟩ | ⟨t, rfl⟩ <;> rfl
  next a st =>
    refine sd_put (h' := wR h f a none) hx hb hown hts hK hd hf hfin k.1 hty ?_ ?_ rfl rfl rfl rfl rfl (fun _ _ _ => rfl) (fun i b hb2 => jd_u2_nec hb2) (fun i hi => jd_val_wR hi) (by simp [jd_val, hr, zR, wR, u2, va_rf]) k.2
    · rcases hrt with ⟨n, rfl⟩ | ⟨t, rfl⟩ <;> rfl
    · rcases hrt with ⟨n, rfl⟩ | ⟨t, rfl⟩ <;> rfl
  next => exact k.elim
end JX
