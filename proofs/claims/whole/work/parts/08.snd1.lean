/-! THE INSTRUCTIONS ARE RIGHT: a row an instruction, from what must hold (o_..) to the machine (W) -/
/-- at the place pc, with the known locals ls, the stack st, the picture h, with cb cells and sb slots still free: the machine comes to Z -/
def jd_X (p : Program) (l : Launch) (e : Env) (R : Room) (s : State) (m : MethodId) (args : Array Value) (below : List Frame) (meth : Method) (c : Code) (D : va_G) (cy : Nat → ClassId) (B0 de nL : Nat) (Z : State → Prop) : jd_C := fun pc ls st h cb sb =>
  ∀ (L : Array Slot) (H : Heap) (locs : List Loc) (cells slots : Nat), ls.length = nL → lv_has L nL (jd_as 0 ls) → jd_Rp D cy B0 h H → jd_Ou B0 de s h → va_S (fun q => B0 ≤ q) s.heap H locs → cells + cb ≤ R.cells → slots + sb ≤ R.slots → W p l e R s m args below meth c H locs cells slots Z (F0 m pc L st)
section JX
variable {p : Program} {l : Launch} {e : Env} {R : Room} {s : State} {m : MethodId} {args : Array Value} {below : List Frame} {meth : Method} {c : Code} {D : va_G} {cy : Nat → ClassId} {B0 de nL : Nat} {Z : State → Prop}
variable {cc : ByteArray} {pc : Nat} {ls : jd_F} {st : List Value} {h : jd_H} {cb sb : Nat} {own : String} {mi : Nat}
theorem sd_iload (hx : p.tables.exec = Jvm.exec) (hb : c.code = cc) {n nx : Nat} (hd : (decode cc pc = .ok (.iload n, 2) ∧ nx = pc + 2) ∨ ∃ k : Fin 4, k.val = n ∧ decode cc pc = .ok (.iload_n k, 1) ∧ nx = pc + 1) (k : o_iload n (jd_X p l e R s m args below meth c D cy B0 de nL Z nx) ls st h cb sb) : jd_X p l e R s m args below meth c D cy B0 de nL Z pc ls st h cb sb := by
  unfold o_iload at k
  split at k
  next x hq =>
    intro L H locs cells slots h0 hL hP hO hS hc hs
    rcases hd with ⟨hd, rfl⟩ | ⟨i, hi, hd, rfl⟩
    · exact lv_iload hx hb hd (jd_lget hL hq) (k L H locs cells slots h0 hL hP hO hS hc hs)
    · exact lv_iload_n hx hb hd hi (jd_lget hL hq) (k L H locs cells slots h0 hL hP hO hS hc hs)
  next => exact k.elim
theorem sd_lload (hx : p.tables.exec = Jvm.exec) (hb : c.code = cc) {n nx : Nat} (hd : (decode cc pc = .ok (.lload n, 2) ∧ nx = pc + 2) ∨ ∃ k : Fin 4, k.val = n ∧ decode cc pc = .ok (.lload_n k, 1) ∧ nx = pc + 1) (k : o_lload n (jd_X p l e R s m args below meth c D cy B0 de nL Z nx) ls st h cb sb) : jd_X p l e R s m args below meth c D cy B0 de nL Z pc ls st h cb sb := by
  unfold o_lload at k
  split at k
  next x hq =>
    intro L H locs cells slots h0 hL hP hO hS hc hs
    rcases hd with ⟨hd, rfl⟩ | ⟨i, hi, hd, rfl⟩
    · exact lv_lload hx hb hd (jd_lget hL hq) (k L H locs cells slots h0 hL hP hO hS hc hs)
    · exact lv_lload_n hx hb hd hi (jd_lget hL hq) (k L H locs cells slots h0 hL hP hO hS hc hs)
  next => exact k.elim
theorem sd_aload (hx : p.tables.exec = Jvm.exec) (hb : c.code = cc) {n nx : Nat} (hd : (decode cc pc = .ok (.aload n, 2) ∧ nx = pc + 2) ∨ ∃ k : Fin 4, k.val = n ∧ decode cc pc = .ok (.aload_n k, 1) ∧ nx = pc + 1) (k : o_aload n (jd_X p l e R s m args below meth c D cy B0 de nL Z nx) ls st h cb sb) : jd_X p l e R s m args below meth c D cy B0 de nL Z pc ls st h cb sb := by
  unfold o_aload at k
  split at k
  next x hq =>
    intro L H locs cells slots h0 hL hP hO hS hc hs
    rcases hd with ⟨hd, rfl⟩ | ⟨i, hi, hd, rfl⟩
    · exact lv_aload hx hb hd (jd_lget hL hq) (k L H locs cells slots h0 hL hP hO hS hc hs)
    · exact lv_aload_n hx hb hd hi (jd_lget hL hq) (k L H locs cells slots h0 hL hP hO hS hc hs)
  next hq =>
    intro L H locs cells slots h0 hL hP hO hS hc hs
    rcases hd with ⟨hd, rfl⟩ | ⟨i, hi, hd, rfl⟩
    · exact lv_aloadN hx hb hd (jd_lget hL hq) (k L H locs cells slots h0 hL hP hO hS hc hs)
    · exact lv_aload_nN hx hb hd hi (jd_lget hL hq) (k L H locs cells slots h0 hL hP hO hS hc hs)
  next => exact k.elim
theorem sd_istore (hx : p.tables.exec = Jvm.exec) (hb : c.code = cc) {n nx : Nat} (hd : (decode cc pc = .ok (.istore n, 2) ∧ nx = pc + 2) ∨ ∃ k : Fin 4, k.val = n ∧ decode cc pc = .ok (.istore_n k, 1) ∧ nx = pc + 1) (k : o_istore n (jd_X p l e R s m args below meth c D cy B0 de nL Z nx) ls st h cb sb) : jd_X p l e R s m args below meth c D cy B0 de nL Z pc ls st h cb sb := by
  unfold o_istore at k
  split at k
  next x st =>
    obtain ⟨⟨hn, hl⟩, k⟩ := k
    intro L H locs cells slots h0 hL hP hO hS hc hs
    rcases hd with ⟨hd, rfl⟩ | ⟨i, hi, hd, rfl⟩
    · exact lv_istore hx hb hd hL (h0 ▸ hn) rfl (fun L' hL' => k L' H locs cells slots (by rw [List.length_set]; exact h0) (jd_lset hL' hl hn) hP hO hS hc hs)
    · exact lv_istore_n hx hb hd hi hL (h0 ▸ hn) rfl (fun L' hL' => k L' H locs cells slots (by rw [List.length_set]; exact h0) (jd_lset hL' hl hn) hP hO hS hc hs)
  next => exact k.elim
theorem sd_lstore (hx : p.tables.exec = Jvm.exec) (hb : c.code = cc) {n nx : Nat} (hd : (decode cc pc = .ok (.lstore n, 2) ∧ nx = pc + 2) ∨ ∃ k : Fin 4, k.val = n ∧ decode cc pc = .ok (.lstore_n k, 1) ∧ nx = pc + 1) (k : o_lstore n (jd_X p l e R s m args below meth c D cy B0 de nL Z nx) ls st h cb sb) : jd_X p l e R s m args below meth c D cy B0 de nL Z pc ls st h cb sb := by
  unfold o_lstore at k
  split at k
  next x st =>
    obtain ⟨⟨hn, hl⟩, k⟩ := k
    intro L H locs cells slots h0 hL hP hO hS hc hs
    rcases hd with ⟨hd, rfl⟩ | ⟨i, hi, hd, rfl⟩
    · exact lv_lstore hx hb hd hL (h0 ▸ hn) rfl (fun L' hL' => k L' H locs cells slots (by rw [List.length_set, List.length_set]; exact h0) (jd_lset2 hL' hl (by omega)) hP hO hS hc hs)
    · exact lv_lstore_n hx hb hd hi hL (h0 ▸ hn) rfl (fun L' hL' => k L' H locs cells slots (by rw [List.length_set, List.length_set]; exact h0) (jd_lset2 hL' hl (by omega)) hP hO hS hc hs)
  next => exact k.elim
theorem sd_astore (hx : p.tables.exec = Jvm.exec) (hb : c.code = cc) {n nx : Nat} (hd : (decode cc pc = .ok (.astore n, 2) ∧ nx = pc + 2) ∨ ∃ k : Fin 4, k.val = n ∧ decode cc pc = .ok (.astore_n k, 1) ∧ nx = pc + 1) (k : o_astore n (jd_X p l e R s m args below meth c D cy B0 de nL Z nx) ls st h cb sb) : jd_X p l e R s m args below meth c D cy B0 de nL Z pc ls st h cb sb := by
  unfold o_astore at k
  split at k
  next x st =>
    obtain ⟨⟨hn, hl⟩, k⟩ := k
    intro L H locs cells slots h0 hL hP hO hS hc hs
    rcases hd with ⟨hd, rfl⟩ | ⟨i, hi, hd, rfl⟩
    · exact lv_astore hx hb hd hL (h0 ▸ hn) rfl (fun L' hL' => k L' H locs cells slots (by rw [List.length_set]; exact h0) (jd_lset hL' hl hn) hP hO hS hc hs)
    · exact lv_astore_n hx hb hd hi hL (h0 ▸ hn) rfl (fun L' hL' => k L' H locs cells slots (by rw [List.length_set]; exact h0) (jd_lset hL' hl hn) hP hO hS hc hs)
  next st =>
    obtain ⟨⟨hn, hl⟩, k⟩ := k
    intro L H locs cells slots h0 hL hP hO hS hc hs
    rcases hd with ⟨hd, rfl⟩ | ⟨i, hi, hd, rfl⟩
    · exact lv_astoreN hx hb hd hL (h0 ▸ hn) rfl (fun L' hL' => k L' H locs cells slots (by rw [List.length_set]; exact h0) (jd_lset hL' hl hn) hP hO hS hc hs)
    · exact lv_astore_nN hx hb hd hi hL (h0 ▸ hn) rfl (fun L' hL' => k L' H locs cells slots (by rw [List.length_set]; exact h0) (jd_lset hL' hl hn) hP hO hS hc hs)
  next => exact k.elim
theorem sd_iinc (hx : p.tables.exec = Jvm.exec) (hb : c.code = cc) {n : Nat} {q : Int} (hd : decode cc pc = .ok (.iinc n q, 3)) (k : o_iinc n q (jd_X p l e R s m args below meth c D cy B0 de nL Z (pc + 3)) ls st h cb sb) : jd_X p l e R s m args below meth c D cy B0 de nL Z pc ls st h cb sb := by
  unfold o_iinc at k
  split at k
  next x hq =>
    obtain ⟨⟨hn, hl⟩, k⟩ := k
    intro L H locs cells slots h0 hL hP hO hS hc hs
    obtain ⟨i, hi⟩ := List.getElem?_of_mem ((jd_as_mem ls 0 (n, .int x)).mpr ⟨n, by simp, hq⟩)
    exact lv_iinc hx hb hd hL hi rfl (h0 ▸ hn) rfl (fun L' hL' => k L' H locs cells slots (by rw [List.length_set]; exact h0) (jd_lset hL' hl hn) hP hO hS hc hs)
  next => exact k.elim
theorem sd_iadd (hx : p.tables.exec = Jvm.exec) (hb : c.code = cc) (hd : decode cc pc = .ok (.iadd, 1)) (k : o_ibin (fun x y => x + y) (jd_X p l e R s m args below meth c D cy B0 de nL Z (pc + 1)) ls st h cb sb) : jd_X p l e R s m args below meth c D cy B0 de nL Z pc ls st h cb sb := by
  unfold o_ibin at k
  split at k
  next y x st =>
    intro L H locs cells slots h0 hL hP hO hS hc hs
    exact lv_iadd hx hb hd (k L H locs cells slots h0 hL hP hO hS hc hs)
  next => exact k.elim
theorem sd_isub (hx : p.tables.exec = Jvm.exec) (hb : c.code = cc) (hd : decode cc pc = .ok (.isub, 1)) (k : o_ibin (fun x y => x - y) (jd_X p l e R s m args below meth c D cy B0 de nL Z (pc + 1)) ls st h cb sb) : jd_X p l e R s m args below meth c D cy B0 de nL Z pc ls st h cb sb := by
  unfold o_ibin at k
  split at k
  next y x st =>
    intro L H locs cells slots h0 hL hP hO hS hc hs
    exact lv_isub hx hb hd (k L H locs cells slots h0 hL hP hO hS hc hs)
  next => exact k.elim
theorem sd_imul (hx : p.tables.exec = Jvm.exec) (hb : c.code = cc) (hd : decode cc pc = .ok (.imul, 1)) (k : o_ibin (fun x y => x * y) (jd_X p l e R s m args below meth c D cy B0 de nL Z (pc + 1)) ls st h cb sb) : jd_X p l e R s m args below meth c D cy B0 de nL Z pc ls st h cb sb := by
  unfold o_ibin at k
  split at k
  next y x st =>
    intro L H locs cells slots h0 hL hP hO hS hc hs
    exact lv_imul hx hb hd (k L H locs cells slots h0 hL hP hO hS hc hs)
  next => exact k.elim
theorem sd_iand (hx : p.tables.exec = Jvm.exec) (hb : c.code = cc) (hd : decode cc pc = .ok (.iand, 1)) (k : o_ibin (fun x y => x &&& y) (jd_X p l e R s m args below meth c D cy B0 de nL Z (pc + 1)) ls st h cb sb) : jd_X p l e R s m args below meth c D cy B0 de nL Z pc ls st h cb sb := by
  unfold o_ibin at k
  split at k
  next y x st =>
    intro L H locs cells slots h0 hL hP hO hS hc hs
    exact lv_iand hx hb hd (k L H locs cells slots h0 hL hP hO hS hc hs)
  next => exact k.elim
theorem sd_ishr (hx : p.tables.exec = Jvm.exec) (hb : c.code = cc) (hd : decode cc pc = .ok (.ishr, 1)) (k : o_ibin (fun x y => x >>> (y &&& 31)) (jd_X p l e R s m args below meth c D cy B0 de nL Z (pc + 1)) ls st h cb sb) : jd_X p l e R s m args below meth c D cy B0 de nL Z pc ls st h cb sb := by
  unfold o_ibin at k
  split at k
  next y x st =>
    intro L H locs cells slots h0 hL hP hO hS hc hs
    exact lv_ishr hx hb hd (k L H locs cells slots h0 hL hP hO hS hc hs)
  next => exact k.elim
theorem sd_ladd (hx : p.tables.exec = Jvm.exec) (hb : c.code = cc) (hd : decode cc pc = .ok (.ladd, 1)) (k : o_lbin (fun x y => x + y) (jd_X p l e R s m args below meth c D cy B0 de nL Z (pc + 1)) ls st h cb sb) : jd_X p l e R s m args below meth c D cy B0 de nL Z pc ls st h cb sb := by
  unfold o_lbin at k
  split at k
  next y x st =>
    intro L H locs cells slots h0 hL hP hO hS hc hs
    exact lv_ladd hx hb hd (k L H locs cells slots h0 hL hP hO hS hc hs)
  next => exact k.elim
theorem sd_lsub (hx : p.tables.exec = Jvm.exec) (hb : c.code = cc) (hd : decode cc pc = .ok (.lsub, 1)) (k : o_lbin (fun x y => x - y) (jd_X p l e R s m args below meth c D cy B0 de nL Z (pc + 1)) ls st h cb sb) : jd_X p l e R s m args below meth c D cy B0 de nL Z pc ls st h cb sb := by
  unfold o_lbin at k
  split at k
  next y x st =>
    intro L H locs cells slots h0 hL hP hO hS hc hs
    exact lv_lsub hx hb hd (k L H locs cells slots h0 hL hP hO hS hc hs)
  next => exact k.elim
theorem sd_lmul (hx : p.tables.exec = Jvm.exec) (hb : c.code = cc) (hd : decode cc pc = .ok (.lmul, 1)) (k : o_lbin (fun x y => x * y) (jd_X p l e R s m args below meth c D cy B0 de nL Z (pc + 1)) ls st h cb sb) : jd_X p l e R s m args below meth c D cy B0 de nL Z pc ls st h cb sb := by
  unfold o_lbin at k
  split at k
  next y x st =>
    intro L H locs cells slots h0 hL hP hO hS hc hs
    exact lv_lmul hx hb hd (k L H locs cells slots h0 hL hP hO hS hc hs)
  next => exact k.elim
theorem sd_ldiv (hx : p.tables.exec = Jvm.exec) (hb : c.code = cc) (hd : decode cc pc = .ok (.ldiv, 1)) (k : o_ldv (fun x y => x / y) (jd_X p l e R s m args below meth c D cy B0 de nL Z (pc + 1)) ls st h cb sb) : jd_X p l e R s m args below meth c D cy B0 de nL Z pc ls st h cb sb := by
  unfold o_ldv at k
  split at k
  next y x st =>
    obtain ⟨hne, k⟩ := k
    intro L H locs cells slots h0 hL hP hO hS hc hs
    exact lv_ldiv hx hb hd hne (k L H locs cells slots h0 hL hP hO hS hc hs)
  next => exact k.elim
theorem sd_lrem (hx : p.tables.exec = Jvm.exec) (hb : c.code = cc) (hd : decode cc pc = .ok (.lrem, 1)) (k : o_ldv (fun x y => x - x / y * y) (jd_X p l e R s m args below meth c D cy B0 de nL Z (pc + 1)) ls st h cb sb) : jd_X p l e R s m args below meth c D cy B0 de nL Z pc ls st h cb sb := by
  unfold o_ldv at k
  split at k
  next y x st =>
    obtain ⟨hne, k⟩ := k
    intro L H locs cells slots h0 hL hP hO hS hc hs
    exact lv_lrem hx hb hd hne (k L H locs cells slots h0 hL hP hO hS hc hs)
  next => exact k.elim
theorem sd_ineg (hx : p.tables.exec = Jvm.exec) (hb : c.code = cc) (hd : decode cc pc = .ok (.ineg, 1)) (k : o_ineg (jd_X p l e R s m args below meth c D cy B0 de nL Z (pc + 1)) ls st h cb sb) : jd_X p l e R s m args below meth c D cy B0 de nL Z pc ls st h cb sb := by
  unfold o_ineg at k
  split at k
  next x st =>
    intro L H locs cells slots h0 hL hP hO hS hc hs
    exact lv_ineg hx hb hd (k L H locs cells slots h0 hL hP hO hS hc hs)
  next => exact k.elim
theorem sd_lneg (hx : p.tables.exec = Jvm.exec) (hb : c.code = cc) (hd : decode cc pc = .ok (.lneg, 1)) (k : o_lneg (jd_X p l e R s m args below meth c D cy B0 de nL Z (pc + 1)) ls st h cb sb) : jd_X p l e R s m args below meth c D cy B0 de nL Z pc ls st h cb sb := by
  unfold o_lneg at k
  split at k
  next x st =>
    intro L H locs cells slots h0 hL hP hO hS hc hs
    exact lv_lneg hx hb hd (k L H locs cells slots h0 hL hP hO hS hc hs)
  next => exact k.elim
theorem sd_lcmp (hx : p.tables.exec = Jvm.exec) (hb : c.code = cc) (hd : decode cc pc = .ok (.lcmp, 1)) (k : o_lcmp (jd_X p l e R s m args below meth c D cy B0 de nL Z (pc + 1)) ls st h cb sb) : jd_X p l e R s m args below meth c D cy B0 de nL Z pc ls st h cb sb := by
  unfold o_lcmp at k
  split at k
  next y x st =>
    intro L H locs cells slots h0 hL hP hO hS hc hs
    exact W.lcmp hx hb hd (k L H locs cells slots h0 hL hP hO hS hc hs)
  next => exact k.elim
theorem sd_i2l (hx : p.tables.exec = Jvm.exec) (hb : c.code = cc) (hd : decode cc pc = .ok (.i2l, 1)) (k : o_i2l (jd_X p l e R s m args below meth c D cy B0 de nL Z (pc + 1)) ls st h cb sb) : jd_X p l e R s m args below meth c D cy B0 de nL Z pc ls st h cb sb := by
  unfold o_i2l at k
  split at k
  next x st =>
    intro L H locs cells slots h0 hL hP hO hS hc hs
    exact lv_i2l hx hb hd rfl (k L H locs cells slots h0 hL hP hO hS hc hs)
  next => exact k.elim
theorem sd_l2i (hx : p.tables.exec = Jvm.exec) (hb : c.code = cc) (hd : decode cc pc = .ok (.l2i, 1)) (k : o_l2i (jd_X p l e R s m args below meth c D cy B0 de nL Z (pc + 1)) ls st h cb sb) : jd_X p l e R s m args below meth c D cy B0 de nL Z pc ls st h cb sb := by
  unfold o_l2i at k
  split at k
  next x st =>
    intro L H locs cells slots h0 hL hP hO hS hc hs
    exact lv_l2i hx hb hd rfl (k L H locs cells slots h0 hL hP hO hS hc hs)
  next => exact k.elim
theorem sd_dup (hx : p.tables.exec = Jvm.exec) (hb : c.code = cc) (hd : decode cc pc = .ok (.dup, 1)) (k : o_dup (jd_X p l e R s m args below meth c D cy B0 de nL Z (pc + 1)) ls st h cb sb) : jd_X p l e R s m args below meth c D cy B0 de nL Z pc ls st h cb sb := by
  unfold o_dup at k
  split at k
  next v st =>
    obtain ⟨hv, k⟩ := k
    intro L H locs cells slots h0 hL hP hO hS hc hs
    exact lv_dup hx hb hd hv (k L H locs cells slots h0 hL hP hO hS hc hs)
  next => exact k.elim
theorem sd_pop (hx : p.tables.exec = Jvm.exec) (hb : c.code = cc) (hd : decode cc pc = .ok (.pop, 1)) (k : o_pop (jd_X p l e R s m args below meth c D cy B0 de nL Z (pc + 1)) ls st h cb sb) : jd_X p l e R s m args below meth c D cy B0 de nL Z pc ls st h cb sb := by
  unfold o_pop at k
  split at k
  next v st =>
    obtain ⟨hv, k⟩ := k
    intro L H locs cells slots h0 hL hP hO hS hc hs
    exact lv_pop hx hb hd hv (k L H locs cells slots h0 hL hP hO hS hc hs)
  next => exact k.elim
theorem sd_dupx (hx : p.tables.exec = Jvm.exec) (hb : c.code = cc) (hd : decode cc pc = .ok (.dup_x1, 1)) (k : o_dupx (jd_X p l e R s m args below meth c D cy B0 de nL Z (pc + 1)) ls st h cb sb) : jd_X p l e R s m args below meth c D cy B0 de nL Z pc ls st h cb sb := by
  unfold o_dupx at k
  split at k
  next v w st =>
    obtain ⟨⟨hv, hw⟩, k⟩ := k
    intro L H locs cells slots h0 hL hP hO hS hc hs
    exact lv_dup_x1 hx hb hd hv hw (k L H locs cells slots h0 hL hP hO hS hc hs)
  next => exact k.elim
theorem sd_dup2 (hx : p.tables.exec = Jvm.exec) (hb : c.code = cc) (hd : decode cc pc = .ok (.dup2, 1)) (k : o_dup2 (jd_X p l e R s m args below meth c D cy B0 de nL Z (pc + 1)) ls st h cb sb) : jd_X p l e R s m args below meth c D cy B0 de nL Z pc ls st h cb sb := by
  unfold o_dup2 at k
  split at k
  next v w st =>
    obtain ⟨⟨hv, hw⟩, k⟩ := k
    intro L H locs cells slots h0 hL hP hO hS hc hs
    exact lv_dup2_11 hx hb hd hv hw (k L H locs cells slots h0 hL hP hO hS hc hs)
  next => exact k.elim
theorem sd_null (hx : p.tables.exec = Jvm.exec) (hb : c.code = cc) (hd : decode cc pc = .ok (.aconst_null, 1)) (k : o_null (jd_X p l e R s m args below meth c D cy B0 de nL Z (pc + 1)) ls st h cb sb) : jd_X p l e R s m args below meth c D cy B0 de nL Z pc ls st h cb sb := by
  intro L H locs cells slots h0 hL hP hO hS hc hs
  exact lv_null hx hb hd (k L H locs cells slots h0 hL hP hO hS hc hs)
theorem sd_ipush (hx : p.tables.exec = Jvm.exec) (hb : c.code = cc) (hown : s.vm.findClass own = some m.cls) (hts : ∀ w ∈ jd_tb, w.before args s = true) {nx : Nat} {v : Int} (hd : (decode cc pc = .ok (.iconst v, 1) ∧ nx = pc + 1) ∨ ((decode cc pc = .ok (.bipush v, 2) ∧ nx = pc + 2) ∧ (Int8.ofInt v).toInt32 = Int32.ofInt v) ∨ ((decode cc pc = .ok (.sipush v, 3) ∧ nx = pc + 3) ∧ (Int16.ofInt v).toInt32 = Int32.ofInt v) ∨ ∃ i : Nat, (decode cc pc = .ok (.ldc i, 2) ∧ nx = pc + 2) ∧ Jvm.Cond.constant own i (Int32.ofInt v) ∈ jd_tb) (k : o_ipush v (jd_X p l e R s m args below meth c D cy B0 de nL Z nx) ls st h cb sb) : jd_X p l e R s m args below meth c D cy B0 de nL Z pc ls st h cb sb := by
  intro L H locs cells slots h0 hL hP hO hS hc hs
  rcases hd with ⟨hd, rfl⟩ | ⟨⟨hd, rfl⟩, hv⟩ | ⟨⟨hd, rfl⟩, hv⟩ | ⟨i, ⟨hd, rfl⟩, hv⟩
  · exact lv_iconst hx hb hd rfl (k L H locs cells slots h0 hL hP hO hS hc hs)
  · exact lv_bipush hx hb hd hv (k L H locs cells slots h0 hL hP hO hS hc hs)
  · exact lv_sipush hx hb hd hv (k L H locs cells slots h0 hL hP hO hS hc hs)
  · exact lv_ldc hx hb hown (hts _ hv) hd (k L H locs cells slots h0 hL hP hO hS hc hs)
theorem sd_lpush (hx : p.tables.exec = Jvm.exec) (hb : c.code = cc) (hown : s.vm.findClass own = some m.cls) (hts : ∀ w ∈ jd_tb, w.before args s = true) {nx : Nat} {v : Int} (hd : (∃ n : Fin 2, (decode cc pc = .ok (.lconst n, 1) ∧ nx = pc + 1) ∧ Int64.ofNat (n : Nat) = Int64.ofInt v) ∨ ∃ i : Nat, (decode cc pc = .ok (.ldc2_w i, 3) ∧ nx = pc + 3) ∧ Jvm.Cond.constantLong own i (Int64.ofInt v) ∈ jd_tb) (k : o_lpush v (jd_X p l e R s m args below meth c D cy B0 de nL Z nx) ls st h cb sb) : jd_X p l e R s m args below meth c D cy B0 de nL Z pc ls st h cb sb := by
  intro L H locs cells slots h0 hL hP hO hS hc hs
  rcases hd with ⟨n, ⟨hd, rfl⟩, hv⟩ | ⟨i, ⟨hd, rfl⟩, hv⟩
  · exact lv_lconst hx hb hd hv (k L H locs cells slots h0 hL hP hO hS hc hs)
  · exact lv_ldc2 hx hb hown (hts _ hv) hd (k L H locs cells slots h0 hL hP hO hS hc hs)
theorem sd_goto (hx : p.tables.exec = Jvm.exec) (hb : c.code = cc) {off : Int} {t : Nat} (hd : decode cc pc = .ok (.goto off, 3)) (ht : (pc : Int) + off = (t : Int)) (k : jd_X p l e R s m args below meth c D cy B0 de nL Z t ls st h cb sb) : jd_X p l e R s m args below meth c D cy B0 de nL Z pc ls st h cb sb := by
  intro L H locs cells slots h0 hL hP hO hS hc hs
  exact lv_goto hx hb hd ht (k L H locs cells slots h0 hL hP hO hS hc hs)
theorem sd_ic (hx : p.tables.exec = Jvm.exec) (hb : c.code = cc) {off : Int} {t : Nat} (q : ClassFile.Cond) (hd : decode cc pc = .ok (.if_icmp q off, 3)) (ht : (pc : Int) + off = (t : Int)) (k : o_ic (jd_c2 q) (jd_X p l e R s m args below meth c D cy B0 de nL Z t) (jd_X p l e R s m args below meth c D cy B0 de nL Z (pc + 3)) ls st h cb sb) : jd_X p l e R s m args below meth c D cy B0 de nL Z pc ls st h cb sb := by
  unfold o_ic at k
  split at k
  next y x st =>
    intro L H locs cells slots h0 hL hP hO hS hc hs
    cases q
    · exact lv_icmp_eq hx hb hd ht (fun z => k.1 z L H locs cells slots h0 hL hP hO hS hc hs) (fun z => k.2 z L H locs cells slots h0 hL hP hO hS hc hs)
    · exact lv_icmp_ne hx hb hd ht (fun z => k.1 z L H locs cells slots h0 hL hP hO hS hc hs) (fun z => k.2 (fun w => w z) L H locs cells slots h0 hL hP hO hS hc hs)
    · exact lv_icmp_lt hx hb hd ht (fun z => k.1 z L H locs cells slots h0 hL hP hO hS hc hs) (fun z => k.2 z L H locs cells slots h0 hL hP hO hS hc hs)
    · exact lv_icmp_ge hx hb hd ht (fun z => k.1 z L H locs cells slots h0 hL hP hO hS hc hs) (fun z => k.2 z L H locs cells slots h0 hL hP hO hS hc hs)
    · exact lv_icmp_gt hx hb hd ht (fun z => k.1 z L H locs cells slots h0 hL hP hO hS hc hs) (fun z => k.2 z L H locs cells slots h0 hL hP hO hS hc hs)
    · exact lv_icmp_le hx hb hd ht (fun z => k.1 z L H locs cells slots h0 hL hP hO hS hc hs) (fun z => k.2 z L H locs cells slots h0 hL hP hO hS hc hs)
  next => exact k.elim
theorem sd_iz (hx : p.tables.exec = Jvm.exec) (hb : c.code = cc) {off : Int} {t : Nat} (q : ClassFile.Cond) (hd : decode cc pc = .ok (.ifCond q off, 3)) (ht : (pc : Int) + off = (t : Int)) (k : o_iz (jd_c1 q) (jd_X p l e R s m args below meth c D cy B0 de nL Z t) (jd_X p l e R s m args below meth c D cy B0 de nL Z (pc + 3)) ls st h cb sb) : jd_X p l e R s m args below meth c D cy B0 de nL Z pc ls st h cb sb := by
  unfold o_iz at k
  split at k
  next x st =>
    intro L H locs cells slots h0 hL hP hO hS hc hs
    cases q
    · exact lv_if_eq hx hb hd ht (fun z => k.1 z L H locs cells slots h0 hL hP hO hS hc hs) (fun z => k.2 z L H locs cells slots h0 hL hP hO hS hc hs)
    · exact lv_if_ne hx hb hd ht (fun z => k.1 z L H locs cells slots h0 hL hP hO hS hc hs) (fun z => k.2 (fun w => w z) L H locs cells slots h0 hL hP hO hS hc hs)
    · exact lv_if_lt hx hb hd ht (fun z => k.1 z L H locs cells slots h0 hL hP hO hS hc hs) (fun z => k.2 z L H locs cells slots h0 hL hP hO hS hc hs)
    · exact lv_if_ge hx hb hd ht (fun z => k.1 z L H locs cells slots h0 hL hP hO hS hc hs) (fun z => k.2 z L H locs cells slots h0 hL hP hO hS hc hs)
    · exact lv_if_gt hx hb hd ht (fun z => k.1 z L H locs cells slots h0 hL hP hO hS hc hs) (fun z => k.2 z L H locs cells slots h0 hL hP hO hS hc hs)
    · exact lv_if_le hx hb hd ht (fun z => k.1 z L H locs cells slots h0 hL hP hO hS hc hs) (fun z => k.2 z L H locs cells slots h0 hL hP hO hS hc hs)
  next => exact k.elim
theorem sd_ifnull (hx : p.tables.exec = Jvm.exec) (hb : c.code = cc) {off : Int} {t : Nat} (hd : decode cc pc = .ok (.ifnull off, 3)) (ht : (pc : Int) + off = (t : Int)) (k : o_nul (jd_X p l e R s m args below meth c D cy B0 de nL Z t) (jd_X p l e R s m args below meth c D cy B0 de nL Z (pc + 3)) ls st h cb sb) : jd_X p l e R s m args below meth c D cy B0 de nL Z pc ls st h cb sb := by
  unfold o_nul at k
  split at k
  next st =>
    intro L H locs cells slots h0 hL hP hO hS hc hs
    exact lv_ifnullN hx hb hd ht (k L H locs cells slots h0 hL hP hO hS hc hs)
  next x st =>
    intro L H locs cells slots h0 hL hP hO hS hc hs
    exact lv_ifnull hx hb hd (k L H locs cells slots h0 hL hP hO hS hc hs)
  next => exact k.elim
theorem sd_ifnonnull (hx : p.tables.exec = Jvm.exec) (hb : c.code = cc) {off : Int} {t : Nat} (hd : decode cc pc = .ok (.ifnonnull off, 3)) (ht : (pc : Int) + off = (t : Int)) (k : o_nul (jd_X p l e R s m args below meth c D cy B0 de nL Z (pc + 3)) (jd_X p l e R s m args below meth c D cy B0 de nL Z t) ls st h cb sb) : jd_X p l e R s m args below meth c D cy B0 de nL Z pc ls st h cb sb := by
  unfold o_nul at k
  split at k
  next st =>
    intro L H locs cells slots h0 hL hP hO hS hc hs
    exact lv_ifnonnullN hx hb hd (k L H locs cells slots h0 hL hP hO hS hc hs)
  next x st =>
    intro L H locs cells slots h0 hL hP hO hS hc hs
    exact lv_ifnonnull hx hb hd ht (k L H locs cells slots h0 hL hP hO hS hc hs)
  next => exact k.elim
theorem sd_acmp_eq (hx : p.tables.exec = Jvm.exec) (hb : c.code = cc) {off : Int} {t : Nat} (hd : decode cc pc = .ok (.if_acmp .eq off, 3)) (ht : (pc : Int) + off = (t : Int)) (k : o_acmp (jd_X p l e R s m args below meth c D cy B0 de nL Z t) (jd_X p l e R s m args below meth c D cy B0 de nL Z (pc + 3)) ls st h cb sb) : jd_X p l e R s m args below meth c D cy B0 de nL Z pc ls st h cb sb := by
  unfold o_acmp at k
  split at k
  next y x st =>
    intro L H locs cells slots h0 hL hP hO hS hc hs
    exact lv_acmp_eq (rx := some x) (ry := some y) hx hb hd ht (fun z => k.1 (Option.some.inj z) L H locs cells slots h0 hL hP hO hS hc hs) (fun z => k.2 (fun w => z (by rw [w])) L H locs cells slots h0 hL hP hO hS hc hs)
  next => exact k.elim
theorem sd_acmp_ne (hx : p.tables.exec = Jvm.exec) (hb : c.code = cc) {off : Int} {t : Nat} (hd : decode cc pc = .ok (.if_acmp .ne off, 3)) (ht : (pc : Int) + off = (t : Int)) (k : o_acmp (jd_X p l e R s m args below meth c D cy B0 de nL Z (pc + 3)) (jd_X p l e R s m args below meth c D cy B0 de nL Z t) ls st h cb sb) : jd_X p l e R s m args below meth c D cy B0 de nL Z pc ls st h cb sb := by
  unfold o_acmp at k
  split at k
  next y x st =>
    intro L H locs cells slots h0 hL hP hO hS hc hs
    exact lv_acmp_ne (rx := some x) (ry := some y) hx hb hd ht (fun z => k.2 (fun w => z (by rw [w])) L H locs cells slots h0 hL hP hO hS hc hs) (fun z => k.1 (Option.some.inj z) L H locs cells slots h0 hL hP hO hS hc hs)
  next => exact k.elim
theorem jd_sw_at {X : jd_C} {x : Int} : ∀ (ts : List Nat) (lo : Int) (n t : Nat), ts[n]? = some t → x = lo + n → jd_sw x lo X ls st h cb sb ts → X t ls st h cb sb
  | [], _, _, _, h1, _, _ => by simp at h1
  | u :: ts, lo, 0, t, h1, h2, q => by
    simp at h1
    subst h1
    exact q.1 (by simpa using h2)
  | u :: ts, lo, n + 1, t, h1, h2, q => jd_sw_at ts (lo + 1) n t (by simpa using h1) (by rw [h2]; push_cast; omega) q.2
theorem sd_tsw (hx : p.tables.exec = Jvm.exec) (hb : c.code = cc) {off lo hi : Int} {offs : Array Int} {len t : Nat} {ts : List Nat} (hd : decode cc pc = .ok (.tableswitch off lo hi offs, len)) (ht : (pc : Int) + off = (t : Int)) (hh : hi + 1 = lo + ts.length) (hts : offs.toList.map (fun o => (pc : Int) + o) = ts.map (fun (x : Nat) => (x : Int))) (k : o_tsw lo ts t (jd_X p l e R s m args below meth c D cy B0 de nL Z) ls st h cb sb) : jd_X p l e R s m args below meth c D cy B0 de nL Z pc ls st h cb sb := by
  unfold o_tsw at k
  split at k
  next x st =>
    intro L H locs cells slots h0 hL hP hO hS hc hs
    by_cases h1 : x.toInt < lo
    · exact lv_tableOut hx hb hd (Or.inl h1) ht (k.2 (Or.inl h1) L H locs cells slots h0 hL hP hO hS hc hs)
    by_cases h2 : hi < x.toInt
    · exact lv_tableOut hx hb hd (Or.inr h2) ht (k.2 (Or.inr (by omega)) L H locs cells slots h0 hL hP hO hS hc hs)
    have hn : (x.toInt - lo).toNat < ts.length := by omega
    have hl : offs.toList.length = ts.length := by have := congrArg List.length hts; simpa using this
    have hn2 : (x.toInt - lo).toNat < offs.toList.length := by omega
    have e : (pc : Int) + offs.toList[(x.toInt - lo).toNat] = (ts[(x.toInt - lo).toNat] : Int) := by
      have h3 := congrArg (fun q => q[(x.toInt - lo).toNat]?) hts
      simp only [List.getElem?_map, List.getElem?_eq_getElem hn, List.getElem?_eq_getElem hn2, Option.map_some] at h3
      exact Option.some.inj h3
    refine lv_tableIn hx hb hd h1 h2 (off := offs.toList[(x.toInt - lo).toNat]) (by rw [← Array.getElem?_toList, List.getElem?_eq_getElem hn2]) e ?_
    exact jd_sw_at ts lo _ _ (List.getElem?_eq_getElem hn) (by omega) k.1 L H locs cells slots h0 hL hP hO hS hc hs
  next => exact k.elim
end JX
