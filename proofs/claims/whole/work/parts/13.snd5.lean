/-! calls -/
def jd_nest : List (String × Nat × MethodName × String) := [(RX6, 18, yX1_init, "JettisonDesk"), (RX5, 26, yX4_init, "JettisonDesk"), (RX5, 67, yX6_isWithin, "JettisonDesk"), (RX4, 58, yX6_isOwner, "JettisonDesk"), (RX5, 101, yX0_init, "JettisonDesk"), (RX0, 34, yX6_isWithin, "JettisonDesk"), (RX5, 143, yX6_isOwner, "JettisonDesk"), (RX5, 147, yX6_isAmount, "JettisonDesk"), (RX0, 42, yX6_isOwner, "JettisonDesk")]
def jd_face : List (MethodName × MethodName) := [(⟨"java/util/List", "size", "()I"⟩, yJx4a65c_size_8abf5), (⟨"java/util/List", "add", "(Ljava/lang/Object;)Z"⟩, yJx4a65c_add_9ea2d), (⟨"java/util/List", "get", "(I)Ljava/lang/Object;"⟩, yJx4a65c_get_915e3), (⟨"java/util/List", "isEmpty", "()Z"⟩, yJx4a65c_isEmpty_aae02), (⟨"java/util/List", "remove", "(I)Ljava/lang/Object;"⟩, yJx4a65c_remove_915e3)]
/-- what the tables and the cells below B0 say, that no call changes -/
def jd_V (D : va_G) (cy : Nat → ClassId) (B0 de mi : Nat) (U : State) : Prop := va_K D vwCl (jd_tys cy) U ∧ va_Z "java/util/ArrayList" "DEFAULTCAPACITY_EMPTY_ELEMENTDATA" "[Ljava/lang/Object;" (.ref de) (fun q => B0 ≤ q) U U.heap ∧ va_Mi "[Ljava/lang/Object;" mi U ∧ (∃ (kA : Class) (comp : ClassId), U.vm.classes[cy 4]? = some kA ∧ kA.kind = .array comp (.array .int) ∧ comp = cy 0) ∧
  (∀ k, 1 ≤ k → k ≤ 9 → va_Nw (.castable (jd_cl k).1 "java/lang/Object") U) ∧ va_AO "java/lang/Object" U ∧ va_AOA .int U ∧ va_Dc U ∧ (∀ q ∈ jd_nest, va_Nw (.methodLinkNest q.1 q.2.1 q.2.2.1 q.2.2.2) U) ∧ ∀ q ∈ jd_face, va_Fw "java/util/ArrayList" q.1 q.2 U
def jd_Go (D : va_G) (cy : Nat → ClassId) (B0 de mi : Nat) (U : State) (h : jd_H) : Prop := jd_V D cy B0 de mi U ∧ jd_Ou B0 de U h ∧ jd_Rp D cy B0 h U.heap
theorem jd_AOA_spec {t : FieldType} {U : State} (h : va_AOA t U) : ∃ comp c k, U.vm.findClass (FieldType.array t).toString = some comp ∧ (U.vm.classes.findIdx? fun x => match x.kind with | .array component _ => component == comp | _ => false) = some c ∧ U.vm.classes[c]? = some k ∧ k.kind = .array comp (.array t) ∧ U.vm.findClass ("[" ++ (FieldType.array t).toString) = some c := by
  unfold va_AOA at h
  simp only [Cond.before, Cond.holds, Cond.value, beq_iff_eq] at h
  cases hc : U.vm.findClass (FieldType.array t).toString with
  | none => simp [hc] at h
  | some comp =>
    simp only [hc, Option.bind_some, Option.bind_eq_some_iff, Option.map_eq_some_iff] at h
    obtain ⟨c, hi, k, hk, hb⟩ := h
    obtain ⟨hlt, hp, -⟩ := Array.findIdx?_eq_some_iff_getElem.mp hi
    have hkk : U.vm.classes[c] = k := (Array.getElem?_eq_some_iff.mp hk).2
    rw [hkk] at hp
    cases hkind : k.kind with
    | array component ty =>
      rw [hkind] at hb hp
      simp at hb hp
      exact ⟨comp, c, k, rfl, hi, hk, by rw [hkind, hp, hb.1], hb.2⟩
    | _ => rw [hkind] at hb; simp at hb
theorem jd_AOA_moved {t : FieldType} {u U : State} (hvm : u.vm.Alike U.vm) (h : va_AOA t u) : va_AOA t U := by
  obtain ⟨comp, c, k, h1, h2, h3, h4, h5⟩ := jd_AOA_spec h
  obtain ⟨k', hk', he⟩ := hvm.2.2 _ _ h3
  have hi : (U.vm.classes.findIdx? fun (x : Class) => match x.kind with | .array component _ => component == comp | _ => false) = some c := by
    have e1 := va_idx_bare U.vm comp
    have e2 := va_idx_bare u.vm comp
    first | rw [hvm.bare_eq] at e2 | rw [← hvm.bare_eq] at e2
    exact e1.symm.trans (e2.trans h2)
  have hkind : k'.kind = .array comp (.array t) := by rw [he]; exact h4
  have f1 : U.vm.findClass (FieldType.array t).toString = some comp := by rw [hvm.findClass]; exact h1
  have f2 : U.vm.findClass ("[" ++ (FieldType.array t).toString) = some c := by rw [hvm.findClass]; exact h5
  unfold va_AOA Cond.before Cond.holds
  simp only [Cond.value]
  rw [f1, Option.bind_some]
  refine (congrArg (fun o : Option Nat => (o.bind (fun c => (U.vm.classes[c]?).map fun (k : Class) => match k.kind with | .array _ ty => decide (ty = FieldType.array t) && decide (U.vm.findClass ("[" ++ (FieldType.array t).toString) = some c) | _ => false) == some true)) hi).trans ?_
  simp [hk', hkind, f2]
theorem jd_V_moved {D : va_G} {cy : Nat → ClassId} {B0 de mi : Nat} {u U : State} (hW : u.WarmedH U.vm) (hk : ∀ q, q < B0 → U.heap[q]? = u.heap[q]?) (h : jd_V D cy B0 de mi u) : jd_V D cy B0 de mi U := by
  obtain ⟨h1, h2, h3, ⟨kA, comp, h4, h5, h6⟩, h7, h8, h9, h10, h11, h12⟩ := h
  have hvm := hW.alike
  obtain ⟨k', hk', he⟩ := hvm.2.2 _ _ h4
  exact ⟨va_K.moved hvm h1, (va_Z.moved hvm h2).kept (fun a _ ha => hk a (Nat.not_le.mp ha)), va_Mi.moved hvm h3, ⟨k', comp, hk', by rw [he]; exact h5, h6⟩, fun k q1 q2 => va_Nw.warmC hW (h7 k q1 q2), va_AO.moved hvm h8, jd_AOA_moved hvm h9, va_Dc.moved hvm h10, fun q hq => va_Nw.warmM hW (h11 q hq), fun q hq => (h12 q hq).moved (by
    have : ∀ q ∈ jd_face, q.1.cls ≠ "java/lang/invoke/MethodHandle" ∧ q.1.cls ≠ "java/lang/invoke/VarHandle" := by decide +kernel
    exact this q hq) hvm⟩
theorem jd_Ou_moved {B0 de : Nat} {u U : State} {h : jd_H} (hvm : u.vm.Alike U.vm) (hk : ∀ q, q < B0 → U.heap[q]? = u.heap[q]?) (hB : B0 ≤ U.heap.size) (hO : jd_Ou B0 de u h) : jd_Ou B0 de U h := by
  obtain ⟨h1, h2, ⟨cell, h3, h4, h5⟩, h6, h7, h8⟩ := hO
  exact ⟨h1, hB, ⟨cell, by rw [hk de h1]; exact h3, State.isArrayOf_alike hvm h4, h5⟩, h6, h7, fun a ha => ⟨(h8 a ha).1, ((h8 a ha).2.moved hvm).kept (hk a (h8 a ha).1)⟩⟩
def jd_Pc (D : va_G) (cy : Nat → ClassId) (B0 de mi : Nat) (as : List Value) (h : jd_H) : Array Value → State → Prop := va_Pc as (fun U => jd_Go D cy B0 de mi U h)
def jd_Qc (D : va_G) (cy : Nat → ClassId) (B0 de mi : Nat) (Q : jd_Q) : Array Value → State → Outcome → State → Prop := fun _ st o t => ∃ (r : Option Value) (h' : jd_H), o = .returned r ∧ Q r h' ∧ (jd_Ou B0 de t h' ∧ jd_Rp D cy B0 h' t.heap) ∧ va_F (fun q => B0 ≤ q) st t
theorem jd_blind {D : va_G} {cy : Nat → ClassId} {B0 de mi : Nat} {as : List Value} {h : jd_H} : FrameBlind (jd_Pc D cy B0 de mi as h) := fun a U g mk q => ⟨q.1, jd_V_moved (u := U) (U := U.calling g mk a) (State.WarmedH.refl U) (fun _ _ => rfl) q.2.1, jd_Ou_moved (u := U) (U := U.calling g mk a) (Vm.Alike.refl U.vm) (fun _ _ => rfl) q.2.2.1.2.1 q.2.2.1, q.2.2.2⟩
theorem jd_good : ∀ w ∈ jd_tb, (w.onTables && w.keeps) = true ∨ ∃ ty, w = .arrayClass ty := fun w hw => good_of_word (List.mem_filter.mp hw).2
theorem jd_goodIn {j : Nat} (h : Cond.code (jd_y j) (jd_b j) (jd_mL.getD j 0) (jd_r j) ∈ jd_tb) : GoodIn jd_tb (jd_ws j) := fun w hw => by
  rcases List.mem_cons.mp hw with e | e
  · rw [e]; exact ⟨h, jd_good _ h⟩
  · exact ⟨e, jd_good w e⟩
theorem jd_pop_spec : ∀ (n : Nat) (st acc as rest : List Value), jd_pop n st acc = some (as, rest) → ∃ l : List Value, as = l.reverse ++ acc ∧ st = l ++ rest ∧ l.length = n
  | 0, st, acc, as, rest, h => by
    simp only [jd_pop, Option.some.injEq, Prod.mk.injEq] at h
    obtain ⟨rfl, rfl⟩ := h
    exact ⟨[], rfl, rfl, rfl⟩
  | n + 1, [], acc, as, rest, h => by simp [jd_pop] at h
  | n + 1, v :: st, acc, as, rest, h => by
    simp only [jd_pop] at h
    obtain ⟨l, h1, h2, h3⟩ := jd_pop_spec n st (v :: acc) as rest h
    exact ⟨v :: l, by simp [h1], by simp [h2], by simp [h3]⟩
/-- of a method: what a call of it needs -/
def jd_mok (j n : Nat) : Prop := plainName (jd_y j).cls = true ∧ (jd_y j).cls ≠ "java/lang/invoke/MethodHandle" ∧ (jd_y j).cls ≠ "java/lang/invoke/VarHandle" ∧ (parseMethodDescriptor (jd_y j).desc).map (fun d => d.parameters.length) = some n ∧ Cond.code (jd_y j) (jd_b j) (jd_mL.getD j 0) (jd_r j) ∈ jd_tb ∧ Cond.initialized (jd_y j).cls ∈ jd_tb ∧ jd_mL.getD j 0 ≤ 20
section JX
variable {p : Program} {l : Launch} {e : Env} {R : Room} {s : State} {m : MethodId} {args : Array Value} {below : List Frame} {meth : Method} {c : Code} {D : va_G} {cy : Nat → ClassId} {B0 de nL : Nat} {Z : State → Prop}
variable {cc : ByteArray} {pc : Nat} {ls : jd_F} {st : List Value} {h : jd_H} {cb sb : Nat} {own : String} {mi : Nat} {Q : jd_Q}
theorem jd_low {H : Heap} {locs : List Loc} (hO : jd_Ou B0 de s h) (hS : va_S (fun q => B0 ≤ q) s.heap H locs) : ∀ q, q < B0 → H[q]? = s.heap[q]? := fun q hq => hS.2.1 q (Nat.lt_of_lt_of_le hq hO.2.1) (Nat.not_le.mpr hq)
theorem jd_pre {H : Heap} {locs : List Loc} {as : List Value} (hV : jd_V D cy B0 de mi s) (hP : jd_Rp D cy B0 h H) (hO : jd_Ou B0 de s h) (hS : va_S (fun q => B0 ≤ q) s.heap H locs) : PreS s H (jd_Pc D cy B0 de mi as h) as := by
  refine ⟨jd_blind, fun U hU hW => ⟨rfl, jd_V_moved hW (fun q hq => by rw [hU]; exact jd_low hO hS q hq) hV, jd_Ou_moved hW.alike (fun q hq => by rw [hU]; exact jd_low hO hS q hq) (by rw [hU]; exact Nat.le_trans hO.2.1 hS.1) hO, by rw [hU]; exact hP⟩⟩
theorem jd_run {H : Heap} {locs : List Loc} {cells slots mc ms : Nat} {L : Array Slot} {st0 rest : List Value} {a : Array Value} (hO : jd_Ou B0 de s h) (hr : va_Run p l e R s m args below meth c H locs cells slots mc ms (F0 m pc L st0) rest (jd_Qc D cy B0 de mi Q a) (fun q => B0 ≤ q)) (hS : va_S (fun q => B0 ≤ q) s.heap H locs)
    (kk : ∀ (r : Option Value) (h' : jd_H) (H1 : Heap) (locs1 : List Loc), Q r h' → jd_Rp D cy B0 h' H1 → jd_Ou B0 de s h' → va_S (fun q => B0 ≤ q) s.heap H1 locs1 → W p l e R s m args below meth c H1 locs1 (cells + mc) (slots + ms) Z (F0 m (pc + 3) L (r.toList ++ rest))) : W p l e R s m args below meth c H locs cells slots Z (F0 m pc L st0) := by
  intro T hT X
  obtain ⟨v, st₀, t, T', L', h0, X', hL, e1, e2, ⟨r, h', hv, hq, ⟨hO2, hP2⟩, hz, hk⟩, st⟩ := hr T hT X
  have hv2 : v = r := by injection hv
  subst hv2
  rw [h0] at hz hk
  have hS1 : va_S (fun q => B0 ≤ q) s.heap T'.heap (locs ++ L') := ⟨Nat.le_trans hS.1 (by rw [e1]; exact hz), fun q h1 h2 => by rw [e1, hk q (Nat.lt_of_lt_of_le h1 hS.1) h2]; exact hS.2.1 q h1 h2, fun q hq => by
      rcases List.mem_append.mp hq with h | h
      · exact hS.2.2 q h
      · exact hL q h⟩
  have hal : s.vm.Alike t.vm := by rw [← e2]; exact X'.warmed.alike
  have hO3 : jd_Ou B0 de s h' := jd_Ou_moved hal.symm (fun q hq => by rw [← e1]; exact (jd_low hO hS1 q hq).symm) hO.2.1 hO2
  obtain ⟨t2, a1, b1⟩ := kk v h' T'.heap (locs ++ L') hq (by rw [e1]; exact hP2) hO3 hS1 T' rfl X'
  exact ⟨t2, st t2 a1, b1⟩
theorem jd_run5 {H : Heap} {locs : List Loc} {cells slots mc ms : Nat} {L : Array Slot} {st0 rest : List Value} {a : Array Value} (hO : jd_Ou B0 de s h) (hr : va_Run5 p l e R s m args below meth c H locs cells slots mc ms (F0 m pc L st0) rest (jd_Qc D cy B0 de mi Q a) (fun q => B0 ≤ q)) (hS : va_S (fun q => B0 ≤ q) s.heap H locs)
    (kk : ∀ (r : Option Value) (h' : jd_H) (H1 : Heap) (locs1 : List Loc), Q r h' → jd_Rp D cy B0 h' H1 → jd_Ou B0 de s h' → va_S (fun q => B0 ≤ q) s.heap H1 locs1 → W p l e R s m args below meth c H1 locs1 (cells + mc) (slots + ms) Z (F0 m (pc + 5) L (r.toList ++ rest))) : W p l e R s m args below meth c H locs cells slots Z (F0 m pc L st0) := by
  intro T hT X
  obtain ⟨v, st₀, t, T', L', h0, X', hL, e1, e2, ⟨r, h', hv, hq, ⟨hO2, hP2⟩, hz, hk⟩, st⟩ := hr T hT X
  have hv2 : v = r := by injection hv
  subst hv2
  rw [h0] at hz hk
  have hS1 : va_S (fun q => B0 ≤ q) s.heap T'.heap (locs ++ L') := ⟨Nat.le_trans hS.1 (by rw [e1]; exact hz), fun q h1 h2 => by rw [e1, hk q (Nat.lt_of_lt_of_le h1 hS.1) h2]; exact hS.2.1 q h1 h2, fun q hq => by
      rcases List.mem_append.mp hq with h | h
      · exact hS.2.2 q h
      · exact hL q h⟩
  have hal : s.vm.Alike t.vm := by rw [← e2]; exact X'.warmed.alike
  have hO3 : jd_Ou B0 de s h' := jd_Ou_moved hal.symm (fun q hq => by rw [← e1]; exact (jd_low hO hS1 q hq).symm) hO.2.1 hO2
  obtain ⟨t2, a1, b1⟩ := kk v h' T'.heap (locs ++ L') hq (by rw [e1]; exact hP2) hO3 hS1 T' rfl X'
  exact ⟨t2, st t2 a1, b1⟩
/-- what a call by number means -/
def jd_CallOk (l : Launch) (D : va_G) (cy : Nat → ClassId) (B0 de mi d : Nat) (call : jd_M) : Prop := ∀ (j : Nat) (as : List Value) (h : jd_H) (Q : jd_Q), call j as h Q → ∃ d', d = d' + 1 ∧ ((Cond.code (jd_y j) (jd_b j) (jd_mL.getD j 0) (jd_r j) ∈ jd_tb ∧ plainName (jd_y j).cls = true) → Met l (jd_y j) (jd_ws j) (jd_rm d' (jd_mc.getD j 0) (jd_ms.getD j 0)) (jd_Pc D cy B0 de mi as h) (jd_Qc D cy B0 de mi Q) (jd_mc.getD j 0) (jd_ms.getD j 0) (fun q => B0 ≤ q))
def jd_lkS (own : String) (idx j : Nat) : Prop := Cond.methodLink own idx (jd_y j) ∈ jd_tb ∨ ∃ host, (own, idx, jd_y j, host) ∈ jd_nest
theorem sd_calls {d : Nat} {call : jd_M} (hC : jd_CallOk l D cy B0 de mi d call) (hx : p.tables.exec = Jvm.exec) (hb : c.code = cc) (hml : c.maxLocals = nL) (hown : s.vm.findClass own = some m.cls) (hts : ∀ w ∈ jd_tb, w.before args s = true) (hV : jd_V D cy B0 de mi s) {j idx n : Nat} (hRf : d ≤ R.frames) (hRl : 39 * d ≤ R.locals) (hm : jd_mok j n) (hlk : jd_lkS own idx j) (hst : Cond.static (jd_y j) ∈ jd_tb) (hd : decode cc pc = .ok (.invokestatic idx, 3)) (k : o_calls call j n (jd_mc.getD j 0) (jd_ms.getD j 0) (jd_X p l e R s m args below meth c D cy B0 de nL Z (pc + 3)) ls st h cb sb) : jd_X p l e R s m args below meth c D cy B0 de nL Z pc ls st h cb sb := by
  unfold o_calls at k
  split at k
  next as rest hp =>
    obtain ⟨⟨hc1, hs1, h4⟩, k⟩ := k
    obtain ⟨d', rfl, hMt⟩ := hC j as h _ k
    obtain ⟨m1, m2, m3, m4, m5, m6, m7⟩ := hm
    obtain ⟨lst, e1, e2, e3⟩ := jd_pop_spec _ _ _ _ _ hp
    rw [List.append_nil] at e1
    subst e1
    intro L H locs cells slots h0 hL hP hO hS hc hs2
    have hcat := jd_cat rest h4
    have hM := hMt ⟨m5, m1⟩
    have hR : (jd_rm d' (jd_mc.getD j 0) (jd_ms.getD j 0)).frames + 1 ≤ R.frames ∧ 8 + (jd_mL.getD j 0 + 11) + (jd_rm d' (jd_mc.getD j 0) (jd_ms.getD j 0)).locals ≤ R.locals := ⟨hRf, by show 8 + (jd_mL.getD j 0 + 11) + 39 * d' ≤ R.locals; omega⟩
    have hgo : ∀ (r : Option Value) (h' : jd_H) (H1 : Heap) (locs1 : List Loc), jd_X p l e R s m args below meth c D cy B0 de nL Z (pc + 3) ls (r.toList ++ rest) h' (cb - jd_mc.getD j 0) (sb - jd_ms.getD j 0) → jd_Rp D cy B0 h' H1 → jd_Ou B0 de s h' → va_S (fun q => B0 ≤ q) s.heap H1 locs1 → W p l e R s m args below meth c H1 locs1 (cells + jd_mc.getD j 0) (slots + jd_ms.getD j 0) Z (F0 m (pc + 3) L (r.toList ++ rest)) := fun r h' H1 locs1 hq hP1 hO1 hS1 => hq L H1 locs1 _ _ h0 hL hP1 hO1 hS1 (by omega) (by omega)
    rcases hlk with hlk | ⟨host, hlk⟩
    · exact jd_run hO (va_runS (As := lst.reverse) (rest := rest) ⟨hx, hb, hml, hown, hts⟩ hM ⟨callB_of n hts (jd_goodIn m5) rfl rfl rfl (hts _ m6) (hts _ hlk) ⟨m2, m3, m4⟩ hR, hts _ hst⟩ (jd_pre hV hP hO hS) rfl (by simp [e3]) hL.1 (by simp [e2]) (lv_room hcat) hd ⟨by omega, by omega⟩) hS hgo
    · exact jd_run hO (va_runSN (As := lst.reverse) (rest := rest) ⟨hx, hb, hml, hown, hts⟩ hM ⟨va_cnB n hts (jd_goodIn m5) rfl rfl rfl (hV.2.2.2.2.2.2.2.2.1 _ hlk) (hts _ m6) ⟨m2, m3, m4⟩ hR, hts _ hst, trivial⟩ (jd_pre hV hP hO hS) rfl (by simp [e3]) hL.1 (by simp [e2]) (lv_room hcat) hd ⟨by omega, by omega⟩) hS hgo
  next => exact k.elim
theorem sd_calli {d : Nat} {call : jd_M} (hC : jd_CallOk l D cy B0 de mi d call) (hx : p.tables.exec = Jvm.exec) (hb : c.code = cc) (hml : c.maxLocals = nL) (hown : s.vm.findClass own = some m.cls) (hts : ∀ w ∈ jd_tb, w.before args s = true) (hV : jd_V D cy B0 de mi s) {j idx n : Nat} (hRf : d ≤ R.frames) (hRl : 39 * d ≤ R.locals) (hm : jd_mok j (n - 1)) (hlk : jd_lkS own idx j) (hr : jd_r j = none) (hnm : (jd_y j).name = "<init>") (hst : Cond.instanceMethod (jd_y j) ∈ jd_tb) (hd : decode cc pc = .ok (.invokespecial idx, 3)) (k : o_calli call j n (jd_mc.getD j 0) (jd_ms.getD j 0) (jd_X p l e R s m args below meth c D cy B0 de nL Z (pc + 3)) ls st h cb sb) : jd_X p l e R s m args below meth c D cy B0 de nL Z pc ls st h cb sb := by
  unfold o_calli at k
  split at k
  next b as rest hp =>
    obtain ⟨⟨hc1, hs1, h4⟩, k⟩ := k
    obtain ⟨d', rfl, hMt⟩ := hC j _ h _ k
    obtain ⟨m1, m2, m3, m4, m5, m6, m7⟩ := hm
    obtain ⟨lst, e1, e2, e3⟩ := jd_pop_spec _ _ _ _ _ hp
    rw [List.append_nil] at e1
    have e4 : lst = as.reverse ++ [.ref b] := by
      have := congrArg List.reverse e1
      simpa using this.symm
    subst e4
    intro L H locs cells slots h0 hL hP hO hS hc hs2
    have hcat := jd_cat rest h4
    have hM := hMt ⟨m5, m1⟩
    have hR : (jd_rm d' (jd_mc.getD j 0) (jd_ms.getD j 0)).frames + 1 ≤ R.frames ∧ 8 + (jd_mL.getD j 0 + 11) + (jd_rm d' (jd_mc.getD j 0) (jd_ms.getD j 0)).locals ≤ R.locals := ⟨hRf, by show 8 + (jd_mL.getD j 0 + 11) + 39 * d' ≤ R.locals; omega⟩
    have hgo : ∀ (r : Option Value) (h' : jd_H) (H1 : Heap) (locs1 : List Loc), jd_X p l e R s m args below meth c D cy B0 de nL Z (pc + 3) ls (r.toList ++ rest) h' (cb - jd_mc.getD j 0) (sb - jd_ms.getD j 0) → jd_Rp D cy B0 h' H1 → jd_Ou B0 de s h' → va_S (fun q => B0 ≤ q) s.heap H1 locs1 → W p l e R s m args below meth c H1 locs1 (cells + jd_mc.getD j 0) (slots + jd_ms.getD j 0) Z (F0 m (pc + 3) L (r.toList ++ rest)) := fun r h' H1 locs1 hq hP1 hO1 hS1 => hq L H1 locs1 _ _ h0 hL hP1 hO1 hS1 (by omega) (by omega)
    have hlen : as.length = n - 1 := by simp at e3; omega
    have hstk : st = as.reverse ++ .ref b :: rest := by simp [e2]
    rcases hlk with hlk | ⟨host, hlk⟩
    · exact jd_run hO (va_runI (As := as) (b := b) (rest := rest) ⟨hx, hb, hml, hown, hts⟩ hM ⟨callB_of (n - 1) hts (jd_goodIn m5) (by rw [← hr]; rfl) rfl rfl (hts _ m6) (hts _ hlk) ⟨m2, m3, m4⟩ hR, hnm, hts _ hst⟩ (jd_pre hV hP hO hS) rfl hlen hL.1 hstk (lv_room hcat) hd ⟨by omega, by omega⟩) hS hgo
    · exact jd_run hO (va_runIN (As := as) (b := b) (rest := rest) ⟨hx, hb, hml, hown, hts⟩ hM ⟨va_cnB (n - 1) hts (jd_goodIn m5) (by rw [← hr]; rfl) rfl rfl (hV.2.2.2.2.2.2.2.2.1 _ hlk) (hts _ m6) ⟨m2, m3, m4⟩ hR, hnm, hts _ hst⟩ (jd_pre hV hP hO hS) rfl hlen hL.1 hstk (lv_room hcat) hd ⟨by omega, by omega⟩) hS hgo
  next => exact k.elim
theorem jd_recvk {H : Heap} (hK : va_K D vwCl (jd_tys cy) s) (hP : jd_Rp D cy B0 h H) {b kd : Nat} (h1 : 1 ≤ kd) (h9 : kd ≤ 9) (hk : zK h b = kd) : ∃ cell : Cell, H[b]? = some cell ∧ cell.vm.isStatics = false ∧ s.vm.findClass (jd_cl kd).1 = some cell.cls := by
  obtain ⟨Lv, hin, hP1, hD1, h16⟩ := hP
  obtain ⟨j, hj⟩ := va_pl_get (X := []) (f := jd_cell cy h) (hin b (by omega) (by omega))
  rw [jd_cell_o hk h9] at hj
  exact va_recv hK hP1 (jd_cl_at h1 h9) hj
theorem sd_callv {d : Nat} {call : jd_M} (hC : jd_CallOk l D cy B0 de mi d call) (hx : p.tables.exec = Jvm.exec) (hb : c.code = cc) (hml : c.maxLocals = nL) (hown : s.vm.findClass own = some m.cls) (hts : ∀ w ∈ jd_tb, w.before args s = true) (hV : jd_V D cy B0 de mi s) {j idx n kd : Nat} (hRf : d ≤ R.frames) (hRl : 39 * d ≤ R.locals) (hm : jd_mok j (n - 1)) (h1 : 1 ≤ kd) (h9 : kd ≤ 9) (hlk : Cond.methodLink own idx (jd_y j) ∈ jd_tb) (hst : Cond.instanceMethod (jd_y j) ∈ jd_tb) (hse : Cond.selects (jd_cl kd).1 (jd_y j) (jd_y j) ∈ jd_tb) (hd : decode cc pc = .ok (.invokevirtual idx, 3)) (k : o_callv call j kd n (jd_mc.getD j 0) (jd_ms.getD j 0) (jd_X p l e R s m args below meth c D cy B0 de nL Z (pc + 3)) ls st h cb sb) : jd_X p l e R s m args below meth c D cy B0 de nL Z pc ls st h cb sb := by
  unfold o_callv at k
  split at k
  next b as rest hp =>
    obtain ⟨⟨hkd, hc1, hs1, h4⟩, k⟩ := k
    obtain ⟨d', rfl, hMt⟩ := hC j _ h _ k
    obtain ⟨m1, m2, m3, m4, m5, m6, m7⟩ := hm
    obtain ⟨lst, e1, e2, e3⟩ := jd_pop_spec _ _ _ _ _ hp
    rw [List.append_nil] at e1
    have e4 : lst = as.reverse ++ [.ref b] := by
      have := congrArg List.reverse e1
      simpa using this.symm
    subst e4
    intro L H locs cells slots h0 hL hP hO hS hc hs2
    have hcat := jd_cat rest h4
    have hM := hMt ⟨m5, m1⟩
    have hR : (jd_rm d' (jd_mc.getD j 0) (jd_ms.getD j 0)).frames + 1 ≤ R.frames ∧ 8 + (jd_mL.getD j 0 + 11) + (jd_rm d' (jd_mc.getD j 0) (jd_ms.getD j 0)).locals ≤ R.locals := ⟨hRf, by show 8 + (jd_mL.getD j 0 + 11) + 39 * d' ≤ R.locals; omega⟩
    have hgo : ∀ (r : Option Value) (h' : jd_H) (H1 : Heap) (locs1 : List Loc), jd_X p l e R s m args below meth c D cy B0 de nL Z (pc + 3) ls (r.toList ++ rest) h' (cb - jd_mc.getD j 0) (sb - jd_ms.getD j 0) → jd_Rp D cy B0 h' H1 → jd_Ou B0 de s h' → va_S (fun q => B0 ≤ q) s.heap H1 locs1 → W p l e R s m args below meth c H1 locs1 (cells + jd_mc.getD j 0) (slots + jd_ms.getD j 0) Z (F0 m (pc + 3) L (r.toList ++ rest)) := fun r h' H1 locs1 hq hP1 hO1 hS1 => hq L H1 locs1 _ _ h0 hL hP1 hO1 hS1 (by omega) (by omega)
    have hlen : as.length = n - 1 := by simp at e3; omega
    have hstk : st = as.reverse ++ .ref b :: rest := by simp [e2]
    exact jd_run hO (va_runV (As := as) (b := b) (rest := rest) ⟨hx, hb, hml, hown, hts⟩ hM ⟨callB_of (n - 1) hts (jd_goodIn m5) rfl rfl rfl (hts _ m6) (hts _ hlk) ⟨m2, m3, m4⟩ hR, hts _ hst, hts _ hse⟩ ⟨jd_blind, jd_recvk hV.1 hP h1 h9 hkd, (jd_pre hV hP hO hS).2⟩ rfl hlen hL.1 hstk (lv_room hcat) hd ⟨by omega, by omega⟩) hS hgo
  next => exact k.elim
end JX
