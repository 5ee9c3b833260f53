section JX
variable {p : Program} {l : Launch} {e : Env} {R : Room} {s : State} {m : MethodId} {args : Array Value} {below : List Frame} {meth : Method} {c : Code} {D : va_G} {cy : Nat → ClassId} {B0 de nL : Nat} {Z : State → Prop}
variable {cc : ByteArray} {pc : Nat} {ls : jd_F} {st : List Value} {h : jd_H} {cb sb : Nat} {own : String} {mi : Nat} {Q : jd_Q}
/-- a call through List -/
theorem sd_callf {d : Nat} {call : jd_M} (hC : jd_CallOk l D cy B0 de mi d call) (hx : p.tables.exec = Jvm.exec) (hb : c.code = cc) (hml : c.maxLocals = nL) (hown : s.vm.findClass own = some m.cls) (hts : ∀ w ∈ jd_tb, w.before args s = true) (hV : jd_V D cy B0 de mi s) {j idx cnt n kd : Nat} {x : MethodName} (hRf : d ≤ R.frames) (hRl : 39 * d ≤ R.locals) (hm : jd_mok j (n - 1)) (hkd1 : kd = 1) (hf : (x, jd_y j) ∈ jd_face) (hxd : x.cls ≠ "java/lang/invoke/MethodHandle" ∧ x.cls ≠ "java/lang/invoke/VarHandle" ∧ (parseMethodDescriptor x.desc).map (fun d => d.parameters.length) = some (n - 1)) (hlk : Cond.methodLink own idx x ∈ jd_tb) (hst : Cond.instanceMethod (jd_y j) ∈ jd_tb) (hse : Cond.selects "java/util/ArrayList" x (jd_y j) ∈ jd_tb) (hd : decode cc pc = .ok (.invokeinterface idx cnt, 5)) (k : o_callv call j kd n (jd_mc.getD j 0) (jd_ms.getD j 0) (jd_X p l e R s m args below meth c D cy B0 de nL Z (pc + 5)) ls st h cb sb) : jd_X p l e R s m args below meth c D cy B0 de nL Z pc ls st h cb sb := by
  subst hkd1
  unfold o_callv at k
  split at k
  next b as rest hp =>
    obtain ⟨⟨hkd, hc1, hs1, h4⟩, k⟩ := k
    obtain ⟨d', rfl, hMt⟩ := hC j _ h _ k
    obtain ⟨m1, m2, m3, m4, m5, m6, m7⟩ := hm
    obtain ⟨lst, e1, e2, e3⟩ := jd_pop_spec _ _ _ _ _ hp
    rw [List.append_nil] at e1
    have e4 : lst = as.reverse ++ [.ref b] := by
      have := congrArg List.reverse e1
      simpa using this.symm
    subst e4
    intro L H locs cells slots h0 hL hP hO hS hc hs2
    have hcat := jd_cat rest h4
    have hM := hMt ⟨m5, m1⟩
    have hR : (jd_rm d' (jd_mc.getD j 0) (jd_ms.getD j 0)).frames + 1 ≤ R.frames ∧ 8 + (jd_mL.getD j 0 + 11) + (jd_rm d' (jd_mc.getD j 0) (jd_ms.getD j 0)).locals ≤ R.locals := ⟨hRf, by show 8 + (jd_mL.getD j 0 + 11) + 39 * d' ≤ R.locals; omega⟩
    have hgo : ∀ (r : Option Value) (h' : jd_H) (H1 : Heap) (locs1 : List Loc), jd_X p l e R s m args below meth c D cy B0 de nL Z (pc + 5) ls (r.toList ++ rest) h' (cb - jd_mc.getD j 0) (sb - jd_ms.getD j 0) → jd_Rp D cy B0 h' H1 → jd_Ou B0 de s h' → va_S (fun q => B0 ≤ q) s.heap H1 locs1 → W p l e R s m args below meth c H1 locs1 (cells + jd_mc.getD j 0) (slots + jd_ms.getD j 0) Z (F0 m (pc + 5) L (r.toList ++ rest)) := fun r h' H1 locs1 hq hP1 hO1 hS1 => hq L H1 locs1 _ _ h0 hL hP1 hO1 hS1 (by omega) (by omega)
    have hlen : as.length = n - 1 := by simp at e3; omega
    have hstk : st = as.reverse ++ .ref b :: rest := by simp [e2]
    have hG : GoodIn jd_tb (va_wsF own idx "java/util/ArrayList" x (jd_y j) (jd_ws j)) := fun w hw => by
      unfold va_wsF at hw
      rcases List.mem_append.mp hw with hw | hw
      · have : w ∈ jd_tb := by
          simp only [List.mem_cons, List.not_mem_nil, or_false] at hw
          rcases hw with rfl | rfl | rfl | rfl
          · exact hlk
          · exact hse
          · exact hst
          · exact m6
        exact ⟨this, jd_good w this⟩
      · exact jd_goodIn m5 w hw
    have hat : ClassAt s "java/util/ArrayList" (D.1 0) := (hV.1.1 0 _ rfl).2
    exact jd_run5 hO (va_runF (As := as) (b := b) (rest := rest) (C := "java/util/ArrayList") hat ⟨hx, hb, hml, hown, hts⟩ hM (va_cwF (n - 1) hts hG rfl rfl rfl (hV.2.2.2.2.2.2.2.2.2 _ hf) hxd hR) ⟨jd_blind, jd_recvk hV.1 hP (by decide) (by decide) hkd, (jd_pre hV hP hO hS).2⟩ rfl hlen hL.1 hstk (lv_room hcat) hd ⟨by omega, by omega⟩) hS hgo
  next => exact k.elim
theorem jd_rows {q : Nat} {L' : List Nat} {f g : Nat → va_E} {e0 : va_E} (h1 : g q = e0) (h2 : ∀ a ∈ L', g a = f a) : [(q, e0)] ++ va_pl L' f = va_pl (q :: L') g := by
  unfold va_pl
  rw [List.map_cons, h1]
  exact congrArg (fun z => (q, e0) :: z) (List.map_congr_left (fun a ha => by rw [h2 a ha]))
/-- new int[n][m] -/
theorem sd_mna (hx : p.tables.exec = Jvm.exec) (hb : c.code = cc) (hown : s.vm.findClass own = some m.cls) (hts : ∀ w ∈ jd_tb, w.before args s = true) (hV : jd_V D cy B0 de mi s) (ht : Cond.arrayClass .int ∈ jd_tb) {idx : Nat} (hlk : Cond.classLink own idx "[[I" ∈ jd_tb) (hd : decode cc pc = .ok (.multianewarray idx 2, 4)) (k : o_mna (jd_X p l e R s m args below meth c D cy B0 de nL Z (pc + 4)) ls st h cb sb) : jd_X p l e R s m args below meth c D cy B0 de nL Z pc ls st h cb sb := by
  unfold o_mna at k
  split at k
  next mm n st =>
    obtain ⟨⟨hn, hm, hc1, hs1, h6, h7⟩, k⟩ := k
    intro L H locs cells slots h0 hL hP hO hS hc hs2
    obtain ⟨Lv, hin, hP1, hD1, h16⟩ := hP
    have e1 : ("[" ++ (FieldType.array .int).toString) = "[[I" := by decide +kernel
    have e2 : (FieldType.array .int).toString = "[" ++ FieldType.int.toString := by decide +kernel
    refine va_mna (X := []) (L := Lv) (f := jd_cell cy h) (ty := .int) (cy := cy 0) (z := (mm.toNatClampNeg, .inl (fun _ => 0))) hx hb hown (by rw [e1]; exact hts _ hlk) hV.2.2.2.2.2.2.1 (hts _ ht) (by rw [e2]; exact (hV.1.2 0 _ rfl).2) hV.1 hP1 hD1 hS (fun q hq => Nat.le_trans hO.2.1 hq) hn hm rfl rfl (by omega) (by show mm.toNatClampNeg * 4 ≤ _; omega) (by omega) rfl rfl (by omega) (by omega) (fun c0 => arrV_new c0 _ _) hd (fun q r cA H1 hinj hnl hK2 hP2 hD2 hS2 => ?_)
    have hcA : cA = cy 4 := Option.some.inj ((hK2.2 5 (cA, .array .int) rfl).2.symm.trans (hV.1.2 4 _ rfl).2)
    subst hcA
    rw [List.nil_append] at hP2 hD2
    -- the outer array lies apart from all others
    have hqA : B0 ≤ q := hD2.2 0 _ rfl
    have hq0 : ∀ a ∈ Lv ++ (List.range n.toNatClampNeg).map r, a ≠ q := fun a ha e0 => by
      obtain ⟨i, hi⟩ := va_pl_get (X := [(q, .inl (cy 4, n.toNatClampNeg, .inr (.inr (.inr (.inr (fun i => if i < n.toNatClampNeg then some (r i) else none))))))]) (f := vr_up (jd_cell cy h) ((List.range n.toNatClampNeg).map r) (.inl (cy 0, mm.toNatClampNeg, .inl (fun _ => 0)))) ha
      have h3 := hD2.1 0 i _ _ rfl hi e0.symm
      subst h3
      have hz : (q, (Sum.inl (cy 4, n.toNatClampNeg, .inr (.inr (.inr (.inr (fun i => if i < n.toNatClampNeg then some (r i) else none))))) : va_E)) = (a, vr_up (jd_cell cy h) ((List.range n.toNatClampNeg).map r) (.inl (cy 0, mm.toNatClampNeg, .inl (fun _ => 0))) a) := Option.some.inj hi
      have hz2 := congrArg Prod.snd hz
      have hP3 := hP2
      rw [show Lv ++ (List.range n.toNatClampNeg).map r = Lv ++ (List.range n.toNatClampNeg).map r from rfl] at hP3
      have hlen : ([(q, (Sum.inl (cy 4, n.toNatClampNeg, .inr (.inr (.inr (.inr (fun i => if i < n.toNatClampNeg then some (r i) else none))))) : va_E))] ++ va_pl (Lv ++ (List.range n.toNatClampNeg).map r) (vr_up (jd_cell cy h) ((List.range n.toNatClampNeg).map r) (.inl (cy 0, mm.toNatClampNeg, .inl (fun _ => 0)))) : va_W).length = 1 + (Lv ++ (List.range n.toNatClampNeg).map r).length := by simp [va_pl]; omega
      obtain ⟨i2, hi2⟩ := List.getElem?_of_mem ha
      have h4 : ([(q, (Sum.inl (cy 4, n.toNatClampNeg, .inr (.inr (.inr (.inr (fun i => if i < n.toNatClampNeg then some (r i) else none))))) : va_E))] ++ va_pl (Lv ++ (List.range n.toNatClampNeg).map r) (vr_up (jd_cell cy h) ((List.range n.toNatClampNeg).map r) (.inl (cy 0, mm.toNatClampNeg, .inl (fun _ => 0)))) : va_W)[i2 + 1]? = some (a, vr_up (jd_cell cy h) ((List.range n.toNatClampNeg).map r) (.inl (cy 0, mm.toNatClampNeg, .inl (fun _ => 0))) a) := by
        show (va_pl (Lv ++ (List.range n.toNatClampNeg).map r) _)[i2]? = _
        unfold va_pl
        rw [List.getElem?_map, hi2]
        rfl
      have h5 := hD2.1 0 (i2 + 1) _ _ rfl h4 e0.symm
      omega
    have hrA : ∀ i, i < n.toNatClampNeg → r i ∉ Lv ∧ B0 ≤ r i := fun i hi => by
      refine ⟨hnl i hi, ?_⟩
      have hmem : r i ∈ Lv ++ (List.range n.toNatClampNeg).map r := List.mem_append_right _ (List.mem_map.mpr ⟨i, List.mem_range.mpr hi, rfl⟩)
      obtain ⟨i3, hi3⟩ := va_pl_get (X := [(q, .inl (cy 4, n.toNatClampNeg, .inr (.inr (.inr (.inr (fun i => if i < n.toNatClampNeg then some (r i) else none))))))]) (f := vr_up (jd_cell cy h) ((List.range n.toNatClampNeg).map r) (.inl (cy 0, mm.toNatClampNeg, .inl (fun _ => 0)))) hmem
      exact hD2.2 i3 _ hi3
    have hqL : q ∉ Lv := fun hq => hq0 q (List.mem_append_left _ hq) rfl
    have hz := jd_unknown hin h16 hO hqL hqA
    have hzr : ∀ i, i < n.toNatClampNeg → zK h (r i) = 0 ∧ r i ≠ q := fun i hi => ⟨jd_unknown hin h16 hO (hrA i hi).1 (hrA i hi).2, hq0 _ (List.mem_append_right _ (List.mem_map.mpr ⟨i, List.mem_range.mpr hi, rfl⟩))⟩
    generalize hrows : (List.range n.toNatClampNeg).map r = rows at hP2 hD2 hq0
    have hrow : ∀ a, a ∈ rows → ∃ i, i < n.toNatClampNeg ∧ a = r i := fun a ha => by
      rw [← hrows] at ha
      obtain ⟨i, hi, rfl⟩ := List.mem_map.mp ha
      exact ⟨i, List.mem_range.mp hi, rfl⟩
    have eKq : zK (wM h q r n.toNatClampNeg mm.toNatClampNeg) q = 14 := by simp [wM, zK]
    have eKr : ∀ a, a ∈ rows → zK (wM h q r n.toNatClampNeg mm.toNatClampNeg) a = 10 := fun a ha => by
      have : a ≠ q := hq0 a (List.mem_append_right _ ha)
      show (if a = q then 14 else if a ∈ (List.range n.toNatClampNeg).map r then 10 else zK h a) = 10
      rw [if_neg this, hrows, if_pos ha]
    have eKo : ∀ a, a ≠ q → a ∉ rows → zK (wM h q r n.toNatClampNeg mm.toNatClampNeg) a = zK h a := fun a h1 h2 => by
      show (if a = q then 14 else if a ∈ (List.range n.toNatClampNeg).map r then 10 else zK h a) = _
      rw [if_neg h1, hrows, if_neg h2]
    have eLr : ∀ a, a ∈ rows → zL (wM h q r n.toNatClampNeg mm.toNatClampNeg) a = mm.toNatClampNeg := fun a ha => by
      have : a ≠ q := hq0 a (List.mem_append_right _ ha)
      show (if a = q then n.toNatClampNeg else if a ∈ (List.range n.toNatClampNeg).map r then mm.toNatClampNeg else zL h a) = _
      rw [if_neg this, hrows, if_pos ha]
    have eLo : ∀ a, a ≠ q → a ∉ rows → zL (wM h q r n.toNatClampNeg mm.toNatClampNeg) a = zL h a := fun a h1 h2 => by
      show (if a = q then n.toNatClampNeg else if a ∈ (List.range n.toNatClampNeg).map r then mm.toNatClampNeg else zL h a) = _
      rw [if_neg h1, hrows, if_neg h2]
    have eAr : ∀ a, a ∈ rows → zA (wM h q r n.toNatClampNeg mm.toNatClampNeg) a = fun _ => 0 := fun a ha => by
      funext j
      show (if a ∈ (List.range n.toNatClampNeg).map r then 0 else zA h a j) = _
      rw [hrows, if_pos ha]
    have eAo : ∀ a, a ∉ rows → zA (wM h q r n.toNatClampNeg mm.toNatClampNeg) a = zA h a := fun a h2 => by
      funext j
      show (if a ∈ (List.range n.toNatClampNeg).map r then 0 else zA h a j) = _
      rw [hrows, if_neg h2]
    have eOo : ∀ a, a ≠ q → zO (wM h q r n.toNatClampNeg mm.toNatClampNeg) a = zO h a := fun a h1 => jd_ur_ne h1
    have eOq : zO (wM h q r n.toNatClampNeg mm.toNatClampNeg) q = fun i => if i < n.toNatClampNeg then some (r i) else none := jd_ur_self
    have eLq : zL (wM h q r n.toNatClampNeg mm.toNatClampNeg) q = n.toNatClampNeg := by simp [wM, zL]
    have hlow : ∀ a, a < B0 → a ≠ q ∧ a ∉ rows := fun a ha => ⟨by omega, fun hr => by
      obtain ⟨i, hi, rfl⟩ := hrow a hr
      have := (hrA i hi).2
      omega⟩
    have ep : [(q, (Sum.inl (cy 4, n.toNatClampNeg, .inr (.inr (.inr (.inr (fun i => if i < n.toNatClampNeg then some (r i) else none))))) : va_E))] ++ va_pl (Lv ++ rows) (vr_up (jd_cell cy h) rows (.inl (cy 0, mm.toNatClampNeg, .inl (fun _ => 0)))) = va_pl (q :: (Lv ++ rows)) (jd_cell cy (wM h q r n.toNatClampNeg mm.toNatClampNeg)) := by
      refine jd_rows ?_ (fun a ha => ?_)
      · rw [jd_cell_g eKq, eLq, eOq]
      · by_cases har : a ∈ rows
        · rw [jd_cell_i (eKr a har), eLr a har, eAr a har, vr_up_in har]
        · have haq := hq0 a ha
          rw [vr_up_ne har]
          exact (jd_cell_ne (eKo a haq har) (eLo a haq har) (eAo a har) rfl (eOo a haq) (fun _ => rfl) (fun _ => rfl)).symm
    rw [ep] at hP2 hD2
    refine k q r hz hzr hinj L H1 locs _ _ h0 hL ⟨q :: (Lv ++ rows), fun a q1 q2 => ?_, hP2, hD2, fun a => ?_⟩ ⟨hO.1, hO.2.1, hO.2.2.1, fun a => ?_, ?_, fun a ha => ?_⟩ hS2 (by omega) (by omega)
    · by_cases haq : a = q
      · subst haq; simp
      · by_cases har : a ∈ rows
        · simp [har]
        · rw [eKo a haq har] at q1 q2
          exact List.mem_cons_of_mem _ (List.mem_append_left _ (hin a q1 q2))
    · by_cases haq : a = q
      · subst haq; rw [eKq]; decide
      · by_cases har : a ∈ rows
        · rw [eKr a har]; decide
        · rw [eKo a haq har]; exact h16 a
    · by_cases haq : a = q
      · subst haq
        rw [eKq]
        have := hO.1
        constructor
        · intro w; omega
        · intro w; omega
      · by_cases har : a ∈ rows
        · rw [eKr a har]
          obtain ⟨i, hi, rfl⟩ := hrow a har
          have := (hrA i hi).2
          have := hO.1
          constructor
          · intro w; omega
          · intro w; omega
        · rw [eKo a haq har]; exact hO.2.2.2.1 a
    · rw [eLo de (hlow de hO.1).1 (hlow de hO.1).2]; exact hO.2.2.2.2.1
    · have haq : a ≠ q := fun w => by subst w; rw [eKq] at ha; omega
      have har : a ∉ rows := fun w => by rw [eKr a w] at ha; omega
      rw [eKo a haq har] at ha
      rw [eLo a haq har, eAo a har]
      exact hO.2.2.2.2.2 a ha
  next => exact k.elim
end JX
