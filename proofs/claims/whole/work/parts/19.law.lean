def lw_P (b : Addr) (xs : List Int32) (args : Array Value) (s : State) : Prop := args = #[.ref b] ∧ s.IntsAt b xs ∧ xs.length ≤ 4096 ∧ (Jvm.Cond.and given_1 narrow_1).before args s = true
def lw_Q (_ : Array Value) (s : State) (o : Outcome) (t : State) : Prop := o = .returned (some (.int 1)) ∧ Framed s o t [] 600000 7302250
def lw_Z (below : List Frame) (a : Array Value) (s : State) : State → Prop := fun t => ∃ o, t.status = .running ∧ Ended t below o ∧ lw_Q a s o t
/-- the law's own end, with 1 on the stack, nothing written that was there before, its room as the claim has it -/
theorem lw_ret {p : Program} {l : Launch} {e : Env} {s : State} {m : MethodId} {below : List Frame} {meth : Method} {c : Code} {b : Nat} (hx : p.tables.exec = Jvm.exec) (hb : c.code = code) (hr : meth.sig.returnType = ret) (hlocks : meth.locks = false) {pc : Nat} {H : Heap} {ls : Array Slot} (hdg : decode code pc = .ok (.ireturn, 1)) : W p l e room_1 s m #[Value.ref b] below meth c H [] 600000 7302250 (lw_Z below #[Value.ref b] s) (F0 m pc ls [.int 1]) := by
  intro T hT X
  obtain ⟨fs, hret, hrun, hended, hW, hframe⟩ := X.leave (v := some (.int 1)) (hlocks := hlocks) (fun h => by rw [hr] at h; cases h)
  have hmeth' : T.vm.method? m = some meth := X.method'
  refine ⟨T.setFrames fs, ?_, .returned (some (.int 1)), hrun, hended, rfl, ⟨_, rfl⟩, hW, hframe⟩
  jvm_step X.here [X.here.top, hx, hb, hdg, hmeth', hr, ret, narrow_b1]
  (try refine ⟨rfl, ?_⟩); (try refine ⟨rfl, ?_⟩)
  first | (intro acts; rw [hret _ acts rfl rfl rfl]) | rw [hret _ _ rfl rfl rfl]
  exact Steps.refl _
/-- what holds at the law's entry: the machine, the code, the tables' words (any of lw_tbl by 'hts w (by decide +kernel)'), the script of L ints xs at the cell b, what the Statement gives of the start (any of its parts by flat_of_before) -/
def lw_At (p : Program) (s : State) (m : MethodId) (meth : Method) (c : Code) (b L : Nat) (xs : Nat → Int32) : Prop :=
  p.tables.exec = Jvm.exec ∧ c.code = code ∧ meth.sig.returnType = ret ∧ c.maxLocals = 4 ∧ s.vm.findClass R_law = some m.cls ∧ (∀ w ∈ lw_tbl, w.before #[Value.ref b] s = true) ∧ va_X b L xs s s.heap ∧ b < s.heap.size ∧ meth.locks = false ∧ (Jvm.Cond.and given_1 narrow_1).before #[Value.ref b] s = true

/-! the law is method 140: from its weakest condition to the claim's walk -/
def jd_np : Instr → Bool
  | .putfield _ => false
  | .dstore _ => false
  | .fstore _ => false
  | _ => true
theorem jd_ok_nm {own nm nm' : String} {cc : ByteArray} {ret : Option FieldType} {pc nx : Nat} : ∀ (i : Instr), jd_np i = true → jd_ok own nm cc ret pc i nx → jd_ok own nm' cc ret pc i nx := by
  intro i hi h
  cases i
  case putfield => cases hi
  case dstore => cases hi
  case fstore => cases hi
  case invokedynamic n =>
    match n, h with
    | 0, h => exact h
    | 1, h => exact h
    | 2, h => exact h
    | 3, h => exact h
    | 4, h => exact h
    | 5, h => exact h
    | 6, h => exact h
    | n + 7, h => trivial
  all_goals exact h
theorem jd_np_law : ∀ q ∈ cd_140, jd_np q.2.1 = true := by decide +kernel
/-- the heap as the law finds it: the script, and ArrayList's empty array -/
def jd_h0 (b de L : Nat) (xs : Nat → Int32) : jd_H := (fun a => if a = b then 16 else if a = de then 15 else 0, fun _ _ => 0, fun _ _ => none, fun a => if a = b then L else 0, fun a j => if a = b then xs j else 0, fun _ _ => 0, fun _ _ => none)
def jd_Law : Prop := ∀ (mi b de L : Nat) (xs : Nat → Int32), b ≠ de → L ≤ 4096 → jd_WM mi 14 140 [.ref b] (jd_h0 b de L xs) (fun r _ => r = some (.int 1))
theorem jd_arr {args : Array Value} {s : State} {t : FieldType} (h : (Cond.arrayClass t).before args s = true) (ho : ∀ C, t ≠ .object C) : ∃ c : ClassId, ArrOfT s c t ∧ va_RA s c t := by
  obtain ⟨c, k, comp, h1, h2, h3⟩ := Cond.arrayClass_spec h
  refine ⟨c, fun N z => ⟨(fun q hq => by cases hq), k, h2, comp, h3⟩, ?_⟩
  cases t <;> first | exact h1 | exact absurd rfl (ho _)
theorem jd_nest_ok : ∀ q ∈ jd_nest, Cond.methodLinkNest q.1 q.2.1 q.2.2.1 q.2.2.2 ∈ lw_tbl := by decide +kernel
theorem jd_face_ok : ∀ q ∈ jd_face, Cond.declares q.1 ∈ lw_tbl ∧ Cond.interfaceMethod q.1.cls q.1.cls q.1.name q.1.desc ∈ lw_tbl ∧ Cond.publicMethod q.2 ∈ lw_tbl ∧ Cond.unhidden "java/util/ArrayList" q.1.name q.1.desc ∈ lw_tbl ∧ Cond.castable "java/util/ArrayList" q.1.cls ∈ lw_tbl := by decide +kernel
theorem jd_cast_ok : ∀ k, 1 ≤ k → k ≤ 9 → Cond.castable (jd_cl k).1 "java/lang/Object" ∈ lw_tbl := by
  intro k h1 h9
  have h : k = 1 ∨ k = 2 ∨ k = 3 ∨ k = 4 ∨ k = 5 ∨ k = 6 ∨ k = 7 ∨ k = 8 ∨ k = 9 := by omega
  rcases h with rfl | rfl | rfl | rfl | rfl | rfl | rfl | rfl | rfl <;> decide +kernel
theorem jd_inst_ok : ∀ k, 1 ≤ k → k ≤ 9 → Cond.instantiable (jd_cl k).1 (jd_cl k).2.2 ∈ lw_tbl := by
  intro k h1 h9
  have h : k = 1 ∨ k = 2 ∨ k = 3 ∨ k = 4 ∨ k = 5 ∨ k = 6 ∨ k = 7 ∨ k = 8 ∨ k = 9 := by omega
  rcases h with rfl | rfl | rfl | rfl | rfl | rfl | rfl | rfl | rfl <;> decide +kernel
theorem jd_len0 {args : Array Value} {s : State} {t : Term} {a : Nat} {cell : Cell} (h : (Term.length t).eval args s none [] s = some (.int 0)) (ht : t.eval args s none [] s = some (.ref a)) (ha : s.arrayAt? a = some cell) : cell.slots.size = 0 := by
  have h1 := h
  simp only [Term.eval, ht, ha, Option.bind_eq_bind, Option.bind_some] at h1
  by_cases hlt : cell.slots.size < 2147483648
  · rw [if_pos hlt] at h1
    have h2 : cell.slots.size.toInt32 = 0 := by
      have h3 := Option.some.inj h1
      injection h3
    have h3 : (nI cell.slots.size) = nI 0 := h2
    exact (nI_eq (by omega) (by omega)).mp h3
  · rw [if_neg hlt] at h1
    cases h1
set_option maxHeartbeats 1000000 in
/-- YOUR PART: from the entry, for every script of at most 4096 ints, the law comes to its end with true -/
theorem jd_start (hLaw : jd_Law) {p : Program} {e : Env} {s : State} {m : MethodId} {below : List Frame} {meth : Method} {c : Code} (l : Launch) {b L : Nat} {xs : Nat → Int32} (hL : L ≤ 4096) (C0 : lw_At p s m meth c b L xs) : W p l e room_1 s m #[Value.ref b] below meth c s.heap [] 0 0 (lw_Z below #[Value.ref b] s) (entryFrame m ([Value.ref b] : List Value).toArray 4) := by
  obtain ⟨hx, hb, hr, hml, hown, hts0, hX, hbl, hlocks, hgv⟩ := id C0
  have hts : ∀ w ∈ jd_tb, w.before #[Value.ref b] s = true := fun w hw => hts0 w (List.mem_filter.mp hw).1
  have hs := flat_of_before _ hgv
  -- the classes
  have hkn : ∀ k, ∃ (cC : ClassId) (iS : Nat → Nat), 1 ≤ k → k ≤ 9 → u_Kn s (jd_cl k).1 (jd_cl k).2.1 (jd_cl k).2.2 cC iS := by
    intro k
    by_cases h1 : 1 ≤ k ∧ k ≤ 9
    · obtain ⟨cC, iS, h⟩ := u_known hts (jd_cls h1.1 h1.2).1 (hts0 _ (jd_inst_ok k h1.1 h1.2))
      exact ⟨cC, iS, fun _ _ => h⟩
    · exact ⟨0, fun _ => 0, fun a b => absurd ⟨a, b⟩ h1⟩
  obtain ⟨dC, hkn⟩ := Classical.axiomOfChoice hkn
  obtain ⟨dI, hkn⟩ := Classical.axiomOfChoice hkn
  obtain ⟨cI, i1, i2⟩ := jd_arr (hts _ jd_base_ok.1) (fun C h => by cases h)
  obtain ⟨cJ, j1, j2⟩ := jd_arr (hts _ jd_base_ok.2.1) (fun C h => by cases h)
  obtain ⟨cZ, z1, z2⟩ := jd_arr (hts _ jd_base_ok.2.2.1) (fun C h => by cases h)
  have hAO : va_AO "java/lang/Object" s := va_AO.of (hts0 (Cond.arrayOver (.object "java/lang/Object")) (by decide +kernel))
  have hAOA : va_AOA .int s := hts0 (Cond.arrayOver (.array .int)) (by decide +kernel)
  obtain ⟨compO, cO, kO, o1, o2, o3, o4, o5⟩ := Cond.arrayOver_spec hAO
  obtain ⟨compG, cG, kG, g1, g2, g3, g4, g5⟩ := jd_AOA_spec hAOA
  have hGI : compG = cI := Option.some.inj (g1.symm.trans (by
    have e2 : (FieldType.array .int).toString = "[" ++ FieldType.int.toString := by decide +kernel
    rw [e2]; exact i2))
  obtain ⟨cy, hcy⟩ : ∃ cy : Nat → ClassId, cy = fun k => if k = 0 then cI else if k = 1 then cJ else if k = 2 then cZ else if k = 3 then cO else cG := ⟨_, rfl⟩
  have hK : va_K (fun k => dC (k + 1), fun k => dI (k + 1)) vwCl (jd_tys cy) s := by
    refine ⟨fun k q hq => ?_, fun k q hq => ?_⟩
    · have hk : k < 9 := (List.getElem?_eq_some_iff.mp hq).1
      have := jd_cl_at (k := k + 1) (by omega) (by omega)
      rw [Nat.add_sub_cancel] at this
      have e : q = jd_cl (k + 1) := Option.some.inj (hq.symm.trans this)
      subst e
      exact hkn (k + 1) (by omega) (by omega)
    · have hk : k < 5 := (List.getElem?_eq_some_iff.mp hq).1
      have hc : k = 0 ∨ k = 1 ∨ k = 2 ∨ k = 3 ∨ k = 4 := by omega
      rcases hc with rfl | rfl | rfl | rfl | rfl
      · have e : q = (cI, .int) := by rw [hcy] at hq; exact (Option.some.inj hq).symm
        subst e; exact ⟨i1, i2⟩
      · have e : q = (cJ, .long) := by rw [hcy] at hq; exact (Option.some.inj hq).symm
        subst e; exact ⟨j1, j2⟩
      · have e : q = (cZ, .boolean) := by rw [hcy] at hq; exact (Option.some.inj hq).symm
        subst e; exact ⟨z1, z2⟩
      · have e : q = (cO, .object "java/lang/Object") := by rw [hcy] at hq; exact (Option.some.inj hq).symm
        subst e; exact ⟨fun N z => ⟨(fun k h => by cases h), kO, o3, compO, o4⟩, kO, compO, o3, o4, o1, o5⟩
      · have e : q = (cG, .array .int) := by rw [hcy] at hq; exact (Option.some.inj hq).symm
        subst e; exact ⟨fun N z => ⟨(fun k h => by cases h), kG, g3, compG, g4⟩, g5⟩
  -- ArrayList's empty array, the class object
  have hlen0 : (Term.length (.static "java/util/ArrayList" "DEFAULTCAPACITY_EMPTY_ELEMENTDATA" "[Ljava/lang/Object;")).eval #[Value.ref b] s none [] s = some (.int 0) := va_eqt (hs _ (by decide +kernel))
  obtain ⟨de, cellE, hde, harrE, hvE⟩ := Term.length_spec hlen0
  obtain ⟨hcellE, hknE, -, -⟩ := State.arrayAt?_spec harrE
  have hofE : s.isArrayOf cellE (.object "java/lang/Object") := (Cond.arrayOf_spec (hs (Cond.arrayOf (.static "java/util/ArrayList" "DEFAULTCAPACITY_EMPTY_ELEMENTDATA" "[Ljava/lang/Object;") (.object "java/lang/Object")) (by decide +kernel)) hde hcellE).1
  have hszE : cellE.slots.size = 0 := jd_len0 hlen0 hde harrE
  have hdeB : de < s.heap.size := (Array.getElem?_eq_some_iff.mp hcellE).1
  obtain ⟨mi, hMi⟩ := va_Mi.of (hs (Cond.isRef (.mirror "[Ljava/lang/Object;")) (by decide +kernel))
  have hZ : va_Z "java/util/ArrayList" "DEFAULTCAPACITY_EMPTY_ELEMENTDATA" "[Ljava/lang/Object;" (.ref de) (fun q => s.heap.size ≤ q) s s.heap := va_Zref (hts0 (Cond.laysStatic "java/util/ArrayList" "DEFAULTCAPACITY_EMPTY_ELEMENTDATA" "[Ljava/lang/Object;") (by decide +kernel)) (hts0 (Cond.initialized "java/util/ArrayList") (by decide +kernel)) hde (fun a h => Nat.not_le.mpr h)
  have hbde : b ≠ de := fun e0 => by
    subst e0
    obtain ⟨scr, x1, x2, -⟩ := hX
    have e1 : scr = cellE := Option.some.inj (x1.symm.trans hcellE)
    subst e1
    obtain ⟨-, k1, y1, c1, y2⟩ := x2
    obtain ⟨-, k2, y3, c2, y4⟩ := hofE
    have e2 : k1 = k2 := Option.some.inj (y1.symm.trans y3)
    subst e2
    rw [y2] at y4
    cases y4
  have hV : jd_V (fun k => dC (k + 1), fun k => dI (k + 1)) cy s.heap.size de mi s := by
    refine ⟨hK, hZ, hMi, ⟨kG, compG, by rw [hcy]; exact g3, g4, by rw [hcy]; exact hGI⟩, fun k h1 h9 => va_Nw.of rfl (hts0 _ (jd_cast_ok k h1 h9)), hAO, hAOA, va_Dc.of (hts0 (Cond.declares ⟨"java/lang/Object", "getClass", "()Ljava/lang/Class;"⟩) (by decide +kernel)), fun q hq => va_Nw.of rfl (hts0 _ (jd_nest_ok q hq)), fun q hq => ?_⟩
    obtain ⟨f1, f2, f3, f4, f5⟩ := jd_face_ok q hq
    exact va_Fw.of (hts0 _ f1) (hts0 _ f2) (hts0 _ f3) (hts0 _ f4) (hts0 _ f5)
  have hOu : jd_Ou s.heap.size de s (jd_h0 b de L xs) := by
    refine ⟨hdeB, Nat.le_refl _, ⟨cellE, hcellE, hofE, hszE⟩, fun a => ?_, ?_, fun a ha => ?_⟩
    · show (if a = b then 16 else if a = de then 15 else 0) = 15 ↔ a = de
      by_cases h1 : a = b
      · subst h1; simp [hbde]
      · by_cases h2 : a = de
        · subst h2; simp [h1]
        · simp [h1, h2]
    · show (if de = b then L else 0) = 0
      rw [if_neg (fun q => hbde q.symm)]
    · have hab : a = b := by
        by_cases h1 : a = b
        · exact h1
        · have h2 : (if a = b then 16 else if a = de then 15 else 0) = 16 := ha
          rw [if_neg h1] at h2
          split at h2 <;> omega
      subst hab
      refine ⟨hbl, ?_⟩
      have e1 : zL (jd_h0 a de L xs) a = L := by simp [jd_h0, zL]
      have e2 : zA (jd_h0 a de L xs) a = xs := by funext j; simp [jd_h0, zA]
      rw [e1, e2]
      exact hX
  have hRp : jd_Rp (fun k => dC (k + 1), fun k => dI (k + 1)) cy s.heap.size (jd_h0 b de L xs) s.heap := by
    refine ⟨[], fun a h1 h2 => ?_, fun k q h => by simp [va_pl] at h, ⟨fun i j p q h => by simp [va_pl] at h, fun k q h => by simp [va_pl] at h⟩, fun a => ?_⟩
    · exfalso
      have h3 : zK (jd_h0 b de L xs) a = 16 ∨ zK (jd_h0 b de L xs) a = 15 ∨ zK (jd_h0 b de L xs) a = 0 := by
        show (if a = b then 16 else if a = de then 15 else 0) = 16 ∨ (if a = b then 16 else if a = de then 15 else 0) = 15 ∨ (if a = b then 16 else if a = de then 15 else 0) = 0
        split
        · exact Or.inl rfl
        · split
          · exact Or.inr (Or.inl rfl)
          · exact Or.inr (Or.inr rfl)
      omega
    · show (if a = b then 16 else if a = de then 15 else 0) ≤ 16
      split
      · omega
      · split <;> omega
  obtain ⟨-, hw⟩ := hLaw mi b de L xs hbde hL
  have hC : jd_CallOk l (fun k => dC (k + 1), fun k => dI (k + 1)) cy s.heap.size de mi 13 (jd_WM mi 13) := fun j as h Q q => ⟨12, rfl, fun hc => jd_sound jd_base_ok jd_ok_ins 12 j as h Q hc q⟩
  have key : jd_X p l e room_1 s m #[Value.ref b] below meth c (fun k => dC (k + 1), fun k => dI (k + 1)) cy s.heap.size de 4 (lw_Z below #[Value.ref b] s) 0 (jd_lo 4 [.ref b]) [] (jd_h0 b de L xs) 600000 7302250 := by
    refine hw _ (fun pc ls st h c' s' k => ?_)
    unfold jd_B at k
    cases hi : jd_ins 140 pc with
    | none => rw [hi] at k; exact k.elim
    | some q =>
      rw [hi] at k
      have hok : jd_ok "JettisonDeskLaw" meth.name code (some .boolean) pc q.1 q.2 := jd_ok_nm (nm := "law") q.1 (jd_np_law (pc, q.1, q.2) (jd_lk_mem _ _ _ _ hi)) (jd_ok_ins 140 pc q.1 q.2 hi)
      refine jd_step jd_base_ok hC hx hb hml hown hts hV (Nat.le_refl 13) (by decide) (ret := some .boolean) ?_ q.1 q.2 hok k
      intro r h pc st L2 H locs cells slots hrt hq hP hO2 hS hc2 hs2
      rcases hrt with ⟨x, rfl, rfl, hty, hd⟩ | ⟨x, rfl, rfl, hty, hd⟩ | ⟨v, rt, rfl, rfl, hvv, hty, hrt, hd⟩ | ⟨rfl, rfl, hty, hd⟩
      · have hx1 : x = 1 := by
          have := Option.some.inj hq
          injection this
        subst hx1
        refine va_forget (fun q hq => hS.2.2 q hq) ?_
        refine W.widen (k := 600000) (n := 7302250) hc2 hs2 ?_
        exact lw_ret hx hb hr hlocks hd
      · cases hty
      · have h1 := Option.some.inj hty
        subst h1
        rcases hrt with ⟨n, hn⟩ | ⟨t, ht⟩
        · cases hn
        · cases ht
      · cases hty
  have hl := lv_entry ([.ref b]) (n := 4) (Nat.le_of_ble_eq_true rfl)
  rw [lg_entry_eq]
  refine key _ s.heap [] 0 0 rfl ?_ hRp hOu va_S.rf (Nat.le_refl _) (Nat.le_refl _)
  exact hl
