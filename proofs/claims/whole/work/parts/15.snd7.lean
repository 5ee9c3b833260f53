/-! every instruction of the list is one of the bytes -/
def jd_dc (cc : ByteArray) (pc nx : Nat) (r : Instr) (n : Nat) : Prop := decode cc pc = .ok (r, n) ∧ nx = pc + n
def jd_ok (own nm : String) (cc : ByteArray) (ret : Option FieldType) (pc : Nat) (i : Instr) (nx : Nat) : Prop := match i with
  | .iload n => jd_dc cc pc nx (.iload n) 2 ∨ ∃ k : Fin 4, k.val = n ∧ jd_dc cc pc nx (.iload_n k) 1
  | .lload n => jd_dc cc pc nx (.lload n) 2 ∨ ∃ k : Fin 4, k.val = n ∧ jd_dc cc pc nx (.lload_n k) 1
  | .aload n => jd_dc cc pc nx (.aload n) 2 ∨ ∃ k : Fin 4, k.val = n ∧ jd_dc cc pc nx (.aload_n k) 1
  | .istore n => jd_dc cc pc nx (.istore n) 2 ∨ ∃ k : Fin 4, k.val = n ∧ jd_dc cc pc nx (.istore_n k) 1
  | .lstore n => jd_dc cc pc nx (.lstore n) 2 ∨ ∃ k : Fin 4, k.val = n ∧ jd_dc cc pc nx (.lstore_n k) 1
  | .astore n => jd_dc cc pc nx (.astore n) 2 ∨ ∃ k : Fin 4, k.val = n ∧ jd_dc cc pc nx (.astore_n k) 1
  | .iinc n k => jd_dc cc pc nx (.iinc n k) 3
  | .bipush v => jd_dc cc pc nx (.iconst v) 1 ∨ (jd_dc cc pc nx (.bipush v) 2 ∧ (Int8.ofInt v).toInt32 = Int32.ofInt v) ∨ (jd_dc cc pc nx (.sipush v) 3 ∧ (Int16.ofInt v).toInt32 = Int32.ofInt v) ∨ ∃ i : Nat, jd_dc cc pc nx (.ldc i) 2 ∧ Jvm.Cond.constant own i (Int32.ofInt v) ∈ jd_tb
  | .sipush v => (∃ n : Fin 2, jd_dc cc pc nx (.lconst n) 1 ∧ Int64.ofNat (n : Nat) = Int64.ofInt v) ∨ ∃ i : Nat, jd_dc cc pc nx (.ldc2_w i) 3 ∧ Jvm.Cond.constantLong own i (Int64.ofInt v) ∈ jd_tb
  | .aconst_null => jd_dc cc pc nx .aconst_null 1
  | .iadd => jd_dc cc pc nx .iadd 1
  | .isub => jd_dc cc pc nx .isub 1
  | .imul => jd_dc cc pc nx .imul 1
  | .iand => jd_dc cc pc nx .iand 1
  | .ishr => jd_dc cc pc nx .ishr 1
  | .ineg => jd_dc cc pc nx .ineg 1
  | .ladd => jd_dc cc pc nx .ladd 1
  | .lsub => jd_dc cc pc nx .lsub 1
  | .lmul => jd_dc cc pc nx .lmul 1
  | .ldiv => jd_dc cc pc nx .ldiv 1
  | .lrem => jd_dc cc pc nx .lrem 1
  | .lneg => jd_dc cc pc nx .lneg 1
  | .lcmp => jd_dc cc pc nx .lcmp 1
  | .i2l => jd_dc cc pc nx .i2l 1
  | .l2i => jd_dc cc pc nx .l2i 1
  | .dup => jd_dc cc pc nx .dup 1
  | .pop => jd_dc cc pc nx .pop 1
  | .dup_x1 => jd_dc cc pc nx .dup_x1 1
  | .dup2 => jd_dc cc pc nx .dup2 1
  | .if_icmp q t => ∃ off : Int, jd_dc cc pc nx (.if_icmp q off) 3 ∧ (pc : Int) + off = (t.toNat : Int)
  | .ifCond q t => ∃ off : Int, jd_dc cc pc nx (.ifCond q off) 3 ∧ (pc : Int) + off = (t.toNat : Int)
  | .ifnull t => ∃ off : Int, jd_dc cc pc nx (.ifnull off) 3 ∧ (pc : Int) + off = (t.toNat : Int)
  | .ifnonnull t => ∃ off : Int, jd_dc cc pc nx (.ifnonnull off) 3 ∧ (pc : Int) + off = (t.toNat : Int)
  | .if_acmp q t => ∃ off : Int, jd_dc cc pc nx (.if_acmp q off) 3 ∧ (pc : Int) + off = (t.toNat : Int)
  | .goto t => ∃ off : Int, jd_dc cc pc nx (.goto off) 3 ∧ (pc : Int) + off = (t.toNat : Int)
  | .tableswitch t lo hi ts => ∃ (off : Int) (offs : Array Int) (len : Nat), decode cc pc = .ok (.tableswitch off lo hi offs, len) ∧ (pc : Int) + off = (t.toNat : Int) ∧ hi + 1 = lo + ((ts.toList.map Int.toNat).length : Int) ∧ offs.toList.map (fun o => (pc : Int) + o) = (ts.toList.map Int.toNat).map (fun (x : Nat) => (x : Int))
  | .getfield f => ∃ idx : Nat, jd_dc cc pc nx (.getfield idx) 3 ∧ jd_fok own f idx ∧ jd_isR f = false
  | .fload f => ∃ idx : Nat, jd_dc cc pc nx (.getfield idx) 3 ∧ jd_fok own f idx ∧ jd_isR f = true
  | .putfield f => ∃ idx : Nat, jd_dc cc pc nx (.putfield idx) 3 ∧ jd_fok own f idx ∧ jd_isR f = false ∧ parseFieldDescriptor ((jd_cl (f / 64)).2.1 (f % 64)).2.2.1 = some .int ∧ jd_fin nm own f
  | .dstore f => ∃ idx : Nat, jd_dc cc pc nx (.putfield idx) 3 ∧ jd_fok own f idx ∧ jd_isR f = false ∧ parseFieldDescriptor ((jd_cl (f / 64)).2.1 (f % 64)).2.2.1 = some .boolean ∧ jd_fin nm own f
  | .fstore f => ∃ (idx : Nat) (ty : FieldType), jd_dc cc pc nx (.putfield idx) 3 ∧ jd_fok own f idx ∧ jd_isR f = true ∧ parseFieldDescriptor ((jd_cl (f / 64)).2.1 (f % 64)).2.2.1 = some ty ∧ ((∃ n, ty = .object n) ∨ ∃ t, ty = .array t) ∧ jd_fin nm own f
  | .iaload => jd_dc cc pc nx .iaload 1
  | .baload => jd_dc cc pc nx .baload 1
  | .laload => jd_dc cc pc nx .laload 1
  | .aaload => jd_dc cc pc nx .aaload 1
  | .iastore => jd_dc cc pc nx .iastore 1
  | .bastore => jd_dc cc pc nx .bastore 1
  | .lastore => jd_dc cc pc nx .lastore 1
  | .aastore => jd_dc cc pc nx .aastore 1
  | .arraylength => jd_dc cc pc nx .arraylength 1
  | .newarray t => jd_dc cc pc nx (.newarray t) 2
  | .anewarray _ => ∃ idx : Nat, jd_dc cc pc nx (.anewarray idx) 3 ∧ Cond.classLink own idx "java/lang/Object" ∈ jd_tb
  | .new k => ∃ idx : Nat, jd_dc cc pc nx (.new idx) 3 ∧ (1 ≤ k ∧ k ≤ 9 ∧ jd_nf.getD k 0 = (jd_cl k).2.2) ∧ Cond.classLink own idx (jd_cl k).1 ∈ jd_tb ∧ Cond.instantiable (jd_cl k).1 (jd_cl k).2.2 ∈ jd_tb ∧ Cond.initialized (jd_cl k).1 ∈ jd_tb
  | .multianewarray _ _ => ∃ idx : Nat, jd_dc cc pc nx (.multianewarray idx 2) 4 ∧ Cond.classLink own idx "[[I" ∈ jd_tb
  | .checkcast k => ∃ idx : Nat, jd_dc cc pc nx (.checkcast idx) 3 ∧ (1 ≤ k ∧ k ≤ 9) ∧ Cond.classLink own idx (jd_cl k).1 ∈ jd_tb
  | .invokestatic j => ∃ idx : Nat, jd_dc cc pc nx (.invokestatic idx) 3 ∧ jd_mok j (jd_nA.getD j 0) ∧ jd_lkS own idx j ∧ Cond.static (jd_y j) ∈ jd_tb
  | .invokevirtual j => (∃ idx : Nat, jd_dc cc pc nx (.invokevirtual idx) 3 ∧ jd_mok j (jd_nA.getD j 0 - 1) ∧ (1 ≤ jd_rk.getD j 0 ∧ jd_rk.getD j 0 ≤ 9) ∧ Cond.methodLink own idx (jd_y j) ∈ jd_tb ∧ Cond.instanceMethod (jd_y j) ∈ jd_tb ∧ Cond.selects (jd_cl (jd_rk.getD j 0)).1 (jd_y j) (jd_y j) ∈ jd_tb) ∨
      ∃ (idx cnt : Nat) (x : MethodName), (decode cc pc = .ok (.invokeinterface idx cnt, 5) ∧ nx = pc + 5) ∧ jd_mok j (jd_nA.getD j 0 - 1) ∧ jd_rk.getD j 0 = 1 ∧ (x, jd_y j) ∈ jd_face ∧ (x.cls ≠ "java/lang/invoke/MethodHandle" ∧ x.cls ≠ "java/lang/invoke/VarHandle" ∧ (parseMethodDescriptor x.desc).map (fun d => d.parameters.length) = some (jd_nA.getD j 0 - 1)) ∧ Cond.methodLink own idx x ∈ jd_tb ∧ Cond.instanceMethod (jd_y j) ∈ jd_tb ∧ Cond.selects "java/util/ArrayList" x (jd_y j) ∈ jd_tb
  | .invokespecial j => ∃ idx : Nat, jd_dc cc pc nx (.invokespecial idx) 3 ∧ jd_mok j (jd_nA.getD j 0 - 1) ∧ jd_lkS own idx j ∧ jd_r j = none ∧ (jd_y j).name = "<init>" ∧ Cond.instanceMethod (jd_y j) ∈ jd_tb
  | .invokedynamic 0 => ∃ idx : Nat, jd_dc cc pc nx (.invokespecial idx) 3 ∧ Cond.methodLink own idx objectInit ∈ jd_tb
  | .invokedynamic 1 => ∃ idx : Nat, jd_dc cc pc nx (.invokevirtual idx) 3 ∧ Cond.methodLink own idx ⟨"java/lang/Object", "getClass", "()Ljava/lang/Class;"⟩ ∈ jd_tb
  | .invokedynamic 2 => ∃ idx : Nat, jd_dc cc pc nx (.invokestatic idx) 3 ∧ Cond.methodLink own idx arraycopyName ∈ jd_tb
  | .invokedynamic 3 => ∃ idx : Nat, jd_dc cc pc nx (.invokestatic idx) 3 ∧ Cond.methodLink own idx arraycopyName ∈ jd_tb
  | .invokedynamic 4 => ∃ idx : Nat, jd_dc cc pc nx (.invokestatic idx) 3 ∧ Cond.methodLink own idx Lib.Math.max.name ∈ jd_tb ∧ Cond.static Lib.Math.max.name ∈ jd_tb ∧ Cond.initialized "java/lang/Math" ∈ jd_tb ∧ Cond.code Lib.Math.max.name Lib.Math.max.code 2 (some .int) ∈ jd_tb
  | .invokedynamic 5 => ∃ idx : Nat, jd_dc cc pc nx (.invokestatic idx) 3 ∧ Cond.methodLink own idx Lib.Math.min.name ∈ jd_tb ∧ Cond.static Lib.Math.min.name ∈ jd_tb ∧ Cond.initialized "java/lang/Math" ∈ jd_tb ∧ Cond.code Lib.Math.min.name Lib.Math.min.code 2 (some .int) ∈ jd_tb
  | .invokedynamic 6 => ∃ idx : Nat, jd_dc cc pc nx (.invokestatic idx) 3 ∧ Cond.methodLink own idx Lib.MathLoose.min_long.x ∈ jd_tb ∧ Cond.static Lib.MathLoose.min_long.x ∈ jd_tb ∧ Cond.initialized "java/lang/Math" ∈ jd_tb ∧ Cond.code Lib.MathLoose.min_long.x Lib.MathLoose.min_long.code 4 (some .long) ∈ jd_tb
  | .ldc _ => ∃ idx : Nat, jd_dc cc pc nx (.ldc idx) 2 ∧ Cond.classLink own idx "[Ljava/lang/Object;" ∈ jd_tb
  | .getstatic _ => ∃ idx : Nat, jd_dc cc pc nx (.getstatic idx) 3 ∧ Cond.fieldLink own idx "java/util/ArrayList" "DEFAULTCAPACITY_EMPTY_ELEMENTDATA" "[Ljava/lang/Object;" ∈ jd_tb
  | .ireturn => decode cc pc = .ok (.ireturn, 1) ∧ ret = some .int
  | .freturn => decode cc pc = .ok (.ireturn, 1) ∧ ret = some .boolean
  | .lreturn => decode cc pc = .ok (.lreturn, 1) ∧ ret = some .long
  | .areturn => decode cc pc = .ok (.areturn, 1) ∧ ∃ rt : FieldType, ret = some rt ∧ ((∃ n, rt = .object n) ∨ ∃ t, rt = .array t)
  | .return_ => decode cc pc = .ok (.return_, 1) ∧ ret = none
  | _ => True
/-- words that every method may need -/
def jd_base : Prop := Cond.arrayClass .int ∈ jd_tb ∧ Cond.arrayClass .long ∈ jd_tb ∧ Cond.arrayClass .boolean ∈ jd_tb ∧ Cond.instanceMethod objectInit ∈ jd_tb ∧ Cond.code objectInit ⟨#[0xb1]⟩ 1 none ∈ jd_tb ∧ Cond.selects "[Ljava/lang/Object;" ⟨"java/lang/Object", "getClass", "()Ljava/lang/Class;"⟩ ⟨"java/lang/Object", "getClass", "()Ljava/lang/Class;"⟩ ∈ jd_tb ∧ Cond.instanceMethod ⟨"java/lang/Object", "getClass", "()Ljava/lang/Class;"⟩ ∈ jd_tb ∧ Cond.native ⟨"java/lang/Object", "getClass", "()Ljava/lang/Class;"⟩ ∈ jd_tb ∧ Cond.native arraycopyName ∈ jd_tb ∧ Cond.static arraycopyName ∈ jd_tb ∧ Cond.initialized "java/lang/System" ∈ jd_tb
/-- a return: of which value -/
def jd_rt (cc : ByteArray) (ret : Option FieldType) (pc : Nat) (st : List Value) (r : Option Value) : Prop := (∃ x : Int32, st = [.int x] ∧ r = some (.int x) ∧ (ret = some .int ∨ (ret = some .boolean ∧ (x = 0 ∨ x = 1))) ∧ decode cc pc = .ok (.ireturn, 1)) ∨ (∃ x : Int64, st = [.long x] ∧ r = some (.long x) ∧ ret = some .long ∧ decode cc pc = .ok (.lreturn, 1)) ∨ (∃ (v : Value) (rt : FieldType), st = [v] ∧ r = some v ∧ (v = .null ∨ ∃ a, v = .ref a) ∧ ret = some rt ∧ ((∃ n, rt = .object n) ∨ ∃ t, rt = .array t) ∧ decode cc pc = .ok (.areturn, 1)) ∨ (st = [] ∧ r = none ∧ ret = none ∧ decode cc pc = .ok (.return_, 1))
section JX
variable {p : Program} {l : Launch} {e : Env} {R : Room} {s : State} {m : MethodId} {args : Array Value} {below : List Frame} {meth : Method} {c : Code} {D : va_G} {cy : Nat → ClassId} {B0 de nL : Nat} {Z : State → Prop}
variable {cc : ByteArray} {pc : Nat} {ls : jd_F} {st : List Value} {h : jd_H} {cb sb : Nat} {own : String} {mi : Nat} {Q : jd_Q}
theorem jd_step (hB : jd_base) {d : Nat} {call : jd_M} (hC : jd_CallOk l D cy B0 de mi d call) (hx : p.tables.exec = Jvm.exec) (hb : c.code = cc) (hml : c.maxLocals = nL) (hown : s.vm.findClass own = some m.cls) (hts : ∀ w ∈ jd_tb, w.before args s = true) (hV : jd_V D cy B0 de mi s) (hRf : d ≤ R.frames) (hRl : 39 * d ≤ R.locals) {ret : Option FieldType}
    (hret : ∀ (r : Option Value) (h : jd_H) (pc : Nat) (st : List Value) (L : Array Slot) (H : Heap) (locs : List Loc) (cells slots : Nat), jd_rt cc ret pc st r → Q r h → jd_Rp D cy B0 h H → jd_Ou B0 de s h → va_S (fun q => B0 ≤ q) s.heap H locs → cells ≤ R.cells → slots ≤ R.slots → W p l e R s m args below meth c H locs cells slots Z (F0 m pc L st))
    (i : Instr) (nx : Nat) (hok : jd_ok own meth.name cc ret pc i nx) (k : jd_St mi d call Q (jd_X p l e R s m args below meth c D cy B0 de nL Z) i nx ls st h cb sb) : jd_X p l e R s m args below meth c D cy B0 de nL Z pc ls st h cb sb := by
  obtain ⟨w1, w2, w3, w4, w5, w6, w7, w8, w9, w10, w11⟩ := hB
  have hK := hV.1
  unfold jd_St at k
  split at k
  · exact sd_iload hx hb hok k
  · exact sd_lload hx hb hok k
  · exact sd_aload hx hb hok k
  · exact sd_istore hx hb hok k
  · exact sd_lstore hx hb hok k
  · exact sd_astore hx hb hok k
  · obtain ⟨hd, rfl⟩ := hok; exact sd_iinc hx hb hd k
  · exact sd_ipush hx hb hown hts hok k
  · exact sd_lpush hx hb hown hts hok k
  · obtain ⟨hd, rfl⟩ := hok; exact sd_null hx hb hd k
  · obtain ⟨hd, rfl⟩ := hok; exact sd_iadd hx hb hd k
  · obtain ⟨hd, rfl⟩ := hok; exact sd_isub hx hb hd k
  · obtain ⟨hd, rfl⟩ := hok; exact sd_imul hx hb hd k
  · obtain ⟨hd, rfl⟩ := hok; exact sd_iand hx hb hd k
  · obtain ⟨hd, rfl⟩ := hok; exact sd_ishr hx hb hd k
  · obtain ⟨hd, rfl⟩ := hok; exact sd_ineg hx hb hd k
  · obtain ⟨hd, rfl⟩ := hok; exact sd_ladd hx hb hd k
  · obtain ⟨hd, rfl⟩ := hok; exact sd_lsub hx hb hd k
  · obtain ⟨hd, rfl⟩ := hok; exact sd_lmul hx hb hd k
  · obtain ⟨hd, rfl⟩ := hok; exact sd_ldiv hx hb hd k
  · obtain ⟨hd, rfl⟩ := hok; exact sd_lrem hx hb hd k
  · obtain ⟨hd, rfl⟩ := hok; exact sd_lneg hx hb hd k
  · obtain ⟨hd, rfl⟩ := hok; exact sd_lcmp hx hb hd k
  · obtain ⟨hd, rfl⟩ := hok; exact sd_i2l hx hb hd k
  · obtain ⟨hd, rfl⟩ := hok; exact sd_l2i hx hb hd k
  · obtain ⟨hd, rfl⟩ := hok; exact sd_dup hx hb hd k
  · obtain ⟨hd, rfl⟩ := hok; exact sd_pop hx hb hd k
  · obtain ⟨hd, rfl⟩ := hok; exact sd_dupx hx hb hd k
  · obtain ⟨hd, rfl⟩ := hok; exact sd_dup2 hx hb hd k
  · obtain ⟨off, ⟨hd, rfl⟩, ht⟩ := hok; exact sd_ic hx hb _ hd ht k
  · obtain ⟨off, ⟨hd, rfl⟩, ht⟩ := hok; exact sd_iz hx hb _ hd ht k
  · obtain ⟨off, ⟨hd, rfl⟩, ht⟩ := hok; exact sd_ifnull hx hb hd ht k
  · obtain ⟨off, ⟨hd, rfl⟩, ht⟩ := hok; exact sd_ifnonnull hx hb hd ht k
  · obtain ⟨off, ⟨hd, rfl⟩, ht⟩ := hok; exact sd_acmp_eq hx hb hd ht k
  · obtain ⟨off, ⟨hd, rfl⟩, ht⟩ := hok; exact sd_acmp_ne hx hb hd ht k
  · obtain ⟨off, ⟨hd, rfl⟩, ht⟩ := hok; exact sd_goto hx hb hd ht k
  · obtain ⟨off, offs, len, hd, ht, hh, hts2⟩ := hok; exact sd_tsw hx hb hd ht hh hts2 k
  · obtain ⟨idx, ⟨hd, rfl⟩, hf, hr⟩ := hok; exact sd_gI hx hb hown hts hK hd hf hr k
  · obtain ⟨idx, ⟨hd, rfl⟩, hf, hr⟩ := hok; exact sd_gR hx hb hown hts hK hd hf hr k
  · obtain ⟨idx, ⟨hd, rfl⟩, hf, hr, hty, hfin⟩ := hok; exact sd_pI hx hb hown hts hK hd hf hr hty hfin k
  · obtain ⟨idx, ⟨hd, rfl⟩, hf, hr, hty, hfin⟩ := hok; exact sd_pZ hx hb hown hts hK hd hf hr hty hfin k
  · obtain ⟨idx, ty, ⟨hd, rfl⟩, hf, hr, hty, hrt, hfin⟩ := hok; exact sd_pR hx hb hown hts hK hd hf hr hty hrt hfin k
  · obtain ⟨hd, rfl⟩ := hok; exact sd_iald hx hb hK hd k
  · obtain ⟨hd, rfl⟩ := hok; exact sd_bald hx hb hK hd k
  · obtain ⟨hd, rfl⟩ := hok; exact sd_lald hx hb hK hd k
  · obtain ⟨hd, rfl⟩ := hok; exact sd_aald hx hb hK hd k
  · obtain ⟨hd, rfl⟩ := hok; exact sd_iast hx hb hK hd k
  · obtain ⟨hd, rfl⟩ := hok; exact sd_bast hx hb hK hd k
  · obtain ⟨hd, rfl⟩ := hok; exact sd_last hx hb hK hd k
  · obtain ⟨hd, rfl⟩ := hok; exact sd_aast hx hb hV.2.2.2.2.1 hK hV.2.2.2.1 hd k
  · obtain ⟨hd, rfl⟩ := hok; exact sd_alen hx hb hK hd k
  · obtain ⟨hd, rfl⟩ := hok; exact sd_newi hx hb hts w1 hK hd k
  · obtain ⟨hd, rfl⟩ := hok; exact sd_newl hx hb hts w2 hK hd k
  · obtain ⟨hd, rfl⟩ := hok; exact sd_newz hx hb hts w3 hK hd k
  · obtain ⟨idx, ⟨hd, rfl⟩, hlk⟩ := hok; exact sd_newq hx hb hown hts hV.2.2.2.2.2.1 hK hlk hd k
  · obtain ⟨idx, ⟨hd, rfl⟩, ⟨h1, h9, hN⟩, hlk, hi1, hi2⟩ := hok; exact sd_new hx hb hown hts hK h1 h9 hN hlk hi1 hi2 hd k
  · obtain ⟨idx, ⟨hd, rfl⟩, hlk⟩ := hok; exact sd_mna hx hb hown hts hV w1 hlk hd k
  · obtain ⟨idx, ⟨hd, rfl⟩, ⟨h1, h9⟩, hlk⟩ := hok; exact sd_cast hx hb hown hts hK h1 h9 hlk hd k
  · obtain ⟨idx, ⟨hd, rfl⟩, hm, hlk, hst⟩ := hok; exact sd_calls hC hx hb hml hown hts hV hRf hRl hm hlk hst hd k
  · rcases hok with ⟨idx, ⟨hd, rfl⟩, hm, ⟨h1, h9⟩, hlk, hst, hse⟩ | ⟨idx, cnt, xx, ⟨hd, rfl⟩, hm, hk1, hf, hxd, hlk, hst, hse⟩
    · exact sd_callv hC hx hb hml hown hts hV hRf hRl hm h1 h9 hlk hst hse hd k
    · exact sd_callf hC hx hb hml hown hts hV hRf hRl hm hk1 hf hxd hlk hst hse hd k
  · obtain ⟨idx, ⟨hd, rfl⟩, hm, hlk, hr, hnm, hst⟩ := hok; exact sd_calli hC hx hb hml hown hts hV hRf hRl hm hlk hr hnm hst hd k
  · obtain ⟨idx, ⟨hd, rfl⟩, hlk⟩ := hok; exact sd_oinit hx hb hml hown hts w4 w5 hRf hRl hlk hd k
  · obtain ⟨idx, ⟨hd, rfl⟩, hlk⟩ := hok; exact sd_getC hx hb hml hown hts hK hV.2.2.1 hV.2.2.2.2.2.2.2.1 w6 w7 w8 hRf hRl hlk hd k
  · obtain ⟨idx, ⟨hd, rfl⟩, hlk⟩ := hok; exact sd_cpi hx hb hml hown hts hK w9 w10 w11 hRf hRl hlk hd k
  · obtain ⟨idx, ⟨hd, rfl⟩, hlk⟩ := hok; exact sd_cpo hx hb hml hown hts hV.2.2.2.2.1 hK w9 w10 w11 hRf hRl hlk hd k
  · obtain ⟨idx, ⟨hd, rfl⟩, hlk, z1, z2, z3⟩ := hok; exact sd_mmax hx hb hml hown hts hRf hRl hlk z1 z2 z3 hd k
  · obtain ⟨idx, ⟨hd, rfl⟩, hlk, z1, z2, z3⟩ := hok; exact sd_mmin hx hb hml hown hts hRf hRl hlk z1 z2 z3 hd k
  · obtain ⟨idx, ⟨hd, rfl⟩, hlk, z1, z2, z3⟩ := hok; exact sd_lmin hx hb hml hown hts hRf hRl hlk z1 z2 z3 hd k
  · obtain ⟨idx, ⟨hd, rfl⟩, hlk⟩ := hok; exact sd_ldcM hx hb hown hts hV.2.2.1 hlk hd k
  · obtain ⟨idx, ⟨hd, rfl⟩, hlk⟩ := hok; exact sd_gets hx hb hown hts hV.2.1 hlk hd k
  · obtain ⟨hd, hr⟩ := hok
    unfold o_iret at k
    split at k
    next x => exact fun L H locs cells slots h0 hL hP hO hS hc hs2 => hret _ h pc _ L H locs cells slots (Or.inl ⟨x, rfl, rfl, Or.inl hr, hd⟩) k hP hO hS (by omega) (by omega)
    next => exact k.elim
  · obtain ⟨hd, hr⟩ := hok
    unfold o_zret at k
    split at k
    next x => exact fun L H locs cells slots h0 hL hP hO hS hc hs2 => hret _ h pc _ L H locs cells slots (Or.inl ⟨x, rfl, rfl, Or.inr ⟨hr, k.1⟩, hd⟩) k.2 hP hO hS (by omega) (by omega)
    next => exact k.elim
  · obtain ⟨hd, hr⟩ := hok
    unfold o_lret at k
    split at k
    next x => exact fun L H locs cells slots h0 hL hP hO hS hc hs2 => hret _ h pc _ L H locs cells slots (Or.inr (Or.inl ⟨x, rfl, rfl, hr, hd⟩)) k hP hO hS (by omega) (by omega)
    next => exact k.elim
  · obtain ⟨hd, rt, hr, hrt⟩ := hok
    unfold o_aret at k
    split at k
    next x => exact fun L H locs cells slots h0 hL hP hO hS hc hs2 => hret _ h pc _ L H locs cells slots (Or.inr (Or.inr (Or.inl ⟨_, rt, rfl, rfl, Or.inr ⟨x, rfl⟩, hr, hrt, hd⟩))) k hP hO hS (by omega) (by omega)
    next => exact fun L H locs cells slots h0 hL hP hO hS hc hs2 => hret _ h pc _ L H locs cells slots (Or.inr (Or.inr (Or.inl ⟨_, rt, rfl, rfl, Or.inl rfl, hr, hrt, hd⟩))) k hP hO hS (by omega) (by omega)
    next => exact k.elim
  · obtain ⟨hd, hr⟩ := hok
    unfold o_vret at k
    split at k
    next => exact fun L H locs cells slots h0 hL hP hO hS hc hs2 => hret _ h pc _ L H locs cells slots (Or.inr (Or.inr (Or.inr ⟨rfl, rfl, hr, hd⟩))) k hP hO hS (by omega) (by omega)
    next => exact k.elim
  · exact k.elim
theorem jd_la_len : ∀ vs : List Value, (lg_sl vs).length = (jd_la vs).length
  | [] => rfl
  | v :: vs => by
    have ih := jd_la_len vs
    unfold lg_sl at ih ⊢
    rw [List.flatMap_cons, List.length_append, ih]
    show _ = (if v.category = 2 then some v :: none :: jd_la vs else some v :: jd_la vs).length
    split
    · simp only [List.length_cons, List.length_nil]; omega
    · simp only [List.length_cons, List.length_nil]; omega
theorem jd_as_none : ∀ (n k : Nat), jd_as k (List.replicate n none) = []
  | 0, _ => rfl
  | n + 1, k => by rw [List.replicate_succ, jd_as, jd_as_none n]
theorem jd_as_args : ∀ (vs : List Value) (n k : Nat), jd_as k (jd_la vs ++ List.replicate n none) = lv_args k vs
  | [], n, k => by simp only [jd_la, List.nil_append, jd_as_none, lv_args]
  | v :: vs, n, k => by
    unfold jd_la lv_args
    split
    · simp only [List.cons_append, jd_as]
      rw [jd_as_args vs n (k + 1 + 1)]
    · simp only [List.cons_append, jd_as]
      rw [jd_as_args vs n (k + 1)]
theorem jd_soundB (hB : jd_base) (hO : ∀ j pc i nx, jd_ins j pc = some (i, nx) → jd_ok (jd_y j).cls (jd_y j).name (jd_b j) (jd_r j) pc i nx) {d : Nat} (hC : jd_CallOk l D cy B0 de mi d (jd_WM mi d)) (j : Nat) (as : List Value) (h : jd_H) (Q : jd_Q) (hc : Cond.code (jd_y j) (jd_b j) (jd_mL.getD j 0) (jd_r j) ∈ jd_tb ∧ plainName (jd_y j).cls = true) (hw : jd_WM mi (d + 1) j as h Q) : Met l (jd_y j) (jd_ws j) (jd_rm d (jd_mc.getD j 0) (jd_ms.getD j 0)) (jd_Pc D cy B0 de mi as h) (jd_Qc D cy B0 de mi Q) (jd_mc.getD j 0) (jd_ms.getD j 0) (fun q => B0 ≤ q) := by
  obtain ⟨hlen, hw⟩ := hw
  refine Met.ofW (cc := jd_b j) (maxL := jd_mL.getD j 0) (ret := jd_r j) hc.2 rfl ?_
  intro p e s m args below meth c s₁ B hml hv
  obtain ⟨rfl, hV, hOu, hRp⟩ := hv
  have hx := B.exec
  have hb := B.bytes
  have hr := B.returns
  have hts0 := atoms_spec (ws := jd_ws j) B.pre
  have hts : ∀ w ∈ jd_tb, w.before as.toArray s = true := fun w q => hts0 w (List.mem_cons_of_mem _ q)
  have hown : s.vm.findClass (jd_y j).cls = some m.cls := findClass_of_methodNamed B.named
  have hnm : meth.name = (jd_y j).name := (name_of_methodNamed B.named B.method).1
  have hlocks := B.notSynchronized
  have key : jd_X p l e (headSpec (jd_ws j) (jd_rm d (jd_mc.getD j 0) (jd_ms.getD j 0))).room s m as.toArray below meth c D cy B0 de (jd_mL.getD j 0) (MQ below (jd_Qc D cy B0 de mi Q) as.toArray s (jd_mc.getD j 0) (jd_ms.getD j 0) (fun q => B0 ≤ q)) 0 (jd_lo (jd_mL.getD j 0) as) [] h (jd_mc.getD j 0) (jd_ms.getD j 0) := by
    refine hw _ (fun pc ls st h c' s' k => ?_)
    unfold jd_B at k
    cases hi : jd_ins j pc with
    | none => rw [hi] at k; exact k.elim
    | some q =>
      rw [hi] at k
      refine jd_step hB hC hx hb hml hown hts hV (Nat.le_refl d) (Nat.le_refl (39 * d)) (ret := jd_r j) ?_ q.1 q.2 (by rw [hnm]; exact hO j pc q.1 q.2 hi) k
      intro r h pc st L H locs cells slots hrt hq hP hO2 hS hc2 hs2
      have hQt : ∀ t : State, t.heap = H → s.WarmedH t.vm → jd_Qc D cy B0 de mi Q as.toArray s (.returned r) t := fun t ht hW => ⟨r, h, rfl, hq, ⟨jd_Ou_moved hW.alike (fun q hq => by rw [ht]; exact jd_low hO2 hS q hq) (by rw [ht]; exact Nat.le_trans hO2.2.1 hS.1) hO2, by rw [ht]; exact hP⟩, hS.F ht⟩
      refine W.widen (k := jd_mc.getD j 0) (n := jd_ms.getD j 0) hc2 hs2 ?_
      rcases hrt with ⟨x, rfl, rfl, hty, hd⟩ | ⟨x, rfl, rfl, hty, hd⟩ | ⟨v, rt, rfl, rfl, hvv, hty, hrt, hd⟩ | ⟨rfl, rfl, hty, hd⟩
      · rcases hty with hty | ⟨hty, h01⟩
        · exact W.iret hx hb (hr.trans hty) hQt hS.2.2 hd hlocks
        · exact W.zret hx hb (hr.trans hty) (by rcases h01 with rfl | rfl <;> rfl) hQt hS.2.2 hd hlocks
      · exact W.lret hx hb (hr.trans hty) hQt hS.2.2 hd hlocks
      · exact W.aret hx hb (hr.trans hty) hrt hvv hQt hS.2.2 hd hlocks
      · exact W.vret hx hb (hr.trans hty) hQt hS.2.2 hd hlocks
  have hl := lv_entry as (n := jd_mL.getD j 0) (by rw [jd_la_len]; exact hlen)
  rw [lg_entry_eq]
  refine key _ s.heap [] 0 0 ?_ ?_ hRp hOu va_S.rf (Nat.le_of_eq (Nat.zero_add _)) (Nat.le_of_eq (Nat.zero_add _))
  · unfold jd_lo
    rw [List.length_append, List.length_replicate]
    omega
  · unfold jd_lo
    rw [jd_as_args]
    exact hl
/-- a method's contract out of its weakest condition -/
theorem jd_sound (hB : jd_base) (hO : ∀ j pc i nx, jd_ins j pc = some (i, nx) → jd_ok (jd_y j).cls (jd_y j).name (jd_b j) (jd_r j) pc i nx) : ∀ (d j : Nat) (as : List Value) (h : jd_H) (Q : jd_Q), (Cond.code (jd_y j) (jd_b j) (jd_mL.getD j 0) (jd_r j) ∈ jd_tb ∧ plainName (jd_y j).cls = true) → jd_WM mi (d + 1) j as h Q → Met l (jd_y j) (jd_ws j) (jd_rm d (jd_mc.getD j 0) (jd_ms.getD j 0)) (jd_Pc D cy B0 de mi as h) (jd_Qc D cy B0 de mi Q) (jd_mc.getD j 0) (jd_ms.getD j 0) (fun q => B0 ≤ q) := by
  intro d
  induction d with
  | zero =>
    intro j as h Q hc hw
    have hC : jd_CallOk l D cy B0 de mi 0 (jd_WM mi 0) := fun j as h Q q => q.elim
    refine jd_soundB (d := 0) hB hO hC j as h Q hc hw
  | succ d ih =>
    intro j as h Q hc hw
    have hC : jd_CallOk l D cy B0 de mi (d + 1) (jd_WM mi (d + 1)) := fun j as h Q q => ⟨d, rfl, fun hc => ih j as h Q hc q⟩
    exact jd_soundB (d := d + 1) hB hO hC j as h Q hc hw
end JX
