/-! THE WEAKEST CONDITION of a method, over its instructions -/
def jd_lk : List (Nat × Instr × Nat) → Nat → Option (Instr × Nat)
  | [], _ => none
  | (p, i, n) :: l, k => bif Nat.beq p k then some (i, n) else jd_lk l k
def jd_ins (j pc : Nat) : Option (Instr × Nat) := jd_lk (jd_cds.getD j []) pc
def jd_c2 : ClassFile.Cond → Int32 → Int32 → Prop
  | .eq => fun x y => x = y
  | .ne => fun x y => ¬ x = y
  | .lt => fun x y => x < y
  | .ge => fun x y => y ≤ x
  | .gt => fun x y => y < x
  | .le => fun x y => x ≤ y
def jd_c1 : ClassFile.Cond → Int32 → Prop
  | .eq => fun x => x = 0
  | .ne => fun x => ¬ x = 0
  | .lt => fun x => x < 0
  | .ge => fun x => 0 ≤ x
  | .gt => fun x => 0 < x
  | .le => fun x => x ≤ 0
def jd_St (g d : Nat) (call : jd_M) (Q : jd_Q) (X : jd_C) (i : Instr) (nx : Nat) : jd_K := match i with
  | .iload n => o_iload n (X nx)
  | .lload n => o_lload n (X nx)
  | .aload n => o_aload n (X nx)
  | .istore n => o_istore n (X nx)
  | .lstore n => o_lstore n (X nx)
  | .astore n => o_astore n (X nx)
  | .iinc n k => o_iinc n k (X nx)
  | .bipush k => o_ipush k (X nx)
  | .sipush k => o_lpush k (X nx)
  | .aconst_null => o_null (X nx)
  | .iadd => o_ibin (fun x y => x + y) (X nx)
  | .isub => o_ibin (fun x y => x - y) (X nx)
  | .imul => o_ibin (fun x y => x * y) (X nx)
  | .iand => o_ibin (fun x y => x &&& y) (X nx)
  | .ishr => o_ibin (fun x y => x >>> (y &&& 31)) (X nx)
  | .ineg => o_ineg (X nx)
  | .ladd => o_lbin (fun x y => x + y) (X nx)
  | .lsub => o_lbin (fun x y => x - y) (X nx)
  | .lmul => o_lbin (fun x y => x * y) (X nx)
  | .ldiv => o_ldv (fun x y => x / y) (X nx)
  | .lrem => o_ldv (fun x y => x - x / y * y) (X nx)
  | .lneg => o_lneg (X nx)
  | .lcmp => o_lcmp (X nx)
  | .i2l => o_i2l (X nx)
  | .l2i => o_l2i (X nx)
  | .dup => o_dup (X nx)
  | .pop => o_pop (X nx)
  | .dup_x1 => o_dupx (X nx)
  | .dup2 => o_dup2 (X nx)
  | .if_icmp q t => o_ic (jd_c2 q) (X t.toNat) (X nx)
  | .ifCond q t => o_iz (jd_c1 q) (X t.toNat) (X nx)
  | .ifnull t => o_nul (X t.toNat) (X nx)
  | .ifnonnull t => o_nul (X nx) (X t.toNat)
  | .if_acmp .eq t => o_acmp (X t.toNat) (X nx)
  | .if_acmp .ne t => o_acmp (X nx) (X t.toNat)
  | .goto t => X t.toNat
  | .tableswitch t lo _ ts => o_tsw lo (ts.toList.map Int.toNat) t.toNat X
  | .getfield f => o_gI f (X nx)
  | .fload f => o_gR f (X nx)
  | .putfield f => o_pI f (X nx)
  | .dstore f => o_pZ f (X nx)
  | .fstore f => o_pR f (X nx)
  | .iaload => o_iald (X nx)
  | .baload => o_bald (X nx)
  | .laload => o_lald (X nx)
  | .aaload => o_aald (X nx)
  | .iastore => o_iast (X nx)
  | .bastore => o_bast (X nx)
  | .lastore => o_last (X nx)
  | .aastore => o_aast (X nx)
  | .arraylength => o_alen (X nx)
  | .newarray .int => o_newa 10 (X nx)
  | .newarray .long => o_newa 11 (X nx)
  | .newarray .boolean => o_newa 12 (X nx)
  | .anewarray _ => o_newa 13 (X nx)
  | .new k => o_new k (jd_nf.getD k 0) (X nx)
  | .multianewarray _ _ => o_mna (X nx)
  | .checkcast k => o_cast k (X nx)
  | .invokestatic j => o_calls call j (jd_nA.getD j 0) (jd_mc.getD j 0) (jd_ms.getD j 0) (X nx)
  | .invokevirtual j => o_callv call j (jd_rk.getD j 0) (jd_nA.getD j 0) (jd_mc.getD j 0) (jd_ms.getD j 0) (X nx)
  | .invokespecial j => o_calli call j (jd_nA.getD j 0) (jd_mc.getD j 0) (jd_ms.getD j 0) (X nx)
  | .invokedynamic 0 => o_oinit d (X nx)
  | .invokedynamic 1 => o_getC d g (X nx)
  | .invokedynamic 2 => o_cpi d (X nx)
  | .invokedynamic 3 => o_cpo d (X nx)
  | .invokedynamic 4 => o_mmax d (X nx)
  | .invokedynamic 5 => o_mmin d (X nx)
  | .invokedynamic 6 => o_lmin d (X nx)
  | .ldc _ => o_refp g (X nx)
  | .getstatic _ => o_gets (X nx)
  | .ireturn => o_iret Q
  | .freturn => o_zret Q
  | .lreturn => o_lret Q
  | .areturn => o_aret Q
  | .return_ => o_vret Q
  | _ => fun _ _ _ _ _ => False
def jd_B (g d : Nat) (call : jd_M) (Q : jd_Q) (X : jd_C) (j pc : Nat) : jd_K := match jd_ins j pc with
  | some q => jd_St g d call Q X q.1 q.2
  | none => fun _ _ _ _ _ => False
def jd_wp (g d : Nat) (call : jd_M) (j : Nat) (Q : jd_Q) : jd_C := fun pc ls st h c s => ∀ X : jd_C, (∀ pc ls st h c s, jd_B g d call Q X j pc ls st h c s → X pc ls st h c s) → X pc ls st h c s
/-- the locals at a method's entry -/
def jd_la : List Value → jd_F
  | [] => []
  | v :: vs => if v.category = 2 then some v :: none :: jd_la vs else some v :: jd_la vs
def jd_lo (n : Nat) (as : List Value) : jd_F := jd_la as ++ List.replicate (n - (jd_la as).length) none
/-- method j, called with the arguments as at the heap h, comes back, and Q holds of answer and heap; at most d calls stand open at once -/
def jd_WM (g : Nat) : Nat → jd_M
  | 0 => fun _ _ _ _ => False
  | d + 1 => fun j as h Q => (jd_la as).length ≤ jd_mL.getD j 0 ∧ jd_wp g d (jd_WM g d) j Q 0 (jd_lo (jd_mL.getD j 0) as) [] h (jd_mc.getD j 0) (jd_ms.getD j 0)
def jd_w (g d j : Nat) (Q : jd_Q) : jd_C := jd_wp g d (jd_WM g d) j Q
section JM
variable {g d : Nat} {call : jd_M} {Q Q' : jd_Q} {X X' : jd_C} {K K' Kt Kf Kt' Kf' : jd_K} {ls : jd_F} {st : List Value} {h : jd_H} {c s : Nat}
theorem jd_sw_mono (hX : ∀ pc ls st h c s, X pc ls st h c s → X' pc ls st h c s) : ∀ (ts : List Nat) (x lo : Int), jd_sw x lo X ls st h c s ts → jd_sw x lo X' ls st h c s ts
  | [], _, _ => fun _ => trivial
  | _ :: ts, _, _ => fun q => ⟨fun e => hX _ _ _ _ _ _ (q.1 e), jd_sw_mono hX ts _ _ q.2⟩
theorem jd_St_mono (hc : ∀ j as h (P P' : jd_Q), (∀ r h, P r h → P' r h) → call j as h P → call j as h P') (hQ : ∀ r h, Q r h → Q' r h) (hX : ∀ pc ls st h c s, X pc ls st h c s → X' pc ls st h c s) (i : Instr) (nx : Nat) : jd_St g d call Q X i nx ls st h c s → jd_St g d call Q' X' i nx ls st h c s := by
  unfold jd_St
  split
  all_goals first
    | exact id
    | exact hX _ _ _ _ _ _
    | (simp only [o_iload, o_lload, o_aload, o_istore, o_lstore, o_astore, o_iinc, o_ipush, o_lpush, o_null, o_ibin, o_ineg, o_lbin, o_ldv, o_lneg, o_lcmp, o_i2l, o_l2i, o_dup, o_pop, o_dupx, o_dup2, o_ic, o_iz, o_nul, o_acmp, o_tsw, o_gI, o_gR, o_pI, o_pZ, o_pR, o_iald, o_bald, o_lald, o_aald, o_iast, o_bast, o_last, o_aast, o_alen, o_newa, o_new, o_mna, o_cast, o_calls, o_callv, o_calli, o_oinit, o_getC, o_refp, o_gets, o_cpi, o_cpo, o_mmax, o_mmin, o_lmin, o_iret, o_zret, o_lret, o_aret, o_vret]
       (repeat' split)
       all_goals first
         | exact id
         | exact hX _ _ _ _ _ _
         | exact hQ _ _
         | exact fun q => ⟨q.1, hX _ _ _ _ _ _ q.2⟩
         | exact fun q => ⟨q.1, hQ _ _ q.2⟩
         | exact fun q => ⟨fun e => hX _ _ _ _ _ _ (q.1 e), fun e => hX _ _ _ _ _ _ (q.2 e)⟩
         | exact fun q => ⟨q.1, fun a e => hX _ _ _ _ _ _ (q.2 a e)⟩
         | exact fun q => ⟨q.1, fun a b e1 e2 e3 => hX _ _ _ _ _ _ (q.2 a b e1 e2 e3)⟩
         | exact fun q => ⟨q.1, hc _ _ _ _ _ (fun r h => hX _ _ _ _ _ _) q.2⟩
         | exact fun q a e => hX _ _ _ _ _ _ (q a e)
         | exact fun q => ⟨jd_sw_mono hX _ _ _ q.1, fun e => hX _ _ _ _ _ _ (q.2 e)⟩)
theorem jd_B_mono (hc : ∀ j as h (P P' : jd_Q), (∀ r h, P r h → P' r h) → call j as h P → call j as h P') (hQ : ∀ r h, Q r h → Q' r h) (hX : ∀ pc ls st h c s, X pc ls st h c s → X' pc ls st h c s) (j pc : Nat) : jd_B g d call Q X j pc ls st h c s → jd_B g d call Q' X' j pc ls st h c s := by
  unfold jd_B
  cases jd_ins j pc with
  | none => exact id
  | some q => exact jd_St_mono hc hQ hX _ _
theorem jd_WM_mono : ∀ (d j : Nat) (as : List Value) (h : jd_H) (Q Q' : jd_Q), (∀ r h, Q r h → Q' r h) → jd_WM g d j as h Q → jd_WM g d j as h Q'
  | 0, _, _, _, _, _, _ => fun q => q
  | d + 1, j, as, h, Q, Q', hQ => fun q => ⟨q.1, fun X hX => q.2 X (fun pc ls st h c s k => hX pc ls st h c s (jd_B_mono (fun j as h P P' hP => jd_WM_mono d j as h P P' hP) hQ (fun _ _ _ _ _ _ z => z) j pc k))⟩
theorem jd_e (g d j : Nat) (Q : jd_Q) (pc : Nat) (ls : jd_F) (st : List Value) (h : jd_H) (c s : Nat) : jd_w g d j Q pc ls st h c s = jd_B g d (jd_WM g d) Q (jd_w g d j Q) j pc ls st h c s := by
  have hm : ∀ (X X' : jd_C), (∀ pc ls st h c s, X pc ls st h c s → X' pc ls st h c s) → ∀ pc ls st h c s, jd_B g d (jd_WM g d) Q X j pc ls st h c s → jd_B g d (jd_WM g d) Q X' j pc ls st h c s := fun X X' hX pc ls st h c s => jd_B_mono (fun j as h P P' hP => jd_WM_mono d j as h P P' hP) (fun _ _ z => z) hX j pc
  have fold : ∀ pc ls st h c s, jd_B g d (jd_WM g d) Q (jd_w g d j Q) j pc ls st h c s → jd_w g d j Q pc ls st h c s := fun pc ls st h c s k X hX => hX _ _ _ _ _ _ (hm _ _ (fun _ _ _ _ _ _ z => z X hX) _ _ _ _ _ _ k)
  refine propext ⟨fun q => ?_, fold pc ls st h c s⟩
  exact q (fun pc ls st h c s => jd_B g d (jd_WM g d) Q (jd_w g d j Q) j pc ls st h c s) (fun pc ls st h c s k => hm _ _ (fun _ _ _ _ _ _ z => fold _ _ _ _ _ _ z) _ _ _ _ _ _ k)
theorem jd_ex {j pc nx : Nat} {i : Instr} (hi : jd_ins j pc = some (i, nx)) : jd_w g d j Q pc ls st h c s = jd_St g d (jd_WM g d) Q (jd_w g d j Q) i nx ls st h c s := by
  rw [jd_e]
  unfold jd_B
  rw [hi]
/-- the way into a method -/
theorem jd_go {j n mc ms : Nat} {as : List Value} (h1 : jd_mL.getD j 0 = n) (h2 : jd_mc.getD j 0 = mc) (h3 : jd_ms.getD j 0 = ms) (h4 : (jd_la as).length ≤ n) (k : jd_w g d j Q 0 (jd_lo n as) [] h mc ms) : jd_WM g (d + 1) j as h Q := by
  subst h1; subst h2; subst h3
  exact ⟨h4, k⟩
end JM
