/-! THE PICTURE OF THE HEAP: seven functions. zK a: what lies at the address a (0: nothing known; 1 .. 9: an object of the class number zK a - 1 of vwCl; 10 int[], 11 long[], 12 boolean[], 13 Object[], 14 int[][]; 15 ArrayList's own empty array; 16 the script). Fields by number 64 * kind + place. -/
abbrev jd_H : Type := (Nat → Nat) × (Nat → Nat → Int32) × (Nat → Nat → Option Nat) × (Nat → Nat) × (Nat → Nat → Int32) × (Nat → Nat → Int64) × (Nat → Nat → Option Nat)
def zK (h : jd_H) : Nat → Nat := h.1
def zI (h : jd_H) : Nat → Nat → Int32 := h.2.1
def zR (h : jd_H) : Nat → Nat → Option Nat := h.2.2.1
def zL (h : jd_H) : Nat → Nat := h.2.2.2.1
def zA (h : jd_H) : Nat → Nat → Int32 := h.2.2.2.2.1
def zJ (h : jd_H) : Nat → Nat → Int64 := h.2.2.2.2.2.1
def zO (h : jd_H) : Nat → Nat → Option Nat := h.2.2.2.2.2.2
def u2 {α : Type} (f : Nat → Nat → α) (a b : Nat) (x : α) : Nat → Nat → α := fun i j => if i = a ∧ j = b then x else f i j
def u1 {α : Type} (f : Nat → α) (a : Nat) (x : α) : Nat → α := fun i => if i = a then x else f i
/-- row a of f is r -/
def ur {α : Type} (f : Nat → Nat → α) (a : Nat) (r : Nat → α) : Nat → Nat → α := fun i j => if i = a then r j else f i j
/-- column b of f is x -/
def uc {α : Type} (f : Nat → Nat → α) (b : Nat) (x : α) : Nat → Nat → α := fun i j => if j = b then x else f i j
def wI (h : jd_H) (f a : Nat) (x : Int32) : jd_H := (zK h, u2 (zI h) f a x, zR h, zL h, zA h, zJ h, zO h)
def wR (h : jd_H) (f a : Nat) (x : Option Nat) : jd_H := (zK h, zI h, u2 (zR h) f a x, zL h, zA h, zJ h, zO h)
def wA (h : jd_H) (a i : Nat) (x : Int32) : jd_H := (zK h, zI h, zR h, zL h, u2 (zA h) a i x, zJ h, zO h)
def wJ (h : jd_H) (a i : Nat) (x : Int64) : jd_H := (zK h, zI h, zR h, zL h, zA h, u2 (zJ h) a i x, zO h)
def wO (h : jd_H) (a i : Nat) (x : Option Nat) : jd_H := (zK h, zI h, zR h, zL h, zA h, zJ h, u2 (zO h) a i x)
def wAr (h : jd_H) (a : Nat) (r : Nat → Int32) : jd_H := (zK h, zI h, zR h, zL h, ur (zA h) a r, zJ h, zO h)
def wOr (h : jd_H) (a : Nat) (r : Nat → Option Nat) : jd_H := (zK h, zI h, zR h, zL h, zA h, zJ h, ur (zO h) a r)
/-- a new object of kind k at a: all its fields 0 or null -/
def wN (h : jd_H) (a k : Nat) : jd_H := (u1 (zK h) a k, uc (zI h) a 0, uc (zR h) a none, zL h, zA h, zJ h, zO h)
/-- a new array of kind k and length n at a -/
def wY (h : jd_H) (a k n : Nat) : jd_H := (u1 (zK h) a k, zI h, zR h, u1 (zL h) a n, ur (zA h) a (fun _ => 0), ur (zJ h) a (fun _ => 0), ur (zO h) a (fun _ => none))
/-- new int[n][m]: the outer array at q, its rows at r 0 .. r (n - 1) -/
def wM (h : jd_H) (q : Nat) (r : Nat → Nat) (n m : Nat) : jd_H :=
  (fun a => if a = q then 14 else if a ∈ (List.range n).map r then 10 else zK h a, zI h, zR h, fun a => if a = q then n else if a ∈ (List.range n).map r then m else zL h a,
   fun a j => if a ∈ (List.range n).map r then 0 else zA h a j, zJ h, ur (zO h) q (fun i => if i < n then some (r i) else none))
/-! ONE INSTRUCTION, as what must hold for what comes behind it. K: what is to hold behind it. -/
abbrev jd_F : Type := List (Option Value)
abbrev jd_K : Type := jd_F → List Value → jd_H → Nat → Nat → Prop
abbrev jd_C : Type := Nat → jd_K
abbrev jd_Q : Type := Option Value → jd_H → Prop
/-- the local ahead of place n holds no long -/
def jd_nl (ls : jd_F) : Nat → Prop
  | 0 => True
  | n + 1 => match ls[n]? with
    | some (some (.long _)) => False
    | some (some (.double _)) => False
    | _ => True
def o_iload (n : Nat) (K : jd_K) : jd_K := fun ls st h c s => match ls[n]? with
  | some (some (.int x)) => K ls (.int x :: st) h c s
  | _ => False
def o_lload (n : Nat) (K : jd_K) : jd_K := fun ls st h c s => match ls[n]? with
  | some (some (.long x)) => K ls (.long x :: st) h c s
  | _ => False
def o_aload (n : Nat) (K : jd_K) : jd_K := fun ls st h c s => match ls[n]? with
  | some (some (.ref x)) => K ls (.ref x :: st) h c s
  | some (some .null) => K ls (.null :: st) h c s
  | _ => False
def o_istore (n : Nat) (K : jd_K) : jd_K := fun ls st h c s => match st with
  | .int x :: st => (n < ls.length ∧ jd_nl ls n) ∧ K (ls.set n (some (.int x))) st h c s
  | _ => False
def o_lstore (n : Nat) (K : jd_K) : jd_K := fun ls st h c s => match st with
  | .long x :: st => (n + 1 < ls.length ∧ jd_nl ls n) ∧ K ((ls.set n (some (.long x))).set (n + 1) none) st h c s
  | _ => False
def o_astore (n : Nat) (K : jd_K) : jd_K := fun ls st h c s => match st with
  | .ref x :: st => (n < ls.length ∧ jd_nl ls n) ∧ K (ls.set n (some (.ref x))) st h c s
  | .null :: st => (n < ls.length ∧ jd_nl ls n) ∧ K (ls.set n (some .null)) st h c s
  | _ => False
def o_iinc (n : Nat) (k : Int) (K : jd_K) : jd_K := fun ls st h c s => match ls[n]? with
  | some (some (.int x)) => (n < ls.length ∧ jd_nl ls n) ∧ K (ls.set n (some (.int (x + Int32.ofInt k)))) st h c s
  | _ => False
def o_ipush (k : Int) (K : jd_K) : jd_K := fun ls st h c s => K ls (.int (Int32.ofInt k) :: st) h c s
def o_lpush (k : Int) (K : jd_K) : jd_K := fun ls st h c s => K ls (.long (Int64.ofInt k) :: st) h c s
def o_null (K : jd_K) : jd_K := fun ls st h c s => K ls (.null :: st) h c s
def o_ibin (f : Int32 → Int32 → Int32) (K : jd_K) : jd_K := fun ls st h c s => match st with
  | .int y :: .int x :: st => K ls (.int (f x y) :: st) h c s
  | _ => False
def o_ineg (K : jd_K) : jd_K := fun ls st h c s => match st with
  | .int x :: st => K ls (.int (-x) :: st) h c s
  | _ => False
def o_lbin (f : Int64 → Int64 → Int64) (K : jd_K) : jd_K := fun ls st h c s => match st with
  | .long y :: .long x :: st => K ls (.long (f x y) :: st) h c s
  | _ => False
def o_ldv (f : Int64 → Int64 → Int64) (K : jd_K) : jd_K := fun ls st h c s => match st with
  | .long y :: .long x :: st => ¬ y = 0 ∧ K ls (.long (f x y) :: st) h c s
  | _ => False
def o_lneg (K : jd_K) : jd_K := fun ls st h c s => match st with
  | .long x :: st => K ls (.long (-x) :: st) h c s
  | _ => False
def o_lcmp (K : jd_K) : jd_K := fun ls st h c s => match st with
  | .long y :: .long x :: st => K ls (.int (lg_cmp x y) :: st) h c s
  | _ => False
def o_i2l (K : jd_K) : jd_K := fun ls st h c s => match st with
  | .int x :: st => K ls (.long x.toInt64 :: st) h c s
  | _ => False
def o_l2i (K : jd_K) : jd_K := fun ls st h c s => match st with
  | .long x :: st => K ls (.int x.toInt32 :: st) h c s
  | _ => False
def o_dup (K : jd_K) : jd_K := fun ls st h c s => match st with
  | v :: st => v.category = 1 ∧ K ls (v :: v :: st) h c s
  | _ => False
def o_pop (K : jd_K) : jd_K := fun ls st h c s => match st with
  | v :: st => v.category = 1 ∧ K ls st h c s
  | _ => False
def o_dupx (K : jd_K) : jd_K := fun ls st h c s => match st with
  | v :: w :: st => (v.category = 1 ∧ w.category = 1) ∧ K ls (v :: w :: v :: st) h c s
  | _ => False
def o_dup2 (K : jd_K) : jd_K := fun ls st h c s => match st with
  | v :: w :: st => (v.category = 1 ∧ w.category = 1) ∧ K ls (v :: w :: v :: w :: st) h c s
  | _ => False
def o_ic (P : Int32 → Int32 → Prop) (Kt Kf : jd_K) : jd_K := fun ls st h c s => match st with
  | .int y :: .int x :: st => (P x y → Kt ls st h c s) ∧ (¬ P x y → Kf ls st h c s)
  | _ => False
def o_iz (P : Int32 → Prop) (Kt Kf : jd_K) : jd_K := fun ls st h c s => match st with
  | .int x :: st => (P x → Kt ls st h c s) ∧ (¬ P x → Kf ls st h c s)
  | _ => False
def o_nul (Kt Kf : jd_K) : jd_K := fun ls st h c s => match st with
  | .null :: st => Kt ls st h c s
  | .ref _ :: st => Kf ls st h c s
  | _ => False
def o_acmp (Kt Kf : jd_K) : jd_K := fun ls st h c s => match st with
  | .ref y :: .ref x :: st => (x = y → Kt ls st h c s) ∧ (¬ x = y → Kf ls st h c s)
  | _ => False
/-- the roads of a tableswitch: by the number's distance from its lowest -/
def jd_sw (x lo : Int) (X : jd_C) (ls : jd_F) (st : List Value) (h : jd_H) (c s : Nat) : List Nat → Prop
  | [] => True
  | t :: ts => (x = lo → X t ls st h c s) ∧ jd_sw x (lo + 1) X ls st h c s ts
def o_tsw (lo : Int) (ts : List Nat) (dflt : Nat) (X : jd_C) : jd_K := fun ls st h c s => match st with
  | .int x :: st => jd_sw x.toInt lo X ls st h c s ts ∧ (x.toInt < lo ∨ lo + ts.length ≤ x.toInt → X dflt ls st h c s)
  | _ => False
def o_gI (f : Nat) (K : jd_K) : jd_K := fun ls st h c s => match st with
  | .ref a :: st => zK h a = f / 64 ∧ K ls (.int (zI h f a) :: st) h c s
  | _ => False
def o_gR (f : Nat) (K : jd_K) : jd_K := fun ls st h c s => match st with
  | .ref a :: st => zK h a = f / 64 ∧ K ls (va_rf (zR h f a) :: st) h c s
  | _ => False
def o_pI (f : Nat) (K : jd_K) : jd_K := fun ls st h c s => match st with
  | .int x :: .ref a :: st => zK h a = f / 64 ∧ K ls st (wI h f a x) c s
  | _ => False
def o_pZ (f : Nat) (K : jd_K) : jd_K := fun ls st h c s => match st with
  | .int x :: .ref a :: st => (zK h a = f / 64 ∧ (x = 0 ∨ x = 1)) ∧ K ls st (wI h f a x) c s
  | _ => False
def o_pR (f : Nat) (K : jd_K) : jd_K := fun ls st h c s => match st with
  | .ref x :: .ref a :: st => zK h a = f / 64 ∧ K ls st (wR h f a (some x)) c s
  | .null :: .ref a :: st => zK h a = f / 64 ∧ K ls st (wR h f a none) c s
  | _ => False
def o_iald (K : jd_K) : jd_K := fun ls st h c s => match st with
  | .int i :: .ref a :: st => ((zK h a = 10 ∨ zK h a = 16) ∧ vp_in i (zL h a)) ∧ K ls (.int (zA h a i.toNatClampNeg) :: st) h c s
  | _ => False
def o_bald (K : jd_K) : jd_K := fun ls st h c s => match st with
  | .int i :: .ref a :: st => (zK h a = 12 ∧ vp_in i (zL h a)) ∧ K ls (.int (zA h a i.toNatClampNeg) :: st) h c s
  | _ => False
def o_lald (K : jd_K) : jd_K := fun ls st h c s => match st with
  | .int i :: .ref a :: st => (zK h a = 11 ∧ vp_in i (zL h a)) ∧ K ls (.long (zJ h a i.toNatClampNeg) :: st) h c s
  | _ => False
def o_aald (K : jd_K) : jd_K := fun ls st h c s => match st with
  | .int i :: .ref a :: st => ((zK h a = 13 ∨ zK h a = 14) ∧ vp_in i (zL h a)) ∧ K ls (va_rf (zO h a i.toNatClampNeg) :: st) h c s
  | _ => False
def o_iast (K : jd_K) : jd_K := fun ls st h c s => match st with
  | .int x :: .int i :: .ref a :: st => (zK h a = 10 ∧ vp_in i (zL h a)) ∧ K ls st (wA h a i.toNatClampNeg x) c s
  | _ => False
def o_bast (K : jd_K) : jd_K := fun ls st h c s => match st with
  | .int x :: .int i :: .ref a :: st => (zK h a = 12 ∧ vp_in i (zL h a) ∧ (x = 0 ∨ x = 1)) ∧ K ls st (wA h a i.toNatClampNeg x) c s
  | _ => False
def o_last (K : jd_K) : jd_K := fun ls st h c s => match st with
  | .long x :: .int i :: .ref a :: st => (zK h a = 11 ∧ vp_in i (zL h a)) ∧ K ls st (wJ h a i.toNatClampNeg x) c s
  | _ => False
/-- into an Object[]: an object of ours, or null; into an int[][]: an int[] -/
def o_aast (K : jd_K) : jd_K := fun ls st h c s => match st with
  | .ref x :: .int i :: .ref a :: st => (((zK h a = 13 ∧ 1 ≤ zK h x ∧ zK h x ≤ 9) ∨ (zK h a = 14 ∧ zK h x = 10)) ∧ vp_in i (zL h a)) ∧ K ls st (wO h a i.toNatClampNeg (some x)) c s
  | .null :: .int i :: .ref a :: st => (zK h a = 13 ∧ vp_in i (zL h a)) ∧ K ls st (wO h a i.toNatClampNeg none) c s
  | _ => False
def o_alen (K : jd_K) : jd_K := fun ls st h c s => match st with
  | .ref a :: st => (10 ≤ zK h a ∧ zK h a ≤ 16) ∧ K ls (.int (nI (zL h a)) :: st) h c s
  | _ => False
/-- a new array of the kind k -/
def o_newa (k : Nat) (K : jd_K) : jd_K := fun ls st h c s => match st with
  | .int n :: st => (¬ n < 0 ∧ 1 ≤ c ∧ n.toNatClampNeg ≤ s ∧ n.toNatClampNeg ≤ 60000000) ∧ ∀ q : Nat, zK h q = 0 → K ls (.ref q :: st) (wY h q k n.toNatClampNeg) (c - 1) (s - n.toNatClampNeg)
  | _ => False
/-- a new object of the kind k with N fields -/
def o_new (k N : Nat) (K : jd_K) : jd_K := fun ls st h c s => (1 ≤ c ∧ N ≤ s) ∧ ∀ q : Nat, zK h q = 0 → K ls (.ref q :: st) (wN h q k) (c - 1) (s - N)
def o_mna (K : jd_K) : jd_K := fun ls st h c s => match st with
  | .int m :: .int n :: st => (¬ n < 0 ∧ ¬ m < 0 ∧ 1 + n.toNatClampNeg ≤ c ∧ n.toNatClampNeg + n.toNatClampNeg * m.toNatClampNeg ≤ s ∧ n.toNatClampNeg ≤ 1000 ∧ m.toNatClampNeg ≤ 1000) ∧
      ∀ (q : Nat) (r : Nat → Nat), zK h q = 0 → (∀ i, i < n.toNatClampNeg → zK h (r i) = 0 ∧ r i ≠ q) → (∀ i j, i < n.toNatClampNeg → j < n.toNatClampNeg → r i = r j → i = j) →
        K ls (.ref q :: st) (wM h q r n.toNatClampNeg m.toNatClampNeg) (c - (1 + n.toNatClampNeg)) (s - (n.toNatClampNeg + n.toNatClampNeg * m.toNatClampNeg))
  | _ => False
/-- checkcast of null, or of an object of the kind k -/
def o_cast (k : Nat) (K : jd_K) : jd_K := fun ls st h c s => match st with
  | .null :: st => K ls (.null :: st) h c s
  | .ref a :: st => zK h a = k ∧ K ls (.ref a :: st) h c s
  | _ => False
/-- n values from the stack, the deepest first -/
def jd_pop : Nat → List Value → List Value → Option (List Value × List Value)
  | 0, st, acc => some (acc, st)
  | _ + 1, [], _ => none
  | n + 1, v :: st, acc => jd_pop n st (v :: acc)
abbrev jd_M : Type := Nat → List Value → jd_H → jd_Q → Prop
/-- a call of the static method j, with n arguments, that makes at most mc cells of ms slots -/
def o_calls (call : jd_M) (j n mc ms : Nat) (K : jd_K) : jd_K := fun ls st h c s => match jd_pop n st [] with
  | some (as, st) => (mc ≤ c ∧ ms ≤ s ∧ st.length ≤ 4) ∧ call j as h (fun r h => K ls (r.toList ++ st) h (c - mc) (s - ms))
  | _ => False
/-- a call on an object of the kind k -/
def o_callv (call : jd_M) (j k n mc ms : Nat) (K : jd_K) : jd_K := fun ls st h c s => match jd_pop n st [] with
  | some (.ref b :: as, st) => (zK h b = k ∧ mc ≤ c ∧ ms ≤ s ∧ st.length ≤ 4) ∧ call j (.ref b :: as) h (fun r h => K ls (r.toList ++ st) h (c - mc) (s - ms))
  | _ => False
/-- a constructor's call -/
def o_calli (call : jd_M) (j n mc ms : Nat) (K : jd_K) : jd_K := fun ls st h c s => match jd_pop n st [] with
  | some (.ref b :: as, st) => (mc ≤ c ∧ ms ≤ s ∧ st.length ≤ 4) ∧ call j (.ref b :: as) h (fun r h => K ls (r.toList ++ st) h (c - mc) (s - ms))
  | _ => False
def o_oinit (d : Nat) (K : jd_K) : jd_K := fun ls st h c s => match st with
  | .ref _ :: st => (0 < d ∧ st.length ≤ 4) ∧ K ls st h c s
  | _ => False
def o_getC (d mi : Nat) (K : jd_K) : jd_K := fun ls st h c s => match st with
  | .ref a :: st => (0 < d ∧ st.length ≤ 4 ∧ zK h a = 13) ∧ K ls (.ref mi :: st) h c s
  | _ => False
def o_refp (a : Nat) (K : jd_K) : jd_K := fun ls st h c s => K ls (.ref a :: st) h c s
/-- ArrayList's own empty array: the one of kind 15 -/
def o_gets (K : jd_K) : jd_K := fun ls st h c s => ∀ q : Nat, (∀ q', zK h q' = 15 ↔ q' = q) → K ls (.ref q :: st) h c s
/-- System.arraycopy of ints -/
def o_cpi (d : Nat) (K : jd_K) : jd_K := fun ls st h c s => match st with
  | .int n :: .int dp :: .ref b :: .int sp :: .ref a :: st => (0 < d ∧ st.length ≤ 4 ∧ zK h a = 10 ∧ zK h b = 10 ∧ ¬ sp < 0 ∧ ¬ dp < 0 ∧ ¬ n < 0 ∧ sp.toNatClampNeg + n.toNatClampNeg ≤ zL h a ∧ dp.toNatClampNeg + n.toNatClampNeg ≤ zL h b) ∧
      K ls st (wAr h b (va_cpy (zA h a) (zA h b) sp.toNatClampNeg dp.toNatClampNeg n.toNatClampNeg)) c s
  | _ => False
/-- System.arraycopy of objects of ours between Object[]s -/
def o_cpo (d : Nat) (K : jd_K) : jd_K := fun ls st h c s => match st with
  | .int n :: .int dp :: .ref b :: .int sp :: .ref a :: st => (0 < d ∧ st.length ≤ 4 ∧ zK h a = 13 ∧ zK h b = 13 ∧ ¬ sp < 0 ∧ ¬ dp < 0 ∧ ¬ n < 0 ∧ sp.toNatClampNeg + n.toNatClampNeg ≤ zL h a ∧ dp.toNatClampNeg + n.toNatClampNeg ≤ zL h b ∧
        ∀ i, i < n.toNatClampNeg → ∀ y, zO h a (sp.toNatClampNeg + i) = some y → 1 ≤ zK h y ∧ zK h y ≤ 9) ∧
      K ls st (wOr h b (va_cpy (zO h a) (zO h b) sp.toNatClampNeg dp.toNatClampNeg n.toNatClampNeg)) c s
  | _ => False
/-- Math.max, Math.min -/
def o_mmax (d : Nat) (K : jd_K) : jd_K := fun ls st h c s => match st with
  | .int y :: .int x :: st => (0 < d ∧ st.length ≤ 4) ∧ K ls (.int (if x < y then y else x) :: st) h c s
  | _ => False
def o_mmin (d : Nat) (K : jd_K) : jd_K := fun ls st h c s => match st with
  | .int y :: .int x :: st => (0 < d ∧ st.length ≤ 4) ∧ K ls (.int (if y < x then y else x) :: st) h c s
  | _ => False
def o_lmin (d : Nat) (K : jd_K) : jd_K := fun ls st h c s => match st with
  | .long y :: .long x :: st => (0 < d ∧ st.length ≤ 4) ∧ K ls (.long (if y < x then y else x) :: st) h c s
  | _ => False
def o_iret (Q : jd_Q) : jd_K := fun _ st h _ _ => match st with
  | [.int x] => Q (some (.int x)) h
  | _ => False
def o_zret (Q : jd_Q) : jd_K := fun _ st h _ _ => match st with
  | [.int x] => (x = 0 ∨ x = 1) ∧ Q (some (.int x)) h
  | _ => False
def o_lret (Q : jd_Q) : jd_K := fun _ st h _ _ => match st with
  | [.long x] => Q (some (.long x)) h
  | _ => False
def o_aret (Q : jd_Q) : jd_K := fun _ st h _ _ => match st with
  | [.ref x] => Q (some (.ref x)) h
  | [.null] => Q (some .null) h
  | _ => False
def o_vret (Q : jd_Q) : jd_K := fun _ st h _ _ => match st with
  | [] => Q none h
  | _ => False
