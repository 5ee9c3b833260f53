/-! numbers as the instructions push them; reading what was written -/
theorem ji_m2 : Int32.ofInt (-2) = (-2) := rfl
theorem ji_m1 : Int32.ofInt (-1) = (-1) := rfl
theorem ji_0 : Int32.ofInt 0 = 0 := rfl
theorem ji_1 : Int32.ofInt 1 = 1 := rfl
theorem ji_2 : Int32.ofInt 2 = 2 := rfl
theorem ji_3 : Int32.ofInt 3 = 3 := rfl
theorem ji_4 : Int32.ofInt 4 = 4 := rfl
theorem ji_5 : Int32.ofInt 5 = 5 := rfl
theorem ji_6 : Int32.ofInt 6 = 6 := rfl
theorem ji_7 : Int32.ofInt 7 = 7 := rfl
theorem ji_8 : Int32.ofInt 8 = 8 := rfl
theorem ji_10 : Int32.ofInt 10 = 10 := rfl
theorem ji_12 : Int32.ofInt 12 = 12 := rfl
theorem ji_29 : Int32.ofInt 29 = 29 := rfl
theorem ji_30 : Int32.ofInt 30 = 30 := rfl
theorem ji_31 : Int32.ofInt 31 = 31 := rfl
theorem ji_40 : Int32.ofInt 40 = 40 := rfl
theorem ji_60 : Int32.ofInt 60 = 60 := rfl
theorem ji_70 : Int32.ofInt 70 = 70 := rfl
theorem ji_80 : Int32.ofInt 80 = 80 := rfl
theorem ji_81 : Int32.ofInt 81 = 81 := rfl
theorem ji_360 : Int32.ofInt 360 = 360 := rfl
theorem ji_512 : Int32.ofInt 512 = 512 := rfl
theorem ji_972 : Int32.ofInt 972 = 972 := rfl
theorem ji_1000000 : Int32.ofInt 1000000 = 1000000 := rfl
theorem ji_2147483639 : Int32.ofInt 2147483639 = 2147483639 := rfl
theorem jl_m1 : Int64.ofInt (-1) = (-1) := rfl
theorem jl_0 : Int64.ofInt 0 = 0 := rfl
theorem jl_1 : Int64.ofInt 1 = 1 := rfl
theorem rw_KI (h : jd_H) (f a : Nat) (x : Int32) : zK (wI h f a x) = zK h := rfl
theorem rw_II (h : jd_H) (f a : Nat) (x : Int32) (p q : Nat) : zI (wI h f a x) p q = if p = f ∧ q = a then x else zI h p q := rfl
theorem rw_RI (h : jd_H) (f a : Nat) (x : Int32) : zR (wI h f a x) = zR h := rfl
theorem rw_LI (h : jd_H) (f a : Nat) (x : Int32) : zL (wI h f a x) = zL h := rfl
theorem rw_AI (h : jd_H) (f a : Nat) (x : Int32) : zA (wI h f a x) = zA h := rfl
theorem rw_JI (h : jd_H) (f a : Nat) (x : Int32) : zJ (wI h f a x) = zJ h := rfl
theorem rw_OI (h : jd_H) (f a : Nat) (x : Int32) : zO (wI h f a x) = zO h := rfl
theorem rw_KR (h : jd_H) (f a : Nat) (x : Option Nat) : zK (wR h f a x) = zK h := rfl
theorem rw_IR (h : jd_H) (f a : Nat) (x : Option Nat) : zI (wR h f a x) = zI h := rfl
theorem rw_RR (h : jd_H) (f a : Nat) (x : Option Nat) (p q : Nat) : zR (wR h f a x) p q = if p = f ∧ q = a then x else zR h p q := rfl
theorem rw_LR (h : jd_H) (f a : Nat) (x : Option Nat) : zL (wR h f a x) = zL h := rfl
theorem rw_AR (h : jd_H) (f a : Nat) (x : Option Nat) : zA (wR h f a x) = zA h := rfl
theorem rw_JR (h : jd_H) (f a : Nat) (x : Option Nat) : zJ (wR h f a x) = zJ h := rfl
theorem rw_OR (h : jd_H) (f a : Nat) (x : Option Nat) : zO (wR h f a x) = zO h := rfl
theorem rw_KA (h : jd_H) (a i : Nat) (x : Int32) : zK (wA h a i x) = zK h := rfl
theorem rw_IA (h : jd_H) (a i : Nat) (x : Int32) : zI (wA h a i x) = zI h := rfl
theorem rw_RA (h : jd_H) (a i : Nat) (x : Int32) : zR (wA h a i x) = zR h := rfl
theorem rw_LA (h : jd_H) (a i : Nat) (x : Int32) : zL (wA h a i x) = zL h := rfl
theorem rw_AA (h : jd_H) (a i : Nat) (x : Int32) (p q : Nat) : zA (wA h a i x) p q = if p = a ∧ q = i then x else zA h p q := rfl
theorem rw_JA (h : jd_H) (a i : Nat) (x : Int32) : zJ (wA h a i x) = zJ h := rfl
theorem rw_OA (h : jd_H) (a i : Nat) (x : Int32) : zO (wA h a i x) = zO h := rfl
theorem rw_KJ (h : jd_H) (a i : Nat) (x : Int64) : zK (wJ h a i x) = zK h := rfl
theorem rw_IJ (h : jd_H) (a i : Nat) (x : Int64) : zI (wJ h a i x) = zI h := rfl
theorem rw_RJ (h : jd_H) (a i : Nat) (x : Int64) : zR (wJ h a i x) = zR h := rfl
theorem rw_LJ (h : jd_H) (a i : Nat) (x : Int64) : zL (wJ h a i x) = zL h := rfl
theorem rw_AJ (h : jd_H) (a i : Nat) (x : Int64) : zA (wJ h a i x) = zA h := rfl
theorem rw_JJ (h : jd_H) (a i : Nat) (x : Int64) (p q : Nat) : zJ (wJ h a i x) p q = if p = a ∧ q = i then x else zJ h p q := rfl
theorem rw_OJ (h : jd_H) (a i : Nat) (x : Int64) : zO (wJ h a i x) = zO h := rfl
theorem rw_KO (h : jd_H) (a i : Nat) (x : Option Nat) : zK (wO h a i x) = zK h := rfl
theorem rw_IO (h : jd_H) (a i : Nat) (x : Option Nat) : zI (wO h a i x) = zI h := rfl
theorem rw_RO (h : jd_H) (a i : Nat) (x : Option Nat) : zR (wO h a i x) = zR h := rfl
theorem rw_LO (h : jd_H) (a i : Nat) (x : Option Nat) : zL (wO h a i x) = zL h := rfl
theorem rw_AO (h : jd_H) (a i : Nat) (x : Option Nat) : zA (wO h a i x) = zA h := rfl
theorem rw_JO (h : jd_H) (a i : Nat) (x : Option Nat) : zJ (wO h a i x) = zJ h := rfl
theorem rw_OO (h : jd_H) (a i : Nat) (x : Option Nat) (p q : Nat) : zO (wO h a i x) p q = if p = a ∧ q = i then x else zO h p q := rfl
theorem rw_KAr (h : jd_H) (a : Nat) (r : Nat → Int32) : zK (wAr h a r) = zK h := rfl
theorem rw_IAr (h : jd_H) (a : Nat) (r : Nat → Int32) : zI (wAr h a r) = zI h := rfl
theorem rw_RAr (h : jd_H) (a : Nat) (r : Nat → Int32) : zR (wAr h a r) = zR h := rfl
theorem rw_LAr (h : jd_H) (a : Nat) (r : Nat → Int32) : zL (wAr h a r) = zL h := rfl
theorem rw_AAr (h : jd_H) (a : Nat) (r : Nat → Int32) (p q : Nat) : zA (wAr h a r) p q = if p = a then r q else zA h p q := rfl
theorem rw_JAr (h : jd_H) (a : Nat) (r : Nat → Int32) : zJ (wAr h a r) = zJ h := rfl
theorem rw_OAr (h : jd_H) (a : Nat) (r : Nat → Int32) : zO (wAr h a r) = zO h := rfl
theorem rw_KOr (h : jd_H) (a : Nat) (r : Nat → Option Nat) : zK (wOr h a r) = zK h := rfl
theorem rw_IOr (h : jd_H) (a : Nat) (r : Nat → Option Nat) : zI (wOr h a r) = zI h := rfl
theorem rw_ROr (h : jd_H) (a : Nat) (r : Nat → Option Nat) : zR (wOr h a r) = zR h := rfl
theorem rw_LOr (h : jd_H) (a : Nat) (r : Nat → Option Nat) : zL (wOr h a r) = zL h := rfl
theorem rw_AOr (h : jd_H) (a : Nat) (r : Nat → Option Nat) : zA (wOr h a r) = zA h := rfl
theorem rw_JOr (h : jd_H) (a : Nat) (r : Nat → Option Nat) : zJ (wOr h a r) = zJ h := rfl
theorem rw_OOr (h : jd_H) (a : Nat) (r : Nat → Option Nat) (p q : Nat) : zO (wOr h a r) p q = if p = a then r q else zO h p q := rfl
theorem rw_KN (h : jd_H) (a k : Nat) (p : Nat) : zK (wN h a k) p = if p = a then k else zK h p := rfl
theorem rw_IN (h : jd_H) (a k : Nat) (p q : Nat) : zI (wN h a k) p q = if q = a then 0 else zI h p q := rfl
theorem rw_RN (h : jd_H) (a k : Nat) (p q : Nat) : zR (wN h a k) p q = if q = a then none else zR h p q := rfl
theorem rw_LN (h : jd_H) (a k : Nat) : zL (wN h a k) = zL h := rfl
theorem rw_AN (h : jd_H) (a k : Nat) : zA (wN h a k) = zA h := rfl
theorem rw_JN (h : jd_H) (a k : Nat) : zJ (wN h a k) = zJ h := rfl
theorem rw_ON (h : jd_H) (a k : Nat) : zO (wN h a k) = zO h := rfl
theorem rw_KY (h : jd_H) (a k n : Nat) (p : Nat) : zK (wY h a k n) p = if p = a then k else zK h p := rfl
theorem rw_IY (h : jd_H) (a k n : Nat) : zI (wY h a k n) = zI h := rfl
theorem rw_RY (h : jd_H) (a k n : Nat) : zR (wY h a k n) = zR h := rfl
theorem rw_LY (h : jd_H) (a k n : Nat) (p : Nat) : zL (wY h a k n) p = if p = a then n else zL h p := rfl
theorem rw_AY (h : jd_H) (a k n : Nat) (p q : Nat) : zA (wY h a k n) p q = if p = a then 0 else zA h p q := rfl
theorem rw_JY (h : jd_H) (a k n : Nat) (p q : Nat) : zJ (wY h a k n) p q = if p = a then 0 else zJ h p q := rfl
theorem rw_OY (h : jd_H) (a k n : Nat) (p q : Nat) : zO (wY h a k n) p q = if p = a then none else zO h p q := rfl
