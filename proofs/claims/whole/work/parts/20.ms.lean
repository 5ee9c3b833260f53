/-! THE REFERENCE'S OBJECT m: its array number k lies at ma k -/
def MS (h : jd_H) (m : Nat) (ma : Nat → Nat) : Prop := zK h m = 9 ∧ (∀ i j, ma i = ma j → i = j) ∧ (zR h 576 m = some (ma 0) ∧ zK h (ma 0) = 14 ∧ zL h (ma 0) = 6) ∧ (zR h 577 m = some (ma 1) ∧ zK h (ma 1) = 10 ∧ zL h (ma 1) = 6) ∧ (zR h 578 m = some (ma 2) ∧ zK h (ma 2) = 10 ∧ zL h (ma 2) = 6) ∧ (zR h 579 m = some (ma 3) ∧ zK h (ma 3) = 10 ∧ zL h (ma 3) = 6) ∧ (zR h 580 m = some (ma 4) ∧ zK h (ma 4) = 10 ∧ zL h (ma 4) = 6) ∧ (zR h 590 m = some (ma 14) ∧ zK h (ma 14) = 10 ∧ zL h (ma 14) = 81) ∧ (zR h 591 m = some (ma 15) ∧ zK h (ma 15) = 10 ∧ zL h (ma 15) = 81) ∧ (zR h 592 m = some (ma 16) ∧ zK h (ma 16) = 10 ∧ zL h (ma 16) = 81) ∧ (zR h 593 m = some (ma 17) ∧ zK h (ma 17) = 10 ∧ zL h (ma 17) = 81) ∧ (zR h 594 m = some (ma 18) ∧ zK h (ma 18) = 10 ∧ zL h (ma 18) = 81) ∧ (zR h 595 m = some (ma 19) ∧ zK h (ma 19) = 10 ∧ zL h (ma 19) = 81) ∧ (zR h 596 m = some (ma 20) ∧ zK h (ma 20) = 10 ∧ zL h (ma 20) = 81) ∧ (zR h 597 m = some (ma 21) ∧ zK h (ma 21) = 10 ∧ zL h (ma 21) = 81) ∧ (zR h 598 m = some (ma 22) ∧ zK h (ma 22) = 12 ∧ zL h (ma 22) = 81) ∧ (zR h 599 m = some (ma 23) ∧ zK h (ma 23) = 12 ∧ zL h (ma 23) = 972) ∧ (zR h 600 m = some (ma 24) ∧ zK h (ma 24) = 10 ∧ zL h (ma 24) = 972) ∧ (zR h 601 m = some (ma 25) ∧ zK h (ma 25) = 10 ∧ zL h (ma 25) = 972) ∧ (zR h 602 m = some (ma 26) ∧ zK h (ma 26) = 10 ∧ zL h (ma 26) = 360) ∧ (zR h 603 m = some (ma 27) ∧ zK h (ma 27) = 11 ∧ zL h (ma 27) = 972) ∧ (zR h 604 m = some (ma 28) ∧ zK h (ma 28) = 11 ∧ zL h (ma 28) = 972) ∧ (zR h 605 m = some (ma 29) ∧ zK h (ma 29) = 11 ∧ zL h (ma 29) = 81) ∧ (zR h 606 m = some (ma 30) ∧ zK h (ma 30) = 11 ∧ zL h (ma 30) = 360) ∧ (zR h 607 m = some (ma 31) ∧ zK h (ma 31) = 11 ∧ zL h (ma 31) = 12) ∧ (zR h 608 m = some (ma 32) ∧ zK h (ma 32) = 11 ∧ zL h (ma 32) = 12) ∧ (zR h 609 m = some (ma 33) ∧ zK h (ma 33) = 11 ∧ zL h (ma 33) = 12) ∧ (zR h 610 m = some (ma 34) ∧ zK h (ma 34) = 11 ∧ zL h (ma 34) = 81) ∧ (zR h 611 m = some (ma 35) ∧ zK h (ma 35) = 11 ∧ zL h (ma 35) = 30) ∧ (zR h 612 m = some (ma 36) ∧ zK h (ma 36) = 10 ∧ zL h (ma 36) = 60) ∧ (zR h 613 m = some (ma 37) ∧ zK h (ma 37) = 10 ∧ zL h (ma 37) = 60) ∧ (zR h 614 m = some (ma 38) ∧ zK h (ma 38) = 10 ∧ zL h (ma 38) = 60) ∧ (zR h 617 m = some (ma 41) ∧ zK h (ma 41) = 11 ∧ zL h (ma 41) = 360)
section
variable {h : jd_H} {m : Nat} {ma : Nat → Nat}
theorem MS_K (q : MS h m ma) : zK h m = 9 := q.1
theorem MS_inj (q : MS h m ma) (i j : Nat) : (ma i = ma j) = (i = j) := propext ⟨q.2.1 i j, fun e => by rw [e]⟩
theorem MS_R0 (q : MS h m ma) : zR h 576 m = some (ma 0) := q.2.2.1.1
theorem MS_K0 (q : MS h m ma) : zK h (ma 0) = 14 := q.2.2.1.2.1
theorem MS_L0 (q : MS h m ma) : zL h (ma 0) = 6 := q.2.2.1.2.2
theorem MS_R1 (q : MS h m ma) : zR h 577 m = some (ma 1) := q.2.2.2.1.1
theorem MS_K1 (q : MS h m ma) : zK h (ma 1) = 10 := q.2.2.2.1.2.1
theorem MS_L1 (q : MS h m ma) : zL h (ma 1) = 6 := q.2.2.2.1.2.2
theorem MS_R2 (q : MS h m ma) : zR h 578 m = some (ma 2) := q.2.2.2.2.1.1
theorem MS_K2 (q : MS h m ma) : zK h (ma 2) = 10 := q.2.2.2.2.1.2.1
theorem MS_L2 (q : MS h m ma) : zL h (ma 2) = 6 := q.2.2.2.2.1.2.2
theorem MS_R3 (q : MS h m ma) : zR h 579 m = some (ma 3) := q.2.2.2.2.2.1.1
theorem MS_K3 (q : MS h m ma) : zK h (ma 3) = 10 := q.2.2.2.2.2.1.2.1
theorem MS_L3 (q : MS h m ma) : zL h (ma 3) = 6 := q.2.2.2.2.2.1.2.2
theorem MS_R4 (q : MS h m ma) : zR h 580 m = some (ma 4) := q.2.2.2.2.2.2.1.1
theorem MS_K4 (q : MS h m ma) : zK h (ma 4) = 10 := q.2.2.2.2.2.2.1.2.1
theorem MS_L4 (q : MS h m ma) : zL h (ma 4) = 6 := q.2.2.2.2.2.2.1.2.2
theorem MS_R14 (q : MS h m ma) : zR h 590 m = some (ma 14) := q.2.2.2.2.2.2.2.1.1
theorem MS_K14 (q : MS h m ma) : zK h (ma 14) = 10 := q.2.2.2.2.2.2.2.1.2.1
theorem MS_L14 (q : MS h m ma) : zL h (ma 14) = 81 := q.2.2.2.2.2.2.2.1.2.2
theorem MS_R15 (q : MS h m ma) : zR h 591 m = some (ma 15) := q.2.2.2.2.2.2.2.2.1.1
theorem MS_K15 (q : MS h m ma) : zK h (ma 15) = 10 := q.2.2.2.2.2.2.2.2.1.2.1
theorem MS_L15 (q : MS h m ma) : zL h (ma 15) = 81 := q.2.2.2.2.2.2.2.2.1.2.2
theorem MS_R16 (q : MS h m ma) : zR h 592 m = some (ma 16) := q.2.2.2.2.2.2.2.2.2.1.1
theorem MS_K16 (q : MS h m ma) : zK h (ma 16) = 10 := q.2.2.2.2.2.2.2.2.2.1.2.1
theorem MS_L16 (q : MS h m ma) : zL h (ma 16) = 81 := q.2.2.2.2.2.2.2.2.2.1.2.2
theorem MS_R17 (q : MS h m ma) : zR h 593 m = some (ma 17) := q.2.2.2.2.2.2.2.2.2.2.1.1
theorem MS_K17 (q : MS h m ma) : zK h (ma 17) = 10 := q.2.2.2.2.2.2.2.2.2.2.1.2.1
theorem MS_L17 (q : MS h m ma) : zL h (ma 17) = 81 := q.2.2.2.2.2.2.2.2.2.2.1.2.2
theorem MS_R18 (q : MS h m ma) : zR h 594 m = some (ma 18) := q.2.2.2.2.2.2.2.2.2.2.2.1.1
theorem MS_K18 (q : MS h m ma) : zK h (ma 18) = 10 := q.2.2.2.2.2.2.2.2.2.2.2.1.2.1
theorem MS_L18 (q : MS h m ma) : zL h (ma 18) = 81 := q.2.2.2.2.2.2.2.2.2.2.2.1.2.2
theorem MS_R19 (q : MS h m ma) : zR h 595 m = some (ma 19) := q.2.2.2.2.2.2.2.2.2.2.2.2.1.1
theorem MS_K19 (q : MS h m ma) : zK h (ma 19) = 10 := q.2.2.2.2.2.2.2.2.2.2.2.2.1.2.1
theorem MS_L19 (q : MS h m ma) : zL h (ma 19) = 81 := q.2.2.2.2.2.2.2.2.2.2.2.2.1.2.2
theorem MS_R20 (q : MS h m ma) : zR h 596 m = some (ma 20) := q.2.2.2.2.2.2.2.2.2.2.2.2.2.1.1
theorem MS_K20 (q : MS h m ma) : zK h (ma 20) = 10 := q.2.2.2.2.2.2.2.2.2.2.2.2.2.1.2.1
theorem MS_L20 (q : MS h m ma) : zL h (ma 20) = 81 := q.2.2.2.2.2.2.2.2.2.2.2.2.2.1.2.2
theorem MS_R21 (q : MS h m ma) : zR h 597 m = some (ma 21) := q.2.2.2.2.2.2.2.2.2.2.2.2.2.2.1.1
theorem MS_K21 (q : MS h m ma) : zK h (ma 21) = 10 := q.2.2.2.2.2.2.2.2.2.2.2.2.2.2.1.2.1
theorem MS_L21 (q : MS h m ma) : zL h (ma 21) = 81 := q.2.2.2.2.2.2.2.2.2.2.2.2.2.2.1.2.2
theorem MS_R22 (q : MS h m ma) : zR h 598 m = some (ma 22) := q.2.2.2.2.2.2.2.2.2.2.2.2.2.2.2.1.1
theorem MS_K22 (q : MS h m ma) : zK h (ma 22) = 12 := q.2.2.2.2.2.2.2.2.2.2.2.2.2.2.2.1.2.1
theorem MS_L22 (q : MS h m ma) : zL h (ma 22) = 81 := q.2.2.2.2.2.2.2.2.2.2.2.2.2.2.2.1.2.2
theorem MS_R23 (q : MS h m ma) : zR h 599 m = some (ma 23) := q.2.2.2.2.2.2.2.2.2.2.2.2.2.2.2.2.1.1
theorem MS_K23 (q : MS h m ma) : zK h (ma 23) = 12 := q.2.2.2.2.2.2.2.2.2.2.2.2.2.2.2.2.1.2.1
theorem MS_L23 (q : MS h m ma) : zL h (ma 23) = 972 := q.2.2.2.2.2.2.2.2.2.2.2.2.2.2.2.2.1.2.2
theorem MS_R24 (q : MS h m ma) : zR h 600 m = some (ma 24) := q.2.2.2.2.2.2.2.2.2.2.2.2.2.2.2.2.2.1.1
theorem MS_K24 (q : MS h m ma) : zK h (ma 24) = 10 := q.2.2.2.2.2.2.2.2.2.2.2.2.2.2.2.2.2.1.2.1
theorem MS_L24 (q : MS h m ma) : zL h (ma 24) = 972 := q.2.2.2.2.2.2.2.2.2.2.2.2.2.2.2.2.2.1.2.2
theorem MS_R25 (q : MS h m ma) : zR h 601 m = some (ma 25) := q.2.2.2.2.2.2.2.2.2.2.2.2.2.2.2.2.2.2.1.1
theorem MS_K25 (q : MS h m ma) : zK h (ma 25) = 10 := q.2.2.2.2.2.2.2.2.2.2.2.2.2.2.2.2.2.2.1.2.1
theorem MS_L25 (q : MS h m ma) : zL h (ma 25) = 972 := q.2.2.2.2.2.2.2.2.2.2.2.2.2.2.2.2.2.2.1.2.2
theorem MS_R26 (q : MS h m ma) : zR h 602 m = some (ma 26) := q.2.2.2.2.2.2.2.2.2.2.2.2.2.2.2.2.2.2.2.1.1
theorem MS_K26 (q : MS h m ma) : zK h (ma 26) = 10 := q.2.2.2.2.2.2.2.2.2.2.2.2.2.2.2.2.2.2.2.1.2.1
theorem MS_L26 (q : MS h m ma) : zL h (ma 26) = 360 := q.2.2.2.2.2.2.2.2.2.2.2.2.2.2.2.2.2.2.2.1.2.2
theorem MS_R27 (q : MS h m ma) : zR h 603 m = some (ma 27) := q.2.2.2.2.2.2.2.2.2.2.2.2.2.2.2.2.2.2.2.2.1.1
theorem MS_K27 (q : MS h m ma) : zK h (ma 27) = 11 := q.2.2.2.2.2.2.2.2.2.2.2.2.2.2.2.2.2.2.2.2.1.2.1
theorem MS_L27 (q : MS h m ma) : zL h (ma 27) = 972 := q.2.2.2.2.2.2.2.2.2.2.2.2.2.2.2.2.2.2.2.2.1.2.2
theorem MS_R28 (q : MS h m ma) : zR h 604 m = some (ma 28) := q.2.2.2.2.2.2.2.2.2.2.2.2.2.2.2.2.2.2.2.2.2.1.1
theorem MS_K28 (q : MS h m ma) : zK h (ma 28) = 11 := q.2.2.2.2.2.2.2.2.2.2.2.2.2.2.2.2.2.2.2.2.2.1.2.1
theorem MS_L28 (q : MS h m ma) : zL h (ma 28) = 972 := q.2.2.2.2.2.2.2.2.2.2.2.2.2.2.2.2.2.2.2.2.2.1.2.2
theorem MS_R29 (q : MS h m ma) : zR h 605 m = some (ma 29) := q.2.2.2.2.2.2.2.2.2.2.2.2.2.2.2.2.2.2.2.2.2.2.1.1
theorem MS_K29 (q : MS h m ma) : zK h (ma 29) = 11 := q.2.2.2.2.2.2.2.2.2.2.2.2.2.2.2.2.2.2.2.2.2.2.1.2.1
theorem MS_L29 (q : MS h m ma) : zL h (ma 29) = 81 := q.2.2.2.2.2.2.2.2.2.2.2.2.2.2.2.2.2.2.2.2.2.2.1.2.2
theorem MS_R30 (q : MS h m ma) : zR h 606 m = some (ma 30) := q.2.2.2.2.2.2.2.2.2.2.2.2.2.2.2.2.2.2.2.2.2.2.2.1.1
theorem MS_K30 (q : MS h m ma) : zK h (ma 30) = 11 := q.2.2.2.2.2.2.2.2.2.2.2.2.2.2.2.2.2.2.2.2.2.2.2.1.2.1
theorem MS_L30 (q : MS h m ma) : zL h (ma 30) = 360 := q.2.2.2.2.2.2.2.2.2.2.2.2.2.2.2.2.2.2.2.2.2.2.2.1.2.2
theorem MS_R31 (q : MS h m ma) : zR h 607 m = some (ma 31) := q.2.2.2.2.2.2.2.2.2.2.2.2.2.2.2.2.2.2.2.2.2.2.2.2.1.1
theorem MS_K31 (q : MS h m ma) : zK h (ma 31) = 11 := q.2.2.2.2.2.2.2.2.2.2.2.2.2.2.2.2.2.2.2.2.2.2.2.2.1.2.1
theorem MS_L31 (q : MS h m ma) : zL h (ma 31) = 12 := q.2.2.2.2.2.2.2.2.2.2.2.2.2.2.2.2.2.2.2.2.2.2.2.2.1.2.2
theorem MS_R32 (q : MS h m ma) : zR h 608 m = some (ma 32) := q.2.2.2.2.2.2.2.2.2.2.2.2.2.2.2.2.2.2.2.2.2.2.2.2.2.1.1
theorem MS_K32 (q : MS h m ma) : zK h (ma 32) = 11 := q.2.2.2.2.2.2.2.2.2.2.2.2.2.2.2.2.2.2.2.2.2.2.2.2.2.1.2.1
theorem MS_L32 (q : MS h m ma) : zL h (ma 32) = 12 := q.2.2.2.2.2.2.2.2.2.2.2.2.2.2.2.2.2.2.2.2.2.2.2.2.2.1.2.2
theorem MS_R33 (q : MS h m ma) : zR h 609 m = some (ma 33) := q.2.2.2.2.2.2.2.2.2.2.2.2.2.2.2.2.2.2.2.2.2.2.2.2.2.2.1.1
theorem MS_K33 (q : MS h m ma) : zK h (ma 33) = 11 := q.2.2.2.2.2.2.2.2.2.2.2.2.2.2.2.2.2.2.2.2.2.2.2.2.2.2.1.2.1
theorem MS_L33 (q : MS h m ma) : zL h (ma 33) = 12 := q.2.2.2.2.2.2.2.2.2.2.2.2.2.2.2.2.2.2.2.2.2.2.2.2.2.2.1.2.2
theorem MS_R34 (q : MS h m ma) : zR h 610 m = some (ma 34) := q.2.2.2.2.2.2.2.2.2.2.2.2.2.2.2.2.2.2.2.2.2.2.2.2.2.2.2.1.1
theorem MS_K34 (q : MS h m ma) : zK h (ma 34) = 11 := q.2.2.2.2.2.2.2.2.2.2.2.2.2.2.2.2.2.2.2.2.2.2.2.2.2.2.2.1.2.1
theorem MS_L34 (q : MS h m ma) : zL h (ma 34) = 81 := q.2.2.2.2.2.2.2.2.2.2.2.2.2.2.2.2.2.2.2.2.2.2.2.2.2.2.2.1.2.2
theorem MS_R35 (q : MS h m ma) : zR h 611 m = some (ma 35) := q.2.2.2.2.2.2.2.2.2.2.2.2.2.2.2.2.2.2.2.2.2.2.2.2.2.2.2.2.1.1
theorem MS_K35 (q : MS h m ma) : zK h (ma 35) = 11 := q.2.2.2.2.2.2.2.2.2.2.2.2.2.2.2.2.2.2.2.2.2.2.2.2.2.2.2.2.1.2.1
theorem MS_L35 (q : MS h m ma) : zL h (ma 35) = 30 := q.2.2.2.2.2.2.2.2.2.2.2.2.2.2.2.2.2.2.2.2.2.2.2.2.2.2.2.2.1.2.2
theorem MS_R36 (q : MS h m ma) : zR h 612 m = some (ma 36) := q.2.2.2.2.2.2.2.2.2.2.2.2.2.2.2.2.2.2.2.2.2.2.2.2.2.2.2.2.2.1.1
theorem MS_K36 (q : MS h m ma) : zK h (ma 36) = 10 := q.2.2.2.2.2.2.2.2.2.2.2.2.2.2.2.2.2.2.2.2.2.2.2.2.2.2.2.2.2.1.2.1
theorem MS_L36 (q : MS h m ma) : zL h (ma 36) = 60 := q.2.2.2.2.2.2.2.2.2.2.2.2.2.2.2.2.2.2.2.2.2.2.2.2.2.2.2.2.2.1.2.2
theorem MS_R37 (q : MS h m ma) : zR h 613 m = some (ma 37) := q.2.2.2.2.2.2.2.2.2.2.2.2.2.2.2.2.2.2.2.2.2.2.2.2.2.2.2.2.2.2.1.1
theorem MS_K37 (q : MS h m ma) : zK h (ma 37) = 10 := q.2.2.2.2.2.2.2.2.2.2.2.2.2.2.2.2.2.2.2.2.2.2.2.2.2.2.2.2.2.2.1.2.1
theorem MS_L37 (q : MS h m ma) : zL h (ma 37) = 60 := q.2.2.2.2.2.2.2.2.2.2.2.2.2.2.2.2.2.2.2.2.2.2.2.2.2.2.2.2.2.2.1.2.2
theorem MS_R38 (q : MS h m ma) : zR h 614 m = some (ma 38) := q.2.2.2.2.2.2.2.2.2.2.2.2.2.2.2.2.2.2.2.2.2.2.2.2.2.2.2.2.2.2.2.1.1
theorem MS_K38 (q : MS h m ma) : zK h (ma 38) = 10 := q.2.2.2.2.2.2.2.2.2.2.2.2.2.2.2.2.2.2.2.2.2.2.2.2.2.2.2.2.2.2.2.1.2.1
theorem MS_L38 (q : MS h m ma) : zL h (ma 38) = 60 := q.2.2.2.2.2.2.2.2.2.2.2.2.2.2.2.2.2.2.2.2.2.2.2.2.2.2.2.2.2.2.2.1.2.2
theorem MS_R41 (q : MS h m ma) : zR h 617 m = some (ma 41) := q.2.2.2.2.2.2.2.2.2.2.2.2.2.2.2.2.2.2.2.2.2.2.2.2.2.2.2.2.2.2.2.2.1
theorem MS_K41 (q : MS h m ma) : zK h (ma 41) = 11 := q.2.2.2.2.2.2.2.2.2.2.2.2.2.2.2.2.2.2.2.2.2.2.2.2.2.2.2.2.2.2.2.2.2.1
theorem MS_L41 (q : MS h m ma) : zL h (ma 41) = 360 := q.2.2.2.2.2.2.2.2.2.2.2.2.2.2.2.2.2.2.2.2.2.2.2.2.2.2.2.2.2.2.2.2.2.2
end
