theorem jd_lk_mem : ∀ (l : List (Nat × Instr × Nat)) (pc : Nat) (i : Instr) (nx : Nat), jd_lk l pc = some (i, nx) → (pc, i, nx) ∈ l
  | [], _, _, _, h => by simp [jd_lk] at h
  | (p, i', n) :: l, pc, i, nx, h => by
    unfold jd_lk at h
    cases hb : Nat.beq p pc with
    | true =>
      rw [hb] at h
      simp only [cond_true, Option.some.injEq, Prod.mk.injEq] at h
      obtain ⟨rfl, rfl⟩ := h
      have : p = pc := Nat.eq_of_beq_eq_true hb
      subst this
      exact List.mem_cons_self
    | false =>
      rw [hb] at h
      exact List.mem_cons_of_mem _ (jd_lk_mem l pc i nx h)
theorem jd_ok_all : ∀ (j : Nat), ∀ q ∈ jd_cds.getD j [], jd_ok (jd_y j).cls (jd_y j).name (jd_b j) (jd_r j) q.1 q.2.1 q.2.2
  | 0 => ok_0
  | 1 => ok_1
  | 2 => ok_2
  | 3 => ok_3
  | 4 => ok_4
  | 5 => ok_5
  | 6 => ok_6
  | 7 => ok_7
  | 8 => ok_8
  | 9 => ok_9
  | 10 => ok_10
  | 11 => ok_11
  | 12 => ok_12
  | 13 => ok_13
  | 14 => ok_14
  | 15 => ok_15
  | 16 => ok_16
  | 17 => ok_17
  | 18 => ok_18
  | 19 => ok_19
  | 20 => ok_20
  | 21 => ok_21
  | 22 => ok_22
  | 23 => ok_23
  | 24 => ok_24
  | 25 => ok_25
  | 26 => ok_26
  | 27 => ok_27
  | 28 => ok_28
  | 29 => ok_29
  | 30 => ok_30
  | 31 => ok_31
  | 32 => ok_32
  | 33 => ok_33
  | 34 => ok_34
  | 35 => ok_35
  | 36 => ok_36
  | 37 => ok_37
  | 38 => ok_38
  | 39 => ok_39
  | 40 => ok_40
  | 41 => ok_41
  | 42 => ok_42
  | 43 => ok_43
  | 44 => ok_44
  | 45 => ok_45
  | 46 => ok_46
  | 47 => ok_47
  | 48 => ok_48
  | 49 => ok_49
  | 50 => ok_50
  | 51 => ok_51
  | 52 => ok_52
  | 53 => ok_53
  | 54 => ok_54
  | 55 => ok_55
  | 56 => ok_56
  | 57 => ok_57
  | 58 => ok_58
  | 59 => ok_59
  | 60 => ok_60
  | 61 => ok_61
  | 62 => ok_62
  | 63 => ok_63
  | 64 => ok_64
  | 65 => ok_65
  | 66 => ok_66
  | 67 => ok_67
  | 68 => ok_68
  | 69 => ok_69
  | 70 => ok_70
  | 71 => ok_71
  | 72 => ok_72
  | 73 => ok_73
  | 74 => ok_74
  | 75 => ok_75
  | 76 => ok_76
  | 77 => ok_77
  | 78 => ok_78
  | 79 => ok_79
  | 80 => ok_80
  | 81 => ok_81
  | 82 => ok_82
  | 83 => ok_83
  | 84 => ok_84
  | 85 => ok_85
  | 86 => ok_86
  | 87 => ok_87
  | 88 => ok_88
  | 89 => ok_89
  | 90 => ok_90
  | 91 => ok_91
  | 92 => ok_92
  | 93 => ok_93
  | 94 => ok_94
  | 95 => ok_95
  | 96 => ok_96
  | 97 => ok_97
  | 98 => ok_98
  | 99 => ok_99
  | 100 => ok_100
  | 101 => ok_101
  | 102 => ok_102
  | 103 => ok_103
  | 104 => ok_104
  | 105 => ok_105
  | 106 => ok_106
  | 107 => ok_107
  | 108 => ok_108
  | 109 => ok_109
  | 110 => ok_110
  | 111 => ok_111
  | 112 => ok_112
  | 113 => ok_113
  | 114 => ok_114
  | 115 => ok_115
  | 116 => ok_116
  | 117 => ok_117
  | 118 => ok_118
  | 119 => ok_119
  | 120 => ok_120
  | 121 => ok_121
  | 122 => ok_122
  | 123 => ok_123
  | 124 => ok_124
  | 125 => ok_125
  | 126 => ok_126
  | 127 => ok_127
  | 128 => ok_128
  | 129 => ok_129
  | 130 => ok_130
  | 131 => ok_131
  | 132 => ok_132
  | 133 => ok_133
  | 134 => ok_134
  | 135 => ok_135
  | 136 => ok_136
  | 137 => ok_137
  | 138 => ok_138
  | 139 => ok_139
  | 140 => ok_140
  | n + 141 => fun q hq => by
    have : jd_cds.getD (n + 141) [] = [] := by
      rw [List.getD_eq_getElem?_getD, List.getElem?_eq_none (by show 141 ≤ n + 141; omega)]
      rfl
    rw [this] at hq
    exact absurd hq List.not_mem_nil
theorem jd_ok_ins (j pc : Nat) (i : Instr) (nx : Nat) (h : jd_ins j pc = some (i, nx)) : jd_ok (jd_y j).cls (jd_y j).name (jd_b j) (jd_r j) pc i nx := jd_ok_all j _ (jd_lk_mem _ _ _ _ h)
