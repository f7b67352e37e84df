/-! the table of all instructions (written by wip/p39/genjd.py) -/
def jd_t0 : List (List (Nat × Instr × Nat)) := [jd_l0, jd_l1, jd_l2, jd_l3, jd_l4, jd_l5, jd_l6, jd_l7, jd_l8, jd_l9, jd_l10, jd_l11, jd_l12, jd_l13, jd_l14, jd_l15, jd_l16, jd_l17, jd_l18, jd_l19]
def jd_t1 : List (List (Nat × Instr × Nat)) := [jd_l20, jd_l21, jd_l22, jd_l23, jd_l24, jd_l25, jd_l26, jd_l27, jd_l28, jd_l29, jd_l30, jd_l31, jd_l32, jd_l33, jd_l34, jd_l35, jd_l36, jd_l37, jd_l38, jd_l39]
def jd_t2 : List (List (Nat × Instr × Nat)) := [jd_l40, jd_l41, jd_l42, jd_l43, jd_l44, jd_l45, jd_l46, jd_l47, jd_l48, jd_l49, jd_l50, jd_l51, jd_l52, jd_l53, jd_l54, jd_l55, jd_l56, jd_l57, jd_l58, jd_l59]
def jd_t3 : List (List (Nat × Instr × Nat)) := [jd_l60, jd_l61, jd_l62, jd_l63, jd_l64, jd_l65, jd_l66, jd_l67, jd_l68, jd_l69, jd_l70, jd_l71, jd_l72, jd_l73, jd_l74, jd_l75, jd_l76, jd_l77, jd_l78, jd_l79]
def jd_t4 : List (List (Nat × Instr × Nat)) := [jd_l80, jd_l81, jd_l82, jd_l83, jd_l84, jd_l85, jd_l86, jd_l87, jd_l88, jd_l89, jd_l90, jd_l91, jd_l92, jd_l93, jd_l94, jd_l95, jd_l96, jd_l97, jd_l98, jd_l99]
def jd_t5 : List (List (Nat × Instr × Nat)) := [jd_l100, jd_l101, jd_l102, jd_l103, jd_l104, jd_l105, jd_l106, jd_l107, jd_l108, jd_l109, jd_l110, jd_l111, jd_l112, jd_l113, jd_l114, jd_l115, jd_l116, jd_l117, jd_l118, jd_l119]
def jd_t6 : List (List (Nat × Instr × Nat)) := [jd_l120, jd_l121, jd_l122, jd_l123, jd_l124, jd_l125, jd_l126, jd_l127, jd_l128, jd_l129, jd_l130, jd_l131, jd_l132, jd_l133, jd_l134, jd_l135, jd_l136, jd_l137, jd_l138, jd_l139]
def jd_t7 : List (List (Nat × Instr × Nat)) := [jd_l140, jd_l141, jd_l142, jd_l143, jd_l144, jd_l145, jd_l146, jd_l147, jd_l148, jd_l149, jd_l150, jd_l151, jd_l152, jd_l153, jd_l154, jd_l155, jd_l156, jd_l157, jd_l158, jd_l159]
def jd_t8 : List (List (Nat × Instr × Nat)) := [jd_l160, jd_l161, jd_l162, jd_l163, jd_l164, jd_l165, jd_l166, jd_l167, jd_l168, jd_l169, jd_l170, jd_l171, jd_l172, jd_l173, jd_l174, jd_l175, jd_l176, jd_l177, jd_l178, jd_l179]
def jd_t9 : List (List (Nat × Instr × Nat)) := [jd_l180, jd_l181, jd_l182, jd_l183, jd_l184, jd_l185, jd_l186, jd_l187, jd_l188, jd_l189, jd_l190, jd_l191, jd_l192, jd_l193, jd_l194, jd_l195, jd_l196, jd_l197, jd_l198, jd_l199]
def jd_t10 : List (List (Nat × Instr × Nat)) := [jd_l200, jd_l201, jd_l202, jd_l203, jd_l204, jd_l205, jd_l206, jd_l207, jd_l208, jd_l209, jd_l210, jd_l211, jd_l212, jd_l213, jd_l214, jd_l215, jd_l216, jd_l217, jd_l218, jd_l219]
def jd_t11 : List (List (Nat × Instr × Nat)) := [jd_l220, jd_l221, jd_l222, jd_l223, jd_l224, jd_l225, jd_l226, jd_l227, jd_l228, jd_l229, jd_l230, jd_l231, jd_l232, jd_l233, jd_l234, jd_l235, jd_l236, jd_l237, jd_l238, jd_l239]
def jd_t12 : List (List (Nat × Instr × Nat)) := [jd_l240, jd_l241, jd_l242, jd_l243, jd_l244, jd_l245, jd_l246, jd_l247, jd_l248, jd_l249, jd_l250, jd_l251, jd_l252, jd_l253, jd_l254, jd_l255, jd_l256, jd_l257, jd_l258, jd_l259]
def jd_t13 : List (List (Nat × Instr × Nat)) := [jd_l260, jd_l261, jd_l262, jd_l263, jd_l264, jd_l265, jd_l266, jd_l267, jd_l268, jd_l269, jd_l270, jd_l271, jd_l272, jd_l273, jd_l274, jd_l275, jd_l276, jd_l277, jd_l278, jd_l279]
def jd_t14 : List (List (Nat × Instr × Nat)) := [jd_l280, jd_l281, jd_l282, jd_l283, jd_l284, jd_l285, jd_l286, jd_l287, jd_l288, jd_l289, jd_l290, jd_l291, jd_l292, jd_l293, jd_l294, jd_l295, jd_l296, jd_l297, jd_l298, jd_l299]
def jd_t15 : List (List (Nat × Instr × Nat)) := [jd_l300, jd_l301, jd_l302, jd_l303, jd_l304, jd_l305, jd_l306, jd_l307, jd_l308, jd_l309, jd_l310, jd_l311, jd_l312, jd_l313, jd_l314, jd_l315, jd_l316, jd_l317, jd_l318]
def jd_tt : List (List (List (Nat × Instr × Nat))) := [jd_t0, jd_t1, jd_t2, jd_t3, jd_t4, jd_t5, jd_t6, jd_t7, jd_t8, jd_t9, jd_t10, jd_t11, jd_t12, jd_t13, jd_t14, jd_t15]
def jd_at (y : Nat) : List (Nat × Instr × Nat) := match jd_tt[y / 20]? with
  | some c => (match c[y % 20]? with
    | some l => l
    | none => [])
  | none => []
def jd_fd (pc : Nat) (l : List (Nat × Instr × Nat)) : Option (Instr × Nat) := match l with
  | [] => none
  | e :: l => (match Nat.beq e.1 pc with
    | true => some e.2
    | false => jd_fd pc l)
def jd (y pc : Nat) : Option (Instr × Nat) := jd_fd pc (jd_at y)
def jd_P (y : Nat) : Prop := ∀ q, jm_ms[y]? = some q → (jd_at y).all (jd_q q.2.1) = true
theorem jd_fd_ok {b : ByteArray} {pc : Nat} {i : Instr} {n : Nat} : ∀ l : List (Nat × Instr × Nat), l.all (jd_q b) = true → jd_fd pc l = some (i, n) → decode b pc = .ok (i, n)
  | [], _, h => by cases h
  | e :: l, ha, h => by
    rw [List.all_cons, Bool.and_eq_true] at ha
    unfold jd_fd at h
    split at h
    · rename_i hb
      have e1 : e.1 = pc := Nat.eq_of_beq_eq_true hb
      have e2 : e.2 = (i, n) := Option.some.inj h
      have hq := ha.1
      unfold jd_q at hq
      rw [e1] at hq
      split at hq
      · rename_i i2 n2 hd
        rw [Bool.and_eq_true] at hq
        have g1 : i2 = e.2.1 := of_decide_eq_true hq.1
        have g2 : n2 = e.2.2 := of_decide_eq_true hq.2
        rw [hd, g1, g2, e2]
      · cases hq
    · exact jd_fd_ok l ha.2 h
theorem jd_p0 : jd_P 0 := fun q h => by cases h; exact jd_c0
theorem jd_p1 : jd_P 1 := fun q h => by cases h; exact jd_c1
theorem jd_p2 : jd_P 2 := fun q h => by cases h; exact jd_c2
theorem jd_p3 : jd_P 3 := fun q h => by cases h; exact jd_c3
theorem jd_p4 : jd_P 4 := fun q h => by cases h; exact jd_c4
theorem jd_p5 : jd_P 5 := fun q h => by cases h; exact jd_c5
theorem jd_p6 : jd_P 6 := fun q h => by cases h; exact jd_c6
theorem jd_p7 : jd_P 7 := fun q h => by cases h; exact jd_c7
theorem jd_p8 : jd_P 8 := fun q h => by cases h; exact jd_c8
theorem jd_p9 : jd_P 9 := fun q h => by cases h; exact jd_c9
theorem jd_p10 : jd_P 10 := fun q h => by cases h; exact jd_c10
theorem jd_p11 : jd_P 11 := fun q h => by cases h; exact jd_c11
theorem jd_p12 : jd_P 12 := fun q h => by cases h; exact jd_c12
theorem jd_p13 : jd_P 13 := fun q h => by cases h; exact jd_c13
theorem jd_p14 : jd_P 14 := fun q h => by cases h; exact jd_c14
theorem jd_p15 : jd_P 15 := fun q h => by cases h; exact jd_c15
theorem jd_p16 : jd_P 16 := fun q h => by cases h; exact jd_c16
theorem jd_p17 : jd_P 17 := fun q h => by cases h; exact jd_c17
theorem jd_p18 : jd_P 18 := fun q h => by cases h; exact jd_c18
theorem jd_p19 : jd_P 19 := fun q h => by cases h; exact jd_c19
theorem jd_p20 : jd_P 20 := fun q h => by cases h; exact jd_c20
theorem jd_p21 : jd_P 21 := fun q h => by cases h; exact jd_c21
theorem jd_p22 : jd_P 22 := fun q h => by cases h; exact jd_c22
theorem jd_p23 : jd_P 23 := fun q h => by cases h; exact jd_c23
theorem jd_p24 : jd_P 24 := fun q h => by cases h; exact jd_c24
theorem jd_p25 : jd_P 25 := fun q h => by cases h; exact jd_c25
theorem jd_p26 : jd_P 26 := fun q h => by cases h; exact jd_c26
theorem jd_p27 : jd_P 27 := fun q h => by cases h; exact jd_c27
theorem jd_p28 : jd_P 28 := fun q h => by cases h; exact jd_c28
theorem jd_p29 : jd_P 29 := fun q h => by cases h; exact jd_c29
theorem jd_p30 : jd_P 30 := fun q h => by cases h; exact jd_c30
theorem jd_p31 : jd_P 31 := fun q h => by cases h; exact jd_c31
theorem jd_p32 : jd_P 32 := fun q h => by cases h; exact jd_c32
theorem jd_p33 : jd_P 33 := fun q h => by cases h; exact jd_c33
theorem jd_p34 : jd_P 34 := fun q h => by cases h; exact jd_c34
theorem jd_p35 : jd_P 35 := fun q h => by cases h; exact jd_c35
theorem jd_p36 : jd_P 36 := fun q h => by cases h; exact jd_c36
theorem jd_p37 : jd_P 37 := fun q h => by cases h; exact jd_c37
theorem jd_p38 : jd_P 38 := fun q h => by cases h; exact jd_c38
theorem jd_p39 : jd_P 39 := fun q h => by cases h; exact jd_c39
theorem jd_p40 : jd_P 40 := fun q h => by cases h; exact jd_c40
theorem jd_p41 : jd_P 41 := fun q h => by cases h; exact jd_c41
theorem jd_p42 : jd_P 42 := fun q h => by cases h; exact jd_c42
theorem jd_p43 : jd_P 43 := fun q h => by cases h; exact jd_c43
theorem jd_p44 : jd_P 44 := fun q h => by cases h; exact jd_c44
theorem jd_p45 : jd_P 45 := fun q h => by cases h; exact jd_c45
theorem jd_p46 : jd_P 46 := fun q h => by cases h; exact jd_c46
theorem jd_p47 : jd_P 47 := fun q h => by cases h; exact jd_c47
theorem jd_p48 : jd_P 48 := fun q h => by cases h; exact jd_c48
theorem jd_p49 : jd_P 49 := fun q h => by cases h; exact jd_c49
theorem jd_p50 : jd_P 50 := fun q h => by cases h; exact jd_c50
theorem jd_p51 : jd_P 51 := fun q h => by cases h; exact jd_c51
theorem jd_p52 : jd_P 52 := fun q h => by cases h; exact jd_c52
theorem jd_p53 : jd_P 53 := fun q h => by cases h; exact jd_c53
theorem jd_p54 : jd_P 54 := fun q h => by cases h; exact jd_c54
theorem jd_p55 : jd_P 55 := fun q h => by cases h; exact jd_c55
theorem jd_p56 : jd_P 56 := fun q h => by cases h; exact jd_c56
theorem jd_p57 : jd_P 57 := fun q h => by cases h; exact jd_c57
theorem jd_p58 : jd_P 58 := fun q h => by cases h; exact jd_c58
theorem jd_p59 : jd_P 59 := fun q h => by cases h; exact jd_c59
theorem jd_p60 : jd_P 60 := fun q h => by cases h; exact jd_c60
theorem jd_p61 : jd_P 61 := fun q h => by cases h; exact jd_c61
theorem jd_p62 : jd_P 62 := fun q h => by cases h; exact jd_c62
theorem jd_p63 : jd_P 63 := fun q h => by cases h; exact jd_c63
theorem jd_p64 : jd_P 64 := fun q h => by cases h; exact jd_c64
theorem jd_p65 : jd_P 65 := fun q h => by cases h; exact jd_c65
theorem jd_p66 : jd_P 66 := fun q h => by cases h; exact jd_c66
theorem jd_p67 : jd_P 67 := fun q h => by cases h; exact jd_c67
theorem jd_p68 : jd_P 68 := fun q h => by cases h; exact jd_c68
theorem jd_p69 : jd_P 69 := fun q h => by cases h; exact jd_c69
theorem jd_p70 : jd_P 70 := fun q h => by cases h; exact jd_c70
theorem jd_p71 : jd_P 71 := fun q h => by cases h; exact jd_c71
theorem jd_p72 : jd_P 72 := fun q h => by cases h; exact jd_c72
theorem jd_p73 : jd_P 73 := fun q h => by cases h; exact jd_c73
theorem jd_p74 : jd_P 74 := fun q h => by cases h; exact jd_c74
theorem jd_p75 : jd_P 75 := fun q h => by cases h; exact jd_c75
theorem jd_p76 : jd_P 76 := fun q h => by cases h; exact jd_c76
theorem jd_p77 : jd_P 77 := fun q h => by cases h; exact jd_c77
theorem jd_p78 : jd_P 78 := fun q h => by cases h; exact jd_c78
theorem jd_p79 : jd_P 79 := fun q h => by cases h; exact jd_c79
theorem jd_p80 : jd_P 80 := fun q h => by cases h; exact jd_c80
theorem jd_p81 : jd_P 81 := fun q h => by cases h; exact jd_c81
theorem jd_p82 : jd_P 82 := fun q h => by cases h; exact jd_c82
theorem jd_p83 : jd_P 83 := fun q h => by cases h; exact jd_c83
theorem jd_p84 : jd_P 84 := fun q h => by cases h; exact jd_c84
theorem jd_p85 : jd_P 85 := fun q h => by cases h; exact jd_c85
theorem jd_p86 : jd_P 86 := fun q h => by cases h; exact jd_c86
theorem jd_p87 : jd_P 87 := fun q h => by cases h; exact jd_c87
theorem jd_p88 : jd_P 88 := fun q h => by cases h; exact jd_c88
theorem jd_p89 : jd_P 89 := fun q h => by cases h; exact jd_c89
theorem jd_p90 : jd_P 90 := fun q h => by cases h; exact jd_c90
theorem jd_p91 : jd_P 91 := fun q h => by cases h; exact jd_c91
theorem jd_p92 : jd_P 92 := fun q h => by cases h; exact jd_c92
theorem jd_p93 : jd_P 93 := fun q h => by cases h; exact jd_c93
theorem jd_p94 : jd_P 94 := fun q h => by cases h; exact jd_c94
theorem jd_p95 : jd_P 95 := fun q h => by cases h; exact jd_c95
theorem jd_p96 : jd_P 96 := fun q h => by cases h; exact jd_c96
theorem jd_p97 : jd_P 97 := fun q h => by cases h; exact jd_c97
theorem jd_p98 : jd_P 98 := fun q h => by cases h; exact jd_c98
theorem jd_p99 : jd_P 99 := fun q h => by cases h; exact jd_c99
theorem jd_p100 : jd_P 100 := fun q h => by cases h; exact jd_c100
theorem jd_p101 : jd_P 101 := fun q h => by cases h; exact jd_c101
theorem jd_p102 : jd_P 102 := fun q h => by cases h; exact jd_c102
theorem jd_p103 : jd_P 103 := fun q h => by cases h; exact jd_c103
theorem jd_p104 : jd_P 104 := fun q h => by cases h; exact jd_c104
theorem jd_p105 : jd_P 105 := fun q h => by cases h; exact jd_c105
theorem jd_p106 : jd_P 106 := fun q h => by cases h; exact jd_c106
theorem jd_p107 : jd_P 107 := fun q h => by cases h; exact jd_c107
theorem jd_p108 : jd_P 108 := fun q h => by cases h; exact jd_c108
theorem jd_p109 : jd_P 109 := fun q h => by cases h; exact jd_c109
theorem jd_p110 : jd_P 110 := fun q h => by cases h; exact jd_c110
theorem jd_p111 : jd_P 111 := fun q h => by cases h; exact jd_c111
theorem jd_p112 : jd_P 112 := fun q h => by cases h; exact jd_c112
theorem jd_p113 : jd_P 113 := fun q h => by cases h; exact jd_c113
theorem jd_p114 : jd_P 114 := fun q h => by cases h; exact jd_c114
theorem jd_p115 : jd_P 115 := fun q h => by cases h; exact jd_c115
theorem jd_p116 : jd_P 116 := fun q h => by cases h; exact jd_c116
theorem jd_p117 : jd_P 117 := fun q h => by cases h; exact jd_c117
theorem jd_p118 : jd_P 118 := fun q h => by cases h; exact jd_c118
theorem jd_p119 : jd_P 119 := fun q h => by cases h; exact jd_c119
theorem jd_p120 : jd_P 120 := fun q h => by cases h; exact jd_c120
theorem jd_p121 : jd_P 121 := fun q h => by cases h; exact jd_c121
theorem jd_p122 : jd_P 122 := fun q h => by cases h; exact jd_c122
theorem jd_p123 : jd_P 123 := fun q h => by cases h; exact jd_c123
theorem jd_p124 : jd_P 124 := fun q h => by cases h; exact jd_c124
theorem jd_p125 : jd_P 125 := fun q h => by cases h; exact jd_c125
theorem jd_p126 : jd_P 126 := fun q h => by cases h; exact jd_c126
theorem jd_p127 : jd_P 127 := fun q h => by cases h; exact jd_c127
theorem jd_p128 : jd_P 128 := fun q h => by cases h; exact jd_c128
theorem jd_p129 : jd_P 129 := fun q h => by cases h; exact jd_c129
theorem jd_p130 : jd_P 130 := fun q h => by cases h; exact jd_c130
theorem jd_p131 : jd_P 131 := fun q h => by cases h; exact jd_c131
theorem jd_p132 : jd_P 132 := fun q h => by cases h; exact jd_c132
theorem jd_p133 : jd_P 133 := fun q h => by cases h; exact jd_c133
theorem jd_p134 : jd_P 134 := fun q h => by cases h; exact jd_c134
theorem jd_p135 : jd_P 135 := fun q h => by cases h; exact jd_c135
theorem jd_p136 : jd_P 136 := fun q h => by cases h; exact jd_c136
theorem jd_p137 : jd_P 137 := fun q h => by cases h; exact jd_c137
theorem jd_p138 : jd_P 138 := fun q h => by cases h; exact jd_c138
theorem jd_p139 : jd_P 139 := fun q h => by cases h; exact jd_c139
theorem jd_p140 : jd_P 140 := fun q h => by cases h; exact jd_c140
theorem jd_p141 : jd_P 141 := fun q h => by cases h; exact jd_c141
theorem jd_p142 : jd_P 142 := fun q h => by cases h; exact jd_c142
theorem jd_p143 : jd_P 143 := fun q h => by cases h; exact jd_c143
theorem jd_p144 : jd_P 144 := fun q h => by cases h; exact jd_c144
theorem jd_p145 : jd_P 145 := fun q h => by cases h; exact jd_c145
theorem jd_p146 : jd_P 146 := fun q h => by cases h; exact jd_c146
theorem jd_p147 : jd_P 147 := fun q h => by cases h; exact jd_c147
theorem jd_p148 : jd_P 148 := fun q h => by cases h; exact jd_c148
theorem jd_p149 : jd_P 149 := fun q h => by cases h; exact jd_c149
theorem jd_p150 : jd_P 150 := fun q h => by cases h; exact jd_c150
theorem jd_p151 : jd_P 151 := fun q h => by cases h; exact jd_c151
theorem jd_p152 : jd_P 152 := fun q h => by cases h; exact jd_c152
theorem jd_p153 : jd_P 153 := fun q h => by cases h; exact jd_c153
theorem jd_p154 : jd_P 154 := fun q h => by cases h; exact jd_c154
theorem jd_p155 : jd_P 155 := fun q h => by cases h; exact jd_c155
theorem jd_p156 : jd_P 156 := fun q h => by cases h; exact jd_c156
theorem jd_p157 : jd_P 157 := fun q h => by cases h; exact jd_c157
theorem jd_p158 : jd_P 158 := fun q h => by cases h; exact jd_c158
theorem jd_p159 : jd_P 159 := fun q h => by cases h; exact jd_c159
theorem jd_p160 : jd_P 160 := fun q h => by cases h; exact jd_c160
theorem jd_p161 : jd_P 161 := fun q h => by cases h; exact jd_c161
theorem jd_p162 : jd_P 162 := fun q h => by cases h; exact jd_c162
theorem jd_p163 : jd_P 163 := fun q h => by cases h; exact jd_c163
theorem jd_p164 : jd_P 164 := fun q h => by cases h; exact jd_c164
theorem jd_p165 : jd_P 165 := fun q h => by cases h; exact jd_c165
theorem jd_p166 : jd_P 166 := fun q h => by cases h; exact jd_c166
theorem jd_p167 : jd_P 167 := fun q h => by cases h; exact jd_c167
theorem jd_p168 : jd_P 168 := fun q h => by cases h; exact jd_c168
theorem jd_p169 : jd_P 169 := fun q h => by cases h; exact jd_c169
theorem jd_p170 : jd_P 170 := fun q h => by cases h; exact jd_c170
theorem jd_p171 : jd_P 171 := fun q h => by cases h; exact jd_c171
theorem jd_p172 : jd_P 172 := fun q h => by cases h; exact jd_c172
theorem jd_p173 : jd_P 173 := fun q h => by cases h; exact jd_c173
theorem jd_p174 : jd_P 174 := fun q h => by cases h; exact jd_c174
theorem jd_p175 : jd_P 175 := fun q h => by cases h; exact jd_c175
theorem jd_p176 : jd_P 176 := fun q h => by cases h; exact jd_c176
theorem jd_p177 : jd_P 177 := fun q h => by cases h; exact jd_c177
theorem jd_p178 : jd_P 178 := fun q h => by cases h; exact jd_c178
theorem jd_p179 : jd_P 179 := fun q h => by cases h; exact jd_c179
theorem jd_p180 : jd_P 180 := fun q h => by cases h; exact jd_c180
theorem jd_p181 : jd_P 181 := fun q h => by cases h; exact jd_c181
theorem jd_p182 : jd_P 182 := fun q h => by cases h; exact jd_c182
theorem jd_p183 : jd_P 183 := fun q h => by cases h; exact jd_c183
theorem jd_p184 : jd_P 184 := fun q h => by cases h; exact jd_c184
theorem jd_p185 : jd_P 185 := fun q h => by cases h; exact jd_c185
theorem jd_p186 : jd_P 186 := fun q h => by cases h; exact jd_c186
theorem jd_p187 : jd_P 187 := fun q h => by cases h; exact jd_c187
theorem jd_p188 : jd_P 188 := fun q h => by cases h; exact jd_c188
theorem jd_p189 : jd_P 189 := fun q h => by cases h; exact jd_c189
theorem jd_p190 : jd_P 190 := fun q h => by cases h; exact jd_c190
theorem jd_p191 : jd_P 191 := fun q h => by cases h; exact jd_c191
theorem jd_p192 : jd_P 192 := fun q h => by cases h; exact jd_c192
theorem jd_p193 : jd_P 193 := fun q h => by cases h; exact jd_c193
theorem jd_p194 : jd_P 194 := fun q h => by cases h; exact jd_c194
theorem jd_p195 : jd_P 195 := fun q h => by cases h; exact jd_c195
theorem jd_p196 : jd_P 196 := fun q h => by cases h; exact jd_c196
theorem jd_p197 : jd_P 197 := fun q h => by cases h; exact jd_c197
theorem jd_p198 : jd_P 198 := fun q h => by cases h; exact jd_c198
theorem jd_p199 : jd_P 199 := fun q h => by cases h; exact jd_c199
theorem jd_p200 : jd_P 200 := fun q h => by cases h; exact jd_c200
theorem jd_p201 : jd_P 201 := fun q h => by cases h; exact jd_c201
theorem jd_p202 : jd_P 202 := fun q h => by cases h; exact jd_c202
theorem jd_p203 : jd_P 203 := fun q h => by cases h; exact jd_c203
theorem jd_p204 : jd_P 204 := fun q h => by cases h; exact jd_c204
theorem jd_p205 : jd_P 205 := fun q h => by cases h; exact jd_c205
theorem jd_p206 : jd_P 206 := fun q h => by cases h; exact jd_c206
theorem jd_p207 : jd_P 207 := fun q h => by cases h; exact jd_c207
theorem jd_p208 : jd_P 208 := fun q h => by cases h; exact jd_c208
theorem jd_p209 : jd_P 209 := fun q h => by cases h; exact jd_c209
theorem jd_p210 : jd_P 210 := fun q h => by cases h; exact jd_c210
theorem jd_p211 : jd_P 211 := fun q h => by cases h; exact jd_c211
theorem jd_p212 : jd_P 212 := fun q h => by cases h; exact jd_c212
theorem jd_p213 : jd_P 213 := fun q h => by cases h; exact jd_c213
theorem jd_p214 : jd_P 214 := fun q h => by cases h; exact jd_c214
theorem jd_p215 : jd_P 215 := fun q h => by cases h; exact jd_c215
theorem jd_p216 : jd_P 216 := fun q h => by cases h; exact jd_c216
theorem jd_p217 : jd_P 217 := fun q h => by cases h; exact jd_c217
theorem jd_p218 : jd_P 218 := fun q h => by cases h; exact jd_c218
theorem jd_p219 : jd_P 219 := fun q h => by cases h; exact jd_c219
theorem jd_p220 : jd_P 220 := fun q h => by cases h; exact jd_c220
theorem jd_p221 : jd_P 221 := fun q h => by cases h; exact jd_c221
theorem jd_p222 : jd_P 222 := fun q h => by cases h; exact jd_c222
theorem jd_p223 : jd_P 223 := fun q h => by cases h; exact jd_c223
theorem jd_p224 : jd_P 224 := fun q h => by cases h; exact jd_c224
theorem jd_p225 : jd_P 225 := fun q h => by cases h; exact jd_c225
theorem jd_p226 : jd_P 226 := fun q h => by cases h; exact jd_c226
theorem jd_p227 : jd_P 227 := fun q h => by cases h; exact jd_c227
theorem jd_p228 : jd_P 228 := fun q h => by cases h; exact jd_c228
theorem jd_p229 : jd_P 229 := fun q h => by cases h; exact jd_c229
theorem jd_p230 : jd_P 230 := fun q h => by cases h; exact jd_c230
theorem jd_p231 : jd_P 231 := fun q h => by cases h; exact jd_c231
theorem jd_p232 : jd_P 232 := fun q h => by cases h; exact jd_c232
theorem jd_p233 : jd_P 233 := fun q h => by cases h; exact jd_c233
theorem jd_p234 : jd_P 234 := fun q h => by cases h; exact jd_c234
theorem jd_p235 : jd_P 235 := fun q h => by cases h; exact jd_c235
theorem jd_p236 : jd_P 236 := fun q h => by cases h; exact jd_c236
theorem jd_p237 : jd_P 237 := fun q h => by cases h; exact jd_c237
theorem jd_p238 : jd_P 238 := fun q h => by cases h; exact jd_c238
theorem jd_p239 : jd_P 239 := fun q h => by cases h; exact jd_c239
theorem jd_p240 : jd_P 240 := fun q h => by cases h; exact jd_c240
theorem jd_p241 : jd_P 241 := fun q h => by cases h; exact jd_c241
theorem jd_p242 : jd_P 242 := fun q h => by cases h; exact jd_c242
theorem jd_p243 : jd_P 243 := fun q h => by cases h; exact jd_c243
theorem jd_p244 : jd_P 244 := fun q h => by cases h; exact jd_c244
theorem jd_p245 : jd_P 245 := fun q h => by cases h; exact jd_c245
theorem jd_p246 : jd_P 246 := fun q h => by cases h; exact jd_c246
theorem jd_p247 : jd_P 247 := fun q h => by cases h; exact jd_c247
theorem jd_p248 : jd_P 248 := fun q h => by cases h; exact jd_c248
theorem jd_p249 : jd_P 249 := fun q h => by cases h; exact jd_c249
theorem jd_p250 : jd_P 250 := fun q h => by cases h; exact jd_c250
theorem jd_p251 : jd_P 251 := fun q h => by cases h; exact jd_c251
theorem jd_p252 : jd_P 252 := fun q h => by cases h; exact jd_c252
theorem jd_p253 : jd_P 253 := fun q h => by cases h; exact jd_c253
theorem jd_p254 : jd_P 254 := fun q h => by cases h; exact jd_c254
theorem jd_p255 : jd_P 255 := fun q h => by cases h; exact jd_c255
theorem jd_p256 : jd_P 256 := fun q h => by cases h; exact jd_c256
theorem jd_p257 : jd_P 257 := fun q h => by cases h; exact jd_c257
theorem jd_p258 : jd_P 258 := fun q h => by cases h; exact jd_c258
theorem jd_p259 : jd_P 259 := fun q h => by cases h; exact jd_c259
theorem jd_p260 : jd_P 260 := fun q h => by cases h; exact jd_c260
theorem jd_p261 : jd_P 261 := fun q h => by cases h; exact jd_c261
theorem jd_p262 : jd_P 262 := fun q h => by cases h; exact jd_c262
theorem jd_p263 : jd_P 263 := fun q h => by cases h; exact jd_c263
theorem jd_p264 : jd_P 264 := fun q h => by cases h; exact jd_c264
theorem jd_p265 : jd_P 265 := fun q h => by cases h; exact jd_c265
theorem jd_p266 : jd_P 266 := fun q h => by cases h; exact jd_c266
theorem jd_p267 : jd_P 267 := fun q h => by cases h; exact jd_c267
theorem jd_p268 : jd_P 268 := fun q h => by cases h; exact jd_c268
theorem jd_p269 : jd_P 269 := fun q h => by cases h; exact jd_c269
theorem jd_p270 : jd_P 270 := fun q h => by cases h; exact jd_c270
theorem jd_p271 : jd_P 271 := fun q h => by cases h; exact jd_c271
theorem jd_p272 : jd_P 272 := fun q h => by cases h; exact jd_c272
theorem jd_p273 : jd_P 273 := fun q h => by cases h; exact jd_c273
theorem jd_p274 : jd_P 274 := fun q h => by cases h; exact jd_c274
theorem jd_p275 : jd_P 275 := fun q h => by cases h; exact jd_c275
theorem jd_p276 : jd_P 276 := fun q h => by cases h; exact jd_c276
theorem jd_p277 : jd_P 277 := fun q h => by cases h; exact jd_c277
theorem jd_p278 : jd_P 278 := fun q h => by cases h; exact jd_c278
theorem jd_p279 : jd_P 279 := fun q h => by cases h; exact jd_c279
theorem jd_p280 : jd_P 280 := fun q h => by cases h; exact jd_c280
theorem jd_p281 : jd_P 281 := fun q h => by cases h; exact jd_c281
theorem jd_p282 : jd_P 282 := fun q h => by cases h; exact jd_c282
theorem jd_p283 : jd_P 283 := fun q h => by cases h; exact jd_c283
theorem jd_p284 : jd_P 284 := fun q h => by cases h; exact jd_c284
theorem jd_p285 : jd_P 285 := fun q h => by cases h; exact jd_c285
theorem jd_p286 : jd_P 286 := fun q h => by cases h; exact jd_c286
theorem jd_p287 : jd_P 287 := fun q h => by cases h; exact jd_c287
theorem jd_p288 : jd_P 288 := fun q h => by cases h; exact jd_c288
theorem jd_p289 : jd_P 289 := fun q h => by cases h; exact jd_c289
theorem jd_p290 : jd_P 290 := fun q h => by cases h; exact jd_c290
theorem jd_p291 : jd_P 291 := fun q h => by cases h; exact jd_c291
theorem jd_p292 : jd_P 292 := fun q h => by cases h; exact jd_c292
theorem jd_p293 : jd_P 293 := fun q h => by cases h; exact jd_c293
theorem jd_p294 : jd_P 294 := fun q h => by cases h; exact jd_c294
theorem jd_p295 : jd_P 295 := fun q h => by cases h; exact jd_c295
theorem jd_p296 : jd_P 296 := fun q h => by cases h; exact jd_c296
theorem jd_p297 : jd_P 297 := fun q h => by cases h; exact jd_c297
theorem jd_p298 : jd_P 298 := fun q h => by cases h; exact jd_c298
theorem jd_p299 : jd_P 299 := fun q h => by cases h; exact jd_c299
theorem jd_p300 : jd_P 300 := fun q h => by cases h; exact jd_c300
theorem jd_p301 : jd_P 301 := fun q h => by cases h; exact jd_c301
theorem jd_p302 : jd_P 302 := fun q h => by cases h; exact jd_c302
theorem jd_p303 : jd_P 303 := fun q h => by cases h; exact jd_c303
theorem jd_p304 : jd_P 304 := fun q h => by cases h; exact jd_c304
theorem jd_p305 : jd_P 305 := fun q h => by cases h; exact jd_c305
theorem jd_p306 : jd_P 306 := fun q h => by cases h; exact jd_c306
theorem jd_p307 : jd_P 307 := fun q h => by cases h; exact jd_c307
theorem jd_p308 : jd_P 308 := fun q h => by cases h; exact jd_c308
theorem jd_p309 : jd_P 309 := fun q h => by cases h; exact jd_c309
theorem jd_p310 : jd_P 310 := fun q h => by cases h; exact jd_c310
theorem jd_p311 : jd_P 311 := fun q h => by cases h; exact jd_c311
theorem jd_p312 : jd_P 312 := fun q h => by cases h; exact jd_c312
theorem jd_p313 : jd_P 313 := fun q h => by cases h; exact jd_c313
theorem jd_p314 : jd_P 314 := fun q h => by cases h; exact jd_c314
theorem jd_p315 : jd_P 315 := fun q h => by cases h; exact jd_c315
theorem jd_p316 : jd_P 316 := fun q h => by cases h; exact jd_c316
theorem jd_p317 : jd_P 317 := fun q h => by cases h; exact jd_c317
theorem jd_p318 : jd_P 318 := fun q h => by cases h; exact jd_c318
theorem jd_g0 : ∀ b, b < 20 → jd_P (0 + b)
  | 0, _ => jd_p0
  | 1, _ => jd_p1
  | 2, _ => jd_p2
  | 3, _ => jd_p3
  | 4, _ => jd_p4
  | 5, _ => jd_p5
  | 6, _ => jd_p6
  | 7, _ => jd_p7
  | 8, _ => jd_p8
  | 9, _ => jd_p9
  | 10, _ => jd_p10
  | 11, _ => jd_p11
  | 12, _ => jd_p12
  | 13, _ => jd_p13
  | 14, _ => jd_p14
  | 15, _ => jd_p15
  | 16, _ => jd_p16
  | 17, _ => jd_p17
  | 18, _ => jd_p18
  | 19, _ => jd_p19
  | n + 20, h => absurd h (by omega)
theorem jd_g1 : ∀ b, b < 20 → jd_P (20 + b)
  | 0, _ => jd_p20
  | 1, _ => jd_p21
  | 2, _ => jd_p22
  | 3, _ => jd_p23
  | 4, _ => jd_p24
  | 5, _ => jd_p25
  | 6, _ => jd_p26
  | 7, _ => jd_p27
  | 8, _ => jd_p28
  | 9, _ => jd_p29
  | 10, _ => jd_p30
  | 11, _ => jd_p31
  | 12, _ => jd_p32
  | 13, _ => jd_p33
  | 14, _ => jd_p34
  | 15, _ => jd_p35
  | 16, _ => jd_p36
  | 17, _ => jd_p37
  | 18, _ => jd_p38
  | 19, _ => jd_p39
  | n + 20, h => absurd h (by omega)
theorem jd_g2 : ∀ b, b < 20 → jd_P (40 + b)
  | 0, _ => jd_p40
  | 1, _ => jd_p41
  | 2, _ => jd_p42
  | 3, _ => jd_p43
  | 4, _ => jd_p44
  | 5, _ => jd_p45
  | 6, _ => jd_p46
  | 7, _ => jd_p47
  | 8, _ => jd_p48
  | 9, _ => jd_p49
  | 10, _ => jd_p50
  | 11, _ => jd_p51
  | 12, _ => jd_p52
  | 13, _ => jd_p53
  | 14, _ => jd_p54
  | 15, _ => jd_p55
  | 16, _ => jd_p56
  | 17, _ => jd_p57
  | 18, _ => jd_p58
  | 19, _ => jd_p59
  | n + 20, h => absurd h (by omega)
theorem jd_g3 : ∀ b, b < 20 → jd_P (60 + b)
  | 0, _ => jd_p60
  | 1, _ => jd_p61
  | 2, _ => jd_p62
  | 3, _ => jd_p63
  | 4, _ => jd_p64
  | 5, _ => jd_p65
  | 6, _ => jd_p66
  | 7, _ => jd_p67
  | 8, _ => jd_p68
  | 9, _ => jd_p69
  | 10, _ => jd_p70
  | 11, _ => jd_p71
  | 12, _ => jd_p72
  | 13, _ => jd_p73
  | 14, _ => jd_p74
  | 15, _ => jd_p75
  | 16, _ => jd_p76
  | 17, _ => jd_p77
  | 18, _ => jd_p78
  | 19, _ => jd_p79
  | n + 20, h => absurd h (by omega)
theorem jd_g4 : ∀ b, b < 20 → jd_P (80 + b)
  | 0, _ => jd_p80
  | 1, _ => jd_p81
  | 2, _ => jd_p82
  | 3, _ => jd_p83
  | 4, _ => jd_p84
  | 5, _ => jd_p85
  | 6, _ => jd_p86
  | 7, _ => jd_p87
  | 8, _ => jd_p88
  | 9, _ => jd_p89
  | 10, _ => jd_p90
  | 11, _ => jd_p91
  | 12, _ => jd_p92
  | 13, _ => jd_p93
  | 14, _ => jd_p94
  | 15, _ => jd_p95
  | 16, _ => jd_p96
  | 17, _ => jd_p97
  | 18, _ => jd_p98
  | 19, _ => jd_p99
  | n + 20, h => absurd h (by omega)
theorem jd_g5 : ∀ b, b < 20 → jd_P (100 + b)
  | 0, _ => jd_p100
  | 1, _ => jd_p101
  | 2, _ => jd_p102
  | 3, _ => jd_p103
  | 4, _ => jd_p104
  | 5, _ => jd_p105
  | 6, _ => jd_p106
  | 7, _ => jd_p107
  | 8, _ => jd_p108
  | 9, _ => jd_p109
  | 10, _ => jd_p110
  | 11, _ => jd_p111
  | 12, _ => jd_p112
  | 13, _ => jd_p113
  | 14, _ => jd_p114
  | 15, _ => jd_p115
  | 16, _ => jd_p116
  | 17, _ => jd_p117
  | 18, _ => jd_p118
  | 19, _ => jd_p119
  | n + 20, h => absurd h (by omega)
theorem jd_g6 : ∀ b, b < 20 → jd_P (120 + b)
  | 0, _ => jd_p120
  | 1, _ => jd_p121
  | 2, _ => jd_p122
  | 3, _ => jd_p123
  | 4, _ => jd_p124
  | 5, _ => jd_p125
  | 6, _ => jd_p126
  | 7, _ => jd_p127
  | 8, _ => jd_p128
  | 9, _ => jd_p129
  | 10, _ => jd_p130
  | 11, _ => jd_p131
  | 12, _ => jd_p132
  | 13, _ => jd_p133
  | 14, _ => jd_p134
  | 15, _ => jd_p135
  | 16, _ => jd_p136
  | 17, _ => jd_p137
  | 18, _ => jd_p138
  | 19, _ => jd_p139
  | n + 20, h => absurd h (by omega)
theorem jd_g7 : ∀ b, b < 20 → jd_P (140 + b)
  | 0, _ => jd_p140
  | 1, _ => jd_p141
  | 2, _ => jd_p142
  | 3, _ => jd_p143
  | 4, _ => jd_p144
  | 5, _ => jd_p145
  | 6, _ => jd_p146
  | 7, _ => jd_p147
  | 8, _ => jd_p148
  | 9, _ => jd_p149
  | 10, _ => jd_p150
  | 11, _ => jd_p151
  | 12, _ => jd_p152
  | 13, _ => jd_p153
  | 14, _ => jd_p154
  | 15, _ => jd_p155
  | 16, _ => jd_p156
  | 17, _ => jd_p157
  | 18, _ => jd_p158
  | 19, _ => jd_p159
  | n + 20, h => absurd h (by omega)
theorem jd_g8 : ∀ b, b < 20 → jd_P (160 + b)
  | 0, _ => jd_p160
  | 1, _ => jd_p161
  | 2, _ => jd_p162
  | 3, _ => jd_p163
  | 4, _ => jd_p164
  | 5, _ => jd_p165
  | 6, _ => jd_p166
  | 7, _ => jd_p167
  | 8, _ => jd_p168
  | 9, _ => jd_p169
  | 10, _ => jd_p170
  | 11, _ => jd_p171
  | 12, _ => jd_p172
  | 13, _ => jd_p173
  | 14, _ => jd_p174
  | 15, _ => jd_p175
  | 16, _ => jd_p176
  | 17, _ => jd_p177
  | 18, _ => jd_p178
  | 19, _ => jd_p179
  | n + 20, h => absurd h (by omega)
theorem jd_g9 : ∀ b, b < 20 → jd_P (180 + b)
  | 0, _ => jd_p180
  | 1, _ => jd_p181
  | 2, _ => jd_p182
  | 3, _ => jd_p183
  | 4, _ => jd_p184
  | 5, _ => jd_p185
  | 6, _ => jd_p186
  | 7, _ => jd_p187
  | 8, _ => jd_p188
  | 9, _ => jd_p189
  | 10, _ => jd_p190
  | 11, _ => jd_p191
  | 12, _ => jd_p192
  | 13, _ => jd_p193
  | 14, _ => jd_p194
  | 15, _ => jd_p195
  | 16, _ => jd_p196
  | 17, _ => jd_p197
  | 18, _ => jd_p198
  | 19, _ => jd_p199
  | n + 20, h => absurd h (by omega)
theorem jd_g10 : ∀ b, b < 20 → jd_P (200 + b)
  | 0, _ => jd_p200
  | 1, _ => jd_p201
  | 2, _ => jd_p202
  | 3, _ => jd_p203
  | 4, _ => jd_p204
  | 5, _ => jd_p205
  | 6, _ => jd_p206
  | 7, _ => jd_p207
  | 8, _ => jd_p208
  | 9, _ => jd_p209
  | 10, _ => jd_p210
  | 11, _ => jd_p211
  | 12, _ => jd_p212
  | 13, _ => jd_p213
  | 14, _ => jd_p214
  | 15, _ => jd_p215
  | 16, _ => jd_p216
  | 17, _ => jd_p217
  | 18, _ => jd_p218
  | 19, _ => jd_p219
  | n + 20, h => absurd h (by omega)
theorem jd_g11 : ∀ b, b < 20 → jd_P (220 + b)
  | 0, _ => jd_p220
  | 1, _ => jd_p221
  | 2, _ => jd_p222
  | 3, _ => jd_p223
  | 4, _ => jd_p224
  | 5, _ => jd_p225
  | 6, _ => jd_p226
  | 7, _ => jd_p227
  | 8, _ => jd_p228
  | 9, _ => jd_p229
  | 10, _ => jd_p230
  | 11, _ => jd_p231
  | 12, _ => jd_p232
  | 13, _ => jd_p233
  | 14, _ => jd_p234
  | 15, _ => jd_p235
  | 16, _ => jd_p236
  | 17, _ => jd_p237
  | 18, _ => jd_p238
  | 19, _ => jd_p239
  | n + 20, h => absurd h (by omega)
theorem jd_g12 : ∀ b, b < 20 → jd_P (240 + b)
  | 0, _ => jd_p240
  | 1, _ => jd_p241
  | 2, _ => jd_p242
  | 3, _ => jd_p243
  | 4, _ => jd_p244
  | 5, _ => jd_p245
  | 6, _ => jd_p246
  | 7, _ => jd_p247
  | 8, _ => jd_p248
  | 9, _ => jd_p249
  | 10, _ => jd_p250
  | 11, _ => jd_p251
  | 12, _ => jd_p252
  | 13, _ => jd_p253
  | 14, _ => jd_p254
  | 15, _ => jd_p255
  | 16, _ => jd_p256
  | 17, _ => jd_p257
  | 18, _ => jd_p258
  | 19, _ => jd_p259
  | n + 20, h => absurd h (by omega)
theorem jd_g13 : ∀ b, b < 20 → jd_P (260 + b)
  | 0, _ => jd_p260
  | 1, _ => jd_p261
  | 2, _ => jd_p262
  | 3, _ => jd_p263
  | 4, _ => jd_p264
  | 5, _ => jd_p265
  | 6, _ => jd_p266
  | 7, _ => jd_p267
  | 8, _ => jd_p268
  | 9, _ => jd_p269
  | 10, _ => jd_p270
  | 11, _ => jd_p271
  | 12, _ => jd_p272
  | 13, _ => jd_p273
  | 14, _ => jd_p274
  | 15, _ => jd_p275
  | 16, _ => jd_p276
  | 17, _ => jd_p277
  | 18, _ => jd_p278
  | 19, _ => jd_p279
  | n + 20, h => absurd h (by omega)
theorem jd_g14 : ∀ b, b < 20 → jd_P (280 + b)
  | 0, _ => jd_p280
  | 1, _ => jd_p281
  | 2, _ => jd_p282
  | 3, _ => jd_p283
  | 4, _ => jd_p284
  | 5, _ => jd_p285
  | 6, _ => jd_p286
  | 7, _ => jd_p287
  | 8, _ => jd_p288
  | 9, _ => jd_p289
  | 10, _ => jd_p290
  | 11, _ => jd_p291
  | 12, _ => jd_p292
  | 13, _ => jd_p293
  | 14, _ => jd_p294
  | 15, _ => jd_p295
  | 16, _ => jd_p296
  | 17, _ => jd_p297
  | 18, _ => jd_p298
  | 19, _ => jd_p299
  | n + 20, h => absurd h (by omega)
theorem jd_g15 : ∀ b, b < 19 → jd_P (300 + b)
  | 0, _ => jd_p300
  | 1, _ => jd_p301
  | 2, _ => jd_p302
  | 3, _ => jd_p303
  | 4, _ => jd_p304
  | 5, _ => jd_p305
  | 6, _ => jd_p306
  | 7, _ => jd_p307
  | 8, _ => jd_p308
  | 9, _ => jd_p309
  | 10, _ => jd_p310
  | 11, _ => jd_p311
  | 12, _ => jd_p312
  | 13, _ => jd_p313
  | 14, _ => jd_p314
  | 15, _ => jd_p315
  | 16, _ => jd_p316
  | 17, _ => jd_p317
  | 18, _ => jd_p318
  | n + 19, h => absurd h (by omega)
theorem jd_all (y : Nat) (hy : y < 319) : jd_P y := by
  by_cases h0 : y < 20
  · have := jd_g0 (y - 0) (by omega); rwa [show 0 + (y - 0) = y by omega] at this
  by_cases h1 : y < 40
  · have := jd_g1 (y - 20) (by omega); rwa [show 20 + (y - 20) = y by omega] at this
  by_cases h2 : y < 60
  · have := jd_g2 (y - 40) (by omega); rwa [show 40 + (y - 40) = y by omega] at this
  by_cases h3 : y < 80
  · have := jd_g3 (y - 60) (by omega); rwa [show 60 + (y - 60) = y by omega] at this
  by_cases h4 : y < 100
  · have := jd_g4 (y - 80) (by omega); rwa [show 80 + (y - 80) = y by omega] at this
  by_cases h5 : y < 120
  · have := jd_g5 (y - 100) (by omega); rwa [show 100 + (y - 100) = y by omega] at this
  by_cases h6 : y < 140
  · have := jd_g6 (y - 120) (by omega); rwa [show 120 + (y - 120) = y by omega] at this
  by_cases h7 : y < 160
  · have := jd_g7 (y - 140) (by omega); rwa [show 140 + (y - 140) = y by omega] at this
  by_cases h8 : y < 180
  · have := jd_g8 (y - 160) (by omega); rwa [show 160 + (y - 160) = y by omega] at this
  by_cases h9 : y < 200
  · have := jd_g9 (y - 180) (by omega); rwa [show 180 + (y - 180) = y by omega] at this
  by_cases h10 : y < 220
  · have := jd_g10 (y - 200) (by omega); rwa [show 200 + (y - 200) = y by omega] at this
  by_cases h11 : y < 240
  · have := jd_g11 (y - 220) (by omega); rwa [show 220 + (y - 220) = y by omega] at this
  by_cases h12 : y < 260
  · have := jd_g12 (y - 240) (by omega); rwa [show 240 + (y - 240) = y by omega] at this
  by_cases h13 : y < 280
  · have := jd_g13 (y - 260) (by omega); rwa [show 260 + (y - 260) = y by omega] at this
  by_cases h14 : y < 300
  · have := jd_g14 (y - 280) (by omega); rwa [show 280 + (y - 280) = y by omega] at this
  by_cases h15 : y < 319
  · have := jd_g15 (y - 300) (by omega); rwa [show 300 + (y - 300) = y by omega] at this
  exact absurd hy (by omega)
theorem jd_ok0 {y : Nat} {q : MethodName × ByteArray × Nat × Option FieldType × Nat × Nat} (hq : jm_ms[y]? = some q) {pc : Nat} {i : Instr} {len : Nat} (h : jd y pc = some (i, len)) : decode q.2.1 pc = .ok (i, len) :=
  jd_fd_ok _ (jd_all y (by have := (List.getElem?_eq_some_iff.mp hq).1; rwa [jm_m_len.1] at this) q hq) h
