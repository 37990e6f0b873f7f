/-! the cells of a run: shapes and fixed references (written by mksh.py) -/
def SH (L : Nat) : List (Nat × Nat) := [(111, 12), (110, 12), (110, 12), (110, 12), (111, 6), (110, L), (9, 19), (100, 240), (6, 6), (100, 0), (5, 18), (100, 10), (100, 10), (100, 10), (100, 10), (100, 10), (100, 10), (100, 6), (100, 6), (100, 12), (1, 5), (100, 0), (100, 240), (2, 7), (103, 4), (100, 240), (100, 240), (100, 240), (100, 240), (100, 4), (100, 6), (100, 32), (5, 18), (100, 10), (100, 10), (100, 10), (100, 10), (100, 10), (100, 10), (100, 6), (100, 6), (5, 18), (100, 10), (100, 10), (100, 10), (100, 10), (100, 10), (100, 10), (100, 6), (100, 6), (7, 5), (5, 18), (100, 10), (100, 10), (100, 10), (100, 10), (100, 10), (100, 10), (100, 6), (100, 6), (100, 10), (100, 6), (7, 5), (5, 18), (100, 10), (100, 10), (100, 10), (100, 10), (100, 10), (100, 10), (100, 6), (100, 6), (100, 10), (100, 6), (4, 7), (100, 720), (100, 300), (100, 18), (100, 300), (0, 3), (3, 4), (100, 20), (100, 10), (100, 20), (100, 20), (8, 3), (100, 121), (100, 121), (100, 5), (10, 47), (100, 240), (100, 2600), (100, 2600), (100, 5), (100, 5), (100, 700), (100, 700), (100, 700), (100, 6), (100, 80), (100, 4), (100, 60), (100, 12), (100, 4), (100, 60), (100, 12), (100, 199), (100, 5), (100, 80), (100, 80), (100, 20), (100, 10), (100, 7960), (100, 18), (100, 121), (100, 121), (100, 10), (101, 10), (100, 199), (102, 1)]
def PT : List ((Nat × Nat) × Nat) := [((6, 0), 7), ((6, 2), 8), ((10, 8), 11), ((10, 9), 12), ((10, 10), 13), ((10, 11), 14), ((10, 12), 15), ((10, 13), 16), ((10, 16), 17), ((10, 17), 18), ((8, 5), 19), ((6, 3), 20), ((20, 3), 22), ((6, 4), 23), ((23, 2), 24), ((24, 0), 25), ((24, 1), 26), ((24, 2), 27), ((24, 3), 28), ((23, 3), 29), ((23, 4), 30), ((23, 5), 31), ((32, 8), 33), ((32, 9), 34), ((32, 10), 35), ((32, 11), 36), ((32, 12), 37), ((32, 13), 38), ((32, 16), 39), ((32, 17), 40), ((41, 8), 42), ((41, 9), 43), ((41, 10), 44), ((41, 11), 45), ((41, 12), 46), ((41, 13), 47), ((41, 16), 48), ((41, 17), 49), ((6, 7), 50), ((51, 8), 52), ((51, 9), 53), ((51, 10), 54), ((51, 11), 55), ((51, 12), 56), ((51, 13), 57), ((51, 16), 58), ((51, 17), 59), ((50, 1), 60), ((50, 2), 61), ((6, 8), 62), ((63, 8), 64), ((63, 9), 65), ((63, 10), 66), ((63, 11), 67), ((63, 12), 68), ((63, 13), 69), ((63, 16), 70), ((63, 17), 71), ((62, 1), 72), ((62, 2), 73), ((6, 9), 74), ((74, 2), 75), ((74, 3), 76), ((74, 5), 77), ((74, 6), 78), ((6, 10), 79), ((6, 11), 80), ((80, 0), 81), ((80, 1), 82), ((80, 2), 83), ((80, 3), 84), ((6, 12), 85), ((85, 1), 86), ((85, 2), 87), ((6, 13), 88), ((89, 1), 90), ((89, 6), 91), ((89, 7), 92), ((89, 8), 93), ((89, 9), 94), ((89, 10), 95), ((89, 11), 96), ((89, 12), 97), ((89, 15), 98), ((89, 16), 99), ((89, 17), 100), ((89, 18), 101), ((89, 19), 102), ((89, 22), 103), ((89, 23), 104), ((89, 24), 105), ((89, 28), 106), ((89, 29), 107), ((89, 32), 108), ((89, 33), 109), ((89, 34), 110), ((89, 35), 111), ((89, 36), 112), ((89, 39), 113), ((89, 40), 114), ((89, 41), 115), ((89, 42), 116), ((89, 43), 117), ((89, 45), 118)]
/-- the run's shapes and its fixed references -/
def Sh (L : Nat) (S : mj_S) : Prop := S.1 = SH L ∧ ∀ x ∈ PT, m_gp S x.1.1 x.1.2 = some x.2
theorem Sh.kd {L : Nat} {S : mj_S} (h : Sh L S) (a : Nat) : m_kd S a = ((SH L).getD a (999, 0)).1 := by unfold m_kd; rw [h.1]
theorem Sh.ln {L : Nat} {S : mj_S} (h : Sh L S) (a : Nat) : m_ln S a = ((SH L).getD a (999, 0)).2 := by unfold m_ln; rw [h.1]
theorem Sh.k0 {L : Nat} {S : mj_S} (h : Sh L S) : m_kd S 0 = 111 := h.kd 0
theorem Sh.l0 {L : Nat} {S : mj_S} (h : Sh L S) : m_ln S 0 = 12 := h.ln 0
theorem Sh.k1 {L : Nat} {S : mj_S} (h : Sh L S) : m_kd S 1 = 110 := h.kd 1
theorem Sh.l1 {L : Nat} {S : mj_S} (h : Sh L S) : m_ln S 1 = 12 := h.ln 1
theorem Sh.k2 {L : Nat} {S : mj_S} (h : Sh L S) : m_kd S 2 = 110 := h.kd 2
theorem Sh.l2 {L : Nat} {S : mj_S} (h : Sh L S) : m_ln S 2 = 12 := h.ln 2
theorem Sh.k3 {L : Nat} {S : mj_S} (h : Sh L S) : m_kd S 3 = 110 := h.kd 3
theorem Sh.l3 {L : Nat} {S : mj_S} (h : Sh L S) : m_ln S 3 = 12 := h.ln 3
theorem Sh.k4 {L : Nat} {S : mj_S} (h : Sh L S) : m_kd S 4 = 111 := h.kd 4
theorem Sh.l4 {L : Nat} {S : mj_S} (h : Sh L S) : m_ln S 4 = 6 := h.ln 4
theorem Sh.k5 {L : Nat} {S : mj_S} (h : Sh L S) : m_kd S 5 = 110 := h.kd 5
theorem Sh.l5 {L : Nat} {S : mj_S} (h : Sh L S) : m_ln S 5 = L := h.ln 5
theorem Sh.k6 {L : Nat} {S : mj_S} (h : Sh L S) : m_kd S 6 = 9 := h.kd 6
theorem Sh.k7 {L : Nat} {S : mj_S} (h : Sh L S) : m_kd S 7 = 100 := h.kd 7
theorem Sh.l7 {L : Nat} {S : mj_S} (h : Sh L S) : m_ln S 7 = 240 := h.ln 7
theorem Sh.k8 {L : Nat} {S : mj_S} (h : Sh L S) : m_kd S 8 = 6 := h.kd 8
theorem Sh.k9 {L : Nat} {S : mj_S} (h : Sh L S) : m_kd S 9 = 100 := h.kd 9
theorem Sh.l9 {L : Nat} {S : mj_S} (h : Sh L S) : m_ln S 9 = 0 := h.ln 9
theorem Sh.k10 {L : Nat} {S : mj_S} (h : Sh L S) : m_kd S 10 = 5 := h.kd 10
theorem Sh.k11 {L : Nat} {S : mj_S} (h : Sh L S) : m_kd S 11 = 100 := h.kd 11
theorem Sh.l11 {L : Nat} {S : mj_S} (h : Sh L S) : m_ln S 11 = 10 := h.ln 11
theorem Sh.k12 {L : Nat} {S : mj_S} (h : Sh L S) : m_kd S 12 = 100 := h.kd 12
theorem Sh.l12 {L : Nat} {S : mj_S} (h : Sh L S) : m_ln S 12 = 10 := h.ln 12
theorem Sh.k13 {L : Nat} {S : mj_S} (h : Sh L S) : m_kd S 13 = 100 := h.kd 13
theorem Sh.l13 {L : Nat} {S : mj_S} (h : Sh L S) : m_ln S 13 = 10 := h.ln 13
theorem Sh.k14 {L : Nat} {S : mj_S} (h : Sh L S) : m_kd S 14 = 100 := h.kd 14
theorem Sh.l14 {L : Nat} {S : mj_S} (h : Sh L S) : m_ln S 14 = 10 := h.ln 14
theorem Sh.k15 {L : Nat} {S : mj_S} (h : Sh L S) : m_kd S 15 = 100 := h.kd 15
theorem Sh.l15 {L : Nat} {S : mj_S} (h : Sh L S) : m_ln S 15 = 10 := h.ln 15
theorem Sh.k16 {L : Nat} {S : mj_S} (h : Sh L S) : m_kd S 16 = 100 := h.kd 16
theorem Sh.l16 {L : Nat} {S : mj_S} (h : Sh L S) : m_ln S 16 = 10 := h.ln 16
theorem Sh.k17 {L : Nat} {S : mj_S} (h : Sh L S) : m_kd S 17 = 100 := h.kd 17
theorem Sh.l17 {L : Nat} {S : mj_S} (h : Sh L S) : m_ln S 17 = 6 := h.ln 17
theorem Sh.k18 {L : Nat} {S : mj_S} (h : Sh L S) : m_kd S 18 = 100 := h.kd 18
theorem Sh.l18 {L : Nat} {S : mj_S} (h : Sh L S) : m_ln S 18 = 6 := h.ln 18
theorem Sh.k19 {L : Nat} {S : mj_S} (h : Sh L S) : m_kd S 19 = 100 := h.kd 19
theorem Sh.l19 {L : Nat} {S : mj_S} (h : Sh L S) : m_ln S 19 = 12 := h.ln 19
theorem Sh.k20 {L : Nat} {S : mj_S} (h : Sh L S) : m_kd S 20 = 1 := h.kd 20
theorem Sh.k21 {L : Nat} {S : mj_S} (h : Sh L S) : m_kd S 21 = 100 := h.kd 21
theorem Sh.l21 {L : Nat} {S : mj_S} (h : Sh L S) : m_ln S 21 = 0 := h.ln 21
theorem Sh.k22 {L : Nat} {S : mj_S} (h : Sh L S) : m_kd S 22 = 100 := h.kd 22
theorem Sh.l22 {L : Nat} {S : mj_S} (h : Sh L S) : m_ln S 22 = 240 := h.ln 22
theorem Sh.k23 {L : Nat} {S : mj_S} (h : Sh L S) : m_kd S 23 = 2 := h.kd 23
theorem Sh.k24 {L : Nat} {S : mj_S} (h : Sh L S) : m_kd S 24 = 103 := h.kd 24
theorem Sh.l24 {L : Nat} {S : mj_S} (h : Sh L S) : m_ln S 24 = 4 := h.ln 24
theorem Sh.k25 {L : Nat} {S : mj_S} (h : Sh L S) : m_kd S 25 = 100 := h.kd 25
theorem Sh.l25 {L : Nat} {S : mj_S} (h : Sh L S) : m_ln S 25 = 240 := h.ln 25
theorem Sh.k26 {L : Nat} {S : mj_S} (h : Sh L S) : m_kd S 26 = 100 := h.kd 26
theorem Sh.l26 {L : Nat} {S : mj_S} (h : Sh L S) : m_ln S 26 = 240 := h.ln 26
theorem Sh.k27 {L : Nat} {S : mj_S} (h : Sh L S) : m_kd S 27 = 100 := h.kd 27
theorem Sh.l27 {L : Nat} {S : mj_S} (h : Sh L S) : m_ln S 27 = 240 := h.ln 27
theorem Sh.k28 {L : Nat} {S : mj_S} (h : Sh L S) : m_kd S 28 = 100 := h.kd 28
theorem Sh.l28 {L : Nat} {S : mj_S} (h : Sh L S) : m_ln S 28 = 240 := h.ln 28
theorem Sh.k29 {L : Nat} {S : mj_S} (h : Sh L S) : m_kd S 29 = 100 := h.kd 29
theorem Sh.l29 {L : Nat} {S : mj_S} (h : Sh L S) : m_ln S 29 = 4 := h.ln 29
theorem Sh.k30 {L : Nat} {S : mj_S} (h : Sh L S) : m_kd S 30 = 100 := h.kd 30
theorem Sh.l30 {L : Nat} {S : mj_S} (h : Sh L S) : m_ln S 30 = 6 := h.ln 30
theorem Sh.k31 {L : Nat} {S : mj_S} (h : Sh L S) : m_kd S 31 = 100 := h.kd 31
theorem Sh.l31 {L : Nat} {S : mj_S} (h : Sh L S) : m_ln S 31 = 32 := h.ln 31
theorem Sh.k32 {L : Nat} {S : mj_S} (h : Sh L S) : m_kd S 32 = 5 := h.kd 32
theorem Sh.k33 {L : Nat} {S : mj_S} (h : Sh L S) : m_kd S 33 = 100 := h.kd 33
theorem Sh.l33 {L : Nat} {S : mj_S} (h : Sh L S) : m_ln S 33 = 10 := h.ln 33
theorem Sh.k34 {L : Nat} {S : mj_S} (h : Sh L S) : m_kd S 34 = 100 := h.kd 34
theorem Sh.l34 {L : Nat} {S : mj_S} (h : Sh L S) : m_ln S 34 = 10 := h.ln 34
theorem Sh.k35 {L : Nat} {S : mj_S} (h : Sh L S) : m_kd S 35 = 100 := h.kd 35
theorem Sh.l35 {L : Nat} {S : mj_S} (h : Sh L S) : m_ln S 35 = 10 := h.ln 35
theorem Sh.k36 {L : Nat} {S : mj_S} (h : Sh L S) : m_kd S 36 = 100 := h.kd 36
theorem Sh.l36 {L : Nat} {S : mj_S} (h : Sh L S) : m_ln S 36 = 10 := h.ln 36
theorem Sh.k37 {L : Nat} {S : mj_S} (h : Sh L S) : m_kd S 37 = 100 := h.kd 37
theorem Sh.l37 {L : Nat} {S : mj_S} (h : Sh L S) : m_ln S 37 = 10 := h.ln 37
theorem Sh.k38 {L : Nat} {S : mj_S} (h : Sh L S) : m_kd S 38 = 100 := h.kd 38
theorem Sh.l38 {L : Nat} {S : mj_S} (h : Sh L S) : m_ln S 38 = 10 := h.ln 38
theorem Sh.k39 {L : Nat} {S : mj_S} (h : Sh L S) : m_kd S 39 = 100 := h.kd 39
theorem Sh.l39 {L : Nat} {S : mj_S} (h : Sh L S) : m_ln S 39 = 6 := h.ln 39
theorem Sh.k40 {L : Nat} {S : mj_S} (h : Sh L S) : m_kd S 40 = 100 := h.kd 40
theorem Sh.l40 {L : Nat} {S : mj_S} (h : Sh L S) : m_ln S 40 = 6 := h.ln 40
theorem Sh.k41 {L : Nat} {S : mj_S} (h : Sh L S) : m_kd S 41 = 5 := h.kd 41
theorem Sh.k42 {L : Nat} {S : mj_S} (h : Sh L S) : m_kd S 42 = 100 := h.kd 42
theorem Sh.l42 {L : Nat} {S : mj_S} (h : Sh L S) : m_ln S 42 = 10 := h.ln 42
theorem Sh.k43 {L : Nat} {S : mj_S} (h : Sh L S) : m_kd S 43 = 100 := h.kd 43
theorem Sh.l43 {L : Nat} {S : mj_S} (h : Sh L S) : m_ln S 43 = 10 := h.ln 43
theorem Sh.k44 {L : Nat} {S : mj_S} (h : Sh L S) : m_kd S 44 = 100 := h.kd 44
theorem Sh.l44 {L : Nat} {S : mj_S} (h : Sh L S) : m_ln S 44 = 10 := h.ln 44
theorem Sh.k45 {L : Nat} {S : mj_S} (h : Sh L S) : m_kd S 45 = 100 := h.kd 45
theorem Sh.l45 {L : Nat} {S : mj_S} (h : Sh L S) : m_ln S 45 = 10 := h.ln 45
theorem Sh.k46 {L : Nat} {S : mj_S} (h : Sh L S) : m_kd S 46 = 100 := h.kd 46
theorem Sh.l46 {L : Nat} {S : mj_S} (h : Sh L S) : m_ln S 46 = 10 := h.ln 46
theorem Sh.k47 {L : Nat} {S : mj_S} (h : Sh L S) : m_kd S 47 = 100 := h.kd 47
theorem Sh.l47 {L : Nat} {S : mj_S} (h : Sh L S) : m_ln S 47 = 10 := h.ln 47
theorem Sh.k48 {L : Nat} {S : mj_S} (h : Sh L S) : m_kd S 48 = 100 := h.kd 48
theorem Sh.l48 {L : Nat} {S : mj_S} (h : Sh L S) : m_ln S 48 = 6 := h.ln 48
theorem Sh.k49 {L : Nat} {S : mj_S} (h : Sh L S) : m_kd S 49 = 100 := h.kd 49
theorem Sh.l49 {L : Nat} {S : mj_S} (h : Sh L S) : m_ln S 49 = 6 := h.ln 49
theorem Sh.k50 {L : Nat} {S : mj_S} (h : Sh L S) : m_kd S 50 = 7 := h.kd 50
theorem Sh.k51 {L : Nat} {S : mj_S} (h : Sh L S) : m_kd S 51 = 5 := h.kd 51
theorem Sh.k52 {L : Nat} {S : mj_S} (h : Sh L S) : m_kd S 52 = 100 := h.kd 52
theorem Sh.l52 {L : Nat} {S : mj_S} (h : Sh L S) : m_ln S 52 = 10 := h.ln 52
theorem Sh.k53 {L : Nat} {S : mj_S} (h : Sh L S) : m_kd S 53 = 100 := h.kd 53
theorem Sh.l53 {L : Nat} {S : mj_S} (h : Sh L S) : m_ln S 53 = 10 := h.ln 53
theorem Sh.k54 {L : Nat} {S : mj_S} (h : Sh L S) : m_kd S 54 = 100 := h.kd 54
theorem Sh.l54 {L : Nat} {S : mj_S} (h : Sh L S) : m_ln S 54 = 10 := h.ln 54
theorem Sh.k55 {L : Nat} {S : mj_S} (h : Sh L S) : m_kd S 55 = 100 := h.kd 55
theorem Sh.l55 {L : Nat} {S : mj_S} (h : Sh L S) : m_ln S 55 = 10 := h.ln 55
theorem Sh.k56 {L : Nat} {S : mj_S} (h : Sh L S) : m_kd S 56 = 100 := h.kd 56
theorem Sh.l56 {L : Nat} {S : mj_S} (h : Sh L S) : m_ln S 56 = 10 := h.ln 56
theorem Sh.k57 {L : Nat} {S : mj_S} (h : Sh L S) : m_kd S 57 = 100 := h.kd 57
theorem Sh.l57 {L : Nat} {S : mj_S} (h : Sh L S) : m_ln S 57 = 10 := h.ln 57
theorem Sh.k58 {L : Nat} {S : mj_S} (h : Sh L S) : m_kd S 58 = 100 := h.kd 58
theorem Sh.l58 {L : Nat} {S : mj_S} (h : Sh L S) : m_ln S 58 = 6 := h.ln 58
theorem Sh.k59 {L : Nat} {S : mj_S} (h : Sh L S) : m_kd S 59 = 100 := h.kd 59
theorem Sh.l59 {L : Nat} {S : mj_S} (h : Sh L S) : m_ln S 59 = 6 := h.ln 59
theorem Sh.k60 {L : Nat} {S : mj_S} (h : Sh L S) : m_kd S 60 = 100 := h.kd 60
theorem Sh.l60 {L : Nat} {S : mj_S} (h : Sh L S) : m_ln S 60 = 10 := h.ln 60
theorem Sh.k61 {L : Nat} {S : mj_S} (h : Sh L S) : m_kd S 61 = 100 := h.kd 61
theorem Sh.l61 {L : Nat} {S : mj_S} (h : Sh L S) : m_ln S 61 = 6 := h.ln 61
theorem Sh.k62 {L : Nat} {S : mj_S} (h : Sh L S) : m_kd S 62 = 7 := h.kd 62
theorem Sh.k63 {L : Nat} {S : mj_S} (h : Sh L S) : m_kd S 63 = 5 := h.kd 63
theorem Sh.k64 {L : Nat} {S : mj_S} (h : Sh L S) : m_kd S 64 = 100 := h.kd 64
theorem Sh.l64 {L : Nat} {S : mj_S} (h : Sh L S) : m_ln S 64 = 10 := h.ln 64
theorem Sh.k65 {L : Nat} {S : mj_S} (h : Sh L S) : m_kd S 65 = 100 := h.kd 65
theorem Sh.l65 {L : Nat} {S : mj_S} (h : Sh L S) : m_ln S 65 = 10 := h.ln 65
theorem Sh.k66 {L : Nat} {S : mj_S} (h : Sh L S) : m_kd S 66 = 100 := h.kd 66
theorem Sh.l66 {L : Nat} {S : mj_S} (h : Sh L S) : m_ln S 66 = 10 := h.ln 66
theorem Sh.k67 {L : Nat} {S : mj_S} (h : Sh L S) : m_kd S 67 = 100 := h.kd 67
theorem Sh.l67 {L : Nat} {S : mj_S} (h : Sh L S) : m_ln S 67 = 10 := h.ln 67
theorem Sh.k68 {L : Nat} {S : mj_S} (h : Sh L S) : m_kd S 68 = 100 := h.kd 68
theorem Sh.l68 {L : Nat} {S : mj_S} (h : Sh L S) : m_ln S 68 = 10 := h.ln 68
theorem Sh.k69 {L : Nat} {S : mj_S} (h : Sh L S) : m_kd S 69 = 100 := h.kd 69
theorem Sh.l69 {L : Nat} {S : mj_S} (h : Sh L S) : m_ln S 69 = 10 := h.ln 69
theorem Sh.k70 {L : Nat} {S : mj_S} (h : Sh L S) : m_kd S 70 = 100 := h.kd 70
theorem Sh.l70 {L : Nat} {S : mj_S} (h : Sh L S) : m_ln S 70 = 6 := h.ln 70
theorem Sh.k71 {L : Nat} {S : mj_S} (h : Sh L S) : m_kd S 71 = 100 := h.kd 71
theorem Sh.l71 {L : Nat} {S : mj_S} (h : Sh L S) : m_ln S 71 = 6 := h.ln 71
theorem Sh.k72 {L : Nat} {S : mj_S} (h : Sh L S) : m_kd S 72 = 100 := h.kd 72
theorem Sh.l72 {L : Nat} {S : mj_S} (h : Sh L S) : m_ln S 72 = 10 := h.ln 72
theorem Sh.k73 {L : Nat} {S : mj_S} (h : Sh L S) : m_kd S 73 = 100 := h.kd 73
theorem Sh.l73 {L : Nat} {S : mj_S} (h : Sh L S) : m_ln S 73 = 6 := h.ln 73
theorem Sh.k74 {L : Nat} {S : mj_S} (h : Sh L S) : m_kd S 74 = 4 := h.kd 74
theorem Sh.k75 {L : Nat} {S : mj_S} (h : Sh L S) : m_kd S 75 = 100 := h.kd 75
theorem Sh.l75 {L : Nat} {S : mj_S} (h : Sh L S) : m_ln S 75 = 720 := h.ln 75
theorem Sh.k76 {L : Nat} {S : mj_S} (h : Sh L S) : m_kd S 76 = 100 := h.kd 76
theorem Sh.l76 {L : Nat} {S : mj_S} (h : Sh L S) : m_ln S 76 = 300 := h.ln 76
theorem Sh.k77 {L : Nat} {S : mj_S} (h : Sh L S) : m_kd S 77 = 100 := h.kd 77
theorem Sh.l77 {L : Nat} {S : mj_S} (h : Sh L S) : m_ln S 77 = 18 := h.ln 77
theorem Sh.k78 {L : Nat} {S : mj_S} (h : Sh L S) : m_kd S 78 = 100 := h.kd 78
theorem Sh.l78 {L : Nat} {S : mj_S} (h : Sh L S) : m_ln S 78 = 300 := h.ln 78
theorem Sh.k79 {L : Nat} {S : mj_S} (h : Sh L S) : m_kd S 79 = 0 := h.kd 79
theorem Sh.k80 {L : Nat} {S : mj_S} (h : Sh L S) : m_kd S 80 = 3 := h.kd 80
theorem Sh.k81 {L : Nat} {S : mj_S} (h : Sh L S) : m_kd S 81 = 100 := h.kd 81
theorem Sh.l81 {L : Nat} {S : mj_S} (h : Sh L S) : m_ln S 81 = 20 := h.ln 81
theorem Sh.k82 {L : Nat} {S : mj_S} (h : Sh L S) : m_kd S 82 = 100 := h.kd 82
theorem Sh.l82 {L : Nat} {S : mj_S} (h : Sh L S) : m_ln S 82 = 10 := h.ln 82
theorem Sh.k83 {L : Nat} {S : mj_S} (h : Sh L S) : m_kd S 83 = 100 := h.kd 83
theorem Sh.l83 {L : Nat} {S : mj_S} (h : Sh L S) : m_ln S 83 = 20 := h.ln 83
theorem Sh.k84 {L : Nat} {S : mj_S} (h : Sh L S) : m_kd S 84 = 100 := h.kd 84
theorem Sh.l84 {L : Nat} {S : mj_S} (h : Sh L S) : m_ln S 84 = 20 := h.ln 84
theorem Sh.k85 {L : Nat} {S : mj_S} (h : Sh L S) : m_kd S 85 = 8 := h.kd 85
theorem Sh.k86 {L : Nat} {S : mj_S} (h : Sh L S) : m_kd S 86 = 100 := h.kd 86
theorem Sh.l86 {L : Nat} {S : mj_S} (h : Sh L S) : m_ln S 86 = 121 := h.ln 86
theorem Sh.k87 {L : Nat} {S : mj_S} (h : Sh L S) : m_kd S 87 = 100 := h.kd 87
theorem Sh.l87 {L : Nat} {S : mj_S} (h : Sh L S) : m_ln S 87 = 121 := h.ln 87
theorem Sh.k88 {L : Nat} {S : mj_S} (h : Sh L S) : m_kd S 88 = 100 := h.kd 88
theorem Sh.l88 {L : Nat} {S : mj_S} (h : Sh L S) : m_ln S 88 = 5 := h.ln 88
theorem Sh.k89 {L : Nat} {S : mj_S} (h : Sh L S) : m_kd S 89 = 10 := h.kd 89
theorem Sh.k90 {L : Nat} {S : mj_S} (h : Sh L S) : m_kd S 90 = 100 := h.kd 90
theorem Sh.l90 {L : Nat} {S : mj_S} (h : Sh L S) : m_ln S 90 = 240 := h.ln 90
theorem Sh.k91 {L : Nat} {S : mj_S} (h : Sh L S) : m_kd S 91 = 100 := h.kd 91
theorem Sh.l91 {L : Nat} {S : mj_S} (h : Sh L S) : m_ln S 91 = 2600 := h.ln 91
theorem Sh.k92 {L : Nat} {S : mj_S} (h : Sh L S) : m_kd S 92 = 100 := h.kd 92
theorem Sh.l92 {L : Nat} {S : mj_S} (h : Sh L S) : m_ln S 92 = 2600 := h.ln 92
theorem Sh.k93 {L : Nat} {S : mj_S} (h : Sh L S) : m_kd S 93 = 100 := h.kd 93
theorem Sh.l93 {L : Nat} {S : mj_S} (h : Sh L S) : m_ln S 93 = 5 := h.ln 93
theorem Sh.k94 {L : Nat} {S : mj_S} (h : Sh L S) : m_kd S 94 = 100 := h.kd 94
theorem Sh.l94 {L : Nat} {S : mj_S} (h : Sh L S) : m_ln S 94 = 5 := h.ln 94
theorem Sh.k95 {L : Nat} {S : mj_S} (h : Sh L S) : m_kd S 95 = 100 := h.kd 95
theorem Sh.l95 {L : Nat} {S : mj_S} (h : Sh L S) : m_ln S 95 = 700 := h.ln 95
theorem Sh.k96 {L : Nat} {S : mj_S} (h : Sh L S) : m_kd S 96 = 100 := h.kd 96
theorem Sh.l96 {L : Nat} {S : mj_S} (h : Sh L S) : m_ln S 96 = 700 := h.ln 96
theorem Sh.k97 {L : Nat} {S : mj_S} (h : Sh L S) : m_kd S 97 = 100 := h.kd 97
theorem Sh.l97 {L : Nat} {S : mj_S} (h : Sh L S) : m_ln S 97 = 700 := h.ln 97
theorem Sh.k98 {L : Nat} {S : mj_S} (h : Sh L S) : m_kd S 98 = 100 := h.kd 98
theorem Sh.l98 {L : Nat} {S : mj_S} (h : Sh L S) : m_ln S 98 = 6 := h.ln 98
theorem Sh.k99 {L : Nat} {S : mj_S} (h : Sh L S) : m_kd S 99 = 100 := h.kd 99
theorem Sh.l99 {L : Nat} {S : mj_S} (h : Sh L S) : m_ln S 99 = 80 := h.ln 99
theorem Sh.k100 {L : Nat} {S : mj_S} (h : Sh L S) : m_kd S 100 = 100 := h.kd 100
theorem Sh.l100 {L : Nat} {S : mj_S} (h : Sh L S) : m_ln S 100 = 4 := h.ln 100
theorem Sh.k101 {L : Nat} {S : mj_S} (h : Sh L S) : m_kd S 101 = 100 := h.kd 101
theorem Sh.l101 {L : Nat} {S : mj_S} (h : Sh L S) : m_ln S 101 = 60 := h.ln 101
theorem Sh.k102 {L : Nat} {S : mj_S} (h : Sh L S) : m_kd S 102 = 100 := h.kd 102
theorem Sh.l102 {L : Nat} {S : mj_S} (h : Sh L S) : m_ln S 102 = 12 := h.ln 102
theorem Sh.k103 {L : Nat} {S : mj_S} (h : Sh L S) : m_kd S 103 = 100 := h.kd 103
theorem Sh.l103 {L : Nat} {S : mj_S} (h : Sh L S) : m_ln S 103 = 4 := h.ln 103
theorem Sh.k104 {L : Nat} {S : mj_S} (h : Sh L S) : m_kd S 104 = 100 := h.kd 104
theorem Sh.l104 {L : Nat} {S : mj_S} (h : Sh L S) : m_ln S 104 = 60 := h.ln 104
theorem Sh.k105 {L : Nat} {S : mj_S} (h : Sh L S) : m_kd S 105 = 100 := h.kd 105
theorem Sh.l105 {L : Nat} {S : mj_S} (h : Sh L S) : m_ln S 105 = 12 := h.ln 105
theorem Sh.k106 {L : Nat} {S : mj_S} (h : Sh L S) : m_kd S 106 = 100 := h.kd 106
theorem Sh.l106 {L : Nat} {S : mj_S} (h : Sh L S) : m_ln S 106 = 199 := h.ln 106
theorem Sh.k107 {L : Nat} {S : mj_S} (h : Sh L S) : m_kd S 107 = 100 := h.kd 107
theorem Sh.l107 {L : Nat} {S : mj_S} (h : Sh L S) : m_ln S 107 = 5 := h.ln 107
theorem Sh.k108 {L : Nat} {S : mj_S} (h : Sh L S) : m_kd S 108 = 100 := h.kd 108
theorem Sh.l108 {L : Nat} {S : mj_S} (h : Sh L S) : m_ln S 108 = 80 := h.ln 108
theorem Sh.k109 {L : Nat} {S : mj_S} (h : Sh L S) : m_kd S 109 = 100 := h.kd 109
theorem Sh.l109 {L : Nat} {S : mj_S} (h : Sh L S) : m_ln S 109 = 80 := h.ln 109
theorem Sh.k110 {L : Nat} {S : mj_S} (h : Sh L S) : m_kd S 110 = 100 := h.kd 110
theorem Sh.l110 {L : Nat} {S : mj_S} (h : Sh L S) : m_ln S 110 = 20 := h.ln 110
theorem Sh.k111 {L : Nat} {S : mj_S} (h : Sh L S) : m_kd S 111 = 100 := h.kd 111
theorem Sh.l111 {L : Nat} {S : mj_S} (h : Sh L S) : m_ln S 111 = 10 := h.ln 111
theorem Sh.k112 {L : Nat} {S : mj_S} (h : Sh L S) : m_kd S 112 = 100 := h.kd 112
theorem Sh.l112 {L : Nat} {S : mj_S} (h : Sh L S) : m_ln S 112 = 7960 := h.ln 112
theorem Sh.k113 {L : Nat} {S : mj_S} (h : Sh L S) : m_kd S 113 = 100 := h.kd 113
theorem Sh.l113 {L : Nat} {S : mj_S} (h : Sh L S) : m_ln S 113 = 18 := h.ln 113
theorem Sh.k114 {L : Nat} {S : mj_S} (h : Sh L S) : m_kd S 114 = 100 := h.kd 114
theorem Sh.l114 {L : Nat} {S : mj_S} (h : Sh L S) : m_ln S 114 = 121 := h.ln 114
theorem Sh.k115 {L : Nat} {S : mj_S} (h : Sh L S) : m_kd S 115 = 100 := h.kd 115
theorem Sh.l115 {L : Nat} {S : mj_S} (h : Sh L S) : m_ln S 115 = 121 := h.ln 115
theorem Sh.k116 {L : Nat} {S : mj_S} (h : Sh L S) : m_kd S 116 = 100 := h.kd 116
theorem Sh.l116 {L : Nat} {S : mj_S} (h : Sh L S) : m_ln S 116 = 10 := h.ln 116
theorem Sh.k117 {L : Nat} {S : mj_S} (h : Sh L S) : m_kd S 117 = 101 := h.kd 117
theorem Sh.l117 {L : Nat} {S : mj_S} (h : Sh L S) : m_ln S 117 = 10 := h.ln 117
theorem Sh.k118 {L : Nat} {S : mj_S} (h : Sh L S) : m_kd S 118 = 100 := h.kd 118
theorem Sh.l118 {L : Nat} {S : mj_S} (h : Sh L S) : m_ln S 118 = 199 := h.ln 118
theorem Sh.k119 {L : Nat} {S : mj_S} (h : Sh L S) : m_kd S 119 = 102 := h.kd 119
theorem Sh.l119 {L : Nat} {S : mj_S} (h : Sh L S) : m_ln S 119 = 1 := h.ln 119
theorem Sh.p6_0 {L : Nat} {S : mj_S} (h : Sh L S) : m_gp S 6 0 = some 7 := h.2 ((6, 0), 7) (List.mem_of_getElem? (i := 0) rfl)
theorem Sh.p6_2 {L : Nat} {S : mj_S} (h : Sh L S) : m_gp S 6 2 = some 8 := h.2 ((6, 2), 8) (List.mem_of_getElem? (i := 1) rfl)
theorem Sh.p10_8 {L : Nat} {S : mj_S} (h : Sh L S) : m_gp S 10 8 = some 11 := h.2 ((10, 8), 11) (List.mem_of_getElem? (i := 2) rfl)
theorem Sh.p10_9 {L : Nat} {S : mj_S} (h : Sh L S) : m_gp S 10 9 = some 12 := h.2 ((10, 9), 12) (List.mem_of_getElem? (i := 3) rfl)
theorem Sh.p10_10 {L : Nat} {S : mj_S} (h : Sh L S) : m_gp S 10 10 = some 13 := h.2 ((10, 10), 13) (List.mem_of_getElem? (i := 4) rfl)
theorem Sh.p10_11 {L : Nat} {S : mj_S} (h : Sh L S) : m_gp S 10 11 = some 14 := h.2 ((10, 11), 14) (List.mem_of_getElem? (i := 5) rfl)
theorem Sh.p10_12 {L : Nat} {S : mj_S} (h : Sh L S) : m_gp S 10 12 = some 15 := h.2 ((10, 12), 15) (List.mem_of_getElem? (i := 6) rfl)
theorem Sh.p10_13 {L : Nat} {S : mj_S} (h : Sh L S) : m_gp S 10 13 = some 16 := h.2 ((10, 13), 16) (List.mem_of_getElem? (i := 7) rfl)
theorem Sh.p10_16 {L : Nat} {S : mj_S} (h : Sh L S) : m_gp S 10 16 = some 17 := h.2 ((10, 16), 17) (List.mem_of_getElem? (i := 8) rfl)
theorem Sh.p10_17 {L : Nat} {S : mj_S} (h : Sh L S) : m_gp S 10 17 = some 18 := h.2 ((10, 17), 18) (List.mem_of_getElem? (i := 9) rfl)
theorem Sh.p8_5 {L : Nat} {S : mj_S} (h : Sh L S) : m_gp S 8 5 = some 19 := h.2 ((8, 5), 19) (List.mem_of_getElem? (i := 10) rfl)
theorem Sh.p6_3 {L : Nat} {S : mj_S} (h : Sh L S) : m_gp S 6 3 = some 20 := h.2 ((6, 3), 20) (List.mem_of_getElem? (i := 11) rfl)
theorem Sh.p20_3 {L : Nat} {S : mj_S} (h : Sh L S) : m_gp S 20 3 = some 22 := h.2 ((20, 3), 22) (List.mem_of_getElem? (i := 12) rfl)
theorem Sh.p6_4 {L : Nat} {S : mj_S} (h : Sh L S) : m_gp S 6 4 = some 23 := h.2 ((6, 4), 23) (List.mem_of_getElem? (i := 13) rfl)
theorem Sh.p23_2 {L : Nat} {S : mj_S} (h : Sh L S) : m_gp S 23 2 = some 24 := h.2 ((23, 2), 24) (List.mem_of_getElem? (i := 14) rfl)
theorem Sh.p24_0 {L : Nat} {S : mj_S} (h : Sh L S) : m_gp S 24 0 = some 25 := h.2 ((24, 0), 25) (List.mem_of_getElem? (i := 15) rfl)
theorem Sh.p24_1 {L : Nat} {S : mj_S} (h : Sh L S) : m_gp S 24 1 = some 26 := h.2 ((24, 1), 26) (List.mem_of_getElem? (i := 16) rfl)
theorem Sh.p24_2 {L : Nat} {S : mj_S} (h : Sh L S) : m_gp S 24 2 = some 27 := h.2 ((24, 2), 27) (List.mem_of_getElem? (i := 17) rfl)
theorem Sh.p24_3 {L : Nat} {S : mj_S} (h : Sh L S) : m_gp S 24 3 = some 28 := h.2 ((24, 3), 28) (List.mem_of_getElem? (i := 18) rfl)
theorem Sh.p23_3 {L : Nat} {S : mj_S} (h : Sh L S) : m_gp S 23 3 = some 29 := h.2 ((23, 3), 29) (List.mem_of_getElem? (i := 19) rfl)
theorem Sh.p23_4 {L : Nat} {S : mj_S} (h : Sh L S) : m_gp S 23 4 = some 30 := h.2 ((23, 4), 30) (List.mem_of_getElem? (i := 20) rfl)
theorem Sh.p23_5 {L : Nat} {S : mj_S} (h : Sh L S) : m_gp S 23 5 = some 31 := h.2 ((23, 5), 31) (List.mem_of_getElem? (i := 21) rfl)
theorem Sh.p32_8 {L : Nat} {S : mj_S} (h : Sh L S) : m_gp S 32 8 = some 33 := h.2 ((32, 8), 33) (List.mem_of_getElem? (i := 22) rfl)
theorem Sh.p32_9 {L : Nat} {S : mj_S} (h : Sh L S) : m_gp S 32 9 = some 34 := h.2 ((32, 9), 34) (List.mem_of_getElem? (i := 23) rfl)
theorem Sh.p32_10 {L : Nat} {S : mj_S} (h : Sh L S) : m_gp S 32 10 = some 35 := h.2 ((32, 10), 35) (List.mem_of_getElem? (i := 24) rfl)
theorem Sh.p32_11 {L : Nat} {S : mj_S} (h : Sh L S) : m_gp S 32 11 = some 36 := h.2 ((32, 11), 36) (List.mem_of_getElem? (i := 25) rfl)
theorem Sh.p32_12 {L : Nat} {S : mj_S} (h : Sh L S) : m_gp S 32 12 = some 37 := h.2 ((32, 12), 37) (List.mem_of_getElem? (i := 26) rfl)
theorem Sh.p32_13 {L : Nat} {S : mj_S} (h : Sh L S) : m_gp S 32 13 = some 38 := h.2 ((32, 13), 38) (List.mem_of_getElem? (i := 27) rfl)
theorem Sh.p32_16 {L : Nat} {S : mj_S} (h : Sh L S) : m_gp S 32 16 = some 39 := h.2 ((32, 16), 39) (List.mem_of_getElem? (i := 28) rfl)
theorem Sh.p32_17 {L : Nat} {S : mj_S} (h : Sh L S) : m_gp S 32 17 = some 40 := h.2 ((32, 17), 40) (List.mem_of_getElem? (i := 29) rfl)
theorem Sh.p41_8 {L : Nat} {S : mj_S} (h : Sh L S) : m_gp S 41 8 = some 42 := h.2 ((41, 8), 42) (List.mem_of_getElem? (i := 30) rfl)
theorem Sh.p41_9 {L : Nat} {S : mj_S} (h : Sh L S) : m_gp S 41 9 = some 43 := h.2 ((41, 9), 43) (List.mem_of_getElem? (i := 31) rfl)
theorem Sh.p41_10 {L : Nat} {S : mj_S} (h : Sh L S) : m_gp S 41 10 = some 44 := h.2 ((41, 10), 44) (List.mem_of_getElem? (i := 32) rfl)
theorem Sh.p41_11 {L : Nat} {S : mj_S} (h : Sh L S) : m_gp S 41 11 = some 45 := h.2 ((41, 11), 45) (List.mem_of_getElem? (i := 33) rfl)
theorem Sh.p41_12 {L : Nat} {S : mj_S} (h : Sh L S) : m_gp S 41 12 = some 46 := h.2 ((41, 12), 46) (List.mem_of_getElem? (i := 34) rfl)
theorem Sh.p41_13 {L : Nat} {S : mj_S} (h : Sh L S) : m_gp S 41 13 = some 47 := h.2 ((41, 13), 47) (List.mem_of_getElem? (i := 35) rfl)
theorem Sh.p41_16 {L : Nat} {S : mj_S} (h : Sh L S) : m_gp S 41 16 = some 48 := h.2 ((41, 16), 48) (List.mem_of_getElem? (i := 36) rfl)
theorem Sh.p41_17 {L : Nat} {S : mj_S} (h : Sh L S) : m_gp S 41 17 = some 49 := h.2 ((41, 17), 49) (List.mem_of_getElem? (i := 37) rfl)
theorem Sh.p6_7 {L : Nat} {S : mj_S} (h : Sh L S) : m_gp S 6 7 = some 50 := h.2 ((6, 7), 50) (List.mem_of_getElem? (i := 38) rfl)
theorem Sh.p51_8 {L : Nat} {S : mj_S} (h : Sh L S) : m_gp S 51 8 = some 52 := h.2 ((51, 8), 52) (List.mem_of_getElem? (i := 39) rfl)
theorem Sh.p51_9 {L : Nat} {S : mj_S} (h : Sh L S) : m_gp S 51 9 = some 53 := h.2 ((51, 9), 53) (List.mem_of_getElem? (i := 40) rfl)
theorem Sh.p51_10 {L : Nat} {S : mj_S} (h : Sh L S) : m_gp S 51 10 = some 54 := h.2 ((51, 10), 54) (List.mem_of_getElem? (i := 41) rfl)
theorem Sh.p51_11 {L : Nat} {S : mj_S} (h : Sh L S) : m_gp S 51 11 = some 55 := h.2 ((51, 11), 55) (List.mem_of_getElem? (i := 42) rfl)
theorem Sh.p51_12 {L : Nat} {S : mj_S} (h : Sh L S) : m_gp S 51 12 = some 56 := h.2 ((51, 12), 56) (List.mem_of_getElem? (i := 43) rfl)
theorem Sh.p51_13 {L : Nat} {S : mj_S} (h : Sh L S) : m_gp S 51 13 = some 57 := h.2 ((51, 13), 57) (List.mem_of_getElem? (i := 44) rfl)
theorem Sh.p51_16 {L : Nat} {S : mj_S} (h : Sh L S) : m_gp S 51 16 = some 58 := h.2 ((51, 16), 58) (List.mem_of_getElem? (i := 45) rfl)
theorem Sh.p51_17 {L : Nat} {S : mj_S} (h : Sh L S) : m_gp S 51 17 = some 59 := h.2 ((51, 17), 59) (List.mem_of_getElem? (i := 46) rfl)
theorem Sh.p50_1 {L : Nat} {S : mj_S} (h : Sh L S) : m_gp S 50 1 = some 60 := h.2 ((50, 1), 60) (List.mem_of_getElem? (i := 47) rfl)
theorem Sh.p50_2 {L : Nat} {S : mj_S} (h : Sh L S) : m_gp S 50 2 = some 61 := h.2 ((50, 2), 61) (List.mem_of_getElem? (i := 48) rfl)
theorem Sh.p6_8 {L : Nat} {S : mj_S} (h : Sh L S) : m_gp S 6 8 = some 62 := h.2 ((6, 8), 62) (List.mem_of_getElem? (i := 49) rfl)
theorem Sh.p63_8 {L : Nat} {S : mj_S} (h : Sh L S) : m_gp S 63 8 = some 64 := h.2 ((63, 8), 64) (List.mem_of_getElem? (i := 50) rfl)
theorem Sh.p63_9 {L : Nat} {S : mj_S} (h : Sh L S) : m_gp S 63 9 = some 65 := h.2 ((63, 9), 65) (List.mem_of_getElem? (i := 51) rfl)
theorem Sh.p63_10 {L : Nat} {S : mj_S} (h : Sh L S) : m_gp S 63 10 = some 66 := h.2 ((63, 10), 66) (List.mem_of_getElem? (i := 52) rfl)
theorem Sh.p63_11 {L : Nat} {S : mj_S} (h : Sh L S) : m_gp S 63 11 = some 67 := h.2 ((63, 11), 67) (List.mem_of_getElem? (i := 53) rfl)
theorem Sh.p63_12 {L : Nat} {S : mj_S} (h : Sh L S) : m_gp S 63 12 = some 68 := h.2 ((63, 12), 68) (List.mem_of_getElem? (i := 54) rfl)
theorem Sh.p63_13 {L : Nat} {S : mj_S} (h : Sh L S) : m_gp S 63 13 = some 69 := h.2 ((63, 13), 69) (List.mem_of_getElem? (i := 55) rfl)
theorem Sh.p63_16 {L : Nat} {S : mj_S} (h : Sh L S) : m_gp S 63 16 = some 70 := h.2 ((63, 16), 70) (List.mem_of_getElem? (i := 56) rfl)
theorem Sh.p63_17 {L : Nat} {S : mj_S} (h : Sh L S) : m_gp S 63 17 = some 71 := h.2 ((63, 17), 71) (List.mem_of_getElem? (i := 57) rfl)
theorem Sh.p62_1 {L : Nat} {S : mj_S} (h : Sh L S) : m_gp S 62 1 = some 72 := h.2 ((62, 1), 72) (List.mem_of_getElem? (i := 58) rfl)
theorem Sh.p62_2 {L : Nat} {S : mj_S} (h : Sh L S) : m_gp S 62 2 = some 73 := h.2 ((62, 2), 73) (List.mem_of_getElem? (i := 59) rfl)
theorem Sh.p6_9 {L : Nat} {S : mj_S} (h : Sh L S) : m_gp S 6 9 = some 74 := h.2 ((6, 9), 74) (List.mem_of_getElem? (i := 60) rfl)
theorem Sh.p74_2 {L : Nat} {S : mj_S} (h : Sh L S) : m_gp S 74 2 = some 75 := h.2 ((74, 2), 75) (List.mem_of_getElem? (i := 61) rfl)
theorem Sh.p74_3 {L : Nat} {S : mj_S} (h : Sh L S) : m_gp S 74 3 = some 76 := h.2 ((74, 3), 76) (List.mem_of_getElem? (i := 62) rfl)
theorem Sh.p74_5 {L : Nat} {S : mj_S} (h : Sh L S) : m_gp S 74 5 = some 77 := h.2 ((74, 5), 77) (List.mem_of_getElem? (i := 63) rfl)
theorem Sh.p74_6 {L : Nat} {S : mj_S} (h : Sh L S) : m_gp S 74 6 = some 78 := h.2 ((74, 6), 78) (List.mem_of_getElem? (i := 64) rfl)
theorem Sh.p6_10 {L : Nat} {S : mj_S} (h : Sh L S) : m_gp S 6 10 = some 79 := h.2 ((6, 10), 79) (List.mem_of_getElem? (i := 65) rfl)
theorem Sh.p6_11 {L : Nat} {S : mj_S} (h : Sh L S) : m_gp S 6 11 = some 80 := h.2 ((6, 11), 80) (List.mem_of_getElem? (i := 66) rfl)
theorem Sh.p80_0 {L : Nat} {S : mj_S} (h : Sh L S) : m_gp S 80 0 = some 81 := h.2 ((80, 0), 81) (List.mem_of_getElem? (i := 67) rfl)
theorem Sh.p80_1 {L : Nat} {S : mj_S} (h : Sh L S) : m_gp S 80 1 = some 82 := h.2 ((80, 1), 82) (List.mem_of_getElem? (i := 68) rfl)
theorem Sh.p80_2 {L : Nat} {S : mj_S} (h : Sh L S) : m_gp S 80 2 = some 83 := h.2 ((80, 2), 83) (List.mem_of_getElem? (i := 69) rfl)
theorem Sh.p80_3 {L : Nat} {S : mj_S} (h : Sh L S) : m_gp S 80 3 = some 84 := h.2 ((80, 3), 84) (List.mem_of_getElem? (i := 70) rfl)
theorem Sh.p6_12 {L : Nat} {S : mj_S} (h : Sh L S) : m_gp S 6 12 = some 85 := h.2 ((6, 12), 85) (List.mem_of_getElem? (i := 71) rfl)
theorem Sh.p85_1 {L : Nat} {S : mj_S} (h : Sh L S) : m_gp S 85 1 = some 86 := h.2 ((85, 1), 86) (List.mem_of_getElem? (i := 72) rfl)
theorem Sh.p85_2 {L : Nat} {S : mj_S} (h : Sh L S) : m_gp S 85 2 = some 87 := h.2 ((85, 2), 87) (List.mem_of_getElem? (i := 73) rfl)
theorem Sh.p6_13 {L : Nat} {S : mj_S} (h : Sh L S) : m_gp S 6 13 = some 88 := h.2 ((6, 13), 88) (List.mem_of_getElem? (i := 74) rfl)
theorem Sh.p89_1 {L : Nat} {S : mj_S} (h : Sh L S) : m_gp S 89 1 = some 90 := h.2 ((89, 1), 90) (List.mem_of_getElem? (i := 75) rfl)
theorem Sh.p89_6 {L : Nat} {S : mj_S} (h : Sh L S) : m_gp S 89 6 = some 91 := h.2 ((89, 6), 91) (List.mem_of_getElem? (i := 76) rfl)
theorem Sh.p89_7 {L : Nat} {S : mj_S} (h : Sh L S) : m_gp S 89 7 = some 92 := h.2 ((89, 7), 92) (List.mem_of_getElem? (i := 77) rfl)
theorem Sh.p89_8 {L : Nat} {S : mj_S} (h : Sh L S) : m_gp S 89 8 = some 93 := h.2 ((89, 8), 93) (List.mem_of_getElem? (i := 78) rfl)
theorem Sh.p89_9 {L : Nat} {S : mj_S} (h : Sh L S) : m_gp S 89 9 = some 94 := h.2 ((89, 9), 94) (List.mem_of_getElem? (i := 79) rfl)
theorem Sh.p89_10 {L : Nat} {S : mj_S} (h : Sh L S) : m_gp S 89 10 = some 95 := h.2 ((89, 10), 95) (List.mem_of_getElem? (i := 80) rfl)
theorem Sh.p89_11 {L : Nat} {S : mj_S} (h : Sh L S) : m_gp S 89 11 = some 96 := h.2 ((89, 11), 96) (List.mem_of_getElem? (i := 81) rfl)
theorem Sh.p89_12 {L : Nat} {S : mj_S} (h : Sh L S) : m_gp S 89 12 = some 97 := h.2 ((89, 12), 97) (List.mem_of_getElem? (i := 82) rfl)
theorem Sh.p89_15 {L : Nat} {S : mj_S} (h : Sh L S) : m_gp S 89 15 = some 98 := h.2 ((89, 15), 98) (List.mem_of_getElem? (i := 83) rfl)
theorem Sh.p89_16 {L : Nat} {S : mj_S} (h : Sh L S) : m_gp S 89 16 = some 99 := h.2 ((89, 16), 99) (List.mem_of_getElem? (i := 84) rfl)
theorem Sh.p89_17 {L : Nat} {S : mj_S} (h : Sh L S) : m_gp S 89 17 = some 100 := h.2 ((89, 17), 100) (List.mem_of_getElem? (i := 85) rfl)
theorem Sh.p89_18 {L : Nat} {S : mj_S} (h : Sh L S) : m_gp S 89 18 = some 101 := h.2 ((89, 18), 101) (List.mem_of_getElem? (i := 86) rfl)
theorem Sh.p89_19 {L : Nat} {S : mj_S} (h : Sh L S) : m_gp S 89 19 = some 102 := h.2 ((89, 19), 102) (List.mem_of_getElem? (i := 87) rfl)
theorem Sh.p89_22 {L : Nat} {S : mj_S} (h : Sh L S) : m_gp S 89 22 = some 103 := h.2 ((89, 22), 103) (List.mem_of_getElem? (i := 88) rfl)
theorem Sh.p89_23 {L : Nat} {S : mj_S} (h : Sh L S) : m_gp S 89 23 = some 104 := h.2 ((89, 23), 104) (List.mem_of_getElem? (i := 89) rfl)
theorem Sh.p89_24 {L : Nat} {S : mj_S} (h : Sh L S) : m_gp S 89 24 = some 105 := h.2 ((89, 24), 105) (List.mem_of_getElem? (i := 90) rfl)
theorem Sh.p89_28 {L : Nat} {S : mj_S} (h : Sh L S) : m_gp S 89 28 = some 106 := h.2 ((89, 28), 106) (List.mem_of_getElem? (i := 91) rfl)
theorem Sh.p89_29 {L : Nat} {S : mj_S} (h : Sh L S) : m_gp S 89 29 = some 107 := h.2 ((89, 29), 107) (List.mem_of_getElem? (i := 92) rfl)
theorem Sh.p89_32 {L : Nat} {S : mj_S} (h : Sh L S) : m_gp S 89 32 = some 108 := h.2 ((89, 32), 108) (List.mem_of_getElem? (i := 93) rfl)
theorem Sh.p89_33 {L : Nat} {S : mj_S} (h : Sh L S) : m_gp S 89 33 = some 109 := h.2 ((89, 33), 109) (List.mem_of_getElem? (i := 94) rfl)
theorem Sh.p89_34 {L : Nat} {S : mj_S} (h : Sh L S) : m_gp S 89 34 = some 110 := h.2 ((89, 34), 110) (List.mem_of_getElem? (i := 95) rfl)
theorem Sh.p89_35 {L : Nat} {S : mj_S} (h : Sh L S) : m_gp S 89 35 = some 111 := h.2 ((89, 35), 111) (List.mem_of_getElem? (i := 96) rfl)
theorem Sh.p89_36 {L : Nat} {S : mj_S} (h : Sh L S) : m_gp S 89 36 = some 112 := h.2 ((89, 36), 112) (List.mem_of_getElem? (i := 97) rfl)
theorem Sh.p89_39 {L : Nat} {S : mj_S} (h : Sh L S) : m_gp S 89 39 = some 113 := h.2 ((89, 39), 113) (List.mem_of_getElem? (i := 98) rfl)
theorem Sh.p89_40 {L : Nat} {S : mj_S} (h : Sh L S) : m_gp S 89 40 = some 114 := h.2 ((89, 40), 114) (List.mem_of_getElem? (i := 99) rfl)
theorem Sh.p89_41 {L : Nat} {S : mj_S} (h : Sh L S) : m_gp S 89 41 = some 115 := h.2 ((89, 41), 115) (List.mem_of_getElem? (i := 100) rfl)
theorem Sh.p89_42 {L : Nat} {S : mj_S} (h : Sh L S) : m_gp S 89 42 = some 116 := h.2 ((89, 42), 116) (List.mem_of_getElem? (i := 101) rfl)
theorem Sh.p89_43 {L : Nat} {S : mj_S} (h : Sh L S) : m_gp S 89 43 = some 117 := h.2 ((89, 43), 117) (List.mem_of_getElem? (i := 102) rfl)
theorem Sh.p89_45 {L : Nat} {S : mj_S} (h : Sh L S) : m_gp S 89 45 = some 118 := h.2 ((89, 45), 118) (List.mem_of_getElem? (i := 103) rfl)
/-- all is as it was but the whole numbers at D -/
def fr (D : Nat → Nat → Bool) (S S' : mj_S) : Prop := S'.1 = S.1 ∧ (∀ a j, D a j = false → m_gi S' a j = m_gi S a j) ∧ (∀ a j, m_gl S' a j = m_gl S a j) ∧ ∀ a j, m_gp S' a j = m_gp S a j
theorem fr.rf {D : Nat → Nat → Bool} {S : mj_S} : fr D S S := ⟨rfl, fun _ _ _ => rfl, fun _ _ => rfl, fun _ _ => rfl⟩
theorem fr.tr {D : Nat → Nat → Bool} {S S' S'' : mj_S} (h1 : fr D S S') (h2 : fr D S' S'') : fr D S S'' := ⟨h2.1.trans h1.1, fun a j h => (h2.2.1 a j h).trans (h1.2.1 a j h), fun a j => (h2.2.2.1 a j).trans (h1.2.2.1 a j), fun a j => (h2.2.2.2 a j).trans (h1.2.2.2 a j)⟩
theorem fr.wid {D E : Nat → Nat → Bool} {S S' : mj_S} (h : fr D S S') (hDE : ∀ a j, E a j = false → D a j = false) : fr E S S' := ⟨h.1, fun a j q => h.2.1 a j (hDE a j q), h.2.2⟩
theorem fr.i {D : Nat → Nat → Bool} {S S' : mj_S} (h : fr D S S') (a j : Nat) (q : D a j = false) : m_gi S' a j = m_gi S a j := h.2.1 a j q
theorem fr.p {D : Nat → Nat → Bool} {S S' : mj_S} (h : fr D S S') (a j : Nat) : m_gp S' a j = m_gp S a j := h.2.2.2 a j
theorem fr.si {D : Nat → Nat → Bool} {S : mj_S} {a j : Nat} {x : Int32} (h : D a j = true) : fr D S (m_si S a j x) := ⟨rfl, fun b k q => by rw [m_gi_si, if_neg (fun z => by rw [z.1, z.2, h] at q; cases q)], fun _ _ => rfl, fun _ _ => rfl⟩
theorem fr.row {D : Nat → Nat → Bool} {S : mj_S} {a : Nat} {f : Nat → Int32} (h : ∀ j, D a j = true) : fr D S (m_row S a f) := ⟨rfl, fun b k q => by rw [m_gi_row, if_neg (fun z => by rw [z, h] at q; cases q)], fun _ _ => rfl, fun _ _ => rfl⟩
theorem Sh.fr {L : Nat} {D : Nat → Nat → Bool} {S S' : mj_S} (h : Sh L S) (hf : fr D S S') : Sh L S' := ⟨hf.1.trans h.1, fun x hx => (hf.p _ _).trans (h.2 x hx)⟩
theorem Sh.si {L : Nat} {S : mj_S} (h : Sh L S) {a j : Nat} {x : Int32} : Sh L (m_si S a j x) := h
theorem Sh.row {L : Nat} {S : mj_S} (h : Sh L S) {a : Nat} {f : Nat → Int32} : Sh L (m_row S a f) := h
/-- the class's scratch, the reference's scratch -/
def DC (a j : Nat) : Bool := (Nat.ble 79 a && Nat.ble a 87) || (Nat.ble 30 a && Nat.ble a 31) || (Nat.beq a 23 && Nat.beq j 6)
def DR (a j : Nat) : Bool := (Nat.ble 98 a && Nat.ble a 99) || (Nat.ble 110 a && Nat.ble a 111) || (Nat.ble 113 a && Nat.ble a 115)
/-- the cells of rooms -/
def isRm (r : Nat) : Prop := r = 10 ∨ r = 32 ∨ r = 41 ∨ r = 51 ∨ r = 63
theorem Sh.rk {L r : Nat} {S : mj_S} (h : Sh L S) (hr : isRm r) : m_kd S r = 5 := by
  rcases hr with e | e | e | e | e <;> subst e
  · exact h.k10
  · exact h.k32
  · exact h.k41
  · exact h.k51
  · exact h.k63
theorem Sh.rp8 {L r : Nat} {S : mj_S} (h : Sh L S) (hr : isRm r) : m_gp S r 8 = some (r + 1) := by
  rcases hr with e | e | e | e | e <;> subst e
  · exact h.p10_8
  · exact h.p32_8
  · exact h.p41_8
  · exact h.p51_8
  · exact h.p63_8
theorem Sh.rl8 {L r : Nat} {S : mj_S} (h : Sh L S) (hr : isRm r) : m_ln S (r + 1) = 10 := by
  rcases hr with e | e | e | e | e <;> subst e
  · exact h.l11
  · exact h.l33
  · exact h.l42
  · exact h.l52
  · exact h.l64
theorem Sh.rq8 {L r : Nat} {S : mj_S} (h : Sh L S) (hr : isRm r) : m_kd S (r + 1) = 100 := by
  rcases hr with e | e | e | e | e <;> subst e
  · exact h.k11
  · exact h.k33
  · exact h.k42
  · exact h.k52
  · exact h.k64
theorem Sh.rp9 {L r : Nat} {S : mj_S} (h : Sh L S) (hr : isRm r) : m_gp S r 9 = some (r + 2) := by
  rcases hr with e | e | e | e | e <;> subst e
  · exact h.p10_9
  · exact h.p32_9
  · exact h.p41_9
  · exact h.p51_9
  · exact h.p63_9
theorem Sh.rl9 {L r : Nat} {S : mj_S} (h : Sh L S) (hr : isRm r) : m_ln S (r + 2) = 10 := by
  rcases hr with e | e | e | e | e <;> subst e
  · exact h.l12
  · exact h.l34
  · exact h.l43
  · exact h.l53
  · exact h.l65
theorem Sh.rq9 {L r : Nat} {S : mj_S} (h : Sh L S) (hr : isRm r) : m_kd S (r + 2) = 100 := by
  rcases hr with e | e | e | e | e <;> subst e
  · exact h.k12
  · exact h.k34
  · exact h.k43
  · exact h.k53
  · exact h.k65
theorem Sh.rp10 {L r : Nat} {S : mj_S} (h : Sh L S) (hr : isRm r) : m_gp S r 10 = some (r + 3) := by
  rcases hr with e | e | e | e | e <;> subst e
  · exact h.p10_10
  · exact h.p32_10
  · exact h.p41_10
  · exact h.p51_10
  · exact h.p63_10
theorem Sh.rl10 {L r : Nat} {S : mj_S} (h : Sh L S) (hr : isRm r) : m_ln S (r + 3) = 10 := by
  rcases hr with e | e | e | e | e <;> subst e
  · exact h.l13
  · exact h.l35
  · exact h.l44
  · exact h.l54
  · exact h.l66
theorem Sh.rq10 {L r : Nat} {S : mj_S} (h : Sh L S) (hr : isRm r) : m_kd S (r + 3) = 100 := by
  rcases hr with e | e | e | e | e <;> subst e
  · exact h.k13
  · exact h.k35
  · exact h.k44
  · exact h.k54
  · exact h.k66
theorem Sh.rp11 {L r : Nat} {S : mj_S} (h : Sh L S) (hr : isRm r) : m_gp S r 11 = some (r + 4) := by
  rcases hr with e | e | e | e | e <;> subst e
  · exact h.p10_11
  · exact h.p32_11
  · exact h.p41_11
  · exact h.p51_11
  · exact h.p63_11
theorem Sh.rl11 {L r : Nat} {S : mj_S} (h : Sh L S) (hr : isRm r) : m_ln S (r + 4) = 10 := by
  rcases hr with e | e | e | e | e <;> subst e
  · exact h.l14
  · exact h.l36
  · exact h.l45
  · exact h.l55
  · exact h.l67
theorem Sh.rq11 {L r : Nat} {S : mj_S} (h : Sh L S) (hr : isRm r) : m_kd S (r + 4) = 100 := by
  rcases hr with e | e | e | e | e <;> subst e
  · exact h.k14
  · exact h.k36
  · exact h.k45
  · exact h.k55
  · exact h.k67
theorem Sh.rp12 {L r : Nat} {S : mj_S} (h : Sh L S) (hr : isRm r) : m_gp S r 12 = some (r + 5) := by
  rcases hr with e | e | e | e | e <;> subst e
  · exact h.p10_12
  · exact h.p32_12
  · exact h.p41_12
  · exact h.p51_12
  · exact h.p63_12
theorem Sh.rl12 {L r : Nat} {S : mj_S} (h : Sh L S) (hr : isRm r) : m_ln S (r + 5) = 10 := by
  rcases hr with e | e | e | e | e <;> subst e
  · exact h.l15
  · exact h.l37
  · exact h.l46
  · exact h.l56
  · exact h.l68
theorem Sh.rq12 {L r : Nat} {S : mj_S} (h : Sh L S) (hr : isRm r) : m_kd S (r + 5) = 100 := by
  rcases hr with e | e | e | e | e <;> subst e
  · exact h.k15
  · exact h.k37
  · exact h.k46
  · exact h.k56
  · exact h.k68
theorem Sh.rp13 {L r : Nat} {S : mj_S} (h : Sh L S) (hr : isRm r) : m_gp S r 13 = some (r + 6) := by
  rcases hr with e | e | e | e | e <;> subst e
  · exact h.p10_13
  · exact h.p32_13
  · exact h.p41_13
  · exact h.p51_13
  · exact h.p63_13
theorem Sh.rl13 {L r : Nat} {S : mj_S} (h : Sh L S) (hr : isRm r) : m_ln S (r + 6) = 10 := by
  rcases hr with e | e | e | e | e <;> subst e
  · exact h.l16
  · exact h.l38
  · exact h.l47
  · exact h.l57
  · exact h.l69
theorem Sh.rq13 {L r : Nat} {S : mj_S} (h : Sh L S) (hr : isRm r) : m_kd S (r + 6) = 100 := by
  rcases hr with e | e | e | e | e <;> subst e
  · exact h.k16
  · exact h.k38
  · exact h.k47
  · exact h.k57
  · exact h.k69
theorem Sh.rp16 {L r : Nat} {S : mj_S} (h : Sh L S) (hr : isRm r) : m_gp S r 16 = some (r + 7) := by
  rcases hr with e | e | e | e | e <;> subst e
  · exact h.p10_16
  · exact h.p32_16
  · exact h.p41_16
  · exact h.p51_16
  · exact h.p63_16
theorem Sh.rl16 {L r : Nat} {S : mj_S} (h : Sh L S) (hr : isRm r) : m_ln S (r + 7) = 6 := by
  rcases hr with e | e | e | e | e <;> subst e
  · exact h.l17
  · exact h.l39
  · exact h.l48
  · exact h.l58
  · exact h.l70
theorem Sh.rq16 {L r : Nat} {S : mj_S} (h : Sh L S) (hr : isRm r) : m_kd S (r + 7) = 100 := by
  rcases hr with e | e | e | e | e <;> subst e
  · exact h.k17
  · exact h.k39
  · exact h.k48
  · exact h.k58
  · exact h.k70
theorem Sh.rp17 {L r : Nat} {S : mj_S} (h : Sh L S) (hr : isRm r) : m_gp S r 17 = some (r + 8) := by
  rcases hr with e | e | e | e | e <;> subst e
  · exact h.p10_17
  · exact h.p32_17
  · exact h.p41_17
  · exact h.p51_17
  · exact h.p63_17
theorem Sh.rl17 {L r : Nat} {S : mj_S} (h : Sh L S) (hr : isRm r) : m_ln S (r + 8) = 6 := by
  rcases hr with e | e | e | e | e <;> subst e
  · exact h.l18
  · exact h.l40
  · exact h.l49
  · exact h.l59
  · exact h.l71
theorem Sh.rq17 {L r : Nat} {S : mj_S} (h : Sh L S) (hr : isRm r) : m_kd S (r + 8) = 100 := by
  rcases hr with e | e | e | e | e <;> subst e
  · exact h.k18
  · exact h.k40
  · exact h.k49
  · exact h.k59
  · exact h.k71
def isSc (x : Nat) : Prop := x = 50 ∨ x = 62
theorem Sh.sk {L x : Nat} {S : mj_S} (h : Sh L S) (hx : isSc x) : m_kd S x = 7 := by
  rcases hx with e | e <;> subst e
  · exact h.k50
  · exact h.k62
theorem Sh.sp1 {L x : Nat} {S : mj_S} (h : Sh L S) (hx : isSc x) : m_gp S x 1 = some (x + 10) := by
  rcases hx with e | e <;> subst e
  · exact h.p50_1
  · exact h.p62_1
theorem Sh.sl1 {L x : Nat} {S : mj_S} (h : Sh L S) (hx : isSc x) : m_ln S (x + 10) = 10 := by
  rcases hx with e | e <;> subst e
  · exact h.l60
  · exact h.l72
theorem Sh.sq1 {L x : Nat} {S : mj_S} (h : Sh L S) (hx : isSc x) : m_kd S (x + 10) = 100 := by
  rcases hx with e | e <;> subst e
  · exact h.k60
  · exact h.k72
theorem Sh.sp2 {L x : Nat} {S : mj_S} (h : Sh L S) (hx : isSc x) : m_gp S x 2 = some (x + 11) := by
  rcases hx with e | e <;> subst e
  · exact h.p50_2
  · exact h.p62_2
theorem Sh.sl2 {L x : Nat} {S : mj_S} (h : Sh L S) (hx : isSc x) : m_ln S (x + 11) = 6 := by
  rcases hx with e | e <;> subst e
  · exact h.l61
  · exact h.l73
theorem Sh.sq2 {L x : Nat} {S : mj_S} (h : Sh L S) (hx : isSc x) : m_kd S (x + 11) = 100 := by
  rcases hx with e | e <;> subst e
  · exact h.k61
  · exact h.k73
