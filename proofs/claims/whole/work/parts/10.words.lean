/-! ===== z, 5: words for the walks ===== -/
def zMi (y : zY) (d : Nat) (av : List Value) (I : zI) (L : zL) (P : zP) (K : Int32 → zI → zL → zP → Prop) : Prop := zM y d 0 0 av I L P 205 (fun v I' L' P' nx' => nx' = 205 ∧ ∃ r, v = some (.int r) ∧ K r I' L' P')
def zMl (y : zY) (d : Nat) (av : List Value) (I : zI) (L : zL) (P : zP) (K : Int64 → zI → zL → zP → Prop) : Prop := zM y d 0 0 av I L P 205 (fun v I' L' P' nx' => nx' = 205 ∧ ∃ r, v = some (.long r) ∧ K r I' L' P')
def zMr (y : zY) (d : Nat) (av : List Value) (I : zI) (L : zL) (P : zP) (K : Nat → zI → zL → zP → Prop) : Prop := zM y d 0 0 av I L P 205 (fun v I' L' P' nx' => nx' = 205 ∧ ∃ r, v = some (.ref r) ∧ K r I' L' P')
def zMv (y : zY) (d : Nat) (av : List Value) (I : zI) (L : zL) (P : zP) (K : zI → zL → zP → Prop) : Prop := zM y d 0 0 av I L P 205 (fun v I' L' P' nx' => nx' = 205 ∧ v = none ∧ K I' L' P')
theorem z_nmI {y : zY} {R : Room} {mc ms : Nat} {Q : zQt} {pc : Nat} {lv : zV} {st : List Value} {e : zI} {L : zL} {P : zP} {nx cs sl : Nat} (k : ∀ I : zI, I = e → zW y R mc ms Q pc lv st I L P nx cs sl) : zW y R mc ms Q pc lv st e L P nx cs sl := k e rfl
theorem z_nmL {y : zY} {R : Room} {mc ms : Nat} {Q : zQt} {pc : Nat} {lv : zV} {st : List Value} {I : zI} {e : zL} {P : zP} {nx cs sl : Nat} (k : ∀ L : zL, L = e → zW y R mc ms Q pc lv st I L P nx cs sl) : zW y R mc ms Q pc lv st I e P nx cs sl := k e rfl
theorem z_nmP {y : zY} {R : Room} {mc ms : Nat} {Q : zQt} {pc : Nat} {lv : zV} {st : List Value} {I : zI} {L : zL} {e : zP} {nx cs sl : Nat} (k : ∀ P : zP, P = e → zW y R mc ms Q pc lv st I L P nx cs sl) : zW y R mc ms Q pc lv st I L e nx cs sl := k e rfl
theorem zbn {v : Int32} (h : v = 0 ∨ v = 1) : narrow .boolean (.int v) = .int v := by rcases h with rfl | rfl <;> decide
theorem zbf {v : Int32} (h : v = 0 ∨ v = 1) : fits .boolean (.int v) = true := by rcases h with rfl | rfl <;> decide
theorem zr64 (d : Nat) : 64 ≤ 64 * (d + 1) := by omega
def zstL : List ((Nat × Nat) × Nat) := [((0, 0), 1), ((0, 1), 3), ((0, 4), 17), ((0, 5), 23), ((0, 6), 73), ((0, 7), 86), ((0, 8), 88), ((0, 9), 89), ((0, 10), 90), ((0, 11), 96), ((0, 12), 120), ((1, 0), 2), ((3, 0), 4), ((5, 8), 6), ((5, 9), 7), ((5, 10), 8), ((5, 11), 10), ((8, 0), 9), ((11, 8), 12), ((11, 9), 13), ((11, 10), 14), ((11, 11), 16), ((14, 0), 15), ((17, 2), 18), ((18, 0), 1), ((18, 1), 19), ((18, 2), 20), ((18, 3), 21), ((18, 4), 22), ((23, 0), 24), ((23, 1), 69), ((23, 2), 70), ((23, 3), 71), ((23, 4), 72), ((24, 0), 25), ((24, 1), 26), ((24, 2), 27), ((24, 3), 28), ((24, 4), 29), ((24, 5), 30), ((24, 6), 31), ((24, 7), 32), ((24, 8), 33), ((24, 9), 34), ((24, 10), 35), ((24, 11), 36), ((24, 12), 37), ((24, 13), 38), ((24, 14), 39), ((24, 15), 40), ((24, 16), 41), ((24, 17), 42), ((24, 18), 43), ((24, 19), 44), ((24, 20), 45), ((24, 21), 46), ((24, 22), 47), ((24, 23), 48), ((24, 24), 49), ((24, 25), 50), ((24, 26), 51), ((24, 27), 52), ((24, 28), 53), ((24, 29), 54), ((24, 30), 55), ((24, 31), 56), ((24, 32), 57), ((24, 33), 58), ((24, 34), 59), ((24, 35), 60), ((24, 36), 61), ((24, 37), 62), ((24, 38), 63), ((24, 39), 64), ((24, 40), 65), ((24, 41), 66), ((24, 42), 67), ((24, 43), 68), ((73, 0), 74), ((73, 2), 85), ((74, 0), 75), ((74, 1), 84), ((75, 0), 76), ((75, 1), 77), ((75, 2), 78), ((75, 3), 79), ((75, 4), 80), ((75, 5), 81), ((75, 6), 82), ((75, 7), 83), ((86, 0), 74), ((86, 2), 87), ((88, 0), 121), ((88, 1), 134), ((88, 2), 147), ((90, 0), 91), ((90, 1), 92), ((90, 2), 93), ((90, 3), 94), ((90, 4), 95), ((96, 0), 97), ((96, 1), 107), ((96, 2), 105), ((96, 3), 106), ((97, 0), 98), ((97, 1), 99), ((97, 2), 100), ((97, 3), 101), ((97, 4), 102), ((97, 5), 103), ((97, 6), 104), ((107, 0), 108), ((107, 2), 119), ((108, 0), 109), ((108, 1), 118), ((109, 0), 110), ((109, 1), 111), ((109, 2), 112), ((109, 3), 113), ((109, 4), 114), ((109, 5), 115), ((109, 6), 116), ((109, 7), 117), ((121, 0), 122), ((121, 2), 133), ((122, 0), 123), ((122, 1), 132), ((123, 0), 124), ((123, 1), 125), ((123, 2), 126), ((123, 3), 127), ((123, 4), 128), ((123, 5), 129), ((123, 6), 130), ((123, 7), 131), ((134, 0), 135), ((134, 2), 146), ((135, 0), 136), ((135, 1), 145), ((136, 0), 137), ((136, 1), 138), ((136, 2), 139), ((136, 3), 140), ((136, 4), 141), ((136, 5), 142), ((136, 6), 143), ((136, 7), 144), ((147, 0), 148), ((147, 2), 159), ((148, 0), 149), ((148, 1), 158), ((149, 0), 150), ((149, 1), 151), ((149, 2), 152), ((149, 3), 153), ((149, 4), 154), ((149, 5), 155), ((149, 6), 156), ((149, 7), 157), ((160, 0), 161), ((160, 1), 162), ((160, 11), 163), ((160, 12), 164), ((160, 13), 165), ((160, 14), 166), ((160, 15), 167), ((160, 16), 168), ((160, 17), 169), ((160, 18), 170), ((160, 19), 171), ((160, 20), 172), ((160, 21), 173), ((160, 22), 174), ((160, 23), 175), ((160, 24), 176), ((160, 25), 177), ((160, 26), 178), ((160, 27), 179), ((160, 35), 180), ((160, 36), 181), ((160, 37), 182), ((160, 41), 183), ((160, 42), 184), ((160, 43), 185), ((160, 44), 186), ((160, 45), 187), ((160, 47), 188), ((160, 49), 189), ((160, 50), 190), ((160, 51), 191), ((160, 52), 192), ((160, 53), 193), ((160, 54), 194), ((160, 55), 195), ((160, 56), 196), ((160, 57), 197), ((160, 58), 198), ((160, 62), 199), ((160, 63), 200), ((160, 64), 201), ((160, 65), 202), ((160, 66), 203), ((160, 67), 204)]
def zst (a k : Nat) : Option Nat := zstL.lookup (a, k)
/-- the references that never change -/
def zPk (P : zP) : Prop := ∀ a k b, zst a k = some b → P a k = some b
theorem zn_0 : 0 < 205 := Nat.le_of_ble_eq_true rfl
theorem zo_0 : (zsh 0).1 = 10 := rfl
theorem zn_1 : 1 < 205 := Nat.le_of_ble_eq_true rfl
theorem zo_1 : (zsh 1).1 = 7 := rfl
theorem zn_2 : 2 < 205 := Nat.le_of_ble_eq_true rfl
theorem zh_2 : zsh 2 = (102, 1600) := rfl
theorem zn_3 : 3 < 205 := Nat.le_of_ble_eq_true rfl
theorem zo_3 : (zsh 3).1 = 0 := rfl
theorem zn_4 : 4 < 205 := Nat.le_of_ble_eq_true rfl
theorem zh_4 : zsh 4 = (100, 600) := rfl
theorem zn_5 : 5 < 205 := Nat.le_of_ble_eq_true rfl
theorem zo_5 : (zsh 5).1 = 2 := rfl
theorem zn_6 : 6 < 205 := Nat.le_of_ble_eq_true rfl
theorem zh_6 : zsh 6 = (101, 8) := rfl
theorem zn_7 : 7 < 205 := Nat.le_of_ble_eq_true rfl
theorem zh_7 : zsh 7 = (100, 8) := rfl
theorem zn_8 : 8 < 205 := Nat.le_of_ble_eq_true rfl
theorem zo_8 : (zsh 8).1 = 0 := rfl
theorem zn_9 : 9 < 205 := Nat.le_of_ble_eq_true rfl
theorem zh_9 : zsh 9 = (100, 600) := rfl
theorem zn_10 : 10 < 205 := Nat.le_of_ble_eq_true rfl
theorem zh_10 : zsh 10 = (100, 7) := rfl
theorem zn_11 : 11 < 205 := Nat.le_of_ble_eq_true rfl
theorem zo_11 : (zsh 11).1 = 2 := rfl
theorem zn_12 : 12 < 205 := Nat.le_of_ble_eq_true rfl
theorem zh_12 : zsh 12 = (101, 8) := rfl
theorem zn_13 : 13 < 205 := Nat.le_of_ble_eq_true rfl
theorem zh_13 : zsh 13 = (100, 8) := rfl
theorem zn_14 : 14 < 205 := Nat.le_of_ble_eq_true rfl
theorem zo_14 : (zsh 14).1 = 0 := rfl
theorem zn_15 : 15 < 205 := Nat.le_of_ble_eq_true rfl
theorem zh_15 : zsh 15 = (100, 600) := rfl
theorem zn_16 : 16 < 205 := Nat.le_of_ble_eq_true rfl
theorem zh_16 : zsh 16 = (100, 7) := rfl
theorem zn_17 : 17 < 205 := Nat.le_of_ble_eq_true rfl
theorem zo_17 : (zsh 17).1 = 4 := rfl
theorem zn_18 : 18 < 205 := Nat.le_of_ble_eq_true rfl
theorem zo_18 : (zsh 18).1 = 8 := rfl
theorem zn_19 : 19 < 205 := Nat.le_of_ble_eq_true rfl
theorem zh_19 : zsh 19 = (101, 17) := rfl
theorem zn_20 : 20 < 205 := Nat.le_of_ble_eq_true rfl
theorem zh_20 : zsh 20 = (100, 1601) := rfl
theorem zn_21 : 21 < 205 := Nat.le_of_ble_eq_true rfl
theorem zh_21 : zsh 21 = (100, 1601) := rfl
theorem zn_22 : 22 < 205 := Nat.le_of_ble_eq_true rfl
theorem zh_22 : zsh 22 = (101, 1601) := rfl
theorem zn_23 : 23 < 205 := Nat.le_of_ble_eq_true rfl
theorem zo_23 : (zsh 23).1 = 3 := rfl
theorem zn_24 : 24 < 205 := Nat.le_of_ble_eq_true rfl
theorem zh_24 : zsh 24 = (104, 44) := rfl
theorem zn_25 : 25 < 205 := Nat.le_of_ble_eq_true rfl
theorem zh_25 : zsh 25 = (100, 256) := rfl
theorem zn_26 : 26 < 205 := Nat.le_of_ble_eq_true rfl
theorem zh_26 : zsh 26 = (100, 256) := rfl
theorem zn_27 : 27 < 205 := Nat.le_of_ble_eq_true rfl
theorem zh_27 : zsh 27 = (100, 256) := rfl
theorem zn_28 : 28 < 205 := Nat.le_of_ble_eq_true rfl
theorem zh_28 : zsh 28 = (100, 256) := rfl
theorem zn_29 : 29 < 205 := Nat.le_of_ble_eq_true rfl
theorem zh_29 : zsh 29 = (100, 256) := rfl
theorem zn_30 : 30 < 205 := Nat.le_of_ble_eq_true rfl
theorem zh_30 : zsh 30 = (100, 256) := rfl
theorem zn_31 : 31 < 205 := Nat.le_of_ble_eq_true rfl
theorem zh_31 : zsh 31 = (100, 256) := rfl
theorem zn_32 : 32 < 205 := Nat.le_of_ble_eq_true rfl
theorem zh_32 : zsh 32 = (100, 256) := rfl
theorem zn_33 : 33 < 205 := Nat.le_of_ble_eq_true rfl
theorem zh_33 : zsh 33 = (100, 256) := rfl
theorem zn_34 : 34 < 205 := Nat.le_of_ble_eq_true rfl
theorem zh_34 : zsh 34 = (100, 256) := rfl
theorem zn_35 : 35 < 205 := Nat.le_of_ble_eq_true rfl
theorem zh_35 : zsh 35 = (100, 256) := rfl
theorem zn_36 : 36 < 205 := Nat.le_of_ble_eq_true rfl
theorem zh_36 : zsh 36 = (100, 256) := rfl
theorem zn_37 : 37 < 205 := Nat.le_of_ble_eq_true rfl
theorem zh_37 : zsh 37 = (100, 256) := rfl
theorem zn_38 : 38 < 205 := Nat.le_of_ble_eq_true rfl
theorem zh_38 : zsh 38 = (100, 256) := rfl
theorem zn_39 : 39 < 205 := Nat.le_of_ble_eq_true rfl
theorem zh_39 : zsh 39 = (100, 256) := rfl
theorem zn_40 : 40 < 205 := Nat.le_of_ble_eq_true rfl
theorem zh_40 : zsh 40 = (100, 256) := rfl
theorem zn_41 : 41 < 205 := Nat.le_of_ble_eq_true rfl
theorem zh_41 : zsh 41 = (100, 256) := rfl
theorem zn_42 : 42 < 205 := Nat.le_of_ble_eq_true rfl
theorem zh_42 : zsh 42 = (100, 256) := rfl
theorem zn_43 : 43 < 205 := Nat.le_of_ble_eq_true rfl
theorem zh_43 : zsh 43 = (100, 256) := rfl
theorem zn_44 : 44 < 205 := Nat.le_of_ble_eq_true rfl
theorem zh_44 : zsh 44 = (100, 256) := rfl
theorem zn_45 : 45 < 205 := Nat.le_of_ble_eq_true rfl
theorem zh_45 : zsh 45 = (100, 256) := rfl
theorem zn_46 : 46 < 205 := Nat.le_of_ble_eq_true rfl
theorem zh_46 : zsh 46 = (100, 256) := rfl
theorem zn_47 : 47 < 205 := Nat.le_of_ble_eq_true rfl
theorem zh_47 : zsh 47 = (100, 256) := rfl
theorem zn_48 : 48 < 205 := Nat.le_of_ble_eq_true rfl
theorem zh_48 : zsh 48 = (100, 256) := rfl
theorem zn_49 : 49 < 205 := Nat.le_of_ble_eq_true rfl
theorem zh_49 : zsh 49 = (100, 256) := rfl
theorem zn_50 : 50 < 205 := Nat.le_of_ble_eq_true rfl
theorem zh_50 : zsh 50 = (100, 256) := rfl
theorem zn_51 : 51 < 205 := Nat.le_of_ble_eq_true rfl
theorem zh_51 : zsh 51 = (100, 256) := rfl
theorem zn_52 : 52 < 205 := Nat.le_of_ble_eq_true rfl
theorem zh_52 : zsh 52 = (100, 256) := rfl
theorem zn_53 : 53 < 205 := Nat.le_of_ble_eq_true rfl
theorem zh_53 : zsh 53 = (100, 256) := rfl
theorem zn_54 : 54 < 205 := Nat.le_of_ble_eq_true rfl
theorem zh_54 : zsh 54 = (100, 256) := rfl
theorem zn_55 : 55 < 205 := Nat.le_of_ble_eq_true rfl
theorem zh_55 : zsh 55 = (100, 256) := rfl
theorem zn_56 : 56 < 205 := Nat.le_of_ble_eq_true rfl
theorem zh_56 : zsh 56 = (100, 256) := rfl
theorem zn_57 : 57 < 205 := Nat.le_of_ble_eq_true rfl
theorem zh_57 : zsh 57 = (100, 256) := rfl
theorem zn_58 : 58 < 205 := Nat.le_of_ble_eq_true rfl
theorem zh_58 : zsh 58 = (100, 256) := rfl
theorem zn_59 : 59 < 205 := Nat.le_of_ble_eq_true rfl
theorem zh_59 : zsh 59 = (100, 256) := rfl
theorem zn_60 : 60 < 205 := Nat.le_of_ble_eq_true rfl
theorem zh_60 : zsh 60 = (100, 256) := rfl
theorem zn_61 : 61 < 205 := Nat.le_of_ble_eq_true rfl
theorem zh_61 : zsh 61 = (100, 256) := rfl
theorem zn_62 : 62 < 205 := Nat.le_of_ble_eq_true rfl
theorem zh_62 : zsh 62 = (100, 256) := rfl
theorem zn_63 : 63 < 205 := Nat.le_of_ble_eq_true rfl
theorem zh_63 : zsh 63 = (100, 256) := rfl
theorem zn_64 : 64 < 205 := Nat.le_of_ble_eq_true rfl
theorem zh_64 : zsh 64 = (100, 256) := rfl
theorem zn_65 : 65 < 205 := Nat.le_of_ble_eq_true rfl
theorem zh_65 : zsh 65 = (100, 256) := rfl
theorem zn_66 : 66 < 205 := Nat.le_of_ble_eq_true rfl
theorem zh_66 : zsh 66 = (100, 256) := rfl
theorem zn_67 : 67 < 205 := Nat.le_of_ble_eq_true rfl
theorem zh_67 : zsh 67 = (100, 256) := rfl
theorem zn_68 : 68 < 205 := Nat.le_of_ble_eq_true rfl
theorem zh_68 : zsh 68 = (100, 256) := rfl
theorem zn_69 : 69 < 205 := Nat.le_of_ble_eq_true rfl
theorem zh_69 : zsh 69 = (100, 256) := rfl
theorem zn_70 : 70 < 205 := Nat.le_of_ble_eq_true rfl
theorem zh_70 : zsh 70 = (100, 256) := rfl
theorem zn_71 : 71 < 205 := Nat.le_of_ble_eq_true rfl
theorem zh_71 : zsh 71 = (100, 256) := rfl
theorem zn_72 : 72 < 205 := Nat.le_of_ble_eq_true rfl
theorem zh_72 : zsh 72 = (100, 256) := rfl
theorem zn_73 : 73 < 205 := Nat.le_of_ble_eq_true rfl
theorem zo_73 : (zsh 73).1 = 5 := rfl
theorem zn_74 : 74 < 205 := Nat.le_of_ble_eq_true rfl
theorem zo_74 : (zsh 74).1 = 9 := rfl
theorem zn_75 : 75 < 205 := Nat.le_of_ble_eq_true rfl
theorem zh_75 : zsh 75 = (104, 8) := rfl
theorem zn_76 : 76 < 205 := Nat.le_of_ble_eq_true rfl
theorem zh_76 : zsh 76 = (100, 256) := rfl
theorem zn_77 : 77 < 205 := Nat.le_of_ble_eq_true rfl
theorem zh_77 : zsh 77 = (100, 256) := rfl
theorem zn_78 : 78 < 205 := Nat.le_of_ble_eq_true rfl
theorem zh_78 : zsh 78 = (100, 256) := rfl
theorem zn_79 : 79 < 205 := Nat.le_of_ble_eq_true rfl
theorem zh_79 : zsh 79 = (100, 256) := rfl
theorem zn_80 : 80 < 205 := Nat.le_of_ble_eq_true rfl
theorem zh_80 : zsh 80 = (100, 256) := rfl
theorem zn_81 : 81 < 205 := Nat.le_of_ble_eq_true rfl
theorem zh_81 : zsh 81 = (100, 256) := rfl
theorem zn_82 : 82 < 205 := Nat.le_of_ble_eq_true rfl
theorem zh_82 : zsh 82 = (100, 256) := rfl
theorem zn_83 : 83 < 205 := Nat.le_of_ble_eq_true rfl
theorem zh_83 : zsh 83 = (100, 256) := rfl
theorem zn_84 : 84 < 205 := Nat.le_of_ble_eq_true rfl
theorem zh_84 : zsh 84 = (100, 512) := rfl
theorem zn_85 : 85 < 205 := Nat.le_of_ble_eq_true rfl
theorem zh_85 : zsh 85 = (100, 256) := rfl
theorem zn_86 : 86 < 205 := Nat.le_of_ble_eq_true rfl
theorem zo_86 : (zsh 86).1 = 5 := rfl
theorem zn_87 : 87 < 205 := Nat.le_of_ble_eq_true rfl
theorem zh_87 : zsh 87 = (100, 256) := rfl
theorem zn_88 : 88 < 205 := Nat.le_of_ble_eq_true rfl
theorem zh_88 : zsh 88 = (105, 3) := rfl
theorem zn_89 : 89 < 205 := Nat.le_of_ble_eq_true rfl
theorem zh_89 : zsh 89 = (103, 3) := rfl
theorem zn_90 : 90 < 205 := Nat.le_of_ble_eq_true rfl
theorem zo_90 : (zsh 90).1 = 6 := rfl
theorem zn_91 : 91 < 205 := Nat.le_of_ble_eq_true rfl
theorem zh_91 : zsh 91 = (100, 20) := rfl
theorem zn_92 : 92 < 205 := Nat.le_of_ble_eq_true rfl
theorem zh_92 : zsh 92 = (100, 20) := rfl
theorem zn_93 : 93 < 205 := Nat.le_of_ble_eq_true rfl
theorem zh_93 : zsh 93 = (103, 20) := rfl
theorem zn_94 : 94 < 205 := Nat.le_of_ble_eq_true rfl
theorem zh_94 : zsh 94 = (100, 20) := rfl
theorem zn_95 : 95 < 205 := Nat.le_of_ble_eq_true rfl
theorem zh_95 : zsh 95 = (100, 20) := rfl
theorem zn_96 : 96 < 205 := Nat.le_of_ble_eq_true rfl
theorem zo_96 : (zsh 96).1 = 1 := rfl
theorem zn_97 : 97 < 205 := Nat.le_of_ble_eq_true rfl
theorem zh_97 : zsh 97 = (104, 7) := rfl
theorem zn_98 : 98 < 205 := Nat.le_of_ble_eq_true rfl
theorem zh_98 : zsh 98 = (100, 64) := rfl
theorem zn_99 : 99 < 205 := Nat.le_of_ble_eq_true rfl
theorem zh_99 : zsh 99 = (100, 64) := rfl
theorem zn_100 : 100 < 205 := Nat.le_of_ble_eq_true rfl
theorem zh_100 : zsh 100 = (100, 64) := rfl
theorem zn_101 : 101 < 205 := Nat.le_of_ble_eq_true rfl
theorem zh_101 : zsh 101 = (100, 64) := rfl
theorem zn_102 : 102 < 205 := Nat.le_of_ble_eq_true rfl
theorem zh_102 : zsh 102 = (100, 64) := rfl
theorem zn_103 : 103 < 205 := Nat.le_of_ble_eq_true rfl
theorem zh_103 : zsh 103 = (100, 64) := rfl
theorem zn_104 : 104 < 205 := Nat.le_of_ble_eq_true rfl
theorem zh_104 : zsh 104 = (100, 64) := rfl
theorem zn_105 : 105 < 205 := Nat.le_of_ble_eq_true rfl
theorem zh_105 : zsh 105 = (100, 256) := rfl
theorem zn_106 : 106 < 205 := Nat.le_of_ble_eq_true rfl
theorem zh_106 : zsh 106 = (100, 256) := rfl
theorem zn_107 : 107 < 205 := Nat.le_of_ble_eq_true rfl
theorem zo_107 : (zsh 107).1 = 5 := rfl
theorem zn_108 : 108 < 205 := Nat.le_of_ble_eq_true rfl
theorem zo_108 : (zsh 108).1 = 9 := rfl
theorem zn_109 : 109 < 205 := Nat.le_of_ble_eq_true rfl
theorem zh_109 : zsh 109 = (104, 8) := rfl
theorem zn_110 : 110 < 205 := Nat.le_of_ble_eq_true rfl
theorem zh_110 : zsh 110 = (100, 256) := rfl
theorem zn_111 : 111 < 205 := Nat.le_of_ble_eq_true rfl
theorem zh_111 : zsh 111 = (100, 256) := rfl
theorem zn_112 : 112 < 205 := Nat.le_of_ble_eq_true rfl
theorem zh_112 : zsh 112 = (100, 256) := rfl
theorem zn_113 : 113 < 205 := Nat.le_of_ble_eq_true rfl
theorem zh_113 : zsh 113 = (100, 256) := rfl
theorem zn_114 : 114 < 205 := Nat.le_of_ble_eq_true rfl
theorem zh_114 : zsh 114 = (100, 256) := rfl
theorem zn_115 : 115 < 205 := Nat.le_of_ble_eq_true rfl
theorem zh_115 : zsh 115 = (100, 256) := rfl
theorem zn_116 : 116 < 205 := Nat.le_of_ble_eq_true rfl
theorem zh_116 : zsh 116 = (100, 256) := rfl
theorem zn_117 : 117 < 205 := Nat.le_of_ble_eq_true rfl
theorem zh_117 : zsh 117 = (100, 256) := rfl
theorem zn_118 : 118 < 205 := Nat.le_of_ble_eq_true rfl
theorem zh_118 : zsh 118 = (100, 512) := rfl
theorem zn_119 : 119 < 205 := Nat.le_of_ble_eq_true rfl
theorem zh_119 : zsh 119 = (100, 256) := rfl
theorem zn_120 : 120 < 205 := Nat.le_of_ble_eq_true rfl
theorem zh_120 : zsh 120 = (101, 256) := rfl
theorem zn_121 : 121 < 205 := Nat.le_of_ble_eq_true rfl
theorem zo_121 : (zsh 121).1 = 5 := rfl
theorem zn_122 : 122 < 205 := Nat.le_of_ble_eq_true rfl
theorem zo_122 : (zsh 122).1 = 9 := rfl
theorem zn_123 : 123 < 205 := Nat.le_of_ble_eq_true rfl
theorem zh_123 : zsh 123 = (104, 8) := rfl
theorem zn_124 : 124 < 205 := Nat.le_of_ble_eq_true rfl
theorem zh_124 : zsh 124 = (100, 256) := rfl
theorem zn_125 : 125 < 205 := Nat.le_of_ble_eq_true rfl
theorem zh_125 : zsh 125 = (100, 256) := rfl
theorem zn_126 : 126 < 205 := Nat.le_of_ble_eq_true rfl
theorem zh_126 : zsh 126 = (100, 256) := rfl
theorem zn_127 : 127 < 205 := Nat.le_of_ble_eq_true rfl
theorem zh_127 : zsh 127 = (100, 256) := rfl
theorem zn_128 : 128 < 205 := Nat.le_of_ble_eq_true rfl
theorem zh_128 : zsh 128 = (100, 256) := rfl
theorem zn_129 : 129 < 205 := Nat.le_of_ble_eq_true rfl
theorem zh_129 : zsh 129 = (100, 256) := rfl
theorem zn_130 : 130 < 205 := Nat.le_of_ble_eq_true rfl
theorem zh_130 : zsh 130 = (100, 256) := rfl
theorem zn_131 : 131 < 205 := Nat.le_of_ble_eq_true rfl
theorem zh_131 : zsh 131 = (100, 256) := rfl
theorem zn_132 : 132 < 205 := Nat.le_of_ble_eq_true rfl
theorem zh_132 : zsh 132 = (100, 512) := rfl
theorem zn_133 : 133 < 205 := Nat.le_of_ble_eq_true rfl
theorem zh_133 : zsh 133 = (100, 256) := rfl
theorem zn_134 : 134 < 205 := Nat.le_of_ble_eq_true rfl
theorem zo_134 : (zsh 134).1 = 5 := rfl
theorem zn_135 : 135 < 205 := Nat.le_of_ble_eq_true rfl
theorem zo_135 : (zsh 135).1 = 9 := rfl
theorem zn_136 : 136 < 205 := Nat.le_of_ble_eq_true rfl
theorem zh_136 : zsh 136 = (104, 8) := rfl
theorem zn_137 : 137 < 205 := Nat.le_of_ble_eq_true rfl
theorem zh_137 : zsh 137 = (100, 256) := rfl
theorem zn_138 : 138 < 205 := Nat.le_of_ble_eq_true rfl
theorem zh_138 : zsh 138 = (100, 256) := rfl
theorem zn_139 : 139 < 205 := Nat.le_of_ble_eq_true rfl
theorem zh_139 : zsh 139 = (100, 256) := rfl
theorem zn_140 : 140 < 205 := Nat.le_of_ble_eq_true rfl
theorem zh_140 : zsh 140 = (100, 256) := rfl
theorem zn_141 : 141 < 205 := Nat.le_of_ble_eq_true rfl
theorem zh_141 : zsh 141 = (100, 256) := rfl
theorem zn_142 : 142 < 205 := Nat.le_of_ble_eq_true rfl
theorem zh_142 : zsh 142 = (100, 256) := rfl
theorem zn_143 : 143 < 205 := Nat.le_of_ble_eq_true rfl
theorem zh_143 : zsh 143 = (100, 256) := rfl
theorem zn_144 : 144 < 205 := Nat.le_of_ble_eq_true rfl
theorem zh_144 : zsh 144 = (100, 256) := rfl
theorem zn_145 : 145 < 205 := Nat.le_of_ble_eq_true rfl
theorem zh_145 : zsh 145 = (100, 512) := rfl
theorem zn_146 : 146 < 205 := Nat.le_of_ble_eq_true rfl
theorem zh_146 : zsh 146 = (100, 256) := rfl
theorem zn_147 : 147 < 205 := Nat.le_of_ble_eq_true rfl
theorem zo_147 : (zsh 147).1 = 5 := rfl
theorem zn_148 : 148 < 205 := Nat.le_of_ble_eq_true rfl
theorem zo_148 : (zsh 148).1 = 9 := rfl
theorem zn_149 : 149 < 205 := Nat.le_of_ble_eq_true rfl
theorem zh_149 : zsh 149 = (104, 8) := rfl
theorem zn_150 : 150 < 205 := Nat.le_of_ble_eq_true rfl
theorem zh_150 : zsh 150 = (100, 256) := rfl
theorem zn_151 : 151 < 205 := Nat.le_of_ble_eq_true rfl
theorem zh_151 : zsh 151 = (100, 256) := rfl
theorem zn_152 : 152 < 205 := Nat.le_of_ble_eq_true rfl
theorem zh_152 : zsh 152 = (100, 256) := rfl
theorem zn_153 : 153 < 205 := Nat.le_of_ble_eq_true rfl
theorem zh_153 : zsh 153 = (100, 256) := rfl
theorem zn_154 : 154 < 205 := Nat.le_of_ble_eq_true rfl
theorem zh_154 : zsh 154 = (100, 256) := rfl
theorem zn_155 : 155 < 205 := Nat.le_of_ble_eq_true rfl
theorem zh_155 : zsh 155 = (100, 256) := rfl
theorem zn_156 : 156 < 205 := Nat.le_of_ble_eq_true rfl
theorem zh_156 : zsh 156 = (100, 256) := rfl
theorem zn_157 : 157 < 205 := Nat.le_of_ble_eq_true rfl
theorem zh_157 : zsh 157 = (100, 256) := rfl
theorem zn_158 : 158 < 205 := Nat.le_of_ble_eq_true rfl
theorem zh_158 : zsh 158 = (100, 512) := rfl
theorem zn_159 : 159 < 205 := Nat.le_of_ble_eq_true rfl
theorem zh_159 : zsh 159 = (100, 256) := rfl
theorem zn_160 : 160 < 205 := Nat.le_of_ble_eq_true rfl
theorem zo_160 : (zsh 160).1 = 11 := rfl
theorem zn_161 : 161 < 205 := Nat.le_of_ble_eq_true rfl
theorem zh_161 : zsh 161 = (102, 1620) := rfl
theorem zn_162 : 162 < 205 := Nat.le_of_ble_eq_true rfl
theorem zh_162 : zsh 162 = (102, 1600) := rfl
theorem zn_163 : 163 < 205 := Nat.le_of_ble_eq_true rfl
theorem zh_163 : zsh 163 = (100, 2) := rfl
theorem zn_164 : 164 < 205 := Nat.le_of_ble_eq_true rfl
theorem zh_164 : zsh 164 = (100, 2) := rfl
theorem zn_165 : 165 < 205 := Nat.le_of_ble_eq_true rfl
theorem zh_165 : zsh 165 = (100, 2) := rfl
theorem zn_166 : 166 < 205 := Nat.le_of_ble_eq_true rfl
theorem zh_166 : zsh 166 = (100, 3) := rfl
theorem zn_167 : 167 < 205 := Nat.le_of_ble_eq_true rfl
theorem zh_167 : zsh 167 = (100, 2) := rfl
theorem zn_168 : 168 < 205 := Nat.le_of_ble_eq_true rfl
theorem zh_168 : zsh 168 = (100, 16) := rfl
theorem zn_169 : 169 < 205 := Nat.le_of_ble_eq_true rfl
theorem zh_169 : zsh 169 = (100, 12) := rfl
theorem zn_170 : 170 < 205 := Nat.le_of_ble_eq_true rfl
theorem zh_170 : zsh 170 = (100, 12) := rfl
theorem zn_171 : 171 < 205 := Nat.le_of_ble_eq_true rfl
theorem zh_171 : zsh 171 = (103, 2) := rfl
theorem zn_172 : 172 < 205 := Nat.le_of_ble_eq_true rfl
theorem zh_172 : zsh 172 = (103, 2) := rfl
theorem zn_173 : 173 < 205 := Nat.le_of_ble_eq_true rfl
theorem zh_173 : zsh 173 = (103, 16) := rfl
theorem zn_174 : 174 < 205 := Nat.le_of_ble_eq_true rfl
theorem zh_174 : zsh 174 = (101, 16) := rfl
theorem zn_175 : 175 < 205 := Nat.le_of_ble_eq_true rfl
theorem zh_175 : zsh 175 = (100, 2100) := rfl
theorem zn_176 : 176 < 205 := Nat.le_of_ble_eq_true rfl
theorem zh_176 : zsh 176 = (100, 2100) := rfl
theorem zn_177 : 177 < 205 := Nat.le_of_ble_eq_true rfl
theorem zh_177 : zsh 177 = (100, 90) := rfl
theorem zn_178 : 178 < 205 := Nat.le_of_ble_eq_true rfl
theorem zh_178 : zsh 178 = (100, 90) := rfl
theorem zn_179 : 179 < 205 := Nat.le_of_ble_eq_true rfl
theorem zh_179 : zsh 179 = (100, 90) := rfl
theorem zn_180 : 180 < 205 := Nat.le_of_ble_eq_true rfl
theorem zh_180 : zsh 180 = (103, 256) := rfl
theorem zn_181 : 181 < 205 := Nat.le_of_ble_eq_true rfl
theorem zh_181 : zsh 181 = (103, 2048) := rfl
theorem zn_182 : 182 < 205 := Nat.le_of_ble_eq_true rfl
theorem zh_182 : zsh 182 = (100, 8) := rfl
theorem zn_183 : 183 < 205 := Nat.le_of_ble_eq_true rfl
theorem zh_183 : zsh 183 = (100, 12288) := rfl
theorem zn_184 : 184 < 205 := Nat.le_of_ble_eq_true rfl
theorem zh_184 : zsh 184 = (100, 256) := rfl
theorem zn_185 : 185 < 205 := Nat.le_of_ble_eq_true rfl
theorem zh_185 : zsh 185 = (100, 256) := rfl
theorem zn_186 : 186 < 205 := Nat.le_of_ble_eq_true rfl
theorem zh_186 : zsh 186 = (100, 256) := rfl
theorem zn_187 : 187 < 205 := Nat.le_of_ble_eq_true rfl
theorem zh_187 : zsh 187 = (103, 256) := rfl
theorem zn_188 : 188 < 205 := Nat.le_of_ble_eq_true rfl
theorem zh_188 : zsh 188 = (100, 256) := rfl
theorem zn_189 : 189 < 205 := Nat.le_of_ble_eq_true rfl
theorem zh_189 : zsh 189 = (100, 20) := rfl
theorem zn_190 : 190 < 205 := Nat.le_of_ble_eq_true rfl
theorem zh_190 : zsh 190 = (100, 20) := rfl
theorem zn_191 : 191 < 205 := Nat.le_of_ble_eq_true rfl
theorem zh_191 : zsh 191 = (100, 20) := rfl
theorem zn_192 : 192 < 205 := Nat.le_of_ble_eq_true rfl
theorem zh_192 : zsh 192 = (100, 20) := rfl
theorem zn_193 : 193 < 205 := Nat.le_of_ble_eq_true rfl
theorem zh_193 : zsh 193 = (100, 64) := rfl
theorem zn_194 : 194 < 205 := Nat.le_of_ble_eq_true rfl
theorem zh_194 : zsh 194 = (100, 64) := rfl
theorem zn_195 : 195 < 205 := Nat.le_of_ble_eq_true rfl
theorem zh_195 : zsh 195 = (100, 64) := rfl
theorem zn_196 : 196 < 205 := Nat.le_of_ble_eq_true rfl
theorem zh_196 : zsh 196 = (100, 64) := rfl
theorem zn_197 : 197 < 205 := Nat.le_of_ble_eq_true rfl
theorem zh_197 : zsh 197 = (103, 20) := rfl
theorem zn_198 : 198 < 205 := Nat.le_of_ble_eq_true rfl
theorem zh_198 : zsh 198 = (103, 64) := rfl
theorem zn_199 : 199 < 205 := Nat.le_of_ble_eq_true rfl
theorem zh_199 : zsh 199 = (100, 4) := rfl
theorem zn_200 : 200 < 205 := Nat.le_of_ble_eq_true rfl
theorem zh_200 : zsh 200 = (100, 4) := rfl
theorem zn_201 : 201 < 205 := Nat.le_of_ble_eq_true rfl
theorem zh_201 : zsh 201 = (100, 4) := rfl
theorem zn_202 : 202 < 205 := Nat.le_of_ble_eq_true rfl
theorem zh_202 : zsh 202 = (100, 32) := rfl
theorem zn_203 : 203 < 205 := Nat.le_of_ble_eq_true rfl
theorem zh_203 : zsh 203 = (103, 1024) := rfl
theorem zn_204 : 204 < 205 := Nat.le_of_ble_eq_true rfl
theorem zh_204 : zsh 204 = (103, 8192) := rfl
set_option maxRecDepth 10000 in
theorem zp_0_0 : zst 0 0 = some 1 := by decide +kernel
set_option maxRecDepth 10000 in
theorem zp_0_1 : zst 0 1 = some 3 := by decide +kernel
set_option maxRecDepth 10000 in
theorem zp_0_4 : zst 0 4 = some 17 := by decide +kernel
set_option maxRecDepth 10000 in
theorem zp_0_5 : zst 0 5 = some 23 := by decide +kernel
set_option maxRecDepth 10000 in
theorem zp_0_6 : zst 0 6 = some 73 := by decide +kernel
set_option maxRecDepth 10000 in
theorem zp_0_7 : zst 0 7 = some 86 := by decide +kernel
set_option maxRecDepth 10000 in
theorem zp_0_8 : zst 0 8 = some 88 := by decide +kernel
set_option maxRecDepth 10000 in
theorem zp_0_9 : zst 0 9 = some 89 := by decide +kernel
set_option maxRecDepth 10000 in
theorem zp_0_10 : zst 0 10 = some 90 := by decide +kernel
set_option maxRecDepth 10000 in
theorem zp_0_11 : zst 0 11 = some 96 := by decide +kernel
set_option maxRecDepth 10000 in
theorem zp_0_12 : zst 0 12 = some 120 := by decide +kernel
set_option maxRecDepth 10000 in
theorem zp_1_0 : zst 1 0 = some 2 := by decide +kernel
set_option maxRecDepth 10000 in
theorem zp_3_0 : zst 3 0 = some 4 := by decide +kernel
set_option maxRecDepth 10000 in
theorem zp_5_8 : zst 5 8 = some 6 := by decide +kernel
set_option maxRecDepth 10000 in
theorem zp_5_9 : zst 5 9 = some 7 := by decide +kernel
set_option maxRecDepth 10000 in
theorem zp_5_10 : zst 5 10 = some 8 := by decide +kernel
set_option maxRecDepth 10000 in
theorem zp_5_11 : zst 5 11 = some 10 := by decide +kernel
set_option maxRecDepth 10000 in
theorem zp_8_0 : zst 8 0 = some 9 := by decide +kernel
set_option maxRecDepth 10000 in
theorem zp_11_8 : zst 11 8 = some 12 := by decide +kernel
set_option maxRecDepth 10000 in
theorem zp_11_9 : zst 11 9 = some 13 := by decide +kernel
set_option maxRecDepth 10000 in
theorem zp_11_10 : zst 11 10 = some 14 := by decide +kernel
set_option maxRecDepth 10000 in
theorem zp_11_11 : zst 11 11 = some 16 := by decide +kernel
set_option maxRecDepth 10000 in
theorem zp_14_0 : zst 14 0 = some 15 := by decide +kernel
set_option maxRecDepth 10000 in
theorem zp_17_2 : zst 17 2 = some 18 := by decide +kernel
set_option maxRecDepth 10000 in
theorem zp_18_0 : zst 18 0 = some 1 := by decide +kernel
set_option maxRecDepth 10000 in
theorem zp_18_1 : zst 18 1 = some 19 := by decide +kernel
set_option maxRecDepth 10000 in
theorem zp_18_2 : zst 18 2 = some 20 := by decide +kernel
set_option maxRecDepth 10000 in
theorem zp_18_3 : zst 18 3 = some 21 := by decide +kernel
set_option maxRecDepth 10000 in
theorem zp_18_4 : zst 18 4 = some 22 := by decide +kernel
set_option maxRecDepth 10000 in
theorem zp_23_0 : zst 23 0 = some 24 := by decide +kernel
set_option maxRecDepth 10000 in
theorem zp_23_1 : zst 23 1 = some 69 := by decide +kernel
set_option maxRecDepth 10000 in
theorem zp_23_2 : zst 23 2 = some 70 := by decide +kernel
set_option maxRecDepth 10000 in
theorem zp_23_3 : zst 23 3 = some 71 := by decide +kernel
set_option maxRecDepth 10000 in
theorem zp_23_4 : zst 23 4 = some 72 := by decide +kernel
set_option maxRecDepth 10000 in
theorem zp_24_0 : zst 24 0 = some 25 := by decide +kernel
set_option maxRecDepth 10000 in
theorem zp_24_1 : zst 24 1 = some 26 := by decide +kernel
set_option maxRecDepth 10000 in
theorem zp_24_2 : zst 24 2 = some 27 := by decide +kernel
set_option maxRecDepth 10000 in
theorem zp_24_3 : zst 24 3 = some 28 := by decide +kernel
set_option maxRecDepth 10000 in
theorem zp_24_4 : zst 24 4 = some 29 := by decide +kernel
set_option maxRecDepth 10000 in
theorem zp_24_5 : zst 24 5 = some 30 := by decide +kernel
set_option maxRecDepth 10000 in
theorem zp_24_6 : zst 24 6 = some 31 := by decide +kernel
set_option maxRecDepth 10000 in
theorem zp_24_7 : zst 24 7 = some 32 := by decide +kernel
set_option maxRecDepth 10000 in
theorem zp_24_8 : zst 24 8 = some 33 := by decide +kernel
set_option maxRecDepth 10000 in
theorem zp_24_9 : zst 24 9 = some 34 := by decide +kernel
set_option maxRecDepth 10000 in
theorem zp_24_10 : zst 24 10 = some 35 := by decide +kernel
set_option maxRecDepth 10000 in
theorem zp_24_11 : zst 24 11 = some 36 := by decide +kernel
set_option maxRecDepth 10000 in
theorem zp_24_12 : zst 24 12 = some 37 := by decide +kernel
set_option maxRecDepth 10000 in
theorem zp_24_13 : zst 24 13 = some 38 := by decide +kernel
set_option maxRecDepth 10000 in
theorem zp_24_14 : zst 24 14 = some 39 := by decide +kernel
set_option maxRecDepth 10000 in
theorem zp_24_15 : zst 24 15 = some 40 := by decide +kernel
set_option maxRecDepth 10000 in
theorem zp_24_16 : zst 24 16 = some 41 := by decide +kernel
set_option maxRecDepth 10000 in
theorem zp_24_17 : zst 24 17 = some 42 := by decide +kernel
set_option maxRecDepth 10000 in
theorem zp_24_18 : zst 24 18 = some 43 := by decide +kernel
set_option maxRecDepth 10000 in
theorem zp_24_19 : zst 24 19 = some 44 := by decide +kernel
set_option maxRecDepth 10000 in
theorem zp_24_20 : zst 24 20 = some 45 := by decide +kernel
set_option maxRecDepth 10000 in
theorem zp_24_21 : zst 24 21 = some 46 := by decide +kernel
set_option maxRecDepth 10000 in
theorem zp_24_22 : zst 24 22 = some 47 := by decide +kernel
set_option maxRecDepth 10000 in
theorem zp_24_23 : zst 24 23 = some 48 := by decide +kernel
set_option maxRecDepth 10000 in
theorem zp_24_24 : zst 24 24 = some 49 := by decide +kernel
set_option maxRecDepth 10000 in
theorem zp_24_25 : zst 24 25 = some 50 := by decide +kernel
set_option maxRecDepth 10000 in
theorem zp_24_26 : zst 24 26 = some 51 := by decide +kernel
set_option maxRecDepth 10000 in
theorem zp_24_27 : zst 24 27 = some 52 := by decide +kernel
set_option maxRecDepth 10000 in
theorem zp_24_28 : zst 24 28 = some 53 := by decide +kernel
set_option maxRecDepth 10000 in
theorem zp_24_29 : zst 24 29 = some 54 := by decide +kernel
set_option maxRecDepth 10000 in
theorem zp_24_30 : zst 24 30 = some 55 := by decide +kernel
set_option maxRecDepth 10000 in
theorem zp_24_31 : zst 24 31 = some 56 := by decide +kernel
set_option maxRecDepth 10000 in
theorem zp_24_32 : zst 24 32 = some 57 := by decide +kernel
set_option maxRecDepth 10000 in
theorem zp_24_33 : zst 24 33 = some 58 := by decide +kernel
set_option maxRecDepth 10000 in
theorem zp_24_34 : zst 24 34 = some 59 := by decide +kernel
set_option maxRecDepth 10000 in
theorem zp_24_35 : zst 24 35 = some 60 := by decide +kernel
set_option maxRecDepth 10000 in
theorem zp_24_36 : zst 24 36 = some 61 := by decide +kernel
set_option maxRecDepth 10000 in
theorem zp_24_37 : zst 24 37 = some 62 := by decide +kernel
set_option maxRecDepth 10000 in
theorem zp_24_38 : zst 24 38 = some 63 := by decide +kernel
set_option maxRecDepth 10000 in
theorem zp_24_39 : zst 24 39 = some 64 := by decide +kernel
set_option maxRecDepth 10000 in
theorem zp_24_40 : zst 24 40 = some 65 := by decide +kernel
set_option maxRecDepth 10000 in
theorem zp_24_41 : zst 24 41 = some 66 := by decide +kernel
set_option maxRecDepth 10000 in
theorem zp_24_42 : zst 24 42 = some 67 := by decide +kernel
set_option maxRecDepth 10000 in
theorem zp_24_43 : zst 24 43 = some 68 := by decide +kernel
set_option maxRecDepth 10000 in
theorem zp_73_0 : zst 73 0 = some 74 := by decide +kernel
set_option maxRecDepth 10000 in
theorem zp_73_2 : zst 73 2 = some 85 := by decide +kernel
set_option maxRecDepth 10000 in
theorem zp_74_0 : zst 74 0 = some 75 := by decide +kernel
set_option maxRecDepth 10000 in
theorem zp_74_1 : zst 74 1 = some 84 := by decide +kernel
set_option maxRecDepth 10000 in
theorem zp_75_0 : zst 75 0 = some 76 := by decide +kernel
set_option maxRecDepth 10000 in
theorem zp_75_1 : zst 75 1 = some 77 := by decide +kernel
set_option maxRecDepth 10000 in
theorem zp_75_2 : zst 75 2 = some 78 := by decide +kernel
set_option maxRecDepth 10000 in
theorem zp_75_3 : zst 75 3 = some 79 := by decide +kernel
set_option maxRecDepth 10000 in
theorem zp_75_4 : zst 75 4 = some 80 := by decide +kernel
set_option maxRecDepth 10000 in
theorem zp_75_5 : zst 75 5 = some 81 := by decide +kernel
set_option maxRecDepth 10000 in
theorem zp_75_6 : zst 75 6 = some 82 := by decide +kernel
set_option maxRecDepth 10000 in
theorem zp_75_7 : zst 75 7 = some 83 := by decide +kernel
set_option maxRecDepth 10000 in
theorem zp_86_0 : zst 86 0 = some 74 := by decide +kernel
set_option maxRecDepth 10000 in
theorem zp_86_2 : zst 86 2 = some 87 := by decide +kernel
set_option maxRecDepth 10000 in
theorem zp_88_0 : zst 88 0 = some 121 := by decide +kernel
set_option maxRecDepth 10000 in
theorem zp_88_1 : zst 88 1 = some 134 := by decide +kernel
set_option maxRecDepth 10000 in
theorem zp_88_2 : zst 88 2 = some 147 := by decide +kernel
set_option maxRecDepth 10000 in
theorem zp_90_0 : zst 90 0 = some 91 := by decide +kernel
set_option maxRecDepth 10000 in
theorem zp_90_1 : zst 90 1 = some 92 := by decide +kernel
set_option maxRecDepth 10000 in
theorem zp_90_2 : zst 90 2 = some 93 := by decide +kernel
set_option maxRecDepth 10000 in
theorem zp_90_3 : zst 90 3 = some 94 := by decide +kernel
set_option maxRecDepth 10000 in
theorem zp_90_4 : zst 90 4 = some 95 := by decide +kernel
set_option maxRecDepth 10000 in
theorem zp_96_0 : zst 96 0 = some 97 := by decide +kernel
set_option maxRecDepth 10000 in
theorem zp_96_1 : zst 96 1 = some 107 := by decide +kernel
set_option maxRecDepth 10000 in
theorem zp_96_2 : zst 96 2 = some 105 := by decide +kernel
set_option maxRecDepth 10000 in
theorem zp_96_3 : zst 96 3 = some 106 := by decide +kernel
set_option maxRecDepth 10000 in
theorem zp_97_0 : zst 97 0 = some 98 := by decide +kernel
set_option maxRecDepth 10000 in
theorem zp_97_1 : zst 97 1 = some 99 := by decide +kernel
set_option maxRecDepth 10000 in
theorem zp_97_2 : zst 97 2 = some 100 := by decide +kernel
set_option maxRecDepth 10000 in
theorem zp_97_3 : zst 97 3 = some 101 := by decide +kernel
set_option maxRecDepth 10000 in
theorem zp_97_4 : zst 97 4 = some 102 := by decide +kernel
set_option maxRecDepth 10000 in
theorem zp_97_5 : zst 97 5 = some 103 := by decide +kernel
set_option maxRecDepth 10000 in
theorem zp_97_6 : zst 97 6 = some 104 := by decide +kernel
set_option maxRecDepth 10000 in
theorem zp_107_0 : zst 107 0 = some 108 := by decide +kernel
set_option maxRecDepth 10000 in
theorem zp_107_2 : zst 107 2 = some 119 := by decide +kernel
set_option maxRecDepth 10000 in
theorem zp_108_0 : zst 108 0 = some 109 := by decide +kernel
set_option maxRecDepth 10000 in
theorem zp_108_1 : zst 108 1 = some 118 := by decide +kernel
set_option maxRecDepth 10000 in
theorem zp_109_0 : zst 109 0 = some 110 := by decide +kernel
set_option maxRecDepth 10000 in
theorem zp_109_1 : zst 109 1 = some 111 := by decide +kernel
set_option maxRecDepth 10000 in
theorem zp_109_2 : zst 109 2 = some 112 := by decide +kernel
set_option maxRecDepth 10000 in
theorem zp_109_3 : zst 109 3 = some 113 := by decide +kernel
set_option maxRecDepth 10000 in
theorem zp_109_4 : zst 109 4 = some 114 := by decide +kernel
set_option maxRecDepth 10000 in
theorem zp_109_5 : zst 109 5 = some 115 := by decide +kernel
set_option maxRecDepth 10000 in
theorem zp_109_6 : zst 109 6 = some 116 := by decide +kernel
set_option maxRecDepth 10000 in
theorem zp_109_7 : zst 109 7 = some 117 := by decide +kernel
set_option maxRecDepth 10000 in
theorem zp_121_0 : zst 121 0 = some 122 := by decide +kernel
set_option maxRecDepth 10000 in
theorem zp_121_2 : zst 121 2 = some 133 := by decide +kernel
set_option maxRecDepth 10000 in
theorem zp_122_0 : zst 122 0 = some 123 := by decide +kernel
set_option maxRecDepth 10000 in
theorem zp_122_1 : zst 122 1 = some 132 := by decide +kernel
set_option maxRecDepth 10000 in
theorem zp_123_0 : zst 123 0 = some 124 := by decide +kernel
set_option maxRecDepth 10000 in
theorem zp_123_1 : zst 123 1 = some 125 := by decide +kernel
set_option maxRecDepth 10000 in
theorem zp_123_2 : zst 123 2 = some 126 := by decide +kernel
set_option maxRecDepth 10000 in
theorem zp_123_3 : zst 123 3 = some 127 := by decide +kernel
set_option maxRecDepth 10000 in
theorem zp_123_4 : zst 123 4 = some 128 := by decide +kernel
set_option maxRecDepth 10000 in
theorem zp_123_5 : zst 123 5 = some 129 := by decide +kernel
set_option maxRecDepth 10000 in
theorem zp_123_6 : zst 123 6 = some 130 := by decide +kernel
set_option maxRecDepth 10000 in
theorem zp_123_7 : zst 123 7 = some 131 := by decide +kernel
set_option maxRecDepth 10000 in
theorem zp_134_0 : zst 134 0 = some 135 := by decide +kernel
set_option maxRecDepth 10000 in
theorem zp_134_2 : zst 134 2 = some 146 := by decide +kernel
set_option maxRecDepth 10000 in
theorem zp_135_0 : zst 135 0 = some 136 := by decide +kernel
set_option maxRecDepth 10000 in
theorem zp_135_1 : zst 135 1 = some 145 := by decide +kernel
set_option maxRecDepth 10000 in
theorem zp_136_0 : zst 136 0 = some 137 := by decide +kernel
set_option maxRecDepth 10000 in
theorem zp_136_1 : zst 136 1 = some 138 := by decide +kernel
set_option maxRecDepth 10000 in
theorem zp_136_2 : zst 136 2 = some 139 := by decide +kernel
set_option maxRecDepth 10000 in
theorem zp_136_3 : zst 136 3 = some 140 := by decide +kernel
set_option maxRecDepth 10000 in
theorem zp_136_4 : zst 136 4 = some 141 := by decide +kernel
set_option maxRecDepth 10000 in
theorem zp_136_5 : zst 136 5 = some 142 := by decide +kernel
set_option maxRecDepth 10000 in
theorem zp_136_6 : zst 136 6 = some 143 := by decide +kernel
set_option maxRecDepth 10000 in
theorem zp_136_7 : zst 136 7 = some 144 := by decide +kernel
set_option maxRecDepth 10000 in
theorem zp_147_0 : zst 147 0 = some 148 := by decide +kernel
set_option maxRecDepth 10000 in
theorem zp_147_2 : zst 147 2 = some 159 := by decide +kernel
set_option maxRecDepth 10000 in
theorem zp_148_0 : zst 148 0 = some 149 := by decide +kernel
set_option maxRecDepth 10000 in
theorem zp_148_1 : zst 148 1 = some 158 := by decide +kernel
set_option maxRecDepth 10000 in
theorem zp_149_0 : zst 149 0 = some 150 := by decide +kernel
set_option maxRecDepth 10000 in
theorem zp_149_1 : zst 149 1 = some 151 := by decide +kernel
set_option maxRecDepth 10000 in
theorem zp_149_2 : zst 149 2 = some 152 := by decide +kernel
set_option maxRecDepth 10000 in
theorem zp_149_3 : zst 149 3 = some 153 := by decide +kernel
set_option maxRecDepth 10000 in
theorem zp_149_4 : zst 149 4 = some 154 := by decide +kernel
set_option maxRecDepth 10000 in
theorem zp_149_5 : zst 149 5 = some 155 := by decide +kernel
set_option maxRecDepth 10000 in
theorem zp_149_6 : zst 149 6 = some 156 := by decide +kernel
set_option maxRecDepth 10000 in
theorem zp_149_7 : zst 149 7 = some 157 := by decide +kernel
set_option maxRecDepth 10000 in
theorem zp_160_0 : zst 160 0 = some 161 := by decide +kernel
set_option maxRecDepth 10000 in
theorem zp_160_1 : zst 160 1 = some 162 := by decide +kernel
set_option maxRecDepth 10000 in
theorem zp_160_11 : zst 160 11 = some 163 := by decide +kernel
set_option maxRecDepth 10000 in
theorem zp_160_12 : zst 160 12 = some 164 := by decide +kernel
set_option maxRecDepth 10000 in
theorem zp_160_13 : zst 160 13 = some 165 := by decide +kernel
set_option maxRecDepth 10000 in
theorem zp_160_14 : zst 160 14 = some 166 := by decide +kernel
set_option maxRecDepth 10000 in
theorem zp_160_15 : zst 160 15 = some 167 := by decide +kernel
set_option maxRecDepth 10000 in
theorem zp_160_16 : zst 160 16 = some 168 := by decide +kernel
set_option maxRecDepth 10000 in
theorem zp_160_17 : zst 160 17 = some 169 := by decide +kernel
set_option maxRecDepth 10000 in
theorem zp_160_18 : zst 160 18 = some 170 := by decide +kernel
set_option maxRecDepth 10000 in
theorem zp_160_19 : zst 160 19 = some 171 := by decide +kernel
set_option maxRecDepth 10000 in
theorem zp_160_20 : zst 160 20 = some 172 := by decide +kernel
set_option maxRecDepth 10000 in
theorem zp_160_21 : zst 160 21 = some 173 := by decide +kernel
set_option maxRecDepth 10000 in
theorem zp_160_22 : zst 160 22 = some 174 := by decide +kernel
set_option maxRecDepth 10000 in
theorem zp_160_23 : zst 160 23 = some 175 := by decide +kernel
set_option maxRecDepth 10000 in
theorem zp_160_24 : zst 160 24 = some 176 := by decide +kernel
set_option maxRecDepth 10000 in
theorem zp_160_25 : zst 160 25 = some 177 := by decide +kernel
set_option maxRecDepth 10000 in
theorem zp_160_26 : zst 160 26 = some 178 := by decide +kernel
set_option maxRecDepth 10000 in
theorem zp_160_27 : zst 160 27 = some 179 := by decide +kernel
set_option maxRecDepth 10000 in
theorem zp_160_35 : zst 160 35 = some 180 := by decide +kernel
set_option maxRecDepth 10000 in
theorem zp_160_36 : zst 160 36 = some 181 := by decide +kernel
set_option maxRecDepth 10000 in
theorem zp_160_37 : zst 160 37 = some 182 := by decide +kernel
set_option maxRecDepth 10000 in
theorem zp_160_41 : zst 160 41 = some 183 := by decide +kernel
set_option maxRecDepth 10000 in
theorem zp_160_42 : zst 160 42 = some 184 := by decide +kernel
set_option maxRecDepth 10000 in
theorem zp_160_43 : zst 160 43 = some 185 := by decide +kernel
set_option maxRecDepth 10000 in
theorem zp_160_44 : zst 160 44 = some 186 := by decide +kernel
set_option maxRecDepth 10000 in
theorem zp_160_45 : zst 160 45 = some 187 := by decide +kernel
set_option maxRecDepth 10000 in
theorem zp_160_47 : zst 160 47 = some 188 := by decide +kernel
set_option maxRecDepth 10000 in
theorem zp_160_49 : zst 160 49 = some 189 := by decide +kernel
set_option maxRecDepth 10000 in
theorem zp_160_50 : zst 160 50 = some 190 := by decide +kernel
set_option maxRecDepth 10000 in
theorem zp_160_51 : zst 160 51 = some 191 := by decide +kernel
set_option maxRecDepth 10000 in
theorem zp_160_52 : zst 160 52 = some 192 := by decide +kernel
set_option maxRecDepth 10000 in
theorem zp_160_53 : zst 160 53 = some 193 := by decide +kernel
set_option maxRecDepth 10000 in
theorem zp_160_54 : zst 160 54 = some 194 := by decide +kernel
set_option maxRecDepth 10000 in
theorem zp_160_55 : zst 160 55 = some 195 := by decide +kernel
set_option maxRecDepth 10000 in
theorem zp_160_56 : zst 160 56 = some 196 := by decide +kernel
set_option maxRecDepth 10000 in
theorem zp_160_57 : zst 160 57 = some 197 := by decide +kernel
set_option maxRecDepth 10000 in
theorem zp_160_58 : zst 160 58 = some 198 := by decide +kernel
set_option maxRecDepth 10000 in
theorem zp_160_62 : zst 160 62 = some 199 := by decide +kernel
set_option maxRecDepth 10000 in
theorem zp_160_63 : zst 160 63 = some 200 := by decide +kernel
set_option maxRecDepth 10000 in
theorem zp_160_64 : zst 160 64 = some 201 := by decide +kernel
set_option maxRecDepth 10000 in
theorem zp_160_65 : zst 160 65 = some 202 := by decide +kernel
set_option maxRecDepth 10000 in
theorem zp_160_66 : zst 160 66 = some 203 := by decide +kernel
set_option maxRecDepth 10000 in
theorem zp_160_67 : zst 160 67 = some 204 := by decide +kernel
