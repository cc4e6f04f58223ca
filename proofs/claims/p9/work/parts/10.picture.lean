/-! the whole system's picture: its shapes, its fixed references; helpers of the walks -/
abbrev zPI : Type := Nat → Nat → Int32
abbrev zPL : Type := Nat → Nat → Int64
abbrev zPF : Type := Nat → Nat → Option Nat
abbrev zE0 : Nat × Nat × ((Nat → Prop) → Launch → State → Prop) := (0, 0, fun _ _ _ => True)
def zF : Nat := 100000
def zS0 : List zS := [.inl 7, .inl 3, .inr (.int, 9), .inr (.int, 18), .inr (.int, 18), .inr (.int, 3), .inr (.int, 9), .inr (.int, 18), .inr (.int, 3), .inl 6, .inr (.int, 60), .inr (.int, 60), .inr (.int, 60), .inl 5, .inr (.char, 1000), .inl 2, .inr (.int, 8), .inl 1, .inr (.int, 256), .inr (.int, 256), .inr (.long, 441), .inr (.long, 441), .inr (.int, 8), .inr (.int, 8), .inl 4, .inr (.int, 80), .inr (.int, 80), .inr (.int, 80), .inr (.int, 80), .inr (.int, 80), .inr (.int, 80), .inr (.int, 80), .inr (.int, 640), .inl 4, .inr (.int, 80), .inr (.int, 80), .inr (.int, 80), .inr (.int, 80), .inr (.int, 80), .inr (.int, 80), .inr (.int, 80), .inr (.int, 640), .inl 0, .inr (.int, 24), .inr (.int, 24), .inr (.int, 24), .inr (.int, 24), .inr (.int, 24), .inl 8, .inr (.int, 1000), .inr (.int, 1002), .inr (.int, 1002), .inr (.long, 1002), .inr (.long, 17), .inr (.int, 4400), .inr (.int, 4400), .inr (.int, 4400), .inr (.int, 2), .inr (.int, 9), .inr (.int, 18), .inr (.int, 18), .inr (.int, 3), .inr (.int, 24), .inr (.int, 24), .inr (.int, 24), .inr (.int, 24), .inr (.int, 24), .inr (.int, 60), .inr (.int, 60), .inr (.int, 60), .inr (.int, 1010), .inr (.int, 8), .inr (.int, 8), .inr (.boolean, 21609), .inr (.boolean, 21609), .inr (.int, 8), .inr (.long, 1)]
theorem zs_0 : zS0[0]? = some (.inl 7) := rfl
theorem zs_1 : zS0[1]? = some (.inl 3) := rfl
theorem zs_2 : zS0[2]? = some (.inr (.int, 9)) := rfl
theorem zs_3 : zS0[3]? = some (.inr (.int, 18)) := rfl
theorem zs_4 : zS0[4]? = some (.inr (.int, 18)) := rfl
theorem zs_5 : zS0[5]? = some (.inr (.int, 3)) := rfl
theorem zs_6 : zS0[6]? = some (.inr (.int, 9)) := rfl
theorem zs_7 : zS0[7]? = some (.inr (.int, 18)) := rfl
theorem zs_8 : zS0[8]? = some (.inr (.int, 3)) := rfl
theorem zs_9 : zS0[9]? = some (.inl 6) := rfl
theorem zs_10 : zS0[10]? = some (.inr (.int, 60)) := rfl
theorem zs_11 : zS0[11]? = some (.inr (.int, 60)) := rfl
theorem zs_12 : zS0[12]? = some (.inr (.int, 60)) := rfl
theorem zs_13 : zS0[13]? = some (.inl 5) := rfl
theorem zs_14 : zS0[14]? = some (.inr (.char, 1000)) := rfl
theorem zs_15 : zS0[15]? = some (.inl 2) := rfl
theorem zs_16 : zS0[16]? = some (.inr (.int, 8)) := rfl
theorem zs_17 : zS0[17]? = some (.inl 1) := rfl
theorem zs_18 : zS0[18]? = some (.inr (.int, 256)) := rfl
theorem zs_19 : zS0[19]? = some (.inr (.int, 256)) := rfl
theorem zs_20 : zS0[20]? = some (.inr (.long, 441)) := rfl
theorem zs_21 : zS0[21]? = some (.inr (.long, 441)) := rfl
theorem zs_22 : zS0[22]? = some (.inr (.int, 8)) := rfl
theorem zs_23 : zS0[23]? = some (.inr (.int, 8)) := rfl
theorem zs_24 : zS0[24]? = some (.inl 4) := rfl
theorem zs_25 : zS0[25]? = some (.inr (.int, 80)) := rfl
theorem zs_26 : zS0[26]? = some (.inr (.int, 80)) := rfl
theorem zs_27 : zS0[27]? = some (.inr (.int, 80)) := rfl
theorem zs_28 : zS0[28]? = some (.inr (.int, 80)) := rfl
theorem zs_29 : zS0[29]? = some (.inr (.int, 80)) := rfl
theorem zs_30 : zS0[30]? = some (.inr (.int, 80)) := rfl
theorem zs_31 : zS0[31]? = some (.inr (.int, 80)) := rfl
theorem zs_32 : zS0[32]? = some (.inr (.int, 640)) := rfl
theorem zs_33 : zS0[33]? = some (.inl 4) := rfl
theorem zs_34 : zS0[34]? = some (.inr (.int, 80)) := rfl
theorem zs_35 : zS0[35]? = some (.inr (.int, 80)) := rfl
theorem zs_36 : zS0[36]? = some (.inr (.int, 80)) := rfl
theorem zs_37 : zS0[37]? = some (.inr (.int, 80)) := rfl
theorem zs_38 : zS0[38]? = some (.inr (.int, 80)) := rfl
theorem zs_39 : zS0[39]? = some (.inr (.int, 80)) := rfl
theorem zs_40 : zS0[40]? = some (.inr (.int, 80)) := rfl
theorem zs_41 : zS0[41]? = some (.inr (.int, 640)) := rfl
theorem zs_42 : zS0[42]? = some (.inl 0) := rfl
theorem zs_43 : zS0[43]? = some (.inr (.int, 24)) := rfl
theorem zs_44 : zS0[44]? = some (.inr (.int, 24)) := rfl
theorem zs_45 : zS0[45]? = some (.inr (.int, 24)) := rfl
theorem zs_46 : zS0[46]? = some (.inr (.int, 24)) := rfl
theorem zs_47 : zS0[47]? = some (.inr (.int, 24)) := rfl
theorem zs_48 : zS0[48]? = some (.inl 8) := rfl
theorem zs_49 : zS0[49]? = some (.inr (.int, 1000)) := rfl
theorem zs_50 : zS0[50]? = some (.inr (.int, 1002)) := rfl
theorem zs_51 : zS0[51]? = some (.inr (.int, 1002)) := rfl
theorem zs_52 : zS0[52]? = some (.inr (.long, 1002)) := rfl
theorem zs_53 : zS0[53]? = some (.inr (.long, 17)) := rfl
theorem zs_54 : zS0[54]? = some (.inr (.int, 4400)) := rfl
theorem zs_55 : zS0[55]? = some (.inr (.int, 4400)) := rfl
theorem zs_56 : zS0[56]? = some (.inr (.int, 4400)) := rfl
theorem zs_57 : zS0[57]? = some (.inr (.int, 2)) := rfl
theorem zs_58 : zS0[58]? = some (.inr (.int, 9)) := rfl
theorem zs_59 : zS0[59]? = some (.inr (.int, 18)) := rfl
theorem zs_60 : zS0[60]? = some (.inr (.int, 18)) := rfl
theorem zs_61 : zS0[61]? = some (.inr (.int, 3)) := rfl
theorem zs_62 : zS0[62]? = some (.inr (.int, 24)) := rfl
theorem zs_63 : zS0[63]? = some (.inr (.int, 24)) := rfl
theorem zs_64 : zS0[64]? = some (.inr (.int, 24)) := rfl
theorem zs_65 : zS0[65]? = some (.inr (.int, 24)) := rfl
theorem zs_66 : zS0[66]? = some (.inr (.int, 24)) := rfl
theorem zs_67 : zS0[67]? = some (.inr (.int, 60)) := rfl
theorem zs_68 : zS0[68]? = some (.inr (.int, 60)) := rfl
theorem zs_69 : zS0[69]? = some (.inr (.int, 60)) := rfl
theorem zs_70 : zS0[70]? = some (.inr (.int, 1010)) := rfl
theorem zs_71 : zS0[71]? = some (.inr (.int, 8)) := rfl
theorem zs_72 : zS0[72]? = some (.inr (.int, 8)) := rfl
theorem zs_73 : zS0[73]? = some (.inr (.boolean, 21609)) := rfl
theorem zs_74 : zS0[74]? = some (.inr (.boolean, 21609)) := rfl
theorem zs_75 : zS0[75]? = some (.inr (.int, 8)) := rfl
theorem zs_76 : zS0[76]? = some (.inr (.long, 1)) := rfl
def zSc (o : Nat) : Prop := o = 24 ∨ o = 33
theorem zsc_o {o : Nat} (h : zSc o) : zS0[o]? = some (.inl 4) := by rcases h with rfl | rfl <;> rfl
theorem zsa_1 {o : Nat} (h : zSc o) : zS0[o + 1]? = some (.inr (.int, 80)) := by rcases h with rfl | rfl <;> rfl
theorem zsa_2 {o : Nat} (h : zSc o) : zS0[o + 2]? = some (.inr (.int, 80)) := by rcases h with rfl | rfl <;> rfl
theorem zsa_3 {o : Nat} (h : zSc o) : zS0[o + 3]? = some (.inr (.int, 80)) := by rcases h with rfl | rfl <;> rfl
theorem zsa_4 {o : Nat} (h : zSc o) : zS0[o + 4]? = some (.inr (.int, 80)) := by rcases h with rfl | rfl <;> rfl
theorem zsa_5 {o : Nat} (h : zSc o) : zS0[o + 5]? = some (.inr (.int, 80)) := by rcases h with rfl | rfl <;> rfl
theorem zsa_6 {o : Nat} (h : zSc o) : zS0[o + 6]? = some (.inr (.int, 80)) := by rcases h with rfl | rfl <;> rfl
theorem zsa_7 {o : Nat} (h : zSc o) : zS0[o + 7]? = some (.inr (.int, 80)) := by rcases h with rfl | rfl <;> rfl
theorem zsa_8 {o : Nat} (h : zSc o) : zS0[o + 8]? = some (.inr (.int, 640)) := by rcases h with rfl | rfl <;> rfl
def zRl : List (Nat × Nat × Nat) := [(0, 0, 42), (0, 1, 1), (0, 2, 9), (0, 3, 13), (0, 4, 15), (0, 5, 17), (0, 6, 23), (1, 0, 2), (1, 1, 3), (1, 2, 4), (1, 3, 5), (1, 4, 6), (1, 5, 7), (1, 6, 8), (9, 0, 10), (9, 1, 11), (9, 2, 12), (13, 0, 14), (15, 0, 13), (15, 1, 16), (17, 0, 18), (17, 1, 19), (17, 2, 20), (17, 3, 21), (17, 4, 22), (24, 1, 25), (24, 2, 26), (24, 3, 27), (24, 4, 28), (24, 5, 29), (24, 6, 30), (24, 7, 31), (24, 8, 32), (33, 1, 34), (33, 2, 35), (33, 3, 36), (33, 4, 37), (33, 5, 38), (33, 6, 39), (33, 7, 40), (33, 8, 41), (42, 1, 43), (42, 2, 44), (42, 3, 45), (42, 4, 46), (42, 5, 47), (48, 1, 49), (48, 4, 50), (48, 5, 51), (48, 6, 52), (48, 9, 53), (48, 10, 54), (48, 11, 55), (48, 12, 56), (48, 16, 57), (48, 19, 58), (48, 20, 59), (48, 21, 60), (48, 22, 61), (48, 23, 62), (48, 24, 63), (48, 25, 64), (48, 26, 65), (48, 27, 66), (48, 40, 67), (48, 41, 68), (48, 42, 69), (48, 45, 70), (48, 47, 71), (48, 48, 72), (48, 49, 73), (48, 50, 74), (48, 52, 75)]
/-- the references: fixed ones, the script in force a, the spare one b, what the reader writes into c -/
def zRin (F : zPF) (a b : Nat) (c : Option Nat) : Prop := (∀ q ∈ zRl, F q.1 q.2.1 = some q.2.2) ∧ F 0 7 = some a ∧ F 0 8 = some b ∧ F 15 3 = c ∧ zSc a ∧ zSc b
theorem rf_0_0 {F : zPF} {a b : Nat} {c : Option Nat} (h : zRin F a b c) : F 0 0 = some 42 := h.1 (0, 0, 42) (List.mem_of_getElem? (i := 0) rfl)
theorem rf_0_1 {F : zPF} {a b : Nat} {c : Option Nat} (h : zRin F a b c) : F 0 1 = some 1 := h.1 (0, 1, 1) (List.mem_of_getElem? (i := 1) rfl)
theorem rf_0_2 {F : zPF} {a b : Nat} {c : Option Nat} (h : zRin F a b c) : F 0 2 = some 9 := h.1 (0, 2, 9) (List.mem_of_getElem? (i := 2) rfl)
theorem rf_0_3 {F : zPF} {a b : Nat} {c : Option Nat} (h : zRin F a b c) : F 0 3 = some 13 := h.1 (0, 3, 13) (List.mem_of_getElem? (i := 3) rfl)
theorem rf_0_4 {F : zPF} {a b : Nat} {c : Option Nat} (h : zRin F a b c) : F 0 4 = some 15 := h.1 (0, 4, 15) (List.mem_of_getElem? (i := 4) rfl)
theorem rf_0_5 {F : zPF} {a b : Nat} {c : Option Nat} (h : zRin F a b c) : F 0 5 = some 17 := h.1 (0, 5, 17) (List.mem_of_getElem? (i := 5) rfl)
theorem rf_0_6 {F : zPF} {a b : Nat} {c : Option Nat} (h : zRin F a b c) : F 0 6 = some 23 := h.1 (0, 6, 23) (List.mem_of_getElem? (i := 6) rfl)
theorem rf_1_0 {F : zPF} {a b : Nat} {c : Option Nat} (h : zRin F a b c) : F 1 0 = some 2 := h.1 (1, 0, 2) (List.mem_of_getElem? (i := 7) rfl)
theorem rf_1_1 {F : zPF} {a b : Nat} {c : Option Nat} (h : zRin F a b c) : F 1 1 = some 3 := h.1 (1, 1, 3) (List.mem_of_getElem? (i := 8) rfl)
theorem rf_1_2 {F : zPF} {a b : Nat} {c : Option Nat} (h : zRin F a b c) : F 1 2 = some 4 := h.1 (1, 2, 4) (List.mem_of_getElem? (i := 9) rfl)
theorem rf_1_3 {F : zPF} {a b : Nat} {c : Option Nat} (h : zRin F a b c) : F 1 3 = some 5 := h.1 (1, 3, 5) (List.mem_of_getElem? (i := 10) rfl)
theorem rf_1_4 {F : zPF} {a b : Nat} {c : Option Nat} (h : zRin F a b c) : F 1 4 = some 6 := h.1 (1, 4, 6) (List.mem_of_getElem? (i := 11) rfl)
theorem rf_1_5 {F : zPF} {a b : Nat} {c : Option Nat} (h : zRin F a b c) : F 1 5 = some 7 := h.1 (1, 5, 7) (List.mem_of_getElem? (i := 12) rfl)
theorem rf_1_6 {F : zPF} {a b : Nat} {c : Option Nat} (h : zRin F a b c) : F 1 6 = some 8 := h.1 (1, 6, 8) (List.mem_of_getElem? (i := 13) rfl)
theorem rf_9_0 {F : zPF} {a b : Nat} {c : Option Nat} (h : zRin F a b c) : F 9 0 = some 10 := h.1 (9, 0, 10) (List.mem_of_getElem? (i := 14) rfl)
theorem rf_9_1 {F : zPF} {a b : Nat} {c : Option Nat} (h : zRin F a b c) : F 9 1 = some 11 := h.1 (9, 1, 11) (List.mem_of_getElem? (i := 15) rfl)
theorem rf_9_2 {F : zPF} {a b : Nat} {c : Option Nat} (h : zRin F a b c) : F 9 2 = some 12 := h.1 (9, 2, 12) (List.mem_of_getElem? (i := 16) rfl)
theorem rf_13_0 {F : zPF} {a b : Nat} {c : Option Nat} (h : zRin F a b c) : F 13 0 = some 14 := h.1 (13, 0, 14) (List.mem_of_getElem? (i := 17) rfl)
theorem rf_15_0 {F : zPF} {a b : Nat} {c : Option Nat} (h : zRin F a b c) : F 15 0 = some 13 := h.1 (15, 0, 13) (List.mem_of_getElem? (i := 18) rfl)
theorem rf_15_1 {F : zPF} {a b : Nat} {c : Option Nat} (h : zRin F a b c) : F 15 1 = some 16 := h.1 (15, 1, 16) (List.mem_of_getElem? (i := 19) rfl)
theorem rf_17_0 {F : zPF} {a b : Nat} {c : Option Nat} (h : zRin F a b c) : F 17 0 = some 18 := h.1 (17, 0, 18) (List.mem_of_getElem? (i := 20) rfl)
theorem rf_17_1 {F : zPF} {a b : Nat} {c : Option Nat} (h : zRin F a b c) : F 17 1 = some 19 := h.1 (17, 1, 19) (List.mem_of_getElem? (i := 21) rfl)
theorem rf_17_2 {F : zPF} {a b : Nat} {c : Option Nat} (h : zRin F a b c) : F 17 2 = some 20 := h.1 (17, 2, 20) (List.mem_of_getElem? (i := 22) rfl)
theorem rf_17_3 {F : zPF} {a b : Nat} {c : Option Nat} (h : zRin F a b c) : F 17 3 = some 21 := h.1 (17, 3, 21) (List.mem_of_getElem? (i := 23) rfl)
theorem rf_17_4 {F : zPF} {a b : Nat} {c : Option Nat} (h : zRin F a b c) : F 17 4 = some 22 := h.1 (17, 4, 22) (List.mem_of_getElem? (i := 24) rfl)
theorem rf_24_1 {F : zPF} {a b : Nat} {c : Option Nat} (h : zRin F a b c) : F 24 1 = some 25 := h.1 (24, 1, 25) (List.mem_of_getElem? (i := 25) rfl)
theorem rf_24_2 {F : zPF} {a b : Nat} {c : Option Nat} (h : zRin F a b c) : F 24 2 = some 26 := h.1 (24, 2, 26) (List.mem_of_getElem? (i := 26) rfl)
theorem rf_24_3 {F : zPF} {a b : Nat} {c : Option Nat} (h : zRin F a b c) : F 24 3 = some 27 := h.1 (24, 3, 27) (List.mem_of_getElem? (i := 27) rfl)
theorem rf_24_4 {F : zPF} {a b : Nat} {c : Option Nat} (h : zRin F a b c) : F 24 4 = some 28 := h.1 (24, 4, 28) (List.mem_of_getElem? (i := 28) rfl)
theorem rf_24_5 {F : zPF} {a b : Nat} {c : Option Nat} (h : zRin F a b c) : F 24 5 = some 29 := h.1 (24, 5, 29) (List.mem_of_getElem? (i := 29) rfl)
theorem rf_24_6 {F : zPF} {a b : Nat} {c : Option Nat} (h : zRin F a b c) : F 24 6 = some 30 := h.1 (24, 6, 30) (List.mem_of_getElem? (i := 30) rfl)
theorem rf_24_7 {F : zPF} {a b : Nat} {c : Option Nat} (h : zRin F a b c) : F 24 7 = some 31 := h.1 (24, 7, 31) (List.mem_of_getElem? (i := 31) rfl)
theorem rf_24_8 {F : zPF} {a b : Nat} {c : Option Nat} (h : zRin F a b c) : F 24 8 = some 32 := h.1 (24, 8, 32) (List.mem_of_getElem? (i := 32) rfl)
theorem rf_33_1 {F : zPF} {a b : Nat} {c : Option Nat} (h : zRin F a b c) : F 33 1 = some 34 := h.1 (33, 1, 34) (List.mem_of_getElem? (i := 33) rfl)
theorem rf_33_2 {F : zPF} {a b : Nat} {c : Option Nat} (h : zRin F a b c) : F 33 2 = some 35 := h.1 (33, 2, 35) (List.mem_of_getElem? (i := 34) rfl)
theorem rf_33_3 {F : zPF} {a b : Nat} {c : Option Nat} (h : zRin F a b c) : F 33 3 = some 36 := h.1 (33, 3, 36) (List.mem_of_getElem? (i := 35) rfl)
theorem rf_33_4 {F : zPF} {a b : Nat} {c : Option Nat} (h : zRin F a b c) : F 33 4 = some 37 := h.1 (33, 4, 37) (List.mem_of_getElem? (i := 36) rfl)
theorem rf_33_5 {F : zPF} {a b : Nat} {c : Option Nat} (h : zRin F a b c) : F 33 5 = some 38 := h.1 (33, 5, 38) (List.mem_of_getElem? (i := 37) rfl)
theorem rf_33_6 {F : zPF} {a b : Nat} {c : Option Nat} (h : zRin F a b c) : F 33 6 = some 39 := h.1 (33, 6, 39) (List.mem_of_getElem? (i := 38) rfl)
theorem rf_33_7 {F : zPF} {a b : Nat} {c : Option Nat} (h : zRin F a b c) : F 33 7 = some 40 := h.1 (33, 7, 40) (List.mem_of_getElem? (i := 39) rfl)
theorem rf_33_8 {F : zPF} {a b : Nat} {c : Option Nat} (h : zRin F a b c) : F 33 8 = some 41 := h.1 (33, 8, 41) (List.mem_of_getElem? (i := 40) rfl)
theorem rf_42_1 {F : zPF} {a b : Nat} {c : Option Nat} (h : zRin F a b c) : F 42 1 = some 43 := h.1 (42, 1, 43) (List.mem_of_getElem? (i := 41) rfl)
theorem rf_42_2 {F : zPF} {a b : Nat} {c : Option Nat} (h : zRin F a b c) : F 42 2 = some 44 := h.1 (42, 2, 44) (List.mem_of_getElem? (i := 42) rfl)
theorem rf_42_3 {F : zPF} {a b : Nat} {c : Option Nat} (h : zRin F a b c) : F 42 3 = some 45 := h.1 (42, 3, 45) (List.mem_of_getElem? (i := 43) rfl)
theorem rf_42_4 {F : zPF} {a b : Nat} {c : Option Nat} (h : zRin F a b c) : F 42 4 = some 46 := h.1 (42, 4, 46) (List.mem_of_getElem? (i := 44) rfl)
theorem rf_42_5 {F : zPF} {a b : Nat} {c : Option Nat} (h : zRin F a b c) : F 42 5 = some 47 := h.1 (42, 5, 47) (List.mem_of_getElem? (i := 45) rfl)
theorem rf_48_1 {F : zPF} {a b : Nat} {c : Option Nat} (h : zRin F a b c) : F 48 1 = some 49 := h.1 (48, 1, 49) (List.mem_of_getElem? (i := 46) rfl)
theorem rf_48_4 {F : zPF} {a b : Nat} {c : Option Nat} (h : zRin F a b c) : F 48 4 = some 50 := h.1 (48, 4, 50) (List.mem_of_getElem? (i := 47) rfl)
theorem rf_48_5 {F : zPF} {a b : Nat} {c : Option Nat} (h : zRin F a b c) : F 48 5 = some 51 := h.1 (48, 5, 51) (List.mem_of_getElem? (i := 48) rfl)
theorem rf_48_6 {F : zPF} {a b : Nat} {c : Option Nat} (h : zRin F a b c) : F 48 6 = some 52 := h.1 (48, 6, 52) (List.mem_of_getElem? (i := 49) rfl)
theorem rf_48_9 {F : zPF} {a b : Nat} {c : Option Nat} (h : zRin F a b c) : F 48 9 = some 53 := h.1 (48, 9, 53) (List.mem_of_getElem? (i := 50) rfl)
theorem rf_48_10 {F : zPF} {a b : Nat} {c : Option Nat} (h : zRin F a b c) : F 48 10 = some 54 := h.1 (48, 10, 54) (List.mem_of_getElem? (i := 51) rfl)
theorem rf_48_11 {F : zPF} {a b : Nat} {c : Option Nat} (h : zRin F a b c) : F 48 11 = some 55 := h.1 (48, 11, 55) (List.mem_of_getElem? (i := 52) rfl)
theorem rf_48_12 {F : zPF} {a b : Nat} {c : Option Nat} (h : zRin F a b c) : F 48 12 = some 56 := h.1 (48, 12, 56) (List.mem_of_getElem? (i := 53) rfl)
theorem rf_48_16 {F : zPF} {a b : Nat} {c : Option Nat} (h : zRin F a b c) : F 48 16 = some 57 := h.1 (48, 16, 57) (List.mem_of_getElem? (i := 54) rfl)
theorem rf_48_19 {F : zPF} {a b : Nat} {c : Option Nat} (h : zRin F a b c) : F 48 19 = some 58 := h.1 (48, 19, 58) (List.mem_of_getElem? (i := 55) rfl)
theorem rf_48_20 {F : zPF} {a b : Nat} {c : Option Nat} (h : zRin F a b c) : F 48 20 = some 59 := h.1 (48, 20, 59) (List.mem_of_getElem? (i := 56) rfl)
theorem rf_48_21 {F : zPF} {a b : Nat} {c : Option Nat} (h : zRin F a b c) : F 48 21 = some 60 := h.1 (48, 21, 60) (List.mem_of_getElem? (i := 57) rfl)
theorem rf_48_22 {F : zPF} {a b : Nat} {c : Option Nat} (h : zRin F a b c) : F 48 22 = some 61 := h.1 (48, 22, 61) (List.mem_of_getElem? (i := 58) rfl)
theorem rf_48_23 {F : zPF} {a b : Nat} {c : Option Nat} (h : zRin F a b c) : F 48 23 = some 62 := h.1 (48, 23, 62) (List.mem_of_getElem? (i := 59) rfl)
theorem rf_48_24 {F : zPF} {a b : Nat} {c : Option Nat} (h : zRin F a b c) : F 48 24 = some 63 := h.1 (48, 24, 63) (List.mem_of_getElem? (i := 60) rfl)
theorem rf_48_25 {F : zPF} {a b : Nat} {c : Option Nat} (h : zRin F a b c) : F 48 25 = some 64 := h.1 (48, 25, 64) (List.mem_of_getElem? (i := 61) rfl)
theorem rf_48_26 {F : zPF} {a b : Nat} {c : Option Nat} (h : zRin F a b c) : F 48 26 = some 65 := h.1 (48, 26, 65) (List.mem_of_getElem? (i := 62) rfl)
theorem rf_48_27 {F : zPF} {a b : Nat} {c : Option Nat} (h : zRin F a b c) : F 48 27 = some 66 := h.1 (48, 27, 66) (List.mem_of_getElem? (i := 63) rfl)
theorem rf_48_40 {F : zPF} {a b : Nat} {c : Option Nat} (h : zRin F a b c) : F 48 40 = some 67 := h.1 (48, 40, 67) (List.mem_of_getElem? (i := 64) rfl)
theorem rf_48_41 {F : zPF} {a b : Nat} {c : Option Nat} (h : zRin F a b c) : F 48 41 = some 68 := h.1 (48, 41, 68) (List.mem_of_getElem? (i := 65) rfl)
theorem rf_48_42 {F : zPF} {a b : Nat} {c : Option Nat} (h : zRin F a b c) : F 48 42 = some 69 := h.1 (48, 42, 69) (List.mem_of_getElem? (i := 66) rfl)
theorem rf_48_45 {F : zPF} {a b : Nat} {c : Option Nat} (h : zRin F a b c) : F 48 45 = some 70 := h.1 (48, 45, 70) (List.mem_of_getElem? (i := 67) rfl)
theorem rf_48_47 {F : zPF} {a b : Nat} {c : Option Nat} (h : zRin F a b c) : F 48 47 = some 71 := h.1 (48, 47, 71) (List.mem_of_getElem? (i := 68) rfl)
theorem rf_48_48 {F : zPF} {a b : Nat} {c : Option Nat} (h : zRin F a b c) : F 48 48 = some 72 := h.1 (48, 48, 72) (List.mem_of_getElem? (i := 69) rfl)
theorem rf_48_49 {F : zPF} {a b : Nat} {c : Option Nat} (h : zRin F a b c) : F 48 49 = some 73 := h.1 (48, 49, 73) (List.mem_of_getElem? (i := 70) rfl)
theorem rf_48_50 {F : zPF} {a b : Nat} {c : Option Nat} (h : zRin F a b c) : F 48 50 = some 74 := h.1 (48, 50, 74) (List.mem_of_getElem? (i := 71) rfl)
theorem rf_48_52 {F : zPF} {a b : Nat} {c : Option Nat} (h : zRin F a b c) : F 48 52 = some 75 := h.1 (48, 52, 75) (List.mem_of_getElem? (i := 72) rfl)
theorem rf_0_7 {F : zPF} {a b : Nat} {c : Option Nat} (h : zRin F a b c) : F 0 7 = some a := h.2.1
theorem rf_0_8 {F : zPF} {a b : Nat} {c : Option Nat} (h : zRin F a b c) : F 0 8 = some b := h.2.2.1
theorem rf_15_s {F : zPF} {a b : Nat} {c : Option Nat} (h : zRin F a b c) : F 15 3 = c := h.2.2.2.1
theorem zin_a {F : zPF} {a b : Nat} {c : Option Nat} (h : zRin F a b c) : zSc a := h.2.2.2.2.1
theorem zin_b {F : zPF} {a b : Nat} {c : Option Nat} (h : zRin F a b c) : zSc b := h.2.2.2.2.2
theorem rsc_1 {F : zPF} {a b o : Nat} {c : Option Nat} (h : zRin F a b c) (ho : zSc o) : F o 1 = some (o + 1) := by
  rcases ho with rfl | rfl
  · exact rf_24_1 h
  · exact rf_33_1 h
theorem rsc_2 {F : zPF} {a b o : Nat} {c : Option Nat} (h : zRin F a b c) (ho : zSc o) : F o 2 = some (o + 2) := by
  rcases ho with rfl | rfl
  · exact rf_24_2 h
  · exact rf_33_2 h
theorem rsc_3 {F : zPF} {a b o : Nat} {c : Option Nat} (h : zRin F a b c) (ho : zSc o) : F o 3 = some (o + 3) := by
  rcases ho with rfl | rfl
  · exact rf_24_3 h
  · exact rf_33_3 h
theorem rsc_4 {F : zPF} {a b o : Nat} {c : Option Nat} (h : zRin F a b c) (ho : zSc o) : F o 4 = some (o + 4) := by
  rcases ho with rfl | rfl
  · exact rf_24_4 h
  · exact rf_33_4 h
theorem rsc_5 {F : zPF} {a b o : Nat} {c : Option Nat} (h : zRin F a b c) (ho : zSc o) : F o 5 = some (o + 5) := by
  rcases ho with rfl | rfl
  · exact rf_24_5 h
  · exact rf_33_5 h
theorem rsc_6 {F : zPF} {a b o : Nat} {c : Option Nat} (h : zRin F a b c) (ho : zSc o) : F o 6 = some (o + 6) := by
  rcases ho with rfl | rfl
  · exact rf_24_6 h
  · exact rf_33_6 h
theorem rsc_7 {F : zPF} {a b o : Nat} {c : Option Nat} (h : zRin F a b c) (ho : zSc o) : F o 7 = some (o + 7) := by
  rcases ho with rfl | rfl
  · exact rf_24_7 h
  · exact rf_33_7 h
theorem rsc_8 {F : zPF} {a b o : Nat} {c : Option Nat} (h : zRin F a b c) (ho : zSc o) : F o 8 = some (o + 8) := by
  rcases ho with rfl | rfl
  · exact rf_24_8 h
  · exact rf_33_8 h
theorem zu_ne {α : Type} {f : Nat → Nat → α} {o k a b : Nat} {x : α} (h : ¬ (a = o ∧ b = k)) : zu f o k x a b = f a b := by
  by_cases h1 : a = o
  · exact zu_col (fun h2 => h ⟨h1, h2⟩)
  · exact zu_row h1
theorem zRl_s : ∀ q ∈ zRl, ¬ (q.1 = 15 ∧ q.2.1 = 3) := by decide
theorem zRl_a : ∀ q ∈ zRl, ¬ (q.1 = 0 ∧ q.2.1 = 7) := by decide
theorem zRl_b : ∀ q ∈ zRl, ¬ (q.1 = 0 ∧ q.2.1 = 8) := by decide
theorem zRin_s {F : zPF} {a b x : Nat} {c : Option Nat} (h : zRin F a b c) : zRin (zu F 15 3 (some x)) a b (some x) := by
  obtain ⟨h1, h2, h3, h4, h5⟩ := h
  refine ⟨fun q hq => ?_, ?_, ?_, zu_same, h5⟩
  · rw [zu_ne (zRl_s q hq)]; exact h1 q hq
  · rw [zu_ne (by decide)]; exact h2
  · rw [zu_ne (by decide)]; exact h3
theorem zRin_a {F : zPF} {a b x : Nat} {c : Option Nat} (h : zRin F a b c) (hx : zSc x) : zRin (zu F 0 7 (some x)) x b c := by
  obtain ⟨h1, h2, h3, h4, h5, h6⟩ := h
  refine ⟨fun q hq => ?_, zu_same, ?_, ?_, hx, h6⟩
  · rw [zu_ne (zRl_a q hq)]; exact h1 q hq
  · rw [zu_ne (by decide)]; exact h3
  · rw [zu_ne (by decide)]; exact h4
theorem zRin_b {F : zPF} {a b x : Nat} {c : Option Nat} (h : zRin F a b c) (hx : zSc x) : zRin (zu F 0 8 (some x)) a x c := by
  obtain ⟨h1, h2, h3, h4, h5, h6⟩ := h
  refine ⟨fun q hq => ?_, ?_, zu_same, ?_, h5, hx⟩
  · rw [zu_ne (zRl_b q hq)]; exact h1 q hq
  · rw [zu_ne (by decide)]; exact h2
  · rw [zu_ne (by decide)]; exact h4
/-! helpers -/
def zin (i : Int32) (n : Nat) : Bool := !(decide (i < 0)) && decide (i.toNatClampNeg < n)
theorem zin_vp {i : Int32} {n : Nat} (h : zin i n = true) : vp_in i n := by
  simp only [zin, Bool.and_eq_true, Bool.not_eq_true', decide_eq_false_iff_not, decide_eq_true_eq] at h
  intro q
  rcases q with q | q
  · exact h.1 q
  · omega
theorem zif {α : Type} {c : Bool} {A : Option α} {r : α} (h : (if c = true then A else none) = some r) : c = true ∧ A = some r := by
  cases c with
  | true => exact ⟨rfl, by simpa using h⟩
  | false => exact absurd h (by simp)
theorem zbind {α β : Type} {o : Option α} {f : α → Option β} {r : β} (h : o.bind f = some r) : ∃ a, o = some a ∧ f a = some r := by
  cases o with
  | none => cases h
  | some a => exact ⟨a, rfl, h⟩
def zlet {α β : Type} (e : α) (f : α → β) : β := f e
theorem zlet_at {α β : Type} {e v : α} {f : α → β} {r : β} (h : zlet e f = r) (ev : v = e) : f v = r := by subst ev; exact h
def zbl (x : Int32) : Bool := decide (x = 0) || decide (x = 1)
theorem znar_i {Mt : zM} {rv : Option zV} (h : Mt.2.2.2 = some .int) : znar Mt rv := fun x ty _ h2 => by rw [h] at h2; cases h2; rfl
theorem znar_b0 {Mt : zM} (h : Mt.2.2.2 = some .boolean) : znar Mt (some (zi 0)) := fun x ty h1 h2 => by rw [h] at h2; cases h2; cases h1; decide
theorem znar_b1 {Mt : zM} (h : Mt.2.2.2 = some .boolean) : znar Mt (some (zi 1)) := fun x ty h1 h2 => by rw [h] at h2; cases h2; cases h1; decide
theorem znar_bl {Mt : zM} {x : Int32} (h : Mt.2.2.2 = some .boolean) (hz : zbl x = true) : znar Mt (some (zi x)) := by
  simp only [zbl, Bool.or_eq_true, decide_eq_true_eq] at hz
  rcases hz with rfl | rfl
  · exact znar_b0 h
  · exact znar_b1 h
theorem znar_of {Mt Mt2 : zM} {x : Int32} (h : Mt.2.2.2 = some .boolean) (hb : znar Mt2 (some (zi x))) (h2 : Mt2.2.2.2 = some .boolean := by rfl) : znar Mt (some (zi x)) := fun y ty h1 h3 => by
  rw [h] at h3
  cases h3
  exact hb y _ h1 h2
theorem znot {x k : Int32} {z : Int} (h : ¬ x = k) (hk : k.toInt = z) : x.toInt ≠ z := fun e => h (Int32.toInt_inj.mp (e.trans hk.symm))
def zi2c (x : Int32) : Int32 := (x.toUInt32 % 65536).toInt32
def zushr (x : Int64) (y : Int32) : Int64 := (x.toUInt64 >>> (y.toInt64.toUInt64 &&& Int64.toUInt64 63)).toInt64
def zwd (w : Nat) : List Int32 := match zsr[w]? with
  | some q => q.2.2
  | none => []
theorem zwd_of {w : Nat} {q : Nat × String × List Int32} (h : zsr[w]? = some q) : zwd w = q.2.2 := by simp [zwd, h]
def zch (l : List Int32) (i : Int32) : Int32 := zi2c (l.getD i.toNatClampNeg 0 &&& 255)
def zst0 (i : Int32) : Int32 := ([0, 0, 0, 0, 0, 2, 4, 6, 8, 8, 8, 8, 8, 7, 6, 6, 6] : List Int32).getD i.toNatClampNeg 0
def zst1 (i : Int32) : Int32 := ([16, 16, 15, 13, 11, 9, 6, 3, 0, -3, -6, -9, -11, -13, -15, -16, -16, -16, -15, -13, -11, -9, -6, -3, 0, 3, 6, 9, 11, 13, 15, 16] : List Int32).getD i.toNatClampNeg 0
def zst2 (i : Int32) : Int32 := ([6, 5, 3] : List Int32).getD i.toNatClampNeg 0
section zHelp
variable {E : Nat × Nat × ((Nat → Prop) → Launch → State → Prop)} {X : Nat × (Nat → Int32)} {Mt : zM} {d pc : Nat} {lv : List (Nat × zV)} {st : List zV} {σ σ' : zW} {rv : Option zV}
theorem a_iincK {i : Nat} {n : Int} {x k0 : Int32} {lv' : List (Nat × zV)} (hd : decode Mt.2.1 pc = .ok (.iinc i n, 3)) (h0 : Int32.ofInt n = k0) (j : Nat) (hk : lv[j]? = some (i, zi x)) (hn : i < Mt.2.2.1) (h9 : (i, zi (x + k0)) :: zfl i lv = lv') (k : zAW E X Mt d (pc + 3) lv' st σ rv σ') : zAW E X Mt d pc lv st σ rv σ' := a_iinc hd j hk (by rw [h0]) hn h9 k
theorem a_qload_n {kk : Fin 4} {i : Nat} {r : Option Nat} (hd : decode Mt.2.1 pc = .ok (.aload_n kk, 1)) (hi : (kk : Nat) = i) (j : Nat) (hk : lv[j]? = some (i, zq r)) (k : zAW E X Mt d (pc + 1) lv (zq r :: st) σ rv σ') : zAW E X Mt d pc lv st σ rv σ' := by
  intro p l e R s m args below meth c H locs cells slots Q D dA A ad ls cx hl hP hD hS wR wl ws hc hs he
  have k9 := k p l e R s m args below meth c H locs cells slots Q D dA A ad ls cx hl hP hD hS wR wl (zwfs_cons (zwfv_at wl hk) ws) hc hs he
  have h9 := zLs_at hl hk
  cases r with
  | none => exact lv_aload_nN cx.1 cx.2.1 hd hi h9 k9
  | some x => exact lv_aload_n cx.1 cx.2.1 hd hi h9 k9
def zmmax (x y : Int32) : Int32 := if x < y then y else x
theorem zwcmax : Cond.code Lib.Math.max.name Lib.Math.max.code 2 (some .int) ∈ zT := zT_mem 641 (by decide +kernel) (by decide +kernel)
theorem a_mmax {idx : Nat} {x y : Int32} (hd : decode Mt.2.1 pc = .ok (.invokestatic idx, 3)) (hw : Cond.methodLink Mt.1.cls idx Lib.Math.max.name ∈ zT) (hd1 : 1 ≤ d) (h8 : (st.map zcat).sum ≤ 8) (hg : σ.1.length ≤ σ'.1.length ∧ zsl σ.1 ≤ zsl σ'.1) (k : zAW E X Mt d (pc + 3) lv (zi (zmmax x y) :: st) σ rv σ') : zAW E X Mt d pc lv (zi y :: zi x :: st) σ rv σ' := by
  intro p l e R s m args below meth c H locs cells slots Q D dA A ad ls cx hl hP hD hS wR wl ws hc hs he
  have a1 := cx.2.2.2.2.2.2.2.2.1
  have a2 := cx.2.2.2.2.2.2.2.2.2.1
  have a3 := zrest (m := m) (pc := pc) (ls := ls) (ad := ad) (rest := st.map (zc ad)) h8
  exact va_mmax cx.1 cx.2.1 (cx.2.2.1.trans hl.1.symm) cx.2.2.2.1 (cx.2.2.2.2.1 _ hw) (cx.2.2.2.2.1 _ zw640) (cx.2.2.2.2.1 _ zw89) (cx.2.2.2.2.1 _ zwcmax) (by omega) (by omega) (by omega) (by omega) hd (k p l e R s m args below meth c H locs cells slots Q D dA A ad ls cx hl hP hD hS wR wl (zwfs_i (zwfs_tail (zwfs_tail ws))) hc hs he)
def zmmin (x y : Int32) : Int32 := if y < x then y else x
theorem zwcmin : Cond.code Lib.Math.min.name Lib.Math.min.code 2 (some .int) ∈ zT := zT_mem 631 (by decide +kernel) (by decide +kernel)
theorem a_mmin {idx : Nat} {x y : Int32} (hd : decode Mt.2.1 pc = .ok (.invokestatic idx, 3)) (hw : Cond.methodLink Mt.1.cls idx Lib.Math.min.name ∈ zT) (hd1 : 1 ≤ d) (h8 : (st.map zcat).sum ≤ 8) (hg : σ.1.length ≤ σ'.1.length ∧ zsl σ.1 ≤ zsl σ'.1) (k : zAW E X Mt d (pc + 3) lv (zi (zmmin x y) :: st) σ rv σ') : zAW E X Mt d pc lv (zi y :: zi x :: st) σ rv σ' := by
  intro p l e R s m args below meth c H locs cells slots Q D dA A ad ls cx hl hP hD hS wR wl ws hc hs he
  have a1 := cx.2.2.2.2.2.2.2.2.1
  have a2 := cx.2.2.2.2.2.2.2.2.2.1
  have a3 := zrest (m := m) (pc := pc) (ls := ls) (ad := ad) (rest := st.map (zc ad)) h8
  exact va_mmin cx.1 cx.2.1 (cx.2.2.1.trans hl.1.symm) cx.2.2.2.1 (cx.2.2.2.2.1 _ hw) (cx.2.2.2.2.1 _ zw630) (cx.2.2.2.2.1 _ zw89) (cx.2.2.2.2.1 _ zwcmin) (by omega) (by omega) (by omega) (by omega) hd (k p l e R s m args below meth c H locs cells slots Q D dA A ad ls cx hl hP hD hS wR wl (zwfs_i (zwfs_tail (zwfs_tail ws))) hc hs he)
def zmabs (x : Int32) : Int32 := if 0 ≤ x then x else 0 - x
theorem zwcabs : Cond.code Lib.Math.abs.name Lib.Math.abs.code 1 (some .int) ∈ zT := zT_mem 691 (by decide +kernel) (by decide +kernel)
theorem a_mabs {idx : Nat} {x : Int32} (hd : decode Mt.2.1 pc = .ok (.invokestatic idx, 3)) (hw : Cond.methodLink Mt.1.cls idx Lib.Math.abs.name ∈ zT) (hd1 : 1 ≤ d) (h8 : (st.map zcat).sum ≤ 8) (hg : σ.1.length ≤ σ'.1.length ∧ zsl σ.1 ≤ zsl σ'.1) (k : zAW E X Mt d (pc + 3) lv (zi (zmabs x) :: st) σ rv σ') : zAW E X Mt d pc lv (zi x :: st) σ rv σ' := by
  intro p l e R s m args below meth c H locs cells slots Q D dA A ad ls cx hl hP hD hS wR wl ws hc hs he
  have a1 := cx.2.2.2.2.2.2.2.2.1
  have a2 := cx.2.2.2.2.2.2.2.2.2.1
  have a3 := zrest (m := m) (pc := pc) (ls := ls) (ad := ad) (rest := st.map (zc ad)) h8
  exact va_mabs cx.1 cx.2.1 (cx.2.2.1.trans hl.1.symm) cx.2.2.2.1 (cx.2.2.2.2.1 _ hw) (cx.2.2.2.2.1 _ zw690) (cx.2.2.2.2.1 _ zw89) (cx.2.2.2.2.1 _ zwcabs) (by omega) (by omega) (by omega) (by omega) hd (k p l e R s m args below meth c H locs cells slots Q D dA A ad ls cx hl hP hD hS wR wl (zwfs_i (zwfs_tail ws)) hc hs he)
theorem a_xlenK {i9 : Nat} {q : String × String × List Int32} {v : Int32} (hd : decode Mt.2.1 pc = .ok (.arraylength, 1)) (hq : zst[i9]? = some q) (hv : Int32.ofNat q.2.2.length = v) (k : zAW E X Mt d (pc + 1) lv (zi v :: st) σ rv σ') : zAW E X Mt d pc lv (zr (1001 + i9) :: st) σ rv σ' := by
  obtain ⟨S, I, L, F⟩ := σ
  refine a_xlen hd hq ?_
  rw [hv]
  exact k
theorem a_alenK_i {S : List zS} {I : zPI} {L : zPL} {F : zPF} {o n : Nat} {v : Int32} (hd : decode Mt.2.1 pc = .ok (.arraylength, 1)) (hsh : S[o]? = some (.inr (.int, n))) (hv : Int32.ofNat n = v) (k : zAW E X Mt d (pc + 1) lv (zi v :: st) (S, I, L, F) rv σ') : zAW E X Mt d pc lv (zr o :: st) (S, I, L, F) rv σ' := by
  refine a_alen_i hd hsh ?_
  rw [hv]
  exact k
theorem a_alenK_c {S : List zS} {I : zPI} {L : zPL} {F : zPF} {o n : Nat} {v : Int32} (hd : decode Mt.2.1 pc = .ok (.arraylength, 1)) (hsh : S[o]? = some (.inr (.char, n))) (hv : Int32.ofNat n = v) (k : zAW E X Mt d (pc + 1) lv (zi v :: st) (S, I, L, F) rv σ') : zAW E X Mt d pc lv (zr o :: st) (S, I, L, F) rv σ' := by
  refine a_alen_c hd hsh ?_
  rw [hv]
  exact k
theorem a_alenK_z {S : List zS} {I : zPI} {L : zPL} {F : zPF} {o n : Nat} {v : Int32} (hd : decode Mt.2.1 pc = .ok (.arraylength, 1)) (hsh : S[o]? = some (.inr (.boolean, n))) (hv : Int32.ofNat n = v) (k : zAW E X Mt d (pc + 1) lv (zi v :: st) (S, I, L, F) rv σ') : zAW E X Mt d pc lv (zr o :: st) (S, I, L, F) rv σ' := by
  refine a_alen_z hd hsh ?_
  rw [hv]
  exact k
theorem a_alenK_l {S : List zS} {I : zPI} {L : zPL} {F : zPF} {o n : Nat} {v : Int32} (hd : decode Mt.2.1 pc = .ok (.arraylength, 1)) (hsh : S[o]? = some (.inr (.long, n))) (hv : Int32.ofNat n = v) (k : zAW E X Mt d (pc + 1) lv (zi v :: st) (S, I, L, F) rv σ') : zAW E X Mt d pc lv (zr o :: st) (S, I, L, F) rv σ' := by
  refine a_alen_l hd hsh ?_
  rw [hv]
  exact k
theorem a_lushrZ {x : Int64} {y : Int32} (hd : decode Mt.2.1 pc = .ok (.lushr, 1)) (k : zAW E X Mt d (pc + 1) lv (zl (zushr x y) :: st) σ rv σ') : zAW E X Mt d pc lv (zi y :: zl x :: st) σ rv σ' := a_lushr hd k
theorem a_i2cZ {x : Int32} (hd : decode Mt.2.1 pc = .ok (.i2c, 1)) (k : zAW E X Mt d (pc + 1) lv (zi (zi2c x) :: st) σ rv σ') : zAW E X Mt d pc lv (zi x :: st) σ rv σ' := a_i2c hd k
theorem a_xaldK {i9 : Nat} {q : String × String × List Int32} {i : Int32} {f : Int32 → Int32} (hd : decode Mt.2.1 pc = .ok (.iaload, 1)) (hq : zst[i9]? = some q) (hin : vp_in i q.2.2.length) (hf : q.2.2.getD i.toNatClampNeg 0 = f i) (k : zAW E X Mt d (pc + 1) lv (zi (f i) :: st) σ rv σ') : zAW E X Mt d pc lv (zi i :: zr (1001 + i9) :: st) σ rv σ' := by
  obtain ⟨S, I, L, F⟩ := σ
  refine a_xald hd hq hin ?_
  rw [hf]
  exact k
end zHelp
/-! the words' own methods -/
section zWords
variable {X : Nat × (Nat → Int32)} {σ : zW} {w : Nat} {wd : Nat × String × List Int32}
theorem tJ0_coder (hw : zsr[w]? = some wd) : zAM X mJ0_coder_7d493 0 [zr (1020 + w)] σ (some (zi 0)) σ := by
  refine zAM_of (by decide) (Nat.le_of_ble_eq_true rfl) ⟨fun h => (by cases h), fun h => (by cases h)⟩ (Nat.le_refl _) (Nat.le_refl _) ?_
  show zAW zE0 X mJ0_coder_7d493 0 0 [(0, zr (1020 + w))] [] σ (some (zi 0)) σ
  refine a_scmp dJ0_coder_7d493_0 zw442 ?_
  refine a_if_eq (tgt := 13) dJ0_coder_7d493_3 rfl (fun h => absurd h (by decide)) (fun _ => ?_)
  refine a_aload_n dJ0_coder_7d493_6 rfl 0 rfl ?_
  refine a_scod dJ0_coder_7d493_7 hw zw1355 ?_
  refine a_goto (tgt := 14) dJ0_coder_7d493_10 rfl ?_
  exact a_iret dJ0_coder_7d493_14 (by intro h; cases h) (fun x ty h1 h2 => by cases h1; cases h2; decide)
theorem tJ0_isLatin1 (hw : zsr[w]? = some wd) : zAM X mJ0_isLatin1_aae02 0 [zr (1020 + w)] σ (some (zi 1)) σ := by
  refine zAM_of (by decide) (Nat.le_of_ble_eq_true rfl) ⟨fun h => (by cases h), fun h => (by cases h)⟩ (Nat.le_refl _) (Nat.le_refl _) ?_
  show zAW zE0 X mJ0_isLatin1_aae02 0 0 [(0, zr (1020 + w))] [] σ (some (zi 1)) σ
  refine a_scmp dJ0_isLatin1_aae02_0 zw442 ?_
  refine a_if_eq (tgt := 17) dJ0_isLatin1_aae02_3 rfl (fun h => absurd h (by decide)) (fun _ => ?_)
  refine a_aload_n dJ0_isLatin1_aae02_6 rfl 0 rfl ?_
  refine a_scod dJ0_isLatin1_aae02_7 hw zw1355 ?_
  refine a_if_ne (tgt := 17) dJ0_isLatin1_aae02_10 rfl (fun h => absurd rfl h) (fun _ => ?_)
  refine a_iconst (v := 1) dJ0_isLatin1_aae02_13 (by decide) ?_
  refine a_goto (tgt := 18) dJ0_isLatin1_aae02_14 rfl ?_
  exact a_iret dJ0_isLatin1_aae02_18 (by intro h; cases h) (znar_b1 rfl)
theorem zsr_len (hw : zsr[w]? = some wd) : wd.2.2.length ≤ 6 := by
  have h := List.mem_of_getElem? hw
  have : ∀ q ∈ zsr, q.2.2.length ≤ 6 := by decide
  exact this wd h
theorem zshr0 {n : Nat} (h : n < 2 ^ 31) : Int32.ofNat n >>> ((0 : Int32) &&& 31) = Int32.ofNat n := sc_shr0 h
theorem tJ0_length (hw : zsr[w]? = some wd) : zAM X mJ0_length_8abf5 1 [zr (1020 + w)] σ (some (zi (Int32.ofNat (zwd w).length))) σ := by
  refine zAM_of (by decide) (Nat.le_of_ble_eq_true rfl) ⟨fun h => (by cases h), fun h => (by cases h)⟩ (Nat.le_refl _) (Nat.le_refl _) ?_
  show zAW zE0 X mJ0_length_8abf5 1 0 [(0, zr (1020 + w))] [] σ (some (zi (Int32.ofNat (zwd w).length))) σ
  rw [zwd_of hw]
  refine a_aload_n dJ0_length_8abf5_0 rfl 0 rfl ?_
  refine a_sval dJ0_length_8abf5_1 hw zw1354 ?_
  refine a_sblen dJ0_length_8abf5_4 hw ?_
  refine a_aload_n dJ0_length_8abf5_5 rfl 0 rfl ?_
  refine a_callVs dJ0_length_8abf5_6 (tJ0_coder hw) csJ0_coder_7d493 zw438 (Nat.le_of_ble_eq_true rfl) hw rfl rfl (Nat.le_of_ble_eq_true rfl) ⟨Nat.le_refl _, Nat.le_refl _⟩ (fun _ => ?_)
  refine a_ishr dJ0_length_8abf5_9 ?_
  rw [zshr0 (Nat.lt_of_le_of_lt (zsr_len hw) (by decide))]
  exact a_iret dJ0_length_8abf5_10 (by intro h; cases h) (znar_i rfl)
theorem tJ3_checkIndex {i n : Int32} {r : Option Nat} (h0 : ¬ i < 0) (h1 : i < n) : zAM X mJ3_checkIndex_8e157 0 [zi i, zi n, zq r] σ (some (zi i)) σ := by
  refine zAM_of (by decide) (by cases r <;> exact Nat.le_of_ble_eq_true rfl) ⟨fun h => (by cases h), fun h => (by cases h)⟩ (Nat.le_refl _) (Nat.le_refl _) ?_
  show zAW zE0 X mJ3_checkIndex_8e157 0 0 [(0, zi i), (1, zi n), (2, zq r)] [] σ (some (zi i)) σ
  refine a_iload_n dJ3_checkIndex_8e157_0 rfl 0 rfl ?_
  refine a_if_lt (tgt := 9) dJ3_checkIndex_8e157_1 rfl (fun h => absurd h h0) (fun _ => ?_)
  refine a_iload_n dJ3_checkIndex_8e157_4 rfl 0 rfl ?_
  refine a_iload_n dJ3_checkIndex_8e157_5 rfl 1 rfl ?_
  refine a_icmp_lt (tgt := 16) dJ3_checkIndex_8e157_6 rfl (fun _ => ?_) (fun h => absurd h1 h)
  refine a_iload_n dJ3_checkIndex_8e157_16 rfl 0 rfl ?_
  exact a_iret dJ3_checkIndex_8e157_17 (by intro h; cases h) (znar_i rfl)
theorem tJ0_checkIndex {i n : Int32} (h0 : ¬ i < 0) (h1 : i < n) : zAM X mJ0_checkIndex_df160 1 [zi i, zi n] σ none σ := by
  refine zAM_of (by decide) (Nat.le_of_ble_eq_true rfl) ⟨fun _ => rfl, fun _ => rfl⟩ (Nat.le_refl _) (Nat.le_refl _) ?_
  show zAW zE0 X mJ0_checkIndex_df160 1 0 [(0, zi i), (1, zi n)] [] σ none σ
  refine a_iload_n dJ0_checkIndex_df160_0 rfl 0 rfl ?_
  refine a_iload_n dJ0_checkIndex_df160_1 rfl 1 rfl ?_
  refine a_getfmt dJ0_checkIndex_df160_2 zw458 (fun r => ?_)
  refine a_callS dJ0_checkIndex_df160_5 (tJ3_checkIndex (r := r) h0 h1) csJ3_checkIndex_8e157 zw460 (Nat.le_of_ble_eq_true rfl) rfl (Nat.le_of_ble_eq_true rfl) ⟨Nat.le_refl _, Nat.le_refl _⟩ (fun _ => ?_)
  refine a_pop dJ0_checkIndex_df160_8 rfl ?_
  exact a_vret dJ0_checkIndex_df160_9 rfl
theorem tJ1_charAt {i : Int32} (hw : zsr[w]? = some wd) (hz : zin i (zwd w).length = true) : zAM X mJ1_charAt_3b067 2 [zr (1050 + w), zi i] σ (some (zi (zch (zwd w) i))) σ := by
  refine zAM_of (by decide) (Nat.le_of_ble_eq_true rfl) ⟨fun h => (by cases h), fun h => (by cases h)⟩ (Nat.le_refl _) (Nat.le_refl _) ?_
  show zAW zE0 X mJ1_charAt_3b067 2 0 [(0, zr (1050 + w)), (1, zi i)] [] σ (some (zi (zch (zwd w) i))) σ
  have hv := zin_vp hz
  rw [zwd_of hw] at hv ⊢
  have hlen := zsr_len hw
  have hi := vp_in_iff.mp hv
  have h0 : ¬ i < 0 := fun h => hv (Or.inl h)
  have h1 : i < Int32.ofNat wd.2.2.length := by
    obtain ⟨j, hj, e⟩ := vp_in_of hv (Nat.lt_of_le_of_lt hlen (by decide))
    rw [e]
    exact nI_lt hj (Nat.lt_of_le_of_lt hlen (by decide))
  refine a_iload_n dJ1_charAt_3b067_0 rfl 1 rfl ?_
  refine a_aload_n dJ1_charAt_3b067_1 rfl 0 rfl ?_
  refine a_sblen dJ1_charAt_3b067_2 hw ?_
  refine a_callS dJ1_charAt_3b067_3 (tJ0_checkIndex h0 h1) csJ0_checkIndex_df160 zw455 (Nat.le_of_ble_eq_true rfl) rfl (Nat.le_of_ble_eq_true rfl) ⟨Nat.le_refl _, Nat.le_refl _⟩ (fun _ => ?_)
  refine a_aload_n dJ1_charAt_3b067_6 rfl 0 rfl ?_
  refine a_iload_n dJ1_charAt_3b067_7 rfl 1 rfl ?_
  refine a_sbald dJ1_charAt_3b067_8 hw hv ?_
  refine a_sipush (v := 255) dJ1_charAt_3b067_9 (by decide) ?_
  refine a_iand dJ1_charAt_3b067_12 ?_
  refine a_i2c dJ1_charAt_3b067_13 ?_
  exact a_iret dJ1_charAt_3b067_14 (by intro h; cases h) (fun x ty h1 h2 => by cases h1; cases h2; exact pk_nc _)
theorem tJ0_charAt {i : Int32} (hw : zsr[w]? = some wd) (hz : zin i (zwd w).length = true) : zAM X mJ0_charAt_5068e 3 [zr (1020 + w), zi i] σ (some (zi (zch (zwd w) i))) σ := by
  refine zAM_of (by decide) (Nat.le_of_ble_eq_true rfl) ⟨fun h => (by cases h), fun h => (by cases h)⟩ (Nat.le_refl _) (Nat.le_refl _) ?_
  show zAW zE0 X mJ0_charAt_5068e 3 0 [(0, zr (1020 + w)), (1, zi i)] [] σ (some (zi (zch (zwd w) i))) σ
  refine a_aload_n dJ0_charAt_5068e_0 rfl 0 rfl ?_
  refine a_callVs dJ0_charAt_5068e_1 (tJ0_isLatin1 hw) csJ0_isLatin1_aae02 zw448 (Nat.le_of_ble_eq_true rfl) hw rfl rfl (Nat.le_of_ble_eq_true rfl) ⟨Nat.le_refl _, Nat.le_refl _⟩ (fun _ => ?_)
  refine a_if_eq (tgt := 16) dJ0_charAt_5068e_4 rfl (fun h => absurd h (by decide)) (fun _ => ?_)
  refine a_aload_n dJ0_charAt_5068e_7 rfl 0 rfl ?_
  refine a_sval dJ0_charAt_5068e_8 hw zw1354 ?_
  refine a_iload_n dJ0_charAt_5068e_11 rfl 1 rfl ?_
  refine a_callS dJ0_charAt_5068e_12 (tJ1_charAt hw hz) csJ1_charAt_3b067 zw452 (Nat.le_of_ble_eq_true rfl) rfl (Nat.le_of_ble_eq_true rfl) ⟨Nat.le_refl _, Nat.le_refl _⟩ (fun hb => ?_)
  exact a_iret dJ0_charAt_5068e_15 (by intro h; cases h) (fun x ty h1 h2 => by cases h2; exact hb x _ h1 rfl)
end zWords
