/-! The world at the beginning. -/
def s0F (k j : Nat) : Int32 := if j = 0 then (if [11, 21, 33, 43, 53, 63, 73, 83, 93, 103].elem k = true then nI 10 else if [15, 25, 37, 47, 57, 67, 77, 87, 97, 107].elem k = true then nI 3 else 0) else if j = 2 then (if k = 113 then nI 1 else if k = 116 then nI 1 else 0) else 0
def s0A (f0 g0 f1 g1 : Nat → Int32) (k : Nat) : Nat → Int32 := if k = 114 then f0 else if k = 115 then g0 else if k = 117 then f1 else if k = 118 then g1 else fun _ => 0
def s0 (f0 g0 f1 g1 : Nat → Int32) : SS := (s0F, s0A f0 g0 f1 g1, fun _ _ => 0, fun j => 31 + 10 * j)
def w0L (G : Gl) (f0 g0 f1 g1 : Nat → Int32) : List va_E := (BSo G 0 f0 g0 f1 g1).set 30 (aP G 6 (fun j => some (31 + 10 * j))) ++ BRf G 123
theorem w0_0 (G : Gl) (f0 g0 f1 g1 : Nat → Int32) : (w0L G f0 g0 f1 g1)[0]? = (sk 0).map (cellOf G (s0 f0 g0 f1 g1) 0) := rfl
theorem w0_1 (G : Gl) (f0 g0 f1 g1 : Nat → Int32) : (w0L G f0 g0 f1 g1)[1]? = (sk 1).map (cellOf G (s0 f0 g0 f1 g1) 1) := rfl
theorem w0_2 (G : Gl) (f0 g0 f1 g1 : Nat → Int32) : (w0L G f0 g0 f1 g1)[2]? = (sk 2).map (cellOf G (s0 f0 g0 f1 g1) 2) := rfl
theorem w0_3 (G : Gl) (f0 g0 f1 g1 : Nat → Int32) : (w0L G f0 g0 f1 g1)[3]? = (sk 3).map (cellOf G (s0 f0 g0 f1 g1) 3) := rfl
theorem w0_4 (G : Gl) (f0 g0 f1 g1 : Nat → Int32) : (w0L G f0 g0 f1 g1)[4]? = (sk 4).map (cellOf G (s0 f0 g0 f1 g1) 4) := rfl
theorem w0_5 (G : Gl) (f0 g0 f1 g1 : Nat → Int32) : (w0L G f0 g0 f1 g1)[5]? = (sk 5).map (cellOf G (s0 f0 g0 f1 g1) 5) := rfl
theorem w0_6 (G : Gl) (f0 g0 f1 g1 : Nat → Int32) : (w0L G f0 g0 f1 g1)[6]? = (sk 6).map (cellOf G (s0 f0 g0 f1 g1) 6) := rfl
theorem w0_7 (G : Gl) (f0 g0 f1 g1 : Nat → Int32) : (w0L G f0 g0 f1 g1)[7]? = (sk 7).map (cellOf G (s0 f0 g0 f1 g1) 7) := rfl
theorem w0_8 (G : Gl) (f0 g0 f1 g1 : Nat → Int32) : (w0L G f0 g0 f1 g1)[8]? = (sk 8).map (cellOf G (s0 f0 g0 f1 g1) 8) := rfl
theorem w0_9 (G : Gl) (f0 g0 f1 g1 : Nat → Int32) : (w0L G f0 g0 f1 g1)[9]? = (sk 9).map (cellOf G (s0 f0 g0 f1 g1) 9) := rfl
theorem w0_10 (G : Gl) (f0 g0 f1 g1 : Nat → Int32) : (w0L G f0 g0 f1 g1)[10]? = (sk 10).map (cellOf G (s0 f0 g0 f1 g1) 10) := rfl
theorem w0_11 (G : Gl) (f0 g0 f1 g1 : Nat → Int32) : (w0L G f0 g0 f1 g1)[11]? = (sk 11).map (cellOf G (s0 f0 g0 f1 g1) 11) := rfl
theorem w0_12 (G : Gl) (f0 g0 f1 g1 : Nat → Int32) : (w0L G f0 g0 f1 g1)[12]? = (sk 12).map (cellOf G (s0 f0 g0 f1 g1) 12) := rfl
theorem w0_13 (G : Gl) (f0 g0 f1 g1 : Nat → Int32) : (w0L G f0 g0 f1 g1)[13]? = (sk 13).map (cellOf G (s0 f0 g0 f1 g1) 13) := rfl
theorem w0_14 (G : Gl) (f0 g0 f1 g1 : Nat → Int32) : (w0L G f0 g0 f1 g1)[14]? = (sk 14).map (cellOf G (s0 f0 g0 f1 g1) 14) := rfl
theorem w0_15 (G : Gl) (f0 g0 f1 g1 : Nat → Int32) : (w0L G f0 g0 f1 g1)[15]? = (sk 15).map (cellOf G (s0 f0 g0 f1 g1) 15) := rfl
theorem w0_16 (G : Gl) (f0 g0 f1 g1 : Nat → Int32) : (w0L G f0 g0 f1 g1)[16]? = (sk 16).map (cellOf G (s0 f0 g0 f1 g1) 16) := rfl
theorem w0_17 (G : Gl) (f0 g0 f1 g1 : Nat → Int32) : (w0L G f0 g0 f1 g1)[17]? = (sk 17).map (cellOf G (s0 f0 g0 f1 g1) 17) := rfl
theorem w0_18 (G : Gl) (f0 g0 f1 g1 : Nat → Int32) : (w0L G f0 g0 f1 g1)[18]? = (sk 18).map (cellOf G (s0 f0 g0 f1 g1) 18) := rfl
theorem w0_19 (G : Gl) (f0 g0 f1 g1 : Nat → Int32) : (w0L G f0 g0 f1 g1)[19]? = (sk 19).map (cellOf G (s0 f0 g0 f1 g1) 19) := rfl
theorem w0_20 (G : Gl) (f0 g0 f1 g1 : Nat → Int32) : (w0L G f0 g0 f1 g1)[20]? = (sk 20).map (cellOf G (s0 f0 g0 f1 g1) 20) := rfl
theorem w0_21 (G : Gl) (f0 g0 f1 g1 : Nat → Int32) : (w0L G f0 g0 f1 g1)[21]? = (sk 21).map (cellOf G (s0 f0 g0 f1 g1) 21) := rfl
theorem w0_22 (G : Gl) (f0 g0 f1 g1 : Nat → Int32) : (w0L G f0 g0 f1 g1)[22]? = (sk 22).map (cellOf G (s0 f0 g0 f1 g1) 22) := rfl
theorem w0_23 (G : Gl) (f0 g0 f1 g1 : Nat → Int32) : (w0L G f0 g0 f1 g1)[23]? = (sk 23).map (cellOf G (s0 f0 g0 f1 g1) 23) := rfl
theorem w0_24 (G : Gl) (f0 g0 f1 g1 : Nat → Int32) : (w0L G f0 g0 f1 g1)[24]? = (sk 24).map (cellOf G (s0 f0 g0 f1 g1) 24) := rfl
theorem w0_25 (G : Gl) (f0 g0 f1 g1 : Nat → Int32) : (w0L G f0 g0 f1 g1)[25]? = (sk 25).map (cellOf G (s0 f0 g0 f1 g1) 25) := rfl
theorem w0_26 (G : Gl) (f0 g0 f1 g1 : Nat → Int32) : (w0L G f0 g0 f1 g1)[26]? = (sk 26).map (cellOf G (s0 f0 g0 f1 g1) 26) := rfl
theorem w0_27 (G : Gl) (f0 g0 f1 g1 : Nat → Int32) : (w0L G f0 g0 f1 g1)[27]? = (sk 27).map (cellOf G (s0 f0 g0 f1 g1) 27) := rfl
theorem w0_28 (G : Gl) (f0 g0 f1 g1 : Nat → Int32) : (w0L G f0 g0 f1 g1)[28]? = (sk 28).map (cellOf G (s0 f0 g0 f1 g1) 28) := rfl
theorem w0_29 (G : Gl) (f0 g0 f1 g1 : Nat → Int32) : (w0L G f0 g0 f1 g1)[29]? = (sk 29).map (cellOf G (s0 f0 g0 f1 g1) 29) := rfl
theorem w0_30 (G : Gl) (f0 g0 f1 g1 : Nat → Int32) : (w0L G f0 g0 f1 g1)[30]? = (sk 30).map (cellOf G (s0 f0 g0 f1 g1) 30) := rfl
theorem w0_31 (G : Gl) (f0 g0 f1 g1 : Nat → Int32) : (w0L G f0 g0 f1 g1)[31]? = (sk 31).map (cellOf G (s0 f0 g0 f1 g1) 31) := rfl
theorem w0_32 (G : Gl) (f0 g0 f1 g1 : Nat → Int32) : (w0L G f0 g0 f1 g1)[32]? = (sk 32).map (cellOf G (s0 f0 g0 f1 g1) 32) := rfl
theorem w0_33 (G : Gl) (f0 g0 f1 g1 : Nat → Int32) : (w0L G f0 g0 f1 g1)[33]? = (sk 33).map (cellOf G (s0 f0 g0 f1 g1) 33) := rfl
theorem w0_34 (G : Gl) (f0 g0 f1 g1 : Nat → Int32) : (w0L G f0 g0 f1 g1)[34]? = (sk 34).map (cellOf G (s0 f0 g0 f1 g1) 34) := rfl
theorem w0_35 (G : Gl) (f0 g0 f1 g1 : Nat → Int32) : (w0L G f0 g0 f1 g1)[35]? = (sk 35).map (cellOf G (s0 f0 g0 f1 g1) 35) := rfl
theorem w0_36 (G : Gl) (f0 g0 f1 g1 : Nat → Int32) : (w0L G f0 g0 f1 g1)[36]? = (sk 36).map (cellOf G (s0 f0 g0 f1 g1) 36) := rfl
theorem w0_37 (G : Gl) (f0 g0 f1 g1 : Nat → Int32) : (w0L G f0 g0 f1 g1)[37]? = (sk 37).map (cellOf G (s0 f0 g0 f1 g1) 37) := rfl
theorem w0_38 (G : Gl) (f0 g0 f1 g1 : Nat → Int32) : (w0L G f0 g0 f1 g1)[38]? = (sk 38).map (cellOf G (s0 f0 g0 f1 g1) 38) := rfl
theorem w0_39 (G : Gl) (f0 g0 f1 g1 : Nat → Int32) : (w0L G f0 g0 f1 g1)[39]? = (sk 39).map (cellOf G (s0 f0 g0 f1 g1) 39) := rfl
theorem w0_40 (G : Gl) (f0 g0 f1 g1 : Nat → Int32) : (w0L G f0 g0 f1 g1)[40]? = (sk 40).map (cellOf G (s0 f0 g0 f1 g1) 40) := rfl
theorem w0_41 (G : Gl) (f0 g0 f1 g1 : Nat → Int32) : (w0L G f0 g0 f1 g1)[41]? = (sk 41).map (cellOf G (s0 f0 g0 f1 g1) 41) := rfl
theorem w0_42 (G : Gl) (f0 g0 f1 g1 : Nat → Int32) : (w0L G f0 g0 f1 g1)[42]? = (sk 42).map (cellOf G (s0 f0 g0 f1 g1) 42) := rfl
theorem w0_43 (G : Gl) (f0 g0 f1 g1 : Nat → Int32) : (w0L G f0 g0 f1 g1)[43]? = (sk 43).map (cellOf G (s0 f0 g0 f1 g1) 43) := rfl
theorem w0_44 (G : Gl) (f0 g0 f1 g1 : Nat → Int32) : (w0L G f0 g0 f1 g1)[44]? = (sk 44).map (cellOf G (s0 f0 g0 f1 g1) 44) := rfl
theorem w0_45 (G : Gl) (f0 g0 f1 g1 : Nat → Int32) : (w0L G f0 g0 f1 g1)[45]? = (sk 45).map (cellOf G (s0 f0 g0 f1 g1) 45) := rfl
theorem w0_46 (G : Gl) (f0 g0 f1 g1 : Nat → Int32) : (w0L G f0 g0 f1 g1)[46]? = (sk 46).map (cellOf G (s0 f0 g0 f1 g1) 46) := rfl
theorem w0_47 (G : Gl) (f0 g0 f1 g1 : Nat → Int32) : (w0L G f0 g0 f1 g1)[47]? = (sk 47).map (cellOf G (s0 f0 g0 f1 g1) 47) := rfl
theorem w0_48 (G : Gl) (f0 g0 f1 g1 : Nat → Int32) : (w0L G f0 g0 f1 g1)[48]? = (sk 48).map (cellOf G (s0 f0 g0 f1 g1) 48) := rfl
theorem w0_49 (G : Gl) (f0 g0 f1 g1 : Nat → Int32) : (w0L G f0 g0 f1 g1)[49]? = (sk 49).map (cellOf G (s0 f0 g0 f1 g1) 49) := rfl
theorem w0_50 (G : Gl) (f0 g0 f1 g1 : Nat → Int32) : (w0L G f0 g0 f1 g1)[50]? = (sk 50).map (cellOf G (s0 f0 g0 f1 g1) 50) := rfl
theorem w0_51 (G : Gl) (f0 g0 f1 g1 : Nat → Int32) : (w0L G f0 g0 f1 g1)[51]? = (sk 51).map (cellOf G (s0 f0 g0 f1 g1) 51) := rfl
theorem w0_52 (G : Gl) (f0 g0 f1 g1 : Nat → Int32) : (w0L G f0 g0 f1 g1)[52]? = (sk 52).map (cellOf G (s0 f0 g0 f1 g1) 52) := rfl
theorem w0_53 (G : Gl) (f0 g0 f1 g1 : Nat → Int32) : (w0L G f0 g0 f1 g1)[53]? = (sk 53).map (cellOf G (s0 f0 g0 f1 g1) 53) := rfl
theorem w0_54 (G : Gl) (f0 g0 f1 g1 : Nat → Int32) : (w0L G f0 g0 f1 g1)[54]? = (sk 54).map (cellOf G (s0 f0 g0 f1 g1) 54) := rfl
theorem w0_55 (G : Gl) (f0 g0 f1 g1 : Nat → Int32) : (w0L G f0 g0 f1 g1)[55]? = (sk 55).map (cellOf G (s0 f0 g0 f1 g1) 55) := rfl
theorem w0_56 (G : Gl) (f0 g0 f1 g1 : Nat → Int32) : (w0L G f0 g0 f1 g1)[56]? = (sk 56).map (cellOf G (s0 f0 g0 f1 g1) 56) := rfl
theorem w0_57 (G : Gl) (f0 g0 f1 g1 : Nat → Int32) : (w0L G f0 g0 f1 g1)[57]? = (sk 57).map (cellOf G (s0 f0 g0 f1 g1) 57) := rfl
theorem w0_58 (G : Gl) (f0 g0 f1 g1 : Nat → Int32) : (w0L G f0 g0 f1 g1)[58]? = (sk 58).map (cellOf G (s0 f0 g0 f1 g1) 58) := rfl
theorem w0_59 (G : Gl) (f0 g0 f1 g1 : Nat → Int32) : (w0L G f0 g0 f1 g1)[59]? = (sk 59).map (cellOf G (s0 f0 g0 f1 g1) 59) := rfl
theorem w0_60 (G : Gl) (f0 g0 f1 g1 : Nat → Int32) : (w0L G f0 g0 f1 g1)[60]? = (sk 60).map (cellOf G (s0 f0 g0 f1 g1) 60) := rfl
theorem w0_61 (G : Gl) (f0 g0 f1 g1 : Nat → Int32) : (w0L G f0 g0 f1 g1)[61]? = (sk 61).map (cellOf G (s0 f0 g0 f1 g1) 61) := rfl
theorem w0_62 (G : Gl) (f0 g0 f1 g1 : Nat → Int32) : (w0L G f0 g0 f1 g1)[62]? = (sk 62).map (cellOf G (s0 f0 g0 f1 g1) 62) := rfl
theorem w0_63 (G : Gl) (f0 g0 f1 g1 : Nat → Int32) : (w0L G f0 g0 f1 g1)[63]? = (sk 63).map (cellOf G (s0 f0 g0 f1 g1) 63) := rfl
theorem w0_64 (G : Gl) (f0 g0 f1 g1 : Nat → Int32) : (w0L G f0 g0 f1 g1)[64]? = (sk 64).map (cellOf G (s0 f0 g0 f1 g1) 64) := rfl
theorem w0_65 (G : Gl) (f0 g0 f1 g1 : Nat → Int32) : (w0L G f0 g0 f1 g1)[65]? = (sk 65).map (cellOf G (s0 f0 g0 f1 g1) 65) := rfl
theorem w0_66 (G : Gl) (f0 g0 f1 g1 : Nat → Int32) : (w0L G f0 g0 f1 g1)[66]? = (sk 66).map (cellOf G (s0 f0 g0 f1 g1) 66) := rfl
theorem w0_67 (G : Gl) (f0 g0 f1 g1 : Nat → Int32) : (w0L G f0 g0 f1 g1)[67]? = (sk 67).map (cellOf G (s0 f0 g0 f1 g1) 67) := rfl
theorem w0_68 (G : Gl) (f0 g0 f1 g1 : Nat → Int32) : (w0L G f0 g0 f1 g1)[68]? = (sk 68).map (cellOf G (s0 f0 g0 f1 g1) 68) := rfl
theorem w0_69 (G : Gl) (f0 g0 f1 g1 : Nat → Int32) : (w0L G f0 g0 f1 g1)[69]? = (sk 69).map (cellOf G (s0 f0 g0 f1 g1) 69) := rfl
theorem w0_70 (G : Gl) (f0 g0 f1 g1 : Nat → Int32) : (w0L G f0 g0 f1 g1)[70]? = (sk 70).map (cellOf G (s0 f0 g0 f1 g1) 70) := rfl
theorem w0_71 (G : Gl) (f0 g0 f1 g1 : Nat → Int32) : (w0L G f0 g0 f1 g1)[71]? = (sk 71).map (cellOf G (s0 f0 g0 f1 g1) 71) := rfl
theorem w0_72 (G : Gl) (f0 g0 f1 g1 : Nat → Int32) : (w0L G f0 g0 f1 g1)[72]? = (sk 72).map (cellOf G (s0 f0 g0 f1 g1) 72) := rfl
theorem w0_73 (G : Gl) (f0 g0 f1 g1 : Nat → Int32) : (w0L G f0 g0 f1 g1)[73]? = (sk 73).map (cellOf G (s0 f0 g0 f1 g1) 73) := rfl
theorem w0_74 (G : Gl) (f0 g0 f1 g1 : Nat → Int32) : (w0L G f0 g0 f1 g1)[74]? = (sk 74).map (cellOf G (s0 f0 g0 f1 g1) 74) := rfl
theorem w0_75 (G : Gl) (f0 g0 f1 g1 : Nat → Int32) : (w0L G f0 g0 f1 g1)[75]? = (sk 75).map (cellOf G (s0 f0 g0 f1 g1) 75) := rfl
theorem w0_76 (G : Gl) (f0 g0 f1 g1 : Nat → Int32) : (w0L G f0 g0 f1 g1)[76]? = (sk 76).map (cellOf G (s0 f0 g0 f1 g1) 76) := rfl
theorem w0_77 (G : Gl) (f0 g0 f1 g1 : Nat → Int32) : (w0L G f0 g0 f1 g1)[77]? = (sk 77).map (cellOf G (s0 f0 g0 f1 g1) 77) := rfl
theorem w0_78 (G : Gl) (f0 g0 f1 g1 : Nat → Int32) : (w0L G f0 g0 f1 g1)[78]? = (sk 78).map (cellOf G (s0 f0 g0 f1 g1) 78) := rfl
theorem w0_79 (G : Gl) (f0 g0 f1 g1 : Nat → Int32) : (w0L G f0 g0 f1 g1)[79]? = (sk 79).map (cellOf G (s0 f0 g0 f1 g1) 79) := rfl
theorem w0_80 (G : Gl) (f0 g0 f1 g1 : Nat → Int32) : (w0L G f0 g0 f1 g1)[80]? = (sk 80).map (cellOf G (s0 f0 g0 f1 g1) 80) := rfl
theorem w0_81 (G : Gl) (f0 g0 f1 g1 : Nat → Int32) : (w0L G f0 g0 f1 g1)[81]? = (sk 81).map (cellOf G (s0 f0 g0 f1 g1) 81) := rfl
theorem w0_82 (G : Gl) (f0 g0 f1 g1 : Nat → Int32) : (w0L G f0 g0 f1 g1)[82]? = (sk 82).map (cellOf G (s0 f0 g0 f1 g1) 82) := rfl
theorem w0_83 (G : Gl) (f0 g0 f1 g1 : Nat → Int32) : (w0L G f0 g0 f1 g1)[83]? = (sk 83).map (cellOf G (s0 f0 g0 f1 g1) 83) := rfl
theorem w0_84 (G : Gl) (f0 g0 f1 g1 : Nat → Int32) : (w0L G f0 g0 f1 g1)[84]? = (sk 84).map (cellOf G (s0 f0 g0 f1 g1) 84) := rfl
theorem w0_85 (G : Gl) (f0 g0 f1 g1 : Nat → Int32) : (w0L G f0 g0 f1 g1)[85]? = (sk 85).map (cellOf G (s0 f0 g0 f1 g1) 85) := rfl
theorem w0_86 (G : Gl) (f0 g0 f1 g1 : Nat → Int32) : (w0L G f0 g0 f1 g1)[86]? = (sk 86).map (cellOf G (s0 f0 g0 f1 g1) 86) := rfl
theorem w0_87 (G : Gl) (f0 g0 f1 g1 : Nat → Int32) : (w0L G f0 g0 f1 g1)[87]? = (sk 87).map (cellOf G (s0 f0 g0 f1 g1) 87) := rfl
theorem w0_88 (G : Gl) (f0 g0 f1 g1 : Nat → Int32) : (w0L G f0 g0 f1 g1)[88]? = (sk 88).map (cellOf G (s0 f0 g0 f1 g1) 88) := rfl
theorem w0_89 (G : Gl) (f0 g0 f1 g1 : Nat → Int32) : (w0L G f0 g0 f1 g1)[89]? = (sk 89).map (cellOf G (s0 f0 g0 f1 g1) 89) := rfl
theorem w0_90 (G : Gl) (f0 g0 f1 g1 : Nat → Int32) : (w0L G f0 g0 f1 g1)[90]? = (sk 90).map (cellOf G (s0 f0 g0 f1 g1) 90) := rfl
theorem w0_91 (G : Gl) (f0 g0 f1 g1 : Nat → Int32) : (w0L G f0 g0 f1 g1)[91]? = (sk 91).map (cellOf G (s0 f0 g0 f1 g1) 91) := rfl
theorem w0_92 (G : Gl) (f0 g0 f1 g1 : Nat → Int32) : (w0L G f0 g0 f1 g1)[92]? = (sk 92).map (cellOf G (s0 f0 g0 f1 g1) 92) := rfl
theorem w0_93 (G : Gl) (f0 g0 f1 g1 : Nat → Int32) : (w0L G f0 g0 f1 g1)[93]? = (sk 93).map (cellOf G (s0 f0 g0 f1 g1) 93) := rfl
theorem w0_94 (G : Gl) (f0 g0 f1 g1 : Nat → Int32) : (w0L G f0 g0 f1 g1)[94]? = (sk 94).map (cellOf G (s0 f0 g0 f1 g1) 94) := rfl
theorem w0_95 (G : Gl) (f0 g0 f1 g1 : Nat → Int32) : (w0L G f0 g0 f1 g1)[95]? = (sk 95).map (cellOf G (s0 f0 g0 f1 g1) 95) := rfl
theorem w0_96 (G : Gl) (f0 g0 f1 g1 : Nat → Int32) : (w0L G f0 g0 f1 g1)[96]? = (sk 96).map (cellOf G (s0 f0 g0 f1 g1) 96) := rfl
theorem w0_97 (G : Gl) (f0 g0 f1 g1 : Nat → Int32) : (w0L G f0 g0 f1 g1)[97]? = (sk 97).map (cellOf G (s0 f0 g0 f1 g1) 97) := rfl
theorem w0_98 (G : Gl) (f0 g0 f1 g1 : Nat → Int32) : (w0L G f0 g0 f1 g1)[98]? = (sk 98).map (cellOf G (s0 f0 g0 f1 g1) 98) := rfl
theorem w0_99 (G : Gl) (f0 g0 f1 g1 : Nat → Int32) : (w0L G f0 g0 f1 g1)[99]? = (sk 99).map (cellOf G (s0 f0 g0 f1 g1) 99) := rfl
theorem w0_100 (G : Gl) (f0 g0 f1 g1 : Nat → Int32) : (w0L G f0 g0 f1 g1)[100]? = (sk 100).map (cellOf G (s0 f0 g0 f1 g1) 100) := rfl
theorem w0_101 (G : Gl) (f0 g0 f1 g1 : Nat → Int32) : (w0L G f0 g0 f1 g1)[101]? = (sk 101).map (cellOf G (s0 f0 g0 f1 g1) 101) := rfl
theorem w0_102 (G : Gl) (f0 g0 f1 g1 : Nat → Int32) : (w0L G f0 g0 f1 g1)[102]? = (sk 102).map (cellOf G (s0 f0 g0 f1 g1) 102) := rfl
theorem w0_103 (G : Gl) (f0 g0 f1 g1 : Nat → Int32) : (w0L G f0 g0 f1 g1)[103]? = (sk 103).map (cellOf G (s0 f0 g0 f1 g1) 103) := rfl
theorem w0_104 (G : Gl) (f0 g0 f1 g1 : Nat → Int32) : (w0L G f0 g0 f1 g1)[104]? = (sk 104).map (cellOf G (s0 f0 g0 f1 g1) 104) := rfl
theorem w0_105 (G : Gl) (f0 g0 f1 g1 : Nat → Int32) : (w0L G f0 g0 f1 g1)[105]? = (sk 105).map (cellOf G (s0 f0 g0 f1 g1) 105) := rfl
theorem w0_106 (G : Gl) (f0 g0 f1 g1 : Nat → Int32) : (w0L G f0 g0 f1 g1)[106]? = (sk 106).map (cellOf G (s0 f0 g0 f1 g1) 106) := rfl
theorem w0_107 (G : Gl) (f0 g0 f1 g1 : Nat → Int32) : (w0L G f0 g0 f1 g1)[107]? = (sk 107).map (cellOf G (s0 f0 g0 f1 g1) 107) := rfl
theorem w0_108 (G : Gl) (f0 g0 f1 g1 : Nat → Int32) : (w0L G f0 g0 f1 g1)[108]? = (sk 108).map (cellOf G (s0 f0 g0 f1 g1) 108) := rfl
theorem w0_109 (G : Gl) (f0 g0 f1 g1 : Nat → Int32) : (w0L G f0 g0 f1 g1)[109]? = (sk 109).map (cellOf G (s0 f0 g0 f1 g1) 109) := rfl
theorem w0_110 (G : Gl) (f0 g0 f1 g1 : Nat → Int32) : (w0L G f0 g0 f1 g1)[110]? = (sk 110).map (cellOf G (s0 f0 g0 f1 g1) 110) := rfl
theorem w0_111 (G : Gl) (f0 g0 f1 g1 : Nat → Int32) : (w0L G f0 g0 f1 g1)[111]? = (sk 111).map (cellOf G (s0 f0 g0 f1 g1) 111) := rfl
theorem w0_112 (G : Gl) (f0 g0 f1 g1 : Nat → Int32) : (w0L G f0 g0 f1 g1)[112]? = (sk 112).map (cellOf G (s0 f0 g0 f1 g1) 112) := rfl
theorem w0_113 (G : Gl) (f0 g0 f1 g1 : Nat → Int32) : (w0L G f0 g0 f1 g1)[113]? = (sk 113).map (cellOf G (s0 f0 g0 f1 g1) 113) := rfl
theorem w0_114 (G : Gl) (f0 g0 f1 g1 : Nat → Int32) : (w0L G f0 g0 f1 g1)[114]? = (sk 114).map (cellOf G (s0 f0 g0 f1 g1) 114) := rfl
theorem w0_115 (G : Gl) (f0 g0 f1 g1 : Nat → Int32) : (w0L G f0 g0 f1 g1)[115]? = (sk 115).map (cellOf G (s0 f0 g0 f1 g1) 115) := rfl
theorem w0_116 (G : Gl) (f0 g0 f1 g1 : Nat → Int32) : (w0L G f0 g0 f1 g1)[116]? = (sk 116).map (cellOf G (s0 f0 g0 f1 g1) 116) := rfl
theorem w0_117 (G : Gl) (f0 g0 f1 g1 : Nat → Int32) : (w0L G f0 g0 f1 g1)[117]? = (sk 117).map (cellOf G (s0 f0 g0 f1 g1) 117) := rfl
theorem w0_118 (G : Gl) (f0 g0 f1 g1 : Nat → Int32) : (w0L G f0 g0 f1 g1)[118]? = (sk 118).map (cellOf G (s0 f0 g0 f1 g1) 118) := rfl
theorem w0_119 (G : Gl) (f0 g0 f1 g1 : Nat → Int32) : (w0L G f0 g0 f1 g1)[119]? = (sk 119).map (cellOf G (s0 f0 g0 f1 g1) 119) := rfl
theorem w0_120 (G : Gl) (f0 g0 f1 g1 : Nat → Int32) : (w0L G f0 g0 f1 g1)[120]? = (sk 120).map (cellOf G (s0 f0 g0 f1 g1) 120) := rfl
theorem w0_121 (G : Gl) (f0 g0 f1 g1 : Nat → Int32) : (w0L G f0 g0 f1 g1)[121]? = (sk 121).map (cellOf G (s0 f0 g0 f1 g1) 121) := rfl
theorem w0_122 (G : Gl) (f0 g0 f1 g1 : Nat → Int32) : (w0L G f0 g0 f1 g1)[122]? = (sk 122).map (cellOf G (s0 f0 g0 f1 g1) 122) := rfl
set_option maxRecDepth 100000 in
theorem w0_123 (G : Gl) (f0 g0 f1 g1 : Nat → Int32) : (w0L G f0 g0 f1 g1)[123]? = (sk 123).map (cellOf G (s0 f0 g0 f1 g1) 123) := by
  rw [sk_123]
  show _ = some (ob 10 (List.mapIdx (fun j r => fv G (s0 f0 g0 f1 g1) 123 j r) ([none, some 124, some 125, some 126, none, some 127, some 128, some 129, none, none, none, none, none, none, some 130, none, none, some 131, none, some 132, some 133, none, some 134, none, some 135, none] : List (Option Nat))))
  simp only [List.mapIdx_cons, List.mapIdx_nil]
  rfl
theorem w0_124 (G : Gl) (f0 g0 f1 g1 : Nat → Int32) : (w0L G f0 g0 f1 g1)[124]? = (sk 124).map (cellOf G (s0 f0 g0 f1 g1) 124) := rfl
theorem w0_125 (G : Gl) (f0 g0 f1 g1 : Nat → Int32) : (w0L G f0 g0 f1 g1)[125]? = (sk 125).map (cellOf G (s0 f0 g0 f1 g1) 125) := rfl
theorem w0_126 (G : Gl) (f0 g0 f1 g1 : Nat → Int32) : (w0L G f0 g0 f1 g1)[126]? = (sk 126).map (cellOf G (s0 f0 g0 f1 g1) 126) := rfl
theorem w0_127 (G : Gl) (f0 g0 f1 g1 : Nat → Int32) : (w0L G f0 g0 f1 g1)[127]? = (sk 127).map (cellOf G (s0 f0 g0 f1 g1) 127) := rfl
theorem w0_128 (G : Gl) (f0 g0 f1 g1 : Nat → Int32) : (w0L G f0 g0 f1 g1)[128]? = (sk 128).map (cellOf G (s0 f0 g0 f1 g1) 128) := rfl
theorem w0_129 (G : Gl) (f0 g0 f1 g1 : Nat → Int32) : (w0L G f0 g0 f1 g1)[129]? = (sk 129).map (cellOf G (s0 f0 g0 f1 g1) 129) := rfl
theorem w0_130 (G : Gl) (f0 g0 f1 g1 : Nat → Int32) : (w0L G f0 g0 f1 g1)[130]? = (sk 130).map (cellOf G (s0 f0 g0 f1 g1) 130) := rfl
theorem w0_131 (G : Gl) (f0 g0 f1 g1 : Nat → Int32) : (w0L G f0 g0 f1 g1)[131]? = (sk 131).map (cellOf G (s0 f0 g0 f1 g1) 131) := rfl
theorem w0_132 (G : Gl) (f0 g0 f1 g1 : Nat → Int32) : (w0L G f0 g0 f1 g1)[132]? = (sk 132).map (cellOf G (s0 f0 g0 f1 g1) 132) := rfl
theorem w0_133 (G : Gl) (f0 g0 f1 g1 : Nat → Int32) : (w0L G f0 g0 f1 g1)[133]? = (sk 133).map (cellOf G (s0 f0 g0 f1 g1) 133) := rfl
theorem w0_134 (G : Gl) (f0 g0 f1 g1 : Nat → Int32) : (w0L G f0 g0 f1 g1)[134]? = (sk 134).map (cellOf G (s0 f0 g0 f1 g1) 134) := rfl
theorem w0_135 (G : Gl) (f0 g0 f1 g1 : Nat → Int32) : (w0L G f0 g0 f1 g1)[135]? = (sk 135).map (cellOf G (s0 f0 g0 f1 g1) 135) := rfl
theorem lt_step {P : Nat → Prop} {n : Nat} (h : ∀ j, j < n → P j) (hn : P n) : ∀ j, j < n + 1 → P j := fun j hj => by
  by_cases q : j = n
  · rw [q]; exact hn
  · exact h j (by omega)
set_option maxRecDepth 100000 in
set_option maxHeartbeats 4000000 in
theorem w0_eq (G : Gl) (f0 g0 f1 g1 : Nat → Int32) : w0L G f0 g0 f1 g1 = wld G (s0 f0 g0 f1 g1) := by
  have c0 : ∀ j, j < 0 → (w0L G f0 g0 f1 g1)[j]? = (sk j).map (cellOf G (s0 f0 g0 f1 g1) j) := fun j h => absurd h (Nat.not_lt_zero _)
  have c1 := lt_step c0 (w0_0 G f0 g0 f1 g1)
  have c2 := lt_step c1 (w0_1 G f0 g0 f1 g1)
  have c3 := lt_step c2 (w0_2 G f0 g0 f1 g1)
  have c4 := lt_step c3 (w0_3 G f0 g0 f1 g1)
  have c5 := lt_step c4 (w0_4 G f0 g0 f1 g1)
  have c6 := lt_step c5 (w0_5 G f0 g0 f1 g1)
  have c7 := lt_step c6 (w0_6 G f0 g0 f1 g1)
  have c8 := lt_step c7 (w0_7 G f0 g0 f1 g1)
  have c9 := lt_step c8 (w0_8 G f0 g0 f1 g1)
  have c10 := lt_step c9 (w0_9 G f0 g0 f1 g1)
  have c11 := lt_step c10 (w0_10 G f0 g0 f1 g1)
  have c12 := lt_step c11 (w0_11 G f0 g0 f1 g1)
  have c13 := lt_step c12 (w0_12 G f0 g0 f1 g1)
  have c14 := lt_step c13 (w0_13 G f0 g0 f1 g1)
  have c15 := lt_step c14 (w0_14 G f0 g0 f1 g1)
  have c16 := lt_step c15 (w0_15 G f0 g0 f1 g1)
  have c17 := lt_step c16 (w0_16 G f0 g0 f1 g1)
  have c18 := lt_step c17 (w0_17 G f0 g0 f1 g1)
  have c19 := lt_step c18 (w0_18 G f0 g0 f1 g1)
  have c20 := lt_step c19 (w0_19 G f0 g0 f1 g1)
  have c21 := lt_step c20 (w0_20 G f0 g0 f1 g1)
  have c22 := lt_step c21 (w0_21 G f0 g0 f1 g1)
  have c23 := lt_step c22 (w0_22 G f0 g0 f1 g1)
  have c24 := lt_step c23 (w0_23 G f0 g0 f1 g1)
  have c25 := lt_step c24 (w0_24 G f0 g0 f1 g1)
  have c26 := lt_step c25 (w0_25 G f0 g0 f1 g1)
  have c27 := lt_step c26 (w0_26 G f0 g0 f1 g1)
  have c28 := lt_step c27 (w0_27 G f0 g0 f1 g1)
  have c29 := lt_step c28 (w0_28 G f0 g0 f1 g1)
  have c30 := lt_step c29 (w0_29 G f0 g0 f1 g1)
  have c31 := lt_step c30 (w0_30 G f0 g0 f1 g1)
  have c32 := lt_step c31 (w0_31 G f0 g0 f1 g1)
  have c33 := lt_step c32 (w0_32 G f0 g0 f1 g1)
  have c34 := lt_step c33 (w0_33 G f0 g0 f1 g1)
  have c35 := lt_step c34 (w0_34 G f0 g0 f1 g1)
  have c36 := lt_step c35 (w0_35 G f0 g0 f1 g1)
  have c37 := lt_step c36 (w0_36 G f0 g0 f1 g1)
  have c38 := lt_step c37 (w0_37 G f0 g0 f1 g1)
  have c39 := lt_step c38 (w0_38 G f0 g0 f1 g1)
  have c40 := lt_step c39 (w0_39 G f0 g0 f1 g1)
  have c41 := lt_step c40 (w0_40 G f0 g0 f1 g1)
  have c42 := lt_step c41 (w0_41 G f0 g0 f1 g1)
  have c43 := lt_step c42 (w0_42 G f0 g0 f1 g1)
  have c44 := lt_step c43 (w0_43 G f0 g0 f1 g1)
  have c45 := lt_step c44 (w0_44 G f0 g0 f1 g1)
  have c46 := lt_step c45 (w0_45 G f0 g0 f1 g1)
  have c47 := lt_step c46 (w0_46 G f0 g0 f1 g1)
  have c48 := lt_step c47 (w0_47 G f0 g0 f1 g1)
  have c49 := lt_step c48 (w0_48 G f0 g0 f1 g1)
  have c50 := lt_step c49 (w0_49 G f0 g0 f1 g1)
  have c51 := lt_step c50 (w0_50 G f0 g0 f1 g1)
  have c52 := lt_step c51 (w0_51 G f0 g0 f1 g1)
  have c53 := lt_step c52 (w0_52 G f0 g0 f1 g1)
  have c54 := lt_step c53 (w0_53 G f0 g0 f1 g1)
  have c55 := lt_step c54 (w0_54 G f0 g0 f1 g1)
  have c56 := lt_step c55 (w0_55 G f0 g0 f1 g1)
  have c57 := lt_step c56 (w0_56 G f0 g0 f1 g1)
  have c58 := lt_step c57 (w0_57 G f0 g0 f1 g1)
  have c59 := lt_step c58 (w0_58 G f0 g0 f1 g1)
  have c60 := lt_step c59 (w0_59 G f0 g0 f1 g1)
  have c61 := lt_step c60 (w0_60 G f0 g0 f1 g1)
  have c62 := lt_step c61 (w0_61 G f0 g0 f1 g1)
  have c63 := lt_step c62 (w0_62 G f0 g0 f1 g1)
  have c64 := lt_step c63 (w0_63 G f0 g0 f1 g1)
  have c65 := lt_step c64 (w0_64 G f0 g0 f1 g1)
  have c66 := lt_step c65 (w0_65 G f0 g0 f1 g1)
  have c67 := lt_step c66 (w0_66 G f0 g0 f1 g1)
  have c68 := lt_step c67 (w0_67 G f0 g0 f1 g1)
  have c69 := lt_step c68 (w0_68 G f0 g0 f1 g1)
  have c70 := lt_step c69 (w0_69 G f0 g0 f1 g1)
  have c71 := lt_step c70 (w0_70 G f0 g0 f1 g1)
  have c72 := lt_step c71 (w0_71 G f0 g0 f1 g1)
  have c73 := lt_step c72 (w0_72 G f0 g0 f1 g1)
  have c74 := lt_step c73 (w0_73 G f0 g0 f1 g1)
  have c75 := lt_step c74 (w0_74 G f0 g0 f1 g1)
  have c76 := lt_step c75 (w0_75 G f0 g0 f1 g1)
  have c77 := lt_step c76 (w0_76 G f0 g0 f1 g1)
  have c78 := lt_step c77 (w0_77 G f0 g0 f1 g1)
  have c79 := lt_step c78 (w0_78 G f0 g0 f1 g1)
  have c80 := lt_step c79 (w0_79 G f0 g0 f1 g1)
  have c81 := lt_step c80 (w0_80 G f0 g0 f1 g1)
  have c82 := lt_step c81 (w0_81 G f0 g0 f1 g1)
  have c83 := lt_step c82 (w0_82 G f0 g0 f1 g1)
  have c84 := lt_step c83 (w0_83 G f0 g0 f1 g1)
  have c85 := lt_step c84 (w0_84 G f0 g0 f1 g1)
  have c86 := lt_step c85 (w0_85 G f0 g0 f1 g1)
  have c87 := lt_step c86 (w0_86 G f0 g0 f1 g1)
  have c88 := lt_step c87 (w0_87 G f0 g0 f1 g1)
  have c89 := lt_step c88 (w0_88 G f0 g0 f1 g1)
  have c90 := lt_step c89 (w0_89 G f0 g0 f1 g1)
  have c91 := lt_step c90 (w0_90 G f0 g0 f1 g1)
  have c92 := lt_step c91 (w0_91 G f0 g0 f1 g1)
  have c93 := lt_step c92 (w0_92 G f0 g0 f1 g1)
  have c94 := lt_step c93 (w0_93 G f0 g0 f1 g1)
  have c95 := lt_step c94 (w0_94 G f0 g0 f1 g1)
  have c96 := lt_step c95 (w0_95 G f0 g0 f1 g1)
  have c97 := lt_step c96 (w0_96 G f0 g0 f1 g1)
  have c98 := lt_step c97 (w0_97 G f0 g0 f1 g1)
  have c99 := lt_step c98 (w0_98 G f0 g0 f1 g1)
  have c100 := lt_step c99 (w0_99 G f0 g0 f1 g1)
  have c101 := lt_step c100 (w0_100 G f0 g0 f1 g1)
  have c102 := lt_step c101 (w0_101 G f0 g0 f1 g1)
  have c103 := lt_step c102 (w0_102 G f0 g0 f1 g1)
  have c104 := lt_step c103 (w0_103 G f0 g0 f1 g1)
  have c105 := lt_step c104 (w0_104 G f0 g0 f1 g1)
  have c106 := lt_step c105 (w0_105 G f0 g0 f1 g1)
  have c107 := lt_step c106 (w0_106 G f0 g0 f1 g1)
  have c108 := lt_step c107 (w0_107 G f0 g0 f1 g1)
  have c109 := lt_step c108 (w0_108 G f0 g0 f1 g1)
  have c110 := lt_step c109 (w0_109 G f0 g0 f1 g1)
  have c111 := lt_step c110 (w0_110 G f0 g0 f1 g1)
  have c112 := lt_step c111 (w0_111 G f0 g0 f1 g1)
  have c113 := lt_step c112 (w0_112 G f0 g0 f1 g1)
  have c114 := lt_step c113 (w0_113 G f0 g0 f1 g1)
  have c115 := lt_step c114 (w0_114 G f0 g0 f1 g1)
  have c116 := lt_step c115 (w0_115 G f0 g0 f1 g1)
  have c117 := lt_step c116 (w0_116 G f0 g0 f1 g1)
  have c118 := lt_step c117 (w0_117 G f0 g0 f1 g1)
  have c119 := lt_step c118 (w0_118 G f0 g0 f1 g1)
  have c120 := lt_step c119 (w0_119 G f0 g0 f1 g1)
  have c121 := lt_step c120 (w0_120 G f0 g0 f1 g1)
  have c122 := lt_step c121 (w0_121 G f0 g0 f1 g1)
  have c123 := lt_step c122 (w0_122 G f0 g0 f1 g1)
  have c124 := lt_step c123 (w0_123 G f0 g0 f1 g1)
  have c125 := lt_step c124 (w0_124 G f0 g0 f1 g1)
  have c126 := lt_step c125 (w0_125 G f0 g0 f1 g1)
  have c127 := lt_step c126 (w0_126 G f0 g0 f1 g1)
  have c128 := lt_step c127 (w0_127 G f0 g0 f1 g1)
  have c129 := lt_step c128 (w0_128 G f0 g0 f1 g1)
  have c130 := lt_step c129 (w0_129 G f0 g0 f1 g1)
  have c131 := lt_step c130 (w0_130 G f0 g0 f1 g1)
  have c132 := lt_step c131 (w0_131 G f0 g0 f1 g1)
  have c133 := lt_step c132 (w0_132 G f0 g0 f1 g1)
  have c134 := lt_step c133 (w0_133 G f0 g0 f1 g1)
  have c135 := lt_step c134 (w0_134 G f0 g0 f1 g1)
  have c136 := lt_step c135 (w0_135 G f0 g0 f1 g1)
  have hl : (w0L G f0 g0 f1 g1).length = 136 := by unfold w0L; rw [List.length_append, List.length_set]; rfl
  apply List.ext_getElem?
  intro j
  rw [wld_get]
  by_cases h : j < 136
  · exact c136 j h
  · rw [List.getElem?_eq_none (by omega)]
    have : sk j = none := List.getElem?_eq_none (show skL.length ≤ j from Nat.le_trans (Nat.le_of_ble_eq_true rfl) (Nat.le_of_not_lt h))
    rw [this]; rfl
