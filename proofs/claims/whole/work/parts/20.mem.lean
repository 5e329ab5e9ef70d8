/-! THE MEMORY: once the objects stand, a heap is a list of shapes over numbers. -/
/-- a place's number row, its long row, its row of references -/
abbrev me : Type := (Nat → Nat → Int32) × (Nat → Nat → Int64) × (Nat → Nat → Option Nat)
abbrev sF : Type := (Nat → Int32) → (Nat → Int64) → (Nat → Option Nat) → va_E
def en (S : List sF) (m : me) : List va_E := S.mapIdx fun k F => F (m.1 k) (m.2.1 k) (m.2.2 k)
def w2 {α : Type} (μ : Nat → Nat → α) (o : Nat) (f : Nat → α) : Nat → Nat → α := fun o' => if o' = o then f else μ o'
def wI (m : me) (o j : Nat) (x : Int32) : me := (w2 m.1 o (upd (m.1 o) j x), m.2.1, m.2.2)
def wJ (m : me) (o j : Nat) (x : Int64) : me := (m.1, w2 m.2.1 o (vp_updL (m.2.1 o) j x), m.2.2)
def wR (m : me) (o j q : Nat) : me := (m.1, m.2.1, w2 m.2.2 o (va_up (m.2.2 o) j (some q)))
def cp (m : me) (s d sp dp n : Nat) : me := (w2 m.1 d (va_cpy (m.1 s) (m.1 d) sp dp n), m.2.1, m.2.2)
def sf0 : sF := fun f h r => .inr (10, [.ref 1, .ref 28, .ref 111, .ref 114, .ref 120, .ref 122, .ref 126])
def sf1 : sF := fun f h r => .inr (3, [.int (f 0), .int (f 1), .int (f 2), .int (f 3), .int (f 4), .int (f 5), .int (f 6), .int (f 7), .int (f 8), .int (f 9), .ref 2, .ref 11, .ref 23])
def sf2 : sF := fun f h r => .inr (0, [.ref 3, .ref 4, .ref 5, .ref 6, .ref 7, .ref 8, .ref 9, .ref 10])
def sf3 : sF := fun f h r => .inl (0, 8, .inl f)
def sf4 : sF := fun f h r => .inl (0, 8, .inl f)
def sf5 : sF := fun f h r => .inl (0, 8, .inl f)
def sf6 : sF := fun f h r => .inl (0, 8, .inl f)
def sf7 : sF := fun f h r => .inl (0, 8, .inl f)
def sf8 : sF := fun f h r => .inl (0, 8, .inl f)
def sf9 : sF := fun f h r => .inl (0, 64, .inl f)
def sf10 : sF := fun f h r => .inl (0, 64, .inl f)
def sf11 : sF := fun f h r => .inr (2, [.int (f 0), .ref 12, .ref 13, .ref 14, .ref 15, .ref 16, .ref 17, .ref 18, .ref 19, .ref 20, .ref 21, .ref 22])
def sf12 : sF := fun f h r => .inl (0, 16, .inl f)
def sf13 : sF := fun f h r => .inl (0, 16, .inl f)
def sf14 : sF := fun f h r => .inl (0, 16, .inl f)
def sf15 : sF := fun f h r => .inl (0, 16, .inl f)
def sf16 : sF := fun f h r => .inl (1, 16, .inl f)
def sf17 : sF := fun f h r => .inl (0, 16, .inl f)
def sf18 : sF := fun f h r => .inl (0, 16, .inl f)
def sf19 : sF := fun f h r => .inl (0, 16, .inl f)
def sf20 : sF := fun f h r => .inl (0, 32, .inl f)
def sf21 : sF := fun f h r => .inl (0, 32, .inl f)
def sf22 : sF := fun f h r => .inl (0, 32, .inl f)
def sf23 : sF := fun f h r => .inr (7, [.ref 24, .ref 25, .ref 26, .ref 27])
def sf24 : sF := fun f h r => .inl (0, 4, .inl f)
def sf25 : sF := fun f h r => .inl (0, 4, .inl f)
def sf26 : sF := fun f h r => .inl (0, 4, .inl f)
def sf27 : sF := fun f h r => .inl (0, 64, .inl f)
def sf28 : sF := fun f h r => .inr (8, [.ref 29, .int (f 1)])
def sf29 : sF := fun f h r => .inl (3, 3, .inr (.inr (.inr (.inr r))))
def sf30 : sF := fun f h r => .inr (3, [.int (f 0), .int (f 1), .int (f 2), .int (f 3), .int (f 4), .int (f 5), .int (f 6), .int (f 7), .int (f 8), .int (f 9), .ref 31, .ref 40, .ref 52])
def sf31 : sF := fun f h r => .inr (0, [.ref 32, .ref 33, .ref 34, .ref 35, .ref 36, .ref 37, .ref 38, .ref 39])
def sf32 : sF := fun f h r => .inl (0, 8, .inl f)
def sf33 : sF := fun f h r => .inl (0, 8, .inl f)
def sf34 : sF := fun f h r => .inl (0, 8, .inl f)
def sf35 : sF := fun f h r => .inl (0, 8, .inl f)
def sf36 : sF := fun f h r => .inl (0, 8, .inl f)
def sf37 : sF := fun f h r => .inl (0, 8, .inl f)
def sf38 : sF := fun f h r => .inl (0, 64, .inl f)
def sf39 : sF := fun f h r => .inl (0, 64, .inl f)
def sf40 : sF := fun f h r => .inr (2, [.int (f 0), .ref 41, .ref 42, .ref 43, .ref 44, .ref 45, .ref 46, .ref 47, .ref 48, .ref 49, .ref 50, .ref 51])
def sf41 : sF := fun f h r => .inl (0, 16, .inl f)
def sf42 : sF := fun f h r => .inl (0, 16, .inl f)
def sf43 : sF := fun f h r => .inl (0, 16, .inl f)
def sf44 : sF := fun f h r => .inl (0, 16, .inl f)
def sf45 : sF := fun f h r => .inl (1, 16, .inl f)
def sf46 : sF := fun f h r => .inl (0, 16, .inl f)
def sf47 : sF := fun f h r => .inl (0, 16, .inl f)
def sf48 : sF := fun f h r => .inl (0, 16, .inl f)
def sf49 : sF := fun f h r => .inl (0, 32, .inl f)
def sf50 : sF := fun f h r => .inl (0, 32, .inl f)
def sf51 : sF := fun f h r => .inl (0, 32, .inl f)
def sf52 : sF := fun f h r => .inr (7, [.ref 53, .ref 54, .ref 55, .ref 56])
def sf53 : sF := fun f h r => .inl (0, 4, .inl f)
def sf54 : sF := fun f h r => .inl (0, 4, .inl f)
def sf55 : sF := fun f h r => .inl (0, 4, .inl f)
def sf56 : sF := fun f h r => .inl (0, 64, .inl f)
def sf57 : sF := fun f h r => .inr (3, [.int (f 0), .int (f 1), .int (f 2), .int (f 3), .int (f 4), .int (f 5), .int (f 6), .int (f 7), .int (f 8), .int (f 9), .ref 58, .ref 67, .ref 79])
def sf58 : sF := fun f h r => .inr (0, [.ref 59, .ref 60, .ref 61, .ref 62, .ref 63, .ref 64, .ref 65, .ref 66])
def sf59 : sF := fun f h r => .inl (0, 8, .inl f)
def sf60 : sF := fun f h r => .inl (0, 8, .inl f)
def sf61 : sF := fun f h r => .inl (0, 8, .inl f)
def sf62 : sF := fun f h r => .inl (0, 8, .inl f)
def sf63 : sF := fun f h r => .inl (0, 8, .inl f)
def sf64 : sF := fun f h r => .inl (0, 8, .inl f)
def sf65 : sF := fun f h r => .inl (0, 64, .inl f)
def sf66 : sF := fun f h r => .inl (0, 64, .inl f)
def sf67 : sF := fun f h r => .inr (2, [.int (f 0), .ref 68, .ref 69, .ref 70, .ref 71, .ref 72, .ref 73, .ref 74, .ref 75, .ref 76, .ref 77, .ref 78])
def sf68 : sF := fun f h r => .inl (0, 16, .inl f)
def sf69 : sF := fun f h r => .inl (0, 16, .inl f)
def sf70 : sF := fun f h r => .inl (0, 16, .inl f)
def sf71 : sF := fun f h r => .inl (0, 16, .inl f)
def sf72 : sF := fun f h r => .inl (1, 16, .inl f)
def sf73 : sF := fun f h r => .inl (0, 16, .inl f)
def sf74 : sF := fun f h r => .inl (0, 16, .inl f)
def sf75 : sF := fun f h r => .inl (0, 16, .inl f)
def sf76 : sF := fun f h r => .inl (0, 32, .inl f)
def sf77 : sF := fun f h r => .inl (0, 32, .inl f)
def sf78 : sF := fun f h r => .inl (0, 32, .inl f)
def sf79 : sF := fun f h r => .inr (7, [.ref 80, .ref 81, .ref 82, .ref 83])
def sf80 : sF := fun f h r => .inl (0, 4, .inl f)
def sf81 : sF := fun f h r => .inl (0, 4, .inl f)
def sf82 : sF := fun f h r => .inl (0, 4, .inl f)
def sf83 : sF := fun f h r => .inl (0, 64, .inl f)
def sf84 : sF := fun f h r => .inr (3, [.int (f 0), .int (f 1), .int (f 2), .int (f 3), .int (f 4), .int (f 5), .int (f 6), .int (f 7), .int (f 8), .int (f 9), .ref 85, .ref 94, .ref 106])
def sf85 : sF := fun f h r => .inr (0, [.ref 86, .ref 87, .ref 88, .ref 89, .ref 90, .ref 91, .ref 92, .ref 93])
def sf86 : sF := fun f h r => .inl (0, 8, .inl f)
def sf87 : sF := fun f h r => .inl (0, 8, .inl f)
def sf88 : sF := fun f h r => .inl (0, 8, .inl f)
def sf89 : sF := fun f h r => .inl (0, 8, .inl f)
def sf90 : sF := fun f h r => .inl (0, 8, .inl f)
def sf91 : sF := fun f h r => .inl (0, 8, .inl f)
def sf92 : sF := fun f h r => .inl (0, 64, .inl f)
def sf93 : sF := fun f h r => .inl (0, 64, .inl f)
def sf94 : sF := fun f h r => .inr (2, [.int (f 0), .ref 95, .ref 96, .ref 97, .ref 98, .ref 99, .ref 100, .ref 101, .ref 102, .ref 103, .ref 104, .ref 105])
def sf95 : sF := fun f h r => .inl (0, 16, .inl f)
def sf96 : sF := fun f h r => .inl (0, 16, .inl f)
def sf97 : sF := fun f h r => .inl (0, 16, .inl f)
def sf98 : sF := fun f h r => .inl (0, 16, .inl f)
def sf99 : sF := fun f h r => .inl (1, 16, .inl f)
def sf100 : sF := fun f h r => .inl (0, 16, .inl f)
def sf101 : sF := fun f h r => .inl (0, 16, .inl f)
def sf102 : sF := fun f h r => .inl (0, 16, .inl f)
def sf103 : sF := fun f h r => .inl (0, 32, .inl f)
def sf104 : sF := fun f h r => .inl (0, 32, .inl f)
def sf105 : sF := fun f h r => .inl (0, 32, .inl f)
def sf106 : sF := fun f h r => .inr (7, [.ref 107, .ref 108, .ref 109, .ref 110])
def sf107 : sF := fun f h r => .inl (0, 4, .inl f)
def sf108 : sF := fun f h r => .inl (0, 4, .inl f)
def sf109 : sF := fun f h r => .inl (0, 4, .inl f)
def sf110 : sF := fun f h r => .inl (0, 64, .inl f)
def sf111 : sF := fun f h r => .inr (6, [.int (f 0), .int (f 1), .ref 112, .ref 113, .int (f 4), .int (f 5)])
def sf112 : sF := fun f h r => .inl (0, 3, .inl f)
def sf113 : sF := fun f h r => .inl (0, 120, .inl f)
def sf114 : sF := fun f h r => .inr (9, [.ref 115, .ref 116, .ref 117, .ref 118, .ref 119])
def sf115 : sF := fun f h r => .inl (0, 8, .inl f)
def sf116 : sF := fun f h r => .inl (0, 8, .inl f)
def sf117 : sF := fun f h r => .inl (0, 8, .inl f)
def sf118 : sF := fun f h r => .inl (0, 8, .inl f)
def sf119 : sF := fun f h r => .inl (0, 8, .inl f)
def sf120 : sF := fun f h r => .inr (5, [.ref 121])
def sf121 : sF := fun f h r => .inl (1, 8, .inl f)
def sf122 : sF := fun f h r => .inr (1, [.ref 123, .ref 124, .ref 125, .int (f 3), .int (f 4), .int (f 5)])
def sf123 : sF := fun f h r => .inl (1, 8, .inl f)
def sf124 : sF := fun f h r => .inl (0, 8, .inl f)
def sf125 : sF := fun f h r => .inl (0, 8, .inl f)
def sf126 : sF := fun f h r => .inr (4, [.ref 127])
def sf127 : sF := fun f h r => .inl (0, 8, .inl f)
def sf128 : sF := fun f h r => .inr (11, [.ref 129, .ref 130, .ref 131, .int (f 3), .ref 132, .int (f 5), .int (f 6), .int (f 7), .ref 133, .ref 134, .ref 135, .int (f 11), .int (f 12), .ref 136, .long (h 14)])
def sf129 : sF := fun f h r => .inl (0, 487, .inl f)
def sf130 : sF := fun f h r => .inl (0, 1461, .inl f)
def sf131 : sF := fun f h r => .inl (0, 487, .inl f)
def sf132 : sF := fun f h r => .inl (0, 120, .inl f)
def sf133 : sF := fun f h r => .inl (0, 32, .inl f)
def sf134 : sF := fun f h r => .inl (0, 8, .inl f)
def sf135 : sF := fun f h r => .inl (0, 8, .inl f)
def sf136 : sF := fun f h r => .inl (0, 3, .inl f)
def sf137 : sF := fun f h r => .inl (2, 1, .inr (.inl h))
def shs : List sF := [sf0, sf1, sf2, sf3, sf4, sf5, sf6, sf7, sf8, sf9, sf10, sf11, sf12, sf13, sf14, sf15, sf16, sf17, sf18, sf19, sf20, sf21, sf22, sf23, sf24, sf25, sf26, sf27, sf28, sf29, sf30, sf31, sf32, sf33, sf34, sf35, sf36, sf37, sf38, sf39, sf40, sf41, sf42, sf43, sf44, sf45, sf46, sf47, sf48, sf49, sf50, sf51, sf52, sf53, sf54, sf55, sf56, sf57, sf58, sf59, sf60, sf61, sf62, sf63, sf64, sf65, sf66, sf67, sf68, sf69, sf70, sf71, sf72, sf73, sf74, sf75, sf76, sf77, sf78, sf79, sf80, sf81, sf82, sf83, sf84, sf85, sf86, sf87, sf88, sf89, sf90, sf91, sf92, sf93, sf94, sf95, sf96, sf97, sf98, sf99, sf100, sf101, sf102, sf103, sf104, sf105, sf106, sf107, sf108, sf109, sf110, sf111, sf112, sf113, sf114, sf115, sf116, sf117, sf118, sf119, sf120, sf121, sf122, sf123, sf124, sf125, sf126, sf127, sf128, sf129, sf130, sf131, sf132, sf133, sf134, sf135, sf136, sf137]
theorem sp0 : shs[0]? = some sf0 := rfl
theorem sp1 : shs[1]? = some sf1 := rfl
theorem sp2 : shs[2]? = some sf2 := rfl
theorem sp3 : shs[3]? = some sf3 := rfl
theorem sp4 : shs[4]? = some sf4 := rfl
theorem sp5 : shs[5]? = some sf5 := rfl
theorem sp6 : shs[6]? = some sf6 := rfl
theorem sp7 : shs[7]? = some sf7 := rfl
theorem sp8 : shs[8]? = some sf8 := rfl
theorem sp9 : shs[9]? = some sf9 := rfl
theorem sp10 : shs[10]? = some sf10 := rfl
theorem sp11 : shs[11]? = some sf11 := rfl
theorem sp12 : shs[12]? = some sf12 := rfl
theorem sp13 : shs[13]? = some sf13 := rfl
theorem sp14 : shs[14]? = some sf14 := rfl
theorem sp15 : shs[15]? = some sf15 := rfl
theorem sp16 : shs[16]? = some sf16 := rfl
theorem sp17 : shs[17]? = some sf17 := rfl
theorem sp18 : shs[18]? = some sf18 := rfl
theorem sp19 : shs[19]? = some sf19 := rfl
theorem sp20 : shs[20]? = some sf20 := rfl
theorem sp21 : shs[21]? = some sf21 := rfl
theorem sp22 : shs[22]? = some sf22 := rfl
theorem sp23 : shs[23]? = some sf23 := rfl
theorem sp24 : shs[24]? = some sf24 := rfl
theorem sp25 : shs[25]? = some sf25 := rfl
theorem sp26 : shs[26]? = some sf26 := rfl
theorem sp27 : shs[27]? = some sf27 := rfl
theorem sp28 : shs[28]? = some sf28 := rfl
theorem sp29 : shs[29]? = some sf29 := rfl
theorem sp30 : shs[30]? = some sf30 := rfl
theorem sp31 : shs[31]? = some sf31 := rfl
theorem sp32 : shs[32]? = some sf32 := rfl
theorem sp33 : shs[33]? = some sf33 := rfl
theorem sp34 : shs[34]? = some sf34 := rfl
theorem sp35 : shs[35]? = some sf35 := rfl
theorem sp36 : shs[36]? = some sf36 := rfl
theorem sp37 : shs[37]? = some sf37 := rfl
theorem sp38 : shs[38]? = some sf38 := rfl
theorem sp39 : shs[39]? = some sf39 := rfl
theorem sp40 : shs[40]? = some sf40 := rfl
theorem sp41 : shs[41]? = some sf41 := rfl
theorem sp42 : shs[42]? = some sf42 := rfl
theorem sp43 : shs[43]? = some sf43 := rfl
theorem sp44 : shs[44]? = some sf44 := rfl
theorem sp45 : shs[45]? = some sf45 := rfl
theorem sp46 : shs[46]? = some sf46 := rfl
theorem sp47 : shs[47]? = some sf47 := rfl
theorem sp48 : shs[48]? = some sf48 := rfl
theorem sp49 : shs[49]? = some sf49 := rfl
theorem sp50 : shs[50]? = some sf50 := rfl
theorem sp51 : shs[51]? = some sf51 := rfl
theorem sp52 : shs[52]? = some sf52 := rfl
theorem sp53 : shs[53]? = some sf53 := rfl
theorem sp54 : shs[54]? = some sf54 := rfl
theorem sp55 : shs[55]? = some sf55 := rfl
theorem sp56 : shs[56]? = some sf56 := rfl
theorem sp57 : shs[57]? = some sf57 := rfl
theorem sp58 : shs[58]? = some sf58 := rfl
theorem sp59 : shs[59]? = some sf59 := rfl
theorem sp60 : shs[60]? = some sf60 := rfl
theorem sp61 : shs[61]? = some sf61 := rfl
theorem sp62 : shs[62]? = some sf62 := rfl
theorem sp63 : shs[63]? = some sf63 := rfl
theorem sp64 : shs[64]? = some sf64 := rfl
theorem sp65 : shs[65]? = some sf65 := rfl
theorem sp66 : shs[66]? = some sf66 := rfl
theorem sp67 : shs[67]? = some sf67 := rfl
theorem sp68 : shs[68]? = some sf68 := rfl
theorem sp69 : shs[69]? = some sf69 := rfl
theorem sp70 : shs[70]? = some sf70 := rfl
theorem sp71 : shs[71]? = some sf71 := rfl
theorem sp72 : shs[72]? = some sf72 := rfl
theorem sp73 : shs[73]? = some sf73 := rfl
theorem sp74 : shs[74]? = some sf74 := rfl
theorem sp75 : shs[75]? = some sf75 := rfl
theorem sp76 : shs[76]? = some sf76 := rfl
theorem sp77 : shs[77]? = some sf77 := rfl
theorem sp78 : shs[78]? = some sf78 := rfl
theorem sp79 : shs[79]? = some sf79 := rfl
theorem sp80 : shs[80]? = some sf80 := rfl
theorem sp81 : shs[81]? = some sf81 := rfl
theorem sp82 : shs[82]? = some sf82 := rfl
theorem sp83 : shs[83]? = some sf83 := rfl
theorem sp84 : shs[84]? = some sf84 := rfl
theorem sp85 : shs[85]? = some sf85 := rfl
theorem sp86 : shs[86]? = some sf86 := rfl
theorem sp87 : shs[87]? = some sf87 := rfl
theorem sp88 : shs[88]? = some sf88 := rfl
theorem sp89 : shs[89]? = some sf89 := rfl
theorem sp90 : shs[90]? = some sf90 := rfl
theorem sp91 : shs[91]? = some sf91 := rfl
theorem sp92 : shs[92]? = some sf92 := rfl
theorem sp93 : shs[93]? = some sf93 := rfl
theorem sp94 : shs[94]? = some sf94 := rfl
theorem sp95 : shs[95]? = some sf95 := rfl
theorem sp96 : shs[96]? = some sf96 := rfl
theorem sp97 : shs[97]? = some sf97 := rfl
theorem sp98 : shs[98]? = some sf98 := rfl
theorem sp99 : shs[99]? = some sf99 := rfl
theorem sp100 : shs[100]? = some sf100 := rfl
theorem sp101 : shs[101]? = some sf101 := rfl
theorem sp102 : shs[102]? = some sf102 := rfl
theorem sp103 : shs[103]? = some sf103 := rfl
theorem sp104 : shs[104]? = some sf104 := rfl
theorem sp105 : shs[105]? = some sf105 := rfl
theorem sp106 : shs[106]? = some sf106 := rfl
theorem sp107 : shs[107]? = some sf107 := rfl
theorem sp108 : shs[108]? = some sf108 := rfl
theorem sp109 : shs[109]? = some sf109 := rfl
theorem sp110 : shs[110]? = some sf110 := rfl
theorem sp111 : shs[111]? = some sf111 := rfl
theorem sp112 : shs[112]? = some sf112 := rfl
theorem sp113 : shs[113]? = some sf113 := rfl
theorem sp114 : shs[114]? = some sf114 := rfl
theorem sp115 : shs[115]? = some sf115 := rfl
theorem sp116 : shs[116]? = some sf116 := rfl
theorem sp117 : shs[117]? = some sf117 := rfl
theorem sp118 : shs[118]? = some sf118 := rfl
theorem sp119 : shs[119]? = some sf119 := rfl
theorem sp120 : shs[120]? = some sf120 := rfl
theorem sp121 : shs[121]? = some sf121 := rfl
theorem sp122 : shs[122]? = some sf122 := rfl
theorem sp123 : shs[123]? = some sf123 := rfl
theorem sp124 : shs[124]? = some sf124 := rfl
theorem sp125 : shs[125]? = some sf125 := rfl
theorem sp126 : shs[126]? = some sf126 := rfl
theorem sp127 : shs[127]? = some sf127 := rfl
theorem sp128 : shs[128]? = some sf128 := rfl
theorem sp129 : shs[129]? = some sf129 := rfl
theorem sp130 : shs[130]? = some sf130 := rfl
theorem sp131 : shs[131]? = some sf131 := rfl
theorem sp132 : shs[132]? = some sf132 := rfl
theorem sp133 : shs[133]? = some sf133 := rfl
theorem sp134 : shs[134]? = some sf134 := rfl
theorem sp135 : shs[135]? = some sf135 := rfl
theorem sp136 : shs[136]? = some sf136 := rfl
theorem sp137 : shs[137]? = some sf137 := rfl
/-- the shapes of the places from a on, ahead of b, stand -/
def pS (a b : Nat) (S : List sF) : Prop := ∀ o, a ≤ o → o < b → S[o]? = shs[o]?
theorem pS.sub {a b a' b' : Nat} {S : List sF} (h : pS a b S) (h1 : a ≤ a') (h2 : b' ≤ b) : pS a' b' S := fun o g1 g2 => h o (Nat.le_trans h1 g1) (Nat.lt_of_lt_of_le g2 h2)
theorem pS.all : pS 0 138 shs := fun _ _ _ => rfl
theorem en_get {S : List sF} {m : me} {k : Nat} {F : sF} (h : S[k]? = some F) : (en S m)[k]? = some (F (m.1 k) (m.2.1 k) (m.2.2 k)) := by
  unfold en
  rw [List.getElem?_mapIdx, h]
  rfl
theorem en_set {S : List sF} {m m' : me} {o : Nat} {F : sF} {x : va_E} (h : S[o]? = some F) (hx : F (m'.1 o) (m'.2.1 o) (m'.2.2 o) = x) (hk : ∀ k, k ≠ o → m'.1 k = m.1 k ∧ m'.2.1 k = m.2.1 k ∧ m'.2.2 k = m.2.2 k) : (en S m).set o x = en S m' := by
  apply List.ext_getElem?
  intro k
  by_cases hko : o = k
  · subst hko
    have hl : o < (en S m).length := by
      unfold en
      rw [List.length_mapIdx]
      exact (List.getElem?_eq_some_iff.mp h).1
    rw [List.getElem?_set_self hl, en_get h, hx]
  · rw [List.getElem?_set_ne hko]
    unfold en
    rw [List.getElem?_mapIdx, List.getElem?_mapIdx]
    obtain ⟨e1, e2, e3⟩ := hk k (fun e => hko e.symm)
    rw [e1, e2, e3]
theorem w2_ne {α : Type} {μ : Nat → Nat → α} {o k : Nat} {f : Nat → α} (h : k ≠ o) : w2 μ o f k = μ k := if_neg h
theorem w2_eq {α : Type} {μ : Nat → Nat → α} {o : Nat} {f : Nat → α} : w2 μ o f o = f := if_pos rfl
section PMS
variable {g : pm_Gl} {M : pm_M} {X : pm_X} {pc k n : Nat} {ls : List (Option Value)} {st : List Value} {S : List sF} {m : me} {a b o : Nat} {F : sF}
theorem eg_get {idx c j : Nat} {fin : Bool} {ty : FieldType} {fs : List Value} {x : Value} (hd : decode M.2.1 pc = .ok (.getfield idx, 3)) (hf : pm_fa M.1.cls idx c j fin ty) (hS : pS a b S) (hs : shs[o]? = some F) (h1 : a ≤ o) (h2 : o < b) (hF : F (m.1 o) (m.2.1 o) (m.2.2 o) = .inr (c, fs)) (hj : fs[j]? = some x) (kk : pm_G g M X (pc + 3) ls (x :: st) (en S m) k n) : pm_G g M X pc ls (.ref o :: st) (en S m) k n :=
  pg_get hd hf ((en_get ((hS o h1 h2).trans hs)).trans (congrArg some hF)) hj kk
theorem eg_put {idx c j : Nat} {fs : List Value} {x : Int32} (hd : decode M.2.1 pc = .ok (.putfield idx, 3)) (hf : pm_fa M.1.cls idx c j false .int) (hS : pS a b S) (hs : shs[o]? = some F) (h1 : a ≤ o) (h2 : o < b) (hF : F (m.1 o) (m.2.1 o) (m.2.2 o) = .inr (c, fs)) (hj : j < fs.length) (hF2 : F (upd (m.1 o) j x) (m.2.1 o) (m.2.2 o) = .inr (c, fs.set j (.int x))) (kk : ∀ m', m' = wI m o j x → pm_G g M X (pc + 3) ls st (en S m') k n) : pm_G g M X pc ls (.int x :: .ref o :: st) (en S m) k n := by
  have hg := (hS o h1 h2).trans hs
  refine pg_put hd hf ((en_get hg).trans (congrArg some hF)) hj (fun v hv => ?_) (fun q h => by cases h) ?_
  · obtain rfl : v = .int x := hv
    exact ⟨rfl, rfl⟩
  · rw [en_set (m := m) (m' := wI m o j x) hg (by show F (w2 m.1 o _ o) _ _ = _; rw [w2_eq]; exact hF2) (fun q hq => ⟨w2_ne hq, rfl, rfl⟩)]
    exact kk _ rfl
theorem eg_putZ {idx c j : Nat} {fs : List Value} {x : Int32} (hd : decode M.2.1 pc = .ok (.putfield idx, 3)) (hf : pm_fa M.1.cls idx c j false .boolean) (hS : pS a b S) (hs : shs[o]? = some F) (h1 : a ≤ o) (h2 : o < b) (hF : F (m.1 o) (m.2.1 o) (m.2.2 o) = .inr (c, fs)) (hj : j < fs.length) (hx : narrow .boolean (.int x) = .int x ∧ fits .boolean (.int x) = true) (hF2 : F (upd (m.1 o) j x) (m.2.1 o) (m.2.2 o) = .inr (c, fs.set j (.int x))) (kk : ∀ m', m' = wI m o j x → pm_G g M X (pc + 3) ls st (en S m') k n) : pm_G g M X pc ls (.int x :: .ref o :: st) (en S m) k n := by
  have hg := (hS o h1 h2).trans hs
  refine pg_put hd hf ((en_get hg).trans (congrArg some hF)) hj (fun v hv => ?_) (fun q h => by cases h) ?_
  · obtain rfl : v = .int x := hv
    exact hx
  · rw [en_set (m := m) (m' := wI m o j x) hg (by show F (w2 m.1 o _ o) _ _ = _; rw [w2_eq]; exact hF2) (fun q hq => ⟨w2_ne hq, rfl, rfl⟩)]
    exact kk _ rfl
theorem eg_putJ {idx c j : Nat} {fs : List Value} {x : Int64} (hd : decode M.2.1 pc = .ok (.putfield idx, 3)) (hf : pm_fa M.1.cls idx c j false .long) (hS : pS a b S) (hs : shs[o]? = some F) (h1 : a ≤ o) (h2 : o < b) (hF : F (m.1 o) (m.2.1 o) (m.2.2 o) = .inr (c, fs)) (hj : j < fs.length) (hF2 : F (m.1 o) (vp_updL (m.2.1 o) j x) (m.2.2 o) = .inr (c, fs.set j (.long x))) (kk : ∀ m', m' = wJ m o j x → pm_G g M X (pc + 3) ls st (en S m') k n) : pm_G g M X pc ls (.long x :: .ref o :: st) (en S m) k n := by
  have hg := (hS o h1 h2).trans hs
  refine pg_put hd hf ((en_get hg).trans (congrArg some hF)) hj (fun v hv => ?_) (fun q h => by cases h) ?_
  · obtain rfl : v = .long x := hv
    exact ⟨rfl, rfl⟩
  · rw [en_set (m := m) (m' := wJ m o j x) hg (by show F _ (w2 m.2.1 o _ o) _ = _; rw [w2_eq]; exact hF2) (fun q hq => ⟨rfl, w2_ne hq, rfl⟩)]
    exact kk _ rfl
theorem eg_iald {N : Nat} {i : Int32} (hd : decode M.2.1 pc = .ok (.iaload, 1)) (hS : pS a b S) (hs : shs[o]? = some F) (h1 : a ≤ o) (h2 : o < b) (hF : F (m.1 o) (m.2.1 o) (m.2.2 o) = .inl (0, N, .inl (m.1 o))) (hi : vp_in i N) (kk : pm_G g M X (pc + 1) ls (.int (m.1 o i.toNatClampNeg) :: st) (en S m) k n) : pm_G g M X pc ls (.int i :: .ref o :: st) (en S m) k n :=
  pg_iald hd ((en_get ((hS o h1 h2).trans hs)).trans (congrArg some hF)) hi kk
theorem eg_zald {N : Nat} {i : Int32} (hd : decode M.2.1 pc = .ok (.baload, 1)) (hS : pS a b S) (hs : shs[o]? = some F) (h1 : a ≤ o) (h2 : o < b) (hF : F (m.1 o) (m.2.1 o) (m.2.2 o) = .inl (1, N, .inl (m.1 o))) (hi : vp_in i N) (kk : pm_G g M X (pc + 1) ls (.int (m.1 o i.toNatClampNeg) :: st) (en S m) k n) : pm_G g M X pc ls (.int i :: .ref o :: st) (en S m) k n :=
  pg_zald hd ((en_get ((hS o h1 h2).trans hs)).trans (congrArg some hF)) hi kk
theorem eg_iast {N : Nat} {i x : Int32} (hd : decode M.2.1 pc = .ok (.iastore, 1)) (hS : pS a b S) (hs : shs[o]? = some F) (h1 : a ≤ o) (h2 : o < b) (hF : ∀ f h r, F f h r = .inl (0, N, .inl f)) (hi : vp_in i N) (kk : ∀ m', m' = wI m o i.toNatClampNeg x → pm_G g M X (pc + 1) ls st (en S m') k n) : pm_G g M X pc ls (.int x :: .int i :: .ref o :: st) (en S m) k n := by
  have hg := (hS o h1 h2).trans hs
  refine pg_iast hd ((en_get hg).trans (congrArg some (hF _ _ _))) hi ?_
  rw [en_set (m := m) (m' := wI m o i.toNatClampNeg x) hg (by rw [hF]; show Sum.inl (0, N, Sum.inl (w2 m.1 o _ o)) = _; rw [w2_eq]) (fun q hq => ⟨w2_ne hq, rfl, rfl⟩)]
  exact kk _ rfl
theorem eg_zast {N : Nat} {i x : Int32} (hd : decode M.2.1 pc = .ok (.bastore, 1)) (hS : pS a b S) (hs : shs[o]? = some F) (h1 : a ≤ o) (h2 : o < b) (hF : ∀ f h r, F f h r = .inl (1, N, .inl f)) (hi : vp_in i N) (hx : vp_nar .boolean x = x) (kk : ∀ m', m' = wI m o i.toNatClampNeg x → pm_G g M X (pc + 1) ls st (en S m') k n) : pm_G g M X pc ls (.int x :: .int i :: .ref o :: st) (en S m) k n := by
  have hg := (hS o h1 h2).trans hs
  refine pg_zast hd ((en_get hg).trans (congrArg some (hF _ _ _))) hi ?_
  rw [hx, en_set (m := m) (m' := wI m o i.toNatClampNeg x) hg (by rw [hF]; show Sum.inl (1, N, Sum.inl (w2 m.1 o _ o)) = _; rw [w2_eq]) (fun q hq => ⟨w2_ne hq, rfl, rfl⟩)]
  exact kk _ rfl
theorem eg_lald {N : Nat} {i : Int32} (hd : decode M.2.1 pc = .ok (.laload, 1)) (hS : pS a b S) (hs : shs[o]? = some F) (h1 : a ≤ o) (h2 : o < b) (hF : F (m.1 o) (m.2.1 o) (m.2.2 o) = .inl (2, N, .inr (.inl (m.2.1 o)))) (hi : vp_in i N) (kk : pm_G g M X (pc + 1) ls (.long (m.2.1 o i.toNatClampNeg) :: st) (en S m) k n) : pm_G g M X pc ls (.int i :: .ref o :: st) (en S m) k n :=
  pg_lald hd ((en_get ((hS o h1 h2).trans hs)).trans (congrArg some hF)) hi kk
theorem eg_last {N : Nat} {i : Int32} {x : Int64} (hd : decode M.2.1 pc = .ok (.lastore, 1)) (hS : pS a b S) (hs : shs[o]? = some F) (h1 : a ≤ o) (h2 : o < b) (hF : ∀ f h r, F f h r = .inl (2, N, .inr (.inl h))) (hi : vp_in i N) (kk : ∀ m', m' = wJ m o i.toNatClampNeg x → pm_G g M X (pc + 1) ls st (en S m') k n) : pm_G g M X pc ls (.long x :: .int i :: .ref o :: st) (en S m) k n := by
  have hg := (hS o h1 h2).trans hs
  refine pg_last hd ((en_get hg).trans (congrArg some (hF _ _ _))) hi ?_
  rw [en_set (m := m) (m' := wJ m o i.toNatClampNeg x) hg (by rw [hF]; show Sum.inl (2, N, Sum.inr (Sum.inl (w2 m.2.1 o _ o))) = _; rw [w2_eq]) (fun q hq => ⟨rfl, w2_ne hq, rfl⟩)]
  exact kk _ rfl
theorem eg_aald {N q : Nat} {i : Int32} (hd : decode M.2.1 pc = .ok (.aaload, 1)) (hS : pS a b S) (hs : shs[o]? = some F) (h1 : a ≤ o) (h2 : o < b) (hF : F (m.1 o) (m.2.1 o) (m.2.2 o) = .inl (3, N, .inr (.inr (.inr (.inr (m.2.2 o)))))) (hi : vp_in i N) (hq : m.2.2 o i.toNatClampNeg = some q) (kk : pm_G g M X (pc + 1) ls (.ref q :: st) (en S m) k n) : pm_G g M X pc ls (.int i :: .ref o :: st) (en S m) k n :=
  pg_aald hd ((en_get ((hS o h1 h2).trans hs)).trans (congrArg some hF)) hi hq kk
theorem eg_aast {N q : Nat} {i : Int32} {F2 : sF} {fs : List Value} (hd : decode M.2.1 pc = .ok (.aastore, 1)) (hS : pS a b S) (hs : shs[o]? = some F) (h1 : a ≤ o) (h2 : o < b) (hF : ∀ f h r, F f h r = .inl (3, N, .inr (.inr (.inr (.inr r))))) (hs2 : shs[q]? = some F2) (h3 : a ≤ q) (h4 : q < b) (hF2 : F2 (m.1 q) (m.2.1 q) (m.2.2 q) = .inr (3, fs)) (hi : vp_in i N) (kk : ∀ m', m' = wR m o i.toNatClampNeg q → pm_G g M X (pc + 1) ls st (en S m') k n) : pm_G g M X pc ls (.ref q :: .int i :: .ref o :: st) (en S m) k n := by
  have hg := (hS o h1 h2).trans hs
  refine pg_aast hd ((en_get hg).trans (congrArg some (hF _ _ _))) ((en_get ((hS q h3 h4).trans hs2)).trans (congrArg some hF2)) hi ?_
  rw [en_set (m := m) (m' := wR m o i.toNatClampNeg q) hg (by rw [hF]; show Sum.inl (3, N, Sum.inr (Sum.inr (Sum.inr (Sum.inr (w2 m.2.2 o _ o))))) = _; rw [w2_eq]) (fun q hq => ⟨rfl, rfl, w2_ne hq⟩)]
  exact kk _ rfl
theorem eg_copy {idx q t N0 N1 : Nat} {F1 : sF} {sp dp x : Int32} {ty : FieldType} (hd : decode M.2.1 pc = .ok (.invokestatic idx, 3)) (hw1 : Cond.methodLink M.1.cls idx arraycopyName ∈ pm_tbl) (hw2 : Cond.native arraycopyName ∈ pm_tbl) (hw3 : Cond.static arraycopyName ∈ pm_tbl) (hw4 : Cond.initialized "java/lang/System" ∈ pm_tbl) (ht : (pm_T g)[t]? = some (g.2.2.1 t, ty)) (hpr : refKind ty = false)
    (hS : pS a b S) (hs : shs[o]? = some F) (h1 : a ≤ o) (h2 : o < b) (hF : F (m.1 o) (m.2.1 o) (m.2.2 o) = .inl (t, N0, .inl (m.1 o))) (hs1 : shs[q]? = some F1) (h3 : a ≤ q) (h4 : q < b) (hF1 : ∀ f h r, F1 f h r = .inl (t, N1, .inl f)) (g1 : ¬ sp < 0) (g2 : ¬ dp < 0) (g3 : ¬ x < 0) (g4 : sp.toNatClampNeg + x.toNatClampNeg ≤ N0) (g5 : dp.toNatClampNeg + x.toNatClampNeg ≤ N1) (hfit : ∀ i, i < x.toNatClampNeg → fits ty (.int (m.1 o (sp.toNatClampNeg + i))) = true)
    (hls : ls.length = M.2.2.1) (hfr : 1 ≤ M.2.2.2.1) (hlo : (st.map fun v => v.category).sum + (nativeFrameWords "java/lang/System" "arraycopy" 5 + 11) ≤ M.2.2.2.2.1)
    (kk : ∀ m', m' = cp m o q sp.toNatClampNeg dp.toNatClampNeg x.toNatClampNeg → pm_G g M X (pc + 3) ls st (en S m') k n) : pm_G g M X pc ls (.int x :: .int dp :: .ref q :: .int sp :: .ref o :: st) (en S m) k n := by
  have hg := (hS q h3 h4).trans hs1
  refine pg_copy hd hw1 hw2 hw3 hw4 ht hpr ((en_get ((hS o h1 h2).trans hs)).trans (congrArg some hF)) ((en_get hg).trans (congrArg some (hF1 _ _ _))) g1 g2 g3 g4 g5 hfit hls hfr hlo ?_
  rw [en_set (m := m) (m' := cp m o q sp.toNatClampNeg dp.toNatClampNeg x.toNatClampNeg) hg (by rw [hF1]; show Sum.inl (t, N1, Sum.inl (w2 m.1 q _ q)) = _; rw [w2_eq]) (fun j hj => ⟨w2_ne hj, rfl, rfl⟩)]
  exact kk _ rfl
end PMS
/-! the words of the functions -/
def lt {α β : Type} (a : α) (f : α → β) : β := f a
def gd {α : Type} (c : Bool) (k : Option α) : Option α := if c = true then k else none
def bd {α β : Type} (x : Option α) (k : α → Option β) : Option β := match x with
  | none => none
  | some r => k r
def inR (i : Int32) (n : Nat) : Bool := decide (0 ≤ i) && decide (i.toNatClampNeg < n)
def lo {σ τ : Type} (b : σ → Option (σ ⊕ τ)) : Nat → σ → Option τ
  | 0, _ => none
  | n + 1, s => match b s with
    | none => none
    | some (.inl s') => lo b n s'
    | some (.inr t) => some t
theorem lt_at {α β : Type} {a : α} {f : α → β} {c : β} (h : lt a f = c) {x : α} (hx : x = a) : f x = c := by rw [hx]; exact h
theorem gd_at {α : Type} {c : Bool} {k : Option α} {r : α} (h : gd c k = some r) : c = true ∧ k = some r := by
  unfold gd at h
  split at h
  · exact ⟨by assumption, h⟩
  · cases h
theorem bd_at {α β : Type} {x : Option α} {k : α → Option β} {r : β} (h : bd x k = some r) : ∃ y, x = some y ∧ k y = some r := by
  unfold bd at h
  split at h
  · cases h
  · exact ⟨_, rfl, h⟩
theorem inR_vp {i : Int32} {n : Nat} (h : inR i n = true) : vp_in i n := by
  unfold inR at h
  rw [Bool.and_eq_true, decide_eq_true_eq, decide_eq_true_eq] at h
  intro q
  rcases q with q | q
  · exact absurd h.1 (Int32.not_le.mpr q)
  · omega
/-- a loop's goal out of its body's -/
theorem lo_at {σ τ : Type} {b : σ → Option (σ ⊕ τ)} {G : σ → Prop} {T : τ → Prop} (hb : ∀ s r, b s = some r → (∀ s', r = .inl s' → G s') → (∀ t, r = .inr t → T t) → G s) : ∀ (n : Nat) (s : σ) (t : τ), lo b n s = some t → T t → G s
  | 0, s, t, h, _ => by cases h
  | n + 1, s, t, h, hT => by
    unfold lo at h
    split at h
    · cases h
    · rename_i s' e
      exact hb s _ e (fun s2 h2 => by cases h2; exact lo_at hb n s' t h hT) (fun t2 h2 => by cases h2)
    · rename_i t' e
      cases h
      exact hb s _ e (fun s2 h2 => by cases h2) (fun t2 h2 => by cases h2; exact hT)
