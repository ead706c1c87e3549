/-! the cells of both objects, by number -/
def qL (j r : Nat) : List qSh := [.inr (11, [some (some 1), some (some 3), some (some 7), some (some 16), some (some 25), some (some 34), some (some 44), some (some 45), some (some 53), some (some 56), some (some 64), some (some 70), none]), .inr (9, [some (some 2), none, none, none, none]), .inl (0, 260), .inr (2, [some (some 4), some (some 5), some (some 6), none]), .inl (0, 12), .inl (0, 12), .inl (0, 12), .inr (10, [some (some 8), some (some 9), some (some 10), some (some 11), some (some 12), some (some 13), some (some 14), some (some 15), none, none]), .inl (0, 8), .inl (0, 96), .inl (0, 96), .inl (0, 96), .inl (0, 320), .inl (0, 320), .inl (0, 8), .inl (0, 8), .inr (10, [some (some 17), some (some 18), some (some 19), some (some 20), some (some 21), some (some 22), some (some 23), some (some 24), none, none]), .inl (0, 8), .inl (0, 96), .inl (0, 96), .inl (0, 96), .inl (0, 320), .inl (0, 320), .inl (0, 8), .inl (0, 8), .inr (10, [some (some 26), some (some 27), some (some 28), some (some 29), some (some 30), some (some 31), some (some 32), some (some 33), none, none]), .inl (0, 8), .inl (0, 96), .inl (0, 96), .inl (0, 96), .inl (0, 320), .inl (0, 320), .inl (0, 8), .inl (0, 8), .inr (1, [some (some 3), some (some 35), some (some 36), some (some j), none]), .inl (0, 12), .inl (0, 64), .inr (3, [some (some 38), some (some 39), some (some 40), some (some 41), some (some 42), some (some 43), none, none]), .inl (0, 240), .inl (0, 240), .inl (0, 16), .inl (0, 16), .inl (0, 16), .inl (0, 16), .inr (0, [some (some 3), some (some 34), none, none, none, none, none, none, none, none]), .inr (4, [some (some 1), some (some r)]), .inr (3, [some (some 47), some (some 48), some (some 49), some (some 50), some (some 51), some (some 52), none, none]), .inl (0, 240), .inl (0, 240), .inl (0, 16), .inl (0, 16), .inl (0, 16), .inl (0, 16), .inr (6, [some (some 1), some (some 54), some (some 55), none]), .inl (0, 40), .inl (0, 40), .inr (7, [some (some 3), some (some 34), some (some 44), some (some 57), some (some 58), some (some 59), some (some 60), some (some 61), some (some 62), some (some 63), none, none, none, none]), .inl (0, 4), .inl (0, 4), .inl (0, 4), .inl (0, 4), .inl (0, 4), .inl (0, 16), .inl (0, 8192), .inr (5, [some (some 3), some (some 34), some (some 44), some (some 65), some (some 66), some (some 67), some (some 68), some (some 69), some (some 25), none, none, none, none]), .inl (0, 8), .inl (0, 3), .inl (0, 768), .inl (0, 12), .inl (0, 3), .inr (8, [some (some 3), some (some 34), some (some 71), some (some 72), some (some 73), some (some 74), some (some 75), some (some 76), none, none, none, none]), .inl (0, 4), .inl (0, 4), .inl (0, 10), .inl (0, 10), .inl (0, 4), .inl (0, 4), .inr (12, [some (some 78), some (some 79), some (some 80), some (some 81), some (some 82), some (some 83), none, some (some 84), none, none, none, none, none, none, none, none, none, none, some (some 85), some (some 86), some (some 87), some (some 88), some (some 89), some (some 90), some (some 91), some (some 92), some (some 93), some (some 94), some (some 95), some (some 96), some (some 97), some (some 98), some (some 99), some (some 100), some (some 101), none, none, none, none, none, none, none, none, none, none, some (some 102), some (some 103), some (some 104), some (some 105), some (some 106), some (some 107), some (some 108), some (some 109), some (some 110), some (some 111), some (some 112), some (some 113), some (some 114), some (some 115), none, none, none, some (some 116), some (some 117), some (some 118), some (some 119), some (some 120), none]), .inl (0, 954), .inl (0, 954), .inl (0, 954), .inl (0, 13), .inl (0, 13), .inl (0, 13), .inl (1, 260), .inl (0, 260), .inl (0, 260), .inl (0, 16), .inl (0, 16), .inl (0, 16), .inl (0, 16), .inl (0, 260), .inl (0, 16), .inl (0, 16), .inl (0, 16), .inl (0, 16), .inl (0, 260), .inl (0, 12), .inl (0, 40), .inl (0, 40), .inl (0, 3), .inl (0, 3), .inl (0, 20), .inl (0, 20), .inl (0, 20), .inl (0, 4), .inl (0, 4), .inl (0, 4), .inl (0, 4), .inl (0, 4), .inl (2, 160000), .inl (0, 8), .inl (0, 3), .inl (0, 12), .inl (0, 12), .inl (0, 12), .inl (0, 4), .inl (0, 4), .inl (0, 4), .inl (2, 256), .inl (2, 2048)]
theorem qL_len (j r : Nat) : (qL j r).length = 121 := rfl
theorem sh0 (j r : Nat) : (qL j r)[0]? = some (.inr (11, [some (some 1), some (some 3), some (some 7), some (some 16), some (some 25), some (some 34), some (some 44), some (some 45), some (some 53), some (some 56), some (some 64), some (some 70), none])) := rfl
theorem sh1 (j r : Nat) : (qL j r)[1]? = some (.inr (9, [some (some 2), none, none, none, none])) := rfl
theorem sh2 (j r : Nat) : (qL j r)[2]? = some (.inl (0, 260)) := rfl
theorem sh3 (j r : Nat) : (qL j r)[3]? = some (.inr (2, [some (some 4), some (some 5), some (some 6), none])) := rfl
theorem sh4 (j r : Nat) : (qL j r)[4]? = some (.inl (0, 12)) := rfl
theorem sh5 (j r : Nat) : (qL j r)[5]? = some (.inl (0, 12)) := rfl
theorem sh6 (j r : Nat) : (qL j r)[6]? = some (.inl (0, 12)) := rfl
theorem sh7 (j r : Nat) : (qL j r)[7]? = some (.inr (10, [some (some 8), some (some 9), some (some 10), some (some 11), some (some 12), some (some 13), some (some 14), some (some 15), none, none])) := rfl
theorem sh8 (j r : Nat) : (qL j r)[8]? = some (.inl (0, 8)) := rfl
theorem sh9 (j r : Nat) : (qL j r)[9]? = some (.inl (0, 96)) := rfl
theorem sh10 (j r : Nat) : (qL j r)[10]? = some (.inl (0, 96)) := rfl
theorem sh11 (j r : Nat) : (qL j r)[11]? = some (.inl (0, 96)) := rfl
theorem sh12 (j r : Nat) : (qL j r)[12]? = some (.inl (0, 320)) := rfl
theorem sh13 (j r : Nat) : (qL j r)[13]? = some (.inl (0, 320)) := rfl
theorem sh14 (j r : Nat) : (qL j r)[14]? = some (.inl (0, 8)) := rfl
theorem sh15 (j r : Nat) : (qL j r)[15]? = some (.inl (0, 8)) := rfl
theorem sh16 (j r : Nat) : (qL j r)[16]? = some (.inr (10, [some (some 17), some (some 18), some (some 19), some (some 20), some (some 21), some (some 22), some (some 23), some (some 24), none, none])) := rfl
theorem sh17 (j r : Nat) : (qL j r)[17]? = some (.inl (0, 8)) := rfl
theorem sh18 (j r : Nat) : (qL j r)[18]? = some (.inl (0, 96)) := rfl
theorem sh19 (j r : Nat) : (qL j r)[19]? = some (.inl (0, 96)) := rfl
theorem sh20 (j r : Nat) : (qL j r)[20]? = some (.inl (0, 96)) := rfl
theorem sh21 (j r : Nat) : (qL j r)[21]? = some (.inl (0, 320)) := rfl
theorem sh22 (j r : Nat) : (qL j r)[22]? = some (.inl (0, 320)) := rfl
theorem sh23 (j r : Nat) : (qL j r)[23]? = some (.inl (0, 8)) := rfl
theorem sh24 (j r : Nat) : (qL j r)[24]? = some (.inl (0, 8)) := rfl
theorem sh25 (j r : Nat) : (qL j r)[25]? = some (.inr (10, [some (some 26), some (some 27), some (some 28), some (some 29), some (some 30), some (some 31), some (some 32), some (some 33), none, none])) := rfl
theorem sh26 (j r : Nat) : (qL j r)[26]? = some (.inl (0, 8)) := rfl
theorem sh27 (j r : Nat) : (qL j r)[27]? = some (.inl (0, 96)) := rfl
theorem sh28 (j r : Nat) : (qL j r)[28]? = some (.inl (0, 96)) := rfl
theorem sh29 (j r : Nat) : (qL j r)[29]? = some (.inl (0, 96)) := rfl
theorem sh30 (j r : Nat) : (qL j r)[30]? = some (.inl (0, 320)) := rfl
theorem sh31 (j r : Nat) : (qL j r)[31]? = some (.inl (0, 320)) := rfl
theorem sh32 (j r : Nat) : (qL j r)[32]? = some (.inl (0, 8)) := rfl
theorem sh33 (j r : Nat) : (qL j r)[33]? = some (.inl (0, 8)) := rfl
theorem sh34 (j r : Nat) : (qL j r)[34]? = some (.inr (1, [some (some 3), some (some 35), some (some 36), some (some j), none])) := rfl
theorem sh35 (j r : Nat) : (qL j r)[35]? = some (.inl (0, 12)) := rfl
theorem sh36 (j r : Nat) : (qL j r)[36]? = some (.inl (0, 64)) := rfl
theorem sh37 (j r : Nat) : (qL j r)[37]? = some (.inr (3, [some (some 38), some (some 39), some (some 40), some (some 41), some (some 42), some (some 43), none, none])) := rfl
theorem sh38 (j r : Nat) : (qL j r)[38]? = some (.inl (0, 240)) := rfl
theorem sh39 (j r : Nat) : (qL j r)[39]? = some (.inl (0, 240)) := rfl
theorem sh40 (j r : Nat) : (qL j r)[40]? = some (.inl (0, 16)) := rfl
theorem sh41 (j r : Nat) : (qL j r)[41]? = some (.inl (0, 16)) := rfl
theorem sh42 (j r : Nat) : (qL j r)[42]? = some (.inl (0, 16)) := rfl
theorem sh43 (j r : Nat) : (qL j r)[43]? = some (.inl (0, 16)) := rfl
theorem sh44 (j r : Nat) : (qL j r)[44]? = some (.inr (0, [some (some 3), some (some 34), none, none, none, none, none, none, none, none])) := rfl
theorem sh45 (j r : Nat) : (qL j r)[45]? = some (.inr (4, [some (some 1), some (some r)])) := rfl
theorem sh46 (j r : Nat) : (qL j r)[46]? = some (.inr (3, [some (some 47), some (some 48), some (some 49), some (some 50), some (some 51), some (some 52), none, none])) := rfl
theorem sh47 (j r : Nat) : (qL j r)[47]? = some (.inl (0, 240)) := rfl
theorem sh48 (j r : Nat) : (qL j r)[48]? = some (.inl (0, 240)) := rfl
theorem sh49 (j r : Nat) : (qL j r)[49]? = some (.inl (0, 16)) := rfl
theorem sh50 (j r : Nat) : (qL j r)[50]? = some (.inl (0, 16)) := rfl
theorem sh51 (j r : Nat) : (qL j r)[51]? = some (.inl (0, 16)) := rfl
theorem sh52 (j r : Nat) : (qL j r)[52]? = some (.inl (0, 16)) := rfl
theorem sh53 (j r : Nat) : (qL j r)[53]? = some (.inr (6, [some (some 1), some (some 54), some (some 55), none])) := rfl
theorem sh54 (j r : Nat) : (qL j r)[54]? = some (.inl (0, 40)) := rfl
theorem sh55 (j r : Nat) : (qL j r)[55]? = some (.inl (0, 40)) := rfl
theorem sh56 (j r : Nat) : (qL j r)[56]? = some (.inr (7, [some (some 3), some (some 34), some (some 44), some (some 57), some (some 58), some (some 59), some (some 60), some (some 61), some (some 62), some (some 63), none, none, none, none])) := rfl
theorem sh57 (j r : Nat) : (qL j r)[57]? = some (.inl (0, 4)) := rfl
theorem sh58 (j r : Nat) : (qL j r)[58]? = some (.inl (0, 4)) := rfl
theorem sh59 (j r : Nat) : (qL j r)[59]? = some (.inl (0, 4)) := rfl
theorem sh60 (j r : Nat) : (qL j r)[60]? = some (.inl (0, 4)) := rfl
theorem sh61 (j r : Nat) : (qL j r)[61]? = some (.inl (0, 4)) := rfl
theorem sh62 (j r : Nat) : (qL j r)[62]? = some (.inl (0, 16)) := rfl
theorem sh63 (j r : Nat) : (qL j r)[63]? = some (.inl (0, 8192)) := rfl
theorem sh64 (j r : Nat) : (qL j r)[64]? = some (.inr (5, [some (some 3), some (some 34), some (some 44), some (some 65), some (some 66), some (some 67), some (some 68), some (some 69), some (some 25), none, none, none, none])) := rfl
theorem sh65 (j r : Nat) : (qL j r)[65]? = some (.inl (0, 8)) := rfl
theorem sh66 (j r : Nat) : (qL j r)[66]? = some (.inl (0, 3)) := rfl
theorem sh67 (j r : Nat) : (qL j r)[67]? = some (.inl (0, 768)) := rfl
theorem sh68 (j r : Nat) : (qL j r)[68]? = some (.inl (0, 12)) := rfl
theorem sh69 (j r : Nat) : (qL j r)[69]? = some (.inl (0, 3)) := rfl
theorem sh70 (j r : Nat) : (qL j r)[70]? = some (.inr (8, [some (some 3), some (some 34), some (some 71), some (some 72), some (some 73), some (some 74), some (some 75), some (some 76), none, none, none, none])) := rfl
theorem sh71 (j r : Nat) : (qL j r)[71]? = some (.inl (0, 4)) := rfl
theorem sh72 (j r : Nat) : (qL j r)[72]? = some (.inl (0, 4)) := rfl
theorem sh73 (j r : Nat) : (qL j r)[73]? = some (.inl (0, 10)) := rfl
theorem sh74 (j r : Nat) : (qL j r)[74]? = some (.inl (0, 10)) := rfl
theorem sh75 (j r : Nat) : (qL j r)[75]? = some (.inl (0, 4)) := rfl
theorem sh76 (j r : Nat) : (qL j r)[76]? = some (.inl (0, 4)) := rfl
theorem sh77 (j r : Nat) : (qL j r)[77]? = some (.inr (12, [some (some 78), some (some 79), some (some 80), some (some 81), some (some 82), some (some 83), none, some (some 84), none, none, none, none, none, none, none, none, none, none, some (some 85), some (some 86), some (some 87), some (some 88), some (some 89), some (some 90), some (some 91), some (some 92), some (some 93), some (some 94), some (some 95), some (some 96), some (some 97), some (some 98), some (some 99), some (some 100), some (some 101), none, none, none, none, none, none, none, none, none, none, some (some 102), some (some 103), some (some 104), some (some 105), some (some 106), some (some 107), some (some 108), some (some 109), some (some 110), some (some 111), some (some 112), some (some 113), some (some 114), some (some 115), none, none, none, some (some 116), some (some 117), some (some 118), some (some 119), some (some 120), none])) := rfl
theorem sh78 (j r : Nat) : (qL j r)[78]? = some (.inl (0, 954)) := rfl
theorem sh79 (j r : Nat) : (qL j r)[79]? = some (.inl (0, 954)) := rfl
theorem sh80 (j r : Nat) : (qL j r)[80]? = some (.inl (0, 954)) := rfl
theorem sh81 (j r : Nat) : (qL j r)[81]? = some (.inl (0, 13)) := rfl
theorem sh82 (j r : Nat) : (qL j r)[82]? = some (.inl (0, 13)) := rfl
theorem sh83 (j r : Nat) : (qL j r)[83]? = some (.inl (0, 13)) := rfl
theorem sh84 (j r : Nat) : (qL j r)[84]? = some (.inl (1, 260)) := rfl
theorem sh85 (j r : Nat) : (qL j r)[85]? = some (.inl (0, 260)) := rfl
theorem sh86 (j r : Nat) : (qL j r)[86]? = some (.inl (0, 260)) := rfl
theorem sh87 (j r : Nat) : (qL j r)[87]? = some (.inl (0, 16)) := rfl
theorem sh88 (j r : Nat) : (qL j r)[88]? = some (.inl (0, 16)) := rfl
theorem sh89 (j r : Nat) : (qL j r)[89]? = some (.inl (0, 16)) := rfl
theorem sh90 (j r : Nat) : (qL j r)[90]? = some (.inl (0, 16)) := rfl
theorem sh91 (j r : Nat) : (qL j r)[91]? = some (.inl (0, 260)) := rfl
theorem sh92 (j r : Nat) : (qL j r)[92]? = some (.inl (0, 16)) := rfl
theorem sh93 (j r : Nat) : (qL j r)[93]? = some (.inl (0, 16)) := rfl
theorem sh94 (j r : Nat) : (qL j r)[94]? = some (.inl (0, 16)) := rfl
theorem sh95 (j r : Nat) : (qL j r)[95]? = some (.inl (0, 16)) := rfl
theorem sh96 (j r : Nat) : (qL j r)[96]? = some (.inl (0, 260)) := rfl
theorem sh97 (j r : Nat) : (qL j r)[97]? = some (.inl (0, 12)) := rfl
theorem sh98 (j r : Nat) : (qL j r)[98]? = some (.inl (0, 40)) := rfl
theorem sh99 (j r : Nat) : (qL j r)[99]? = some (.inl (0, 40)) := rfl
theorem sh100 (j r : Nat) : (qL j r)[100]? = some (.inl (0, 3)) := rfl
theorem sh101 (j r : Nat) : (qL j r)[101]? = some (.inl (0, 3)) := rfl
theorem sh102 (j r : Nat) : (qL j r)[102]? = some (.inl (0, 20)) := rfl
theorem sh103 (j r : Nat) : (qL j r)[103]? = some (.inl (0, 20)) := rfl
theorem sh104 (j r : Nat) : (qL j r)[104]? = some (.inl (0, 20)) := rfl
theorem sh105 (j r : Nat) : (qL j r)[105]? = some (.inl (0, 4)) := rfl
theorem sh106 (j r : Nat) : (qL j r)[106]? = some (.inl (0, 4)) := rfl
theorem sh107 (j r : Nat) : (qL j r)[107]? = some (.inl (0, 4)) := rfl
theorem sh108 (j r : Nat) : (qL j r)[108]? = some (.inl (0, 4)) := rfl
theorem sh109 (j r : Nat) : (qL j r)[109]? = some (.inl (0, 4)) := rfl
theorem sh110 (j r : Nat) : (qL j r)[110]? = some (.inl (2, 160000)) := rfl
theorem sh111 (j r : Nat) : (qL j r)[111]? = some (.inl (0, 8)) := rfl
theorem sh112 (j r : Nat) : (qL j r)[112]? = some (.inl (0, 3)) := rfl
theorem sh113 (j r : Nat) : (qL j r)[113]? = some (.inl (0, 12)) := rfl
theorem sh114 (j r : Nat) : (qL j r)[114]? = some (.inl (0, 12)) := rfl
theorem sh115 (j r : Nat) : (qL j r)[115]? = some (.inl (0, 12)) := rfl
theorem sh116 (j r : Nat) : (qL j r)[116]? = some (.inl (0, 4)) := rfl
theorem sh117 (j r : Nat) : (qL j r)[117]? = some (.inl (0, 4)) := rfl
theorem sh118 (j r : Nat) : (qL j r)[118]? = some (.inl (0, 4)) := rfl
theorem sh119 (j r : Nat) : (qL j r)[119]? = some (.inl (2, 256)) := rfl
theorem sh120 (j r : Nat) : (qL j r)[120]? = some (.inl (2, 2048)) := rfl
def q_isTown (t : Nat) : Prop := t = 7 ∨ t = 16 ∨ t = 25
def q_isLaw (w : Nat) : Prop := w = 37 ∨ w = 46
theorem shT0 (j r : Nat) {t : Nat} (h : q_isTown t) : (qL j r)[t]? = some (.inr (10, [some (some (t + 1)), some (some (t + 2)), some (some (t + 3)), some (some (t + 4)), some (some (t + 5)), some (some (t + 6)), some (some (t + 7)), some (some (t + 8)), none, none])) := by rcases h with rfl | rfl | rfl <;> rfl
theorem shT1 (j r : Nat) {t : Nat} (h : q_isTown t) : (qL j r)[t + 1]? = some (.inl (0, 8)) := by rcases h with rfl | rfl | rfl <;> rfl
theorem shT2 (j r : Nat) {t : Nat} (h : q_isTown t) : (qL j r)[t + 2]? = some (.inl (0, 96)) := by rcases h with rfl | rfl | rfl <;> rfl
theorem shT3 (j r : Nat) {t : Nat} (h : q_isTown t) : (qL j r)[t + 3]? = some (.inl (0, 96)) := by rcases h with rfl | rfl | rfl <;> rfl
theorem shT4 (j r : Nat) {t : Nat} (h : q_isTown t) : (qL j r)[t + 4]? = some (.inl (0, 96)) := by rcases h with rfl | rfl | rfl <;> rfl
theorem shT5 (j r : Nat) {t : Nat} (h : q_isTown t) : (qL j r)[t + 5]? = some (.inl (0, 320)) := by rcases h with rfl | rfl | rfl <;> rfl
theorem shT6 (j r : Nat) {t : Nat} (h : q_isTown t) : (qL j r)[t + 6]? = some (.inl (0, 320)) := by rcases h with rfl | rfl | rfl <;> rfl
theorem shT7 (j r : Nat) {t : Nat} (h : q_isTown t) : (qL j r)[t + 7]? = some (.inl (0, 8)) := by rcases h with rfl | rfl | rfl <;> rfl
theorem shT8 (j r : Nat) {t : Nat} (h : q_isTown t) : (qL j r)[t + 8]? = some (.inl (0, 8)) := by rcases h with rfl | rfl | rfl <;> rfl
theorem shW0 (j r : Nat) {w : Nat} (h : q_isLaw w) : (qL j r)[w]? = some (.inr (3, [some (some (w + 1)), some (some (w + 2)), some (some (w + 3)), some (some (w + 4)), some (some (w + 5)), some (some (w + 6)), none, none])) := by rcases h with rfl | rfl <;> rfl
theorem shW1 (j r : Nat) {w : Nat} (h : q_isLaw w) : (qL j r)[w + 1]? = some (.inl (0, 240)) := by rcases h with rfl | rfl <;> rfl
theorem shW2 (j r : Nat) {w : Nat} (h : q_isLaw w) : (qL j r)[w + 2]? = some (.inl (0, 240)) := by rcases h with rfl | rfl <;> rfl
theorem shW3 (j r : Nat) {w : Nat} (h : q_isLaw w) : (qL j r)[w + 3]? = some (.inl (0, 16)) := by rcases h with rfl | rfl <;> rfl
theorem shW4 (j r : Nat) {w : Nat} (h : q_isLaw w) : (qL j r)[w + 4]? = some (.inl (0, 16)) := by rcases h with rfl | rfl <;> rfl
theorem shW5 (j r : Nat) {w : Nat} (h : q_isLaw w) : (qL j r)[w + 5]? = some (.inl (0, 16)) := by rcases h with rfl | rfl <;> rfl
theorem shW6 (j r : Nat) {w : Nat} (h : q_isLaw w) : (qL j r)[w + 6]? = some (.inl (0, 16)) := by rcases h with rfl | rfl <;> rfl
