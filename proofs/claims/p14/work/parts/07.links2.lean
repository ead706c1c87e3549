set_option maxRecDepth 100000 in
theorem fl_X11_10 : Cond.fieldLink RX11 10 "SecondTry" "tape" "LSecondTry$Tape;" ∈ q_tbl := q_in 432 rfl rfl
set_option maxRecDepth 100000 in
theorem fl_X11_19 : Cond.fieldLink RX11 19 "SecondTry" "kinds" "LSecondTry$Kinds;" ∈ q_tbl := q_in 433 rfl rfl
set_option maxRecDepth 100000 in
theorem fl_X11_26 : Cond.fieldLink RX11 26 "SecondTry" "town" "LSecondTry$Town;" ∈ q_tbl := q_in 434 rfl rfl
set_option maxRecDepth 100000 in
theorem fl_X11_30 : Cond.fieldLink RX11 30 "SecondTry" "keptTown" "LSecondTry$Town;" ∈ q_tbl := q_in 435 rfl rfl
set_option maxRecDepth 100000 in
theorem fl_X11_33 : Cond.fieldLink RX11 33 "SecondTry" "triedTown" "LSecondTry$Town;" ∈ q_tbl := q_in 436 rfl rfl
set_option maxRecDepth 100000 in
theorem fl_X11_41 : Cond.fieldLink RX11 41 "SecondTry" "judge" "LSecondTry$Judge;" ∈ q_tbl := q_in 437 rfl rfl
set_option maxRecDepth 100000 in
theorem fl_X11_50 : Cond.fieldLink RX11 50 "SecondTry" "clerk" "LSecondTry$Clerk;" ∈ q_tbl := q_in 438 rfl rfl
set_option maxRecDepth 100000 in
theorem fl_X11_59 : Cond.fieldLink RX11 59 "SecondTry" "lawReader" "LSecondTry$LawReader;" ∈ q_tbl := q_in 439 rfl rfl
set_option maxRecDepth 100000 in
theorem fl_X11_66 : Cond.fieldLink RX11 66 "SecondTry" "planReader" "LSecondTry$PlanReader;" ∈ q_tbl := q_in 440 rfl rfl
set_option maxRecDepth 100000 in
theorem fl_X11_75 : Cond.fieldLink RX11 75 "SecondTry" "search" "LSecondTry$Search;" ∈ q_tbl := q_in 441 rfl rfl
set_option maxRecDepth 100000 in
theorem fl_X11_84 : Cond.fieldLink RX11 84 "SecondTry" "parting" "LSecondTry$Parting;" ∈ q_tbl := q_in 442 rfl rfl
set_option maxRecDepth 100000 in
theorem fl_X11_91 : Cond.fieldLink RX11 91 "SecondTry" "stranger" "LSecondTry$Stranger;" ∈ q_tbl := q_in 443 rfl rfl
set_option maxRecDepth 100000 in
theorem fl_X11_95 : Cond.fieldLink RX11 95 "SecondTry" "isKept" "Z" ∈ q_tbl := q_in 444 rfl rfl
set_option maxRecDepth 100000 in
theorem fl_X11_104 : Cond.fieldLink RX11 104 "SecondTry$Town" "people" "I" ∈ q_tbl := q_in 118 rfl rfl
set_option maxRecDepth 100000 in
theorem fl_X11_108 : Cond.fieldLink RX11 108 "SecondTry$Town" "coins" "[I" ∈ q_tbl := q_in 94 rfl rfl
set_option maxRecDepth 100000 in
theorem fl_X11_112 : Cond.fieldLink RX11 112 "SecondTry$Tape" "size" "I" ∈ q_tbl := q_in 34 rfl rfl
set_option maxRecDepth 100000 in
theorem fl_X11_126 : Cond.fieldLink RX11 126 "SecondTry$Judge" "law" "LSecondTry$Law;" ∈ q_tbl := q_in 198 rfl rfl
set_option maxRecDepth 100000 in
theorem fl_X11_130 : Cond.fieldLink RX11 130 "SecondTry$LawReader" "law" "LSecondTry$Law;" ∈ q_tbl := q_in 261 rfl rfl
set_option maxRecDepth 100000 in
theorem fl_X11_156 : Cond.fieldLink RX11 156 "SecondTry$Clerk" "daysCounted" "I" ∈ q_tbl := q_in 225 rfl rfl
set_option maxRecDepth 100000 in
theorem fl_X11_169 : Cond.fieldLink RX11 169 "SecondTry$Town" "tries" "[I" ∈ q_tbl := q_in 100 rfl rfl
set_option maxRecDepth 100000 in
theorem fl_X11_172 : Cond.fieldLink RX11 172 "SecondTry$Town" "counted" "[I" ∈ q_tbl := q_in 108 rfl rfl
set_option maxRecDepth 100000 in
theorem fl_X11_175 : Cond.fieldLink RX11 175 "SecondTry$Town" "last" "[I" ∈ q_tbl := q_in 103 rfl rfl
set_option maxRecDepth 100000 in
theorem fl_X11_178 : Cond.fieldLink RX11 178 "SecondTry$Clerk" "foundOld" "I" ∈ q_tbl := q_in 220 rfl rfl
set_option maxRecDepth 100000 in
theorem fl_X11_181 : Cond.fieldLink RX11 181 "SecondTry$Clerk" "foundVoid" "I" ∈ q_tbl := q_in 222 rfl rfl
set_option maxRecDepth 100000 in
theorem fl_X11_184 : Cond.fieldLink RX11 184 "SecondTry$Town" "day" "I" ∈ q_tbl := q_in 123 rfl rfl
set_option maxRecDepth 100000 in
theorem fl_X11_208 : Cond.fieldLink RX11 208 "SecondTry$Search" "bestCoins" "I" ∈ q_tbl := q_in 308 rfl rfl
set_option maxRecDepth 100000 in
theorem fl_X11_211 : Cond.fieldLink RX11 211 "SecondTry$Search" "bestHours" "I" ∈ q_tbl := q_in 310 rfl rfl
set_option maxRecDepth 100000 in
theorem fl_X11_235 : Cond.fieldLink RX11 235 "SecondTry$Parting" "bestHours" "I" ∈ q_tbl := q_in 358 rfl rfl
set_option maxRecDepth 100000 in
theorem fl_X11_249 : Cond.fieldLink RX11 249 "SecondTry$Stranger" "fitting" "I" ∈ q_tbl := q_in 404 rfl rfl
set_option maxRecDepth 100000 in
theorem fl_X11_252 : Cond.fieldLink RX11 252 "SecondTry$Stranger" "first" "I" ∈ q_tbl := q_in 406 rfl rfl
set_option maxRecDepth 100000 in
theorem fl_X11_269 : Cond.fieldLink RX11 269 "SecondTry$Kinds" "told" "I" ∈ q_tbl := q_in 77 rfl rfl
set_option maxRecDepth 100000 in
theorem fl_X11_272 : Cond.fieldLink RX11 272 "SecondTry$Law" "clauses" "I" ∈ q_tbl := q_in 176 rfl rfl
set_option maxRecDepth 100000 in
theorem fl_X11_283 : Cond.fieldLink RX11 283 "SecondTry$Kinds" "hours" "[I" ∈ q_tbl := q_in 65 rfl rfl
set_option maxRecDepth 100000 in
theorem fl_X11_286 : Cond.fieldLink RX11 286 "SecondTry$Kinds" "marks" "[I" ∈ q_tbl := q_in 70 rfl rfl
set_option maxRecDepth 100000 in
theorem fl_X11_289 : Cond.fieldLink RX11 289 "SecondTry$Kinds" "needs" "[I" ∈ q_tbl := q_in 75 rfl rfl
set_option maxRecDepth 100000 in
theorem fl_X0_9 : Cond.fieldLink RX0 9 "SecondTry$Clerk" "kinds" "LSecondTry$Kinds;" ∈ q_tbl := q_in 217 rfl rfl
set_option maxRecDepth 100000 in
theorem fl_X0_15 : Cond.fieldLink RX0 15 "SecondTry$Clerk" "judge" "LSecondTry$Judge;" ∈ q_tbl := q_in 218 rfl rfl
set_option maxRecDepth 100000 in
theorem fl_X0_19 : Cond.fieldLink RX0 19 "SecondTry$Town" "day" "I" ∈ q_tbl := q_in 119 rfl rfl
set_option maxRecDepth 100000 in
theorem fl_X0_38 : Cond.fieldLink RX0 38 "SecondTry$Clerk" "foundOld" "I" ∈ q_tbl := q_in 219 rfl rfl
set_option maxRecDepth 100000 in
theorem fl_X0_49 : Cond.fieldLink RX0 49 "SecondTry$Clerk" "foundVoid" "I" ∈ q_tbl := q_in 221 rfl rfl
set_option maxRecDepth 100000 in
theorem fl_X0_56 : Cond.fieldLink RX0 56 "SecondTry$Kinds" "needs" "[I" ∈ q_tbl := q_in 72 rfl rfl
set_option maxRecDepth 100000 in
theorem fl_X0_73 : Cond.fieldLink RX0 73 "SecondTry$Town" "tries" "[I" ∈ q_tbl := q_in 97 rfl rfl
set_option maxRecDepth 100000 in
theorem fl_X0_80 : Cond.fieldLink RX0 80 "SecondTry$Town" "coins" "[I" ∈ q_tbl := q_in 95 rfl rfl
set_option maxRecDepth 100000 in
theorem fl_X0_89 : Cond.fieldLink RX0 89 "SecondTry$Clerk" "daysTries" "I" ∈ q_tbl := q_in 223 rfl rfl
set_option maxRecDepth 100000 in
theorem fl_X0_92 : Cond.fieldLink RX0 92 "SecondTry$Clerk" "daysCounted" "I" ∈ q_tbl := q_in 224 rfl rfl
set_option maxRecDepth 100000 in
theorem fl_X0_95 : Cond.fieldLink RX0 95 "SecondTry$Clerk" "daysHours" "I" ∈ q_tbl := q_in 226 rfl rfl
set_option maxRecDepth 100000 in
theorem fl_X0_98 : Cond.fieldLink RX0 98 "SecondTry$Clerk" "stallDay" "I" ∈ q_tbl := q_in 227 rfl rfl
set_option maxRecDepth 100000 in
theorem fl_X0_101 : Cond.fieldLink RX0 101 "SecondTry$Clerk" "stallPerson" "I" ∈ q_tbl := q_in 228 rfl rfl
set_option maxRecDepth 100000 in
theorem fl_X0_104 : Cond.fieldLink RX0 104 "SecondTry$Clerk" "stallKind" "I" ∈ q_tbl := q_in 229 rfl rfl
set_option maxRecDepth 100000 in
theorem fl_X0_115 : Cond.fieldLink RX0 115 "SecondTry$Town" "done" "[I" ∈ q_tbl := q_in 116 rfl rfl
set_option maxRecDepth 100000 in
theorem fl_X0_118 : Cond.fieldLink RX0 118 "SecondTry$Town" "steps" "[I" ∈ q_tbl := q_in 114 rfl rfl
set_option maxRecDepth 100000 in
theorem fl_X0_121 : Cond.fieldLink RX0 121 "SecondTry$Town" "stepKinds" "[I" ∈ q_tbl := q_in 110 rfl rfl
set_option maxRecDepth 100000 in
theorem fl_X0_124 : Cond.fieldLink RX0 124 "SecondTry$Town" "stepWith" "[I" ∈ q_tbl := q_in 112 rfl rfl
set_option maxRecDepth 100000 in
theorem fl_X0_128 : Cond.fieldLink RX0 128 "SecondTry$Kinds" "hours" "[I" ∈ q_tbl := q_in 63 rfl rfl
set_option maxRecDepth 100000 in
theorem fl_X0_138 : Cond.fieldLink RX0 138 "SecondTry$Town" "last" "[I" ∈ q_tbl := q_in 102 rfl rfl
set_option maxRecDepth 100000 in
theorem fl_X0_141 : Cond.fieldLink RX0 141 "SecondTry$Kinds" "marks" "[I" ∈ q_tbl := q_in 69 rfl rfl
set_option maxRecDepth 100000 in
theorem fl_X0_151 : Cond.fieldLink RX0 151 "SecondTry$Town" "counted" "[I" ∈ q_tbl := q_in 107 rfl rfl
set_option maxRecDepth 100000 in
theorem fl_X1_13 : Cond.fieldLink RX1 13 "SecondTry$Judge" "told" "[I" ∈ q_tbl := q_in 195 rfl rfl
set_option maxRecDepth 100000 in
theorem fl_X1_18 : Cond.fieldLink RX1 18 "SecondTry$Judge" "stack" "[I" ∈ q_tbl := q_in 196 rfl rfl
set_option maxRecDepth 100000 in
theorem fl_X1_24 : Cond.fieldLink RX1 24 "SecondTry$Judge" "law" "LSecondTry$Law;" ∈ q_tbl := q_in 197 rfl rfl
set_option maxRecDepth 100000 in
theorem fl_X1_28 : Cond.fieldLink RX1 28 "SecondTry$Judge" "kinds" "LSecondTry$Kinds;" ∈ q_tbl := q_in 194 rfl rfl
set_option maxRecDepth 100000 in
theorem fl_X1_32 : Cond.fieldLink RX1 32 "SecondTry$Kinds" "hours" "[I" ∈ q_tbl := q_in 61 rfl rfl
set_option maxRecDepth 100000 in
theorem fl_X1_37 : Cond.fieldLink RX1 37 "SecondTry$Kinds" "marks" "[I" ∈ q_tbl := q_in 67 rfl rfl
set_option maxRecDepth 100000 in
theorem fl_X1_61 : Cond.fieldLink RX1 61 "SecondTry$Law" "clauses" "I" ∈ q_tbl := q_in 175 rfl rfl
set_option maxRecDepth 100000 in
theorem fl_X1_65 : Cond.fieldLink RX1 65 "SecondTry$Law" "letters" "[I" ∈ q_tbl := q_in 164 rfl rfl
set_option maxRecDepth 100000 in
theorem fl_X1_68 : Cond.fieldLink RX1 68 "SecondTry$Law" "conditionAt" "[I" ∈ q_tbl := q_in 168 rfl rfl
set_option maxRecDepth 100000 in
theorem fl_X1_71 : Cond.fieldLink RX1 71 "SecondTry$Law" "endAt" "[I" ∈ q_tbl := q_in 170 rfl rfl
set_option maxRecDepth 100000 in
theorem fl_X1_78 : Cond.fieldLink RX1 78 "SecondTry$Law" "sumAt" "[I" ∈ q_tbl := q_in 166 rfl rfl
set_option maxRecDepth 100000 in
theorem fl_X1_95 : Cond.fieldLink RX1 95 "SecondTry$Judge" "isRefused" "Z" ∈ q_tbl := q_in 199 rfl rfl
set_option maxRecDepth 100000 in
theorem fl_X1_99 : Cond.fieldLink RX1 99 "SecondTry$Law" "ops" "[I" ∈ q_tbl := q_in 160 rfl rfl
set_option maxRecDepth 100000 in
theorem fl_X1_102 : Cond.fieldLink RX1 102 "SecondTry$Law" "args" "[I" ∈ q_tbl := q_in 162 rfl rfl
set_option maxRecDepth 100000 in
theorem fl_X2_9 : Cond.fieldLink RX2 9 "SecondTry$Kinds" "hours" "[I" ∈ q_tbl := q_in 60 rfl rfl
set_option maxRecDepth 100000 in
theorem fl_X2_15 : Cond.fieldLink RX2 15 "SecondTry$Kinds" "marks" "[I" ∈ q_tbl := q_in 66 rfl rfl
set_option maxRecDepth 100000 in
theorem fl_X2_18 : Cond.fieldLink RX2 18 "SecondTry$Kinds" "needs" "[I" ∈ q_tbl := q_in 71 rfl rfl
set_option maxRecDepth 100000 in
theorem fl_X2_21 : Cond.fieldLink RX2 21 "SecondTry$Kinds" "told" "I" ∈ q_tbl := q_in 76 rfl rfl
set_option maxRecDepth 100000 in
theorem fl_X3_9 : Cond.fieldLink RX3 9 "SecondTry$Law" "ops" "[I" ∈ q_tbl := q_in 159 rfl rfl
set_option maxRecDepth 100000 in
theorem fl_X3_15 : Cond.fieldLink RX3 15 "SecondTry$Law" "args" "[I" ∈ q_tbl := q_in 161 rfl rfl
set_option maxRecDepth 100000 in
theorem fl_X3_18 : Cond.fieldLink RX3 18 "SecondTry$Law" "letters" "[I" ∈ q_tbl := q_in 163 rfl rfl
set_option maxRecDepth 100000 in
theorem fl_X3_21 : Cond.fieldLink RX3 21 "SecondTry$Law" "sumAt" "[I" ∈ q_tbl := q_in 165 rfl rfl
set_option maxRecDepth 100000 in
theorem fl_X3_24 : Cond.fieldLink RX3 24 "SecondTry$Law" "conditionAt" "[I" ∈ q_tbl := q_in 167 rfl rfl
set_option maxRecDepth 100000 in
theorem fl_X3_27 : Cond.fieldLink RX3 27 "SecondTry$Law" "endAt" "[I" ∈ q_tbl := q_in 169 rfl rfl
set_option maxRecDepth 100000 in
theorem fl_X3_30 : Cond.fieldLink RX3 30 "SecondTry$Law" "codes" "I" ∈ q_tbl := q_in 171 rfl rfl
set_option maxRecDepth 100000 in
theorem fl_X3_34 : Cond.fieldLink RX3 34 "SecondTry$Law" "clauses" "I" ∈ q_tbl := q_in 173 rfl rfl
set_option maxRecDepth 100000 in
theorem fl_X4_12 : Cond.fieldLink RX4 12 "SecondTry$LawReader" "law" "LSecondTry$Law;" ∈ q_tbl := q_in 260 rfl rfl
set_option maxRecDepth 100000 in
theorem fl_X4_18 : Cond.fieldLink RX4 18 "SecondTry$LawReader" "text" "LSecondTry$Tape;" ∈ q_tbl := q_in 259 rfl rfl
set_option maxRecDepth 100000 in
theorem fl_X4_42 : Cond.fieldLink RX4 42 "SecondTry$Law" "clauses" "I" ∈ q_tbl := q_in 174 rfl rfl
set_option maxRecDepth 100000 in
theorem fl_X4_46 : Cond.fieldLink RX4 46 "SecondTry$Tape" "fault" "I" ∈ q_tbl := q_in 40 rfl rfl
set_option maxRecDepth 100000 in
theorem fl_X4_53 : Cond.fieldLink RX4 53 "SecondTry$Tape" "place" "I" ∈ q_tbl := q_in 36 rfl rfl
set_option maxRecDepth 100000 in
theorem fl_X4_60 : Cond.fieldLink RX4 60 "SecondTry$Law" "codes" "I" ∈ q_tbl := q_in 172 rfl rfl
set_option maxRecDepth 100000 in
theorem fl_X5_9 : Cond.fieldLink RX5 9 "SecondTry$Parting" "row" "[I" ∈ q_tbl := q_in 349 rfl rfl
set_option maxRecDepth 100000 in
theorem fl_X5_15 : Cond.fieldLink RX5 15 "SecondTry$Parting" "workers" "[I" ∈ q_tbl := q_in 350 rfl rfl
set_option maxRecDepth 100000 in
theorem fl_X5_18 : Cond.fieldLink RX5 18 "SecondTry$Parting" "setHours" "[I" ∈ q_tbl := q_in 351 rfl rfl
set_option maxRecDepth 100000 in
theorem fl_X5_21 : Cond.fieldLink RX5 21 "SecondTry$Parting" "alikes" "[I" ∈ q_tbl := q_in 352 rfl rfl
set_option maxRecDepth 100000 in
theorem fl_X5_24 : Cond.fieldLink RX5 24 "SecondTry$Parting" "sets" "[I" ∈ q_tbl := q_in 353 rfl rfl
set_option maxRecDepth 100000 in
theorem fl_X5_27 : Cond.fieldLink RX5 27 "SecondTry$Parting" "kinds" "LSecondTry$Kinds;" ∈ q_tbl := q_in 346 rfl rfl
set_option maxRecDepth 100000 in
theorem fl_X5_31 : Cond.fieldLink RX5 31 "SecondTry$Parting" "judge" "LSecondTry$Judge;" ∈ q_tbl := q_in 347 rfl rfl
set_option maxRecDepth 100000 in
theorem fl_X5_35 : Cond.fieldLink RX5 35 "SecondTry$Parting" "clerk" "LSecondTry$Clerk;" ∈ q_tbl := q_in 348 rfl rfl
set_option maxRecDepth 100000 in
theorem fl_X5_39 : Cond.fieldLink RX5 39 "SecondTry$Parting" "trial" "LSecondTry$Town;" ∈ q_tbl := q_in 354 rfl rfl
set_option maxRecDepth 100000 in
theorem fl_X5_49 : Cond.fieldLink RX5 49 "SecondTry$Parting" "jobCount" "I" ∈ q_tbl := q_in 355 rfl rfl
set_option maxRecDepth 100000 in
theorem fl_X5_65 : Cond.fieldLink RX5 65 "SecondTry$Parting" "workerCount" "I" ∈ q_tbl := q_in 356 rfl rfl
set_option maxRecDepth 100000 in
theorem fl_X5_79 : Cond.fieldLink RX5 79 "SecondTry$Town" "day" "I" ∈ q_tbl := q_in 122 rfl rfl
set_option maxRecDepth 100000 in
theorem fl_X5_93 : Cond.fieldLink RX5 93 "SecondTry$Parting" "bestRow" "I" ∈ q_tbl := q_in 359 rfl rfl
set_option maxRecDepth 100000 in
theorem fl_X5_96 : Cond.fieldLink RX5 96 "SecondTry$Town" "tries" "[I" ∈ q_tbl := q_in 99 rfl rfl
set_option maxRecDepth 100000 in
theorem fl_X5_99 : Cond.fieldLink RX5 99 "SecondTry$Town" "counted" "[I" ∈ q_tbl := q_in 106 rfl rfl
set_option maxRecDepth 100000 in
theorem fl_X5_106 : Cond.fieldLink RX5 106 "SecondTry$Kinds" "needs" "[I" ∈ q_tbl := q_in 74 rfl rfl
set_option maxRecDepth 100000 in
theorem fl_X5_133 : Cond.fieldLink RX5 133 "SecondTry$Kinds" "hours" "[I" ∈ q_tbl := q_in 64 rfl rfl
set_option maxRecDepth 100000 in
theorem fl_X5_136 : Cond.fieldLink RX5 136 "SecondTry$Parting" "bestHours" "I" ∈ q_tbl := q_in 357 rfl rfl
set_option maxRecDepth 100000 in
theorem fl_X6_9 : Cond.fieldLink RX6 9 "SecondTry$PlanReader" "stepKinds" "[I" ∈ q_tbl := q_in 274 rfl rfl
set_option maxRecDepth 100000 in
theorem fl_X6_15 : Cond.fieldLink RX6 15 "SecondTry$PlanReader" "stepWith" "[I" ∈ q_tbl := q_in 276 rfl rfl
set_option maxRecDepth 100000 in
theorem fl_X6_18 : Cond.fieldLink RX6 18 "SecondTry$PlanReader" "text" "LSecondTry$Tape;" ∈ q_tbl := q_in 273 rfl rfl
set_option maxRecDepth 100000 in
theorem fl_X6_28 : Cond.fieldLink RX6 28 "SecondTry$PlanReader" "steps" "I" ∈ q_tbl := q_in 278 rfl rfl
set_option maxRecDepth 100000 in
theorem fl_X6_40 : Cond.fieldLink RX6 40 "SecondTry$Tape" "fault" "I" ∈ q_tbl := q_in 39 rfl rfl
set_option maxRecDepth 100000 in
theorem fl_X6_56 : Cond.fieldLink RX6 56 "SecondTry$Tape" "place" "I" ∈ q_tbl := q_in 37 rfl rfl
set_option maxRecDepth 100000 in
theorem fl_X7_9 : Cond.fieldLink RX7 9 "SecondTry$Search" "choice" "[I" ∈ q_tbl := q_in 298 rfl rfl
set_option maxRecDepth 100000 in
theorem fl_X7_15 : Cond.fieldLink RX7 15 "SecondTry$Search" "hasOld" "[I" ∈ q_tbl := q_in 299 rfl rfl
set_option maxRecDepth 100000 in
theorem fl_X7_18 : Cond.fieldLink RX7 18 "SecondTry$Search" "alikes" "[I" ∈ q_tbl := q_in 300 rfl rfl
set_option maxRecDepth 100000 in
theorem fl_X7_21 : Cond.fieldLink RX7 21 "SecondTry$Search" "lacks" "[I" ∈ q_tbl := q_in 301 rfl rfl
set_option maxRecDepth 100000 in
theorem fl_X7_24 : Cond.fieldLink RX7 24 "SecondTry$Search" "prices" "[I" ∈ q_tbl := q_in 302 rfl rfl
set_option maxRecDepth 100000 in
theorem fl_X7_27 : Cond.fieldLink RX7 27 "SecondTry$Search" "voids" "[I" ∈ q_tbl := q_in 303 rfl rfl
set_option maxRecDepth 100000 in
theorem fl_X7_30 : Cond.fieldLink RX7 30 "SecondTry$Search" "ways" "[I" ∈ q_tbl := q_in 304 rfl rfl
set_option maxRecDepth 100000 in
theorem fl_X7_33 : Cond.fieldLink RX7 33 "SecondTry$Search" "kinds" "LSecondTry$Kinds;" ∈ q_tbl := q_in 295 rfl rfl
set_option maxRecDepth 100000 in
theorem fl_X7_37 : Cond.fieldLink RX7 37 "SecondTry$Search" "judge" "LSecondTry$Judge;" ∈ q_tbl := q_in 296 rfl rfl
set_option maxRecDepth 100000 in
theorem fl_X7_41 : Cond.fieldLink RX7 41 "SecondTry$Search" "clerk" "LSecondTry$Clerk;" ∈ q_tbl := q_in 297 rfl rfl
set_option maxRecDepth 100000 in
theorem fl_X7_45 : Cond.fieldLink RX7 45 "SecondTry$Search" "size" "I" ∈ q_tbl := q_in 305 rfl rfl
set_option maxRecDepth 100000 in
theorem fl_X7_49 : Cond.fieldLink RX7 49 "SecondTry$Search" "aim" "I" ∈ q_tbl := q_in 306 rfl rfl
set_option maxRecDepth 100000 in
theorem fl_X7_52 : Cond.fieldLink RX7 52 "SecondTry$Town" "day" "I" ∈ q_tbl := q_in 120 rfl rfl
set_option maxRecDepth 100000 in
theorem fl_X7_69 : Cond.fieldLink RX7 69 "SecondTry$Kinds" "needs" "[I" ∈ q_tbl := q_in 73 rfl rfl
set_option maxRecDepth 100000 in
theorem fl_X7_96 : Cond.fieldLink RX7 96 "SecondTry$Search" "bestCoins" "I" ∈ q_tbl := q_in 307 rfl rfl
set_option maxRecDepth 100000 in
theorem fl_X7_99 : Cond.fieldLink RX7 99 "SecondTry$Search" "bestHours" "I" ∈ q_tbl := q_in 309 rfl rfl
set_option maxRecDepth 100000 in
theorem fl_X7_109 : Cond.fieldLink RX7 109 "SecondTry$Kinds" "hours" "[I" ∈ q_tbl := q_in 62 rfl rfl
set_option maxRecDepth 100000 in
theorem fl_X7_112 : Cond.fieldLink RX7 112 "SecondTry$Kinds" "marks" "[I" ∈ q_tbl := q_in 68 rfl rfl
set_option maxRecDepth 100000 in
theorem fl_X7_119 : Cond.fieldLink RX7 119 "SecondTry$Town" "tries" "[I" ∈ q_tbl := q_in 98 rfl rfl
set_option maxRecDepth 100000 in
theorem fl_X7_122 : Cond.fieldLink RX7 122 "SecondTry$Town" "counted" "[I" ∈ q_tbl := q_in 105 rfl rfl
set_option maxRecDepth 100000 in
theorem fl_X8_9 : Cond.fieldLink RX8 9 "SecondTry$Stranger" "row" "[I" ∈ q_tbl := q_in 395 rfl rfl
set_option maxRecDepth 100000 in
theorem fl_X8_15 : Cond.fieldLink RX8 15 "SecondTry$Stranger" "alikes" "[I" ∈ q_tbl := q_in 396 rfl rfl
set_option maxRecDepth 100000 in
theorem fl_X8_18 : Cond.fieldLink RX8 18 "SecondTry$Stranger" "places" "[I" ∈ q_tbl := q_in 397 rfl rfl
set_option maxRecDepth 100000 in
theorem fl_X8_21 : Cond.fieldLink RX8 21 "SecondTry$Stranger" "outcomes" "[I" ∈ q_tbl := q_in 398 rfl rfl
set_option maxRecDepth 100000 in
theorem fl_X8_24 : Cond.fieldLink RX8 24 "SecondTry$Stranger" "now" "[I" ∈ q_tbl := q_in 399 rfl rfl
set_option maxRecDepth 100000 in
theorem fl_X8_27 : Cond.fieldLink RX8 27 "SecondTry$Stranger" "nextCounts" "[I" ∈ q_tbl := q_in 400 rfl rfl
set_option maxRecDepth 100000 in
theorem fl_X8_30 : Cond.fieldLink RX8 30 "SecondTry$Stranger" "kinds" "LSecondTry$Kinds;" ∈ q_tbl := q_in 393 rfl rfl
set_option maxRecDepth 100000 in
theorem fl_X8_34 : Cond.fieldLink RX8 34 "SecondTry$Stranger" "judge" "LSecondTry$Judge;" ∈ q_tbl := q_in 394 rfl rfl
set_option maxRecDepth 100000 in
theorem fl_X8_44 : Cond.fieldLink RX8 44 "SecondTry$Stranger" "size" "I" ∈ q_tbl := q_in 401 rfl rfl
set_option maxRecDepth 100000 in
theorem fl_X8_48 : Cond.fieldLink RX8 48 "SecondTry$Stranger" "triesTold" "I" ∈ q_tbl := q_in 402 rfl rfl
set_option maxRecDepth 100000 in
theorem fl_X8_63 : Cond.fieldLink RX8 63 "SecondTry$Stranger" "fitting" "I" ∈ q_tbl := q_in 403 rfl rfl
set_option maxRecDepth 100000 in
theorem fl_X8_66 : Cond.fieldLink RX8 66 "SecondTry$Stranger" "first" "I" ∈ q_tbl := q_in 405 rfl rfl
set_option maxRecDepth 100000 in
theorem fl_X9_9 : Cond.fieldLink RX9 9 "SecondTry$Tape" "bytes" "[I" ∈ q_tbl := q_in 32 rfl rfl
set_option maxRecDepth 100000 in
theorem fl_X9_15 : Cond.fieldLink RX9 15 "SecondTry$Tape" "size" "I" ∈ q_tbl := q_in 33 rfl rfl
set_option maxRecDepth 100000 in
theorem fl_X9_29 : Cond.fieldLink RX9 29 "SecondTry$Tape" "textSize" "I" ∈ q_tbl := q_in 35 rfl rfl
set_option maxRecDepth 100000 in
theorem fl_X9_32 : Cond.fieldLink RX9 32 "SecondTry$Tape" "place" "I" ∈ q_tbl := q_in 38 rfl rfl
set_option maxRecDepth 100000 in
theorem fl_X9_35 : Cond.fieldLink RX9 35 "SecondTry$Tape" "fault" "I" ∈ q_tbl := q_in 41 rfl rfl
set_option maxRecDepth 100000 in
theorem fl_X10_9 : Cond.fieldLink RX10 9 "SecondTry$Town" "coins" "[I" ∈ q_tbl := q_in 93 rfl rfl
set_option maxRecDepth 100000 in
theorem fl_X10_15 : Cond.fieldLink RX10 15 "SecondTry$Town" "tries" "[I" ∈ q_tbl := q_in 96 rfl rfl
set_option maxRecDepth 100000 in
theorem fl_X10_18 : Cond.fieldLink RX10 18 "SecondTry$Town" "last" "[I" ∈ q_tbl := q_in 101 rfl rfl
set_option maxRecDepth 100000 in
theorem fl_X10_21 : Cond.fieldLink RX10 21 "SecondTry$Town" "counted" "[I" ∈ q_tbl := q_in 104 rfl rfl
set_option maxRecDepth 100000 in
theorem fl_X10_24 : Cond.fieldLink RX10 24 "SecondTry$Town" "stepKinds" "[I" ∈ q_tbl := q_in 109 rfl rfl
set_option maxRecDepth 100000 in
theorem fl_X10_27 : Cond.fieldLink RX10 27 "SecondTry$Town" "stepWith" "[I" ∈ q_tbl := q_in 111 rfl rfl
set_option maxRecDepth 100000 in
theorem fl_X10_30 : Cond.fieldLink RX10 30 "SecondTry$Town" "steps" "[I" ∈ q_tbl := q_in 113 rfl rfl
set_option maxRecDepth 100000 in
theorem fl_X10_33 : Cond.fieldLink RX10 33 "SecondTry$Town" "done" "[I" ∈ q_tbl := q_in 115 rfl rfl
set_option maxRecDepth 100000 in
theorem fl_X10_42 : Cond.fieldLink RX10 42 "SecondTry$Town" "people" "I" ∈ q_tbl := q_in 117 rfl rfl
set_option maxRecDepth 100000 in
theorem fl_X10_46 : Cond.fieldLink RX10 46 "SecondTry$Town" "day" "I" ∈ q_tbl := q_in 121 rfl rfl
set_option maxRecDepth 100000 in
theorem fl_X10_49 : Cond.fieldLink RX10 49 "SecondTry$PlanReader" "stepKinds" "[I" ∈ q_tbl := q_in 275 rfl rfl
set_option maxRecDepth 100000 in
theorem fl_X10_52 : Cond.fieldLink RX10 52 "SecondTry$PlanReader" "stepWith" "[I" ∈ q_tbl := q_in 277 rfl rfl
set_option maxRecDepth 100000 in
theorem fl_X10_53 : Cond.fieldLink RX10 53 "SecondTry$PlanReader" "steps" "I" ∈ q_tbl := q_in 279 rfl rfl
set_option maxRecDepth 100000 in
theorem fl_X12_7 : Cond.fieldLink RX12 7 "SecondTryModel" "now" "[I" ∈ q_tbl := q_in 1043 rfl rfl
set_option maxRecDepth 100000 in
theorem fl_X12_13 : Cond.fieldLink RX12 13 "SecondTryModel" "aside" "[I" ∈ q_tbl := q_in 1044 rfl rfl
set_option maxRecDepth 100000 in
theorem fl_X12_16 : Cond.fieldLink RX12 16 "SecondTryModel" "kept" "[I" ∈ q_tbl := q_in 1045 rfl rfl
set_option maxRecDepth 100000 in
theorem fl_X12_19 : Cond.fieldLink RX12 19 "SecondTryModel" "hoursOf" "[I" ∈ q_tbl := q_in 1046 rfl rfl
set_option maxRecDepth 100000 in
theorem fl_X12_22 : Cond.fieldLink RX12 22 "SecondTryModel" "marksOf" "[I" ∈ q_tbl := q_in 1047 rfl rfl
set_option maxRecDepth 100000 in
theorem fl_X12_25 : Cond.fieldLink RX12 25 "SecondTryModel" "needsOf" "[I" ∈ q_tbl := q_in 1048 rfl rfl
set_option maxRecDepth 100000 in
theorem fl_X12_28 : Cond.fieldLink RX12 28 "SecondTryModel" "tape" "[B" ∈ q_tbl := q_in 1050 rfl rfl
set_option maxRecDepth 100000 in
theorem fl_X12_32 : Cond.fieldLink RX12 32 "SecondTryModel" "said" "[I" ∈ q_tbl := q_in 1061 rfl rfl
set_option maxRecDepth 100000 in
theorem fl_X12_35 : Cond.fieldLink RX12 35 "SecondTryModel" "waitsAt" "[I" ∈ q_tbl := q_in 1062 rfl rfl
set_option maxRecDepth 100000 in
theorem fl_X12_38 : Cond.fieldLink RX12 38 "SecondTryModel" "saidLetter" "[I" ∈ q_tbl := q_in 1063 rfl rfl
set_option maxRecDepth 100000 in
theorem fl_X12_41 : Cond.fieldLink RX12 41 "SecondTryModel" "saidFrom" "[I" ∈ q_tbl := q_in 1064 rfl rfl
set_option maxRecDepth 100000 in
theorem fl_X12_44 : Cond.fieldLink RX12 44 "SecondTryModel" "saidHalf" "[I" ∈ q_tbl := q_in 1065 rfl rfl
set_option maxRecDepth 100000 in
theorem fl_X12_47 : Cond.fieldLink RX12 47 "SecondTryModel" "saidTo" "[I" ∈ q_tbl := q_in 1066 rfl rfl
set_option maxRecDepth 100000 in
theorem fl_X12_50 : Cond.fieldLink RX12 50 "SecondTryModel" "codes" "[I" ∈ q_tbl := q_in 1067 rfl rfl
set_option maxRecDepth 100000 in
theorem fl_X12_53 : Cond.fieldLink RX12 53 "SecondTryModel" "clauseOf" "[I" ∈ q_tbl := q_in 1068 rfl rfl
set_option maxRecDepth 100000 in
theorem fl_X12_56 : Cond.fieldLink RX12 56 "SecondTryModel" "codeFrom" "[I" ∈ q_tbl := q_in 1069 rfl rfl
set_option maxRecDepth 100000 in
theorem fl_X12_59 : Cond.fieldLink RX12 59 "SecondTryModel" "codeHalf" "[I" ∈ q_tbl := q_in 1070 rfl rfl
set_option maxRecDepth 100000 in
theorem fl_X12_62 : Cond.fieldLink RX12 62 "SecondTryModel" "codeTo" "[I" ∈ q_tbl := q_in 1071 rfl rfl
set_option maxRecDepth 100000 in
theorem fl_X12_65 : Cond.fieldLink RX12 65 "SecondTryModel" "stack" "[I" ∈ q_tbl := q_in 1072 rfl rfl
set_option maxRecDepth 100000 in
theorem fl_X12_68 : Cond.fieldLink RX12 68 "SecondTryModel" "facts" "[I" ∈ q_tbl := q_in 1073 rfl rfl
set_option maxRecDepth 100000 in
theorem fl_X12_71 : Cond.fieldLink RX12 71 "SecondTryModel" "newKind" "[I" ∈ q_tbl := q_in 1074 rfl rfl
set_option maxRecDepth 100000 in
theorem fl_X12_74 : Cond.fieldLink RX12 74 "SecondTryModel" "newWith" "[I" ∈ q_tbl := q_in 1075 rfl rfl
set_option maxRecDepth 100000 in
theorem fl_X12_77 : Cond.fieldLink RX12 77 "SecondTryModel" "roundFrom" "[I" ∈ q_tbl := q_in 1076 rfl rfl
set_option maxRecDepth 100000 in
theorem fl_X12_80 : Cond.fieldLink RX12 80 "SecondTryModel" "roundAt" "[I" ∈ q_tbl := q_in 1077 rfl rfl
set_option maxRecDepth 100000 in
theorem fl_X12_83 : Cond.fieldLink RX12 83 "SecondTryModel" "wayMade" "[I" ∈ q_tbl := q_in 1088 rfl rfl
set_option maxRecDepth 100000 in
theorem fl_X12_86 : Cond.fieldLink RX12 86 "SecondTryModel" "wayGoes" "[I" ∈ q_tbl := q_in 1089 rfl rfl
set_option maxRecDepth 100000 in
theorem fl_X12_89 : Cond.fieldLink RX12 89 "SecondTryModel" "wayCounted" "[I" ∈ q_tbl := q_in 1090 rfl rfl
set_option maxRecDepth 100000 in
theorem fl_X12_92 : Cond.fieldLink RX12 92 "SecondTryModel" "ownKind" "[I" ∈ q_tbl := q_in 1091 rfl rfl
set_option maxRecDepth 100000 in
theorem fl_X12_95 : Cond.fieldLink RX12 95 "SecondTryModel" "oldBase" "[I" ∈ q_tbl := q_in 1092 rfl rfl
set_option maxRecDepth 100000 in
theorem fl_X12_98 : Cond.fieldLink RX12 98 "SecondTryModel" "likeSet" "[I" ∈ q_tbl := q_in 1093 rfl rfl
set_option maxRecDepth 100000 in
theorem fl_X12_101 : Cond.fieldLink RX12 101 "SecondTryModel" "wayNow" "[I" ∈ q_tbl := q_in 1094 rfl rfl
set_option maxRecDepth 100000 in
theorem fl_X12_104 : Cond.fieldLink RX12 104 "SecondTryModel" "priceOf" "[I" ∈ q_tbl := q_in 1095 rfl rfl
set_option maxRecDepth 100000 in
theorem fl_X12_108 : Cond.fieldLink RX12 108 "SecondTryModel" "canStand" "[Z" ∈ q_tbl := q_in 1096 rfl rfl
set_option maxRecDepth 100000 in
theorem fl_X12_112 : Cond.fieldLink RX12 112 "SecondTryModel" "jobKind" "[I" ∈ q_tbl := q_in 1097 rfl rfl
set_option maxRecDepth 100000 in
theorem fl_X12_115 : Cond.fieldLink RX12 115 "SecondTryModel" "jobPerson" "[I" ∈ q_tbl := q_in 1098 rfl rfl
set_option maxRecDepth 100000 in
theorem fl_X12_118 : Cond.fieldLink RX12 118 "SecondTryModel" "likeAll" "[I" ∈ q_tbl := q_in 1099 rfl rfl
set_option maxRecDepth 100000 in
theorem fl_X12_121 : Cond.fieldLink RX12 121 "SecondTryModel" "moreTries" "[I" ∈ q_tbl := q_in 1100 rfl rfl
set_option maxRecDepth 100000 in
theorem fl_X12_124 : Cond.fieldLink RX12 124 "SecondTryModel" "moreCounted" "[I" ∈ q_tbl := q_in 1101 rfl rfl
set_option maxRecDepth 100000 in
theorem fl_X12_127 : Cond.fieldLink RX12 127 "SecondTryModel" "pastKind" "[I" ∈ q_tbl := q_in 1105 rfl rfl
set_option maxRecDepth 100000 in
theorem fl_X12_130 : Cond.fieldLink RX12 130 "SecondTryModel" "pastLike" "[I" ∈ q_tbl := q_in 1106 rfl rfl
set_option maxRecDepth 100000 in
theorem fl_X12_133 : Cond.fieldLink RX12 133 "SecondTryModel" "pastTries" "[I" ∈ q_tbl := q_in 1107 rfl rfl
set_option maxRecDepth 100000 in
theorem fl_X12_136 : Cond.fieldLink RX12 136 "SecondTryModel" "pastFits" "[Z" ∈ q_tbl := q_in 1108 rfl rfl
set_option maxRecDepth 100000 in
theorem fl_X12_139 : Cond.fieldLink RX12 139 "SecondTryModel" "winsAt" "[Z" ∈ q_tbl := q_in 1109 rfl rfl
set_option maxRecDepth 100000 in
theorem fl_X12_145 : Cond.fieldLink RX12 145 "SecondTryModel" "kinds0" "I" ∈ q_tbl := q_in 1049 rfl rfl
set_option maxRecDepth 100000 in
theorem fl_X12_162 : Cond.fieldLink RX12 162 "SecondTryModel" "taped" "I" ∈ q_tbl := q_in 1051 rfl rfl
set_option maxRecDepth 100000 in
theorem fl_X12_169 : Cond.fieldLink RX12 169 "SecondTryModel" "place0" "I" ∈ q_tbl := q_in 1052 rfl rfl
set_option maxRecDepth 100000 in
theorem fl_X12_172 : Cond.fieldLink RX12 172 "SecondTryModel" "length0" "I" ∈ q_tbl := q_in 1053 rfl rfl
set_option maxRecDepth 100000 in
theorem fl_X12_179 : Cond.fieldLink RX12 179 "SecondTryModel" "fault" "I" ∈ q_tbl := q_in 1054 rfl rfl
set_option maxRecDepth 100000 in
theorem fl_X12_185 : Cond.fieldLink RX12 185 "SecondTryModel" "number0" "I" ∈ q_tbl := q_in 1055 rfl rfl
set_option maxRecDepth 100000 in
theorem fl_X12_192 : Cond.fieldLink RX12 192 "SecondTryModel" "codeMany" "I" ∈ q_tbl := q_in 1057 rfl rfl
set_option maxRecDepth 100000 in
theorem fl_X12_196 : Cond.fieldLink RX12 196 "SecondTryModel" "open" "I" ∈ q_tbl := q_in 1056 rfl rfl
set_option maxRecDepth 100000 in
theorem fl_X12_199 : Cond.fieldLink RX12 199 "SecondTryModel" "waiting" "I" ∈ q_tbl := q_in 1058 rfl rfl
set_option maxRecDepth 100000 in
theorem fl_X12_250 : Cond.fieldLink RX12 250 "SecondTryModel" "saidMany" "I" ∈ q_tbl := q_in 1059 rfl rfl
set_option maxRecDepth 100000 in
theorem fl_X12_262 : Cond.fieldLink RX12 262 "SecondTryModel" "clauses" "I" ∈ q_tbl := q_in 1060 rfl rfl
set_option maxRecDepth 100000 in
theorem fl_X12_323 : Cond.fieldLink RX12 323 "SecondTryModel" "rounds" "I" ∈ q_tbl := q_in 1079 rfl rfl
set_option maxRecDepth 100000 in
theorem fl_X12_326 : Cond.fieldLink RX12 326 "SecondTryModel" "newMany" "I" ∈ q_tbl := q_in 1078 rfl rfl
set_option maxRecDepth 100000 in
theorem fl_X12_335 : Cond.fieldLink RX12 335 "SecondTryModel" "triesMade" "I" ∈ q_tbl := q_in 1080 rfl rfl
set_option maxRecDepth 100000 in
theorem fl_X12_338 : Cond.fieldLink RX12 338 "SecondTryModel" "hoursSpent" "I" ∈ q_tbl := q_in 1082 rfl rfl
set_option maxRecDepth 100000 in
theorem fl_X12_341 : Cond.fieldLink RX12 341 "SecondTryModel" "triesCounted" "I" ∈ q_tbl := q_in 1081 rfl rfl
set_option maxRecDepth 100000 in
theorem fl_X12_344 : Cond.fieldLink RX12 344 "SecondTryModel" "stallDay" "I" ∈ q_tbl := q_in 1083 rfl rfl
set_option maxRecDepth 100000 in
theorem fl_X12_347 : Cond.fieldLink RX12 347 "SecondTryModel" "stallPerson" "I" ∈ q_tbl := q_in 1084 rfl rfl
set_option maxRecDepth 100000 in
theorem fl_X12_350 : Cond.fieldLink RX12 350 "SecondTryModel" "stallKind" "I" ∈ q_tbl := q_in 1085 rfl rfl
set_option maxRecDepth 100000 in
theorem fl_X12_362 : Cond.fieldLink RX12 362 "SecondTryModel" "soonPerson" "I" ∈ q_tbl := q_in 1087 rfl rfl
set_option maxRecDepth 100000 in
theorem fl_X12_365 : Cond.fieldLink RX12 365 "SecondTryModel" "ownMany" "I" ∈ q_tbl := q_in 1086 rfl rfl
set_option maxRecDepth 100000 in
theorem fl_X12_423 : Cond.fieldLink RX12 423 "SecondTryModel" "jobMany" "I" ∈ q_tbl := q_in 1102 rfl rfl
set_option maxRecDepth 100000 in
theorem fl_X12_435 : Cond.fieldLink RX12 435 "SecondTryModel" "workers" "I" ∈ q_tbl := q_in 1103 rfl rfl
set_option maxRecDepth 100000 in
theorem fl_X12_454 : Cond.fieldLink RX12 454 "SecondTryModel" "pastMany" "I" ∈ q_tbl := q_in 1104 rfl rfl
set_option maxRecDepth 100000 in
theorem fl_X12_489 : Cond.fieldLink RX12 489 "SecondTryModel" "isKept" "Z" ∈ q_tbl := q_in 1110 rfl rfl
set_option maxRecDepth 100000 in
theorem ml_X11_99 : Cond.methodLink RX11 99 yX2_tell ∈ q_tbl := q_in 476 rfl rfl
set_option maxRecDepth 100000 in
theorem ml_X11_115 : Cond.methodLink RX11 115 yX9_put ∈ q_tbl := q_in 497 rfl rfl
set_option maxRecDepth 100000 in
theorem ml_X11_119 : Cond.methodLink RX11 119 yX4_read ∈ q_tbl := q_in 505 rfl rfl
set_option maxRecDepth 100000 in
theorem ml_X11_123 : Cond.methodLink RX11 123 yX9_clear ∈ q_tbl := q_in 596 rfl rfl
set_option maxRecDepth 100000 in
theorem ml_X11_131 : Cond.methodLink RX11 131 yX10_knows ∈ q_tbl := q_in 604 rfl rfl
set_option maxRecDepth 100000 in
theorem ml_X11_135 : Cond.methodLink RX11 135 yX6_read ∈ q_tbl := q_in 608 rfl rfl
set_option maxRecDepth 100000 in
theorem ml_X11_136 : Cond.methodLink RX11 136 yX10_takePlan ∈ q_tbl := q_in 639 rfl rfl
set_option maxRecDepth 100000 in
theorem ml_X11_140 : Cond.methodLink RX11 140 yX2_knows ∈ q_tbl := q_in 650 rfl rfl
set_option maxRecDepth 100000 in
theorem ml_X11_141 : Cond.methodLink RX11 141 yX0_attempt ∈ q_tbl := q_in 651 rfl rfl
set_option maxRecDepth 100000 in
theorem ml_X11_145 : Cond.methodLink RX11 145 yX11_canDeal ∈ q_tbl := q_in 736 rfl rfl
set_option maxRecDepth 100000 in
theorem ml_X11_149 : Cond.methodLink RX11 149 yX0_buyGo ∈ q_tbl := q_in 740 rfl rfl
set_option maxRecDepth 100000 in
theorem ml_X11_152 : Cond.methodLink RX11 152 yX0_goDays ∈ q_tbl := q_in 754 rfl rfl
set_option maxRecDepth 100000 in
theorem ml_X11_159 : Cond.methodLink RX11 159 yX10_copy ∈ q_tbl := q_in 773 rfl rfl
set_option maxRecDepth 100000 in
theorem ml_X11_163 : Cond.methodLink RX11 163 yX10_stepsLeft ∈ q_tbl := q_in 777 rfl rfl
set_option maxRecDepth 100000 in
theorem ml_X11_166 : Cond.methodLink RX11 166 yX0_cameOfDays ∈ q_tbl := q_in 781 rfl rfl
set_option maxRecDepth 100000 in
theorem ml_X11_187 : Cond.methodLink RX11 187 yX1_findsAlike ∈ q_tbl := q_in 793 rfl rfl
set_option maxRecDepth 100000 in
theorem ml_X11_190 : Cond.methodLink RX11 190 yX0_price ∈ q_tbl := q_in 801 rfl rfl
set_option maxRecDepth 100000 in
theorem ml_X11_193 : Cond.methodLink RX11 193 yX11_canChoose ∈ q_tbl := q_in 806 rfl rfl
set_option maxRecDepth 100000 in
theorem ml_X11_196 : Cond.methodLink RX11 196 yX7_prepare ∈ q_tbl := q_in 812 rfl rfl
set_option maxRecDepth 100000 in
theorem ml_X11_200 : Cond.methodLink RX11 200 yX7_soonestWay ∈ q_tbl := q_in 836 rfl rfl
set_option maxRecDepth 100000 in
theorem ml_X11_204 : Cond.methodLink RX11 204 yX7_findCheapest ∈ q_tbl := q_in 858 rfl rfl
set_option maxRecDepth 100000 in
theorem ml_X11_214 : Cond.methodLink RX11 214 yX2_knowsAll ∈ q_tbl := q_in 811 rfl rfl
set_option maxRecDepth 100000 in
theorem ml_X11_217 : Cond.methodLink RX11 217 yX1_isLoophole ∈ q_tbl := q_in 876 rfl rfl
set_option maxRecDepth 100000 in
theorem ml_X11_220 : Cond.methodLink RX11 220 yJ6_bitCount_0f7a4 ∈ q_tbl := q_in 810 rfl rfl
set_option maxRecDepth 100000 in
theorem ml_X11_225 : Cond.methodLink RX11 225 yX5_read ∈ q_tbl := q_in 884 rfl rfl
set_option maxRecDepth 100000 in
theorem ml_X11_228 : Cond.methodLink RX11 228 yX10_knowsAll ∈ q_tbl := q_in 894 rfl rfl
set_option maxRecDepth 100000 in
theorem ml_X11_229 : Cond.methodLink RX11 229 yX5_takeWorkers ∈ q_tbl := q_in 898 rfl rfl
set_option maxRecDepth 100000 in
theorem ml_X11_232 : Cond.methodLink RX11 232 yX5_solve ∈ q_tbl := q_in 903 rfl rfl
set_option maxRecDepth 100000 in
theorem ml_X11_236 : Cond.methodLink RX11 236 yX5_workerOf ∈ q_tbl := q_in 934 rfl rfl
set_option maxRecDepth 100000 in
theorem ml_X11_239 : Cond.methodLink RX11 239 yX11_isSettled ∈ q_tbl := q_in 942 rfl rfl
set_option maxRecDepth 100000 in
theorem ml_X11_242 : Cond.methodLink RX11 242 yX8_read ∈ q_tbl := q_in 952 rfl rfl
set_option maxRecDepth 100000 in
theorem ml_X11_245 : Cond.methodLink RX11 245 yX8_goThrough ∈ q_tbl := q_in 959 rfl rfl
set_option maxRecDepth 100000 in
theorem ml_X11_255 : Cond.methodLink RX11 255 yX8_tellingPlace ∈ q_tbl := q_in 973 rfl rfl
set_option maxRecDepth 100000 in
theorem ml_X11_259 : Cond.methodLink RX11 259 yX11_isHeap ∈ q_tbl := q_in 986 rfl rfl
set_option maxRecDepth 100000 in
theorem ml_X11_262 : Cond.methodLink RX11 262 yX11_bestMove ∈ q_tbl := q_in 989 rfl rfl
set_option maxRecDepth 100000 in
theorem ml_X11_266 : Cond.methodLink RX11 266 yX9_word ∈ q_tbl := q_in 1011 rfl rfl
set_option maxRecDepth 100000 in
theorem ml_X11_277 : Cond.methodLink RX11 277 yX11_countOfKind ∈ q_tbl := q_in 1020 rfl rfl
set_option maxRecDepth 100000 in
theorem ml_X11_280 : Cond.methodLink RX11 280 yX11_countOfPerson ∈ q_tbl := q_in 1024 rfl rfl
set_option maxRecDepth 100000 in
theorem ml_X11_292 : Cond.methodLink RX11 292 yX10_sumOf ∈ q_tbl := q_in 1028 rfl rfl
set_option maxRecDepth 100000 in
theorem ml_X11_296 : Cond.methodLink RX11 296 yX11_pence ∈ q_tbl := q_in 945 rfl rfl
set_option maxRecDepth 100000 in
theorem ml_X11_300 : Cond.methodLink RX11 300 yX11_nextOneWins ∈ q_tbl := q_in 992 rfl rfl
set_option maxRecDepth 100000 in
theorem ml_X0_25 : Cond.methodLink RX0 25 yX1_alikes ∈ q_tbl := q_in 655 rfl rfl
set_option maxRecDepth 100000 in
theorem ml_X0_31 : Cond.methodLink RX0 31 yX0_forget ∈ q_tbl := q_in 688 rfl rfl
set_option maxRecDepth 100000 in
theorem ml_X0_35 : Cond.methodLink RX0 35 yX10_triesAmong ∈ q_tbl := q_in 710 rfl rfl
set_option maxRecDepth 100000 in
theorem ml_X0_41 : Cond.methodLink RX0 41 yX0_tellAll ∈ q_tbl := q_in 692 rfl rfl
set_option maxRecDepth 100000 in
theorem ml_X0_45 : Cond.methodLink RX0 45 yX1_voidTries ∈ q_tbl := q_in 714 rfl rfl
set_option maxRecDepth 100000 in
theorem ml_X0_52 : Cond.methodLink RX0 52 yX10_addTry ∈ q_tbl := q_in 719 rfl rfl
set_option maxRecDepth 100000 in
theorem ml_X0_62 : Cond.methodLink RX0 62 yX10_hasCounted ∈ q_tbl := q_in 724 rfl rfl
set_option maxRecDepth 100000 in
theorem ml_X0_66 : Cond.methodLink RX0 66 yX10_addCounted ∈ q_tbl := q_in 728 rfl rfl
set_option maxRecDepth 100000 in
theorem ml_X0_69 : Cond.methodLink RX0 69 yX1_amount ∈ q_tbl := q_in 705 rfl rfl
set_option maxRecDepth 100000 in
theorem ml_X0_76 : Cond.methodLink RX0 76 yX0_price ∈ q_tbl := q_in 744 rfl rfl
set_option maxRecDepth 100000 in
theorem ml_X0_84 : Cond.methodLink RX0 84 Lib.Math.min.name ∈ q_tbl := q_in 749 rfl rfl
set_option maxRecDepth 100000 in
theorem ml_X0_107 : Cond.methodLink RX0 107 yX10_knows ∈ q_tbl := q_in 758 rfl rfl
set_option maxRecDepth 100000 in
theorem ml_X0_111 : Cond.methodLink RX0 111 yX0_doSteps ∈ q_tbl := q_in 759 rfl rfl
set_option maxRecDepth 100000 in
theorem ml_X0_127 : Cond.methodLink RX0 127 yX2_knows ∈ q_tbl := q_in 763 rfl rfl
set_option maxRecDepth 100000 in
theorem ml_X0_131 : Cond.methodLink RX0 131 yX0_attempt ∈ q_tbl := q_in 764 rfl rfl
set_option maxRecDepth 100000 in
theorem ml_X0_134 : Cond.methodLink RX0 134 yX0_noteOutcome ∈ q_tbl := q_in 765 rfl rfl
set_option maxRecDepth 100000 in
theorem ml_X0_144 : Cond.methodLink RX0 144 yX1_tellDeed ∈ q_tbl := q_in 696 rfl rfl
set_option maxRecDepth 100000 in
theorem ml_X0_147 : Cond.methodLink RX0 147 yX10_triesByAll ∈ q_tbl := q_in 697 rfl rfl
set_option maxRecDepth 100000 in
theorem ml_X0_154 : Cond.methodLink RX0 154 yX1_tellTry ∈ q_tbl := q_in 701 rfl rfl
set_option maxRecDepth 100000 in
theorem ml_X1_40 : Cond.methodLink RX1 40 yX1_tellDeed ∈ q_tbl := q_in 659 rfl rfl
set_option maxRecDepth 100000 in
theorem ml_X1_44 : Cond.methodLink RX1 44 yX1_isAlike ∈ q_tbl := q_in 667 rfl rfl
set_option maxRecDepth 100000 in
theorem ml_X1_48 : Cond.methodLink RX1 48 yX2_knows ∈ q_tbl := q_in 666 rfl rfl
set_option maxRecDepth 100000 in
theorem ml_X1_51 : Cond.methodLink RX1 51 yJ7_fill_53178 ∈ q_tbl := q_in 663 rfl rfl
set_option maxRecDepth 100000 in
theorem ml_X1_57 : Cond.methodLink RX1 57 yX1_amount ∈ q_tbl := q_in 718 rfl rfl
set_option maxRecDepth 100000 in
theorem ml_X1_74 : Cond.methodLink RX1 74 yX1_run ∈ q_tbl := q_in 677 rfl rfl
set_option maxRecDepth 100000 in
theorem ml_X1_81 : Cond.methodLink RX1 81 Lib.Math.min.name ∈ q_tbl := q_in 709 rfl rfl
set_option maxRecDepth 100000 in
theorem ml_X1_86 : Cond.methodLink RX1 86 Lib.Math.max.name ∈ q_tbl := q_in 685 rfl rfl
set_option maxRecDepth 100000 in
theorem ml_X1_89 : Cond.methodLink RX1 89 yJ6_bitCount_0f7a4 ∈ q_tbl := q_in 671 rfl rfl
set_option maxRecDepth 100000 in
theorem ml_X1_105 : Cond.methodLink RX1 105 yX1_reckon ∈ q_tbl := q_in 681 rfl rfl
set_option maxRecDepth 100000 in
theorem ml_X2_25 : Cond.methodLink RX2 25 yX2_knows ∈ q_tbl := q_in 480 rfl rfl
set_option maxRecDepth 100000 in
theorem ml_X2_29 : Cond.methodLink RX2 29 yX2_knowsAll ∈ q_tbl := q_in 484 rfl rfl
set_option maxRecDepth 100000 in
theorem ml_X4_22 : Cond.methodLink RX4 22 yX3_clear ∈ q_tbl := q_in 509 rfl rfl
set_option maxRecDepth 100000 in
theorem ml_X4_25 : Cond.methodLink RX4 25 yX9_openText ∈ q_tbl := q_in 513 rfl rfl
set_option maxRecDepth 100000 in
theorem ml_X4_31 : Cond.methodLink RX4 31 yX4_readClause ∈ q_tbl := q_in 520 rfl rfl
set_option maxRecDepth 100000 in
theorem ml_X4_35 : Cond.methodLink RX4 35 yX9_takes ∈ q_tbl := q_in 583 rfl rfl
set_option maxRecDepth 100000 in
theorem ml_X4_39 : Cond.methodLink RX4 39 yX9_mustEnd ∈ q_tbl := q_in 592 rfl rfl
set_option maxRecDepth 100000 in
theorem ml_X4_49 : Cond.methodLink RX4 49 yX9_sign ∈ q_tbl := q_in 524 rfl rfl
set_option maxRecDepth 100000 in
theorem ml_X4_56 : Cond.methodLink RX4 56 yX9_fails ∈ q_tbl := q_in 528 rfl rfl
set_option maxRecDepth 100000 in
theorem ml_X4_63 : Cond.methodLink RX4 63 yX4_readSum ∈ q_tbl := q_in 532 rfl rfl
set_option maxRecDepth 100000 in
theorem ml_X4_66 : Cond.methodLink RX4 66 yX9_mustTake ∈ q_tbl := q_in 548 rfl rfl
set_option maxRecDepth 100000 in
theorem ml_X4_69 : Cond.methodLink RX4 69 yX4_readCondition ∈ q_tbl := q_in 571 rfl rfl
set_option maxRecDepth 100000 in
theorem ml_X4_72 : Cond.methodLink RX4 72 yX3_addClause ∈ q_tbl := q_in 588 rfl rfl
set_option maxRecDepth 100000 in
theorem ml_X4_76 : Cond.methodLink RX4 76 yX4_readPart ∈ q_tbl := q_in 575 rfl rfl
set_option maxRecDepth 100000 in
theorem ml_X4_79 : Cond.methodLink RX4 79 yX3_add ∈ q_tbl := q_in 566 rfl rfl
set_option maxRecDepth 100000 in
theorem ml_X4_83 : Cond.methodLink RX4 83 yX3_skipToHere ∈ q_tbl := q_in 584 rfl rfl
set_option maxRecDepth 100000 in
theorem ml_X4_86 : Cond.methodLink RX4 86 yX4_readPiece ∈ q_tbl := q_in 579 rfl rfl
set_option maxRecDepth 100000 in
theorem ml_X4_89 : Cond.methodLink RX4 89 yX4_opens ∈ q_tbl := q_in 544 rfl rfl
set_option maxRecDepth 100000 in
theorem ml_X4_92 : Cond.methodLink RX4 92 yX4_readProduct ∈ q_tbl := q_in 536 rfl rfl
set_option maxRecDepth 100000 in
theorem ml_X4_95 : Cond.methodLink RX4 95 yX4_readFactor ∈ q_tbl := q_in 540 rfl rfl
set_option maxRecDepth 100000 in
theorem ml_X4_98 : Cond.methodLink RX4 98 yX9_digit ∈ q_tbl := q_in 558 rfl rfl
set_option maxRecDepth 100000 in
theorem ml_X4_101 : Cond.methodLink RX4 101 yX4_readNumber ∈ q_tbl := q_in 562 rfl rfl
set_option maxRecDepth 100000 in
theorem ml_X5_43 : Cond.methodLink RX5 43 Lib.Math.min.name ∈ q_tbl := q_in 888 rfl rfl
set_option maxRecDepth 100000 in
theorem ml_X5_53 : Cond.methodLink RX5 53 yX9_at ∈ q_tbl := q_in 889 rfl rfl
set_option maxRecDepth 100000 in
theorem ml_X5_59 : Cond.methodLink RX5 59 yX2_knows ∈ q_tbl := q_in 893 rfl rfl
set_option maxRecDepth 100000 in
theorem ml_X5_68 : Cond.methodLink RX5 68 yJ6_bitCount_0f7a4 ∈ q_tbl := q_in 902 rfl rfl
set_option maxRecDepth 100000 in
theorem ml_X5_73 : Cond.methodLink RX5 73 yX10_copy ∈ q_tbl := q_in 907 rfl rfl
set_option maxRecDepth 100000 in
theorem ml_X5_82 : Cond.methodLink RX5 82 yX1_alikes ∈ q_tbl := q_in 908 rfl rfl
set_option maxRecDepth 100000 in
theorem ml_X5_86 : Cond.methodLink RX5 86 yX5_goThroughSets ∈ q_tbl := q_in 909 rfl rfl
set_option maxRecDepth 100000 in
theorem ml_X5_90 : Cond.methodLink RX5 90 yX5_findBestRow ∈ q_tbl := q_in 924 rfl rfl
set_option maxRecDepth 100000 in
theorem ml_X5_103 : Cond.methodLink RX5 103 yX5_hoursFor ∈ q_tbl := q_in 914 rfl rfl
set_option maxRecDepth 100000 in
theorem ml_X5_109 : Cond.methodLink RX5 109 yX10_hasCounted ∈ q_tbl := q_in 918 rfl rfl
set_option maxRecDepth 100000 in
theorem ml_X5_113 : Cond.methodLink RX5 113 yX10_triesAmong ∈ q_tbl := q_in 919 rfl rfl
set_option maxRecDepth 100000 in
theorem ml_X5_116 : Cond.methodLink RX5 116 yX0_tellAll ∈ q_tbl := q_in 920 rfl rfl
set_option maxRecDepth 100000 in
theorem ml_X5_122 : Cond.methodLink RX5 122 yX1_voidTries ∈ q_tbl := q_in 921 rfl rfl
set_option maxRecDepth 100000 in
theorem ml_X5_126 : Cond.methodLink RX5 126 yX10_addTry ∈ q_tbl := q_in 922 rfl rfl
set_option maxRecDepth 100000 in
theorem ml_X5_130 : Cond.methodLink RX5 130 yX10_addCounted ∈ q_tbl := q_in 923 rfl rfl
set_option maxRecDepth 100000 in
theorem ml_X5_139 : Cond.methodLink RX5 139 yX5_longestOf ∈ q_tbl := q_in 928 rfl rfl
set_option maxRecDepth 100000 in
theorem ml_X5_142 : Cond.methodLink RX5 142 yJ7_fill_53178 ∈ q_tbl := q_in 932 rfl rfl
set_option maxRecDepth 100000 in
theorem ml_X5_148 : Cond.methodLink RX5 148 Lib.Math.max.name ∈ q_tbl := q_in 933 rfl rfl
set_option maxRecDepth 100000 in
theorem ml_X6_22 : Cond.methodLink RX6 22 yX9_openText ∈ q_tbl := q_in 612 rfl rfl
set_option maxRecDepth 100000 in
theorem ml_X6_32 : Cond.methodLink RX6 32 yX6_readSteps ∈ q_tbl := q_in 613 rfl rfl
set_option maxRecDepth 100000 in
theorem ml_X6_36 : Cond.methodLink RX6 36 yX9_mustEnd ∈ q_tbl := q_in 638 rfl rfl
set_option maxRecDepth 100000 in
theorem ml_X6_43 : Cond.methodLink RX6 43 yX6_readStep ∈ q_tbl := q_in 617 rfl rfl
set_option maxRecDepth 100000 in
theorem ml_X6_46 : Cond.methodLink RX6 46 yX9_takes ∈ q_tbl := q_in 628 rfl rfl
set_option maxRecDepth 100000 in
theorem ml_X6_49 : Cond.methodLink RX6 49 yX9_sign ∈ q_tbl := q_in 621 rfl rfl
set_option maxRecDepth 100000 in
theorem ml_X6_53 : Cond.methodLink RX6 53 yX6_readTry ∈ q_tbl := q_in 622 rfl rfl
set_option maxRecDepth 100000 in
theorem ml_X6_59 : Cond.methodLink RX6 59 yX9_fails ∈ q_tbl := q_in 627 rfl rfl
set_option maxRecDepth 100000 in
theorem ml_X6_63 : Cond.methodLink RX6 63 yX9_mustTake ∈ q_tbl := q_in 633 rfl rfl
set_option maxRecDepth 100000 in
theorem ml_X6_66 : Cond.methodLink RX6 66 yX9_digit ∈ q_tbl := q_in 626 rfl rfl
set_option maxRecDepth 100000 in
theorem ml_X6_69 : Cond.methodLink RX6 69 yX6_repeatSteps ∈ q_tbl := q_in 634 rfl rfl
set_option maxRecDepth 100000 in
theorem ml_X6_72 : Cond.methodLink RX6 72 yX6_addStep ∈ q_tbl := q_in 629 rfl rfl
set_option maxRecDepth 100000 in
theorem ml_X7_57 : Cond.methodLink RX7 57 yX1_alikes ∈ q_tbl := q_in 816 rfl rfl
set_option maxRecDepth 100000 in
theorem ml_X7_62 : Cond.methodLink RX7 62 yX10_triesAmong ∈ q_tbl := q_in 817 rfl rfl
set_option maxRecDepth 100000 in
theorem ml_X7_65 : Cond.methodLink RX7 65 yX7_toPlaces ∈ q_tbl := q_in 818 rfl rfl
set_option maxRecDepth 100000 in
theorem ml_X7_74 : Cond.methodLink RX7 74 yX7_lackedPlaces ∈ q_tbl := q_in 822 rfl rfl
set_option maxRecDepth 100000 in
theorem ml_X7_78 : Cond.methodLink RX7 78 yX7_askVoids ∈ q_tbl := q_in 827 rfl rfl
set_option maxRecDepth 100000 in
theorem ml_X7_82 : Cond.methodLink RX7 82 yJ7_fill_53178 ∈ q_tbl := q_in 835 rfl rfl
set_option maxRecDepth 100000 in
theorem ml_X7_88 : Cond.methodLink RX7 88 yX7_bestWay ∈ q_tbl := q_in 840 rfl rfl
set_option maxRecDepth 100000 in
theorem ml_X7_92 : Cond.methodLink RX7 92 yX7_leastPrice ∈ q_tbl := q_in 862 rfl rfl
set_option maxRecDepth 100000 in
theorem ml_X7_102 : Cond.methodLink RX7 102 yX7_tryGoes ∈ q_tbl := q_in 868 rfl rfl
set_option maxRecDepth 100000 in
theorem ml_X7_106 : Cond.methodLink RX7 106 yX10_triesByAll ∈ q_tbl := q_in 831 rfl rfl
set_option maxRecDepth 100000 in
theorem ml_X7_115 : Cond.methodLink RX7 115 yX1_tellDeed ∈ q_tbl := q_in 832 rfl rfl
set_option maxRecDepth 100000 in
theorem ml_X7_125 : Cond.methodLink RX7 125 yX1_tellTry ∈ q_tbl := q_in 833 rfl rfl
set_option maxRecDepth 100000 in
theorem ml_X7_128 : Cond.methodLink RX7 128 yX1_voidTries ∈ q_tbl := q_in 834 rfl rfl
set_option maxRecDepth 100000 in
theorem ml_X7_132 : Cond.methodLink RX7 132 yX10_hasCounted ∈ q_tbl := q_in 826 rfl rfl
set_option maxRecDepth 100000 in
theorem ml_X7_136 : Cond.methodLink RX7 136 yX10_knows ∈ q_tbl := q_in 866 rfl rfl
set_option maxRecDepth 100000 in
theorem ml_X7_140 : Cond.methodLink RX7 140 yX0_price ∈ q_tbl := q_in 867 rfl rfl
set_option maxRecDepth 100000 in
theorem ml_X7_146 : Cond.methodLink RX7 146 Lib.Math.min.name ∈ q_tbl := q_in 852 rfl rfl
set_option maxRecDepth 100000 in
theorem ml_X7_151 : Cond.methodLink RX7 151 yX7_extraAt ∈ q_tbl := q_in 845 rfl rfl
set_option maxRecDepth 100000 in
theorem ml_X7_154 : Cond.methodLink RX7 154 yX7_wouldCount ∈ q_tbl := q_in 848 rfl rfl
set_option maxRecDepth 100000 in
theorem ml_X8_38 : Cond.methodLink RX8 38 Lib.Math.min.name ∈ q_tbl := q_in 956 rfl rfl
set_option maxRecDepth 100000 in
theorem ml_X8_51 : Cond.methodLink RX8 51 yX9_at ∈ q_tbl := q_in 957 rfl rfl
set_option maxRecDepth 100000 in
theorem ml_X8_57 : Cond.methodLink RX8 57 yX2_knows ∈ q_tbl := q_in 958 rfl rfl
set_option maxRecDepth 100000 in
theorem ml_X8_69 : Cond.methodLink RX8 69 yJ7_fill_53178 ∈ q_tbl := q_in 963 rfl rfl
set_option maxRecDepth 100000 in
theorem ml_X8_75 : Cond.methodLink RX8 75 yX1_alikes ∈ q_tbl := q_in 964 rfl rfl
set_option maxRecDepth 100000 in
theorem ml_X8_79 : Cond.methodLink RX8 79 yX8_fits ∈ q_tbl := q_in 965 rfl rfl
set_option maxRecDepth 100000 in
theorem ml_X8_83 : Cond.methodLink RX8 83 yX8_old ∈ q_tbl := q_in 969 rfl rfl
set_option maxRecDepth 100000 in
theorem ml_X8_86 : Cond.methodLink RX8 86 yX8_greaterPart ∈ q_tbl := q_in 977 rfl rfl
set_option maxRecDepth 100000 in
theorem ml_X8_89 : Cond.methodLink RX8 89 Lib.Math.max.name ∈ q_tbl := q_in 981 rfl rfl
set_option maxRecDepth 100000 in
theorem ml_X9_19 : Cond.methodLink RX9 19 yX9_at ∈ q_tbl := q_in 1015 rfl rfl
set_option maxRecDepth 100000 in
theorem ml_X9_23 : Cond.methodLink RX9 23 Lib.Math.min.name ∈ q_tbl := q_in 517 rfl rfl
set_option maxRecDepth 100000 in
theorem ml_X9_38 : Cond.methodLink RX9 38 yX9_sign ∈ q_tbl := q_in 556 rfl rfl
set_option maxRecDepth 100000 in
theorem ml_X9_42 : Cond.methodLink RX9 42 yX9_takes ∈ q_tbl := q_in 552 rfl rfl
set_option maxRecDepth 100000 in
theorem ml_X9_46 : Cond.methodLink RX9 46 yX9_fails ∈ q_tbl := q_in 557 rfl rfl
set_option maxRecDepth 100000 in
theorem ml_X10_36 : Cond.methodLink RX10 36 arraycopyName ∈ q_tbl := q_in 643 rfl rfl
set_option maxRecDepth 100000 in
theorem ml_X10_55 : Cond.methodLink RX10 55 Lib.Math.min.name ∈ q_tbl := q_in 723 rfl rfl
set_option maxRecDepth 100000 in
theorem ml_L_13 : Cond.methodLink RL 13 yX11_kind ∈ q_tbl := q_in 472 rfl rfl
set_option maxRecDepth 100000 in
theorem ml_L_17 : Cond.methodLink RL 17 yX12_kind ∈ q_tbl := q_in 1250 rfl rfl
set_option maxRecDepth 100000 in
theorem ml_L_18 : Cond.methodLink RL 18 yX11_person ∈ q_tbl := q_in 488 rfl rfl
set_option maxRecDepth 100000 in
theorem ml_L_22 : Cond.methodLink RL 22 yX12_person ∈ q_tbl := q_in 1264 rfl rfl
set_option maxRecDepth 100000 in
theorem ml_L_23 : Cond.methodLink RL 23 yX11_feed ∈ q_tbl := q_in 493 rfl rfl
set_option maxRecDepth 100000 in
theorem ml_L_27 : Cond.methodLink RL 27 yX12_feed ∈ q_tbl := q_in 1269 rfl rfl
set_option maxRecDepth 100000 in
theorem ml_L_28 : Cond.methodLink RL 28 yX11_law ∈ q_tbl := q_in 501 rfl rfl
set_option maxRecDepth 100000 in
theorem ml_L_32 : Cond.methodLink RL 32 yX12_law ∈ q_tbl := q_in 1277 rfl rfl
set_option maxRecDepth 100000 in
theorem ml_L_33 : Cond.methodLink RL 33 yX11_plan ∈ q_tbl := q_in 600 rfl rfl
set_option maxRecDepth 100000 in
theorem ml_L_37 : Cond.methodLink RL 37 yX12_plan ∈ q_tbl := q_in 1450 rfl rfl
set_option maxRecDepth 100000 in
theorem ml_L_38 : Cond.methodLink RL 38 yX11_tries ∈ q_tbl := q_in 646 rfl rfl
set_option maxRecDepth 100000 in
theorem ml_L_42 : Cond.methodLink RL 42 yX12_tries ∈ q_tbl := q_in 1385 rfl rfl
set_option maxRecDepth 100000 in
theorem ml_L_43 : Cond.methodLink RL 43 yX11_buys ∈ q_tbl := q_in 732 rfl rfl
set_option maxRecDepth 100000 in
theorem ml_L_46 : Cond.methodLink RL 46 yX12_buys ∈ q_tbl := q_in 1439 rfl rfl
set_option maxRecDepth 100000 in
theorem ml_L_47 : Cond.methodLink RL 47 yX11_days ∈ q_tbl := q_in 750 rfl rfl
set_option maxRecDepth 100000 in
theorem ml_L_50 : Cond.methodLink RL 50 yX12_days ∈ q_tbl := q_in 1462 rfl rfl
set_option maxRecDepth 100000 in
theorem ml_L_51 : Cond.methodLink RL 51 yX11_tried ∈ q_tbl := q_in 769 rfl rfl
set_option maxRecDepth 100000 in
theorem ml_L_54 : Cond.methodLink RL 54 yX12_tried ∈ q_tbl := q_in 1478 rfl rfl
set_option maxRecDepth 100000 in
theorem ml_L_55 : Cond.methodLink RL 55 yX11_has ∈ q_tbl := q_in 785 rfl rfl
set_option maxRecDepth 100000 in
theorem ml_L_58 : Cond.methodLink RL 58 yX12_has ∈ q_tbl := q_in 1443 rfl rfl
set_option maxRecDepth 100000 in
theorem ml_L_59 : Cond.methodLink RL 59 yX11_alike ∈ q_tbl := q_in 789 rfl rfl
set_option maxRecDepth 100000 in
theorem ml_L_62 : Cond.methodLink RL 62 yX12_alike ∈ q_tbl := q_in 1363 rfl rfl
set_option maxRecDepth 100000 in
theorem ml_L_63 : Cond.methodLink RL 63 yX11_cost ∈ q_tbl := q_in 797 rfl rfl
set_option maxRecDepth 100000 in
theorem ml_L_66 : Cond.methodLink RL 66 yX12_cost ∈ q_tbl := q_in 1431 rfl rfl
set_option maxRecDepth 100000 in
theorem ml_L_67 : Cond.methodLink RL 67 yX11_soonest ∈ q_tbl := q_in 802 rfl rfl
set_option maxRecDepth 100000 in
theorem ml_L_70 : Cond.methodLink RL 70 yX12_soonest ∈ q_tbl := q_in 1482 rfl rfl
set_option maxRecDepth 100000 in
theorem ml_L_71 : Cond.methodLink RL 71 yX11_cheapest ∈ q_tbl := q_in 854 rfl rfl
set_option maxRecDepth 100000 in
theorem ml_L_74 : Cond.methodLink RL 74 yX12_cheapest ∈ q_tbl := q_in 1543 rfl rfl
set_option maxRecDepth 100000 in
theorem ml_L_75 : Cond.methodLink RL 75 yX11_loophole ∈ q_tbl := q_in 872 rfl rfl
set_option maxRecDepth 100000 in
theorem ml_L_78 : Cond.methodLink RL 78 yX12_loophole ∈ q_tbl := q_in 1559 rfl rfl
set_option maxRecDepth 100000 in
theorem ml_L_79 : Cond.methodLink RL 79 yX11_jobs ∈ q_tbl := q_in 880 rfl rfl
set_option maxRecDepth 100000 in
theorem ml_L_82 : Cond.methodLink RL 82 yX12_jobs ∈ q_tbl := q_in 1567 rfl rfl
set_option maxRecDepth 100000 in
theorem ml_L_83 : Cond.methodLink RL 83 yX11_rivals ∈ q_tbl := q_in 938 rfl rfl
set_option maxRecDepth 100000 in
theorem ml_L_86 : Cond.methodLink RL 86 yX12_rivals ∈ q_tbl := q_in 1598 rfl rfl
set_option maxRecDepth 100000 in
theorem ml_L_87 : Cond.methodLink RL 87 yX11_histories ∈ q_tbl := q_in 948 rfl rfl
set_option maxRecDepth 100000 in
theorem ml_L_91 : Cond.methodLink RL 91 yX12_histories ∈ q_tbl := q_in 1605 rfl rfl
set_option maxRecDepth 100000 in
theorem ml_L_92 : Cond.methodLink RL 92 yX11_game ∈ q_tbl := q_in 982 rfl rfl
set_option maxRecDepth 100000 in
theorem ml_L_96 : Cond.methodLink RL 96 yX12_game ∈ q_tbl := q_in 1629 rfl rfl
set_option maxRecDepth 100000 in
theorem ml_L_97 : Cond.methodLink RL 97 yX11_court ∈ q_tbl := q_in 995 rfl rfl
set_option maxRecDepth 100000 in
theorem ml_L_101 : Cond.methodLink RL 101 yX12_court ∈ q_tbl := q_in 1650 rfl rfl
set_option maxRecDepth 100000 in
theorem ml_L_102 : Cond.methodLink RL 102 yX11_keep ∈ q_tbl := q_in 999 rfl rfl
set_option maxRecDepth 100000 in
theorem ml_L_106 : Cond.methodLink RL 106 yX12_keep ∈ q_tbl := q_in 1654 rfl rfl
set_option maxRecDepth 100000 in
theorem ml_L_107 : Cond.methodLink RL 107 yX11_undo ∈ q_tbl := q_in 1003 rfl rfl
set_option maxRecDepth 100000 in
theorem ml_L_111 : Cond.methodLink RL 111 yX12_undo ∈ q_tbl := q_in 1658 rfl rfl
set_option maxRecDepth 100000 in
theorem ml_L_112 : Cond.methodLink RL 112 yX11_check ∈ q_tbl := q_in 1007 rfl rfl
set_option maxRecDepth 100000 in
theorem ml_L_115 : Cond.methodLink RL 115 yX12_check ∈ q_tbl := q_in 1662 rfl rfl
set_option maxRecDepth 100000 in
theorem ml_L_116 : Cond.methodLink RL 116 yX11_count ∈ q_tbl := q_in 1016 rfl rfl
set_option maxRecDepth 100000 in
theorem ml_L_119 : Cond.methodLink RL 119 yX12_count ∈ q_tbl := q_in 1670 rfl rfl
set_option maxRecDepth 100000 in
theorem ml_X12_142 : Cond.methodLink RX12 142 yX12_laysWays ∈ q_tbl := q_in 1039 rfl rfl
set_option maxRecDepth 100000 in
theorem ml_X12_149 : Cond.methodLink RX12 149 yX12_has0 ∈ q_tbl := q_in 1261 rfl rfl
set_option maxRecDepth 100000 in
theorem ml_X12_153 : Cond.methodLink RX12 153 yX12_in ∈ q_tbl := q_in 1254 rfl rfl
set_option maxRecDepth 100000 in
theorem ml_X12_157 : Cond.methodLink RX12 157 yX12_isKind ∈ q_tbl := q_in 1257 rfl rfl
set_option maxRecDepth 100000 in
theorem ml_X12_165 : Cond.methodLink RX12 165 yX12_types ∈ q_tbl := q_in 1273 rfl rfl
set_option maxRecDepth 100000 in
theorem ml_X12_175 : Cond.methodLink RX12 175 yX12_here ∈ q_tbl := q_in 1285 rfl rfl
set_option maxRecDepth 100000 in
theorem ml_X12_182 : Cond.methodLink RX12 182 yX12_wrongAt ∈ q_tbl := q_in 1292 rfl rfl
set_option maxRecDepth 100000 in
theorem ml_X12_188 : Cond.methodLink RX12 188 yX12_isDigit ∈ q_tbl := q_in 1309 rfl rfl
set_option maxRecDepth 100000 in
theorem ml_X12_202 : Cond.methodLink RX12 202 yX12_waitTop ∈ q_tbl := q_in 1331 rfl rfl
set_option maxRecDepth 100000 in
theorem ml_X12_205 : Cond.methodLink RX12 205 yX12_notes ∈ q_tbl := q_in 1317 rfl rfl
set_option maxRecDepth 100000 in
theorem ml_X12_209 : Cond.methodLink RX12 209 yX12_opens ∈ q_tbl := q_in 1304 rfl rfl
set_option maxRecDepth 100000 in
theorem ml_X12_212 : Cond.methodLink RX12 212 yX12_readsNumber ∈ q_tbl := q_in 1313 rfl rfl
set_option maxRecDepth 100000 in
theorem ml_X12_215 : Cond.methodLink RX12 215 yX12_factOf ∈ q_tbl := q_in 1321 rfl rfl
set_option maxRecDepth 100000 in
theorem ml_X12_219 : Cond.methodLink RX12 219 yX12_readsFactor ∈ q_tbl := q_in 1300 rfl rfl
set_option maxRecDepth 100000 in
theorem ml_X12_222 : Cond.methodLink RX12 222 yX12_sumSign ∈ q_tbl := q_in 1324 rfl rfl
set_option maxRecDepth 100000 in
theorem ml_X12_225 : Cond.methodLink RX12 225 yX12_closesSums ∈ q_tbl := q_in 1327 rfl rfl
set_option maxRecDepth 100000 in
theorem ml_X12_229 : Cond.methodLink RX12 229 yX12_hasOpenSum ∈ q_tbl := q_in 1335 rfl rfl
set_option maxRecDepth 100000 in
theorem ml_X12_232 : Cond.methodLink RX12 232 yX12_readsSum ∈ q_tbl := q_in 1296 rfl rfl
set_option maxRecDepth 100000 in
theorem ml_X12_235 : Cond.methodLink RX12 235 yX12_endsPiece ∈ q_tbl := q_in 1347 rfl rfl
set_option maxRecDepth 100000 in
theorem ml_X12_238 : Cond.methodLink RX12 238 yX12_readsCompared ∈ q_tbl := q_in 1343 rfl rfl
set_option maxRecDepth 100000 in
theorem ml_X12_241 : Cond.methodLink RX12 241 yX12_lands ∈ q_tbl := q_in 1351 rfl rfl
set_option maxRecDepth 100000 in
theorem ml_X12_244 : Cond.methodLink RX12 244 yX12_jumps ∈ q_tbl := q_in 1355 rfl rfl
set_option maxRecDepth 100000 in
theorem ml_X12_247 : Cond.methodLink RX12 247 yX12_isClause ∈ q_tbl := q_in 1289 rfl rfl
set_option maxRecDepth 100000 in
theorem ml_X12_253 : Cond.methodLink RX12 253 yX12_readsCondition ∈ q_tbl := q_in 1339 rfl rfl
set_option maxRecDepth 100000 in
theorem ml_X12_256 : Cond.methodLink RX12 256 yX12_readsClause ∈ q_tbl := q_in 1281 rfl rfl
set_option maxRecDepth 100000 in
theorem ml_X12_259 : Cond.methodLink RX12 259 yX12_takes ∈ q_tbl := q_in 1359 rfl rfl
set_option maxRecDepth 100000 in
theorem ml_X12_265 : Cond.methodLink RX12 265 yX12_reckon ∈ q_tbl := q_in 1382 rfl rfl
set_option maxRecDepth 100000 in
theorem ml_X12_269 : Cond.methodLink RX12 269 yX12_comesTo ∈ q_tbl := q_in 1378 rfl rfl
set_option maxRecDepth 100000 in
theorem ml_X12_273 : Cond.methodLink RX12 273 yX12_feelsKind ∈ q_tbl := q_in 1371 rfl rfl
set_option maxRecDepth 100000 in
theorem ml_X12_276 : Cond.methodLink RX12 276 yX12_bits ∈ q_tbl := q_in 1375 rfl rfl
set_option maxRecDepth 100000 in
theorem ml_X12_279 : Cond.methodLink RX12 279 yX12_isLike ∈ q_tbl := q_in 1367 rfl rfl
set_option maxRecDepth 100000 in
theorem ml_X12_282 : Cond.methodLink RX12 282 yX12_at ∈ q_tbl := q_in 1401 rfl rfl
set_option maxRecDepth 100000 in
theorem ml_X12_285 : Cond.methodLink RX12 285 yX12_allTries ∈ q_tbl := q_in 1408 rfl rfl
set_option maxRecDepth 100000 in
theorem ml_X12_288 : Cond.methodLink RX12 288 yX12_feels ∈ q_tbl := q_in 1404 rfl rfl
set_option maxRecDepth 100000 in
theorem ml_X12_292 : Cond.methodLink RX12 292 yX12_byLaw ∈ q_tbl := q_in 1412 rfl rfl
set_option maxRecDepth 100000 in
theorem ml_X12_295 : Cond.methodLink RX12 295 yX12_forgets ∈ q_tbl := q_in 1397 rfl rfl
set_option maxRecDepth 100000 in
theorem ml_X12_298 : Cond.methodLink RX12 298 yX12_oldOnes ∈ q_tbl := q_in 1416 rfl rfl
set_option maxRecDepth 100000 in
theorem ml_X12_301 : Cond.methodLink RX12 301 yX12_voidFor ∈ q_tbl := q_in 1420 rfl rfl
set_option maxRecDepth 100000 in
theorem ml_X12_304 : Cond.methodLink RX12 304 yX12_hasNeeds ∈ q_tbl := q_in 1424 rfl rfl
set_option maxRecDepth 100000 in
theorem ml_X12_307 : Cond.methodLink RX12 307 yX12_min ∈ q_tbl := q_in 1428 rfl rfl
set_option maxRecDepth 100000 in
theorem ml_X12_310 : Cond.methodLink RX12 310 yX12_isPerson ∈ q_tbl := q_in 1389 rfl rfl
set_option maxRecDepth 100000 in
theorem ml_X12_313 : Cond.methodLink RX12 313 yX12_triesNow ∈ q_tbl := q_in 1393 rfl rfl
set_option maxRecDepth 100000 in
theorem ml_X12_316 : Cond.methodLink RX12 316 yX12_costOf ∈ q_tbl := q_in 1435 rfl rfl
set_option maxRecDepth 100000 in
theorem ml_X12_319 : Cond.methodLink RX12 319 yX12_copies ∈ q_tbl := q_in 1447 rfl rfl
set_option maxRecDepth 100000 in
theorem ml_X12_329 : Cond.methodLink RX12 329 yX12_endsRound ∈ q_tbl := q_in 1458 rfl rfl
set_option maxRecDepth 100000 in
theorem ml_X12_332 : Cond.methodLink RX12 332 yX12_readsStep ∈ q_tbl := q_in 1454 rfl rfl
set_option maxRecDepth 100000 in
theorem ml_X12_353 : Cond.methodLink RX12 353 yX12_notesTry ∈ q_tbl := q_in 1474 rfl rfl
set_option maxRecDepth 100000 in
theorem ml_X12_356 : Cond.methodLink RX12 356 yX12_dayOf ∈ q_tbl := q_in 1470 rfl rfl
set_option maxRecDepth 100000 in
theorem ml_X12_359 : Cond.methodLink RX12 359 yX12_daysGo ∈ q_tbl := q_in 1466 rfl rfl
set_option maxRecDepth 100000 in
theorem ml_X12_368 : Cond.methodLink RX12 368 yX12_areCounted ∈ q_tbl := q_in 1527 rfl rfl
set_option maxRecDepth 100000 in
theorem ml_X12_371 : Cond.methodLink RX12 371 yX12_stateNow ∈ q_tbl := q_in 1539 rfl rfl
set_option maxRecDepth 100000 in
theorem ml_X12_374 : Cond.methodLink RX12 374 yX12_goesNow ∈ q_tbl := q_in 1519 rfl rfl
set_option maxRecDepth 100000 in
theorem ml_X12_377 : Cond.methodLink RX12 377 yX12_wouldCount ∈ q_tbl := q_in 1523 rfl rfl
set_option maxRecDepth 100000 in
theorem ml_X12_380 : Cond.methodLink RX12 380 yX12_wayWith ∈ q_tbl := q_in 1531 rfl rfl
set_option maxRecDepth 100000 in
theorem ml_X12_383 : Cond.methodLink RX12 383 yX12_marks ∈ q_tbl := q_in 1535 rfl rfl
set_option maxRecDepth 100000 in
theorem ml_X12_386 : Cond.methodLink RX12 386 yX12_areSome ∈ q_tbl := q_in 1486 rfl rfl
set_option maxRecDepth 100000 in
theorem ml_X12_389 : Cond.methodLink RX12 389 yX12_laysOwn ∈ q_tbl := q_in 1490 rfl rfl
set_option maxRecDepth 100000 in
theorem ml_X12_392 : Cond.methodLink RX12 392 yX12_statesAll ∈ q_tbl := q_in 1494 rfl rfl
set_option maxRecDepth 100000 in
theorem ml_X12_395 : Cond.methodLink RX12 395 yX12_placeOf ∈ q_tbl := q_in 1498 rfl rfl
set_option maxRecDepth 100000 in
theorem ml_X12_399 : Cond.methodLink RX12 399 yX12_takesState ∈ q_tbl := q_in 1503 rfl rfl
set_option maxRecDepth 100000 in
theorem ml_X12_402 : Cond.methodLink RX12 402 yX12_hoursNow ∈ q_tbl := q_in 1507 rfl rfl
set_option maxRecDepth 100000 in
theorem ml_X12_405 : Cond.methodLink RX12 405 yX12_madeNow ∈ q_tbl := q_in 1511 rfl rfl
set_option maxRecDepth 100000 in
theorem ml_X12_408 : Cond.methodLink RX12 408 yX12_spreads ∈ q_tbl := q_in 1515 rfl rfl
set_option maxRecDepth 100000 in
theorem ml_X12_411 : Cond.methodLink RX12 411 yX12_leastPrice ∈ q_tbl := q_in 1547 rfl rfl
set_option maxRecDepth 100000 in
theorem ml_X12_414 : Cond.methodLink RX12 414 yX12_marksBought ∈ q_tbl := q_in 1551 rfl rfl
set_option maxRecDepth 100000 in
theorem ml_X12_417 : Cond.methodLink RX12 417 yX12_coinsNow ∈ q_tbl := q_in 1555 rfl rfl
set_option maxRecDepth 100000 in
theorem ml_X12_420 : Cond.methodLink RX12 420 yX12_finds ∈ q_tbl := q_in 1563 rfl rfl
set_option maxRecDepth 100000 in
theorem ml_X12_426 : Cond.methodLink RX12 426 yX12_whoDoes ∈ q_tbl := q_in 1583 rfl rfl
set_option maxRecDepth 100000 in
theorem ml_X12_429 : Cond.methodLink RX12 429 yX12_jobNeeds ∈ q_tbl := q_in 1587 rfl rfl
set_option maxRecDepth 100000 in
theorem ml_X12_432 : Cond.methodLink RX12 432 yX12_jobCounts ∈ q_tbl := q_in 1591 rfl rfl
set_option maxRecDepth 100000 in
theorem ml_X12_438 : Cond.methodLink RX12 438 yX12_hoursBy ∈ q_tbl := q_in 1579 rfl rfl
set_option maxRecDepth 100000 in
theorem ml_X12_441 : Cond.methodLink RX12 441 yX12_max ∈ q_tbl := q_in 1595 rfl rfl
set_option maxRecDepth 100000 in
theorem ml_X12_444 : Cond.methodLink RX12 444 yX12_takesJobs ∈ q_tbl := q_in 1571 rfl rfl
set_option maxRecDepth 100000 in
theorem ml_X12_447 : Cond.methodLink RX12 447 yX12_longestBy ∈ q_tbl := q_in 1575 rfl rfl
set_option maxRecDepth 100000 in
theorem ml_X12_450 : Cond.methodLink RX12 450 yX12_gainOf ∈ q_tbl := q_in 1602 rfl rfl
set_option maxRecDepth 100000 in
theorem ml_X12_457 : Cond.methodLink RX12 457 yX12_begins ∈ q_tbl := q_in 1617 rfl rfl
set_option maxRecDepth 100000 in
theorem ml_X12_460 : Cond.methodLink RX12 460 yX12_pastCounts ∈ q_tbl := q_in 1621 rfl rfl
set_option maxRecDepth 100000 in
theorem ml_X12_463 : Cond.methodLink RX12 463 yX12_goesWith ∈ q_tbl := q_in 1613 rfl rfl
set_option maxRecDepth 100000 in
theorem ml_X12_466 : Cond.methodLink RX12 466 yX12_takesPast ∈ q_tbl := q_in 1609 rfl rfl
set_option maxRecDepth 100000 in
theorem ml_X12_469 : Cond.methodLink RX12 469 yX12_greaterBy ∈ q_tbl := q_in 1625 rfl rfl
set_option maxRecDepth 100000 in
theorem ml_X12_472 : Cond.methodLink RX12 472 yX12_heapUnit ∈ q_tbl := q_in 1647 rfl rfl
set_option maxRecDepth 100000 in
theorem ml_X12_475 : Cond.methodLink RX12 475 yX12_gameState ∈ q_tbl := q_in 1633 rfl rfl
set_option maxRecDepth 100000 in
theorem ml_X12_479 : Cond.methodLink RX12 479 yX12_heapIn ∈ q_tbl := q_in 1640 rfl rfl
set_option maxRecDepth 100000 in
theorem ml_X12_482 : Cond.methodLink RX12 482 yX12_wins ∈ q_tbl := q_in 1643 rfl rfl
set_option maxRecDepth 100000 in
theorem ml_X12_486 : Cond.methodLink RX12 486 yX12_winningMove ∈ q_tbl := q_in 1636 rfl rfl
set_option maxRecDepth 100000 in
theorem ml_X12_493 : Cond.methodLink RX12 493 yX12_tapeNumber ∈ q_tbl := q_in 1666 rfl rfl
set_option maxRecDepth 100000 in
theorem ml_X12_496 : Cond.methodLink RX12 496 yX12_sumOf ∈ q_tbl := q_in 1674 rfl rfl
set_option maxRecDepth 100000 in
theorem kc_X11_103 : Cond.constant RX11 103 99999 ∈ q_tbl := q_in 492 rfl rfl
set_option maxRecDepth 100000 in
theorem kc_X11_203 : Cond.constant RX11 203 1048576 ∈ q_tbl := q_in 853 rfl rfl
set_option maxRecDepth 100000 in
theorem kc_X0_83 : Cond.constant RX0 83 99999 ∈ q_tbl := q_in 748 rfl rfl
set_option maxRecDepth 100000 in
theorem kc_X5_102 : Cond.constant RX5 102 1048576 ∈ q_tbl := q_in 913 rfl rfl
set_option maxRecDepth 100000 in
theorem kc_X7_95 : Cond.constant RX7 95 1048576 ∈ q_tbl := q_in 844 rfl rfl
set_option maxRecDepth 100000 in
theorem kc_X12_107 : Cond.constant RX12 107 160000 ∈ q_tbl := q_in 1038 rfl rfl
set_option maxRecDepth 100000 in
theorem kc_X12_161 : Cond.constant RX12 161 99999 ∈ q_tbl := q_in 1268 rfl rfl
set_option maxRecDepth 100000 in
theorem kc_X12_195 : Cond.constant RX12 195 1048576 ∈ q_tbl := q_in 1308 rfl rfl
set_option maxRecDepth 100000 in
theorem kc_X12_398 : Cond.constant RX12 398 1000000000 ∈ q_tbl := q_in 1502 rfl rfl
set_option maxRecDepth 100000 in
theorem kc_J6_265 : Cond.constant RJ6 265 1431655765 ∈ q_tbl := q_in 674 rfl rfl
set_option maxRecDepth 100000 in
theorem kc_J6_266 : Cond.constant RJ6 266 858993459 ∈ q_tbl := q_in 675 rfl rfl
set_option maxRecDepth 100000 in
theorem kc_J6_267 : Cond.constant RJ6 267 252645135 ∈ q_tbl := q_in 676 rfl rfl
set_option maxRecDepth 100000 in
theorem ac_nat : Cond.native arraycopyName ∈ q_tbl := q_in 645 rfl rfl
set_option maxRecDepth 100000 in
theorem ac_stat : Cond.static arraycopyName ∈ q_tbl := q_in 644 rfl rfl
set_option maxRecDepth 100000 in
theorem ac_ini : Cond.initialized "java/lang/System" ∈ q_tbl := q_in 15 rfl rfl
set_option maxRecDepth 100000 in
theorem mm_max_c : Cond.code Lib.Math.max.name Lib.Math.max.code 2 (some .int) ∈ q_tbl := q_in 687 (by decide +kernel) rfl
set_option maxRecDepth 100000 in
theorem mm_max_s : Cond.static Lib.Math.max.name ∈ q_tbl := q_in 686 (by decide +kernel) rfl
set_option maxRecDepth 100000 in
theorem mm_min_c : Cond.code Lib.Math.min.name Lib.Math.min.code 2 (some .int) ∈ q_tbl := q_in 519 (by decide +kernel) rfl
set_option maxRecDepth 100000 in
theorem mm_min_s : Cond.static Lib.Math.min.name ∈ q_tbl := q_in 518 (by decide +kernel) rfl
set_option maxRecDepth 100000 in
theorem mm_i : Cond.initialized "java/lang/Math" ∈ q_tbl := q_in 14 (by decide +kernel) rfl
